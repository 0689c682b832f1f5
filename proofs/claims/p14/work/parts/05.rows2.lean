set_option maxRecDepth 20000 in
theorem gX4_many_X4_checkArgument : GoodIn wsX4_many (va_wsS RX4 19 yX4_checkArgument wsX4_checkArgument) := goodIn_app (goodIn_of _ (by decide +kernel)) ggX4_many_X4_checkArgument
set_option maxRecDepth 20000 in
theorem ggX4_many_X1_figuresDone : GoodIn wsX4_many wsX1_figuresDone := goodIn_r _ [20, 21, 22, 23, 24, 25, 26, 27, 28, 29, 78, 79, 80, 81, 82, 83, 84, 85, 86, 87, 88, 89, 90, 91, 92, 93, 94, 95, 96, 97, 98, 99] (by decide +kernel) (by decide +kernel)
set_option maxRecDepth 20000 in
theorem gX4_many_X1_figuresDone : GoodIn wsX4_many (wsV RX4 216 RX1 yX1_figuresDone wsX1_figuresDone) := goodIn_app (goodIn_of _ (by decide +kernel)) ggX4_many_X1_figuresDone
set_option maxRecDepth 20000 in
theorem ggX4_many_X1_figuresIn : GoodIn wsX4_many wsX1_figuresIn := goodIn_r _ [33, 21, 22, 34, 78, 79, 80, 81, 82, 83, 84, 85, 86, 87, 88, 89, 90, 91, 92, 93, 94, 95, 96, 97, 98, 99] (by decide +kernel) (by decide +kernel)
set_option maxRecDepth 20000 in
theorem gX4_many_X1_figuresIn : GoodIn wsX4_many (wsV RX4 165 RX1 yX1_figuresIn wsX1_figuresIn) := goodIn_app (goodIn_of _ (by decide +kernel)) ggX4_many_X1_figuresIn
set_option maxRecDepth 20000 in
theorem ggX4_many_X1_allDue : GoodIn wsX4_many wsX1_allDue := goodIn_r _ [38, 39, 40, 41, 78, 79, 80, 81, 82, 83, 84, 85, 86, 87, 88, 100, 101, 102, 103, 104, 105, 106, 107] (by decide +kernel) (by decide +kernel)
set_option maxRecDepth 20000 in
theorem gX4_many_X1_allDue : GoodIn wsX4_many (wsV RX4 219 RX1 yX1_allDue wsX1_allDue) := goodIn_app (goodIn_of _ (by decide +kernel)) ggX4_many_X1_allDue
set_option maxRecDepth 20000 in
theorem ggX4_many_X1_allHands : GoodIn wsX4_many wsX1_allHands := goodIn_r _ [45, 21, 22, 46, 78, 79, 80, 81, 82, 83, 84, 85, 86, 87, 88, 89, 90, 91, 92, 93, 94, 95, 96, 97, 98, 99] (by decide +kernel) (by decide +kernel)
set_option maxRecDepth 20000 in
theorem gX4_many_X1_allHands : GoodIn wsX4_many (wsV RX4 98 RX1 yX1_allHands wsX1_allHands) := goodIn_app (goodIn_of _ (by decide +kernel)) ggX4_many_X1_allHands
set_option maxRecDepth 20000 in
theorem ggX4_many_X1_drawsIn : GoodIn wsX4_many wsX1_drawsIn := goodIn_r _ [50, 21, 22, 34, 51, 52, 53, 26, 54, 55, 56, 57, 58, 59, 60, 29, 61, 62, 63, 64, 65, 66, 67, 68, 24, 25, 27, 28, 69, 70, 71, 72, 73, 74, 75, 78, 79, 80, 81, 82, 83, 84, 85, 86, 87, 88, 89, 90, 91, 92, 93, 94, 95, 96, 97, 98, 99, 100, 101, 102, 103, 104, 105, 106, 107] (by decide +kernel) (by decide +kernel)
set_option maxRecDepth 20000 in
theorem gX4_many_X1_drawsIn : GoodIn wsX4_many (wsV RX4 210 RX1 yX1_drawsIn wsX1_drawsIn) := goodIn_app (goodIn_of _ (by decide +kernel)) ggX4_many_X1_drawsIn
theorem dX4_many_0 : decode cX4_many 0 = .ok (.iload_n 1, 1) := by decide +kernel
theorem dX4_many_1 : decode cX4_many 1 = .ok (.iconst 0, 1) := by decide +kernel
theorem dX4_many_2 : decode cX4_many 2 = .ok (.bipush 14, 2) := by decide +kernel
theorem dX4_many_4 : decode cX4_many 4 = .ok (.invokestatic 19, 3) := by decide +kernel
theorem dX4_many_7 : decode cX4_many 7 = .ok (.iload_n 1, 1) := by decide +kernel
theorem dX4_many_8 : decode cX4_many 8 = .ok (.tableswitch 194 0 13 #[72, 80, 88, 96, 104, 114, 126, 138, 146, 154, 162, 170, 178, 186], 72) := by decide +kernel
theorem dX4_many_80 : decode cX4_many 80 = .ok (.aload_n 0, 1) := by decide +kernel
theorem dX4_many_81 : decode cX4_many 81 = .ok (.getfield 10, 3) := by decide +kernel
theorem dX4_many_84 : decode cX4_many 84 = .ok (.getfield 213, 3) := by decide +kernel
theorem dX4_many_87 : decode cX4_many 87 = .ok (.ireturn, 1) := by decide +kernel
theorem dX4_many_88 : decode cX4_many 88 = .ok (.aload_n 0, 1) := by decide +kernel
theorem dX4_many_89 : decode cX4_many 89 = .ok (.getfield 10, 3) := by decide +kernel
theorem dX4_many_92 : decode cX4_many 92 = .ok (.getfield 23, 3) := by decide +kernel
theorem dX4_many_95 : decode cX4_many 95 = .ok (.ireturn, 1) := by decide +kernel
theorem dX4_many_96 : decode cX4_many 96 = .ok (.aload_n 0, 1) := by decide +kernel
theorem dX4_many_97 : decode cX4_many 97 = .ok (.getfield 10, 3) := by decide +kernel
theorem dX4_many_100 : decode cX4_many 100 = .ok (.getfield 88, 3) := by decide +kernel
theorem dX4_many_103 : decode cX4_many 103 = .ok (.ireturn, 1) := by decide +kernel
theorem dX4_many_104 : decode cX4_many 104 = .ok (.aload_n 0, 1) := by decide +kernel
theorem dX4_many_105 : decode cX4_many 105 = .ok (.getfield 10, 3) := by decide +kernel
theorem dX4_many_108 : decode cX4_many 108 = .ok (.invokevirtual 216, 3) := by decide +kernel
theorem dX4_many_111 : decode cX4_many 111 = .ok (.ireturn, 1) := by decide +kernel
theorem dX4_many_112 : decode cX4_many 112 = .ok (.aload_n 0, 1) := by decide +kernel
theorem dX4_many_113 : decode cX4_many 113 = .ok (.getfield 10, 3) := by decide +kernel
theorem dX4_many_116 : decode cX4_many 116 = .ok (.iconst 0, 1) := by decide +kernel
theorem dX4_many_117 : decode cX4_many 117 = .ok (.iconst 4, 1) := by decide +kernel
theorem dX4_many_118 : decode cX4_many 118 = .ok (.invokevirtual 165, 3) := by decide +kernel
theorem dX4_many_121 : decode cX4_many 121 = .ok (.ireturn, 1) := by decide +kernel
theorem dX4_many_122 : decode cX4_many 122 = .ok (.aload_n 0, 1) := by decide +kernel
theorem dX4_many_123 : decode cX4_many 123 = .ok (.getfield 10, 3) := by decide +kernel
theorem dX4_many_126 : decode cX4_many 126 = .ok (.bipush 6, 2) := by decide +kernel
theorem dX4_many_128 : decode cX4_many 128 = .ok (.bipush 6, 2) := by decide +kernel
theorem dX4_many_130 : decode cX4_many 130 = .ok (.invokevirtual 165, 3) := by decide +kernel
theorem dX4_many_133 : decode cX4_many 133 = .ok (.ireturn, 1) := by decide +kernel
theorem dX4_many_134 : decode cX4_many 134 = .ok (.aload_n 0, 1) := by decide +kernel
theorem dX4_many_135 : decode cX4_many 135 = .ok (.getfield 10, 3) := by decide +kernel
theorem dX4_many_138 : decode cX4_many 138 = .ok (.bipush 7, 2) := by decide +kernel
theorem dX4_many_140 : decode cX4_many 140 = .ok (.bipush 7, 2) := by decide +kernel
theorem dX4_many_142 : decode cX4_many 142 = .ok (.invokevirtual 165, 3) := by decide +kernel
theorem dX4_many_145 : decode cX4_many 145 = .ok (.ireturn, 1) := by decide +kernel
theorem dX4_many_146 : decode cX4_many 146 = .ok (.aload_n 0, 1) := by decide +kernel
theorem dX4_many_147 : decode cX4_many 147 = .ok (.getfield 10, 3) := by decide +kernel
theorem dX4_many_150 : decode cX4_many 150 = .ok (.getfield 150, 3) := by decide +kernel
theorem dX4_many_153 : decode cX4_many 153 = .ok (.ireturn, 1) := by decide +kernel
theorem dX4_many_154 : decode cX4_many 154 = .ok (.aload_n 0, 1) := by decide +kernel
theorem dX4_many_155 : decode cX4_many 155 = .ok (.getfield 10, 3) := by decide +kernel
theorem dX4_many_158 : decode cX4_many 158 = .ok (.getfield 85, 3) := by decide +kernel
theorem dX4_many_161 : decode cX4_many 161 = .ok (.ireturn, 1) := by decide +kernel
theorem dX4_many_162 : decode cX4_many 162 = .ok (.aload_n 0, 1) := by decide +kernel
theorem dX4_many_163 : decode cX4_many 163 = .ok (.getfield 10, 3) := by decide +kernel
theorem dX4_many_166 : decode cX4_many 166 = .ok (.getfield 134, 3) := by decide +kernel
theorem dX4_many_169 : decode cX4_many 169 = .ok (.ireturn, 1) := by decide +kernel
theorem dX4_many_170 : decode cX4_many 170 = .ok (.aload_n 0, 1) := by decide +kernel
theorem dX4_many_171 : decode cX4_many 171 = .ok (.getfield 10, 3) := by decide +kernel
theorem dX4_many_174 : decode cX4_many 174 = .ok (.invokevirtual 219, 3) := by decide +kernel
theorem dX4_many_177 : decode cX4_many 177 = .ok (.ireturn, 1) := by decide +kernel
theorem dX4_many_178 : decode cX4_many 178 = .ok (.aload_n 0, 1) := by decide +kernel
theorem dX4_many_179 : decode cX4_many 179 = .ok (.getfield 10, 3) := by decide +kernel
theorem dX4_many_182 : decode cX4_many 182 = .ok (.getfield 222, 3) := by decide +kernel
theorem dX4_many_185 : decode cX4_many 185 = .ok (.ireturn, 1) := by decide +kernel
theorem dX4_many_186 : decode cX4_many 186 = .ok (.aload_n 0, 1) := by decide +kernel
theorem dX4_many_187 : decode cX4_many 187 = .ok (.getfield 10, 3) := by decide +kernel
theorem dX4_many_190 : decode cX4_many 190 = .ok (.invokevirtual 98, 3) := by decide +kernel
theorem dX4_many_193 : decode cX4_many 193 = .ok (.ireturn, 1) := by decide +kernel
theorem dX4_many_194 : decode cX4_many 194 = .ok (.aload_n 0, 1) := by decide +kernel
theorem dX4_many_195 : decode cX4_many 195 = .ok (.getfield 10, 3) := by decide +kernel
theorem dX4_many_198 : decode cX4_many 198 = .ok (.getfield 183, 3) := by decide +kernel
theorem dX4_many_201 : decode cX4_many 201 = .ok (.ireturn, 1) := by decide +kernel
theorem dX4_many_202 : decode cX4_many 202 = .ok (.aload_n 0, 1) := by decide +kernel
theorem dX4_many_203 : decode cX4_many 203 = .ok (.getfield 10, 3) := by decide +kernel
theorem dX4_many_206 : decode cX4_many 206 = .ok (.iconst 0, 1) := by decide +kernel
theorem dX4_many_207 : decode cX4_many 207 = .ok (.iconst 4, 1) := by decide +kernel
theorem dX4_many_208 : decode cX4_many 208 = .ok (.invokevirtual 210, 3) := by decide +kernel
theorem dX4_many_211 : decode cX4_many 211 = .ok (.ireturn, 1) := by decide +kernel
set_option maxRecDepth 20000 in
theorem ggX4_meanLikeness_X1_figuresIn : GoodIn wsX4_meanLikeness wsX1_figuresIn := goodIn_r _ [6, 7, 8, 9, 42, 43, 44, 45, 46, 47, 48, 49, 50, 51, 52, 53, 54, 55, 56, 57, 58, 59, 60, 61, 62, 63] (by decide +kernel) (by decide +kernel)
set_option maxRecDepth 20000 in
theorem gX4_meanLikeness_X1_figuresIn : GoodIn wsX4_meanLikeness (wsV RX4 165 RX1 yX1_figuresIn wsX1_figuresIn) := goodIn_app (goodIn_of _ (by decide +kernel)) ggX4_meanLikeness_X1_figuresIn
set_option maxRecDepth 20000 in
theorem ggX4_meanLikeness_X1_likenessShown : GoodIn wsX4_meanLikeness wsX1_likenessShown := goodIn_r _ [13, 7, 8, 14, 15, 16, 17, 18, 19, 20, 21, 22, 23, 24, 25, 26, 27, 28, 29, 30, 31, 32, 33, 34, 35, 36, 37, 38, 39, 42, 43, 44, 45, 46, 47, 48, 49, 50, 51, 52, 53, 54, 55, 56, 57, 58, 59, 60, 61, 62, 63, 64, 65, 66, 67, 68, 69, 70, 71] (by decide +kernel) (by decide +kernel)
set_option maxRecDepth 20000 in
theorem gX4_meanLikeness_X1_likenessShown : GoodIn wsX4_meanLikeness (wsV RX4 225 RX1 yX1_likenessShown wsX1_likenessShown) := goodIn_app (goodIn_of _ (by decide +kernel)) ggX4_meanLikeness_X1_likenessShown
theorem dX4_meanLikeness_0 : decode cX4_meanLikeness 0 = .ok (.aload_n 0, 1) := by decide +kernel
theorem dX4_meanLikeness_1 : decode cX4_meanLikeness 1 = .ok (.getfield 10, 3) := by decide +kernel
theorem dX4_meanLikeness_4 : decode cX4_meanLikeness 4 = .ok (.iconst 0, 1) := by decide +kernel
theorem dX4_meanLikeness_5 : decode cX4_meanLikeness 5 = .ok (.iconst 4, 1) := by decide +kernel
theorem dX4_meanLikeness_6 : decode cX4_meanLikeness 6 = .ok (.invokevirtual 165, 3) := by decide +kernel
theorem dX4_meanLikeness_9 : decode cX4_meanLikeness 9 = .ok (.istore_n 1, 1) := by decide +kernel
theorem dX4_meanLikeness_10 : decode cX4_meanLikeness 10 = .ok (.iload_n 1, 1) := by decide +kernel
theorem dX4_meanLikeness_11 : decode cX4_meanLikeness 11 = .ok (.ifCond .ne 5, 3) := by decide +kernel
theorem dX4_meanLikeness_14 : decode cX4_meanLikeness 14 = .ok (.dconst 0, 1) := by decide +kernel
theorem dX4_meanLikeness_15 : decode cX4_meanLikeness 15 = .ok (.dreturn, 1) := by decide +kernel
theorem dX4_meanLikeness_16 : decode cX4_meanLikeness 16 = .ok (.aload_n 0, 1) := by decide +kernel
theorem dX4_meanLikeness_17 : decode cX4_meanLikeness 17 = .ok (.getfield 10, 3) := by decide +kernel
theorem dX4_meanLikeness_20 : decode cX4_meanLikeness 20 = .ok (.invokevirtual 225, 3) := by decide +kernel
theorem dX4_meanLikeness_23 : decode cX4_meanLikeness 23 = .ok (.i2d, 1) := by decide +kernel
theorem dX4_meanLikeness_24 : decode cX4_meanLikeness 24 = .ok (.iload_n 1, 1) := by decide +kernel
theorem dX4_meanLikeness_25 : decode cX4_meanLikeness 25 = .ok (.i2d, 1) := by decide +kernel
theorem dX4_meanLikeness_26 : decode cX4_meanLikeness 26 = .ok (.ddiv, 1) := by decide +kernel
theorem dX4_meanLikeness_27 : decode cX4_meanLikeness 27 = .ok (.dreturn, 1) := by decide +kernel
set_option maxRecDepth 20000 in
theorem ggX4_wouldFame_X1_personAt : GoodIn wsX4_wouldFame wsX1_personAt := goodIn_ca (goodIn_r _ [6, 7, 8, 9, 10, 11, 12, 13, 35, 36, 37, 38, 39, 40, 41, 42, 43, 44, 45] (by decide +kernel) (by decide +kernel)) (goodIn_sub (fun _ h => List.mem_cons_of_mem _ (List.mem_append_left _ (List.mem_append_right _ h))) (by decide +kernel))
set_option maxRecDepth 20000 in
theorem gX4_wouldFame_X1_personAt : GoodIn wsX4_wouldFame (wsV RX4 35 RX1 yX1_personAt wsX1_personAt) := goodIn_app (goodIn_of _ (by decide +kernel)) ggX4_wouldFame_X1_personAt
set_option maxRecDepth 20000 in
theorem ggX4_wouldFame_X4_checkIndex : GoodIn wsX4_wouldFame wsX4_checkIndex := goodIn_ca (goodIn_r _ [11, 12, 13] (by decide +kernel) (by decide +kernel)) (goodIn_sub (fun _ h => List.mem_cons_of_mem _ (List.mem_append_left _ (List.mem_append_right _ h))) (by decide +kernel))
set_option maxRecDepth 20000 in
theorem gX4_wouldFame_X4_checkIndex : GoodIn wsX4_wouldFame (va_wsS RX4 39 yX4_checkIndex wsX4_checkIndex) := goodIn_app (goodIn_of _ (by decide +kernel)) ggX4_wouldFame_X4_checkIndex
set_option maxRecDepth 20000 in
theorem ggX4_wouldFame_X4_checkArgument : GoodIn wsX4_wouldFame wsX4_checkArgument := goodIn_ca (goodIn_r _ [17, 18, 19] (by decide +kernel) (by decide +kernel)) (goodIn_sub (fun _ h => List.mem_cons_of_mem _ (List.mem_append_right _ h)) (by decide +kernel))
set_option maxRecDepth 20000 in
theorem gX4_wouldFame_X4_checkArgument : GoodIn wsX4_wouldFame (va_wsS RX4 19 yX4_checkArgument wsX4_checkArgument) := goodIn_app (goodIn_of _ (by decide +kernel)) ggX4_wouldFame_X4_checkArgument
set_option maxRecDepth 20000 in
theorem ggX4_wouldFame_X2_fameBehind : GoodIn wsX4_wouldFame wsX2_fameBehind := goodIn_r _ [24, 25, 26, 27, 28, 23, 29, 30, 31, 32, 46, 47, 48, 49, 50, 51, 52, 53] (by decide +kernel) (by decide +kernel)
set_option maxRecDepth 20000 in
theorem gX4_wouldFame_X2_fameBehind : GoodIn wsX4_wouldFame (wsV RX4 228 RX2 yX2_fameBehind wsX2_fameBehind) := goodIn_app (goodIn_of _ (by decide +kernel)) ggX4_wouldFame_X2_fameBehind
theorem dX4_wouldFame_0 : decode cX4_wouldFame 0 = .ok (.aload_n 0, 1) := by decide +kernel
theorem dX4_wouldFame_1 : decode cX4_wouldFame 1 = .ok (.getfield 10, 3) := by decide +kernel
theorem dX4_wouldFame_4 : decode cX4_wouldFame 4 = .ok (.iload_n 1, 1) := by decide +kernel
theorem dX4_wouldFame_5 : decode cX4_wouldFame 5 = .ok (.invokevirtual 35, 3) := by decide +kernel
theorem dX4_wouldFame_8 : decode cX4_wouldFame 8 = .ok (.astore 4, 2) := by decide +kernel
theorem dX4_wouldFame_10 : decode cX4_wouldFame 10 = .ok (.iload_n 2, 1) := by decide +kernel
theorem dX4_wouldFame_11 : decode cX4_wouldFame 11 = .ok (.iconst 3, 1) := by decide +kernel
theorem dX4_wouldFame_12 : decode cX4_wouldFame 12 = .ok (.invokestatic 39, 3) := by decide +kernel
theorem dX4_wouldFame_15 : decode cX4_wouldFame 15 = .ok (.iload_n 3, 1) := by decide +kernel
theorem dX4_wouldFame_16 : decode cX4_wouldFame 16 = .ok (.iconst 0, 1) := by decide +kernel
theorem dX4_wouldFame_17 : decode cX4_wouldFame 17 = .ok (.bipush 60, 2) := by decide +kernel
theorem dX4_wouldFame_19 : decode cX4_wouldFame 19 = .ok (.invokestatic 19, 3) := by decide +kernel
theorem dX4_wouldFame_22 : decode cX4_wouldFame 22 = .ok (.aload 4, 2) := by decide +kernel
theorem dX4_wouldFame_24 : decode cX4_wouldFame 24 = .ok (.iload_n 2, 1) := by decide +kernel
theorem dX4_wouldFame_25 : decode cX4_wouldFame 25 = .ok (.iload_n 3, 1) := by decide +kernel
theorem dX4_wouldFame_26 : decode cX4_wouldFame 26 = .ok (.invokevirtual 228, 3) := by decide +kernel
theorem dX4_wouldFame_29 : decode cX4_wouldFame 29 = .ok (.ireturn, 1) := by decide +kernel
set_option maxRecDepth 20000 in
theorem ggX4_readyIn_X1_figureAt : GoodIn wsX4_readyIn wsX1_figureAt := goodIn_ca (goodIn_r _ [6, 7, 8, 9, 10, 11, 12, 13, 29, 30, 31, 32, 33, 34, 35, 36, 37, 38, 39] (by decide +kernel) (by decide +kernel)) (goodIn_sub (fun _ h => List.mem_cons_of_mem _ (List.mem_append_right _ h)) (by decide +kernel))
set_option maxRecDepth 20000 in
theorem gX4_readyIn_X1_figureAt : GoodIn wsX4_readyIn (wsV RX4 94 RX1 yX1_figureAt wsX1_figureAt) := goodIn_app (goodIn_of _ (by decide +kernel)) ggX4_readyIn_X1_figureAt
set_option maxRecDepth 20000 in
theorem ggX4_readyIn_X0_daysTillDone : GoodIn wsX4_readyIn wsX0_daysTillDone := goodIn_r _ [18, 19, 20, 21, 22, 23, 24, 25, 17, 26, 40, 41, 42, 43, 44, 45, 46, 47, 48, 49, 50] (by decide +kernel) (by decide +kernel)
set_option maxRecDepth 20000 in
theorem gX4_readyIn_X0_daysTillDone : GoodIn wsX4_readyIn (wsV RX4 231 RX0 yX0_daysTillDone wsX0_daysTillDone) := goodIn_app (goodIn_of _ (by decide +kernel)) ggX4_readyIn_X0_daysTillDone
theorem dX4_readyIn_0 : decode cX4_readyIn 0 = .ok (.aload_n 0, 1) := by decide +kernel
theorem dX4_readyIn_1 : decode cX4_readyIn 1 = .ok (.getfield 10, 3) := by decide +kernel
theorem dX4_readyIn_4 : decode cX4_readyIn 4 = .ok (.iload_n 1, 1) := by decide +kernel
theorem dX4_readyIn_5 : decode cX4_readyIn 5 = .ok (.invokevirtual 94, 3) := by decide +kernel
theorem dX4_readyIn_8 : decode cX4_readyIn 8 = .ok (.invokevirtual 231, 3) := by decide +kernel
theorem dX4_readyIn_11 : decode cX4_readyIn 11 = .ok (.ireturn, 1) := by decide +kernel
set_option maxRecDepth 20000 in
theorem ggX4_meltsIn_X1_figureAt : GoodIn wsX4_meltsIn wsX1_figureAt := goodIn_ca (goodIn_r _ [8, 9, 10, 11, 12, 13, 14, 15, 171, 172, 173, 174, 175, 176, 177, 178, 179, 180, 181] (by decide +kernel) (by decide +kernel)) (goodIn_sub (fun _ h => List.mem_cons_of_mem _ (List.mem_append_left _ (List.mem_append_right _ h))) (by decide +kernel))
set_option maxRecDepth 20000 in
theorem gX4_meltsIn_X1_figureAt : GoodIn wsX4_meltsIn (wsV RX4 94 RX1 yX1_figureAt wsX1_figureAt) := goodIn_app (goodIn_of _ (by decide +kernel)) ggX4_meltsIn_X1_figureAt
set_option maxRecDepth 20000 in
theorem ggX4_meltsIn_X4_checkArgument : GoodIn wsX4_meltsIn wsX4_checkArgument := goodIn_ca (goodIn_r _ [18, 19, 20] (by decide +kernel) (by decide +kernel)) (goodIn_sub (fun _ h => List.mem_cons_of_mem _ (List.mem_append_right _ h)) (by decide +kernel))
set_option maxRecDepth 20000 in
theorem gX4_meltsIn_X4_checkArgument : GoodIn wsX4_meltsIn (va_wsS RX4 19 yX4_checkArgument wsX4_checkArgument) := goodIn_app (goodIn_of _ (by decide +kernel)) ggX4_meltsIn_X4_checkArgument
set_option maxRecDepth 20000 in
theorem ggX4_meltsIn_X0_isShown : GoodIn wsX4_meltsIn wsX0_isShown := goodIn_r _ [25, 26, 160, 161, 162, 163, 164, 165, 166, 167, 168, 169, 170] (by decide +kernel) (by decide +kernel)
set_option maxRecDepth 20000 in
theorem gX4_meltsIn_X0_isShown : GoodIn wsX4_meltsIn (wsV RX4 177 RX0 yX0_isShown wsX0_isShown) := goodIn_app (goodIn_of _ (by decide +kernel)) ggX4_meltsIn_X0_isShown
set_option maxRecDepth 20000 in
theorem ggX4_meltsIn_X1_copyFrom : GoodIn wsX4_meltsIn wsX1_copyFrom := goodIn_ca (goodIn_r _ [30, 31, 9, 32, 33, 34, 35, 36, 37, 38, 10, 39, 40, 41, 42, 43, 44, 45, 46, 47, 48, 49, 50, 51, 52, 53, 54, 55, 56, 57, 58, 59, 7, 60, 11, 12, 13, 14, 15, 61, 62, 63, 24, 64, 65, 66, 67, 68, 69, 70, 71, 26, 72, 73, 74, 171, 172, 173, 174, 175, 176, 177, 178, 179, 180, 181, 160, 161, 162, 163, 164, 165, 166, 167, 168, 169, 170, 182, 183, 184, 185, 186, 187, 188, 189, 190, 191] (by decide +kernel) (by decide +kernel)) (goodIn_sub (fun _ h => List.mem_cons_of_mem _ (List.mem_append_left _ (List.mem_append_right _ h))) (by decide +kernel))
set_option maxRecDepth 20000 in
theorem gX4_meltsIn_X1_copyFrom : GoodIn wsX4_meltsIn (wsV RX4 234 RX1 yX1_copyFrom wsX1_copyFrom) := goodIn_app (goodIn_of _ (by decide +kernel)) ggX4_meltsIn_X1_copyFrom
set_option maxRecDepth 20000 in
theorem ggX4_meltsIn_X1_passDay : GoodIn wsX4_meltsIn wsX1_passDay := goodIn_ca (goodIn_r _ [78, 33, 36, 37, 34, 79, 80, 81, 7, 82, 31, 38, 83, 84, 85, 48, 86, 50, 51, 87, 88, 89, 90, 91, 92, 93, 94, 95, 96, 9, 10, 97, 98, 99, 24, 100, 67, 26, 68, 69, 65, 70, 101, 102, 103, 104, 53, 52, 105, 106, 107, 108, 109, 110, 111, 112, 113, 114, 115, 22, 23, 25, 116, 117, 118, 119, 71, 66, 120, 121, 122, 123, 124, 125, 126, 127, 128, 129, 130, 131, 43, 132, 133, 134, 135, 136, 32, 42, 11, 12, 13, 14, 15, 137, 138, 139, 140, 74, 141, 142, 143, 144, 145, 146, 147, 148, 149, 150, 151, 152, 153, 154, 155, 156, 157, 72, 73, 171, 172, 173, 174, 175, 176, 177, 178, 179, 180, 181, 182, 183, 184, 185, 186, 187, 188, 189, 160, 161, 162, 163, 164, 165, 166, 167, 168, 169, 170, 190, 191] (by decide +kernel) (by decide +kernel)) (goodIn_sub (fun _ h => List.mem_cons_of_mem _ (List.mem_append_left _ (List.mem_append_right _ h))) (by decide +kernel))
set_option maxRecDepth 20000 in
theorem gX4_meltsIn_X1_passDay : GoodIn wsX4_meltsIn (wsV RX4 186 RX1 yX1_passDay wsX1_passDay) := goodIn_app (goodIn_of _ (by decide +kernel)) ggX4_meltsIn_X1_passDay
theorem dX4_meltsIn_0 : decode cX4_meltsIn 0 = .ok (.aload_n 0, 1) := by decide +kernel
theorem dX4_meltsIn_1 : decode cX4_meltsIn 1 = .ok (.getfield 10, 3) := by decide +kernel
theorem dX4_meltsIn_4 : decode cX4_meltsIn 4 = .ok (.iload_n 1, 1) := by decide +kernel
theorem dX4_meltsIn_5 : decode cX4_meltsIn 5 = .ok (.invokevirtual 94, 3) := by decide +kernel
theorem dX4_meltsIn_8 : decode cX4_meltsIn 8 = .ok (.astore 4, 2) := by decide +kernel
theorem dX4_meltsIn_10 : decode cX4_meltsIn 10 = .ok (.iload_n 2, 1) := by decide +kernel
theorem dX4_meltsIn_11 : decode cX4_meltsIn 11 = .ok (.iconst 0, 1) := by decide +kernel
theorem dX4_meltsIn_12 : decode cX4_meltsIn 12 = .ok (.sipush 2000, 3) := by decide +kernel
theorem dX4_meltsIn_15 : decode cX4_meltsIn 15 = .ok (.invokestatic 19, 3) := by decide +kernel
theorem dX4_meltsIn_18 : decode cX4_meltsIn 18 = .ok (.iload_n 3, 1) := by decide +kernel
theorem dX4_meltsIn_19 : decode cX4_meltsIn 19 = .ok (.iconst 0, 1) := by decide +kernel
theorem dX4_meltsIn_20 : decode cX4_meltsIn 20 = .ok (.bipush 40, 2) := by decide +kernel
theorem dX4_meltsIn_22 : decode cX4_meltsIn 22 = .ok (.invokestatic 19, 3) := by decide +kernel
theorem dX4_meltsIn_25 : decode cX4_meltsIn 25 = .ok (.aload 4, 2) := by decide +kernel
theorem dX4_meltsIn_27 : decode cX4_meltsIn 27 = .ok (.invokevirtual 177, 3) := by decide +kernel
theorem dX4_meltsIn_30 : decode cX4_meltsIn 30 = .ok (.ifCond .ne 5, 3) := by decide +kernel
theorem dX4_meltsIn_33 : decode cX4_meltsIn 33 = .ok (.iconst (-1), 1) := by decide +kernel
theorem dX4_meltsIn_34 : decode cX4_meltsIn 34 = .ok (.ireturn, 1) := by decide +kernel
theorem dX4_meltsIn_35 : decode cX4_meltsIn 35 = .ok (.aload_n 0, 1) := by decide +kernel
theorem dX4_meltsIn_36 : decode cX4_meltsIn 36 = .ok (.getfield 16, 3) := by decide +kernel
theorem dX4_meltsIn_39 : decode cX4_meltsIn 39 = .ok (.aload_n 0, 1) := by decide +kernel
theorem dX4_meltsIn_40 : decode cX4_meltsIn 40 = .ok (.getfield 10, 3) := by decide +kernel
theorem dX4_meltsIn_43 : decode cX4_meltsIn 43 = .ok (.invokevirtual 234, 3) := by decide +kernel
theorem dX4_meltsIn_46 : decode cX4_meltsIn 46 = .ok (.aload_n 0, 1) := by decide +kernel
theorem dX4_meltsIn_47 : decode cX4_meltsIn 47 = .ok (.getfield 16, 3) := by decide +kernel
theorem dX4_meltsIn_50 : decode cX4_meltsIn 50 = .ok (.iload_n 1, 1) := by decide +kernel
theorem dX4_meltsIn_51 : decode cX4_meltsIn 51 = .ok (.invokevirtual 94, 3) := by decide +kernel
theorem dX4_meltsIn_54 : decode cX4_meltsIn 54 = .ok (.astore 5, 2) := by decide +kernel
theorem dX4_meltsIn_56 : decode cX4_meltsIn 56 = .ok (.iconst 1, 1) := by decide +kernel
theorem dX4_meltsIn_57 : decode cX4_meltsIn 57 = .ok (.istore 6, 2) := by decide +kernel
theorem dX4_meltsIn_59 : decode cX4_meltsIn 59 = .ok (.iload 6, 2) := by decide +kernel
theorem dX4_meltsIn_61 : decode cX4_meltsIn 61 = .ok (.bipush 60, 2) := by decide +kernel
theorem dX4_meltsIn_63 : decode cX4_meltsIn 63 = .ok (.if_icmp .gt 32, 3) := by decide +kernel
theorem dX4_meltsIn_66 : decode cX4_meltsIn 66 = .ok (.aload_n 0, 1) := by decide +kernel
theorem dX4_meltsIn_67 : decode cX4_meltsIn 67 = .ok (.getfield 16, 3) := by decide +kernel
theorem dX4_meltsIn_70 : decode cX4_meltsIn 70 = .ok (.iload_n 2, 1) := by decide +kernel
theorem dX4_meltsIn_71 : decode cX4_meltsIn 71 = .ok (.iload_n 3, 1) := by decide +kernel
theorem dX4_meltsIn_72 : decode cX4_meltsIn 72 = .ok (.invokevirtual 186, 3) := by decide +kernel
theorem dX4_meltsIn_75 : decode cX4_meltsIn 75 = .ok (.pop, 1) := by decide +kernel
theorem dX4_meltsIn_76 : decode cX4_meltsIn 76 = .ok (.aload 5, 2) := by decide +kernel
theorem dX4_meltsIn_78 : decode cX4_meltsIn 78 = .ok (.getfield 110, 3) := by decide +kernel
theorem dX4_meltsIn_81 : decode cX4_meltsIn 81 = .ok (.bipush 7, 2) := by decide +kernel
theorem dX4_meltsIn_83 : decode cX4_meltsIn 83 = .ok (.if_icmp .ne 6, 3) := by decide +kernel
theorem dX4_meltsIn_86 : decode cX4_meltsIn 86 = .ok (.iload 6, 2) := by decide +kernel
theorem dX4_meltsIn_88 : decode cX4_meltsIn 88 = .ok (.ireturn, 1) := by decide +kernel
theorem dX4_meltsIn_89 : decode cX4_meltsIn 89 = .ok (.iinc 6 1, 3) := by decide +kernel
theorem dX4_meltsIn_92 : decode cX4_meltsIn 92 = .ok (.goto (-33), 3) := by decide +kernel
theorem dX4_meltsIn_95 : decode cX4_meltsIn 95 = .ok (.iconst (-1), 1) := by decide +kernel
theorem dX4_meltsIn_96 : decode cX4_meltsIn 96 = .ok (.ireturn, 1) := by decide +kernel
set_option maxRecDepth 20000 in
theorem ggX4_bestNext_X1_personAt : GoodIn wsX4_bestNext wsX1_personAt := goodIn_ca (goodIn_r _ [8, 9, 10, 11, 12, 13, 14, 15, 45, 46, 47, 48, 49, 50, 51, 52, 53, 54, 55] (by decide +kernel) (by decide +kernel)) (goodIn_sub (fun _ h => List.mem_cons_of_mem _ (List.mem_append_right _ h)) (by decide +kernel))
set_option maxRecDepth 20000 in
theorem gX4_bestNext_X1_personAt : GoodIn wsX4_bestNext (wsV RX4 35 RX1 yX1_personAt wsX1_personAt) := goodIn_app (goodIn_of _ (by decide +kernel)) ggX4_bestNext_X1_personAt
set_option maxRecDepth 20000 in
theorem ggX4_bestNext_X1_hasFigureOf : GoodIn wsX4_bestNext wsX1_hasFigureOf := goodIn_r _ [19, 20, 21, 22, 23, 45, 46, 47, 48, 49, 50, 51, 52, 53, 54, 55, 64, 65, 66, 67, 68, 69, 70, 71, 72, 73, 74] (by decide +kernel) (by decide +kernel)
set_option maxRecDepth 20000 in
theorem gX4_bestNext_X1_hasFigureOf : GoodIn wsX4_bestNext (wsV RX4 238 RX1 yX1_hasFigureOf wsX1_hasFigureOf) := goodIn_app (goodIn_of _ (by decide +kernel)) ggX4_bestNext_X1_hasFigureOf
set_option maxRecDepth 20000 in
theorem ggX4_bestNext_X2_fameBehind : GoodIn wsX4_bestNext wsX2_fameBehind := goodIn_r _ [28, 29, 30, 31, 32, 27, 33, 34, 35, 36, 56, 57, 58, 59, 60, 61, 62, 63] (by decide +kernel) (by decide +kernel)
set_option maxRecDepth 20000 in
theorem gX4_bestNext_X2_fameBehind : GoodIn wsX4_bestNext (wsV RX4 228 RX2 yX2_fameBehind wsX2_fameBehind) := goodIn_app (goodIn_of _ (by decide +kernel)) ggX4_bestNext_X2_fameBehind
set_option maxRecDepth 20000 in
theorem ggX4_bestNext_X2_doubt : GoodIn wsX4_bestNext wsX2_doubt := goodIn_r _ [40, 41, 42, 56, 57, 58, 59, 60, 61, 62, 63] (by decide +kernel) (by decide +kernel)
set_option maxRecDepth 20000 in
theorem gX4_bestNext_X2_doubt : GoodIn wsX4_bestNext (wsV RX4 189 RX2 yX2_doubt wsX2_doubt) := goodIn_app (goodIn_of _ (by decide +kernel)) ggX4_bestNext_X2_doubt
theorem dX4_bestNext_0 : decode cX4_bestNext 0 = .ok (.iconst (-1), 1) := by decide +kernel
theorem dX4_bestNext_1 : decode cX4_bestNext 1 = .ok (.istore_n 1, 1) := by decide +kernel
theorem dX4_bestNext_2 : decode cX4_bestNext 2 = .ok (.iconst 0, 1) := by decide +kernel
theorem dX4_bestNext_3 : decode cX4_bestNext 3 = .ok (.istore_n 2, 1) := by decide +kernel
theorem dX4_bestNext_4 : decode cX4_bestNext 4 = .ok (.iconst 0, 1) := by decide +kernel
theorem dX4_bestNext_5 : decode cX4_bestNext 5 = .ok (.istore_n 3, 1) := by decide +kernel
theorem dX4_bestNext_6 : decode cX4_bestNext 6 = .ok (.iconst 0, 1) := by decide +kernel
theorem dX4_bestNext_7 : decode cX4_bestNext 7 = .ok (.istore 4, 2) := by decide +kernel
theorem dX4_bestNext_9 : decode cX4_bestNext 9 = .ok (.iload 4, 2) := by decide +kernel
theorem dX4_bestNext_11 : decode cX4_bestNext 11 = .ok (.aload_n 0, 1) := by decide +kernel
theorem dX4_bestNext_12 : decode cX4_bestNext 12 = .ok (.getfield 10, 3) := by decide +kernel
theorem dX4_bestNext_15 : decode cX4_bestNext 15 = .ok (.getfield 23, 3) := by decide +kernel
theorem dX4_bestNext_18 : decode cX4_bestNext 18 = .ok (.if_icmp .ge 92, 3) := by decide +kernel
theorem dX4_bestNext_21 : decode cX4_bestNext 21 = .ok (.aload_n 0, 1) := by decide +kernel
theorem dX4_bestNext_22 : decode cX4_bestNext 22 = .ok (.getfield 10, 3) := by decide +kernel
theorem dX4_bestNext_25 : decode cX4_bestNext 25 = .ok (.iload 4, 2) := by decide +kernel
theorem dX4_bestNext_27 : decode cX4_bestNext 27 = .ok (.invokevirtual 35, 3) := by decide +kernel
theorem dX4_bestNext_30 : decode cX4_bestNext 30 = .ok (.astore 5, 2) := by decide +kernel
theorem dX4_bestNext_32 : decode cX4_bestNext 32 = .ok (.aload 5, 2) := by decide +kernel
theorem dX4_bestNext_34 : decode cX4_bestNext 34 = .ok (.getfield 56, 3) := by decide +kernel
theorem dX4_bestNext_37 : decode cX4_bestNext 37 = .ok (.ifCond .eq 67, 3) := by decide +kernel
theorem dX4_bestNext_40 : decode cX4_bestNext 40 = .ok (.aload_n 0, 1) := by decide +kernel
theorem dX4_bestNext_41 : decode cX4_bestNext 41 = .ok (.getfield 10, 3) := by decide +kernel
theorem dX4_bestNext_44 : decode cX4_bestNext 44 = .ok (.aload 5, 2) := by decide +kernel
theorem dX4_bestNext_46 : decode cX4_bestNext 46 = .ok (.invokevirtual 238, 3) := by decide +kernel
theorem dX4_bestNext_49 : decode cX4_bestNext 49 = .ok (.ifCond .eq 6, 3) := by decide +kernel
theorem dX4_bestNext_52 : decode cX4_bestNext 52 = .ok (.goto 52, 3) := by decide +kernel
theorem dX4_bestNext_55 : decode cX4_bestNext 55 = .ok (.aload 5, 2) := by decide +kernel
theorem dX4_bestNext_57 : decode cX4_bestNext 57 = .ok (.iconst 0, 1) := by decide +kernel
theorem dX4_bestNext_58 : decode cX4_bestNext 58 = .ok (.bipush 6, 2) := by decide +kernel
theorem dX4_bestNext_60 : decode cX4_bestNext 60 = .ok (.invokevirtual 228, 3) := by decide +kernel
theorem dX4_bestNext_63 : decode cX4_bestNext 63 = .ok (.istore 6, 2) := by decide +kernel
theorem dX4_bestNext_65 : decode cX4_bestNext 65 = .ok (.aload 5, 2) := by decide +kernel
theorem dX4_bestNext_67 : decode cX4_bestNext 67 = .ok (.invokevirtual 189, 3) := by decide +kernel
theorem dX4_bestNext_70 : decode cX4_bestNext 70 = .ok (.istore 7, 2) := by decide +kernel
theorem dX4_bestNext_72 : decode cX4_bestNext 72 = .ok (.iload_n 1, 1) := by decide +kernel
theorem dX4_bestNext_73 : decode cX4_bestNext 73 = .ok (.iconst (-1), 1) := by decide +kernel
theorem dX4_bestNext_74 : decode cX4_bestNext 74 = .ok (.if_icmp .eq 21, 3) := by decide +kernel
theorem dX4_bestNext_77 : decode cX4_bestNext 77 = .ok (.iload 6, 2) := by decide +kernel
theorem dX4_bestNext_79 : decode cX4_bestNext 79 = .ok (.iload_n 2, 1) := by decide +kernel
theorem dX4_bestNext_80 : decode cX4_bestNext 80 = .ok (.if_icmp .gt 15, 3) := by decide +kernel
theorem dX4_bestNext_83 : decode cX4_bestNext 83 = .ok (.iload 6, 2) := by decide +kernel
theorem dX4_bestNext_85 : decode cX4_bestNext 85 = .ok (.iload_n 2, 1) := by decide +kernel
theorem dX4_bestNext_86 : decode cX4_bestNext 86 = .ok (.if_icmp .ne 18, 3) := by decide +kernel
theorem dX4_bestNext_89 : decode cX4_bestNext 89 = .ok (.iload 7, 2) := by decide +kernel
theorem dX4_bestNext_91 : decode cX4_bestNext 91 = .ok (.iload_n 3, 1) := by decide +kernel
theorem dX4_bestNext_92 : decode cX4_bestNext 92 = .ok (.if_icmp .ge 12, 3) := by decide +kernel
theorem dX4_bestNext_95 : decode cX4_bestNext 95 = .ok (.iload 4, 2) := by decide +kernel
theorem dX4_bestNext_97 : decode cX4_bestNext 97 = .ok (.istore_n 1, 1) := by decide +kernel
theorem dX4_bestNext_98 : decode cX4_bestNext 98 = .ok (.iload 6, 2) := by decide +kernel
theorem dX4_bestNext_100 : decode cX4_bestNext 100 = .ok (.istore_n 2, 1) := by decide +kernel
theorem dX4_bestNext_101 : decode cX4_bestNext 101 = .ok (.iload 7, 2) := by decide +kernel
theorem dX4_bestNext_103 : decode cX4_bestNext 103 = .ok (.istore_n 3, 1) := by decide +kernel
theorem dX4_bestNext_104 : decode cX4_bestNext 104 = .ok (.iinc 4 1, 3) := by decide +kernel
theorem dX4_bestNext_107 : decode cX4_bestNext 107 = .ok (.goto (-98), 3) := by decide +kernel
theorem dX4_bestNext_110 : decode cX4_bestNext 110 = .ok (.iload_n 1, 1) := by decide +kernel
theorem dX4_bestNext_111 : decode cX4_bestNext 111 = .ok (.ireturn, 1) := by decide +kernel
set_option maxRecDepth 20000 in
theorem ggX4_digest_X4_many : GoodIn wsX4_digest wsX4_many := goodIn_ca (goodIn_r _ [11, 3, 12, 4, 5, 6, 13, 14, 15, 16, 17, 18, 10, 19, 20, 21, 22, 23, 24, 25, 26, 27, 28, 29, 30, 31, 32, 33, 34, 35, 36, 37, 38, 39, 40, 41, 42, 43, 44, 45, 46, 47, 48, 49, 50, 51, 52, 53, 54, 55, 56, 57, 58, 59, 60, 61, 62, 63, 64, 65, 66, 67, 68, 69, 70, 71, 72, 73, 74, 75, 76, 77, 78, 79, 80, 81, 272, 273, 274, 275, 276, 277, 278, 279, 280, 281, 282, 283, 284, 285, 286, 287, 288, 289, 290, 291, 292, 293, 294, 295, 296, 297, 298, 299, 300, 301, 302, 303] (by decide +kernel) (by decide +kernel)) (goodIn_sub (fun _ h => List.mem_cons_of_mem _ (List.mem_append_left _ (List.mem_append_right _ h))) (by decide +kernel))
set_option maxRecDepth 20000 in
theorem gX4_digest_X4_many : GoodIn wsX4_digest (wsV RX4 246 RX4 yX4_many wsX4_many) := goodIn_app (goodIn_of _ (by decide +kernel)) ggX4_digest_X4_many
set_option maxRecDepth 20000 in
theorem ggX4_digest_X4_digestWithPerson : GoodIn wsX4_digest wsX4_digestWithPerson := goodIn_ca (goodIn_ca (goodIn_r _ [85, 2, 86, 87, 88, 10, 89, 3, 90, 91, 92, 93, 94, 95, 96, 97, 25, 98, 45, 46, 99, 100, 101, 102, 17, 18, 19, 20, 21, 103, 104, 105, 78, 106, 81, 80, 107, 108, 109, 110, 27, 28, 111, 112, 64, 65, 32, 66, 35, 113, 114, 115, 116, 117, 118, 119, 120, 121, 122, 123, 124, 125, 126, 127, 128, 129, 130, 131, 132, 133, 134, 135, 272, 273, 296, 297, 298, 299, 300, 301, 302, 303, 274, 275, 276, 277, 278, 279, 280, 281, 282, 283, 284, 285, 286, 287, 288, 289, 290, 291, 292, 293, 294, 295] (by decide +kernel) (by decide +kernel)) (goodIn_sub (fun _ h => List.mem_cons_of_mem _ (List.mem_append_right _ h)) (by decide +kernel))) (goodIn_sub (fun _ h => List.mem_cons_of_mem _ (List.mem_append_left _ (List.mem_append_right _ h))) (by decide +kernel))
set_option maxRecDepth 20000 in
theorem gX4_digest_X4_digestWithPerson : GoodIn wsX4_digest (wsV RX4 250 RX4 yX4_digestWithPerson wsX4_digestWithPerson) := goodIn_app (goodIn_of _ (by decide +kernel)) ggX4_digest_X4_digestWithPerson
set_option maxRecDepth 20000 in
theorem ggX4_digest_X4_ofFigure : GoodIn wsX4_digest wsX4_ofFigure := goodIn_ca (goodIn_ca (goodIn_r _ [139, 3, 140, 141, 142, 143, 144, 145, 146, 147, 148, 149, 150, 151, 152, 25, 153, 27, 28, 99, 10, 100, 101, 102, 17, 18, 19, 20, 21, 154, 155, 156, 32, 157, 34, 158, 159, 68, 69, 70, 71, 72, 61, 73, 74, 30, 31, 33, 35, 75, 76, 77, 78, 79, 80, 81, 160, 58, 59, 60, 62, 63, 64, 65, 66, 67, 272, 273, 285, 286, 287, 288, 289, 290, 291, 292, 293, 294, 295, 296, 297, 298, 299, 300, 301, 302, 303, 274, 275, 276, 277, 278, 279, 280, 281, 282, 283, 284] (by decide +kernel) (by decide +kernel)) (goodIn_sub (fun _ h => List.mem_cons_of_mem _ (List.mem_append_right _ h)) (by decide +kernel))) (goodIn_sub (fun _ h => List.mem_cons_of_mem _ (List.mem_append_left _ (List.mem_append_right _ h))) (by decide +kernel))
set_option maxRecDepth 20000 in
theorem gX4_digest_X4_ofFigure : GoodIn wsX4_digest (wsV RX4 254 RX4 yX4_ofFigure wsX4_ofFigure) := goodIn_app (goodIn_of _ (by decide +kernel)) ggX4_digest_X4_ofFigure
set_option maxRecDepth 20000 in
theorem ggX4_digest_X4_readyIn : GoodIn wsX4_digest wsX4_readyIn := goodIn_ca (goodIn_r _ [164, 3, 150, 151, 152, 25, 153, 27, 28, 99, 10, 100, 101, 102, 165, 166, 167, 32, 168, 35, 169, 158, 34, 74, 30, 31, 33, 272, 273, 274, 275, 276, 277, 278, 279, 280, 281, 282, 283, 284, 285, 286, 287, 288, 289, 290, 291, 292, 293, 294, 295] (by decide +kernel) (by decide +kernel)) (goodIn_sub (fun _ h => List.mem_cons_of_mem _ (List.mem_append_right _ h)) (by decide +kernel))
set_option maxRecDepth 20000 in
theorem gX4_digest_X4_readyIn : GoodIn wsX4_digest (wsV RX4 257 RX4 yX4_readyIn wsX4_readyIn) := goodIn_app (goodIn_of _ (by decide +kernel)) ggX4_digest_X4_readyIn
set_option maxRecDepth 20000 in
theorem ggX4_digest_X4_meltsIn : GoodIn wsX4_digest wsX4_meltsIn := goodIn_ca (goodIn_ca (goodIn_r _ [173, 3, 174, 147, 150, 151, 152, 25, 153, 27, 28, 99, 10, 100, 101, 102, 17, 18, 19, 20, 21, 175, 64, 65, 32, 66, 35, 176, 177, 178, 179, 45, 180, 181, 182, 183, 184, 185, 46, 111, 186, 187, 188, 189, 190, 191, 192, 193, 78, 194, 128, 129, 80, 81, 195, 196, 197, 198, 96, 97, 98, 199, 200, 201, 202, 61, 73, 34, 158, 169, 71, 72, 203, 204, 205, 206, 207, 208, 209, 210, 211, 212, 213, 214, 215, 216, 217, 130, 131, 132, 133, 134, 135, 218, 219, 220, 221, 222, 223, 224, 225, 226, 104, 105, 106, 227, 54, 55, 56, 40, 57, 58, 59, 60, 62, 63, 67, 68, 69, 70, 74, 30, 31, 33, 75, 76, 77, 79, 228, 229, 230, 231, 112, 232, 233, 234, 235, 236, 237, 238, 239, 240, 241, 242, 243, 244, 245, 246, 247, 248, 249, 250, 251, 252, 253, 254, 255, 256, 272, 273, 285, 286, 287, 288, 289, 290, 291, 292, 293, 294, 295, 274, 275, 276, 277, 278, 279, 280, 281, 282, 283, 284, 296, 297, 298, 299, 300, 301, 302, 303, 304, 305] (by decide +kernel) (by decide +kernel)) (goodIn_sub (fun _ h => List.mem_cons_of_mem _ (List.mem_append_right _ h)) (by decide +kernel))) (goodIn_sub (fun _ h => List.mem_cons_of_mem _ (List.mem_append_left _ (List.mem_append_right _ h))) (by decide +kernel))
set_option maxRecDepth 20000 in
theorem gX4_digest_X4_meltsIn : GoodIn wsX4_digest (wsV RX4 260 RX4 yX4_meltsIn wsX4_meltsIn) := goodIn_app (goodIn_of _ (by decide +kernel)) ggX4_digest_X4_meltsIn
set_option maxRecDepth 20000 in
theorem ggX4_digest_X4_ofRoom : GoodIn wsX4_digest wsX4_ofRoom := goodIn_ca (goodIn_ca (goodIn_r _ [260, 3, 261, 262, 263, 233, 234, 25, 235, 180, 188, 99, 10, 100, 101, 102, 17, 18, 19, 20, 21, 36, 37, 38, 39, 27, 28, 40, 53, 54, 55, 56, 57, 58, 59, 32, 60, 61, 62, 63, 64, 65, 66, 35, 67, 68, 69, 70, 71, 72, 73, 74, 30, 31, 33, 34, 75, 76, 77, 78, 79, 80, 81, 272, 273, 304, 305, 274, 275, 276, 277, 278, 279, 280, 281, 282, 283, 284, 285, 286, 287, 288, 289, 290, 291, 292, 293, 294, 295, 296, 297, 298, 299, 300, 301, 302, 303] (by decide +kernel) (by decide +kernel)) (goodIn_sub (fun _ h => List.mem_cons_of_mem _ (List.mem_append_right _ h)) (by decide +kernel))) (goodIn_sub (fun _ h => List.mem_cons_of_mem _ (List.mem_append_left _ (List.mem_append_right _ h))) (by decide +kernel))
set_option maxRecDepth 20000 in
theorem gX4_digest_X4_ofRoom : GoodIn wsX4_digest (wsV RX4 263 RX4 yX4_ofRoom wsX4_ofRoom) := goodIn_app (goodIn_of _ (by decide +kernel)) ggX4_digest_X4_ofRoom
set_option maxRecDepth 20000 in
theorem ggX4_digest_X4_bestNext : GoodIn wsX4_digest wsX4_bestNext := goodIn_ca (goodIn_r _ [267, 3, 4, 92, 95, 96, 97, 25, 98, 45, 46, 99, 10, 100, 101, 102, 268, 269, 270, 271, 27, 28, 111, 40, 124, 125, 126, 78, 127, 128, 129, 130, 131, 132, 133, 134, 135, 103, 104, 105, 106, 81, 80, 272, 273, 274, 275, 276, 277, 278, 279, 280, 281, 282, 283, 284, 296, 297, 298, 299, 300, 301, 302, 303, 285, 286, 287, 288, 289, 290, 291, 292, 293, 294, 295] (by decide +kernel) (by decide +kernel)) (goodIn_sub (fun _ h => List.mem_cons_of_mem _ (List.mem_append_right _ h)) (by decide +kernel))
set_option maxRecDepth 20000 in
theorem gX4_digest_X4_bestNext : GoodIn wsX4_digest (wsV RX4 266 RX4 yX4_bestNext wsX4_bestNext) := goodIn_app (goodIn_of _ (by decide +kernel)) ggX4_digest_X4_bestNext
theorem dX4_digest_0 : decode cX4_digest 0 = .ok (.ldc2_w 242, 3) := by decide +kernel
theorem dX4_digest_3 : decode cX4_digest 3 = .ok (.lstore_n 1, 1) := by decide +kernel
theorem dX4_digest_4 : decode cX4_digest 4 = .ok (.iconst 0, 1) := by decide +kernel
theorem dX4_digest_5 : decode cX4_digest 5 = .ok (.istore_n 3, 1) := by decide +kernel
theorem dX4_digest_6 : decode cX4_digest 6 = .ok (.iload_n 3, 1) := by decide +kernel
theorem dX4_digest_7 : decode cX4_digest 7 = .ok (.bipush 14, 2) := by decide +kernel
theorem dX4_digest_9 : decode cX4_digest 9 = .ok (.if_icmp .gt 22, 3) := by decide +kernel
theorem dX4_digest_12 : decode cX4_digest 12 = .ok (.lload_n 1, 1) := by decide +kernel
theorem dX4_digest_13 : decode cX4_digest 13 = .ok (.ldc2_w 244, 3) := by decide +kernel
theorem dX4_digest_16 : decode cX4_digest 16 = .ok (.lmul, 1) := by decide +kernel
theorem dX4_digest_17 : decode cX4_digest 17 = .ok (.aload_n 0, 1) := by decide +kernel
theorem dX4_digest_18 : decode cX4_digest 18 = .ok (.iload_n 3, 1) := by decide +kernel
theorem dX4_digest_19 : decode cX4_digest 19 = .ok (.invokevirtual 246, 3) := by decide +kernel
theorem dX4_digest_22 : decode cX4_digest 22 = .ok (.i2l, 1) := by decide +kernel
theorem dX4_digest_23 : decode cX4_digest 23 = .ok (.ladd, 1) := by decide +kernel
theorem dX4_digest_24 : decode cX4_digest 24 = .ok (.lstore_n 1, 1) := by decide +kernel
theorem dX4_digest_25 : decode cX4_digest 25 = .ok (.iinc 3 1, 3) := by decide +kernel
theorem dX4_digest_28 : decode cX4_digest 28 = .ok (.goto (-22), 3) := by decide +kernel
theorem dX4_digest_31 : decode cX4_digest 31 = .ok (.iconst 0, 1) := by decide +kernel
theorem dX4_digest_32 : decode cX4_digest 32 = .ok (.istore_n 3, 1) := by decide +kernel
theorem dX4_digest_33 : decode cX4_digest 33 = .ok (.iload_n 3, 1) := by decide +kernel
theorem dX4_digest_34 : decode cX4_digest 34 = .ok (.aload_n 0, 1) := by decide +kernel
theorem dX4_digest_35 : decode cX4_digest 35 = .ok (.getfield 10, 3) := by decide +kernel
theorem dX4_digest_38 : decode cX4_digest 38 = .ok (.getfield 23, 3) := by decide +kernel
theorem dX4_digest_41 : decode cX4_digest 41 = .ok (.if_icmp .ge 16, 3) := by decide +kernel
theorem dX4_digest_44 : decode cX4_digest 44 = .ok (.aload_n 0, 1) := by decide +kernel
theorem dX4_digest_45 : decode cX4_digest 45 = .ok (.lload_n 1, 1) := by decide +kernel
theorem dX4_digest_46 : decode cX4_digest 46 = .ok (.iload_n 3, 1) := by decide +kernel
theorem dX4_digest_47 : decode cX4_digest 47 = .ok (.invokevirtual 250, 3) := by decide +kernel
theorem dX4_digest_50 : decode cX4_digest 50 = .ok (.lstore_n 1, 1) := by decide +kernel
theorem dX4_digest_51 : decode cX4_digest 51 = .ok (.iinc 3 1, 3) := by decide +kernel
theorem dX4_digest_54 : decode cX4_digest 54 = .ok (.goto (-21), 3) := by decide +kernel
theorem dX4_digest_57 : decode cX4_digest 57 = .ok (.iconst 0, 1) := by decide +kernel
theorem dX4_digest_58 : decode cX4_digest 58 = .ok (.istore_n 3, 1) := by decide +kernel
theorem dX4_digest_59 : decode cX4_digest 59 = .ok (.iload_n 3, 1) := by decide +kernel
theorem dX4_digest_60 : decode cX4_digest 60 = .ok (.aload_n 0, 1) := by decide +kernel
theorem dX4_digest_61 : decode cX4_digest 61 = .ok (.getfield 10, 3) := by decide +kernel
theorem dX4_digest_64 : decode cX4_digest 64 = .ok (.getfield 88, 3) := by decide +kernel
theorem dX4_digest_67 : decode cX4_digest 67 = .ok (.if_icmp .ge 71, 3) := by decide +kernel
theorem dX4_digest_70 : decode cX4_digest 70 = .ok (.iconst 0, 1) := by decide +kernel
theorem dX4_digest_71 : decode cX4_digest 71 = .ok (.istore 4, 2) := by decide +kernel
theorem dX4_digest_73 : decode cX4_digest 73 = .ok (.iload 4, 2) := by decide +kernel
theorem dX4_digest_75 : decode cX4_digest 75 = .ok (.bipush 11, 2) := by decide +kernel
theorem dX4_digest_77 : decode cX4_digest 77 = .ok (.if_icmp .gt 24, 3) := by decide +kernel
theorem dX4_digest_80 : decode cX4_digest 80 = .ok (.lload_n 1, 1) := by decide +kernel
theorem dX4_digest_81 : decode cX4_digest 81 = .ok (.ldc2_w 244, 3) := by decide +kernel
theorem dX4_digest_84 : decode cX4_digest 84 = .ok (.lmul, 1) := by decide +kernel
theorem dX4_digest_85 : decode cX4_digest 85 = .ok (.aload_n 0, 1) := by decide +kernel
theorem dX4_digest_86 : decode cX4_digest 86 = .ok (.iload_n 3, 1) := by decide +kernel
theorem dX4_digest_87 : decode cX4_digest 87 = .ok (.iload 4, 2) := by decide +kernel
theorem dX4_digest_89 : decode cX4_digest 89 = .ok (.invokevirtual 254, 3) := by decide +kernel
theorem dX4_digest_92 : decode cX4_digest 92 = .ok (.i2l, 1) := by decide +kernel
theorem dX4_digest_93 : decode cX4_digest 93 = .ok (.ladd, 1) := by decide +kernel
theorem dX4_digest_94 : decode cX4_digest 94 = .ok (.lstore_n 1, 1) := by decide +kernel
theorem dX4_digest_95 : decode cX4_digest 95 = .ok (.iinc 4 1, 3) := by decide +kernel
theorem dX4_digest_98 : decode cX4_digest 98 = .ok (.goto (-25), 3) := by decide +kernel
theorem dX4_digest_101 : decode cX4_digest 101 = .ok (.lload_n 1, 1) := by decide +kernel
theorem dX4_digest_102 : decode cX4_digest 102 = .ok (.ldc2_w 244, 3) := by decide +kernel
theorem dX4_digest_105 : decode cX4_digest 105 = .ok (.lmul, 1) := by decide +kernel
theorem dX4_digest_106 : decode cX4_digest 106 = .ok (.aload_n 0, 1) := by decide +kernel
theorem dX4_digest_107 : decode cX4_digest 107 = .ok (.iload_n 3, 1) := by decide +kernel
theorem dX4_digest_108 : decode cX4_digest 108 = .ok (.invokevirtual 257, 3) := by decide +kernel
theorem dX4_digest_111 : decode cX4_digest 111 = .ok (.i2l, 1) := by decide +kernel
theorem dX4_digest_112 : decode cX4_digest 112 = .ok (.ladd, 1) := by decide +kernel
theorem dX4_digest_113 : decode cX4_digest 113 = .ok (.lstore_n 1, 1) := by decide +kernel
theorem dX4_digest_114 : decode cX4_digest 114 = .ok (.lload_n 1, 1) := by decide +kernel
theorem dX4_digest_115 : decode cX4_digest 115 = .ok (.ldc2_w 244, 3) := by decide +kernel
theorem dX4_digest_118 : decode cX4_digest 118 = .ok (.lmul, 1) := by decide +kernel
theorem dX4_digest_119 : decode cX4_digest 119 = .ok (.aload_n 0, 1) := by decide +kernel
theorem dX4_digest_120 : decode cX4_digest 120 = .ok (.iload_n 3, 1) := by decide +kernel
theorem dX4_digest_121 : decode cX4_digest 121 = .ok (.sipush 900, 3) := by decide +kernel
theorem dX4_digest_124 : decode cX4_digest 124 = .ok (.bipush 30, 2) := by decide +kernel
theorem dX4_digest_126 : decode cX4_digest 126 = .ok (.invokevirtual 260, 3) := by decide +kernel
theorem dX4_digest_129 : decode cX4_digest 129 = .ok (.i2l, 1) := by decide +kernel
theorem dX4_digest_130 : decode cX4_digest 130 = .ok (.ladd, 1) := by decide +kernel
theorem dX4_digest_131 : decode cX4_digest 131 = .ok (.lstore_n 1, 1) := by decide +kernel
theorem dX4_digest_132 : decode cX4_digest 132 = .ok (.iinc 3 1, 3) := by decide +kernel
theorem dX4_digest_135 : decode cX4_digest 135 = .ok (.goto (-76), 3) := by decide +kernel
theorem dX4_digest_138 : decode cX4_digest 138 = .ok (.iconst 0, 1) := by decide +kernel
theorem dX4_digest_139 : decode cX4_digest 139 = .ok (.istore_n 3, 1) := by decide +kernel
theorem dX4_digest_140 : decode cX4_digest 140 = .ok (.iload_n 3, 1) := by decide +kernel
theorem dX4_digest_141 : decode cX4_digest 141 = .ok (.aload_n 0, 1) := by decide +kernel
theorem dX4_digest_142 : decode cX4_digest 142 = .ok (.getfield 10, 3) := by decide +kernel
theorem dX4_digest_145 : decode cX4_digest 145 = .ok (.getfield 150, 3) := by decide +kernel
theorem dX4_digest_148 : decode cX4_digest 148 = .ok (.if_icmp .ge 39, 3) := by decide +kernel
theorem dX4_digest_151 : decode cX4_digest 151 = .ok (.iconst 0, 1) := by decide +kernel
theorem dX4_digest_152 : decode cX4_digest 152 = .ok (.istore 4, 2) := by decide +kernel
theorem dX4_digest_154 : decode cX4_digest 154 = .ok (.iload 4, 2) := by decide +kernel
theorem dX4_digest_156 : decode cX4_digest 156 = .ok (.iconst 3, 1) := by decide +kernel
theorem dX4_digest_157 : decode cX4_digest 157 = .ok (.if_icmp .gt 24, 3) := by decide +kernel
theorem dX4_digest_160 : decode cX4_digest 160 = .ok (.lload_n 1, 1) := by decide +kernel
theorem dX4_digest_161 : decode cX4_digest 161 = .ok (.ldc2_w 244, 3) := by decide +kernel
theorem dX4_digest_164 : decode cX4_digest 164 = .ok (.lmul, 1) := by decide +kernel
theorem dX4_digest_165 : decode cX4_digest 165 = .ok (.aload_n 0, 1) := by decide +kernel
theorem dX4_digest_166 : decode cX4_digest 166 = .ok (.iload_n 3, 1) := by decide +kernel
theorem dX4_digest_167 : decode cX4_digest 167 = .ok (.iload 4, 2) := by decide +kernel
theorem dX4_digest_169 : decode cX4_digest 169 = .ok (.invokevirtual 263, 3) := by decide +kernel
theorem dX4_digest_172 : decode cX4_digest 172 = .ok (.i2l, 1) := by decide +kernel
theorem dX4_digest_173 : decode cX4_digest 173 = .ok (.ladd, 1) := by decide +kernel
theorem dX4_digest_174 : decode cX4_digest 174 = .ok (.lstore_n 1, 1) := by decide +kernel
theorem dX4_digest_175 : decode cX4_digest 175 = .ok (.iinc 4 1, 3) := by decide +kernel
theorem dX4_digest_178 : decode cX4_digest 178 = .ok (.goto (-24), 3) := by decide +kernel
theorem dX4_digest_181 : decode cX4_digest 181 = .ok (.iinc 3 1, 3) := by decide +kernel
theorem dX4_digest_184 : decode cX4_digest 184 = .ok (.goto (-44), 3) := by decide +kernel
theorem dX4_digest_187 : decode cX4_digest 187 = .ok (.lload_n 1, 1) := by decide +kernel
theorem dX4_digest_188 : decode cX4_digest 188 = .ok (.ldc2_w 244, 3) := by decide +kernel
theorem dX4_digest_191 : decode cX4_digest 191 = .ok (.lmul, 1) := by decide +kernel
theorem dX4_digest_192 : decode cX4_digest 192 = .ok (.aload_n 0, 1) := by decide +kernel
theorem dX4_digest_193 : decode cX4_digest 193 = .ok (.invokevirtual 266, 3) := by decide +kernel
theorem dX4_digest_196 : decode cX4_digest 196 = .ok (.i2l, 1) := by decide +kernel
theorem dX4_digest_197 : decode cX4_digest 197 = .ok (.ladd, 1) := by decide +kernel
theorem dX4_digest_198 : decode cX4_digest 198 = .ok (.lreturn, 1) := by decide +kernel
set_option maxRecDepth 20000 in
theorem ggX4_digestWithPerson_X4_ofPerson : GoodIn wsX4_digestWithPerson wsX4_ofPerson := goodIn_ca (goodIn_ca (goodIn_r _ [6, 7, 8, 9, 10, 11, 12, 13, 14, 15, 16, 17, 18, 19, 20, 5, 21, 22, 23, 24, 25, 26, 27, 28, 29, 30, 31, 32, 33, 34, 35, 36, 37, 38, 39, 40, 41, 42, 43, 44, 45, 46, 47, 48, 72, 73, 74, 75, 76, 77, 78, 79, 80, 81, 82, 83, 84, 85, 86, 87, 88, 89, 90, 91, 92, 93, 94, 95, 96, 97, 98, 99, 100, 101, 102, 103] (by decide +kernel) (by decide +kernel)) (goodIn_sub (fun _ h => List.mem_cons_of_mem _ (List.mem_append_left _ (List.mem_append_right _ h))) (by decide +kernel))) (goodIn_sub (fun _ h => List.mem_cons_of_mem _ (List.mem_append_right _ h)) (by decide +kernel))
set_option maxRecDepth 20000 in
theorem gX4_digestWithPerson_X4_ofPerson : GoodIn wsX4_digestWithPerson (wsV RX4 269 RX4 yX4_ofPerson wsX4_ofPerson) := goodIn_app (goodIn_of _ (by decide +kernel)) ggX4_digestWithPerson_X4_ofPerson
set_option maxRecDepth 20000 in
theorem ggX4_digestWithPerson_X4_known : GoodIn wsX4_digestWithPerson wsX4_known := goodIn_ca (goodIn_r _ [52, 7, 53, 54, 13, 14, 15, 16, 17, 18, 19, 20, 5, 21, 22, 23, 55, 72, 73, 74, 75, 76, 77, 78, 79, 80, 81, 82, 83, 84, 85, 86, 87, 88, 89, 90, 91, 92] (by decide +kernel) (by decide +kernel)) (goodIn_sub (fun _ h => List.mem_cons_of_mem _ (List.mem_append_left _ (List.mem_append_right _ h))) (by decide +kernel))
set_option maxRecDepth 20000 in
theorem gX4_digestWithPerson_X4_known : GoodIn wsX4_digestWithPerson (wsV RX4 272 RX4 yX4_known wsX4_known) := goodIn_app (goodIn_of _ (by decide +kernel)) ggX4_digestWithPerson_X4_known
set_option maxRecDepth 20000 in
theorem ggX4_digestWithPerson_X4_wouldFame : GoodIn wsX4_digestWithPerson wsX4_wouldFame := goodIn_ca (goodIn_ca (goodIn_r _ [59, 7, 13, 14, 15, 16, 17, 18, 19, 20, 5, 21, 22, 23, 55, 24, 25, 26, 27, 28, 60, 61, 62, 32, 63, 64, 65, 66, 67, 68, 69, 70, 71, 72, 73, 82, 83, 84, 85, 86, 87, 88, 89, 90, 91, 92, 74, 75, 76, 77, 78, 79, 80, 81] (by decide +kernel) (by decide +kernel)) (goodIn_sub (fun _ h => List.mem_cons_of_mem _ (List.mem_append_left _ (List.mem_append_right _ h))) (by decide +kernel))) (goodIn_sub (fun _ h => List.mem_cons_of_mem _ (List.mem_append_right _ h)) (by decide +kernel))
set_option maxRecDepth 20000 in
theorem gX4_digestWithPerson_X4_wouldFame : GoodIn wsX4_digestWithPerson (wsV RX4 276 RX4 yX4_wouldFame wsX4_wouldFame) := goodIn_app (goodIn_of _ (by decide +kernel)) ggX4_digestWithPerson_X4_wouldFame
theorem dX4_digestWithPerson_0 : decode cX4_digestWithPerson 0 = .ok (.lload_n 1, 1) := by decide +kernel
theorem dX4_digestWithPerson_1 : decode cX4_digestWithPerson 1 = .ok (.lstore 4, 2) := by decide +kernel
theorem dX4_digestWithPerson_3 : decode cX4_digestWithPerson 3 = .ok (.iconst 0, 1) := by decide +kernel
theorem dX4_digestWithPerson_4 : decode cX4_digestWithPerson 4 = .ok (.istore 6, 2) := by decide +kernel
theorem dX4_digestWithPerson_6 : decode cX4_digestWithPerson 6 = .ok (.iload 6, 2) := by decide +kernel
theorem dX4_digestWithPerson_8 : decode cX4_digestWithPerson 8 = .ok (.bipush 10, 2) := by decide +kernel
theorem dX4_digestWithPerson_10 : decode cX4_digestWithPerson 10 = .ok (.if_icmp .gt 26, 3) := by decide +kernel
theorem dX4_digestWithPerson_13 : decode cX4_digestWithPerson 13 = .ok (.lload 4, 2) := by decide +kernel
theorem dX4_digestWithPerson_15 : decode cX4_digestWithPerson 15 = .ok (.ldc2_w 244, 3) := by decide +kernel
theorem dX4_digestWithPerson_18 : decode cX4_digestWithPerson 18 = .ok (.lmul, 1) := by decide +kernel
theorem dX4_digestWithPerson_19 : decode cX4_digestWithPerson 19 = .ok (.aload_n 0, 1) := by decide +kernel
theorem dX4_digestWithPerson_20 : decode cX4_digestWithPerson 20 = .ok (.iload_n 3, 1) := by decide +kernel
theorem dX4_digestWithPerson_21 : decode cX4_digestWithPerson 21 = .ok (.iload 6, 2) := by decide +kernel
theorem dX4_digestWithPerson_23 : decode cX4_digestWithPerson 23 = .ok (.invokevirtual 269, 3) := by decide +kernel
theorem dX4_digestWithPerson_26 : decode cX4_digestWithPerson 26 = .ok (.i2l, 1) := by decide +kernel
theorem dX4_digestWithPerson_27 : decode cX4_digestWithPerson 27 = .ok (.ladd, 1) := by decide +kernel
theorem dX4_digestWithPerson_28 : decode cX4_digestWithPerson 28 = .ok (.lstore 4, 2) := by decide +kernel
theorem dX4_digestWithPerson_30 : decode cX4_digestWithPerson 30 = .ok (.iinc 6 1, 3) := by decide +kernel
theorem dX4_digestWithPerson_33 : decode cX4_digestWithPerson 33 = .ok (.goto (-27), 3) := by decide +kernel
theorem dX4_digestWithPerson_36 : decode cX4_digestWithPerson 36 = .ok (.iconst 0, 1) := by decide +kernel
theorem dX4_digestWithPerson_37 : decode cX4_digestWithPerson 37 = .ok (.istore 6, 2) := by decide +kernel
theorem dX4_digestWithPerson_39 : decode cX4_digestWithPerson 39 = .ok (.iload 6, 2) := by decide +kernel
theorem dX4_digestWithPerson_41 : decode cX4_digestWithPerson 41 = .ok (.bipush 6, 2) := by decide +kernel
theorem dX4_digestWithPerson_43 : decode cX4_digestWithPerson 43 = .ok (.if_icmp .ge 45, 3) := by decide +kernel
theorem dX4_digestWithPerson_46 : decode cX4_digestWithPerson 46 = .ok (.lload 4, 2) := by decide +kernel
theorem dX4_digestWithPerson_48 : decode cX4_digestWithPerson 48 = .ok (.ldc2_w 244, 3) := by decide +kernel
theorem dX4_digestWithPerson_51 : decode cX4_digestWithPerson 51 = .ok (.lmul, 1) := by decide +kernel
theorem dX4_digestWithPerson_52 : decode cX4_digestWithPerson 52 = .ok (.aload_n 0, 1) := by decide +kernel
theorem dX4_digestWithPerson_53 : decode cX4_digestWithPerson 53 = .ok (.iload_n 3, 1) := by decide +kernel
theorem dX4_digestWithPerson_54 : decode cX4_digestWithPerson 54 = .ok (.iload 6, 2) := by decide +kernel
theorem dX4_digestWithPerson_56 : decode cX4_digestWithPerson 56 = .ok (.iconst 0, 1) := by decide +kernel
theorem dX4_digestWithPerson_57 : decode cX4_digestWithPerson 57 = .ok (.invokevirtual 272, 3) := by decide +kernel
theorem dX4_digestWithPerson_60 : decode cX4_digestWithPerson 60 = .ok (.i2l, 1) := by decide +kernel
theorem dX4_digestWithPerson_61 : decode cX4_digestWithPerson 61 = .ok (.ladd, 1) := by decide +kernel
theorem dX4_digestWithPerson_62 : decode cX4_digestWithPerson 62 = .ok (.lstore 4, 2) := by decide +kernel
theorem dX4_digestWithPerson_64 : decode cX4_digestWithPerson 64 = .ok (.lload 4, 2) := by decide +kernel
theorem dX4_digestWithPerson_66 : decode cX4_digestWithPerson 66 = .ok (.ldc2_w 244, 3) := by decide +kernel
theorem dX4_digestWithPerson_69 : decode cX4_digestWithPerson 69 = .ok (.lmul, 1) := by decide +kernel
theorem dX4_digestWithPerson_70 : decode cX4_digestWithPerson 70 = .ok (.aload_n 0, 1) := by decide +kernel
theorem dX4_digestWithPerson_71 : decode cX4_digestWithPerson 71 = .ok (.iload_n 3, 1) := by decide +kernel
theorem dX4_digestWithPerson_72 : decode cX4_digestWithPerson 72 = .ok (.iload 6, 2) := by decide +kernel
theorem dX4_digestWithPerson_74 : decode cX4_digestWithPerson 74 = .ok (.iconst 1, 1) := by decide +kernel
theorem dX4_digestWithPerson_75 : decode cX4_digestWithPerson 75 = .ok (.invokevirtual 272, 3) := by decide +kernel
theorem dX4_digestWithPerson_78 : decode cX4_digestWithPerson 78 = .ok (.i2l, 1) := by decide +kernel
theorem dX4_digestWithPerson_79 : decode cX4_digestWithPerson 79 = .ok (.ladd, 1) := by decide +kernel
theorem dX4_digestWithPerson_80 : decode cX4_digestWithPerson 80 = .ok (.lstore 4, 2) := by decide +kernel
theorem dX4_digestWithPerson_82 : decode cX4_digestWithPerson 82 = .ok (.iinc 6 1, 3) := by decide +kernel
theorem dX4_digestWithPerson_85 : decode cX4_digestWithPerson 85 = .ok (.goto (-46), 3) := by decide +kernel
theorem dX4_digestWithPerson_88 : decode cX4_digestWithPerson 88 = .ok (.lload 4, 2) := by decide +kernel
theorem dX4_digestWithPerson_90 : decode cX4_digestWithPerson 90 = .ok (.ldc2_w 244, 3) := by decide +kernel
theorem dX4_digestWithPerson_93 : decode cX4_digestWithPerson 93 = .ok (.lmul, 1) := by decide +kernel
theorem dX4_digestWithPerson_94 : decode cX4_digestWithPerson 94 = .ok (.aload_n 0, 1) := by decide +kernel
theorem dX4_digestWithPerson_95 : decode cX4_digestWithPerson 95 = .ok (.iload_n 3, 1) := by decide +kernel
theorem dX4_digestWithPerson_96 : decode cX4_digestWithPerson 96 = .ok (.iconst 0, 1) := by decide +kernel
theorem dX4_digestWithPerson_97 : decode cX4_digestWithPerson 97 = .ok (.bipush 9, 2) := by decide +kernel
theorem dX4_digestWithPerson_99 : decode cX4_digestWithPerson 99 = .ok (.invokevirtual 276, 3) := by decide +kernel
theorem dX4_digestWithPerson_102 : decode cX4_digestWithPerson 102 = .ok (.i2l, 1) := by decide +kernel
theorem dX4_digestWithPerson_103 : decode cX4_digestWithPerson 103 = .ok (.ladd, 1) := by decide +kernel
theorem dX4_digestWithPerson_104 : decode cX4_digestWithPerson 104 = .ok (.lreturn, 1) := by decide +kernel
theorem dX4_checkIndex_0 : decode cX4_checkIndex 0 = .ok (.iload_n 0, 1) := by decide +kernel
theorem dX4_checkIndex_1 : decode cX4_checkIndex 1 = .ok (.ifCond .lt 8, 3) := by decide +kernel
theorem dX4_checkIndex_4 : decode cX4_checkIndex 4 = .ok (.iload_n 0, 1) := by decide +kernel
theorem dX4_checkIndex_5 : decode cX4_checkIndex 5 = .ok (.iload_n 1, 1) := by decide +kernel
theorem dX4_checkIndex_6 : decode cX4_checkIndex 6 = .ok (.if_icmp .lt 14, 3) := by decide +kernel
theorem dX4_checkIndex_9 : decode cX4_checkIndex 9 = .ok (.new 279, 3) := by decide +kernel
theorem dX4_checkIndex_12 : decode cX4_checkIndex 12 = .ok (.dup, 1) := by decide +kernel
theorem dX4_checkIndex_13 : decode cX4_checkIndex 13 = .ok (.ldc_w 281, 3) := by decide +kernel
theorem dX4_checkIndex_16 : decode cX4_checkIndex 16 = .ok (.invokespecial 283, 3) := by decide +kernel
theorem dX4_checkIndex_19 : decode cX4_checkIndex 19 = .ok (.athrow, 1) := by decide +kernel
theorem dX4_checkIndex_20 : decode cX4_checkIndex 20 = .ok (.return_, 1) := by decide +kernel
theorem dX4_checkArgument_0 : decode cX4_checkArgument 0 = .ok (.iload_n 0, 1) := by decide +kernel
theorem dX4_checkArgument_1 : decode cX4_checkArgument 1 = .ok (.iload_n 1, 1) := by decide +kernel
theorem dX4_checkArgument_2 : decode cX4_checkArgument 2 = .ok (.if_icmp .lt 8, 3) := by decide +kernel
theorem dX4_checkArgument_5 : decode cX4_checkArgument 5 = .ok (.iload_n 0, 1) := by decide +kernel
theorem dX4_checkArgument_6 : decode cX4_checkArgument 6 = .ok (.iload_n 2, 1) := by decide +kernel
theorem dX4_checkArgument_7 : decode cX4_checkArgument 7 = .ok (.if_icmp .le 14, 3) := by decide +kernel
theorem dX4_checkArgument_10 : decode cX4_checkArgument 10 = .ok (.new 113, 3) := by decide +kernel
theorem dX4_checkArgument_13 : decode cX4_checkArgument 13 = .ok (.dup, 1) := by decide +kernel
theorem dX4_checkArgument_14 : decode cX4_checkArgument 14 = .ok (.ldc_w 284, 3) := by decide +kernel
theorem dX4_checkArgument_17 : decode cX4_checkArgument 17 = .ok (.invokespecial 117, 3) := by decide +kernel
theorem dX4_checkArgument_20 : decode cX4_checkArgument 20 = .ok (.athrow, 1) := by decide +kernel
theorem dX4_checkArgument_21 : decode cX4_checkArgument 21 = .ok (.return_, 1) := by decide +kernel
theorem dX4_checkState_0 : decode cX4_checkState 0 = .ok (.iload_n 0, 1) := by decide +kernel
theorem dX4_checkState_1 : decode cX4_checkState 1 = .ok (.ifCond .ne 14, 3) := by decide +kernel
theorem dX4_checkState_4 : decode cX4_checkState 4 = .ok (.new 286, 3) := by decide +kernel
theorem dX4_checkState_7 : decode cX4_checkState 7 = .ok (.dup, 1) := by decide +kernel
theorem dX4_checkState_8 : decode cX4_checkState 8 = .ok (.ldc_w 288, 3) := by decide +kernel
theorem dX4_checkState_11 : decode cX4_checkState 11 = .ok (.invokespecial 290, 3) := by decide +kernel
theorem dX4_checkState_14 : decode cX4_checkState 14 = .ok (.athrow, 1) := by decide +kernel
theorem dX4_checkState_15 : decode cX4_checkState 15 = .ok (.return_, 1) := by decide +kernel
theorem dX5_init_0 : decode cX5_init 0 = .ok (.aload_n 0, 1) := by decide +kernel
theorem dX5_init_1 : decode cX5_init 1 = .ok (.invokespecial 3, 3) := by decide +kernel
theorem dX5_init_4 : decode cX5_init 4 = .ok (.aload_n 0, 1) := by decide +kernel
theorem dX5_init_5 : decode cX5_init 5 = .ok (.bipush 10, 2) := by decide +kernel
theorem dX5_init_7 : decode cX5_init 7 = .ok (.bipush 9, 2) := by decide +kernel
theorem dX5_init_9 : decode cX5_init 9 = .ok (.multianewarray 9 2, 4) := by decide +kernel
theorem dX5_init_13 : decode cX5_init 13 = .ok (.putfield 11, 3) := by decide +kernel
theorem dX5_init_16 : decode cX5_init 16 = .ok (.aload_n 0, 1) := by decide +kernel
theorem dX5_init_17 : decode cX5_init 17 = .ok (.bipush 10, 2) := by decide +kernel
theorem dX5_init_19 : decode cX5_init 19 = .ok (.bipush 6, 2) := by decide +kernel
theorem dX5_init_21 : decode cX5_init 21 = .ok (.multianewarray 9 2, 4) := by decide +kernel
theorem dX5_init_25 : decode cX5_init 25 = .ok (.putfield 16, 3) := by decide +kernel
theorem dX5_init_28 : decode cX5_init 28 = .ok (.aload_n 0, 1) := by decide +kernel
theorem dX5_init_29 : decode cX5_init 29 = .ok (.bipush 10, 2) := by decide +kernel
theorem dX5_init_31 : decode cX5_init 31 = .ok (.bipush 6, 2) := by decide +kernel
theorem dX5_init_33 : decode cX5_init 33 = .ok (.multianewarray 9 2, 4) := by decide +kernel
theorem dX5_init_37 : decode cX5_init 37 = .ok (.putfield 19, 3) := by decide +kernel
theorem dX5_init_40 : decode cX5_init 40 = .ok (.aload_n 0, 1) := by decide +kernel
theorem dX5_init_41 : decode cX5_init 41 = .ok (.bipush 8, 2) := by decide +kernel
theorem dX5_init_43 : decode cX5_init 43 = .ok (.bipush 11, 2) := by decide +kernel
theorem dX5_init_45 : decode cX5_init 45 = .ok (.multianewarray 9 2, 4) := by decide +kernel
theorem dX5_init_49 : decode cX5_init 49 = .ok (.putfield 22, 3) := by decide +kernel
theorem dX5_init_52 : decode cX5_init 52 = .ok (.aload_n 0, 1) := by decide +kernel
theorem dX5_init_53 : decode cX5_init 53 = .ok (.iconst 5, 1) := by decide +kernel
theorem dX5_init_54 : decode cX5_init 54 = .ok (.newarray .int, 2) := by decide +kernel
theorem dX5_init_56 : decode cX5_init 56 = .ok (.putfield 25, 3) := by decide +kernel
theorem dX5_init_59 : decode cX5_init 59 = .ok (.aload_n 0, 1) := by decide +kernel
theorem dX5_init_60 : decode cX5_init 60 = .ok (.iconst 5, 1) := by decide +kernel
theorem dX5_init_61 : decode cX5_init 61 = .ok (.newarray .int, 2) := by decide +kernel
theorem dX5_init_63 : decode cX5_init 63 = .ok (.putfield 29, 3) := by decide +kernel
theorem dX5_init_66 : decode cX5_init 66 = .ok (.aload_n 0, 1) := by decide +kernel
theorem dX5_init_67 : decode cX5_init 67 = .ok (.iconst 5, 1) := by decide +kernel
theorem dX5_init_68 : decode cX5_init 68 = .ok (.putfield 32, 3) := by decide +kernel
theorem dX5_init_71 : decode cX5_init 71 = .ok (.aload_n 0, 1) := by decide +kernel
theorem dX5_init_72 : decode cX5_init 72 = .ok (.sipush 200, 3) := by decide +kernel
theorem dX5_init_75 : decode cX5_init 75 = .ok (.putfield 36, 3) := by decide +kernel
theorem dX5_init_78 : decode cX5_init 78 = .ok (.aload_n 0, 1) := by decide +kernel
theorem dX5_init_79 : decode cX5_init 79 = .ok (.bipush 30, 2) := by decide +kernel
theorem dX5_init_81 : decode cX5_init 81 = .ok (.putfield 39, 3) := by decide +kernel
theorem dX5_init_84 : decode cX5_init 84 = .ok (.return_, 1) := by decide +kernel
set_option maxRecDepth 20000 in
theorem ggX5_copy_X5_init : GoodIn wsX5_copy wsX5_init := goodIn_r _ [24, 25, 26, 27, 28, 29, 4, 5, 6, 7, 8, 13, 19, 20, 21, 33, 34, 35, 36, 37, 38, 39, 40, 41, 42, 43, 44, 45, 46] (by decide +kernel) (by decide +kernel)
set_option maxRecDepth 20000 in
theorem gX5_copy_X5_init : GoodIn wsX5_copy (wsX5_init) := ggX5_copy_X5_init
set_option maxRecDepth 20000 in
theorem ggX5_copy_X5_rows : GoodIn wsX5_copy wsX5_rows := goodIn_r _ [32, 9, 10, 11, 12] (by decide +kernel) (by decide +kernel)
set_option maxRecDepth 20000 in
theorem gX5_copy_X5_rows : GoodIn wsX5_copy (va_wsS RX5 43 yX5_rows wsX5_rows) := goodIn_app (goodIn_of _ (by decide +kernel)) ggX5_copy_X5_rows
theorem dX5_copy_0 : decode cX5_copy 0 = .ok (.new 12, 3) := by decide +kernel
theorem dX5_copy_3 : decode cX5_copy 3 = .ok (.dup, 1) := by decide +kernel
theorem dX5_copy_4 : decode cX5_copy 4 = .ok (.invokespecial 42, 3) := by decide +kernel
theorem dX5_copy_7 : decode cX5_copy 7 = .ok (.astore_n 1, 1) := by decide +kernel
theorem dX5_copy_8 : decode cX5_copy 8 = .ok (.aload_n 0, 1) := by decide +kernel
theorem dX5_copy_9 : decode cX5_copy 9 = .ok (.getfield 11, 3) := by decide +kernel
theorem dX5_copy_12 : decode cX5_copy 12 = .ok (.aload_n 1, 1) := by decide +kernel
theorem dX5_copy_13 : decode cX5_copy 13 = .ok (.getfield 11, 3) := by decide +kernel
theorem dX5_copy_16 : decode cX5_copy 16 = .ok (.invokestatic 43, 3) := by decide +kernel
theorem dX5_copy_19 : decode cX5_copy 19 = .ok (.aload_n 0, 1) := by decide +kernel
theorem dX5_copy_20 : decode cX5_copy 20 = .ok (.getfield 16, 3) := by decide +kernel
theorem dX5_copy_23 : decode cX5_copy 23 = .ok (.aload_n 1, 1) := by decide +kernel
theorem dX5_copy_24 : decode cX5_copy 24 = .ok (.getfield 16, 3) := by decide +kernel
theorem dX5_copy_27 : decode cX5_copy 27 = .ok (.invokestatic 43, 3) := by decide +kernel
theorem dX5_copy_30 : decode cX5_copy 30 = .ok (.aload_n 0, 1) := by decide +kernel
theorem dX5_copy_31 : decode cX5_copy 31 = .ok (.getfield 19, 3) := by decide +kernel
theorem dX5_copy_34 : decode cX5_copy 34 = .ok (.aload_n 1, 1) := by decide +kernel
theorem dX5_copy_35 : decode cX5_copy 35 = .ok (.getfield 19, 3) := by decide +kernel
theorem dX5_copy_38 : decode cX5_copy 38 = .ok (.invokestatic 43, 3) := by decide +kernel
theorem dX5_copy_41 : decode cX5_copy 41 = .ok (.aload_n 0, 1) := by decide +kernel
theorem dX5_copy_42 : decode cX5_copy 42 = .ok (.getfield 22, 3) := by decide +kernel
theorem dX5_copy_45 : decode cX5_copy 45 = .ok (.aload_n 1, 1) := by decide +kernel
theorem dX5_copy_46 : decode cX5_copy 46 = .ok (.getfield 22, 3) := by decide +kernel
theorem dX5_copy_49 : decode cX5_copy 49 = .ok (.invokestatic 43, 3) := by decide +kernel
theorem dX5_copy_52 : decode cX5_copy 52 = .ok (.aload_n 0, 1) := by decide +kernel
theorem dX5_copy_53 : decode cX5_copy 53 = .ok (.getfield 25, 3) := by decide +kernel
theorem dX5_copy_56 : decode cX5_copy 56 = .ok (.iconst 0, 1) := by decide +kernel
theorem dX5_copy_57 : decode cX5_copy 57 = .ok (.aload_n 1, 1) := by decide +kernel
theorem dX5_copy_58 : decode cX5_copy 58 = .ok (.getfield 25, 3) := by decide +kernel
theorem dX5_copy_61 : decode cX5_copy 61 = .ok (.iconst 0, 1) := by decide +kernel
theorem dX5_copy_62 : decode cX5_copy 62 = .ok (.iconst 5, 1) := by decide +kernel
theorem dX5_copy_63 : decode cX5_copy 63 = .ok (.invokestatic 47, 3) := by decide +kernel
theorem dX5_copy_66 : decode cX5_copy 66 = .ok (.aload_n 0, 1) := by decide +kernel
theorem dX5_copy_67 : decode cX5_copy 67 = .ok (.getfield 29, 3) := by decide +kernel
theorem dX5_copy_70 : decode cX5_copy 70 = .ok (.iconst 0, 1) := by decide +kernel
theorem dX5_copy_71 : decode cX5_copy 71 = .ok (.aload_n 1, 1) := by decide +kernel
theorem dX5_copy_72 : decode cX5_copy 72 = .ok (.getfield 29, 3) := by decide +kernel
theorem dX5_copy_75 : decode cX5_copy 75 = .ok (.iconst 0, 1) := by decide +kernel
theorem dX5_copy_76 : decode cX5_copy 76 = .ok (.iconst 5, 1) := by decide +kernel
theorem dX5_copy_77 : decode cX5_copy 77 = .ok (.invokestatic 47, 3) := by decide +kernel
theorem dX5_copy_80 : decode cX5_copy 80 = .ok (.aload_n 1, 1) := by decide +kernel
theorem dX5_copy_81 : decode cX5_copy 81 = .ok (.aload_n 0, 1) := by decide +kernel
theorem dX5_copy_82 : decode cX5_copy 82 = .ok (.getfield 53, 3) := by decide +kernel
theorem dX5_copy_85 : decode cX5_copy 85 = .ok (.putfield 53, 3) := by decide +kernel
theorem dX5_copy_88 : decode cX5_copy 88 = .ok (.aload_n 1, 1) := by decide +kernel
theorem dX5_copy_89 : decode cX5_copy 89 = .ok (.aload_n 0, 1) := by decide +kernel
theorem dX5_copy_90 : decode cX5_copy 90 = .ok (.getfield 56, 3) := by decide +kernel
theorem dX5_copy_93 : decode cX5_copy 93 = .ok (.putfield 56, 3) := by decide +kernel
theorem dX5_copy_96 : decode cX5_copy 96 = .ok (.aload_n 1, 1) := by decide +kernel
theorem dX5_copy_97 : decode cX5_copy 97 = .ok (.aload_n 0, 1) := by decide +kernel
theorem dX5_copy_98 : decode cX5_copy 98 = .ok (.getfield 59, 3) := by decide +kernel
theorem dX5_copy_101 : decode cX5_copy 101 = .ok (.putfield 59, 3) := by decide +kernel
theorem dX5_copy_104 : decode cX5_copy 104 = .ok (.aload_n 1, 1) := by decide +kernel
theorem dX5_copy_105 : decode cX5_copy 105 = .ok (.aload_n 0, 1) := by decide +kernel
theorem dX5_copy_106 : decode cX5_copy 106 = .ok (.getfield 62, 3) := by decide +kernel
theorem dX5_copy_109 : decode cX5_copy 109 = .ok (.putfield 62, 3) := by decide +kernel
theorem dX5_copy_112 : decode cX5_copy 112 = .ok (.aload_n 1, 1) := by decide +kernel
theorem dX5_copy_113 : decode cX5_copy 113 = .ok (.aload_n 0, 1) := by decide +kernel
theorem dX5_copy_114 : decode cX5_copy 114 = .ok (.getfield 65, 3) := by decide +kernel
theorem dX5_copy_117 : decode cX5_copy 117 = .ok (.putfield 65, 3) := by decide +kernel
theorem dX5_copy_120 : decode cX5_copy 120 = .ok (.aload_n 1, 1) := by decide +kernel
theorem dX5_copy_121 : decode cX5_copy 121 = .ok (.aload_n 0, 1) := by decide +kernel
theorem dX5_copy_122 : decode cX5_copy 122 = .ok (.getfield 32, 3) := by decide +kernel
theorem dX5_copy_125 : decode cX5_copy 125 = .ok (.putfield 32, 3) := by decide +kernel
theorem dX5_copy_128 : decode cX5_copy 128 = .ok (.aload_n 1, 1) := by decide +kernel
theorem dX5_copy_129 : decode cX5_copy 129 = .ok (.aload_n 0, 1) := by decide +kernel
theorem dX5_copy_130 : decode cX5_copy 130 = .ok (.getfield 36, 3) := by decide +kernel
theorem dX5_copy_133 : decode cX5_copy 133 = .ok (.putfield 36, 3) := by decide +kernel
theorem dX5_copy_136 : decode cX5_copy 136 = .ok (.aload_n 1, 1) := by decide +kernel
theorem dX5_copy_137 : decode cX5_copy 137 = .ok (.aload_n 0, 1) := by decide +kernel
theorem dX5_copy_138 : decode cX5_copy 138 = .ok (.getfield 39, 3) := by decide +kernel
theorem dX5_copy_141 : decode cX5_copy 141 = .ok (.putfield 39, 3) := by decide +kernel
theorem dX5_copy_144 : decode cX5_copy 144 = .ok (.aload_n 1, 1) := by decide +kernel
theorem dX5_copy_145 : decode cX5_copy 145 = .ok (.areturn, 1) := by decide +kernel
theorem dX5_rows_0 : decode cX5_rows 0 = .ok (.iconst 0, 1) := by decide +kernel
theorem dX5_rows_1 : decode cX5_rows 1 = .ok (.istore_n 2, 1) := by decide +kernel
theorem dX5_rows_2 : decode cX5_rows 2 = .ok (.iload_n 2, 1) := by decide +kernel
theorem dX5_rows_3 : decode cX5_rows 3 = .ok (.aload_n 0, 1) := by decide +kernel
theorem dX5_rows_4 : decode cX5_rows 4 = .ok (.arraylength, 1) := by decide +kernel
theorem dX5_rows_5 : decode cX5_rows 5 = .ok (.if_icmp .ge 24, 3) := by decide +kernel
theorem dX5_rows_8 : decode cX5_rows 8 = .ok (.aload_n 0, 1) := by decide +kernel
theorem dX5_rows_9 : decode cX5_rows 9 = .ok (.iload_n 2, 1) := by decide +kernel
theorem dX5_rows_10 : decode cX5_rows 10 = .ok (.aaload, 1) := by decide +kernel
theorem dX5_rows_11 : decode cX5_rows 11 = .ok (.iconst 0, 1) := by decide +kernel
theorem dX5_rows_12 : decode cX5_rows 12 = .ok (.aload_n 1, 1) := by decide +kernel
theorem dX5_rows_13 : decode cX5_rows 13 = .ok (.iload_n 2, 1) := by decide +kernel
theorem dX5_rows_14 : decode cX5_rows 14 = .ok (.aaload, 1) := by decide +kernel
theorem dX5_rows_15 : decode cX5_rows 15 = .ok (.iconst 0, 1) := by decide +kernel
theorem dX5_rows_16 : decode cX5_rows 16 = .ok (.aload_n 0, 1) := by decide +kernel
theorem dX5_rows_17 : decode cX5_rows 17 = .ok (.iload_n 2, 1) := by decide +kernel
theorem dX5_rows_18 : decode cX5_rows 18 = .ok (.aaload, 1) := by decide +kernel
theorem dX5_rows_19 : decode cX5_rows 19 = .ok (.arraylength, 1) := by decide +kernel
theorem dX5_rows_20 : decode cX5_rows 20 = .ok (.invokestatic 47, 3) := by decide +kernel
theorem dX5_rows_23 : decode cX5_rows 23 = .ok (.iinc 2 1, 3) := by decide +kernel
theorem dX5_rows_26 : decode cX5_rows 26 = .ok (.goto (-24), 3) := by decide +kernel
theorem dX5_rows_29 : decode cX5_rows 29 = .ok (.return_, 1) := by decide +kernel
theorem dX5_doubt_0 : decode cX5_doubt 0 = .ok (.iconst 0, 1) := by decide +kernel
theorem dX5_doubt_1 : decode cX5_doubt 1 = .ok (.istore_n 2, 1) := by decide +kernel
theorem dX5_doubt_2 : decode cX5_doubt 2 = .ok (.iconst 0, 1) := by decide +kernel
theorem dX5_doubt_3 : decode cX5_doubt 3 = .ok (.istore_n 3, 1) := by decide +kernel
theorem dX5_doubt_4 : decode cX5_doubt 4 = .ok (.iload_n 3, 1) := by decide +kernel
theorem dX5_doubt_5 : decode cX5_doubt 5 = .ok (.bipush 6, 2) := by decide +kernel
theorem dX5_doubt_7 : decode cX5_doubt 7 = .ok (.if_icmp .ge 29, 3) := by decide +kernel
theorem dX5_doubt_10 : decode cX5_doubt 10 = .ok (.iload_n 2, 1) := by decide +kernel
theorem dX5_doubt_11 : decode cX5_doubt 11 = .ok (.aload_n 0, 1) := by decide +kernel
theorem dX5_doubt_12 : decode cX5_doubt 12 = .ok (.getfield 19, 3) := by decide +kernel
theorem dX5_doubt_15 : decode cX5_doubt 15 = .ok (.iload_n 1, 1) := by decide +kernel
theorem dX5_doubt_16 : decode cX5_doubt 16 = .ok (.aaload, 1) := by decide +kernel
theorem dX5_doubt_17 : decode cX5_doubt 17 = .ok (.iload_n 3, 1) := by decide +kernel
theorem dX5_doubt_18 : decode cX5_doubt 18 = .ok (.iaload, 1) := by decide +kernel
theorem dX5_doubt_19 : decode cX5_doubt 19 = .ok (.aload_n 0, 1) := by decide +kernel
theorem dX5_doubt_20 : decode cX5_doubt 20 = .ok (.getfield 16, 3) := by decide +kernel
theorem dX5_doubt_23 : decode cX5_doubt 23 = .ok (.iload_n 1, 1) := by decide +kernel
theorem dX5_doubt_24 : decode cX5_doubt 24 = .ok (.aaload, 1) := by decide +kernel
theorem dX5_doubt_25 : decode cX5_doubt 25 = .ok (.iload_n 3, 1) := by decide +kernel
theorem dX5_doubt_26 : decode cX5_doubt 26 = .ok (.iaload, 1) := by decide +kernel
theorem dX5_doubt_27 : decode cX5_doubt 27 = .ok (.isub, 1) := by decide +kernel
theorem dX5_doubt_28 : decode cX5_doubt 28 = .ok (.iadd, 1) := by decide +kernel
theorem dX5_doubt_29 : decode cX5_doubt 29 = .ok (.istore_n 2, 1) := by decide +kernel
theorem dX5_doubt_30 : decode cX5_doubt 30 = .ok (.iinc 3 1, 3) := by decide +kernel
theorem dX5_doubt_33 : decode cX5_doubt 33 = .ok (.goto (-29), 3) := by decide +kernel
theorem dX5_doubt_36 : decode cX5_doubt 36 = .ok (.iload_n 2, 1) := by decide +kernel
theorem dX5_doubt_37 : decode cX5_doubt 37 = .ok (.bipush 6, 2) := by decide +kernel
theorem dX5_doubt_39 : decode cX5_doubt 39 = .ok (.idiv, 1) := by decide +kernel
theorem dX5_doubt_40 : decode cX5_doubt 40 = .ok (.ireturn, 1) := by decide +kernel
theorem dX5_height_0 : decode cX5_height 0 = .ok (.aload_n 0, 1) := by decide +kernel
theorem dX5_height_1 : decode cX5_height 1 = .ok (.getfield 16, 3) := by decide +kernel
theorem dX5_height_4 : decode cX5_height 4 = .ok (.iload_n 1, 1) := by decide +kernel
theorem dX5_height_5 : decode cX5_height 5 = .ok (.aaload, 1) := by decide +kernel
theorem dX5_height_6 : decode cX5_height 6 = .ok (.iconst 5, 1) := by decide +kernel
theorem dX5_height_7 : decode cX5_height 7 = .ok (.iaload, 1) := by decide +kernel
theorem dX5_height_8 : decode cX5_height 8 = .ok (.aload_n 0, 1) := by decide +kernel
theorem dX5_height_9 : decode cX5_height 9 = .ok (.getfield 19, 3) := by decide +kernel
theorem dX5_height_12 : decode cX5_height 12 = .ok (.iload_n 1, 1) := by decide +kernel
theorem dX5_height_13 : decode cX5_height 13 = .ok (.aaload, 1) := by decide +kernel
theorem dX5_height_14 : decode cX5_height 14 = .ok (.iconst 5, 1) := by decide +kernel
theorem dX5_height_15 : decode cX5_height 15 = .ok (.iaload, 1) := by decide +kernel
theorem dX5_height_16 : decode cX5_height 16 = .ok (.iadd, 1) := by decide +kernel
theorem dX5_height_17 : decode cX5_height 17 = .ok (.ireturn, 1) := by decide +kernel
theorem dX5_isDone_0 : decode cX5_isDone 0 = .ok (.aload_n 1, 1) := by decide +kernel
theorem dX5_isDone_1 : decode cX5_isDone 1 = .ok (.iconst 2, 1) := by decide +kernel
theorem dX5_isDone_2 : decode cX5_isDone 2 = .ok (.iaload, 1) := by decide +kernel
theorem dX5_isDone_3 : decode cX5_isDone 3 = .ok (.bipush 6, 2) := by decide +kernel
theorem dX5_isDone_5 : decode cX5_isDone 5 = .ok (.if_icmp .ne 16, 3) := by decide +kernel
theorem dX5_isDone_8 : decode cX5_isDone 8 = .ok (.aload_n 1, 1) := by decide +kernel
theorem dX5_isDone_9 : decode cX5_isDone 9 = .ok (.bipush 7, 2) := by decide +kernel
theorem dX5_isDone_11 : decode cX5_isDone 11 = .ok (.iaload, 1) := by decide +kernel
theorem dX5_isDone_12 : decode cX5_isDone 12 = .ok (.bipush 7, 2) := by decide +kernel
theorem dX5_isDone_14 : decode cX5_isDone 14 = .ok (.if_icmp .eq 7, 3) := by decide +kernel
theorem dX5_isDone_17 : decode cX5_isDone 17 = .ok (.iconst 1, 1) := by decide +kernel
theorem dX5_isDone_18 : decode cX5_isDone 18 = .ok (.goto 4, 3) := by decide +kernel
theorem dX5_isDone_21 : decode cX5_isDone 21 = .ok (.iconst 0, 1) := by decide +kernel
theorem dX5_isDone_22 : decode cX5_isDone 22 = .ok (.ireturn, 1) := by decide +kernel
set_option maxRecDepth 20000 in
theorem ggX5_likeness_X5_isDone : GoodIn wsX5_likeness wsX5_isDone := goodIn_r _ [12] (by decide +kernel) (by decide +kernel)
set_option maxRecDepth 20000 in
theorem gX5_likeness_X5_isDone : GoodIn wsX5_likeness (wsV RX5 68 RX5 yX5_isDone wsX5_isDone) := goodIn_app (goodIn_of _ (by decide +kernel)) ggX5_likeness_X5_isDone
set_option maxRecDepth 20000 in
theorem ggX5_likeness_X5_height : GoodIn wsX5_likeness wsX5_height := goodIn_r _ [16, 17, 18, 19, 20, 21, 22, 23, 24, 25, 26, 27, 28, 29, 30, 31, 32] (by decide +kernel) (by decide +kernel)
set_option maxRecDepth 20000 in
theorem gX5_likeness_X5_height : GoodIn wsX5_likeness (wsV RX5 72 RX5 yX5_height wsX5_height) := goodIn_app (goodIn_of _ (by decide +kernel)) ggX5_likeness_X5_height
theorem dX5_likeness_0 : decode cX5_likeness 0 = .ok (.aload_n 0, 1) := by decide +kernel
theorem dX5_likeness_1 : decode cX5_likeness 1 = .ok (.aload_n 1, 1) := by decide +kernel
theorem dX5_likeness_2 : decode cX5_likeness 2 = .ok (.invokevirtual 68, 3) := by decide +kernel
theorem dX5_likeness_5 : decode cX5_likeness 5 = .ok (.ifCond .ne 5, 3) := by decide +kernel
theorem dX5_likeness_8 : decode cX5_likeness 8 = .ok (.iconst 0, 1) := by decide +kernel
theorem dX5_likeness_9 : decode cX5_likeness 9 = .ok (.ireturn, 1) := by decide +kernel
theorem dX5_likeness_10 : decode cX5_likeness 10 = .ok (.aload_n 1, 1) := by decide +kernel
theorem dX5_likeness_11 : decode cX5_likeness 11 = .ok (.iconst 5, 1) := by decide +kernel
theorem dX5_likeness_12 : decode cX5_likeness 12 = .ok (.iaload, 1) := by decide +kernel
theorem dX5_likeness_13 : decode cX5_likeness 13 = .ok (.aload_n 1, 1) := by decide +kernel
theorem dX5_likeness_14 : decode cX5_likeness 14 = .ok (.bipush 6, 2) := by decide +kernel
theorem dX5_likeness_16 : decode cX5_likeness 16 = .ok (.iaload, 1) := by decide +kernel
theorem dX5_likeness_17 : decode cX5_likeness 17 = .ok (.iconst 2, 1) := by decide +kernel
theorem dX5_likeness_18 : decode cX5_likeness 18 = .ok (.idiv, 1) := by decide +kernel
theorem dX5_likeness_19 : decode cX5_likeness 19 = .ok (.iadd, 1) := by decide +kernel
theorem dX5_likeness_20 : decode cX5_likeness 20 = .ok (.aload_n 1, 1) := by decide +kernel
theorem dX5_likeness_21 : decode cX5_likeness 21 = .ok (.iconst 0, 1) := by decide +kernel
theorem dX5_likeness_22 : decode cX5_likeness 22 = .ok (.iaload, 1) := by decide +kernel
theorem dX5_likeness_23 : decode cX5_likeness 23 = .ok (.aload_n 1, 1) := by decide +kernel
theorem dX5_likeness_24 : decode cX5_likeness 24 = .ok (.iconst 1, 1) := by decide +kernel
theorem dX5_likeness_25 : decode cX5_likeness 25 = .ok (.iaload, 1) := by decide +kernel
theorem dX5_likeness_26 : decode cX5_likeness 26 = .ok (.if_icmp .ne 7, 3) := by decide +kernel
theorem dX5_likeness_29 : decode cX5_likeness 29 = .ok (.iconst 0, 1) := by decide +kernel
theorem dX5_likeness_30 : decode cX5_likeness 30 = .ok (.goto 23, 3) := by decide +kernel
theorem dX5_likeness_33 : decode cX5_likeness 33 = .ok (.aload_n 0, 1) := by decide +kernel
theorem dX5_likeness_34 : decode cX5_likeness 34 = .ok (.aload_n 1, 1) := by decide +kernel
theorem dX5_likeness_35 : decode cX5_likeness 35 = .ok (.iconst 0, 1) := by decide +kernel
theorem dX5_likeness_36 : decode cX5_likeness 36 = .ok (.iaload, 1) := by decide +kernel
theorem dX5_likeness_37 : decode cX5_likeness 37 = .ok (.invokevirtual 72, 3) := by decide +kernel
theorem dX5_likeness_40 : decode cX5_likeness 40 = .ok (.aload_n 0, 1) := by decide +kernel
theorem dX5_likeness_41 : decode cX5_likeness 41 = .ok (.aload_n 1, 1) := by decide +kernel
theorem dX5_likeness_42 : decode cX5_likeness 42 = .ok (.iconst 1, 1) := by decide +kernel
theorem dX5_likeness_43 : decode cX5_likeness 43 = .ok (.iaload, 1) := by decide +kernel
theorem dX5_likeness_44 : decode cX5_likeness 44 = .ok (.invokevirtual 72, 3) := by decide +kernel
theorem dX5_likeness_47 : decode cX5_likeness 47 = .ok (.isub, 1) := by decide +kernel
theorem dX5_likeness_48 : decode cX5_likeness 48 = .ok (.invokestatic 76, 3) := by decide +kernel
theorem dX5_likeness_51 : decode cX5_likeness 51 = .ok (.iconst 4, 1) := by decide +kernel
theorem dX5_likeness_52 : decode cX5_likeness 52 = .ok (.idiv, 1) := by decide +kernel
theorem dX5_likeness_53 : decode cX5_likeness 53 = .ok (.iadd, 1) := by decide +kernel
theorem dX5_likeness_54 : decode cX5_likeness 54 = .ok (.istore_n 2, 1) := by decide +kernel
theorem dX5_likeness_55 : decode cX5_likeness 55 = .ok (.iconst 0, 1) := by decide +kernel
theorem dX5_likeness_56 : decode cX5_likeness 56 = .ok (.bipush 100, 2) := by decide +kernel
theorem dX5_likeness_58 : decode cX5_likeness 58 = .ok (.iload_n 2, 1) := by decide +kernel
theorem dX5_likeness_59 : decode cX5_likeness 59 = .ok (.isub, 1) := by decide +kernel
theorem dX5_likeness_60 : decode cX5_likeness 60 = .ok (.invokestatic 81, 3) := by decide +kernel
theorem dX5_likeness_63 : decode cX5_likeness 63 = .ok (.ireturn, 1) := by decide +kernel
theorem dX5_isShown_0 : decode cX5_isShown 0 = .ok (.aload_n 1, 1) := by decide +kernel
theorem dX5_isShown_1 : decode cX5_isShown 1 = .ok (.bipush 7, 2) := by decide +kernel
theorem dX5_isShown_3 : decode cX5_isShown 3 = .ok (.iaload, 1) := by decide +kernel
theorem dX5_isShown_4 : decode cX5_isShown 4 = .ok (.iconst 5, 1) := by decide +kernel
theorem dX5_isShown_5 : decode cX5_isShown 5 = .ok (.if_icmp .ge 7, 3) := by decide +kernel
theorem dX5_isShown_8 : decode cX5_isShown 8 = .ok (.iconst 1, 1) := by decide +kernel
theorem dX5_isShown_9 : decode cX5_isShown 9 = .ok (.goto 4, 3) := by decide +kernel
theorem dX5_isShown_12 : decode cX5_isShown 12 = .ok (.iconst 0, 1) := by decide +kernel
theorem dX5_isShown_13 : decode cX5_isShown 13 = .ok (.ireturn, 1) := by decide +kernel
set_option maxRecDepth 20000 in
theorem ggX5_draw_X5_isShown : GoodIn wsX5_draw wsX5_isShown := goodIn_r _ [6] (by decide +kernel) (by decide +kernel)
set_option maxRecDepth 20000 in
theorem gX5_draw_X5_isShown : GoodIn wsX5_draw (wsV RX5 85 RX5 yX5_isShown wsX5_isShown) := goodIn_app (goodIn_of _ (by decide +kernel)) ggX5_draw_X5_isShown
set_option maxRecDepth 20000 in
theorem ggX5_draw_X5_likeness : GoodIn wsX5_draw wsX5_likeness := goodIn_r _ [10, 11, 12, 13, 14, 15, 16, 17, 18, 19, 20, 5, 21, 22, 23, 24, 25, 26, 27, 28, 29, 30, 31, 32, 33, 34, 35, 36, 37, 38, 39, 40, 41] (by decide +kernel) (by decide +kernel)
set_option maxRecDepth 20000 in
theorem gX5_draw_X5_likeness : GoodIn wsX5_draw (wsV RX5 88 RX5 yX5_likeness wsX5_likeness) := goodIn_app (goodIn_of _ (by decide +kernel)) ggX5_draw_X5_likeness
theorem dX5_draw_0 : decode cX5_draw 0 = .ok (.aload_n 0, 1) := by decide +kernel
theorem dX5_draw_1 : decode cX5_draw 1 = .ok (.aload_n 1, 1) := by decide +kernel
theorem dX5_draw_2 : decode cX5_draw 2 = .ok (.invokevirtual 85, 3) := by decide +kernel
theorem dX5_draw_5 : decode cX5_draw 5 = .ok (.ifCond .eq 25, 3) := by decide +kernel
theorem dX5_draw_8 : decode cX5_draw 8 = .ok (.aload_n 0, 1) := by decide +kernel
theorem dX5_draw_9 : decode cX5_draw 9 = .ok (.getfield 11, 3) := by decide +kernel
theorem dX5_draw_12 : decode cX5_draw 12 = .ok (.aload_n 1, 1) := by decide +kernel
theorem dX5_draw_13 : decode cX5_draw 13 = .ok (.iconst 0, 1) := by decide +kernel
theorem dX5_draw_14 : decode cX5_draw 14 = .ok (.iaload, 1) := by decide +kernel
theorem dX5_draw_15 : decode cX5_draw 15 = .ok (.aaload, 1) := by decide +kernel
theorem dX5_draw_16 : decode cX5_draw 16 = .ok (.iconst 0, 1) := by decide +kernel
theorem dX5_draw_17 : decode cX5_draw 17 = .ok (.iaload, 1) := by decide +kernel
theorem dX5_draw_18 : decode cX5_draw 18 = .ok (.aload_n 0, 1) := by decide +kernel
theorem dX5_draw_19 : decode cX5_draw 19 = .ok (.aload_n 1, 1) := by decide +kernel
theorem dX5_draw_20 : decode cX5_draw 20 = .ok (.invokevirtual 88, 3) := by decide +kernel
theorem dX5_draw_23 : decode cX5_draw 23 = .ok (.imul, 1) := by decide +kernel
theorem dX5_draw_24 : decode cX5_draw 24 = .ok (.bipush 100, 2) := by decide +kernel
theorem dX5_draw_26 : decode cX5_draw 26 = .ok (.idiv, 1) := by decide +kernel
theorem dX5_draw_27 : decode cX5_draw 27 = .ok (.goto 4, 3) := by decide +kernel
theorem dX5_draw_30 : decode cX5_draw 30 = .ok (.iconst 0, 1) := by decide +kernel
theorem dX5_draw_31 : decode cX5_draw 31 = .ok (.ireturn, 1) := by decide +kernel
set_option maxRecDepth 20000 in
theorem ggX5_drawsIn_X6_in : GoodIn wsX5_drawsIn wsX6_in := goodIn_r _ [5] (by decide +kernel) (by decide +kernel)
set_option maxRecDepth 20000 in
theorem gX5_drawsIn_X6_in_n92 : GoodIn wsX5_drawsIn (wsX6_in) := ggX5_drawsIn_X6_in
set_option maxRecDepth 20000 in
theorem ggX5_drawsIn_X5_draw : GoodIn wsX5_drawsIn wsX5_draw := goodIn_r _ [10, 11, 12, 13, 14, 9, 15, 16, 17, 18, 19, 20, 21, 22, 23, 24, 25, 26, 27, 28, 29, 30, 31, 32, 33, 34, 35, 36, 37, 38, 39, 40, 41, 42, 43, 44, 45, 46, 47, 48, 49, 50] (by decide +kernel) (by decide +kernel)
set_option maxRecDepth 20000 in
theorem gX5_drawsIn_X5_draw : GoodIn wsX5_drawsIn (wsV RX5 96 RX5 yX5_draw wsX5_draw) := goodIn_app (goodIn_of _ (by decide +kernel)) ggX5_drawsIn_X5_draw
theorem dX5_drawsIn_0 : decode cX5_drawsIn 0 = .ok (.iconst 0, 1) := by decide +kernel
theorem dX5_drawsIn_1 : decode cX5_drawsIn 1 = .ok (.istore_n 3, 1) := by decide +kernel
theorem dX5_drawsIn_2 : decode cX5_drawsIn 2 = .ok (.iconst 0, 1) := by decide +kernel
theorem dX5_drawsIn_3 : decode cX5_drawsIn 3 = .ok (.istore 4, 2) := by decide +kernel
theorem dX5_drawsIn_5 : decode cX5_drawsIn 5 = .ok (.iload 4, 2) := by decide +kernel
theorem dX5_drawsIn_7 : decode cX5_drawsIn 7 = .ok (.aload_n 0, 1) := by decide +kernel
theorem dX5_drawsIn_8 : decode cX5_drawsIn 8 = .ok (.getfield 56, 3) := by decide +kernel
theorem dX5_drawsIn_11 : decode cX5_drawsIn 11 = .ok (.if_icmp .ge 45, 3) := by decide +kernel
theorem dX5_drawsIn_14 : decode cX5_drawsIn 14 = .ok (.iload_n 3, 1) := by decide +kernel
theorem dX5_drawsIn_15 : decode cX5_drawsIn 15 = .ok (.aload_n 0, 1) := by decide +kernel
theorem dX5_drawsIn_16 : decode cX5_drawsIn 16 = .ok (.getfield 22, 3) := by decide +kernel
theorem dX5_drawsIn_19 : decode cX5_drawsIn 19 = .ok (.iload 4, 2) := by decide +kernel
theorem dX5_drawsIn_21 : decode cX5_drawsIn 21 = .ok (.aaload, 1) := by decide +kernel
theorem dX5_drawsIn_22 : decode cX5_drawsIn 22 = .ok (.bipush 7, 2) := by decide +kernel
theorem dX5_drawsIn_24 : decode cX5_drawsIn 24 = .ok (.iaload, 1) := by decide +kernel
theorem dX5_drawsIn_25 : decode cX5_drawsIn 25 = .ok (.iload_n 1, 1) := by decide +kernel
theorem dX5_drawsIn_26 : decode cX5_drawsIn 26 = .ok (.iload_n 2, 1) := by decide +kernel
theorem dX5_drawsIn_27 : decode cX5_drawsIn 27 = .ok (.invokestatic 92, 3) := by decide +kernel
theorem dX5_drawsIn_30 : decode cX5_drawsIn 30 = .ok (.ifCond .eq 17, 3) := by decide +kernel
theorem dX5_drawsIn_33 : decode cX5_drawsIn 33 = .ok (.aload_n 0, 1) := by decide +kernel
theorem dX5_drawsIn_34 : decode cX5_drawsIn 34 = .ok (.aload_n 0, 1) := by decide +kernel
theorem dX5_drawsIn_35 : decode cX5_drawsIn 35 = .ok (.getfield 22, 3) := by decide +kernel
theorem dX5_drawsIn_38 : decode cX5_drawsIn 38 = .ok (.iload 4, 2) := by decide +kernel
theorem dX5_drawsIn_40 : decode cX5_drawsIn 40 = .ok (.aaload, 1) := by decide +kernel
theorem dX5_drawsIn_41 : decode cX5_drawsIn 41 = .ok (.invokevirtual 96, 3) := by decide +kernel
theorem dX5_drawsIn_44 : decode cX5_drawsIn 44 = .ok (.goto 4, 3) := by decide +kernel
theorem dX5_drawsIn_47 : decode cX5_drawsIn 47 = .ok (.iconst 0, 1) := by decide +kernel
theorem dX5_drawsIn_48 : decode cX5_drawsIn 48 = .ok (.iadd, 1) := by decide +kernel
theorem dX5_drawsIn_49 : decode cX5_drawsIn 49 = .ok (.istore_n 3, 1) := by decide +kernel
theorem dX5_drawsIn_50 : decode cX5_drawsIn 50 = .ok (.iinc 4 1, 3) := by decide +kernel
theorem dX5_drawsIn_53 : decode cX5_drawsIn 53 = .ok (.goto (-48), 3) := by decide +kernel
theorem dX5_drawsIn_56 : decode cX5_drawsIn 56 = .ok (.iload_n 3, 1) := by decide +kernel
theorem dX5_drawsIn_57 : decode cX5_drawsIn 57 = .ok (.ireturn, 1) := by decide +kernel
theorem dX5_shownIn_0 : decode cX5_shownIn 0 = .ok (.iconst 0, 1) := by decide +kernel
theorem dX5_shownIn_1 : decode cX5_shownIn 1 = .ok (.istore_n 2, 1) := by decide +kernel
theorem dX5_shownIn_2 : decode cX5_shownIn 2 = .ok (.iconst 0, 1) := by decide +kernel
theorem dX5_shownIn_3 : decode cX5_shownIn 3 = .ok (.istore_n 3, 1) := by decide +kernel
theorem dX5_shownIn_4 : decode cX5_shownIn 4 = .ok (.iload_n 3, 1) := by decide +kernel
theorem dX5_shownIn_5 : decode cX5_shownIn 5 = .ok (.aload_n 0, 1) := by decide +kernel
theorem dX5_shownIn_6 : decode cX5_shownIn 6 = .ok (.getfield 56, 3) := by decide +kernel
theorem dX5_shownIn_9 : decode cX5_shownIn 9 = .ok (.if_icmp .ge 30, 3) := by decide +kernel
theorem dX5_shownIn_12 : decode cX5_shownIn 12 = .ok (.iload_n 2, 1) := by decide +kernel
theorem dX5_shownIn_13 : decode cX5_shownIn 13 = .ok (.aload_n 0, 1) := by decide +kernel
theorem dX5_shownIn_14 : decode cX5_shownIn 14 = .ok (.getfield 22, 3) := by decide +kernel
theorem dX5_shownIn_17 : decode cX5_shownIn 17 = .ok (.iload_n 3, 1) := by decide +kernel
theorem dX5_shownIn_18 : decode cX5_shownIn 18 = .ok (.aaload, 1) := by decide +kernel
theorem dX5_shownIn_19 : decode cX5_shownIn 19 = .ok (.bipush 7, 2) := by decide +kernel
theorem dX5_shownIn_21 : decode cX5_shownIn 21 = .ok (.iaload, 1) := by decide +kernel
theorem dX5_shownIn_22 : decode cX5_shownIn 22 = .ok (.iload_n 1, 1) := by decide +kernel
theorem dX5_shownIn_23 : decode cX5_shownIn 23 = .ok (.if_icmp .ne 7, 3) := by decide +kernel
theorem dX5_shownIn_26 : decode cX5_shownIn 26 = .ok (.iconst 1, 1) := by decide +kernel
theorem dX5_shownIn_27 : decode cX5_shownIn 27 = .ok (.goto 4, 3) := by decide +kernel
theorem dX5_shownIn_30 : decode cX5_shownIn 30 = .ok (.iconst 0, 1) := by decide +kernel
theorem dX5_shownIn_31 : decode cX5_shownIn 31 = .ok (.iadd, 1) := by decide +kernel
theorem dX5_shownIn_32 : decode cX5_shownIn 32 = .ok (.istore_n 2, 1) := by decide +kernel
theorem dX5_shownIn_33 : decode cX5_shownIn 33 = .ok (.iinc 3 1, 3) := by decide +kernel
theorem dX5_shownIn_36 : decode cX5_shownIn 36 = .ok (.goto (-32), 3) := by decide +kernel
theorem dX5_shownIn_39 : decode cX5_shownIn 39 = .ok (.iload_n 2, 1) := by decide +kernel
theorem dX5_shownIn_40 : decode cX5_shownIn 40 = .ok (.ireturn, 1) := by decide +kernel
set_option maxRecDepth 20000 in
theorem ggX5_shownOf_X5_isShown : GoodIn wsX5_shownOf wsX5_isShown := goodIn_r _ [7] (by decide +kernel) (by decide +kernel)
set_option maxRecDepth 20000 in
theorem gX5_shownOf_X5_isShown : GoodIn wsX5_shownOf (wsV RX5 85 RX5 yX5_isShown wsX5_isShown) := goodIn_app (goodIn_of _ (by decide +kernel)) ggX5_shownOf_X5_isShown
theorem dX5_shownOf_0 : decode cX5_shownOf 0 = .ok (.iconst 0, 1) := by decide +kernel
theorem dX5_shownOf_1 : decode cX5_shownOf 1 = .ok (.istore_n 2, 1) := by decide +kernel
theorem dX5_shownOf_2 : decode cX5_shownOf 2 = .ok (.iload_n 2, 1) := by decide +kernel
theorem dX5_shownOf_3 : decode cX5_shownOf 3 = .ok (.aload_n 0, 1) := by decide +kernel
theorem dX5_shownOf_4 : decode cX5_shownOf 4 = .ok (.getfield 56, 3) := by decide +kernel
theorem dX5_shownOf_7 : decode cX5_shownOf 7 = .ok (.if_icmp .ge 36, 3) := by decide +kernel
theorem dX5_shownOf_10 : decode cX5_shownOf 10 = .ok (.aload_n 0, 1) := by decide +kernel
theorem dX5_shownOf_11 : decode cX5_shownOf 11 = .ok (.aload_n 0, 1) := by decide +kernel
theorem dX5_shownOf_12 : decode cX5_shownOf 12 = .ok (.getfield 22, 3) := by decide +kernel
theorem dX5_shownOf_15 : decode cX5_shownOf 15 = .ok (.iload_n 2, 1) := by decide +kernel
theorem dX5_shownOf_16 : decode cX5_shownOf 16 = .ok (.aaload, 1) := by decide +kernel
theorem dX5_shownOf_17 : decode cX5_shownOf 17 = .ok (.invokevirtual 85, 3) := by decide +kernel
theorem dX5_shownOf_20 : decode cX5_shownOf 20 = .ok (.ifCond .eq 17, 3) := by decide +kernel
theorem dX5_shownOf_23 : decode cX5_shownOf 23 = .ok (.aload_n 0, 1) := by decide +kernel
theorem dX5_shownOf_24 : decode cX5_shownOf 24 = .ok (.getfield 22, 3) := by decide +kernel
theorem dX5_shownOf_27 : decode cX5_shownOf 27 = .ok (.iload_n 2, 1) := by decide +kernel
theorem dX5_shownOf_28 : decode cX5_shownOf 28 = .ok (.aaload, 1) := by decide +kernel
theorem dX5_shownOf_29 : decode cX5_shownOf 29 = .ok (.iconst 0, 1) := by decide +kernel
theorem dX5_shownOf_30 : decode cX5_shownOf 30 = .ok (.iaload, 1) := by decide +kernel
theorem dX5_shownOf_31 : decode cX5_shownOf 31 = .ok (.iload_n 1, 1) := by decide +kernel
theorem dX5_shownOf_32 : decode cX5_shownOf 32 = .ok (.if_icmp .ne 5, 3) := by decide +kernel
theorem dX5_shownOf_35 : decode cX5_shownOf 35 = .ok (.iload_n 2, 1) := by decide +kernel
theorem dX5_shownOf_36 : decode cX5_shownOf 36 = .ok (.ireturn, 1) := by decide +kernel
theorem dX5_shownOf_37 : decode cX5_shownOf 37 = .ok (.iinc 2 1, 3) := by decide +kernel
theorem dX5_shownOf_40 : decode cX5_shownOf 40 = .ok (.goto (-38), 3) := by decide +kernel
theorem dX5_shownOf_43 : decode cX5_shownOf 43 = .ok (.iconst (-1), 1) := by decide +kernel
theorem dX5_shownOf_44 : decode cX5_shownOf 44 = .ok (.ireturn, 1) := by decide +kernel
theorem dX5_hands_0 : decode cX5_hands 0 = .ok (.iconst 0, 1) := by decide +kernel
theorem dX5_hands_1 : decode cX5_hands 1 = .ok (.istore_n 1, 1) := by decide +kernel
theorem dX5_hands_2 : decode cX5_hands 2 = .ok (.iconst 0, 1) := by decide +kernel
theorem dX5_hands_3 : decode cX5_hands 3 = .ok (.istore_n 2, 1) := by decide +kernel
theorem dX5_hands_4 : decode cX5_hands 4 = .ok (.iload_n 2, 1) := by decide +kernel
theorem dX5_hands_5 : decode cX5_hands 5 = .ok (.aload_n 0, 1) := by decide +kernel
theorem dX5_hands_6 : decode cX5_hands 6 = .ok (.getfield 56, 3) := by decide +kernel
theorem dX5_hands_9 : decode cX5_hands 9 = .ok (.if_icmp .ge 20, 3) := by decide +kernel
theorem dX5_hands_12 : decode cX5_hands 12 = .ok (.iload_n 1, 1) := by decide +kernel
theorem dX5_hands_13 : decode cX5_hands 13 = .ok (.aload_n 0, 1) := by decide +kernel
theorem dX5_hands_14 : decode cX5_hands 14 = .ok (.getfield 22, 3) := by decide +kernel
theorem dX5_hands_17 : decode cX5_hands 17 = .ok (.iload_n 2, 1) := by decide +kernel
theorem dX5_hands_18 : decode cX5_hands 18 = .ok (.aaload, 1) := by decide +kernel
theorem dX5_hands_19 : decode cX5_hands 19 = .ok (.iconst 4, 1) := by decide +kernel
theorem dX5_hands_20 : decode cX5_hands 20 = .ok (.iaload, 1) := by decide +kernel
theorem dX5_hands_21 : decode cX5_hands 21 = .ok (.iadd, 1) := by decide +kernel
theorem dX5_hands_22 : decode cX5_hands 22 = .ok (.istore_n 1, 1) := by decide +kernel
theorem dX5_hands_23 : decode cX5_hands 23 = .ok (.iinc 2 1, 3) := by decide +kernel
theorem dX5_hands_26 : decode cX5_hands 26 = .ok (.goto (-22), 3) := by decide +kernel
theorem dX5_hands_29 : decode cX5_hands 29 = .ok (.iload_n 1, 1) := by decide +kernel
theorem dX5_hands_30 : decode cX5_hands 30 = .ok (.ireturn, 1) := by decide +kernel
set_option maxRecDepth 20000 in
theorem ggX5_month_X6_held : GoodIn wsX5_month wsX6_held := goodIn_r _ [3, 4, 5, 6, 7, 8, 9, 10] (by decide +kernel) (by decide +kernel)
set_option maxRecDepth 20000 in
theorem gX5_month_X6_held_n99 : GoodIn wsX5_month (wsX6_held) := ggX5_month_X6_held
set_option maxRecDepth 20000 in
theorem ggX5_month_J6_signum_0f7a4 : GoodIn wsX5_month wsJ6_signum_0f7a4 := goodIn_r _ [14] (by decide +kernel) (by decide +kernel)
set_option maxRecDepth 20000 in
theorem gX5_month_J6_signum_0f7a4 : GoodIn wsX5_month (va_wsS RX5 102 yJ6_signum_0f7a4 wsJ6_signum_0f7a4) := goodIn_app (goodIn_of _ (by decide +kernel)) ggX5_month_J6_signum_0f7a4
theorem dX5_month_0 : decode cX5_month 0 = .ok (.aload_n 0, 1) := by decide +kernel
theorem dX5_month_1 : decode cX5_month 1 = .ok (.iload_n 1, 1) := by decide +kernel
theorem dX5_month_2 : decode cX5_month 2 = .ok (.aload_n 0, 1) := by decide +kernel
theorem dX5_month_3 : decode cX5_month 3 = .ok (.iload_n 1, 1) := by decide +kernel
theorem dX5_month_4 : decode cX5_month 4 = .ok (.iaload, 1) := by decide +kernel
theorem dX5_month_5 : decode cX5_month 5 = .ok (.aload_n 0, 1) := by decide +kernel
theorem dX5_month_6 : decode cX5_month 6 = .ok (.iconst 3, 1) := by decide +kernel
theorem dX5_month_7 : decode cX5_month 7 = .ok (.iload_n 1, 1) := by decide +kernel
theorem dX5_month_8 : decode cX5_month 8 = .ok (.iadd, 1) := by decide +kernel
theorem dX5_month_9 : decode cX5_month 9 = .ok (.iaload, 1) := by decide +kernel
theorem dX5_month_10 : decode cX5_month 10 = .ok (.iadd, 1) := by decide +kernel
theorem dX5_month_11 : decode cX5_month 11 = .ok (.sipush 999, 3) := by decide +kernel
theorem dX5_month_14 : decode cX5_month 14 = .ok (.invokestatic 99, 3) := by decide +kernel
theorem dX5_month_17 : decode cX5_month 17 = .ok (.iastore, 1) := by decide +kernel
theorem dX5_month_18 : decode cX5_month 18 = .ok (.aload_n 0, 1) := by decide +kernel
theorem dX5_month_19 : decode cX5_month 19 = .ok (.iconst 3, 1) := by decide +kernel
theorem dX5_month_20 : decode cX5_month 20 = .ok (.iload_n 1, 1) := by decide +kernel
theorem dX5_month_21 : decode cX5_month 21 = .ok (.iadd, 1) := by decide +kernel
theorem dX5_month_22 : decode cX5_month 22 = .ok (.dup2, 1) := by decide +kernel
theorem dX5_month_23 : decode cX5_month 23 = .ok (.iaload, 1) := by decide +kernel
theorem dX5_month_24 : decode cX5_month 24 = .ok (.aload_n 0, 1) := by decide +kernel
theorem dX5_month_25 : decode cX5_month 25 = .ok (.iconst 3, 1) := by decide +kernel
theorem dX5_month_26 : decode cX5_month 26 = .ok (.iload_n 1, 1) := by decide +kernel
theorem dX5_month_27 : decode cX5_month 27 = .ok (.iadd, 1) := by decide +kernel
theorem dX5_month_28 : decode cX5_month 28 = .ok (.iaload, 1) := by decide +kernel
theorem dX5_month_29 : decode cX5_month 29 = .ok (.invokestatic 102, 3) := by decide +kernel
theorem dX5_month_32 : decode cX5_month 32 = .ok (.isub, 1) := by decide +kernel
theorem dX5_month_33 : decode cX5_month 33 = .ok (.iastore, 1) := by decide +kernel
theorem dX5_month_34 : decode cX5_month 34 = .ok (.return_, 1) := by decide +kernel
set_option maxRecDepth 20000 in
theorem ggX5_work_X6_needs : GoodIn wsX5_work wsX6_needs := goodIn_r _ [3, 4] (by decide +kernel) (by decide +kernel)
set_option maxRecDepth 20000 in
theorem gX5_work_X6_needs_n107 : GoodIn wsX5_work (wsX6_needs) := ggX5_work_X6_needs
set_option maxRecDepth 20000 in
theorem ggX5_work_X5_doubt : GoodIn wsX5_work wsX5_doubt := goodIn_r _ [9, 10, 11, 12, 13, 14, 15, 16, 17, 18, 19, 20, 21, 22, 23, 24, 25] (by decide +kernel) (by decide +kernel)
set_option maxRecDepth 20000 in
theorem gX5_work_X5_doubt : GoodIn wsX5_work (wsV RX5 110 RX5 yX5_doubt wsX5_doubt) := goodIn_app (goodIn_of _ (by decide +kernel)) ggX5_work_X5_doubt
theorem dX5_work_0 : decode cX5_work 0 = .ok (.aload_n 1, 1) := by decide +kernel
theorem dX5_work_1 : decode cX5_work 1 = .ok (.iconst 4, 1) := by decide +kernel
theorem dX5_work_2 : decode cX5_work 2 = .ok (.iaload, 1) := by decide +kernel
theorem dX5_work_3 : decode cX5_work 3 = .ok (.istore_n 2, 1) := by decide +kernel
theorem dX5_work_4 : decode cX5_work 4 = .ok (.iload_n 2, 1) := by decide +kernel
theorem dX5_work_5 : decode cX5_work 5 = .ok (.aload_n 1, 1) := by decide +kernel
theorem dX5_work_6 : decode cX5_work 6 = .ok (.iconst 3, 1) := by decide +kernel
theorem dX5_work_7 : decode cX5_work 7 = .ok (.iaload, 1) := by decide +kernel
theorem dX5_work_8 : decode cX5_work 8 = .ok (.if_icmp .lt 53, 3) := by decide +kernel
theorem dX5_work_11 : decode cX5_work 11 = .ok (.aload_n 1, 1) := by decide +kernel
theorem dX5_work_12 : decode cX5_work 12 = .ok (.iconst 2, 1) := by decide +kernel
theorem dX5_work_13 : decode cX5_work 13 = .ok (.iaload, 1) := by decide +kernel
theorem dX5_work_14 : decode cX5_work 14 = .ok (.bipush 6, 2) := by decide +kernel
theorem dX5_work_16 : decode cX5_work 16 = .ok (.if_icmp .ge 45, 3) := by decide +kernel
theorem dX5_work_19 : decode cX5_work 19 = .ok (.iload_n 2, 1) := by decide +kernel
theorem dX5_work_20 : decode cX5_work 20 = .ok (.aload_n 1, 1) := by decide +kernel
theorem dX5_work_21 : decode cX5_work 21 = .ok (.iconst 3, 1) := by decide +kernel
theorem dX5_work_22 : decode cX5_work 22 = .ok (.iaload, 1) := by decide +kernel
theorem dX5_work_23 : decode cX5_work 23 = .ok (.isub, 1) := by decide +kernel
theorem dX5_work_24 : decode cX5_work 24 = .ok (.istore_n 2, 1) := by decide +kernel
theorem dX5_work_25 : decode cX5_work 25 = .ok (.aload_n 1, 1) := by decide +kernel
theorem dX5_work_26 : decode cX5_work 26 = .ok (.iconst 2, 1) := by decide +kernel
theorem dX5_work_27 : decode cX5_work 27 = .ok (.dup2, 1) := by decide +kernel
theorem dX5_work_28 : decode cX5_work 28 = .ok (.iaload, 1) := by decide +kernel
theorem dX5_work_29 : decode cX5_work 29 = .ok (.iconst 1, 1) := by decide +kernel
theorem dX5_work_30 : decode cX5_work 30 = .ok (.iadd, 1) := by decide +kernel
theorem dX5_work_31 : decode cX5_work 31 = .ok (.iastore, 1) := by decide +kernel
theorem dX5_work_32 : decode cX5_work 32 = .ok (.aload_n 1, 1) := by decide +kernel
theorem dX5_work_33 : decode cX5_work 33 = .ok (.iconst 3, 1) := by decide +kernel
theorem dX5_work_34 : decode cX5_work 34 = .ok (.aload_n 1, 1) := by decide +kernel
theorem dX5_work_35 : decode cX5_work 35 = .ok (.iconst 2, 1) := by decide +kernel
theorem dX5_work_36 : decode cX5_work 36 = .ok (.iaload, 1) := by decide +kernel
theorem dX5_work_37 : decode cX5_work 37 = .ok (.invokestatic 107, 3) := by decide +kernel
theorem dX5_work_40 : decode cX5_work 40 = .ok (.iastore, 1) := by decide +kernel
theorem dX5_work_41 : decode cX5_work 41 = .ok (.aload_n 1, 1) := by decide +kernel
theorem dX5_work_42 : decode cX5_work 42 = .ok (.iconst 2, 1) := by decide +kernel
theorem dX5_work_43 : decode cX5_work 43 = .ok (.iaload, 1) := by decide +kernel
theorem dX5_work_44 : decode cX5_work 44 = .ok (.iconst 1, 1) := by decide +kernel
theorem dX5_work_45 : decode cX5_work 45 = .ok (.if_icmp .ne (-41), 3) := by decide +kernel
theorem dX5_work_48 : decode cX5_work 48 = .ok (.aload_n 1, 1) := by decide +kernel
theorem dX5_work_49 : decode cX5_work 49 = .ok (.iconst 5, 1) := by decide +kernel
theorem dX5_work_50 : decode cX5_work 50 = .ok (.aload_n 0, 1) := by decide +kernel
theorem dX5_work_51 : decode cX5_work 51 = .ok (.aload_n 1, 1) := by decide +kernel
theorem dX5_work_52 : decode cX5_work 52 = .ok (.iconst 0, 1) := by decide +kernel
theorem dX5_work_53 : decode cX5_work 53 = .ok (.iaload, 1) := by decide +kernel
theorem dX5_work_54 : decode cX5_work 54 = .ok (.invokevirtual 110, 3) := by decide +kernel
theorem dX5_work_57 : decode cX5_work 57 = .ok (.iastore, 1) := by decide +kernel
theorem dX5_work_58 : decode cX5_work 58 = .ok (.goto (-54), 3) := by decide +kernel
theorem dX5_work_61 : decode cX5_work 61 = .ok (.aload_n 1, 1) := by decide +kernel
theorem dX5_work_62 : decode cX5_work 62 = .ok (.iconst 2, 1) := by decide +kernel
theorem dX5_work_63 : decode cX5_work 63 = .ok (.iaload, 1) := by decide +kernel
theorem dX5_work_64 : decode cX5_work 64 = .ok (.bipush 6, 2) := by decide +kernel
theorem dX5_work_66 : decode cX5_work 66 = .ok (.if_icmp .ge 12, 3) := by decide +kernel
theorem dX5_work_69 : decode cX5_work 69 = .ok (.aload_n 1, 1) := by decide +kernel
theorem dX5_work_70 : decode cX5_work 70 = .ok (.iconst 3, 1) := by decide +kernel
theorem dX5_work_71 : decode cX5_work 71 = .ok (.dup2, 1) := by decide +kernel
theorem dX5_work_72 : decode cX5_work 72 = .ok (.iaload, 1) := by decide +kernel
theorem dX5_work_73 : decode cX5_work 73 = .ok (.iload_n 2, 1) := by decide +kernel
theorem dX5_work_74 : decode cX5_work 74 = .ok (.isub, 1) := by decide +kernel
theorem dX5_work_75 : decode cX5_work 75 = .ok (.iastore, 1) := by decide +kernel
theorem dX5_work_76 : decode cX5_work 76 = .ok (.iconst 0, 1) := by decide +kernel
theorem dX5_work_77 : decode cX5_work 77 = .ok (.ireturn, 1) := by decide +kernel
theorem dX5_work_78 : decode cX5_work 78 = .ok (.aload_n 1, 1) := by decide +kernel
theorem dX5_work_79 : decode cX5_work 79 = .ok (.iconst 4, 1) := by decide +kernel
theorem dX5_work_80 : decode cX5_work 80 = .ok (.iconst 0, 1) := by decide +kernel
theorem dX5_work_81 : decode cX5_work 81 = .ok (.iastore, 1) := by decide +kernel
theorem dX5_work_82 : decode cX5_work 82 = .ok (.iconst 1, 1) := by decide +kernel
theorem dX5_work_83 : decode cX5_work 83 = .ok (.ireturn, 1) := by decide +kernel
set_option maxRecDepth 20000 in
theorem ggX5_go_X5_month : GoodIn wsX5_go wsX5_month := goodIn_r _ [13, 14, 15, 16, 17, 18, 19, 20, 21, 22, 23, 24, 25, 26, 27] (by decide +kernel) (by decide +kernel)
set_option maxRecDepth 20000 in
theorem gX5_go_X5_month : GoodIn wsX5_go (va_wsS RX5 113 yX5_month wsX5_month) := goodIn_app (goodIn_of _ (by decide +kernel)) ggX5_go_X5_month
set_option maxRecDepth 20000 in
theorem ggX5_go_X5_work : GoodIn wsX5_go wsX5_work := goodIn_r _ [31, 32, 15, 33, 9, 34, 35, 36, 12, 37, 38, 39, 80, 81, 82, 83, 84, 85, 86, 87, 88, 89, 90, 91, 92, 93] (by decide +kernel) (by decide +kernel)
set_option maxRecDepth 20000 in
theorem gX5_go_X5_work : GoodIn wsX5_go (wsV RX5 117 RX5 yX5_work wsX5_work) := goodIn_app (goodIn_of _ (by decide +kernel)) ggX5_go_X5_work
set_option maxRecDepth 20000 in
theorem ggX5_go_X5_drawsIn : GoodIn wsX5_go wsX5_drawsIn := goodIn_r _ [43, 4, 5, 44, 15, 45, 46, 47, 48, 12, 49, 3, 50, 51, 52, 53, 54, 55, 56, 57, 58, 59, 19, 60, 61, 22, 23, 62, 63, 64, 65, 66, 67, 68, 69, 39, 38, 80, 81, 82, 83, 84, 85, 86, 87, 88, 89, 90, 91, 92, 93] (by decide +kernel) (by decide +kernel)
set_option maxRecDepth 20000 in
theorem gX5_go_X5_drawsIn : GoodIn wsX5_go (wsV RX5 120 RX5 yX5_drawsIn wsX5_drawsIn) := goodIn_app (goodIn_of _ (by decide +kernel)) ggX5_go_X5_drawsIn
set_option maxRecDepth 20000 in
theorem ggX5_go_X5_draw : GoodIn wsX5_go wsX5_draw := goodIn_r _ [49, 3, 50, 51, 52, 12, 53, 54, 55, 56, 57, 58, 59, 19, 60, 61, 22, 23, 62, 63, 64, 65, 66, 67, 68, 69, 39, 38, 80, 81, 82, 83, 84, 85, 86, 87, 88, 89, 90, 91, 92, 93] (by decide +kernel) (by decide +kernel)
set_option maxRecDepth 20000 in
theorem gX5_go_X5_draw : GoodIn wsX5_go (wsV RX5 96 RX5 yX5_draw wsX5_draw) := goodIn_app (goodIn_of _ (by decide +kernel)) ggX5_go_X5_draw
set_option maxRecDepth 20000 in
theorem ggX5_go_X5_isShown : GoodIn wsX5_go wsX5_isShown := goodIn_r _ [53] (by decide +kernel) (by decide +kernel)
set_option maxRecDepth 20000 in
theorem gX5_go_X5_isShown : GoodIn wsX5_go (wsV RX5 85 RX5 yX5_isShown wsX5_isShown) := goodIn_app (goodIn_of _ (by decide +kernel)) ggX5_go_X5_isShown
set_option maxRecDepth 20000 in
theorem ggX5_go_X5_wear : GoodIn wsX5_go wsX5_wear := goodIn_r _ [73, 74, 3, 61, 22, 19, 23, 14, 15, 16, 17, 18, 20, 21, 80, 81, 82, 83, 84, 85, 86, 87, 88, 89, 90, 91, 92, 93] (by decide +kernel) (by decide +kernel)
set_option maxRecDepth 20000 in
theorem gX5_go_X5_wear : GoodIn wsX5_go (wsV RX5 123 RX5 yX5_wear wsX5_wear) := goodIn_app (goodIn_of _ (by decide +kernel)) ggX5_go_X5_wear
set_option maxRecDepth 20000 in
theorem ggX5_go_X5_travel : GoodIn wsX5_go wsX5_travel := goodIn_r _ [78, 8, 3, 79, 18, 19, 20, 54, 55, 56, 12, 57, 58, 59, 60, 61, 22, 23, 62, 63, 64, 65, 66, 67, 68, 69, 39, 38, 80, 81, 82, 83, 84, 85, 86, 87, 88, 89, 90, 91, 92, 93] (by decide +kernel) (by decide +kernel)
set_option maxRecDepth 20000 in
theorem gX5_go_X5_travel : GoodIn wsX5_go (wsV RX5 127 RX5 yX5_travel wsX5_travel) := goodIn_app (goodIn_of _ (by decide +kernel)) ggX5_go_X5_travel
theorem dX5_go_0 : decode cX5_go 0 = .ok (.aload_n 0, 1) := by decide +kernel
theorem dX5_go_1 : decode cX5_go 1 = .ok (.dup, 1) := by decide +kernel
theorem dX5_go_2 : decode cX5_go 2 = .ok (.getfield 62, 3) := by decide +kernel
theorem dX5_go_5 : decode cX5_go 5 = .ok (.iconst 1, 1) := by decide +kernel
theorem dX5_go_6 : decode cX5_go 6 = .ok (.iadd, 1) := by decide +kernel
theorem dX5_go_7 : decode cX5_go 7 = .ok (.putfield 62, 3) := by decide +kernel
theorem dX5_go_10 : decode cX5_go 10 = .ok (.iconst 0, 1) := by decide +kernel
theorem dX5_go_11 : decode cX5_go 11 = .ok (.istore_n 3, 1) := by decide +kernel
theorem dX5_go_12 : decode cX5_go 12 = .ok (.aload_n 0, 1) := by decide +kernel
theorem dX5_go_13 : decode cX5_go 13 = .ok (.getfield 62, 3) := by decide +kernel
theorem dX5_go_16 : decode cX5_go 16 = .ok (.bipush 30, 2) := by decide +kernel
theorem dX5_go_18 : decode cX5_go 18 = .ok (.irem, 1) := by decide +kernel
theorem dX5_go_19 : decode cX5_go 19 = .ok (.ifCond .ne 48, 3) := by decide +kernel
theorem dX5_go_22 : decode cX5_go 22 = .ok (.iconst 0, 1) := by decide +kernel
theorem dX5_go_23 : decode cX5_go 23 = .ok (.istore 4, 2) := by decide +kernel
theorem dX5_go_25 : decode cX5_go 25 = .ok (.iload 4, 2) := by decide +kernel
theorem dX5_go_27 : decode cX5_go 27 = .ok (.aload_n 0, 1) := by decide +kernel
theorem dX5_go_28 : decode cX5_go 28 = .ok (.getfield 53, 3) := by decide +kernel
theorem dX5_go_31 : decode cX5_go 31 = .ok (.if_icmp .ge 36, 3) := by decide +kernel
theorem dX5_go_34 : decode cX5_go 34 = .ok (.iconst 0, 1) := by decide +kernel
theorem dX5_go_35 : decode cX5_go 35 = .ok (.istore 5, 2) := by decide +kernel
theorem dX5_go_37 : decode cX5_go 37 = .ok (.iload 5, 2) := by decide +kernel
theorem dX5_go_39 : decode cX5_go 39 = .ok (.iconst 3, 1) := by decide +kernel
theorem dX5_go_40 : decode cX5_go 40 = .ok (.if_icmp .ge 21, 3) := by decide +kernel
theorem dX5_go_43 : decode cX5_go 43 = .ok (.aload_n 0, 1) := by decide +kernel
theorem dX5_go_44 : decode cX5_go 44 = .ok (.getfield 11, 3) := by decide +kernel
theorem dX5_go_47 : decode cX5_go 47 = .ok (.iload 4, 2) := by decide +kernel
theorem dX5_go_49 : decode cX5_go 49 = .ok (.aaload, 1) := by decide +kernel
theorem dX5_go_50 : decode cX5_go 50 = .ok (.iload 5, 2) := by decide +kernel
theorem dX5_go_52 : decode cX5_go 52 = .ok (.invokestatic 113, 3) := by decide +kernel
theorem dX5_go_55 : decode cX5_go 55 = .ok (.iinc 5 1, 3) := by decide +kernel
theorem dX5_go_58 : decode cX5_go 58 = .ok (.goto (-21), 3) := by decide +kernel
theorem dX5_go_61 : decode cX5_go 61 = .ok (.iinc 4 1, 3) := by decide +kernel
theorem dX5_go_64 : decode cX5_go 64 = .ok (.goto (-39), 3) := by decide +kernel
theorem dX5_go_67 : decode cX5_go 67 = .ok (.iconst 0, 1) := by decide +kernel
theorem dX5_go_68 : decode cX5_go 68 = .ok (.istore 4, 2) := by decide +kernel
theorem dX5_go_70 : decode cX5_go 70 = .ok (.iload 4, 2) := by decide +kernel
theorem dX5_go_72 : decode cX5_go 72 = .ok (.aload_n 0, 1) := by decide +kernel
theorem dX5_go_73 : decode cX5_go 73 = .ok (.getfield 56, 3) := by decide +kernel
theorem dX5_go_76 : decode cX5_go 76 = .ok (.if_icmp .ge 56, 3) := by decide +kernel
theorem dX5_go_79 : decode cX5_go 79 = .ok (.iload_n 3, 1) := by decide +kernel
theorem dX5_go_80 : decode cX5_go 80 = .ok (.aload_n 0, 1) := by decide +kernel
theorem dX5_go_81 : decode cX5_go 81 = .ok (.getfield 22, 3) := by decide +kernel
theorem dX5_go_84 : decode cX5_go 84 = .ok (.iload 4, 2) := by decide +kernel
theorem dX5_go_86 : decode cX5_go 86 = .ok (.aaload, 1) := by decide +kernel
theorem dX5_go_87 : decode cX5_go 87 = .ok (.iconst 2, 1) := by decide +kernel
theorem dX5_go_88 : decode cX5_go 88 = .ok (.iaload, 1) := by decide +kernel
theorem dX5_go_89 : decode cX5_go 89 = .ok (.bipush 6, 2) := by decide +kernel
theorem dX5_go_91 : decode cX5_go 91 = .ok (.if_icmp .ge 32, 3) := by decide +kernel
theorem dX5_go_94 : decode cX5_go 94 = .ok (.aload_n 0, 1) := by decide +kernel
theorem dX5_go_95 : decode cX5_go 95 = .ok (.getfield 22, 3) := by decide +kernel
theorem dX5_go_98 : decode cX5_go 98 = .ok (.iload 4, 2) := by decide +kernel
theorem dX5_go_100 : decode cX5_go 100 = .ok (.aaload, 1) := by decide +kernel
theorem dX5_go_101 : decode cX5_go 101 = .ok (.bipush 7, 2) := by decide +kernel
theorem dX5_go_103 : decode cX5_go 103 = .ok (.iaload, 1) := by decide +kernel
theorem dX5_go_104 : decode cX5_go 104 = .ok (.bipush 7, 2) := by decide +kernel
theorem dX5_go_106 : decode cX5_go 106 = .ok (.if_icmp .eq 17, 3) := by decide +kernel
theorem dX5_go_109 : decode cX5_go 109 = .ok (.aload_n 0, 1) := by decide +kernel
theorem dX5_go_110 : decode cX5_go 110 = .ok (.aload_n 0, 1) := by decide +kernel
theorem dX5_go_111 : decode cX5_go 111 = .ok (.getfield 22, 3) := by decide +kernel
theorem dX5_go_114 : decode cX5_go 114 = .ok (.iload 4, 2) := by decide +kernel
theorem dX5_go_116 : decode cX5_go 116 = .ok (.aaload, 1) := by decide +kernel
theorem dX5_go_117 : decode cX5_go 117 = .ok (.invokevirtual 117, 3) := by decide +kernel
theorem dX5_go_120 : decode cX5_go 120 = .ok (.goto 4, 3) := by decide +kernel
theorem dX5_go_123 : decode cX5_go 123 = .ok (.iconst 0, 1) := by decide +kernel
theorem dX5_go_124 : decode cX5_go 124 = .ok (.iadd, 1) := by decide +kernel
theorem dX5_go_125 : decode cX5_go 125 = .ok (.istore_n 3, 1) := by decide +kernel
theorem dX5_go_126 : decode cX5_go 126 = .ok (.iinc 4 1, 3) := by decide +kernel
theorem dX5_go_129 : decode cX5_go 129 = .ok (.goto (-59), 3) := by decide +kernel
theorem dX5_go_132 : decode cX5_go 132 = .ok (.iload_n 1, 1) := by decide +kernel
theorem dX5_go_133 : decode cX5_go 133 = .ok (.bipush 100, 2) := by decide +kernel
theorem dX5_go_135 : decode cX5_go 135 = .ok (.iconst 5, 1) := by decide +kernel
theorem dX5_go_136 : decode cX5_go 136 = .ok (.aload_n 0, 1) := by decide +kernel
theorem dX5_go_137 : decode cX5_go 137 = .ok (.getfield 32, 3) := by decide +kernel
theorem dX5_go_140 : decode cX5_go 140 = .ok (.imul, 1) := by decide +kernel
theorem dX5_go_141 : decode cX5_go 141 = .ok (.isub, 1) := by decide +kernel
theorem dX5_go_142 : decode cX5_go 142 = .ok (.imul, 1) := by decide +kernel
theorem dX5_go_143 : decode cX5_go 143 = .ok (.bipush 100, 2) := by decide +kernel
theorem dX5_go_145 : decode cX5_go 145 = .ok (.idiv, 1) := by decide +kernel
theorem dX5_go_146 : decode cX5_go 146 = .ok (.istore 4, 2) := by decide +kernel
theorem dX5_go_148 : decode cX5_go 148 = .ok (.aload_n 0, 1) := by decide +kernel
theorem dX5_go_149 : decode cX5_go 149 = .ok (.dup, 1) := by decide +kernel
theorem dX5_go_150 : decode cX5_go 150 = .ok (.getfield 65, 3) := by decide +kernel
theorem dX5_go_153 : decode cX5_go 153 = .ok (.iload 4, 2) := by decide +kernel
theorem dX5_go_155 : decode cX5_go 155 = .ok (.iadd, 1) := by decide +kernel
theorem dX5_go_156 : decode cX5_go 156 = .ok (.putfield 65, 3) := by decide +kernel
theorem dX5_go_159 : decode cX5_go 159 = .ok (.aload_n 0, 1) := by decide +kernel
theorem dX5_go_160 : decode cX5_go 160 = .ok (.dup, 1) := by decide +kernel
theorem dX5_go_161 : decode cX5_go 161 = .ok (.getfield 36, 3) := by decide +kernel
theorem dX5_go_164 : decode cX5_go 164 = .ok (.aload_n 0, 1) := by decide +kernel
theorem dX5_go_165 : decode cX5_go 165 = .ok (.getfield 32, 3) := by decide +kernel
theorem dX5_go_168 : decode cX5_go 168 = .ok (.iload 4, 2) := by decide +kernel
theorem dX5_go_170 : decode cX5_go 170 = .ok (.imul, 1) := by decide +kernel
theorem dX5_go_171 : decode cX5_go 171 = .ok (.iadd, 1) := by decide +kernel
theorem dX5_go_172 : decode cX5_go 172 = .ok (.putfield 36, 3) := by decide +kernel
theorem dX5_go_175 : decode cX5_go 175 = .ok (.aload_n 0, 1) := by decide +kernel
theorem dX5_go_176 : decode cX5_go 176 = .ok (.iconst 0, 1) := by decide +kernel
theorem dX5_go_177 : decode cX5_go 177 = .ok (.iconst 4, 1) := by decide +kernel
theorem dX5_go_178 : decode cX5_go 178 = .ok (.invokevirtual 120, 3) := by decide +kernel
theorem dX5_go_181 : decode cX5_go 181 = .ok (.istore 5, 2) := by decide +kernel
theorem dX5_go_183 : decode cX5_go 183 = .ok (.bipush 8, 2) := by decide +kernel
theorem dX5_go_185 : decode cX5_go 185 = .ok (.newarray .int, 2) := by decide +kernel
theorem dX5_go_187 : decode cX5_go 187 = .ok (.astore 6, 2) := by decide +kernel
theorem dX5_go_189 : decode cX5_go 189 = .ok (.iconst 0, 1) := by decide +kernel
theorem dX5_go_190 : decode cX5_go 190 = .ok (.istore 7, 2) := by decide +kernel
theorem dX5_go_192 : decode cX5_go 192 = .ok (.iload 7, 2) := by decide +kernel
theorem dX5_go_194 : decode cX5_go 194 = .ok (.aload_n 0, 1) := by decide +kernel
theorem dX5_go_195 : decode cX5_go 195 = .ok (.getfield 56, 3) := by decide +kernel
theorem dX5_go_198 : decode cX5_go 198 = .ok (.if_icmp .ge 40, 3) := by decide +kernel
theorem dX5_go_201 : decode cX5_go 201 = .ok (.aload 6, 2) := by decide +kernel
theorem dX5_go_203 : decode cX5_go 203 = .ok (.iload 7, 2) := by decide +kernel
theorem dX5_go_205 : decode cX5_go 205 = .ok (.iload 5, 2) := by decide +kernel
theorem dX5_go_207 : decode cX5_go 207 = .ok (.ifCond .ne 7, 3) := by decide +kernel
theorem dX5_go_210 : decode cX5_go 210 = .ok (.iconst 0, 1) := by decide +kernel
theorem dX5_go_211 : decode cX5_go 211 = .ok (.goto 20, 3) := by decide +kernel
theorem dX5_go_214 : decode cX5_go 214 = .ok (.iload 4, 2) := by decide +kernel
theorem dX5_go_216 : decode cX5_go 216 = .ok (.aload_n 0, 1) := by decide +kernel
theorem dX5_go_217 : decode cX5_go 217 = .ok (.aload_n 0, 1) := by decide +kernel
theorem dX5_go_218 : decode cX5_go 218 = .ok (.getfield 22, 3) := by decide +kernel
theorem dX5_go_221 : decode cX5_go 221 = .ok (.iload 7, 2) := by decide +kernel
theorem dX5_go_223 : decode cX5_go 223 = .ok (.aaload, 1) := by decide +kernel
theorem dX5_go_224 : decode cX5_go 224 = .ok (.invokevirtual 96, 3) := by decide +kernel
theorem dX5_go_227 : decode cX5_go 227 = .ok (.imul, 1) := by decide +kernel
theorem dX5_go_228 : decode cX5_go 228 = .ok (.iload 5, 2) := by decide +kernel
theorem dX5_go_230 : decode cX5_go 230 = .ok (.idiv, 1) := by decide +kernel
theorem dX5_go_231 : decode cX5_go 231 = .ok (.iastore, 1) := by decide +kernel
theorem dX5_go_232 : decode cX5_go 232 = .ok (.iinc 7 1, 3) := by decide +kernel
theorem dX5_go_235 : decode cX5_go 235 = .ok (.goto (-43), 3) := by decide +kernel
theorem dX5_go_238 : decode cX5_go 238 = .ok (.iconst 0, 1) := by decide +kernel
theorem dX5_go_239 : decode cX5_go 239 = .ok (.istore 7, 2) := by decide +kernel
theorem dX5_go_241 : decode cX5_go 241 = .ok (.iload 7, 2) := by decide +kernel
theorem dX5_go_243 : decode cX5_go 243 = .ok (.aload_n 0, 1) := by decide +kernel
theorem dX5_go_244 : decode cX5_go 244 = .ok (.getfield 56, 3) := by decide +kernel
theorem dX5_go_247 : decode cX5_go 247 = .ok (.if_icmp .ge 47, 3) := by decide +kernel
theorem dX5_go_250 : decode cX5_go 250 = .ok (.iload_n 3, 1) := by decide +kernel
theorem dX5_go_251 : decode cX5_go 251 = .ok (.aload_n 0, 1) := by decide +kernel
theorem dX5_go_252 : decode cX5_go 252 = .ok (.aload_n 0, 1) := by decide +kernel
theorem dX5_go_253 : decode cX5_go 253 = .ok (.getfield 22, 3) := by decide +kernel
theorem dX5_go_256 : decode cX5_go 256 = .ok (.iload 7, 2) := by decide +kernel
theorem dX5_go_258 : decode cX5_go 258 = .ok (.aaload, 1) := by decide +kernel
theorem dX5_go_259 : decode cX5_go 259 = .ok (.invokevirtual 85, 3) := by decide +kernel
theorem dX5_go_262 : decode cX5_go 262 = .ok (.ifCond .eq 23, 3) := by decide +kernel
theorem dX5_go_265 : decode cX5_go 265 = .ok (.aload_n 0, 1) := by decide +kernel
theorem dX5_go_266 : decode cX5_go 266 = .ok (.aload_n 0, 1) := by decide +kernel
theorem dX5_go_267 : decode cX5_go 267 = .ok (.getfield 22, 3) := by decide +kernel
theorem dX5_go_270 : decode cX5_go 270 = .ok (.iload 7, 2) := by decide +kernel
theorem dX5_go_272 : decode cX5_go 272 = .ok (.aaload, 1) := by decide +kernel
theorem dX5_go_273 : decode cX5_go 273 = .ok (.aload 6, 2) := by decide +kernel
theorem dX5_go_275 : decode cX5_go 275 = .ok (.iload 7, 2) := by decide +kernel
theorem dX5_go_277 : decode cX5_go 277 = .ok (.iaload, 1) := by decide +kernel
theorem dX5_go_278 : decode cX5_go 278 = .ok (.iload_n 2, 1) := by decide +kernel
theorem dX5_go_279 : decode cX5_go 279 = .ok (.invokevirtual 123, 3) := by decide +kernel
theorem dX5_go_282 : decode cX5_go 282 = .ok (.goto 4, 3) := by decide +kernel
theorem dX5_go_285 : decode cX5_go 285 = .ok (.iconst 0, 1) := by decide +kernel
theorem dX5_go_286 : decode cX5_go 286 = .ok (.iadd, 1) := by decide +kernel
theorem dX5_go_287 : decode cX5_go 287 = .ok (.istore_n 3, 1) := by decide +kernel
theorem dX5_go_288 : decode cX5_go 288 = .ok (.iinc 7 1, 3) := by decide +kernel
theorem dX5_go_291 : decode cX5_go 291 = .ok (.goto (-50), 3) := by decide +kernel
theorem dX5_go_294 : decode cX5_go 294 = .ok (.iconst 0, 1) := by decide +kernel
theorem dX5_go_295 : decode cX5_go 295 = .ok (.istore 7, 2) := by decide +kernel
theorem dX5_go_297 : decode cX5_go 297 = .ok (.iload 7, 2) := by decide +kernel
theorem dX5_go_299 : decode cX5_go 299 = .ok (.aload_n 0, 1) := by decide +kernel
theorem dX5_go_300 : decode cX5_go 300 = .ok (.getfield 56, 3) := by decide +kernel
theorem dX5_go_303 : decode cX5_go 303 = .ok (.if_icmp .ge 35, 3) := by decide +kernel
theorem dX5_go_306 : decode cX5_go 306 = .ok (.aload_n 0, 1) := by decide +kernel
theorem dX5_go_307 : decode cX5_go 307 = .ok (.getfield 22, 3) := by decide +kernel
theorem dX5_go_310 : decode cX5_go 310 = .ok (.iload 7, 2) := by decide +kernel
theorem dX5_go_312 : decode cX5_go 312 = .ok (.aaload, 1) := by decide +kernel
theorem dX5_go_313 : decode cX5_go 313 = .ok (.bipush 7, 2) := by decide +kernel
theorem dX5_go_315 : decode cX5_go 315 = .ok (.iaload, 1) := by decide +kernel
theorem dX5_go_316 : decode cX5_go 316 = .ok (.bipush 6, 2) := by decide +kernel
theorem dX5_go_318 : decode cX5_go 318 = .ok (.if_icmp .ne 14, 3) := by decide +kernel
theorem dX5_go_321 : decode cX5_go 321 = .ok (.aload_n 0, 1) := by decide +kernel
theorem dX5_go_322 : decode cX5_go 322 = .ok (.aload_n 0, 1) := by decide +kernel
theorem dX5_go_323 : decode cX5_go 323 = .ok (.getfield 22, 3) := by decide +kernel
theorem dX5_go_326 : decode cX5_go 326 = .ok (.iload 7, 2) := by decide +kernel
theorem dX5_go_328 : decode cX5_go 328 = .ok (.aaload, 1) := by decide +kernel
theorem dX5_go_329 : decode cX5_go 329 = .ok (.invokevirtual 127, 3) := by decide +kernel
theorem dX5_go_332 : decode cX5_go 332 = .ok (.iinc 7 1, 3) := by decide +kernel
theorem dX5_go_335 : decode cX5_go 335 = .ok (.goto (-38), 3) := by decide +kernel
theorem dX5_go_338 : decode cX5_go 338 = .ok (.iload_n 3, 1) := by decide +kernel
theorem dX5_go_339 : decode cX5_go 339 = .ok (.ireturn, 1) := by decide +kernel
set_option maxRecDepth 20000 in
theorem ggX5_wear_X6_held : GoodIn wsX5_wear wsX6_held := goodIn_r _ [9, 10, 11, 5, 12, 13, 4, 6] (by decide +kernel) (by decide +kernel)
set_option maxRecDepth 20000 in
theorem gX5_wear_X6_held_n99 : GoodIn wsX5_wear (wsX6_held) := ggX5_wear_X6_held
theorem dX5_wear_0 : decode cX5_wear 0 = .ok (.aload_n 0, 1) := by decide +kernel
theorem dX5_wear_1 : decode cX5_wear 1 = .ok (.getfield 25, 3) := by decide +kernel
theorem dX5_wear_4 : decode cX5_wear 4 = .ok (.aload_n 1, 1) := by decide +kernel
theorem dX5_wear_5 : decode cX5_wear 5 = .ok (.bipush 7, 2) := by decide +kernel
theorem dX5_wear_7 : decode cX5_wear 7 = .ok (.iaload, 1) := by decide +kernel
theorem dX5_wear_8 : decode cX5_wear 8 = .ok (.iaload, 1) := by decide +kernel
theorem dX5_wear_9 : decode cX5_wear 9 = .ok (.istore 4, 2) := by decide +kernel
theorem dX5_wear_11 : decode cX5_wear 11 = .ok (.aload_n 1, 1) := by decide +kernel
theorem dX5_wear_12 : decode cX5_wear 12 = .ok (.bipush 10, 2) := by decide +kernel
theorem dX5_wear_14 : decode cX5_wear 14 = .ok (.dup2, 1) := by decide +kernel
theorem dX5_wear_15 : decode cX5_wear 15 = .ok (.iaload, 1) := by decide +kernel
theorem dX5_wear_16 : decode cX5_wear 16 = .ok (.iload_n 2, 1) := by decide +kernel
theorem dX5_wear_17 : decode cX5_wear 17 = .ok (.iadd, 1) := by decide +kernel
theorem dX5_wear_18 : decode cX5_wear 18 = .ok (.iastore, 1) := by decide +kernel
theorem dX5_wear_19 : decode cX5_wear 19 = .ok (.aload_n 0, 1) := by decide +kernel
theorem dX5_wear_20 : decode cX5_wear 20 = .ok (.getfield 11, 3) := by decide +kernel
theorem dX5_wear_23 : decode cX5_wear 23 = .ok (.aload_n 1, 1) := by decide +kernel
theorem dX5_wear_24 : decode cX5_wear 24 = .ok (.iconst 0, 1) := by decide +kernel
theorem dX5_wear_25 : decode cX5_wear 25 = .ok (.iaload, 1) := by decide +kernel
theorem dX5_wear_26 : decode cX5_wear 26 = .ok (.aaload, 1) := by decide +kernel
theorem dX5_wear_27 : decode cX5_wear 27 = .ok (.bipush 7, 2) := by decide +kernel
theorem dX5_wear_29 : decode cX5_wear 29 = .ok (.dup2, 1) := by decide +kernel
theorem dX5_wear_30 : decode cX5_wear 30 = .ok (.iaload, 1) := by decide +kernel
theorem dX5_wear_31 : decode cX5_wear 31 = .ok (.iload_n 2, 1) := by decide +kernel
theorem dX5_wear_32 : decode cX5_wear 32 = .ok (.bipush 100, 2) := by decide +kernel
theorem dX5_wear_34 : decode cX5_wear 34 = .ok (.idiv, 1) := by decide +kernel
theorem dX5_wear_35 : decode cX5_wear 35 = .ok (.iadd, 1) := by decide +kernel
theorem dX5_wear_36 : decode cX5_wear 36 = .ok (.iastore, 1) := by decide +kernel
theorem dX5_wear_37 : decode cX5_wear 37 = .ok (.aload_n 1, 1) := by decide +kernel
theorem dX5_wear_38 : decode cX5_wear 38 = .ok (.bipush 6, 2) := by decide +kernel
theorem dX5_wear_40 : decode cX5_wear 40 = .ok (.aload_n 1, 1) := by decide +kernel
theorem dX5_wear_41 : decode cX5_wear 41 = .ok (.bipush 6, 2) := by decide +kernel
theorem dX5_wear_43 : decode cX5_wear 43 = .ok (.iaload, 1) := by decide +kernel
theorem dX5_wear_44 : decode cX5_wear 44 = .ok (.iload_n 2, 1) := by decide +kernel
theorem dX5_wear_45 : decode cX5_wear 45 = .ok (.bipush 50, 2) := by decide +kernel
theorem dX5_wear_47 : decode cX5_wear 47 = .ok (.idiv, 1) := by decide +kernel
theorem dX5_wear_48 : decode cX5_wear 48 = .ok (.iadd, 1) := by decide +kernel
theorem dX5_wear_49 : decode cX5_wear 49 = .ok (.iload 4, 2) := by decide +kernel
theorem dX5_wear_51 : decode cX5_wear 51 = .ok (.iconst 3, 1) := by decide +kernel
theorem dX5_wear_52 : decode cX5_wear 52 = .ok (.idiv, 1) := by decide +kernel
theorem dX5_wear_53 : decode cX5_wear 53 = .ok (.iadd, 1) := by decide +kernel
theorem dX5_wear_54 : decode cX5_wear 54 = .ok (.iconst 0, 1) := by decide +kernel
theorem dX5_wear_55 : decode cX5_wear 55 = .ok (.iload_n 3, 1) := by decide +kernel
theorem dX5_wear_56 : decode cX5_wear 56 = .ok (.bipush 25, 2) := by decide +kernel
theorem dX5_wear_58 : decode cX5_wear 58 = .ok (.isub, 1) := by decide +kernel
theorem dX5_wear_59 : decode cX5_wear 59 = .ok (.invokestatic 81, 3) := by decide +kernel
theorem dX5_wear_62 : decode cX5_wear 62 = .ok (.iload 4, 2) := by decide +kernel
theorem dX5_wear_64 : decode cX5_wear 64 = .ok (.imul, 1) := by decide +kernel
theorem dX5_wear_65 : decode cX5_wear 65 = .ok (.bipush 10, 2) := by decide +kernel
theorem dX5_wear_67 : decode cX5_wear 67 = .ok (.idiv, 1) := by decide +kernel
theorem dX5_wear_68 : decode cX5_wear 68 = .ok (.iadd, 1) := by decide +kernel
theorem dX5_wear_69 : decode cX5_wear 69 = .ok (.bipush 100, 2) := by decide +kernel
theorem dX5_wear_71 : decode cX5_wear 71 = .ok (.invokestatic 99, 3) := by decide +kernel
theorem dX5_wear_74 : decode cX5_wear 74 = .ok (.iastore, 1) := by decide +kernel
theorem dX5_wear_75 : decode cX5_wear 75 = .ok (.aload_n 1, 1) := by decide +kernel
theorem dX5_wear_76 : decode cX5_wear 76 = .ok (.bipush 6, 2) := by decide +kernel
theorem dX5_wear_78 : decode cX5_wear 78 = .ok (.iaload, 1) := by decide +kernel
theorem dX5_wear_79 : decode cX5_wear 79 = .ok (.bipush 100, 2) := by decide +kernel
theorem dX5_wear_81 : decode cX5_wear 81 = .ok (.if_icmp .ge 5, 3) := by decide +kernel
theorem dX5_wear_84 : decode cX5_wear 84 = .ok (.iconst 0, 1) := by decide +kernel
theorem dX5_wear_85 : decode cX5_wear 85 = .ok (.ireturn, 1) := by decide +kernel
theorem dX5_wear_86 : decode cX5_wear 86 = .ok (.aload_n 1, 1) := by decide +kernel
theorem dX5_wear_87 : decode cX5_wear 87 = .ok (.bipush 7, 2) := by decide +kernel
theorem dX5_wear_89 : decode cX5_wear 89 = .ok (.bipush 7, 2) := by decide +kernel
theorem dX5_wear_91 : decode cX5_wear 91 = .ok (.iastore, 1) := by decide +kernel
theorem dX5_wear_92 : decode cX5_wear 92 = .ok (.iconst 1, 1) := by decide +kernel
theorem dX5_wear_93 : decode cX5_wear 93 = .ok (.ireturn, 1) := by decide +kernel
set_option maxRecDepth 20000 in
theorem ggX5_travel_X5_likeness : GoodIn wsX5_travel wsX5_likeness := goodIn_r _ [11, 12, 13, 5, 14, 15, 16, 17, 18, 19, 20, 10, 21, 22, 23, 24, 25, 26, 27, 28, 29, 30, 31, 32, 33, 34, 35, 36, 37, 38, 39, 40, 41] (by decide +kernel) (by decide +kernel)
set_option maxRecDepth 20000 in
theorem gX5_travel_X5_likeness : GoodIn wsX5_travel (wsV RX5 88 RX5 yX5_likeness wsX5_likeness) := goodIn_app (goodIn_of _ (by decide +kernel)) ggX5_travel_X5_likeness
theorem dX5_travel_0 : decode cX5_travel 0 = .ok (.aload_n 0, 1) := by decide +kernel
theorem dX5_travel_1 : decode cX5_travel 1 = .ok (.dup, 1) := by decide +kernel
theorem dX5_travel_2 : decode cX5_travel 2 = .ok (.getfield 36, 3) := by decide +kernel
theorem dX5_travel_5 : decode cX5_travel 5 = .ok (.aload_n 0, 1) := by decide +kernel
theorem dX5_travel_6 : decode cX5_travel 6 = .ok (.getfield 11, 3) := by decide +kernel
theorem dX5_travel_9 : decode cX5_travel 9 = .ok (.aload_n 1, 1) := by decide +kernel
theorem dX5_travel_10 : decode cX5_travel 10 = .ok (.iconst 0, 1) := by decide +kernel
theorem dX5_travel_11 : decode cX5_travel 11 = .ok (.iaload, 1) := by decide +kernel
theorem dX5_travel_12 : decode cX5_travel 12 = .ok (.aaload, 1) := by decide +kernel
theorem dX5_travel_13 : decode cX5_travel 13 = .ok (.aload_n 1, 1) := by decide +kernel
theorem dX5_travel_14 : decode cX5_travel 14 = .ok (.bipush 9, 2) := by decide +kernel
theorem dX5_travel_16 : decode cX5_travel 16 = .ok (.iaload, 1) := by decide +kernel
theorem dX5_travel_17 : decode cX5_travel 17 = .ok (.iaload, 1) := by decide +kernel
theorem dX5_travel_18 : decode cX5_travel 18 = .ok (.aload_n 0, 1) := by decide +kernel
theorem dX5_travel_19 : decode cX5_travel 19 = .ok (.aload_n 1, 1) := by decide +kernel
theorem dX5_travel_20 : decode cX5_travel 20 = .ok (.invokevirtual 88, 3) := by decide +kernel
theorem dX5_travel_23 : decode cX5_travel 23 = .ok (.imul, 1) := by decide +kernel
theorem dX5_travel_24 : decode cX5_travel 24 = .ok (.sipush 1000, 3) := by decide +kernel
theorem dX5_travel_27 : decode cX5_travel 27 = .ok (.idiv, 1) := by decide +kernel
theorem dX5_travel_28 : decode cX5_travel 28 = .ok (.iadd, 1) := by decide +kernel
theorem dX5_travel_29 : decode cX5_travel 29 = .ok (.putfield 36, 3) := by decide +kernel
theorem dX5_travel_32 : decode cX5_travel 32 = .ok (.aload_n 1, 1) := by decide +kernel
theorem dX5_travel_33 : decode cX5_travel 33 = .ok (.bipush 6, 2) := by decide +kernel
theorem dX5_travel_35 : decode cX5_travel 35 = .ok (.bipush 99, 2) := by decide +kernel
theorem dX5_travel_37 : decode cX5_travel 37 = .ok (.aload_n 1, 1) := by decide +kernel
theorem dX5_travel_38 : decode cX5_travel 38 = .ok (.bipush 6, 2) := by decide +kernel
theorem dX5_travel_40 : decode cX5_travel 40 = .ok (.iaload, 1) := by decide +kernel
theorem dX5_travel_41 : decode cX5_travel 41 = .ok (.iconst 2, 1) := by decide +kernel
theorem dX5_travel_42 : decode cX5_travel 42 = .ok (.iadd, 1) := by decide +kernel
theorem dX5_travel_43 : decode cX5_travel 43 = .ok (.invokestatic 131, 3) := by decide +kernel
theorem dX5_travel_46 : decode cX5_travel 46 = .ok (.iastore, 1) := by decide +kernel
theorem dX5_travel_47 : decode cX5_travel 47 = .ok (.aload_n 1, 1) := by decide +kernel
theorem dX5_travel_48 : decode cX5_travel 48 = .ok (.bipush 8, 2) := by decide +kernel
theorem dX5_travel_50 : decode cX5_travel 50 = .ok (.dup2, 1) := by decide +kernel
theorem dX5_travel_51 : decode cX5_travel 51 = .ok (.iaload, 1) := by decide +kernel
theorem dX5_travel_52 : decode cX5_travel 52 = .ok (.iconst 1, 1) := by decide +kernel
theorem dX5_travel_53 : decode cX5_travel 53 = .ok (.isub, 1) := by decide +kernel
theorem dX5_travel_54 : decode cX5_travel 54 = .ok (.iastore, 1) := by decide +kernel
theorem dX5_travel_55 : decode cX5_travel 55 = .ok (.aload_n 1, 1) := by decide +kernel
theorem dX5_travel_56 : decode cX5_travel 56 = .ok (.bipush 8, 2) := by decide +kernel
theorem dX5_travel_58 : decode cX5_travel 58 = .ok (.iaload, 1) := by decide +kernel
theorem dX5_travel_59 : decode cX5_travel 59 = .ok (.ifCond .ne 8, 3) := by decide +kernel
theorem dX5_travel_62 : decode cX5_travel 62 = .ok (.aload_n 1, 1) := by decide +kernel
theorem dX5_travel_63 : decode cX5_travel 63 = .ok (.bipush 7, 2) := by decide +kernel
theorem dX5_travel_65 : decode cX5_travel 65 = .ok (.iconst 5, 1) := by decide +kernel
theorem dX5_travel_66 : decode cX5_travel 66 = .ok (.iastore, 1) := by decide +kernel
theorem dX5_travel_67 : decode cX5_travel 67 = .ok (.return_, 1) := by decide +kernel
set_option maxRecDepth 20000 in
theorem ggX6_init_X5_init : GoodIn wsX6_init wsX5_init := goodIn_r _ [9, 10, 2, 3, 11, 12, 13, 14, 15, 16, 17, 18, 19, 20, 21, 22, 23, 24, 25, 26, 27, 28, 29, 30, 31, 32, 33, 34, 35] (by decide +kernel) (by decide +kernel)
set_option maxRecDepth 20000 in
theorem gX6_init_X5_init_n9 : GoodIn wsX6_init (wsX5_init) := ggX6_init_X5_init
theorem dX6_init_0 : decode cX6_init 0 = .ok (.aload_n 0, 1) := by decide +kernel
theorem dX6_init_1 : decode cX6_init 1 = .ok (.invokespecial 1, 3) := by decide +kernel
theorem dX6_init_4 : decode cX6_init 4 = .ok (.aload_n 0, 1) := by decide +kernel
theorem dX6_init_5 : decode cX6_init 5 = .ok (.new 7, 3) := by decide +kernel
theorem dX6_init_8 : decode cX6_init 8 = .ok (.dup, 1) := by decide +kernel
theorem dX6_init_9 : decode cX6_init 9 = .ok (.invokespecial 9, 3) := by decide +kernel
theorem dX6_init_12 : decode cX6_init 12 = .ok (.putfield 10, 3) := by decide +kernel
theorem dX6_init_15 : decode cX6_init 15 = .ok (.return_, 1) := by decide +kernel
theorem dX6_thrown_0 : decode cX6_thrown 0 = .ok (.aload_n 0, 1) := by decide +kernel
theorem dX6_thrown_1 : decode cX6_thrown 1 = .ok (.getfield 16, 3) := by decide +kernel
theorem dX6_thrown_4 : decode cX6_thrown 4 = .ok (.ireturn, 1) := by decide +kernel
theorem dX6_no_0 : decode cX6_no 0 = .ok (.aload_n 0, 1) := by decide +kernel
theorem dX6_no_1 : decode cX6_no 1 = .ok (.iload_n 1, 1) := by decide +kernel
theorem dX6_no_2 : decode cX6_no 2 = .ok (.putfield 16, 3) := by decide +kernel
theorem dX6_no_5 : decode cX6_no 5 = .ok (.iconst 0, 1) := by decide +kernel
theorem dX6_no_6 : decode cX6_no 6 = .ok (.ireturn, 1) := by decide +kernel
theorem dX6_in_0 : decode cX6_in 0 = .ok (.iload_n 0, 1) := by decide +kernel
theorem dX6_in_1 : decode cX6_in 1 = .ok (.iload_n 1, 1) := by decide +kernel
theorem dX6_in_2 : decode cX6_in 2 = .ok (.if_icmp .lt 12, 3) := by decide +kernel
theorem dX6_in_5 : decode cX6_in 5 = .ok (.iload_n 0, 1) := by decide +kernel
theorem dX6_in_6 : decode cX6_in 6 = .ok (.iload_n 2, 1) := by decide +kernel
theorem dX6_in_7 : decode cX6_in 7 = .ok (.if_icmp .gt 7, 3) := by decide +kernel
theorem dX6_in_10 : decode cX6_in 10 = .ok (.iconst 1, 1) := by decide +kernel
theorem dX6_in_11 : decode cX6_in 11 = .ok (.goto 4, 3) := by decide +kernel
theorem dX6_in_14 : decode cX6_in 14 = .ok (.iconst 0, 1) := by decide +kernel
theorem dX6_in_15 : decode cX6_in 15 = .ok (.ireturn, 1) := by decide +kernel
theorem dX6_needs_0 : decode cX6_needs 0 = .ok (.bipush 7, 2) := by decide +kernel
theorem dX6_needs_2 : decode cX6_needs 2 = .ok (.newarray .int, 2) := by decide +kernel
theorem dX6_needs_4 : decode cX6_needs 4 = .ok (.dup, 1) := by decide +kernel
theorem dX6_needs_5 : decode cX6_needs 5 = .ok (.iconst 0, 1) := by decide +kernel
theorem dX6_needs_6 : decode cX6_needs 6 = .ok (.iconst 4, 1) := by decide +kernel
theorem dX6_needs_7 : decode cX6_needs 7 = .ok (.iastore, 1) := by decide +kernel
theorem dX6_needs_8 : decode cX6_needs 8 = .ok (.dup, 1) := by decide +kernel
theorem dX6_needs_9 : decode cX6_needs 9 = .ok (.iconst 1, 1) := by decide +kernel
theorem dX6_needs_10 : decode cX6_needs 10 = .ok (.bipush 10, 2) := by decide +kernel
theorem dX6_needs_12 : decode cX6_needs 12 = .ok (.iastore, 1) := by decide +kernel
theorem dX6_needs_13 : decode cX6_needs 13 = .ok (.dup, 1) := by decide +kernel
theorem dX6_needs_14 : decode cX6_needs 14 = .ok (.iconst 2, 1) := by decide +kernel
theorem dX6_needs_15 : decode cX6_needs 15 = .ok (.iconst 3, 1) := by decide +kernel
theorem dX6_needs_16 : decode cX6_needs 16 = .ok (.iastore, 1) := by decide +kernel
theorem dX6_needs_17 : decode cX6_needs 17 = .ok (.dup, 1) := by decide +kernel
theorem dX6_needs_18 : decode cX6_needs 18 = .ok (.iconst 3, 1) := by decide +kernel
theorem dX6_needs_19 : decode cX6_needs 19 = .ok (.iconst 2, 1) := by decide +kernel
theorem dX6_needs_20 : decode cX6_needs 20 = .ok (.iastore, 1) := by decide +kernel
theorem dX6_needs_21 : decode cX6_needs 21 = .ok (.dup, 1) := by decide +kernel
theorem dX6_needs_22 : decode cX6_needs 22 = .ok (.iconst 4, 1) := by decide +kernel
theorem dX6_needs_23 : decode cX6_needs 23 = .ok (.bipush 12, 2) := by decide +kernel
theorem dX6_needs_25 : decode cX6_needs 25 = .ok (.iastore, 1) := by decide +kernel
theorem dX6_needs_26 : decode cX6_needs 26 = .ok (.dup, 1) := by decide +kernel
theorem dX6_needs_27 : decode cX6_needs 27 = .ok (.iconst 5, 1) := by decide +kernel
theorem dX6_needs_28 : decode cX6_needs 28 = .ok (.iconst 5, 1) := by decide +kernel
theorem dX6_needs_29 : decode cX6_needs 29 = .ok (.iastore, 1) := by decide +kernel
theorem dX6_needs_30 : decode cX6_needs 30 = .ok (.dup, 1) := by decide +kernel
theorem dX6_needs_31 : decode cX6_needs 31 = .ok (.bipush 6, 2) := by decide +kernel
theorem dX6_needs_33 : decode cX6_needs 33 = .ok (.iconst 0, 1) := by decide +kernel
theorem dX6_needs_34 : decode cX6_needs 34 = .ok (.iastore, 1) := by decide +kernel
theorem dX6_needs_35 : decode cX6_needs 35 = .ok (.astore_n 1, 1) := by decide +kernel
theorem dX6_needs_36 : decode cX6_needs 36 = .ok (.aload_n 1, 1) := by decide +kernel
theorem dX6_needs_37 : decode cX6_needs 37 = .ok (.iload_n 0, 1) := by decide +kernel
theorem dX6_needs_38 : decode cX6_needs 38 = .ok (.iaload, 1) := by decide +kernel
theorem dX6_needs_39 : decode cX6_needs 39 = .ok (.ireturn, 1) := by decide +kernel
theorem dX6_held_0 : decode cX6_held 0 = .ok (.iconst 0, 1) := by decide +kernel
theorem dX6_held_1 : decode cX6_held 1 = .ok (.iload_n 1, 1) := by decide +kernel
theorem dX6_held_2 : decode cX6_held 2 = .ok (.iload_n 0, 1) := by decide +kernel
theorem dX6_held_3 : decode cX6_held 3 = .ok (.invokestatic 20, 3) := by decide +kernel
theorem dX6_held_6 : decode cX6_held 6 = .ok (.invokestatic 26, 3) := by decide +kernel
theorem dX6_held_9 : decode cX6_held 9 = .ok (.ireturn, 1) := by decide +kernel
set_option maxRecDepth 20000 in
theorem ggX6_isPerson_X6_in : GoodIn wsX6_isPerson wsX6_in := goodIn_r _ [6] (by decide +kernel) (by decide +kernel)
set_option maxRecDepth 20000 in
theorem gX6_isPerson_X6_in : GoodIn wsX6_isPerson (va_wsS RX6 32 yX6_in wsX6_in) := goodIn_app (goodIn_of _ (by decide +kernel)) ggX6_isPerson_X6_in
theorem dX6_isPerson_0 : decode cX6_isPerson 0 = .ok (.iload_n 1, 1) := by decide +kernel
theorem dX6_isPerson_1 : decode cX6_isPerson 1 = .ok (.iconst 0, 1) := by decide +kernel
theorem dX6_isPerson_2 : decode cX6_isPerson 2 = .ok (.aload_n 0, 1) := by decide +kernel
theorem dX6_isPerson_3 : decode cX6_isPerson 3 = .ok (.getfield 10, 3) := by decide +kernel
theorem dX6_isPerson_6 : decode cX6_isPerson 6 = .ok (.getfield 29, 3) := by decide +kernel
theorem dX6_isPerson_9 : decode cX6_isPerson 9 = .ok (.iconst 1, 1) := by decide +kernel
theorem dX6_isPerson_10 : decode cX6_isPerson 10 = .ok (.isub, 1) := by decide +kernel
theorem dX6_isPerson_11 : decode cX6_isPerson 11 = .ok (.invokestatic 32, 3) := by decide +kernel
theorem dX6_isPerson_14 : decode cX6_isPerson 14 = .ok (.ireturn, 1) := by decide +kernel
set_option maxRecDepth 20000 in
theorem ggX6_isFigure_X6_in : GoodIn wsX6_isFigure wsX6_in := goodIn_r _ [6] (by decide +kernel) (by decide +kernel)
set_option maxRecDepth 20000 in
theorem gX6_isFigure_X6_in : GoodIn wsX6_isFigure (va_wsS RX6 32 yX6_in wsX6_in) := goodIn_app (goodIn_of _ (by decide +kernel)) ggX6_isFigure_X6_in
theorem dX6_isFigure_0 : decode cX6_isFigure 0 = .ok (.iload_n 1, 1) := by decide +kernel
theorem dX6_isFigure_1 : decode cX6_isFigure 1 = .ok (.iconst 0, 1) := by decide +kernel
theorem dX6_isFigure_2 : decode cX6_isFigure 2 = .ok (.aload_n 0, 1) := by decide +kernel
theorem dX6_isFigure_3 : decode cX6_isFigure 3 = .ok (.getfield 10, 3) := by decide +kernel
theorem dX6_isFigure_6 : decode cX6_isFigure 6 = .ok (.getfield 36, 3) := by decide +kernel
theorem dX6_isFigure_9 : decode cX6_isFigure 9 = .ok (.iconst 1, 1) := by decide +kernel
theorem dX6_isFigure_10 : decode cX6_isFigure 10 = .ok (.isub, 1) := by decide +kernel
theorem dX6_isFigure_11 : decode cX6_isFigure 11 = .ok (.invokestatic 32, 3) := by decide +kernel
theorem dX6_isFigure_14 : decode cX6_isFigure 14 = .ok (.ireturn, 1) := by decide +kernel
set_option maxRecDepth 20000 in
theorem ggX6_isRoom_X6_in : GoodIn wsX6_isRoom wsX6_in := goodIn_r _ [6] (by decide +kernel) (by decide +kernel)
set_option maxRecDepth 20000 in
theorem gX6_isRoom_X6_in : GoodIn wsX6_isRoom (va_wsS RX6 32 yX6_in wsX6_in) := goodIn_app (goodIn_of _ (by decide +kernel)) ggX6_isRoom_X6_in
theorem dX6_isRoom_0 : decode cX6_isRoom 0 = .ok (.iload_n 1, 1) := by decide +kernel
theorem dX6_isRoom_1 : decode cX6_isRoom 1 = .ok (.iconst 0, 1) := by decide +kernel
theorem dX6_isRoom_2 : decode cX6_isRoom 2 = .ok (.aload_n 0, 1) := by decide +kernel
theorem dX6_isRoom_3 : decode cX6_isRoom 3 = .ok (.getfield 10, 3) := by decide +kernel
theorem dX6_isRoom_6 : decode cX6_isRoom 6 = .ok (.getfield 39, 3) := by decide +kernel
theorem dX6_isRoom_9 : decode cX6_isRoom 9 = .ok (.iconst 1, 1) := by decide +kernel
theorem dX6_isRoom_10 : decode cX6_isRoom 10 = .ok (.isub, 1) := by decide +kernel
theorem dX6_isRoom_11 : decode cX6_isRoom 11 = .ok (.invokestatic 32, 3) := by decide +kernel
theorem dX6_isRoom_14 : decode cX6_isRoom 14 = .ok (.ireturn, 1) := by decide +kernel
set_option maxRecDepth 20000 in
theorem ggX6_person_X6_in : GoodIn wsX6_person wsX6_in := goodIn_r _ [9] (by decide +kernel) (by decide +kernel)
set_option maxRecDepth 20000 in
theorem gX6_person_X6_in : GoodIn wsX6_person (va_wsS RX6 32 yX6_in wsX6_in) := goodIn_app (goodIn_of _ (by decide +kernel)) ggX6_person_X6_in
set_option maxRecDepth 20000 in
theorem ggX6_person_X6_no : GoodIn wsX6_person wsX6_no := goodIn_r _ [13, 1, 14, 15] (by decide +kernel) (by decide +kernel)
set_option maxRecDepth 20000 in
theorem gX6_person_X6_no : GoodIn wsX6_person (wsV RX6 42 RX6 yX6_no wsX6_no) := goodIn_app (goodIn_of _ (by decide +kernel)) ggX6_person_X6_no
theorem dX6_person_0 : decode cX6_person 0 = .ok (.aload_n 0, 1) := by decide +kernel
theorem dX6_person_1 : decode cX6_person 1 = .ok (.iconst 0, 1) := by decide +kernel
theorem dX6_person_2 : decode cX6_person 2 = .ok (.putfield 16, 3) := by decide +kernel
theorem dX6_person_5 : decode cX6_person 5 = .ok (.iload_n 1, 1) := by decide +kernel
theorem dX6_person_6 : decode cX6_person 6 = .ok (.iconst 0, 1) := by decide +kernel
theorem dX6_person_7 : decode cX6_person 7 = .ok (.sipush 999, 3) := by decide +kernel
theorem dX6_person_10 : decode cX6_person 10 = .ok (.invokestatic 32, 3) := by decide +kernel
theorem dX6_person_13 : decode cX6_person 13 = .ok (.ifCond .eq 25, 3) := by decide +kernel
theorem dX6_person_16 : decode cX6_person 16 = .ok (.iload_n 2, 1) := by decide +kernel
theorem dX6_person_17 : decode cX6_person 17 = .ok (.iconst 0, 1) := by decide +kernel
theorem dX6_person_18 : decode cX6_person 18 = .ok (.sipush 999, 3) := by decide +kernel
theorem dX6_person_21 : decode cX6_person 21 = .ok (.invokestatic 32, 3) := by decide +kernel
theorem dX6_person_24 : decode cX6_person 24 = .ok (.ifCond .eq 14, 3) := by decide +kernel
theorem dX6_person_27 : decode cX6_person 27 = .ok (.iload_n 3, 1) := by decide +kernel
theorem dX6_person_28 : decode cX6_person 28 = .ok (.iconst 0, 1) := by decide +kernel
theorem dX6_person_29 : decode cX6_person 29 = .ok (.sipush 999, 3) := by decide +kernel
theorem dX6_person_32 : decode cX6_person 32 = .ok (.invokestatic 32, 3) := by decide +kernel
theorem dX6_person_35 : decode cX6_person 35 = .ok (.ifCond .ne 9, 3) := by decide +kernel
theorem dX6_person_38 : decode cX6_person 38 = .ok (.aload_n 0, 1) := by decide +kernel
theorem dX6_person_39 : decode cX6_person 39 = .ok (.iconst 1, 1) := by decide +kernel
theorem dX6_person_40 : decode cX6_person 40 = .ok (.invokevirtual 42, 3) := by decide +kernel
theorem dX6_person_43 : decode cX6_person 43 = .ok (.ireturn, 1) := by decide +kernel
theorem dX6_person_44 : decode cX6_person 44 = .ok (.aload_n 0, 1) := by decide +kernel
theorem dX6_person_45 : decode cX6_person 45 = .ok (.getfield 10, 3) := by decide +kernel
theorem dX6_person_48 : decode cX6_person 48 = .ok (.getfield 29, 3) := by decide +kernel
theorem dX6_person_51 : decode cX6_person 51 = .ok (.bipush 10, 2) := by decide +kernel
theorem dX6_person_53 : decode cX6_person 53 = .ok (.if_icmp .ne 9, 3) := by decide +kernel
theorem dX6_person_56 : decode cX6_person 56 = .ok (.aload_n 0, 1) := by decide +kernel
theorem dX6_person_57 : decode cX6_person 57 = .ok (.iconst 2, 1) := by decide +kernel
theorem dX6_person_58 : decode cX6_person 58 = .ok (.invokevirtual 42, 3) := by decide +kernel
theorem dX6_person_61 : decode cX6_person 61 = .ok (.ireturn, 1) := by decide +kernel
theorem dX6_person_62 : decode cX6_person 62 = .ok (.aload_n 0, 1) := by decide +kernel
theorem dX6_person_63 : decode cX6_person 63 = .ok (.getfield 10, 3) := by decide +kernel
theorem dX6_person_66 : decode cX6_person 66 = .ok (.getfield 46, 3) := by decide +kernel
theorem dX6_person_69 : decode cX6_person 69 = .ok (.aload_n 0, 1) := by decide +kernel
theorem dX6_person_70 : decode cX6_person 70 = .ok (.getfield 10, 3) := by decide +kernel
theorem dX6_person_73 : decode cX6_person 73 = .ok (.getfield 29, 3) := by decide +kernel
theorem dX6_person_76 : decode cX6_person 76 = .ok (.aaload, 1) := by decide +kernel
theorem dX6_person_77 : decode cX6_person 77 = .ok (.astore 4, 2) := by decide +kernel
theorem dX6_person_79 : decode cX6_person 79 = .ok (.aload 4, 2) := by decide +kernel
theorem dX6_person_81 : decode cX6_person 81 = .ok (.iconst 0, 1) := by decide +kernel
theorem dX6_person_82 : decode cX6_person 82 = .ok (.iload_n 1, 1) := by decide +kernel
theorem dX6_person_83 : decode cX6_person 83 = .ok (.iastore, 1) := by decide +kernel
theorem dX6_person_84 : decode cX6_person 84 = .ok (.aload 4, 2) := by decide +kernel
theorem dX6_person_86 : decode cX6_person 86 = .ok (.iconst 1, 1) := by decide +kernel
theorem dX6_person_87 : decode cX6_person 87 = .ok (.iload_n 2, 1) := by decide +kernel
theorem dX6_person_88 : decode cX6_person 88 = .ok (.iastore, 1) := by decide +kernel
theorem dX6_person_89 : decode cX6_person 89 = .ok (.aload 4, 2) := by decide +kernel
theorem dX6_person_91 : decode cX6_person 91 = .ok (.iconst 2, 1) := by decide +kernel
theorem dX6_person_92 : decode cX6_person 92 = .ok (.iload_n 3, 1) := by decide +kernel
theorem dX6_person_93 : decode cX6_person 93 = .ok (.iastore, 1) := by decide +kernel
theorem dX6_person_94 : decode cX6_person 94 = .ok (.iconst 0, 1) := by decide +kernel
theorem dX6_person_95 : decode cX6_person 95 = .ok (.istore 5, 2) := by decide +kernel
theorem dX6_person_97 : decode cX6_person 97 = .ok (.iload 5, 2) := by decide +kernel
theorem dX6_person_99 : decode cX6_person 99 = .ok (.bipush 6, 2) := by decide +kernel
theorem dX6_person_101 : decode cX6_person 101 = .ok (.if_icmp .ge 29, 3) := by decide +kernel
theorem dX6_person_104 : decode cX6_person 104 = .ok (.aload_n 0, 1) := by decide +kernel
theorem dX6_person_105 : decode cX6_person 105 = .ok (.getfield 10, 3) := by decide +kernel
theorem dX6_person_108 : decode cX6_person 108 = .ok (.getfield 50, 3) := by decide +kernel
theorem dX6_person_111 : decode cX6_person 111 = .ok (.aload_n 0, 1) := by decide +kernel
theorem dX6_person_112 : decode cX6_person 112 = .ok (.getfield 10, 3) := by decide +kernel
theorem dX6_person_115 : decode cX6_person 115 = .ok (.getfield 29, 3) := by decide +kernel
theorem dX6_person_118 : decode cX6_person 118 = .ok (.aaload, 1) := by decide +kernel
theorem dX6_person_119 : decode cX6_person 119 = .ok (.iload 5, 2) := by decide +kernel
theorem dX6_person_121 : decode cX6_person 121 = .ok (.bipush 99, 2) := by decide +kernel
theorem dX6_person_123 : decode cX6_person 123 = .ok (.iastore, 1) := by decide +kernel
theorem dX6_person_124 : decode cX6_person 124 = .ok (.iinc 5 1, 3) := by decide +kernel
theorem dX6_person_127 : decode cX6_person 127 = .ok (.goto (-30), 3) := by decide +kernel
theorem dX6_person_130 : decode cX6_person 130 = .ok (.aload_n 0, 1) := by decide +kernel
theorem dX6_person_131 : decode cX6_person 131 = .ok (.getfield 10, 3) := by decide +kernel
theorem dX6_person_134 : decode cX6_person 134 = .ok (.dup, 1) := by decide +kernel
theorem dX6_person_135 : decode cX6_person 135 = .ok (.getfield 29, 3) := by decide +kernel
theorem dX6_person_138 : decode cX6_person 138 = .ok (.dup_x1, 1) := by decide +kernel
theorem dX6_person_139 : decode cX6_person 139 = .ok (.iconst 1, 1) := by decide +kernel
theorem dX6_person_140 : decode cX6_person 140 = .ok (.iadd, 1) := by decide +kernel
theorem dX6_person_141 : decode cX6_person 141 = .ok (.putfield 29, 3) := by decide +kernel
theorem dX6_person_144 : decode cX6_person 144 = .ok (.ireturn, 1) := by decide +kernel
set_option maxRecDepth 20000 in
theorem ggX6_trend_X6_isPerson : GoodIn wsX6_trend wsX6_isPerson := goodIn_r _ [8, 2, 9, 10, 11, 7, 12, 17, 18, 19, 20, 21, 22, 23, 24, 25, 26, 27, 28, 29, 30, 31, 32] (by decide +kernel) (by decide +kernel)
set_option maxRecDepth 20000 in
theorem gX6_trend_X6_isPerson : GoodIn wsX6_trend (wsV RX6 53 RX6 yX6_isPerson wsX6_isPerson) := goodIn_app (goodIn_of _ (by decide +kernel)) ggX6_trend_X6_isPerson
set_option maxRecDepth 20000 in
theorem ggX6_trend_X6_in : GoodIn wsX6_trend wsX6_in := goodIn_r _ [12] (by decide +kernel) (by decide +kernel)
set_option maxRecDepth 20000 in
theorem gX6_trend_X6_in : GoodIn wsX6_trend (va_wsS RX6 32 yX6_in wsX6_in) := goodIn_app (goodIn_of _ (by decide +kernel)) ggX6_trend_X6_in
set_option maxRecDepth 20000 in
theorem ggX6_trend_X6_no : GoodIn wsX6_trend wsX6_no := goodIn_r _ [16, 1, 17, 18] (by decide +kernel) (by decide +kernel)
set_option maxRecDepth 20000 in
theorem gX6_trend_X6_no : GoodIn wsX6_trend (wsV RX6 42 RX6 yX6_no wsX6_no) := goodIn_app (goodIn_of _ (by decide +kernel)) ggX6_trend_X6_no
theorem dX6_trend_0 : decode cX6_trend 0 = .ok (.aload_n 0, 1) := by decide +kernel
theorem dX6_trend_1 : decode cX6_trend 1 = .ok (.iconst 0, 1) := by decide +kernel
theorem dX6_trend_2 : decode cX6_trend 2 = .ok (.putfield 16, 3) := by decide +kernel
theorem dX6_trend_5 : decode cX6_trend 5 = .ok (.aload_n 0, 1) := by decide +kernel
theorem dX6_trend_6 : decode cX6_trend 6 = .ok (.iload_n 1, 1) := by decide +kernel
theorem dX6_trend_7 : decode cX6_trend 7 = .ok (.invokevirtual 53, 3) := by decide +kernel
theorem dX6_trend_10 : decode cX6_trend 10 = .ok (.ifCond .eq 12, 3) := by decide +kernel
theorem dX6_trend_13 : decode cX6_trend 13 = .ok (.iload_n 2, 1) := by decide +kernel
theorem dX6_trend_14 : decode cX6_trend 14 = .ok (.iconst 0, 1) := by decide +kernel
theorem dX6_trend_15 : decode cX6_trend 15 = .ok (.iconst 2, 1) := by decide +kernel
theorem dX6_trend_16 : decode cX6_trend 16 = .ok (.invokestatic 32, 3) := by decide +kernel
theorem dX6_trend_19 : decode cX6_trend 19 = .ok (.ifCond .ne 9, 3) := by decide +kernel
theorem dX6_trend_22 : decode cX6_trend 22 = .ok (.aload_n 0, 1) := by decide +kernel
theorem dX6_trend_23 : decode cX6_trend 23 = .ok (.iconst 1, 1) := by decide +kernel
theorem dX6_trend_24 : decode cX6_trend 24 = .ok (.invokevirtual 42, 3) := by decide +kernel
theorem dX6_trend_27 : decode cX6_trend 27 = .ok (.ireturn, 1) := by decide +kernel
theorem dX6_trend_28 : decode cX6_trend 28 = .ok (.iload_n 3, 1) := by decide +kernel
theorem dX6_trend_29 : decode cX6_trend 29 = .ok (.bipush (-40), 2) := by decide +kernel
theorem dX6_trend_31 : decode cX6_trend 31 = .ok (.bipush 40, 2) := by decide +kernel
theorem dX6_trend_33 : decode cX6_trend 33 = .ok (.invokestatic 32, 3) := by decide +kernel
theorem dX6_trend_36 : decode cX6_trend 36 = .ok (.ifCond .ne 9, 3) := by decide +kernel
theorem dX6_trend_39 : decode cX6_trend 39 = .ok (.aload_n 0, 1) := by decide +kernel
theorem dX6_trend_40 : decode cX6_trend 40 = .ok (.iconst 2, 1) := by decide +kernel
theorem dX6_trend_41 : decode cX6_trend 41 = .ok (.invokevirtual 42, 3) := by decide +kernel
theorem dX6_trend_44 : decode cX6_trend 44 = .ok (.ireturn, 1) := by decide +kernel
theorem dX6_trend_45 : decode cX6_trend 45 = .ok (.aload_n 0, 1) := by decide +kernel
theorem dX6_trend_46 : decode cX6_trend 46 = .ok (.getfield 10, 3) := by decide +kernel
theorem dX6_trend_49 : decode cX6_trend 49 = .ok (.getfield 46, 3) := by decide +kernel
theorem dX6_trend_52 : decode cX6_trend 52 = .ok (.iload_n 1, 1) := by decide +kernel
theorem dX6_trend_53 : decode cX6_trend 53 = .ok (.aaload, 1) := by decide +kernel
theorem dX6_trend_54 : decode cX6_trend 54 = .ok (.iconst 3, 1) := by decide +kernel
theorem dX6_trend_55 : decode cX6_trend 55 = .ok (.iload_n 2, 1) := by decide +kernel
theorem dX6_trend_56 : decode cX6_trend 56 = .ok (.iadd, 1) := by decide +kernel
theorem dX6_trend_57 : decode cX6_trend 57 = .ok (.iaload, 1) := by decide +kernel
theorem dX6_trend_58 : decode cX6_trend 58 = .ok (.istore 4, 2) := by decide +kernel
theorem dX6_trend_60 : decode cX6_trend 60 = .ok (.aload_n 0, 1) := by decide +kernel
theorem dX6_trend_61 : decode cX6_trend 61 = .ok (.getfield 10, 3) := by decide +kernel
theorem dX6_trend_64 : decode cX6_trend 64 = .ok (.getfield 46, 3) := by decide +kernel
theorem dX6_trend_67 : decode cX6_trend 67 = .ok (.iload_n 1, 1) := by decide +kernel
theorem dX6_trend_68 : decode cX6_trend 68 = .ok (.aaload, 1) := by decide +kernel
theorem dX6_trend_69 : decode cX6_trend 69 = .ok (.iconst 3, 1) := by decide +kernel
theorem dX6_trend_70 : decode cX6_trend 70 = .ok (.iload_n 2, 1) := by decide +kernel
theorem dX6_trend_71 : decode cX6_trend 71 = .ok (.iadd, 1) := by decide +kernel
theorem dX6_trend_72 : decode cX6_trend 72 = .ok (.iload_n 3, 1) := by decide +kernel
theorem dX6_trend_73 : decode cX6_trend 73 = .ok (.iastore, 1) := by decide +kernel
theorem dX6_trend_74 : decode cX6_trend 74 = .ok (.iload 4, 2) := by decide +kernel
theorem dX6_trend_76 : decode cX6_trend 76 = .ok (.ireturn, 1) := by decide +kernel
set_option maxRecDepth 20000 in
theorem ggX6_news_X6_isPerson : GoodIn wsX6_news wsX6_isPerson := goodIn_r _ [8, 2, 9, 10, 11, 7, 12, 27, 28, 29, 30, 31, 32, 33, 34, 35, 36, 37, 38, 39, 40, 41, 42] (by decide +kernel) (by decide +kernel)
set_option maxRecDepth 20000 in
theorem gX6_news_X6_isPerson : GoodIn wsX6_news (wsV RX6 53 RX6 yX6_isPerson wsX6_isPerson) := goodIn_app (goodIn_of _ (by decide +kernel)) ggX6_news_X6_isPerson
set_option maxRecDepth 20000 in
theorem ggX6_news_X6_no : GoodIn wsX6_news wsX6_no := goodIn_r _ [16, 1, 27, 28] (by decide +kernel) (by decide +kernel)
set_option maxRecDepth 20000 in
theorem gX6_news_X6_no : GoodIn wsX6_news (wsV RX6 42 RX6 yX6_no wsX6_no) := goodIn_app (goodIn_of _ (by decide +kernel)) ggX6_news_X6_no
set_option maxRecDepth 20000 in
theorem ggX6_news_X6_in : GoodIn wsX6_news wsX6_in := goodIn_r _ [12] (by decide +kernel) (by decide +kernel)
set_option maxRecDepth 20000 in
theorem gX6_news_X6_in : GoodIn wsX6_news (va_wsS RX6 32 yX6_in wsX6_in) := goodIn_app (goodIn_of _ (by decide +kernel)) ggX6_news_X6_in
set_option maxRecDepth 20000 in
theorem ggX6_news_X6_held : GoodIn wsX6_news wsX6_held := goodIn_r _ [19, 20, 21, 22, 23, 24, 25, 26] (by decide +kernel) (by decide +kernel)
set_option maxRecDepth 20000 in
theorem gX6_news_X6_held : GoodIn wsX6_news (va_wsS RX6 57 yX6_held wsX6_held) := goodIn_app (goodIn_of _ (by decide +kernel)) ggX6_news_X6_held
theorem dX6_news_0 : decode cX6_news 0 = .ok (.aload_n 0, 1) := by decide +kernel
theorem dX6_news_1 : decode cX6_news 1 = .ok (.iconst 0, 1) := by decide +kernel
theorem dX6_news_2 : decode cX6_news 2 = .ok (.putfield 16, 3) := by decide +kernel
theorem dX6_news_5 : decode cX6_news 5 = .ok (.aload_n 0, 1) := by decide +kernel
theorem dX6_news_6 : decode cX6_news 6 = .ok (.iload_n 1, 1) := by decide +kernel
theorem dX6_news_7 : decode cX6_news 7 = .ok (.invokevirtual 53, 3) := by decide +kernel
theorem dX6_news_10 : decode cX6_news 10 = .ok (.ifCond .ne 9, 3) := by decide +kernel
theorem dX6_news_13 : decode cX6_news 13 = .ok (.aload_n 0, 1) := by decide +kernel
theorem dX6_news_14 : decode cX6_news 14 = .ok (.iconst 1, 1) := by decide +kernel
theorem dX6_news_15 : decode cX6_news 15 = .ok (.invokevirtual 42, 3) := by decide +kernel
theorem dX6_news_18 : decode cX6_news 18 = .ok (.ireturn, 1) := by decide +kernel
theorem dX6_news_19 : decode cX6_news 19 = .ok (.iload_n 2, 1) := by decide +kernel
theorem dX6_news_20 : decode cX6_news 20 = .ok (.sipush (-500), 3) := by decide +kernel
theorem dX6_news_23 : decode cX6_news 23 = .ok (.sipush 500, 3) := by decide +kernel
theorem dX6_news_26 : decode cX6_news 26 = .ok (.invokestatic 32, 3) := by decide +kernel
theorem dX6_news_29 : decode cX6_news 29 = .ok (.ifCond .ne 9, 3) := by decide +kernel
theorem dX6_news_32 : decode cX6_news 32 = .ok (.aload_n 0, 1) := by decide +kernel
theorem dX6_news_33 : decode cX6_news 33 = .ok (.iconst 2, 1) := by decide +kernel
theorem dX6_news_34 : decode cX6_news 34 = .ok (.invokevirtual 42, 3) := by decide +kernel
theorem dX6_news_37 : decode cX6_news 37 = .ok (.ireturn, 1) := by decide +kernel
theorem dX6_news_38 : decode cX6_news 38 = .ok (.iconst 0, 1) := by decide +kernel
theorem dX6_news_39 : decode cX6_news 39 = .ok (.istore_n 3, 1) := by decide +kernel
theorem dX6_news_40 : decode cX6_news 40 = .ok (.iload_n 3, 1) := by decide +kernel
theorem dX6_news_41 : decode cX6_news 41 = .ok (.iconst 3, 1) := by decide +kernel
theorem dX6_news_42 : decode cX6_news 42 = .ok (.if_icmp .ge 39, 3) := by decide +kernel
theorem dX6_news_45 : decode cX6_news 45 = .ok (.aload_n 0, 1) := by decide +kernel
theorem dX6_news_46 : decode cX6_news 46 = .ok (.getfield 10, 3) := by decide +kernel
theorem dX6_news_49 : decode cX6_news 49 = .ok (.getfield 46, 3) := by decide +kernel
theorem dX6_news_52 : decode cX6_news 52 = .ok (.iload_n 1, 1) := by decide +kernel
theorem dX6_news_53 : decode cX6_news 53 = .ok (.aaload, 1) := by decide +kernel
theorem dX6_news_54 : decode cX6_news 54 = .ok (.iload_n 3, 1) := by decide +kernel
theorem dX6_news_55 : decode cX6_news 55 = .ok (.aload_n 0, 1) := by decide +kernel
theorem dX6_news_56 : decode cX6_news 56 = .ok (.getfield 10, 3) := by decide +kernel
theorem dX6_news_59 : decode cX6_news 59 = .ok (.getfield 46, 3) := by decide +kernel
theorem dX6_news_62 : decode cX6_news 62 = .ok (.iload_n 1, 1) := by decide +kernel
theorem dX6_news_63 : decode cX6_news 63 = .ok (.aaload, 1) := by decide +kernel
theorem dX6_news_64 : decode cX6_news 64 = .ok (.iload_n 3, 1) := by decide +kernel
theorem dX6_news_65 : decode cX6_news 65 = .ok (.iaload, 1) := by decide +kernel
theorem dX6_news_66 : decode cX6_news 66 = .ok (.iload_n 2, 1) := by decide +kernel
theorem dX6_news_67 : decode cX6_news 67 = .ok (.iadd, 1) := by decide +kernel
theorem dX6_news_68 : decode cX6_news 68 = .ok (.sipush 999, 3) := by decide +kernel
theorem dX6_news_71 : decode cX6_news 71 = .ok (.invokestatic 57, 3) := by decide +kernel
theorem dX6_news_74 : decode cX6_news 74 = .ok (.iastore, 1) := by decide +kernel
theorem dX6_news_75 : decode cX6_news 75 = .ok (.iinc 3 1, 3) := by decide +kernel
theorem dX6_news_78 : decode cX6_news 78 = .ok (.goto (-38), 3) := by decide +kernel
theorem dX6_news_81 : decode cX6_news 81 = .ok (.aload_n 0, 1) := by decide +kernel
theorem dX6_news_82 : decode cX6_news 82 = .ok (.getfield 10, 3) := by decide +kernel
theorem dX6_news_85 : decode cX6_news 85 = .ok (.getfield 46, 3) := by decide +kernel
theorem dX6_news_88 : decode cX6_news 88 = .ok (.iload_n 1, 1) := by decide +kernel
theorem dX6_news_89 : decode cX6_news 89 = .ok (.aaload, 1) := by decide +kernel
theorem dX6_news_90 : decode cX6_news 90 = .ok (.iconst 0, 1) := by decide +kernel
theorem dX6_news_91 : decode cX6_news 91 = .ok (.iaload, 1) := by decide +kernel
theorem dX6_news_92 : decode cX6_news 92 = .ok (.ireturn, 1) := by decide +kernel
set_option maxRecDepth 20000 in
theorem ggX6_consent_X6_isPerson : GoodIn wsX6_consent wsX6_isPerson := goodIn_r _ [10, 2, 11, 12, 13, 9, 14, 24, 25, 26, 27, 28, 29, 30, 31, 32, 33, 34, 35, 36, 37, 38, 39] (by decide +kernel) (by decide +kernel)
set_option maxRecDepth 20000 in
theorem gX6_consent_X6_isPerson : GoodIn wsX6_consent (wsV RX6 53 RX6 yX6_isPerson wsX6_isPerson) := goodIn_app (goodIn_of _ (by decide +kernel)) ggX6_consent_X6_isPerson
set_option maxRecDepth 20000 in
theorem ggX6_consent_X6_no : GoodIn wsX6_consent wsX6_no := goodIn_r _ [18, 1, 24, 25] (by decide +kernel) (by decide +kernel)
set_option maxRecDepth 20000 in
theorem gX6_consent_X6_no : GoodIn wsX6_consent (wsV RX6 42 RX6 yX6_no wsX6_no) := goodIn_app (goodIn_of _ (by decide +kernel)) ggX6_consent_X6_no
set_option maxRecDepth 20000 in
theorem ggX6_consent_X5_isShown : GoodIn wsX6_consent wsX5_isShown := goodIn_r _ [23] (by decide +kernel) (by decide +kernel)
set_option maxRecDepth 20000 in
theorem gX6_consent_X5_isShown : GoodIn wsX6_consent (wsV RX6 63 RX5 yX5_isShown wsX5_isShown) := goodIn_app (goodIn_of _ (by decide +kernel)) ggX6_consent_X5_isShown
theorem dX6_consent_0 : decode cX6_consent 0 = .ok (.aload_n 0, 1) := by decide +kernel
theorem dX6_consent_1 : decode cX6_consent 1 = .ok (.iconst 0, 1) := by decide +kernel
theorem dX6_consent_2 : decode cX6_consent 2 = .ok (.putfield 16, 3) := by decide +kernel
theorem dX6_consent_5 : decode cX6_consent 5 = .ok (.aload_n 0, 1) := by decide +kernel
theorem dX6_consent_6 : decode cX6_consent 6 = .ok (.iload_n 1, 1) := by decide +kernel
theorem dX6_consent_7 : decode cX6_consent 7 = .ok (.invokevirtual 53, 3) := by decide +kernel
theorem dX6_consent_10 : decode cX6_consent 10 = .ok (.ifCond .ne 9, 3) := by decide +kernel
theorem dX6_consent_13 : decode cX6_consent 13 = .ok (.aload_n 0, 1) := by decide +kernel
theorem dX6_consent_14 : decode cX6_consent 14 = .ok (.iconst 1, 1) := by decide +kernel
theorem dX6_consent_15 : decode cX6_consent 15 = .ok (.invokevirtual 42, 3) := by decide +kernel
theorem dX6_consent_18 : decode cX6_consent 18 = .ok (.ireturn, 1) := by decide +kernel
theorem dX6_consent_19 : decode cX6_consent 19 = .ok (.aload_n 0, 1) := by decide +kernel
theorem dX6_consent_20 : decode cX6_consent 20 = .ok (.getfield 10, 3) := by decide +kernel
theorem dX6_consent_23 : decode cX6_consent 23 = .ok (.getfield 46, 3) := by decide +kernel
theorem dX6_consent_26 : decode cX6_consent 26 = .ok (.iload_n 1, 1) := by decide +kernel
theorem dX6_consent_27 : decode cX6_consent 27 = .ok (.aaload, 1) := by decide +kernel
theorem dX6_consent_28 : decode cX6_consent 28 = .ok (.bipush 6, 2) := by decide +kernel
theorem dX6_consent_30 : decode cX6_consent 30 = .ok (.iload_n 2, 1) := by decide +kernel
theorem dX6_consent_31 : decode cX6_consent 31 = .ok (.ifCond .eq 7, 3) := by decide +kernel
theorem dX6_consent_34 : decode cX6_consent 34 = .ok (.iconst 1, 1) := by decide +kernel
theorem dX6_consent_35 : decode cX6_consent 35 = .ok (.goto 4, 3) := by decide +kernel
theorem dX6_consent_38 : decode cX6_consent 38 = .ok (.iconst 0, 1) := by decide +kernel
theorem dX6_consent_39 : decode cX6_consent 39 = .ok (.iastore, 1) := by decide +kernel
theorem dX6_consent_40 : decode cX6_consent 40 = .ok (.iconst 0, 1) := by decide +kernel
theorem dX6_consent_41 : decode cX6_consent 41 = .ok (.istore_n 3, 1) := by decide +kernel
theorem dX6_consent_42 : decode cX6_consent 42 = .ok (.iconst 0, 1) := by decide +kernel
theorem dX6_consent_43 : decode cX6_consent 43 = .ok (.istore 4, 2) := by decide +kernel
theorem dX6_consent_45 : decode cX6_consent 45 = .ok (.iload 4, 2) := by decide +kernel
theorem dX6_consent_47 : decode cX6_consent 47 = .ok (.aload_n 0, 1) := by decide +kernel
theorem dX6_consent_48 : decode cX6_consent 48 = .ok (.getfield 10, 3) := by decide +kernel
theorem dX6_consent_51 : decode cX6_consent 51 = .ok (.getfield 36, 3) := by decide +kernel
theorem dX6_consent_54 : decode cX6_consent 54 = .ok (.if_icmp .ge 57, 3) := by decide +kernel
theorem dX6_consent_57 : decode cX6_consent 57 = .ok (.iload_n 2, 1) := by decide +kernel
theorem dX6_consent_58 : decode cX6_consent 58 = .ok (.ifCond .ne 53, 3) := by decide +kernel
theorem dX6_consent_61 : decode cX6_consent 61 = .ok (.aload_n 0, 1) := by decide +kernel
theorem dX6_consent_62 : decode cX6_consent 62 = .ok (.getfield 10, 3) := by decide +kernel
theorem dX6_consent_65 : decode cX6_consent 65 = .ok (.getfield 60, 3) := by decide +kernel
theorem dX6_consent_68 : decode cX6_consent 68 = .ok (.iload 4, 2) := by decide +kernel
theorem dX6_consent_70 : decode cX6_consent 70 = .ok (.aaload, 1) := by decide +kernel
theorem dX6_consent_71 : decode cX6_consent 71 = .ok (.astore 5, 2) := by decide +kernel
theorem dX6_consent_73 : decode cX6_consent 73 = .ok (.aload_n 0, 1) := by decide +kernel
theorem dX6_consent_74 : decode cX6_consent 74 = .ok (.getfield 10, 3) := by decide +kernel
theorem dX6_consent_77 : decode cX6_consent 77 = .ok (.aload 5, 2) := by decide +kernel
theorem dX6_consent_79 : decode cX6_consent 79 = .ok (.invokevirtual 63, 3) := by decide +kernel
theorem dX6_consent_82 : decode cX6_consent 82 = .ok (.ifCond .eq 23, 3) := by decide +kernel
theorem dX6_consent_85 : decode cX6_consent 85 = .ok (.aload 5, 2) := by decide +kernel
theorem dX6_consent_87 : decode cX6_consent 87 = .ok (.iconst 0, 1) := by decide +kernel
theorem dX6_consent_88 : decode cX6_consent 88 = .ok (.iaload, 1) := by decide +kernel
theorem dX6_consent_89 : decode cX6_consent 89 = .ok (.iload_n 1, 1) := by decide +kernel
theorem dX6_consent_90 : decode cX6_consent 90 = .ok (.if_icmp .eq 6, 3) := by decide +kernel
theorem dX6_consent_93 : decode cX6_consent 93 = .ok (.goto 12, 3) := by decide +kernel
theorem dX6_consent_96 : decode cX6_consent 96 = .ok (.aload 5, 2) := by decide +kernel
theorem dX6_consent_98 : decode cX6_consent 98 = .ok (.bipush 7, 2) := by decide +kernel
theorem dX6_consent_100 : decode cX6_consent 100 = .ok (.iconst 5, 1) := by decide +kernel
theorem dX6_consent_101 : decode cX6_consent 101 = .ok (.iastore, 1) := by decide +kernel
theorem dX6_consent_102 : decode cX6_consent 102 = .ok (.iinc 3 1, 3) := by decide +kernel
theorem dX6_consent_105 : decode cX6_consent 105 = .ok (.iinc 4 1, 3) := by decide +kernel
theorem dX6_consent_108 : decode cX6_consent 108 = .ok (.goto (-63), 3) := by decide +kernel
theorem dX6_consent_111 : decode cX6_consent 111 = .ok (.iload_n 3, 1) := by decide +kernel
theorem dX6_consent_112 : decode cX6_consent 112 = .ok (.ireturn, 1) := by decide +kernel
set_option maxRecDepth 20000 in
theorem ggX6_measure_X6_isPerson : GoodIn wsX6_measure wsX6_isPerson := goodIn_r _ [17, 2, 18, 19, 20, 16, 21, 29, 30, 31, 32, 33, 34, 35, 36, 37, 38, 39, 40, 41, 42, 43, 44] (by decide +kernel) (by decide +kernel)
set_option maxRecDepth 20000 in
theorem gX6_measure_X6_isPerson : GoodIn wsX6_measure (wsV RX6 53 RX6 yX6_isPerson wsX6_isPerson) := goodIn_app (goodIn_of _ (by decide +kernel)) ggX6_measure_X6_isPerson
set_option maxRecDepth 20000 in
theorem ggX6_measure_X6_in : GoodIn wsX6_measure wsX6_in := goodIn_r _ [21] (by decide +kernel) (by decide +kernel)
set_option maxRecDepth 20000 in
theorem gX6_measure_X6_in : GoodIn wsX6_measure (va_wsS RX6 32 yX6_in wsX6_in) := goodIn_app (goodIn_of _ (by decide +kernel)) ggX6_measure_X6_in
set_option maxRecDepth 20000 in
theorem ggX6_measure_X6_no : GoodIn wsX6_measure wsX6_no := goodIn_r _ [25, 1, 29, 30] (by decide +kernel) (by decide +kernel)
set_option maxRecDepth 20000 in
theorem gX6_measure_X6_no : GoodIn wsX6_measure (wsV RX6 42 RX6 yX6_no wsX6_no) := goodIn_app (goodIn_of _ (by decide +kernel)) ggX6_measure_X6_no
set_option maxRecDepth 20000 in
theorem ggX6_measure_X6_held : GoodIn wsX6_measure wsX6_held := goodIn_r _ [28, 9, 10, 6, 11, 4, 5, 7] (by decide +kernel) (by decide +kernel)
set_option maxRecDepth 20000 in
theorem gX6_measure_X6_held : GoodIn wsX6_measure (va_wsS RX6 57 yX6_held wsX6_held) := goodIn_app (goodIn_of _ (by decide +kernel)) ggX6_measure_X6_held
theorem dX6_measure_0 : decode cX6_measure 0 = .ok (.aload_n 0, 1) := by decide +kernel
theorem dX6_measure_1 : decode cX6_measure 1 = .ok (.iconst 0, 1) := by decide +kernel
theorem dX6_measure_2 : decode cX6_measure 2 = .ok (.putfield 16, 3) := by decide +kernel
theorem dX6_measure_5 : decode cX6_measure 5 = .ok (.aload_n 0, 1) := by decide +kernel
theorem dX6_measure_6 : decode cX6_measure 6 = .ok (.iload_n 1, 1) := by decide +kernel
theorem dX6_measure_7 : decode cX6_measure 7 = .ok (.invokevirtual 53, 3) := by decide +kernel
theorem dX6_measure_10 : decode cX6_measure 10 = .ok (.ifCond .eq 12, 3) := by decide +kernel
theorem dX6_measure_13 : decode cX6_measure 13 = .ok (.iload_n 2, 1) := by decide +kernel
theorem dX6_measure_14 : decode cX6_measure 14 = .ok (.iconst 0, 1) := by decide +kernel
theorem dX6_measure_15 : decode cX6_measure 15 = .ok (.iconst 5, 1) := by decide +kernel
theorem dX6_measure_16 : decode cX6_measure 16 = .ok (.invokestatic 32, 3) := by decide +kernel
theorem dX6_measure_19 : decode cX6_measure 19 = .ok (.ifCond .ne 9, 3) := by decide +kernel
theorem dX6_measure_22 : decode cX6_measure 22 = .ok (.aload_n 0, 1) := by decide +kernel
theorem dX6_measure_23 : decode cX6_measure 23 = .ok (.iconst 1, 1) := by decide +kernel
theorem dX6_measure_24 : decode cX6_measure 24 = .ok (.invokevirtual 42, 3) := by decide +kernel
theorem dX6_measure_27 : decode cX6_measure 27 = .ok (.ireturn, 1) := by decide +kernel
theorem dX6_measure_28 : decode cX6_measure 28 = .ok (.iload_n 3, 1) := by decide +kernel
theorem dX6_measure_29 : decode cX6_measure 29 = .ok (.iconst 0, 1) := by decide +kernel
theorem dX6_measure_30 : decode cX6_measure 30 = .ok (.bipush 99, 2) := by decide +kernel
theorem dX6_measure_32 : decode cX6_measure 32 = .ok (.invokestatic 32, 3) := by decide +kernel
theorem dX6_measure_35 : decode cX6_measure 35 = .ok (.ifCond .eq 14, 3) := by decide +kernel
theorem dX6_measure_38 : decode cX6_measure 38 = .ok (.iload 4, 2) := by decide +kernel
theorem dX6_measure_40 : decode cX6_measure 40 = .ok (.iconst 0, 1) := by decide +kernel
theorem dX6_measure_41 : decode cX6_measure 41 = .ok (.bipush 20, 2) := by decide +kernel
theorem dX6_measure_43 : decode cX6_measure 43 = .ok (.invokestatic 32, 3) := by decide +kernel
theorem dX6_measure_46 : decode cX6_measure 46 = .ok (.ifCond .ne 9, 3) := by decide +kernel
theorem dX6_measure_49 : decode cX6_measure 49 = .ok (.aload_n 0, 1) := by decide +kernel
theorem dX6_measure_50 : decode cX6_measure 50 = .ok (.iconst 2, 1) := by decide +kernel
theorem dX6_measure_51 : decode cX6_measure 51 = .ok (.invokevirtual 42, 3) := by decide +kernel
theorem dX6_measure_54 : decode cX6_measure 54 = .ok (.ireturn, 1) := by decide +kernel
theorem dX6_measure_55 : decode cX6_measure 55 = .ok (.iload_n 3, 1) := by decide +kernel
theorem dX6_measure_56 : decode cX6_measure 56 = .ok (.iload 4, 2) := by decide +kernel
theorem dX6_measure_58 : decode cX6_measure 58 = .ok (.isub, 1) := by decide +kernel
theorem dX6_measure_59 : decode cX6_measure 59 = .ok (.bipush 99, 2) := by decide +kernel
theorem dX6_measure_61 : decode cX6_measure 61 = .ok (.invokestatic 57, 3) := by decide +kernel
theorem dX6_measure_64 : decode cX6_measure 64 = .ok (.istore 5, 2) := by decide +kernel
theorem dX6_measure_66 : decode cX6_measure 66 = .ok (.iload_n 3, 1) := by decide +kernel
theorem dX6_measure_67 : decode cX6_measure 67 = .ok (.iload 4, 2) := by decide +kernel
theorem dX6_measure_69 : decode cX6_measure 69 = .ok (.iadd, 1) := by decide +kernel
theorem dX6_measure_70 : decode cX6_measure 70 = .ok (.bipush 99, 2) := by decide +kernel
theorem dX6_measure_72 : decode cX6_measure 72 = .ok (.invokestatic 57, 3) := by decide +kernel
theorem dX6_measure_75 : decode cX6_measure 75 = .ok (.istore 6, 2) := by decide +kernel
theorem dX6_measure_77 : decode cX6_measure 77 = .ok (.iload 5, 2) := by decide +kernel
theorem dX6_measure_79 : decode cX6_measure 79 = .ok (.aload_n 0, 1) := by decide +kernel
theorem dX6_measure_80 : decode cX6_measure 80 = .ok (.getfield 10, 3) := by decide +kernel
theorem dX6_measure_83 : decode cX6_measure 83 = .ok (.getfield 67, 3) := by decide +kernel
theorem dX6_measure_86 : decode cX6_measure 86 = .ok (.iload_n 1, 1) := by decide +kernel
theorem dX6_measure_87 : decode cX6_measure 87 = .ok (.aaload, 1) := by decide +kernel
theorem dX6_measure_88 : decode cX6_measure 88 = .ok (.iload_n 2, 1) := by decide +kernel
theorem dX6_measure_89 : decode cX6_measure 89 = .ok (.iaload, 1) := by decide +kernel
theorem dX6_measure_90 : decode cX6_measure 90 = .ok (.invokestatic 26, 3) := by decide +kernel
theorem dX6_measure_93 : decode cX6_measure 93 = .ok (.iload 6, 2) := by decide +kernel
theorem dX6_measure_95 : decode cX6_measure 95 = .ok (.aload_n 0, 1) := by decide +kernel
theorem dX6_measure_96 : decode cX6_measure 96 = .ok (.getfield 10, 3) := by decide +kernel
theorem dX6_measure_99 : decode cX6_measure 99 = .ok (.getfield 50, 3) := by decide +kernel
theorem dX6_measure_102 : decode cX6_measure 102 = .ok (.iload_n 1, 1) := by decide +kernel
theorem dX6_measure_103 : decode cX6_measure 103 = .ok (.aaload, 1) := by decide +kernel
theorem dX6_measure_104 : decode cX6_measure 104 = .ok (.iload_n 2, 1) := by decide +kernel
theorem dX6_measure_105 : decode cX6_measure 105 = .ok (.iaload, 1) := by decide +kernel
theorem dX6_measure_106 : decode cX6_measure 106 = .ok (.invokestatic 20, 3) := by decide +kernel
theorem dX6_measure_109 : decode cX6_measure 109 = .ok (.if_icmp .le 7, 3) := by decide +kernel
theorem dX6_measure_112 : decode cX6_measure 112 = .ok (.iconst 1, 1) := by decide +kernel
theorem dX6_measure_113 : decode cX6_measure 113 = .ok (.goto 4, 3) := by decide +kernel
theorem dX6_measure_116 : decode cX6_measure 116 = .ok (.iconst 0, 1) := by decide +kernel
theorem dX6_measure_117 : decode cX6_measure 117 = .ok (.istore 7, 2) := by decide +kernel
theorem dX6_measure_119 : decode cX6_measure 119 = .ok (.aload_n 0, 1) := by decide +kernel
theorem dX6_measure_120 : decode cX6_measure 120 = .ok (.getfield 10, 3) := by decide +kernel
theorem dX6_measure_123 : decode cX6_measure 123 = .ok (.getfield 46, 3) := by decide +kernel
theorem dX6_measure_126 : decode cX6_measure 126 = .ok (.iload_n 1, 1) := by decide +kernel
theorem dX6_measure_127 : decode cX6_measure 127 = .ok (.aaload, 1) := by decide +kernel
theorem dX6_measure_128 : decode cX6_measure 128 = .ok (.bipush 8, 2) := by decide +kernel
theorem dX6_measure_130 : decode cX6_measure 130 = .ok (.dup2, 1) := by decide +kernel
theorem dX6_measure_131 : decode cX6_measure 131 = .ok (.iaload, 1) := by decide +kernel
theorem dX6_measure_132 : decode cX6_measure 132 = .ok (.iload 7, 2) := by decide +kernel
theorem dX6_measure_134 : decode cX6_measure 134 = .ok (.ifCond .eq 7, 3) := by decide +kernel
theorem dX6_measure_137 : decode cX6_measure 137 = .ok (.iconst 1, 1) := by decide +kernel
theorem dX6_measure_138 : decode cX6_measure 138 = .ok (.goto 4, 3) := by decide +kernel
theorem dX6_measure_141 : decode cX6_measure 141 = .ok (.iconst 0, 1) := by decide +kernel
theorem dX6_measure_142 : decode cX6_measure 142 = .ok (.iadd, 1) := by decide +kernel
theorem dX6_measure_143 : decode cX6_measure 143 = .ok (.iastore, 1) := by decide +kernel
theorem dX6_measure_144 : decode cX6_measure 144 = .ok (.aload_n 0, 1) := by decide +kernel
theorem dX6_measure_145 : decode cX6_measure 145 = .ok (.getfield 10, 3) := by decide +kernel
theorem dX6_measure_148 : decode cX6_measure 148 = .ok (.getfield 67, 3) := by decide +kernel
theorem dX6_measure_151 : decode cX6_measure 151 = .ok (.iload_n 1, 1) := by decide +kernel
theorem dX6_measure_152 : decode cX6_measure 152 = .ok (.aaload, 1) := by decide +kernel
theorem dX6_measure_153 : decode cX6_measure 153 = .ok (.iload_n 2, 1) := by decide +kernel
theorem dX6_measure_154 : decode cX6_measure 154 = .ok (.iload 7, 2) := by decide +kernel
theorem dX6_measure_156 : decode cX6_measure 156 = .ok (.ifCond .eq 8, 3) := by decide +kernel
theorem dX6_measure_159 : decode cX6_measure 159 = .ok (.iload 5, 2) := by decide +kernel
theorem dX6_measure_161 : decode cX6_measure 161 = .ok (.goto 19, 3) := by decide +kernel
theorem dX6_measure_164 : decode cX6_measure 164 = .ok (.iload 5, 2) := by decide +kernel
theorem dX6_measure_166 : decode cX6_measure 166 = .ok (.aload_n 0, 1) := by decide +kernel
theorem dX6_measure_167 : decode cX6_measure 167 = .ok (.getfield 10, 3) := by decide +kernel
theorem dX6_measure_170 : decode cX6_measure 170 = .ok (.getfield 67, 3) := by decide +kernel
theorem dX6_measure_173 : decode cX6_measure 173 = .ok (.iload_n 1, 1) := by decide +kernel
theorem dX6_measure_174 : decode cX6_measure 174 = .ok (.aaload, 1) := by decide +kernel
theorem dX6_measure_175 : decode cX6_measure 175 = .ok (.iload_n 2, 1) := by decide +kernel
theorem dX6_measure_176 : decode cX6_measure 176 = .ok (.iaload, 1) := by decide +kernel
theorem dX6_measure_177 : decode cX6_measure 177 = .ok (.invokestatic 26, 3) := by decide +kernel
theorem dX6_measure_180 : decode cX6_measure 180 = .ok (.iastore, 1) := by decide +kernel
theorem dX6_measure_181 : decode cX6_measure 181 = .ok (.aload_n 0, 1) := by decide +kernel
theorem dX6_measure_182 : decode cX6_measure 182 = .ok (.getfield 10, 3) := by decide +kernel
theorem dX6_measure_185 : decode cX6_measure 185 = .ok (.getfield 50, 3) := by decide +kernel
theorem dX6_measure_188 : decode cX6_measure 188 = .ok (.iload_n 1, 1) := by decide +kernel
theorem dX6_measure_189 : decode cX6_measure 189 = .ok (.aaload, 1) := by decide +kernel
theorem dX6_measure_190 : decode cX6_measure 190 = .ok (.iload_n 2, 1) := by decide +kernel
theorem dX6_measure_191 : decode cX6_measure 191 = .ok (.iload 7, 2) := by decide +kernel
theorem dX6_measure_193 : decode cX6_measure 193 = .ok (.ifCond .eq 8, 3) := by decide +kernel
theorem dX6_measure_196 : decode cX6_measure 196 = .ok (.iload 6, 2) := by decide +kernel
theorem dX6_measure_198 : decode cX6_measure 198 = .ok (.goto 19, 3) := by decide +kernel
theorem dX6_measure_201 : decode cX6_measure 201 = .ok (.iload 6, 2) := by decide +kernel
theorem dX6_measure_203 : decode cX6_measure 203 = .ok (.aload_n 0, 1) := by decide +kernel
theorem dX6_measure_204 : decode cX6_measure 204 = .ok (.getfield 10, 3) := by decide +kernel
theorem dX6_measure_207 : decode cX6_measure 207 = .ok (.getfield 50, 3) := by decide +kernel
theorem dX6_measure_210 : decode cX6_measure 210 = .ok (.iload_n 1, 1) := by decide +kernel
theorem dX6_measure_211 : decode cX6_measure 211 = .ok (.aaload, 1) := by decide +kernel
theorem dX6_measure_212 : decode cX6_measure 212 = .ok (.iload_n 2, 1) := by decide +kernel
theorem dX6_measure_213 : decode cX6_measure 213 = .ok (.iaload, 1) := by decide +kernel
theorem dX6_measure_214 : decode cX6_measure 214 = .ok (.invokestatic 20, 3) := by decide +kernel
theorem dX6_measure_217 : decode cX6_measure 217 = .ok (.iastore, 1) := by decide +kernel
theorem dX6_measure_218 : decode cX6_measure 218 = .ok (.aload_n 0, 1) := by decide +kernel
theorem dX6_measure_219 : decode cX6_measure 219 = .ok (.getfield 10, 3) := by decide +kernel
theorem dX6_measure_222 : decode cX6_measure 222 = .ok (.getfield 50, 3) := by decide +kernel
theorem dX6_measure_225 : decode cX6_measure 225 = .ok (.iload_n 1, 1) := by decide +kernel
theorem dX6_measure_226 : decode cX6_measure 226 = .ok (.aaload, 1) := by decide +kernel
theorem dX6_measure_227 : decode cX6_measure 227 = .ok (.iload_n 2, 1) := by decide +kernel
theorem dX6_measure_228 : decode cX6_measure 228 = .ok (.iaload, 1) := by decide +kernel
theorem dX6_measure_229 : decode cX6_measure 229 = .ok (.aload_n 0, 1) := by decide +kernel
theorem dX6_measure_230 : decode cX6_measure 230 = .ok (.getfield 10, 3) := by decide +kernel
theorem dX6_measure_233 : decode cX6_measure 233 = .ok (.getfield 67, 3) := by decide +kernel
theorem dX6_measure_236 : decode cX6_measure 236 = .ok (.iload_n 1, 1) := by decide +kernel
theorem dX6_measure_237 : decode cX6_measure 237 = .ok (.aaload, 1) := by decide +kernel
theorem dX6_measure_238 : decode cX6_measure 238 = .ok (.iload_n 2, 1) := by decide +kernel
theorem dX6_measure_239 : decode cX6_measure 239 = .ok (.iaload, 1) := by decide +kernel
theorem dX6_measure_240 : decode cX6_measure 240 = .ok (.isub, 1) := by decide +kernel
theorem dX6_measure_241 : decode cX6_measure 241 = .ok (.ireturn, 1) := by decide +kernel
set_option maxRecDepth 20000 in
theorem ggX6_pay_X6_isPerson : GoodIn wsX6_pay wsX6_isPerson := goodIn_r _ [9, 2, 10, 11, 12, 8, 13, 18, 19, 20, 21, 22, 23, 24, 25, 26, 27, 28, 29, 30, 31, 32, 33] (by decide +kernel) (by decide +kernel)
set_option maxRecDepth 20000 in
theorem gX6_pay_X6_isPerson : GoodIn wsX6_pay (wsV RX6 53 RX6 yX6_isPerson wsX6_isPerson) := goodIn_app (goodIn_of _ (by decide +kernel)) ggX6_pay_X6_isPerson
set_option maxRecDepth 20000 in
theorem ggX6_pay_X6_no : GoodIn wsX6_pay wsX6_no := goodIn_r _ [17, 1, 18, 19] (by decide +kernel) (by decide +kernel)
set_option maxRecDepth 20000 in
theorem gX6_pay_X6_no : GoodIn wsX6_pay (wsV RX6 42 RX6 yX6_no wsX6_no) := goodIn_app (goodIn_of _ (by decide +kernel)) ggX6_pay_X6_no
theorem dX6_pay_0 : decode cX6_pay 0 = .ok (.aload_n 0, 1) := by decide +kernel
theorem dX6_pay_1 : decode cX6_pay 1 = .ok (.iconst 0, 1) := by decide +kernel
theorem dX6_pay_2 : decode cX6_pay 2 = .ok (.putfield 16, 3) := by decide +kernel
theorem dX6_pay_5 : decode cX6_pay 5 = .ok (.aload_n 0, 1) := by decide +kernel
theorem dX6_pay_6 : decode cX6_pay 6 = .ok (.iload_n 1, 1) := by decide +kernel
theorem dX6_pay_7 : decode cX6_pay 7 = .ok (.invokevirtual 53, 3) := by decide +kernel
theorem dX6_pay_10 : decode cX6_pay 10 = .ok (.ifCond .ne 9, 3) := by decide +kernel
theorem dX6_pay_13 : decode cX6_pay 13 = .ok (.aload_n 0, 1) := by decide +kernel
theorem dX6_pay_14 : decode cX6_pay 14 = .ok (.iconst 1, 1) := by decide +kernel
theorem dX6_pay_15 : decode cX6_pay 15 = .ok (.invokevirtual 42, 3) := by decide +kernel
theorem dX6_pay_18 : decode cX6_pay 18 = .ok (.ireturn, 1) := by decide +kernel
theorem dX6_pay_19 : decode cX6_pay 19 = .ok (.aload_n 0, 1) := by decide +kernel
theorem dX6_pay_20 : decode cX6_pay 20 = .ok (.getfield 10, 3) := by decide +kernel
theorem dX6_pay_23 : decode cX6_pay 23 = .ok (.getfield 46, 3) := by decide +kernel
theorem dX6_pay_26 : decode cX6_pay 26 = .ok (.iload_n 1, 1) := by decide +kernel
theorem dX6_pay_27 : decode cX6_pay 27 = .ok (.aaload, 1) := by decide +kernel
theorem dX6_pay_28 : decode cX6_pay 28 = .ok (.bipush 7, 2) := by decide +kernel
theorem dX6_pay_30 : decode cX6_pay 30 = .ok (.iaload, 1) := by decide +kernel
theorem dX6_pay_31 : decode cX6_pay 31 = .ok (.istore_n 2, 1) := by decide +kernel
theorem dX6_pay_32 : decode cX6_pay 32 = .ok (.aload_n 0, 1) := by decide +kernel
theorem dX6_pay_33 : decode cX6_pay 33 = .ok (.getfield 10, 3) := by decide +kernel
theorem dX6_pay_36 : decode cX6_pay 36 = .ok (.getfield 46, 3) := by decide +kernel
theorem dX6_pay_39 : decode cX6_pay 39 = .ok (.iload_n 1, 1) := by decide +kernel
theorem dX6_pay_40 : decode cX6_pay 40 = .ok (.aaload, 1) := by decide +kernel
theorem dX6_pay_41 : decode cX6_pay 41 = .ok (.bipush 7, 2) := by decide +kernel
theorem dX6_pay_43 : decode cX6_pay 43 = .ok (.iconst 0, 1) := by decide +kernel
theorem dX6_pay_44 : decode cX6_pay 44 = .ok (.iastore, 1) := by decide +kernel
theorem dX6_pay_45 : decode cX6_pay 45 = .ok (.aload_n 0, 1) := by decide +kernel
theorem dX6_pay_46 : decode cX6_pay 46 = .ok (.getfield 10, 3) := by decide +kernel
theorem dX6_pay_49 : decode cX6_pay 49 = .ok (.dup, 1) := by decide +kernel
theorem dX6_pay_50 : decode cX6_pay 50 = .ok (.getfield 70, 3) := by decide +kernel
theorem dX6_pay_53 : decode cX6_pay 53 = .ok (.iload_n 2, 1) := by decide +kernel
theorem dX6_pay_54 : decode cX6_pay 54 = .ok (.isub, 1) := by decide +kernel
theorem dX6_pay_55 : decode cX6_pay 55 = .ok (.putfield 70, 3) := by decide +kernel
theorem dX6_pay_58 : decode cX6_pay 58 = .ok (.iload_n 2, 1) := by decide +kernel
theorem dX6_pay_59 : decode cX6_pay 59 = .ok (.ireturn, 1) := by decide +kernel
set_option maxRecDepth 20000 in
theorem ggX6_figure_X6_isPerson : GoodIn wsX6_figure wsX6_isPerson := goodIn_r _ [14, 2, 15, 16, 17, 13, 18, 26, 27, 28, 29, 30, 31, 32, 33, 34, 35, 36, 37, 38, 39, 40, 41] (by decide +kernel) (by decide +kernel)
set_option maxRecDepth 20000 in
theorem gX6_figure_X6_isPerson : GoodIn wsX6_figure (wsV RX6 53 RX6 yX6_isPerson wsX6_isPerson) := goodIn_app (goodIn_of _ (by decide +kernel)) ggX6_figure_X6_isPerson
set_option maxRecDepth 20000 in
theorem ggX6_figure_X6_no : GoodIn wsX6_figure wsX6_no := goodIn_r _ [22, 1, 26, 27] (by decide +kernel) (by decide +kernel)
set_option maxRecDepth 20000 in
theorem gX6_figure_X6_no : GoodIn wsX6_figure (wsV RX6 42 RX6 yX6_no wsX6_no) := goodIn_app (goodIn_of _ (by decide +kernel)) ggX6_figure_X6_no
set_option maxRecDepth 20000 in
theorem ggX6_figure_X6_needs : GoodIn wsX6_figure wsX6_needs := goodIn_r _ [25, 4] (by decide +kernel) (by decide +kernel)
set_option maxRecDepth 20000 in
theorem gX6_figure_X6_needs : GoodIn wsX6_figure (va_wsS RX6 73 yX6_needs wsX6_needs) := goodIn_app (goodIn_of _ (by decide +kernel)) ggX6_figure_X6_needs
theorem dX6_figure_0 : decode cX6_figure 0 = .ok (.aload_n 0, 1) := by decide +kernel
theorem dX6_figure_1 : decode cX6_figure 1 = .ok (.iconst 0, 1) := by decide +kernel
theorem dX6_figure_2 : decode cX6_figure 2 = .ok (.putfield 16, 3) := by decide +kernel
theorem dX6_figure_5 : decode cX6_figure 5 = .ok (.aload_n 0, 1) := by decide +kernel
theorem dX6_figure_6 : decode cX6_figure 6 = .ok (.iload_n 1, 1) := by decide +kernel
theorem dX6_figure_7 : decode cX6_figure 7 = .ok (.invokevirtual 53, 3) := by decide +kernel
theorem dX6_figure_10 : decode cX6_figure 10 = .ok (.ifCond .ne 9, 3) := by decide +kernel
theorem dX6_figure_13 : decode cX6_figure 13 = .ok (.aload_n 0, 1) := by decide +kernel
theorem dX6_figure_14 : decode cX6_figure 14 = .ok (.iconst 1, 1) := by decide +kernel
theorem dX6_figure_15 : decode cX6_figure 15 = .ok (.invokevirtual 42, 3) := by decide +kernel
theorem dX6_figure_18 : decode cX6_figure 18 = .ok (.ireturn, 1) := by decide +kernel
theorem dX6_figure_19 : decode cX6_figure 19 = .ok (.aload_n 0, 1) := by decide +kernel
theorem dX6_figure_20 : decode cX6_figure 20 = .ok (.getfield 10, 3) := by decide +kernel
theorem dX6_figure_23 : decode cX6_figure 23 = .ok (.getfield 36, 3) := by decide +kernel
theorem dX6_figure_26 : decode cX6_figure 26 = .ok (.bipush 8, 2) := by decide +kernel
theorem dX6_figure_28 : decode cX6_figure 28 = .ok (.if_icmp .ne 9, 3) := by decide +kernel
theorem dX6_figure_31 : decode cX6_figure 31 = .ok (.aload_n 0, 1) := by decide +kernel
theorem dX6_figure_32 : decode cX6_figure 32 = .ok (.iconst 2, 1) := by decide +kernel
theorem dX6_figure_33 : decode cX6_figure 33 = .ok (.invokevirtual 42, 3) := by decide +kernel
theorem dX6_figure_36 : decode cX6_figure 36 = .ok (.ireturn, 1) := by decide +kernel
theorem dX6_figure_37 : decode cX6_figure 37 = .ok (.bipush 11, 2) := by decide +kernel
theorem dX6_figure_39 : decode cX6_figure 39 = .ok (.newarray .int, 2) := by decide +kernel
theorem dX6_figure_41 : decode cX6_figure 41 = .ok (.dup, 1) := by decide +kernel
theorem dX6_figure_42 : decode cX6_figure 42 = .ok (.iconst 0, 1) := by decide +kernel
theorem dX6_figure_43 : decode cX6_figure 43 = .ok (.iload_n 1, 1) := by decide +kernel
theorem dX6_figure_44 : decode cX6_figure 44 = .ok (.iastore, 1) := by decide +kernel
theorem dX6_figure_45 : decode cX6_figure 45 = .ok (.dup, 1) := by decide +kernel
theorem dX6_figure_46 : decode cX6_figure 46 = .ok (.iconst 1, 1) := by decide +kernel
theorem dX6_figure_47 : decode cX6_figure 47 = .ok (.iload_n 1, 1) := by decide +kernel
theorem dX6_figure_48 : decode cX6_figure 48 = .ok (.iastore, 1) := by decide +kernel
theorem dX6_figure_49 : decode cX6_figure 49 = .ok (.dup, 1) := by decide +kernel
theorem dX6_figure_50 : decode cX6_figure 50 = .ok (.iconst 2, 1) := by decide +kernel
theorem dX6_figure_51 : decode cX6_figure 51 = .ok (.iconst 0, 1) := by decide +kernel
theorem dX6_figure_52 : decode cX6_figure 52 = .ok (.iastore, 1) := by decide +kernel
theorem dX6_figure_53 : decode cX6_figure 53 = .ok (.dup, 1) := by decide +kernel
theorem dX6_figure_54 : decode cX6_figure 54 = .ok (.iconst 3, 1) := by decide +kernel
theorem dX6_figure_55 : decode cX6_figure 55 = .ok (.iconst 0, 1) := by decide +kernel
theorem dX6_figure_56 : decode cX6_figure 56 = .ok (.invokestatic 73, 3) := by decide +kernel
theorem dX6_figure_59 : decode cX6_figure 59 = .ok (.iastore, 1) := by decide +kernel
theorem dX6_figure_60 : decode cX6_figure 60 = .ok (.dup, 1) := by decide +kernel
theorem dX6_figure_61 : decode cX6_figure 61 = .ok (.iconst 4, 1) := by decide +kernel
theorem dX6_figure_62 : decode cX6_figure 62 = .ok (.iconst 0, 1) := by decide +kernel
theorem dX6_figure_63 : decode cX6_figure 63 = .ok (.iastore, 1) := by decide +kernel
theorem dX6_figure_64 : decode cX6_figure 64 = .ok (.dup, 1) := by decide +kernel
theorem dX6_figure_65 : decode cX6_figure 65 = .ok (.iconst 5, 1) := by decide +kernel
theorem dX6_figure_66 : decode cX6_figure 66 = .ok (.iconst 0, 1) := by decide +kernel
theorem dX6_figure_67 : decode cX6_figure 67 = .ok (.iastore, 1) := by decide +kernel
theorem dX6_figure_68 : decode cX6_figure 68 = .ok (.dup, 1) := by decide +kernel
theorem dX6_figure_69 : decode cX6_figure 69 = .ok (.bipush 6, 2) := by decide +kernel
theorem dX6_figure_71 : decode cX6_figure 71 = .ok (.iconst 0, 1) := by decide +kernel
theorem dX6_figure_72 : decode cX6_figure 72 = .ok (.iastore, 1) := by decide +kernel
theorem dX6_figure_73 : decode cX6_figure 73 = .ok (.dup, 1) := by decide +kernel
theorem dX6_figure_74 : decode cX6_figure 74 = .ok (.bipush 7, 2) := by decide +kernel
theorem dX6_figure_76 : decode cX6_figure 76 = .ok (.iconst 5, 1) := by decide +kernel
theorem dX6_figure_77 : decode cX6_figure 77 = .ok (.iastore, 1) := by decide +kernel
theorem dX6_figure_78 : decode cX6_figure 78 = .ok (.dup, 1) := by decide +kernel
theorem dX6_figure_79 : decode cX6_figure 79 = .ok (.bipush 8, 2) := by decide +kernel
theorem dX6_figure_81 : decode cX6_figure 81 = .ok (.iconst 0, 1) := by decide +kernel
theorem dX6_figure_82 : decode cX6_figure 82 = .ok (.iastore, 1) := by decide +kernel
theorem dX6_figure_83 : decode cX6_figure 83 = .ok (.dup, 1) := by decide +kernel
theorem dX6_figure_84 : decode cX6_figure 84 = .ok (.bipush 9, 2) := by decide +kernel
theorem dX6_figure_86 : decode cX6_figure 86 = .ok (.iconst 0, 1) := by decide +kernel
theorem dX6_figure_87 : decode cX6_figure 87 = .ok (.iastore, 1) := by decide +kernel
theorem dX6_figure_88 : decode cX6_figure 88 = .ok (.dup, 1) := by decide +kernel
theorem dX6_figure_89 : decode cX6_figure 89 = .ok (.bipush 10, 2) := by decide +kernel
theorem dX6_figure_91 : decode cX6_figure 91 = .ok (.iconst 0, 1) := by decide +kernel
theorem dX6_figure_92 : decode cX6_figure 92 = .ok (.iastore, 1) := by decide +kernel
theorem dX6_figure_93 : decode cX6_figure 93 = .ok (.astore_n 2, 1) := by decide +kernel
theorem dX6_figure_94 : decode cX6_figure 94 = .ok (.aload_n 2, 1) := by decide +kernel
theorem dX6_figure_95 : decode cX6_figure 95 = .ok (.iconst 0, 1) := by decide +kernel
theorem dX6_figure_96 : decode cX6_figure 96 = .ok (.aload_n 0, 1) := by decide +kernel
theorem dX6_figure_97 : decode cX6_figure 97 = .ok (.getfield 10, 3) := by decide +kernel
theorem dX6_figure_100 : decode cX6_figure 100 = .ok (.getfield 60, 3) := by decide +kernel
theorem dX6_figure_103 : decode cX6_figure 103 = .ok (.aload_n 0, 1) := by decide +kernel
theorem dX6_figure_104 : decode cX6_figure 104 = .ok (.getfield 10, 3) := by decide +kernel
theorem dX6_figure_107 : decode cX6_figure 107 = .ok (.getfield 36, 3) := by decide +kernel
theorem dX6_figure_110 : decode cX6_figure 110 = .ok (.aaload, 1) := by decide +kernel
theorem dX6_figure_111 : decode cX6_figure 111 = .ok (.iconst 0, 1) := by decide +kernel
theorem dX6_figure_112 : decode cX6_figure 112 = .ok (.aload_n 2, 1) := by decide +kernel
theorem dX6_figure_113 : decode cX6_figure 113 = .ok (.arraylength, 1) := by decide +kernel
theorem dX6_figure_114 : decode cX6_figure 114 = .ok (.invokestatic 76, 3) := by decide +kernel
theorem dX6_figure_117 : decode cX6_figure 117 = .ok (.aload_n 0, 1) := by decide +kernel
theorem dX6_figure_118 : decode cX6_figure 118 = .ok (.getfield 10, 3) := by decide +kernel
theorem dX6_figure_121 : decode cX6_figure 121 = .ok (.dup, 1) := by decide +kernel
theorem dX6_figure_122 : decode cX6_figure 122 = .ok (.getfield 36, 3) := by decide +kernel
theorem dX6_figure_125 : decode cX6_figure 125 = .ok (.dup_x1, 1) := by decide +kernel
theorem dX6_figure_126 : decode cX6_figure 126 = .ok (.iconst 1, 1) := by decide +kernel
theorem dX6_figure_127 : decode cX6_figure 127 = .ok (.iadd, 1) := by decide +kernel
theorem dX6_figure_128 : decode cX6_figure 128 = .ok (.putfield 36, 3) := by decide +kernel
theorem dX6_figure_131 : decode cX6_figure 131 = .ok (.ireturn, 1) := by decide +kernel
set_option maxRecDepth 20000 in
theorem ggX6_work_X6_isFigure : GoodIn wsX6_work wsX6_isFigure := goodIn_r _ [8, 2, 9, 10, 11, 7, 12, 24, 25, 26, 27, 28, 29, 30, 31, 32, 33, 34, 35, 36, 37, 38, 39] (by decide +kernel) (by decide +kernel)
set_option maxRecDepth 20000 in
theorem gX6_work_X6_isFigure : GoodIn wsX6_work (wsV RX6 82 RX6 yX6_isFigure wsX6_isFigure) := goodIn_app (goodIn_of _ (by decide +kernel)) ggX6_work_X6_isFigure
set_option maxRecDepth 20000 in
theorem ggX6_work_X6_no : GoodIn wsX6_work wsX6_no := goodIn_r _ [16, 1, 24, 25] (by decide +kernel) (by decide +kernel)
set_option maxRecDepth 20000 in
theorem gX6_work_X6_no : GoodIn wsX6_work (wsV RX6 42 RX6 yX6_no wsX6_no) := goodIn_app (goodIn_of _ (by decide +kernel)) ggX6_work_X6_no
set_option maxRecDepth 20000 in
theorem ggX6_work_X6_in : GoodIn wsX6_work wsX6_in := goodIn_r _ [12] (by decide +kernel) (by decide +kernel)
set_option maxRecDepth 20000 in
theorem gX6_work_X6_in : GoodIn wsX6_work (va_wsS RX6 32 yX6_in wsX6_in) := goodIn_app (goodIn_of _ (by decide +kernel)) ggX6_work_X6_in
set_option maxRecDepth 20000 in
theorem ggX6_work_X5_hands : GoodIn wsX6_work wsX5_hands := goodIn_r _ [21, 22, 23, 26, 27, 28, 29, 30, 31, 32, 33, 34, 35, 36, 37, 38, 39] (by decide +kernel) (by decide +kernel)
set_option maxRecDepth 20000 in
theorem gX6_work_X5_hands : GoodIn wsX6_work (wsV RX6 85 RX5 yX5_hands wsX5_hands) := goodIn_app (goodIn_of _ (by decide +kernel)) ggX6_work_X5_hands
theorem dX6_work_0 : decode cX6_work 0 = .ok (.aload_n 0, 1) := by decide +kernel
theorem dX6_work_1 : decode cX6_work 1 = .ok (.iconst 0, 1) := by decide +kernel
theorem dX6_work_2 : decode cX6_work 2 = .ok (.putfield 16, 3) := by decide +kernel
theorem dX6_work_5 : decode cX6_work 5 = .ok (.aload_n 0, 1) := by decide +kernel
theorem dX6_work_6 : decode cX6_work 6 = .ok (.iload_n 1, 1) := by decide +kernel
theorem dX6_work_7 : decode cX6_work 7 = .ok (.invokevirtual 82, 3) := by decide +kernel
theorem dX6_work_10 : decode cX6_work 10 = .ok (.ifCond .ne 9, 3) := by decide +kernel
theorem dX6_work_13 : decode cX6_work 13 = .ok (.aload_n 0, 1) := by decide +kernel
theorem dX6_work_14 : decode cX6_work 14 = .ok (.iconst 1, 1) := by decide +kernel
theorem dX6_work_15 : decode cX6_work 15 = .ok (.invokevirtual 42, 3) := by decide +kernel
theorem dX6_work_18 : decode cX6_work 18 = .ok (.ireturn, 1) := by decide +kernel
theorem dX6_work_19 : decode cX6_work 19 = .ok (.iload_n 2, 1) := by decide +kernel
theorem dX6_work_20 : decode cX6_work 20 = .ok (.iconst 0, 1) := by decide +kernel
theorem dX6_work_21 : decode cX6_work 21 = .ok (.bipush 9, 2) := by decide +kernel
theorem dX6_work_23 : decode cX6_work 23 = .ok (.invokestatic 32, 3) := by decide +kernel
theorem dX6_work_26 : decode cX6_work 26 = .ok (.ifCond .ne 9, 3) := by decide +kernel
theorem dX6_work_29 : decode cX6_work 29 = .ok (.aload_n 0, 1) := by decide +kernel
theorem dX6_work_30 : decode cX6_work 30 = .ok (.iconst 2, 1) := by decide +kernel
theorem dX6_work_31 : decode cX6_work 31 = .ok (.invokevirtual 42, 3) := by decide +kernel
theorem dX6_work_34 : decode cX6_work 34 = .ok (.ireturn, 1) := by decide +kernel
theorem dX6_work_35 : decode cX6_work 35 = .ok (.aload_n 0, 1) := by decide +kernel
theorem dX6_work_36 : decode cX6_work 36 = .ok (.getfield 10, 3) := by decide +kernel
theorem dX6_work_39 : decode cX6_work 39 = .ok (.getfield 60, 3) := by decide +kernel
theorem dX6_work_42 : decode cX6_work 42 = .ok (.iload_n 1, 1) := by decide +kernel
theorem dX6_work_43 : decode cX6_work 43 = .ok (.aaload, 1) := by decide +kernel
theorem dX6_work_44 : decode cX6_work 44 = .ok (.astore_n 3, 1) := by decide +kernel
theorem dX6_work_45 : decode cX6_work 45 = .ok (.aload_n 0, 1) := by decide +kernel
theorem dX6_work_46 : decode cX6_work 46 = .ok (.getfield 10, 3) := by decide +kernel
theorem dX6_work_49 : decode cX6_work 49 = .ok (.invokevirtual 85, 3) := by decide +kernel
theorem dX6_work_52 : decode cX6_work 52 = .ok (.aload_n 3, 1) := by decide +kernel
theorem dX6_work_53 : decode cX6_work 53 = .ok (.iconst 4, 1) := by decide +kernel
theorem dX6_work_54 : decode cX6_work 54 = .ok (.iaload, 1) := by decide +kernel
theorem dX6_work_55 : decode cX6_work 55 = .ok (.isub, 1) := by decide +kernel
theorem dX6_work_56 : decode cX6_work 56 = .ok (.iload_n 2, 1) := by decide +kernel
theorem dX6_work_57 : decode cX6_work 57 = .ok (.iadd, 1) := by decide +kernel
theorem dX6_work_58 : decode cX6_work 58 = .ok (.istore 4, 2) := by decide +kernel
theorem dX6_work_60 : decode cX6_work 60 = .ok (.aload_n 3, 1) := by decide +kernel
theorem dX6_work_61 : decode cX6_work 61 = .ok (.iconst 2, 1) := by decide +kernel
theorem dX6_work_62 : decode cX6_work 62 = .ok (.iaload, 1) := by decide +kernel
theorem dX6_work_63 : decode cX6_work 63 = .ok (.bipush 6, 2) := by decide +kernel
theorem dX6_work_65 : decode cX6_work 65 = .ok (.if_icmp .eq 19, 3) := by decide +kernel
theorem dX6_work_68 : decode cX6_work 68 = .ok (.aload_n 3, 1) := by decide +kernel
theorem dX6_work_69 : decode cX6_work 69 = .ok (.bipush 7, 2) := by decide +kernel
theorem dX6_work_71 : decode cX6_work 71 = .ok (.iaload, 1) := by decide +kernel
theorem dX6_work_72 : decode cX6_work 72 = .ok (.bipush 7, 2) := by decide +kernel
theorem dX6_work_74 : decode cX6_work 74 = .ok (.if_icmp .eq 10, 3) := by decide +kernel
theorem dX6_work_77 : decode cX6_work 77 = .ok (.iload 4, 2) := by decide +kernel
theorem dX6_work_79 : decode cX6_work 79 = .ok (.bipush 12, 2) := by decide +kernel
theorem dX6_work_81 : decode cX6_work 81 = .ok (.if_icmp .le 9, 3) := by decide +kernel
theorem dX6_work_84 : decode cX6_work 84 = .ok (.aload_n 0, 1) := by decide +kernel
theorem dX6_work_85 : decode cX6_work 85 = .ok (.iconst 3, 1) := by decide +kernel
theorem dX6_work_86 : decode cX6_work 86 = .ok (.invokevirtual 42, 3) := by decide +kernel
theorem dX6_work_89 : decode cX6_work 89 = .ok (.ireturn, 1) := by decide +kernel
theorem dX6_work_90 : decode cX6_work 90 = .ok (.aload_n 3, 1) := by decide +kernel
theorem dX6_work_91 : decode cX6_work 91 = .ok (.iconst 4, 1) := by decide +kernel
theorem dX6_work_92 : decode cX6_work 92 = .ok (.iload_n 2, 1) := by decide +kernel
theorem dX6_work_93 : decode cX6_work 93 = .ok (.iastore, 1) := by decide +kernel
theorem dX6_work_94 : decode cX6_work 94 = .ok (.iload 4, 2) := by decide +kernel
theorem dX6_work_96 : decode cX6_work 96 = .ok (.ireturn, 1) := by decide +kernel
set_option maxRecDepth 20000 in
theorem ggX6_isAtHand_X5_isDone : GoodIn wsX6_isAtHand wsX5_isDone := goodIn_r _ [6] (by decide +kernel) (by decide +kernel)
set_option maxRecDepth 20000 in
theorem gX6_isAtHand_X5_isDone : GoodIn wsX6_isAtHand (wsV RX6 89 RX5 yX5_isDone wsX5_isDone) := goodIn_app (goodIn_of _ (by decide +kernel)) ggX6_isAtHand_X5_isDone
theorem dX6_isAtHand_0 : decode cX6_isAtHand 0 = .ok (.aload_n 0, 1) := by decide +kernel
theorem dX6_isAtHand_1 : decode cX6_isAtHand 1 = .ok (.getfield 10, 3) := by decide +kernel
theorem dX6_isAtHand_4 : decode cX6_isAtHand 4 = .ok (.aload_n 1, 1) := by decide +kernel
theorem dX6_isAtHand_5 : decode cX6_isAtHand 5 = .ok (.invokevirtual 89, 3) := by decide +kernel
theorem dX6_isAtHand_8 : decode cX6_isAtHand 8 = .ok (.ifCond .eq 15, 3) := by decide +kernel
theorem dX6_isAtHand_11 : decode cX6_isAtHand 11 = .ok (.aload_n 1, 1) := by decide +kernel
theorem dX6_isAtHand_12 : decode cX6_isAtHand 12 = .ok (.bipush 7, 2) := by decide +kernel
theorem dX6_isAtHand_14 : decode cX6_isAtHand 14 = .ok (.iaload, 1) := by decide +kernel
theorem dX6_isAtHand_15 : decode cX6_isAtHand 15 = .ok (.iconst 5, 1) := by decide +kernel
theorem dX6_isAtHand_16 : decode cX6_isAtHand 16 = .ok (.if_icmp .ne 7, 3) := by decide +kernel
theorem dX6_isAtHand_19 : decode cX6_isAtHand 19 = .ok (.iconst 1, 1) := by decide +kernel
theorem dX6_isAtHand_20 : decode cX6_isAtHand 20 = .ok (.goto 4, 3) := by decide +kernel
theorem dX6_isAtHand_23 : decode cX6_isAtHand 23 = .ok (.iconst 0, 1) := by decide +kernel
theorem dX6_isAtHand_24 : decode cX6_isAtHand 24 = .ok (.ireturn, 1) := by decide +kernel
set_option maxRecDepth 20000 in
theorem ggX6_swap_X6_isFigure : GoodIn wsX6_swap wsX6_isFigure := goodIn_r _ [8, 2, 9, 10, 11, 7, 12, 44, 45, 46, 47, 48, 49, 50, 51, 52, 53, 54, 55, 56, 57, 58, 59] (by decide +kernel) (by decide +kernel)
set_option maxRecDepth 20000 in
theorem gX6_swap_X6_isFigure : GoodIn wsX6_swap (wsV RX6 82 RX6 yX6_isFigure wsX6_isFigure) := goodIn_app (goodIn_of _ (by decide +kernel)) ggX6_swap_X6_isFigure
set_option maxRecDepth 20000 in
theorem ggX6_swap_X6_no : GoodIn wsX6_swap wsX6_no := goodIn_r _ [16, 1, 44, 45] (by decide +kernel) (by decide +kernel)
set_option maxRecDepth 20000 in
theorem gX6_swap_X6_no : GoodIn wsX6_swap (wsV RX6 42 RX6 yX6_no wsX6_no) := goodIn_app (goodIn_of _ (by decide +kernel)) ggX6_swap_X6_no
set_option maxRecDepth 20000 in
theorem ggX6_swap_X6_isAtHand : GoodIn wsX6_swap wsX6_isAtHand := goodIn_r _ [20, 2, 21, 22, 23, 24, 25, 44, 45] (by decide +kernel) (by decide +kernel)
set_option maxRecDepth 20000 in
theorem gX6_swap_X6_isAtHand : GoodIn wsX6_swap (wsV RX6 92 RX6 yX6_isAtHand wsX6_isAtHand) := goodIn_app (goodIn_of _ (by decide +kernel)) ggX6_swap_X6_isAtHand
set_option maxRecDepth 20000 in
theorem ggX6_swap_X5_likeness : GoodIn wsX6_swap wsX5_likeness := goodIn_r _ [29, 30, 31, 32, 33, 34, 35, 36, 37, 22, 23, 24, 25, 38, 39, 40, 41, 42, 43, 46, 47, 48, 49, 50, 51, 52, 53, 54, 55, 56, 57, 58, 59] (by decide +kernel) (by decide +kernel)
set_option maxRecDepth 20000 in
theorem gX6_swap_X5_likeness : GoodIn wsX6_swap (wsV RX6 95 RX5 yX5_likeness wsX5_likeness) := goodIn_app (goodIn_of _ (by decide +kernel)) ggX6_swap_X5_likeness
theorem dX6_swap_0 : decode cX6_swap 0 = .ok (.aload_n 0, 1) := by decide +kernel
theorem dX6_swap_1 : decode cX6_swap 1 = .ok (.iconst 0, 1) := by decide +kernel
theorem dX6_swap_2 : decode cX6_swap 2 = .ok (.putfield 16, 3) := by decide +kernel
theorem dX6_swap_5 : decode cX6_swap 5 = .ok (.aload_n 0, 1) := by decide +kernel
theorem dX6_swap_6 : decode cX6_swap 6 = .ok (.iload_n 1, 1) := by decide +kernel
theorem dX6_swap_7 : decode cX6_swap 7 = .ok (.invokevirtual 82, 3) := by decide +kernel
theorem dX6_swap_10 : decode cX6_swap 10 = .ok (.ifCond .eq 11, 3) := by decide +kernel
theorem dX6_swap_13 : decode cX6_swap 13 = .ok (.aload_n 0, 1) := by decide +kernel
theorem dX6_swap_14 : decode cX6_swap 14 = .ok (.iload_n 2, 1) := by decide +kernel
theorem dX6_swap_15 : decode cX6_swap 15 = .ok (.invokevirtual 82, 3) := by decide +kernel
theorem dX6_swap_18 : decode cX6_swap 18 = .ok (.ifCond .ne 9, 3) := by decide +kernel
theorem dX6_swap_21 : decode cX6_swap 21 = .ok (.aload_n 0, 1) := by decide +kernel
theorem dX6_swap_22 : decode cX6_swap 22 = .ok (.iconst 1, 1) := by decide +kernel
theorem dX6_swap_23 : decode cX6_swap 23 = .ok (.invokevirtual 42, 3) := by decide +kernel
theorem dX6_swap_26 : decode cX6_swap 26 = .ok (.ireturn, 1) := by decide +kernel
theorem dX6_swap_27 : decode cX6_swap 27 = .ok (.iload_n 1, 1) := by decide +kernel
theorem dX6_swap_28 : decode cX6_swap 28 = .ok (.iload_n 2, 1) := by decide +kernel
theorem dX6_swap_29 : decode cX6_swap 29 = .ok (.if_icmp .ne 9, 3) := by decide +kernel
theorem dX6_swap_32 : decode cX6_swap 32 = .ok (.aload_n 0, 1) := by decide +kernel
theorem dX6_swap_33 : decode cX6_swap 33 = .ok (.iconst 2, 1) := by decide +kernel
theorem dX6_swap_34 : decode cX6_swap 34 = .ok (.invokevirtual 42, 3) := by decide +kernel
theorem dX6_swap_37 : decode cX6_swap 37 = .ok (.ireturn, 1) := by decide +kernel
theorem dX6_swap_38 : decode cX6_swap 38 = .ok (.aload_n 0, 1) := by decide +kernel
theorem dX6_swap_39 : decode cX6_swap 39 = .ok (.getfield 10, 3) := by decide +kernel
theorem dX6_swap_42 : decode cX6_swap 42 = .ok (.getfield 60, 3) := by decide +kernel
theorem dX6_swap_45 : decode cX6_swap 45 = .ok (.iload_n 1, 1) := by decide +kernel
theorem dX6_swap_46 : decode cX6_swap 46 = .ok (.aaload, 1) := by decide +kernel
theorem dX6_swap_47 : decode cX6_swap 47 = .ok (.astore_n 3, 1) := by decide +kernel
theorem dX6_swap_48 : decode cX6_swap 48 = .ok (.aload_n 0, 1) := by decide +kernel
theorem dX6_swap_49 : decode cX6_swap 49 = .ok (.getfield 10, 3) := by decide +kernel
theorem dX6_swap_52 : decode cX6_swap 52 = .ok (.getfield 60, 3) := by decide +kernel
theorem dX6_swap_55 : decode cX6_swap 55 = .ok (.iload_n 2, 1) := by decide +kernel
theorem dX6_swap_56 : decode cX6_swap 56 = .ok (.aaload, 1) := by decide +kernel
theorem dX6_swap_57 : decode cX6_swap 57 = .ok (.astore 4, 2) := by decide +kernel
theorem dX6_swap_59 : decode cX6_swap 59 = .ok (.aload_n 0, 1) := by decide +kernel
theorem dX6_swap_60 : decode cX6_swap 60 = .ok (.aload_n 3, 1) := by decide +kernel
theorem dX6_swap_61 : decode cX6_swap 61 = .ok (.invokevirtual 92, 3) := by decide +kernel
theorem dX6_swap_64 : decode cX6_swap 64 = .ok (.ifCond .eq 12, 3) := by decide +kernel
theorem dX6_swap_67 : decode cX6_swap 67 = .ok (.aload_n 0, 1) := by decide +kernel
theorem dX6_swap_68 : decode cX6_swap 68 = .ok (.aload 4, 2) := by decide +kernel
theorem dX6_swap_70 : decode cX6_swap 70 = .ok (.invokevirtual 92, 3) := by decide +kernel
theorem dX6_swap_73 : decode cX6_swap 73 = .ok (.ifCond .ne 9, 3) := by decide +kernel
theorem dX6_swap_76 : decode cX6_swap 76 = .ok (.aload_n 0, 1) := by decide +kernel
theorem dX6_swap_77 : decode cX6_swap 77 = .ok (.iconst 3, 1) := by decide +kernel
theorem dX6_swap_78 : decode cX6_swap 78 = .ok (.invokevirtual 42, 3) := by decide +kernel
theorem dX6_swap_81 : decode cX6_swap 81 = .ok (.ireturn, 1) := by decide +kernel
theorem dX6_swap_82 : decode cX6_swap 82 = .ok (.aload_n 3, 1) := by decide +kernel
theorem dX6_swap_83 : decode cX6_swap 83 = .ok (.iconst 0, 1) := by decide +kernel
theorem dX6_swap_84 : decode cX6_swap 84 = .ok (.iaload, 1) := by decide +kernel
theorem dX6_swap_85 : decode cX6_swap 85 = .ok (.istore 5, 2) := by decide +kernel
theorem dX6_swap_87 : decode cX6_swap 87 = .ok (.aload_n 3, 1) := by decide +kernel
theorem dX6_swap_88 : decode cX6_swap 88 = .ok (.iconst 5, 1) := by decide +kernel
theorem dX6_swap_89 : decode cX6_swap 89 = .ok (.iaload, 1) := by decide +kernel
theorem dX6_swap_90 : decode cX6_swap 90 = .ok (.istore 6, 2) := by decide +kernel
theorem dX6_swap_92 : decode cX6_swap 92 = .ok (.aload_n 3, 1) := by decide +kernel
theorem dX6_swap_93 : decode cX6_swap 93 = .ok (.iconst 0, 1) := by decide +kernel
theorem dX6_swap_94 : decode cX6_swap 94 = .ok (.aload 4, 2) := by decide +kernel
theorem dX6_swap_96 : decode cX6_swap 96 = .ok (.iconst 0, 1) := by decide +kernel
theorem dX6_swap_97 : decode cX6_swap 97 = .ok (.iaload, 1) := by decide +kernel
theorem dX6_swap_98 : decode cX6_swap 98 = .ok (.iastore, 1) := by decide +kernel
theorem dX6_swap_99 : decode cX6_swap 99 = .ok (.aload_n 3, 1) := by decide +kernel
theorem dX6_swap_100 : decode cX6_swap 100 = .ok (.iconst 5, 1) := by decide +kernel
theorem dX6_swap_101 : decode cX6_swap 101 = .ok (.aload 4, 2) := by decide +kernel
theorem dX6_swap_103 : decode cX6_swap 103 = .ok (.iconst 5, 1) := by decide +kernel
theorem dX6_swap_104 : decode cX6_swap 104 = .ok (.iaload, 1) := by decide +kernel
theorem dX6_swap_105 : decode cX6_swap 105 = .ok (.iastore, 1) := by decide +kernel
theorem dX6_swap_106 : decode cX6_swap 106 = .ok (.aload 4, 2) := by decide +kernel
theorem dX6_swap_108 : decode cX6_swap 108 = .ok (.iconst 0, 1) := by decide +kernel
theorem dX6_swap_109 : decode cX6_swap 109 = .ok (.iload 5, 2) := by decide +kernel
theorem dX6_swap_111 : decode cX6_swap 111 = .ok (.iastore, 1) := by decide +kernel
theorem dX6_swap_112 : decode cX6_swap 112 = .ok (.aload 4, 2) := by decide +kernel
theorem dX6_swap_114 : decode cX6_swap 114 = .ok (.iconst 5, 1) := by decide +kernel
theorem dX6_swap_115 : decode cX6_swap 115 = .ok (.iload 6, 2) := by decide +kernel
theorem dX6_swap_117 : decode cX6_swap 117 = .ok (.iastore, 1) := by decide +kernel
theorem dX6_swap_118 : decode cX6_swap 118 = .ok (.aload_n 0, 1) := by decide +kernel
theorem dX6_swap_119 : decode cX6_swap 119 = .ok (.getfield 10, 3) := by decide +kernel
theorem dX6_swap_122 : decode cX6_swap 122 = .ok (.aload_n 3, 1) := by decide +kernel
theorem dX6_swap_123 : decode cX6_swap 123 = .ok (.invokevirtual 95, 3) := by decide +kernel
theorem dX6_swap_126 : decode cX6_swap 126 = .ok (.ireturn, 1) := by decide +kernel
set_option maxRecDepth 20000 in
theorem ggX6_mend_X6_isFigure : GoodIn wsX6_mend wsX6_isFigure := goodIn_r _ [13, 2, 14, 15, 16, 12, 17, 31, 32, 33, 34, 35, 36, 37, 38, 39, 40, 41, 42, 43, 44, 45, 46] (by decide +kernel) (by decide +kernel)
set_option maxRecDepth 20000 in
theorem gX6_mend_X6_isFigure : GoodIn wsX6_mend (wsV RX6 82 RX6 yX6_isFigure wsX6_isFigure) := goodIn_app (goodIn_of _ (by decide +kernel)) ggX6_mend_X6_isFigure
set_option maxRecDepth 20000 in
theorem ggX6_mend_X6_no : GoodIn wsX6_mend wsX6_no := goodIn_r _ [21, 1, 31, 32] (by decide +kernel) (by decide +kernel)
set_option maxRecDepth 20000 in
theorem gX6_mend_X6_no : GoodIn wsX6_mend (wsV RX6 42 RX6 yX6_no wsX6_no) := goodIn_app (goodIn_of _ (by decide +kernel)) ggX6_mend_X6_no
set_option maxRecDepth 20000 in
theorem ggX6_mend_X6_isAtHand : GoodIn wsX6_mend wsX6_isAtHand := goodIn_r _ [25, 2, 26, 27, 28, 29, 30, 31, 32] (by decide +kernel) (by decide +kernel)
set_option maxRecDepth 20000 in
theorem gX6_mend_X6_isAtHand : GoodIn wsX6_mend (wsV RX6 92 RX6 yX6_isAtHand wsX6_isAtHand) := goodIn_app (goodIn_of _ (by decide +kernel)) ggX6_mend_X6_isAtHand
theorem dX6_mend_0 : decode cX6_mend 0 = .ok (.aload_n 0, 1) := by decide +kernel
theorem dX6_mend_1 : decode cX6_mend 1 = .ok (.iconst 0, 1) := by decide +kernel
theorem dX6_mend_2 : decode cX6_mend 2 = .ok (.putfield 16, 3) := by decide +kernel
theorem dX6_mend_5 : decode cX6_mend 5 = .ok (.aload_n 0, 1) := by decide +kernel
theorem dX6_mend_6 : decode cX6_mend 6 = .ok (.iload_n 1, 1) := by decide +kernel
theorem dX6_mend_7 : decode cX6_mend 7 = .ok (.invokevirtual 82, 3) := by decide +kernel
theorem dX6_mend_10 : decode cX6_mend 10 = .ok (.ifCond .ne 9, 3) := by decide +kernel
theorem dX6_mend_13 : decode cX6_mend 13 = .ok (.aload_n 0, 1) := by decide +kernel
theorem dX6_mend_14 : decode cX6_mend 14 = .ok (.iconst 1, 1) := by decide +kernel
theorem dX6_mend_15 : decode cX6_mend 15 = .ok (.invokevirtual 42, 3) := by decide +kernel
theorem dX6_mend_18 : decode cX6_mend 18 = .ok (.ireturn, 1) := by decide +kernel
theorem dX6_mend_19 : decode cX6_mend 19 = .ok (.aload_n 0, 1) := by decide +kernel
theorem dX6_mend_20 : decode cX6_mend 20 = .ok (.getfield 10, 3) := by decide +kernel
theorem dX6_mend_23 : decode cX6_mend 23 = .ok (.getfield 60, 3) := by decide +kernel
theorem dX6_mend_26 : decode cX6_mend 26 = .ok (.iload_n 1, 1) := by decide +kernel
theorem dX6_mend_27 : decode cX6_mend 27 = .ok (.aaload, 1) := by decide +kernel
theorem dX6_mend_28 : decode cX6_mend 28 = .ok (.astore_n 2, 1) := by decide +kernel
theorem dX6_mend_29 : decode cX6_mend 29 = .ok (.aload_n 0, 1) := by decide +kernel
theorem dX6_mend_30 : decode cX6_mend 30 = .ok (.aload_n 2, 1) := by decide +kernel
theorem dX6_mend_31 : decode cX6_mend 31 = .ok (.invokevirtual 92, 3) := by decide +kernel
theorem dX6_mend_34 : decode cX6_mend 34 = .ok (.ifCond .ne 9, 3) := by decide +kernel
theorem dX6_mend_37 : decode cX6_mend 37 = .ok (.aload_n 0, 1) := by decide +kernel
theorem dX6_mend_38 : decode cX6_mend 38 = .ok (.iconst 2, 1) := by decide +kernel
theorem dX6_mend_39 : decode cX6_mend 39 = .ok (.invokevirtual 42, 3) := by decide +kernel
theorem dX6_mend_42 : decode cX6_mend 42 = .ok (.ireturn, 1) := by decide +kernel
theorem dX6_mend_43 : decode cX6_mend 43 = .ok (.aload_n 2, 1) := by decide +kernel
theorem dX6_mend_44 : decode cX6_mend 44 = .ok (.bipush 6, 2) := by decide +kernel
theorem dX6_mend_46 : decode cX6_mend 46 = .ok (.iaload, 1) := by decide +kernel
theorem dX6_mend_47 : decode cX6_mend 47 = .ok (.bipush 10, 2) := by decide +kernel
theorem dX6_mend_49 : decode cX6_mend 49 = .ok (.idiv, 1) := by decide +kernel
theorem dX6_mend_50 : decode cX6_mend 50 = .ok (.aload_n 0, 1) := by decide +kernel
theorem dX6_mend_51 : decode cX6_mend 51 = .ok (.getfield 10, 3) := by decide +kernel
theorem dX6_mend_54 : decode cX6_mend 54 = .ok (.getfield 99, 3) := by decide +kernel
theorem dX6_mend_57 : decode cX6_mend 57 = .ok (.bipush 10, 2) := by decide +kernel
theorem dX6_mend_59 : decode cX6_mend 59 = .ok (.idiv, 1) := by decide +kernel
theorem dX6_mend_60 : decode cX6_mend 60 = .ok (.invokestatic 20, 3) := by decide +kernel
theorem dX6_mend_63 : decode cX6_mend 63 = .ok (.istore_n 3, 1) := by decide +kernel
theorem dX6_mend_64 : decode cX6_mend 64 = .ok (.aload_n 2, 1) := by decide +kernel
theorem dX6_mend_65 : decode cX6_mend 65 = .ok (.bipush 6, 2) := by decide +kernel
theorem dX6_mend_67 : decode cX6_mend 67 = .ok (.dup2, 1) := by decide +kernel
theorem dX6_mend_68 : decode cX6_mend 68 = .ok (.iaload, 1) := by decide +kernel
theorem dX6_mend_69 : decode cX6_mend 69 = .ok (.bipush 10, 2) := by decide +kernel
theorem dX6_mend_71 : decode cX6_mend 71 = .ok (.iload_n 3, 1) := by decide +kernel
theorem dX6_mend_72 : decode cX6_mend 72 = .ok (.imul, 1) := by decide +kernel
theorem dX6_mend_73 : decode cX6_mend 73 = .ok (.isub, 1) := by decide +kernel
theorem dX6_mend_74 : decode cX6_mend 74 = .ok (.iastore, 1) := by decide +kernel
theorem dX6_mend_75 : decode cX6_mend 75 = .ok (.aload_n 0, 1) := by decide +kernel
theorem dX6_mend_76 : decode cX6_mend 76 = .ok (.getfield 10, 3) := by decide +kernel
theorem dX6_mend_79 : decode cX6_mend 79 = .ok (.dup, 1) := by decide +kernel
theorem dX6_mend_80 : decode cX6_mend 80 = .ok (.getfield 99, 3) := by decide +kernel
theorem dX6_mend_83 : decode cX6_mend 83 = .ok (.bipush 10, 2) := by decide +kernel
theorem dX6_mend_85 : decode cX6_mend 85 = .ok (.iload_n 3, 1) := by decide +kernel
theorem dX6_mend_86 : decode cX6_mend 86 = .ok (.imul, 1) := by decide +kernel
theorem dX6_mend_87 : decode cX6_mend 87 = .ok (.isub, 1) := by decide +kernel
theorem dX6_mend_88 : decode cX6_mend 88 = .ok (.putfield 99, 3) := by decide +kernel
theorem dX6_mend_91 : decode cX6_mend 91 = .ok (.aload_n 2, 1) := by decide +kernel
theorem dX6_mend_92 : decode cX6_mend 92 = .ok (.bipush 6, 2) := by decide +kernel
theorem dX6_mend_94 : decode cX6_mend 94 = .ok (.iaload, 1) := by decide +kernel
theorem dX6_mend_95 : decode cX6_mend 95 = .ok (.ireturn, 1) := by decide +kernel
set_option maxRecDepth 20000 in
theorem ggX6_melt_X6_isFigure : GoodIn wsX6_melt wsX6_isFigure := goodIn_r _ [9, 2, 10, 11, 12, 8, 13, 18, 19, 20, 21, 22, 23, 24, 25, 26, 27, 28, 29, 30, 31, 32, 33] (by decide +kernel) (by decide +kernel)
set_option maxRecDepth 20000 in
theorem gX6_melt_X6_isFigure : GoodIn wsX6_melt (wsV RX6 82 RX6 yX6_isFigure wsX6_isFigure) := goodIn_app (goodIn_of _ (by decide +kernel)) ggX6_melt_X6_isFigure
set_option maxRecDepth 20000 in
theorem ggX6_melt_X6_no : GoodIn wsX6_melt wsX6_no := goodIn_r _ [17, 1, 18, 19] (by decide +kernel) (by decide +kernel)
set_option maxRecDepth 20000 in
theorem gX6_melt_X6_no : GoodIn wsX6_melt (wsV RX6 42 RX6 yX6_no wsX6_no) := goodIn_app (goodIn_of _ (by decide +kernel)) ggX6_melt_X6_no
theorem dX6_melt_0 : decode cX6_melt 0 = .ok (.aload_n 0, 1) := by decide +kernel
theorem dX6_melt_1 : decode cX6_melt 1 = .ok (.iconst 0, 1) := by decide +kernel
theorem dX6_melt_2 : decode cX6_melt 2 = .ok (.putfield 16, 3) := by decide +kernel
theorem dX6_melt_5 : decode cX6_melt 5 = .ok (.aload_n 0, 1) := by decide +kernel
theorem dX6_melt_6 : decode cX6_melt 6 = .ok (.iload_n 1, 1) := by decide +kernel
theorem dX6_melt_7 : decode cX6_melt 7 = .ok (.invokevirtual 82, 3) := by decide +kernel
theorem dX6_melt_10 : decode cX6_melt 10 = .ok (.ifCond .ne 9, 3) := by decide +kernel
theorem dX6_melt_13 : decode cX6_melt 13 = .ok (.aload_n 0, 1) := by decide +kernel
theorem dX6_melt_14 : decode cX6_melt 14 = .ok (.iconst 1, 1) := by decide +kernel
theorem dX6_melt_15 : decode cX6_melt 15 = .ok (.invokevirtual 42, 3) := by decide +kernel
theorem dX6_melt_18 : decode cX6_melt 18 = .ok (.ireturn, 1) := by decide +kernel
theorem dX6_melt_19 : decode cX6_melt 19 = .ok (.aload_n 0, 1) := by decide +kernel
theorem dX6_melt_20 : decode cX6_melt 20 = .ok (.getfield 10, 3) := by decide +kernel
theorem dX6_melt_23 : decode cX6_melt 23 = .ok (.getfield 60, 3) := by decide +kernel
theorem dX6_melt_26 : decode cX6_melt 26 = .ok (.iload_n 1, 1) := by decide +kernel
theorem dX6_melt_27 : decode cX6_melt 27 = .ok (.aaload, 1) := by decide +kernel
theorem dX6_melt_28 : decode cX6_melt 28 = .ok (.astore_n 2, 1) := by decide +kernel
theorem dX6_melt_29 : decode cX6_melt 29 = .ok (.aload_n 2, 1) := by decide +kernel
theorem dX6_melt_30 : decode cX6_melt 30 = .ok (.bipush 7, 2) := by decide +kernel
theorem dX6_melt_32 : decode cX6_melt 32 = .ok (.iaload, 1) := by decide +kernel
theorem dX6_melt_33 : decode cX6_melt 33 = .ok (.iconst 5, 1) := by decide +kernel
theorem dX6_melt_34 : decode cX6_melt 34 = .ok (.if_icmp .eq 9, 3) := by decide +kernel
theorem dX6_melt_37 : decode cX6_melt 37 = .ok (.aload_n 0, 1) := by decide +kernel
theorem dX6_melt_38 : decode cX6_melt 38 = .ok (.iconst 2, 1) := by decide +kernel
theorem dX6_melt_39 : decode cX6_melt 39 = .ok (.invokevirtual 42, 3) := by decide +kernel
theorem dX6_melt_42 : decode cX6_melt 42 = .ok (.ireturn, 1) := by decide +kernel
theorem dX6_melt_43 : decode cX6_melt 43 = .ok (.aload_n 2, 1) := by decide +kernel
theorem dX6_melt_44 : decode cX6_melt 44 = .ok (.bipush 7, 2) := by decide +kernel
theorem dX6_melt_46 : decode cX6_melt 46 = .ok (.bipush 7, 2) := by decide +kernel
theorem dX6_melt_48 : decode cX6_melt 48 = .ok (.iastore, 1) := by decide +kernel
theorem dX6_melt_49 : decode cX6_melt 49 = .ok (.aload_n 2, 1) := by decide +kernel
theorem dX6_melt_50 : decode cX6_melt 50 = .ok (.iconst 4, 1) := by decide +kernel
theorem dX6_melt_51 : decode cX6_melt 51 = .ok (.iconst 0, 1) := by decide +kernel
theorem dX6_melt_52 : decode cX6_melt 52 = .ok (.iastore, 1) := by decide +kernel
theorem dX6_melt_53 : decode cX6_melt 53 = .ok (.aload_n 0, 1) := by decide +kernel
theorem dX6_melt_54 : decode cX6_melt 54 = .ok (.getfield 10, 3) := by decide +kernel
theorem dX6_melt_57 : decode cX6_melt 57 = .ok (.dup, 1) := by decide +kernel
theorem dX6_melt_58 : decode cX6_melt 58 = .ok (.getfield 99, 3) := by decide +kernel
theorem dX6_melt_61 : decode cX6_melt 61 = .ok (.aload_n 2, 1) := by decide +kernel
theorem dX6_melt_62 : decode cX6_melt 62 = .ok (.iconst 2, 1) := by decide +kernel
theorem dX6_melt_63 : decode cX6_melt 63 = .ok (.iaload, 1) := by decide +kernel
theorem dX6_melt_64 : decode cX6_melt 64 = .ok (.iconst 3, 1) := by decide +kernel
theorem dX6_melt_65 : decode cX6_melt 65 = .ok (.if_icmp .le 8, 3) := by decide +kernel
theorem dX6_melt_68 : decode cX6_melt 68 = .ok (.bipush 20, 2) := by decide +kernel
theorem dX6_melt_70 : decode cX6_melt 70 = .ok (.goto 4, 3) := by decide +kernel
theorem dX6_melt_73 : decode cX6_melt 73 = .ok (.iconst 0, 1) := by decide +kernel
theorem dX6_melt_74 : decode cX6_melt 74 = .ok (.iadd, 1) := by decide +kernel
theorem dX6_melt_75 : decode cX6_melt 75 = .ok (.putfield 99, 3) := by decide +kernel
theorem dX6_melt_78 : decode cX6_melt 78 = .ok (.aload_n 0, 1) := by decide +kernel
theorem dX6_melt_79 : decode cX6_melt 79 = .ok (.getfield 10, 3) := by decide +kernel
theorem dX6_melt_82 : decode cX6_melt 82 = .ok (.getfield 99, 3) := by decide +kernel
theorem dX6_melt_85 : decode cX6_melt 85 = .ok (.ireturn, 1) := by decide +kernel
set_option maxRecDepth 20000 in
theorem ggX6_tour_X6_isFigure : GoodIn wsX6_tour wsX6_isFigure := goodIn_r _ [9, 2, 10, 11, 12, 8, 13, 45, 46, 47, 48, 49, 50, 51, 52, 53, 54, 55, 56, 57, 58, 59, 60] (by decide +kernel) (by decide +kernel)
set_option maxRecDepth 20000 in
theorem gX6_tour_X6_isFigure : GoodIn wsX6_tour (wsV RX6 82 RX6 yX6_isFigure wsX6_isFigure) := goodIn_app (goodIn_of _ (by decide +kernel)) ggX6_tour_X6_isFigure
set_option maxRecDepth 20000 in
theorem ggX6_tour_X6_no : GoodIn wsX6_tour wsX6_no := goodIn_r _ [17, 1, 45, 46] (by decide +kernel) (by decide +kernel)
set_option maxRecDepth 20000 in
theorem gX6_tour_X6_no : GoodIn wsX6_tour (wsV RX6 42 RX6 yX6_no wsX6_no) := goodIn_app (goodIn_of _ (by decide +kernel)) ggX6_tour_X6_no
set_option maxRecDepth 20000 in
theorem ggX6_tour_X6_in : GoodIn wsX6_tour wsX6_in := goodIn_r _ [13] (by decide +kernel) (by decide +kernel)
set_option maxRecDepth 20000 in
theorem gX6_tour_X6_in : GoodIn wsX6_tour (va_wsS RX6 32 yX6_in wsX6_in) := goodIn_app (goodIn_of _ (by decide +kernel)) ggX6_tour_X6_in
set_option maxRecDepth 20000 in
theorem ggX6_tour_X6_isAtHand : GoodIn wsX6_tour wsX6_isAtHand := goodIn_r _ [21, 2, 22, 23, 24, 25, 26, 45, 46] (by decide +kernel) (by decide +kernel)
set_option maxRecDepth 20000 in
theorem gX6_tour_X6_isAtHand : GoodIn wsX6_tour (wsV RX6 92 RX6 yX6_isAtHand wsX6_isAtHand) := goodIn_app (goodIn_of _ (by decide +kernel)) ggX6_tour_X6_isAtHand
set_option maxRecDepth 20000 in
theorem ggX6_tour_X5_likeness : GoodIn wsX6_tour wsX5_likeness := goodIn_r _ [30, 31, 32, 33, 34, 35, 36, 37, 38, 23, 24, 25, 26, 39, 40, 41, 42, 43, 44, 47, 48, 49, 50, 51, 52, 53, 54, 55, 56, 57, 58, 59, 60] (by decide +kernel) (by decide +kernel)
set_option maxRecDepth 20000 in
theorem gX6_tour_X5_likeness : GoodIn wsX6_tour (wsV RX6 95 RX5 yX5_likeness wsX5_likeness) := goodIn_app (goodIn_of _ (by decide +kernel)) ggX6_tour_X5_likeness
theorem dX6_tour_0 : decode cX6_tour 0 = .ok (.aload_n 0, 1) := by decide +kernel
theorem dX6_tour_1 : decode cX6_tour 1 = .ok (.iconst 0, 1) := by decide +kernel
theorem dX6_tour_2 : decode cX6_tour 2 = .ok (.putfield 16, 3) := by decide +kernel
theorem dX6_tour_5 : decode cX6_tour 5 = .ok (.aload_n 0, 1) := by decide +kernel
theorem dX6_tour_6 : decode cX6_tour 6 = .ok (.iload_n 1, 1) := by decide +kernel
theorem dX6_tour_7 : decode cX6_tour 7 = .ok (.invokevirtual 82, 3) := by decide +kernel
theorem dX6_tour_10 : decode cX6_tour 10 = .ok (.ifCond .ne 9, 3) := by decide +kernel
theorem dX6_tour_13 : decode cX6_tour 13 = .ok (.aload_n 0, 1) := by decide +kernel
theorem dX6_tour_14 : decode cX6_tour 14 = .ok (.iconst 1, 1) := by decide +kernel
theorem dX6_tour_15 : decode cX6_tour 15 = .ok (.invokevirtual 42, 3) := by decide +kernel
theorem dX6_tour_18 : decode cX6_tour 18 = .ok (.ireturn, 1) := by decide +kernel
theorem dX6_tour_19 : decode cX6_tour 19 = .ok (.iload_n 2, 1) := by decide +kernel
theorem dX6_tour_20 : decode cX6_tour 20 = .ok (.iconst 1, 1) := by decide +kernel
theorem dX6_tour_21 : decode cX6_tour 21 = .ok (.iconst 2, 1) := by decide +kernel
theorem dX6_tour_22 : decode cX6_tour 22 = .ok (.invokestatic 32, 3) := by decide +kernel
theorem dX6_tour_25 : decode cX6_tour 25 = .ok (.ifCond .eq 13, 3) := by decide +kernel
theorem dX6_tour_28 : decode cX6_tour 28 = .ok (.iload_n 3, 1) := by decide +kernel
theorem dX6_tour_29 : decode cX6_tour 29 = .ok (.iconst 1, 1) := by decide +kernel
theorem dX6_tour_30 : decode cX6_tour 30 = .ok (.bipush 60, 2) := by decide +kernel
theorem dX6_tour_32 : decode cX6_tour 32 = .ok (.invokestatic 32, 3) := by decide +kernel
theorem dX6_tour_35 : decode cX6_tour 35 = .ok (.ifCond .ne 9, 3) := by decide +kernel
theorem dX6_tour_38 : decode cX6_tour 38 = .ok (.aload_n 0, 1) := by decide +kernel
theorem dX6_tour_39 : decode cX6_tour 39 = .ok (.iconst 2, 1) := by decide +kernel
theorem dX6_tour_40 : decode cX6_tour 40 = .ok (.invokevirtual 42, 3) := by decide +kernel
theorem dX6_tour_43 : decode cX6_tour 43 = .ok (.ireturn, 1) := by decide +kernel
theorem dX6_tour_44 : decode cX6_tour 44 = .ok (.aload_n 0, 1) := by decide +kernel
theorem dX6_tour_45 : decode cX6_tour 45 = .ok (.getfield 10, 3) := by decide +kernel
theorem dX6_tour_48 : decode cX6_tour 48 = .ok (.getfield 60, 3) := by decide +kernel
theorem dX6_tour_51 : decode cX6_tour 51 = .ok (.iload_n 1, 1) := by decide +kernel
theorem dX6_tour_52 : decode cX6_tour 52 = .ok (.aaload, 1) := by decide +kernel
theorem dX6_tour_53 : decode cX6_tour 53 = .ok (.astore 4, 2) := by decide +kernel
theorem dX6_tour_55 : decode cX6_tour 55 = .ok (.aload_n 0, 1) := by decide +kernel
theorem dX6_tour_56 : decode cX6_tour 56 = .ok (.aload 4, 2) := by decide +kernel
theorem dX6_tour_58 : decode cX6_tour 58 = .ok (.invokevirtual 92, 3) := by decide +kernel
theorem dX6_tour_61 : decode cX6_tour 61 = .ok (.ifCond .eq 21, 3) := by decide +kernel
theorem dX6_tour_64 : decode cX6_tour 64 = .ok (.aload_n 0, 1) := by decide +kernel
theorem dX6_tour_65 : decode cX6_tour 65 = .ok (.getfield 10, 3) := by decide +kernel
theorem dX6_tour_68 : decode cX6_tour 68 = .ok (.getfield 46, 3) := by decide +kernel
theorem dX6_tour_71 : decode cX6_tour 71 = .ok (.aload 4, 2) := by decide +kernel
theorem dX6_tour_73 : decode cX6_tour 73 = .ok (.iconst 0, 1) := by decide +kernel
theorem dX6_tour_74 : decode cX6_tour 74 = .ok (.iaload, 1) := by decide +kernel
theorem dX6_tour_75 : decode cX6_tour 75 = .ok (.aaload, 1) := by decide +kernel
theorem dX6_tour_76 : decode cX6_tour 76 = .ok (.bipush 6, 2) := by decide +kernel
theorem dX6_tour_78 : decode cX6_tour 78 = .ok (.iaload, 1) := by decide +kernel
theorem dX6_tour_79 : decode cX6_tour 79 = .ok (.ifCond .ne 9, 3) := by decide +kernel
theorem dX6_tour_82 : decode cX6_tour 82 = .ok (.aload_n 0, 1) := by decide +kernel
theorem dX6_tour_83 : decode cX6_tour 83 = .ok (.iconst 3, 1) := by decide +kernel
theorem dX6_tour_84 : decode cX6_tour 84 = .ok (.invokevirtual 42, 3) := by decide +kernel
theorem dX6_tour_87 : decode cX6_tour 87 = .ok (.ireturn, 1) := by decide +kernel
theorem dX6_tour_88 : decode cX6_tour 88 = .ok (.aload 4, 2) := by decide +kernel
theorem dX6_tour_90 : decode cX6_tour 90 = .ok (.bipush 7, 2) := by decide +kernel
theorem dX6_tour_92 : decode cX6_tour 92 = .ok (.bipush 6, 2) := by decide +kernel
theorem dX6_tour_94 : decode cX6_tour 94 = .ok (.iastore, 1) := by decide +kernel
theorem dX6_tour_95 : decode cX6_tour 95 = .ok (.aload 4, 2) := by decide +kernel
theorem dX6_tour_97 : decode cX6_tour 97 = .ok (.bipush 9, 2) := by decide +kernel
