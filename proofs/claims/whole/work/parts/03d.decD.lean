theorem dX6_level_0 : decode cX6_level 0 = .ok (.iconst 0, 1) := by decide +kernel
theorem dX6_level_1 : decode cX6_level 1 = .ok (.istore_n 3, 1) := by decide +kernel
theorem dX6_level_2 : decode cX6_level 2 = .ok (.iconst 0, 1) := by decide +kernel
theorem dX6_level_3 : decode cX6_level 3 = .ok (.istore 4, 2) := by decide +kernel
theorem dX6_level_5 : decode cX6_level 5 = .ok (.iconst 0, 1) := by decide +kernel
theorem dX6_level_6 : decode cX6_level 6 = .ok (.istore 5, 2) := by decide +kernel
theorem dX6_level_8 : decode cX6_level 8 = .ok (.iconst 0, 1) := by decide +kernel
theorem dX6_level_9 : decode cX6_level 9 = .ok (.istore 6, 2) := by decide +kernel
theorem dX6_level_11 : decode cX6_level 11 = .ok (.iconst 0, 1) := by decide +kernel
theorem dX6_level_12 : decode cX6_level 12 = .ok (.istore 7, 2) := by decide +kernel
theorem dX6_level_14 : decode cX6_level 14 = .ok (.iload 7, 2) := by decide +kernel
theorem dX6_level_16 : decode cX6_level 16 = .ok (.aload_n 0, 1) := by decide +kernel
theorem dX6_level_17 : decode cX6_level 17 = .ok (.getfield 127, 3) := by decide +kernel
theorem dX6_level_20 : decode cX6_level 20 = .ok (.if_icmp .ge 92, 3) := by decide +kernel
theorem dX6_level_23 : decode cX6_level 23 = .ok (.aload_n 0, 1) := by decide +kernel
theorem dX6_level_24 : decode cX6_level 24 = .ok (.getfield 65, 3) := by decide +kernel
theorem dX6_level_27 : decode cX6_level 27 = .ok (.aload_n 0, 1) := by decide +kernel
theorem dX6_level_28 : decode cX6_level 28 = .ok (.getfield 68, 3) := by decide +kernel
theorem dX6_level_31 : decode cX6_level 31 = .ok (.iload 7, 2) := by decide +kernel
theorem dX6_level_33 : decode cX6_level 33 = .ok (.iaload, 1) := by decide +kernel
theorem dX6_level_34 : decode cX6_level 34 = .ok (.iaload, 1) := by decide +kernel
theorem dX6_level_35 : decode cX6_level 35 = .ok (.istore 8, 2) := by decide +kernel
theorem dX6_level_37 : decode cX6_level 37 = .ok (.aload_n 0, 1) := by decide +kernel
theorem dX6_level_38 : decode cX6_level 38 = .ok (.iload 8, 2) := by decide +kernel
theorem dX6_level_40 : decode cX6_level 40 = .ok (.invokevirtual 133, 3) := by decide +kernel
theorem dX6_level_43 : decode cX6_level 43 = .ok (.istore 9, 2) := by decide +kernel
theorem dX6_level_45 : decode cX6_level 45 = .ok (.iload 9, 2) := by decide +kernel
theorem dX6_level_47 : decode cX6_level 47 = .ok (.iload_n 2, 1) := by decide +kernel
theorem dX6_level_48 : decode cX6_level 48 = .ok (.if_icmp .gt 18, 3) := by decide +kernel
theorem dX6_level_51 : decode cX6_level 51 = .ok (.aload_n 0, 1) := by decide +kernel
theorem dX6_level_52 : decode cX6_level 52 = .ok (.aload_n 0, 1) := by decide +kernel
theorem dX6_level_53 : decode cX6_level 53 = .ok (.getfield 68, 3) := by decide +kernel
theorem dX6_level_56 : decode cX6_level 56 = .ok (.iload 7, 2) := by decide +kernel
theorem dX6_level_58 : decode cX6_level 58 = .ok (.iaload, 1) := by decide +kernel
theorem dX6_level_59 : decode cX6_level 59 = .ok (.iload_n 1, 1) := by decide +kernel
theorem dX6_level_60 : decode cX6_level 60 = .ok (.invokevirtual 139, 3) := by decide +kernel
theorem dX6_level_63 : decode cX6_level 63 = .ok (.goto 4, 3) := by decide +kernel
theorem dX6_level_66 : decode cX6_level 66 = .ok (.iconst (-1), 1) := by decide +kernel
theorem dX6_level_67 : decode cX6_level 67 = .ok (.istore 10, 2) := by decide +kernel
theorem dX6_level_69 : decode cX6_level 69 = .ok (.iload 10, 2) := by decide +kernel
theorem dX6_level_71 : decode cX6_level 71 = .ok (.iconst (-1), 1) := by decide +kernel
theorem dX6_level_72 : decode cX6_level 72 = .ok (.if_icmp .eq 34, 3) := by decide +kernel
theorem dX6_level_75 : decode cX6_level 75 = .ok (.iload_n 3, 1) := by decide +kernel
theorem dX6_level_76 : decode cX6_level 76 = .ok (.iload 4, 2) := by decide +kernel
theorem dX6_level_78 : decode cX6_level 78 = .ok (.iload 9, 2) := by decide +kernel
theorem dX6_level_80 : decode cX6_level 80 = .ok (.iload 5, 2) := by decide +kernel
theorem dX6_level_82 : decode cX6_level 82 = .ok (.isub, 1) := by decide +kernel
theorem dX6_level_83 : decode cX6_level 83 = .ok (.iload 6, 2) := by decide +kernel
theorem dX6_level_85 : decode cX6_level 85 = .ok (.invokestatic 143, 3) := by decide +kernel
theorem dX6_level_88 : decode cX6_level 88 = .ok (.istore_n 3, 1) := by decide +kernel
theorem dX6_level_89 : decode cX6_level 89 = .ok (.iload 10, 2) := by decide +kernel
theorem dX6_level_91 : decode cX6_level 91 = .ok (.istore 4, 2) := by decide +kernel
theorem dX6_level_93 : decode cX6_level 93 = .ok (.iload 9, 2) := by decide +kernel
theorem dX6_level_95 : decode cX6_level 95 = .ok (.istore 5, 2) := by decide +kernel
theorem dX6_level_97 : decode cX6_level 97 = .ok (.aload_n 0, 1) := by decide +kernel
theorem dX6_level_98 : decode cX6_level 98 = .ok (.getfield 32, 3) := by decide +kernel
theorem dX6_level_101 : decode cX6_level 101 = .ok (.iload 8, 2) := by decide +kernel
theorem dX6_level_103 : decode cX6_level 103 = .ok (.iaload, 1) := by decide +kernel
theorem dX6_level_104 : decode cX6_level 104 = .ok (.istore 6, 2) := by decide +kernel
theorem dX6_level_106 : decode cX6_level 106 = .ok (.iinc 7 1, 3) := by decide +kernel
theorem dX6_level_109 : decode cX6_level 109 = .ok (.goto (-95), 3) := by decide +kernel
theorem dX6_level_112 : decode cX6_level 112 = .ok (.iload_n 3, 1) := by decide +kernel
theorem dX6_level_113 : decode cX6_level 113 = .ok (.iload 4, 2) := by decide +kernel
theorem dX6_level_115 : decode cX6_level 115 = .ok (.iload_n 2, 1) := by decide +kernel
theorem dX6_level_116 : decode cX6_level 116 = .ok (.iload 5, 2) := by decide +kernel
theorem dX6_level_118 : decode cX6_level 118 = .ok (.isub, 1) := by decide +kernel
theorem dX6_level_119 : decode cX6_level 119 = .ok (.iload 6, 2) := by decide +kernel
theorem dX6_level_121 : decode cX6_level 121 = .ok (.invokestatic 143, 3) := by decide +kernel
theorem dX6_level_124 : decode cX6_level 124 = .ok (.ireturn, 1) := by decide +kernel
set_option maxRecDepth 20000 in
theorem ggX6_levelNow_X6_isChannel : GoodIn wsX6_levelNow wsX6_isChannel := goodIn_r _ [4, 5, 6, 3, 7] (by decide +kernel) (by decide +kernel)
set_option maxRecDepth 20000 in
theorem gX6_levelNow_X6_isChannel : GoodIn wsX6_levelNow (va_wsS RX6 108 yX6_isChannel wsX6_isChannel) := goodIn_app (goodIn_of _ (by decide +kernel)) ggX6_levelNow_X6_isChannel
set_option maxRecDepth 20000 in
theorem ggX6_levelNow_X6_isTime : GoodIn wsX6_levelNow wsX6_isTime := goodIn_r _ [10, 5, 6, 3, 7] (by decide +kernel) (by decide +kernel)
set_option maxRecDepth 20000 in
theorem gX6_levelNow_X6_isTime : GoodIn wsX6_levelNow (va_wsS RX6 147 yX6_isTime wsX6_isTime) := goodIn_app (goodIn_of _ (by decide +kernel)) ggX6_levelNow_X6_isTime
set_option maxRecDepth 20000 in
theorem ggX6_levelNow_X6_isFine : GoodIn wsX6_levelNow wsX6_isFine := goodIn_r _ [14, 15, 59, 60, 61, 62, 63, 64, 65, 66, 67, 68, 69, 70, 71, 72, 73, 74, 75, 76, 77, 78, 79, 80, 81, 82, 83, 84, 85, 86, 87, 88] (by decide +kernel) (by decide +kernel)
set_option maxRecDepth 20000 in
theorem gX6_levelNow_X6_isFine : GoodIn wsX6_levelNow (wsV RX6 94 RX6 yX6_isFine wsX6_isFine) := goodIn_app (goodIn_of _ (by decide +kernel)) ggX6_levelNow_X6_isFine
set_option maxRecDepth 20000 in
theorem ggX6_levelNow_X6_plays : GoodIn wsX6_levelNow wsX6_plays := goodIn_r _ [19, 20, 21, 22, 23, 24, 25, 26, 27, 28, 29, 30, 3, 31, 32, 33, 34, 35, 36, 37, 38, 39, 40, 41, 42, 43, 44, 45, 59, 60, 61, 62, 63, 64, 65, 66, 67, 68, 69, 70, 71, 72, 73, 74, 75, 76, 77, 78, 79, 80, 81, 82, 83, 84, 85, 86, 87, 88] (by decide +kernel) (by decide +kernel)
set_option maxRecDepth 20000 in
theorem gX6_levelNow_X6_plays : GoodIn wsX6_levelNow (wsV RX6 150 RX6 yX6_plays wsX6_plays) := goodIn_app (goodIn_of _ (by decide +kernel)) ggX6_levelNow_X6_plays
set_option maxRecDepth 20000 in
theorem ggX6_levelNow_X6_level : GoodIn wsX6_levelNow wsX6_level := goodIn_r _ [49, 24, 26, 27, 50, 42, 43, 44, 3, 45, 21, 36, 37, 51, 52, 53, 54, 55, 38, 39, 40, 41, 22, 56, 57, 58, 59, 60, 61, 62, 63, 64, 65, 66, 67, 68, 69, 70, 71, 72, 73, 74, 75, 76, 77, 78, 79, 80, 81, 82, 83, 84, 85, 86, 87, 88] (by decide +kernel) (by decide +kernel)
set_option maxRecDepth 20000 in
theorem gX6_levelNow_X6_level : GoodIn wsX6_levelNow (wsV RX6 153 RX6 yX6_level wsX6_level) := goodIn_app (goodIn_of _ (by decide +kernel)) ggX6_levelNow_X6_level
theorem dX6_levelNow_0 : decode cX6_levelNow 0 = .ok (.aload_n 0, 1) := by decide +kernel
theorem dX6_levelNow_1 : decode cX6_levelNow 1 = .ok (.iload_n 1, 1) := by decide +kernel
theorem dX6_levelNow_2 : decode cX6_levelNow 2 = .ok (.invokestatic 108, 3) := by decide +kernel
theorem dX6_levelNow_5 : decode cX6_levelNow 5 = .ok (.ifCond .ne 7, 3) := by decide +kernel
theorem dX6_levelNow_8 : decode cX6_levelNow 8 = .ok (.iconst 1, 1) := by decide +kernel
theorem dX6_levelNow_9 : decode cX6_levelNow 9 = .ok (.goto 15, 3) := by decide +kernel
theorem dX6_levelNow_12 : decode cX6_levelNow 12 = .ok (.iload_n 2, 1) := by decide +kernel
theorem dX6_levelNow_13 : decode cX6_levelNow 13 = .ok (.invokestatic 147, 3) := by decide +kernel
theorem dX6_levelNow_16 : decode cX6_levelNow 16 = .ok (.ifCond .ne 7, 3) := by decide +kernel
theorem dX6_levelNow_19 : decode cX6_levelNow 19 = .ok (.iconst 2, 1) := by decide +kernel
theorem dX6_levelNow_20 : decode cX6_levelNow 20 = .ok (.goto 4, 3) := by decide +kernel
theorem dX6_levelNow_23 : decode cX6_levelNow 23 = .ok (.iconst 0, 1) := by decide +kernel
theorem dX6_levelNow_24 : decode cX6_levelNow 24 = .ok (.invokevirtual 94, 3) := by decide +kernel
theorem dX6_levelNow_27 : decode cX6_levelNow 27 = .ok (.ifCond .ne 5, 3) := by decide +kernel
theorem dX6_levelNow_30 : decode cX6_levelNow 30 = .ok (.iconst 0, 1) := by decide +kernel
theorem dX6_levelNow_31 : decode cX6_levelNow 31 = .ok (.ireturn, 1) := by decide +kernel
theorem dX6_levelNow_32 : decode cX6_levelNow 32 = .ok (.aload_n 0, 1) := by decide +kernel
theorem dX6_levelNow_33 : decode cX6_levelNow 33 = .ok (.invokevirtual 150, 3) := by decide +kernel
theorem dX6_levelNow_36 : decode cX6_levelNow 36 = .ok (.aload_n 0, 1) := by decide +kernel
theorem dX6_levelNow_37 : decode cX6_levelNow 37 = .ok (.iload_n 1, 1) := by decide +kernel
theorem dX6_levelNow_38 : decode cX6_levelNow 38 = .ok (.iload_n 2, 1) := by decide +kernel
theorem dX6_levelNow_39 : decode cX6_levelNow 39 = .ok (.invokevirtual 153, 3) := by decide +kernel
theorem dX6_levelNow_42 : decode cX6_levelNow 42 = .ok (.ireturn, 1) := by decide +kernel
set_option maxRecDepth 20000 in
theorem ggX6_levelAt_X6_levelNow : GoodIn wsX6_levelAt wsX6_levelNow := goodIn_r _ [5, 6, 7, 4, 8, 9, 10, 11, 12, 13, 14, 15, 16, 17, 18, 19, 20, 21, 22, 23, 24, 25, 26, 27, 28, 29, 30, 31, 32, 33, 34, 35, 36, 37, 38, 39, 40, 41, 42, 43, 44, 45, 46, 47, 48, 49, 50, 51, 52, 53, 54, 55, 56, 57, 58, 59, 60, 61, 62, 63, 64, 65, 66, 67, 68, 69, 70, 71, 72, 73, 74, 75, 76, 77, 78, 79, 80, 81, 82, 83, 84, 85, 86, 87, 88, 89, 90, 91, 92] (by decide +kernel) (by decide +kernel)
set_option maxRecDepth 20000 in
theorem gX6_levelAt_X6_levelNow : GoodIn wsX6_levelAt (wsV RX6 156 RX6 yX6_levelNow wsX6_levelNow) := goodIn_app (goodIn_of _ (by decide +kernel)) ggX6_levelAt_X6_levelNow
theorem dX6_levelAt_0 : decode cX6_levelAt 0 = .ok (.aload_n 0, 1) := by decide +kernel
theorem dX6_levelAt_1 : decode cX6_levelAt 1 = .ok (.iload_n 1, 1) := by decide +kernel
theorem dX6_levelAt_2 : decode cX6_levelAt 2 = .ok (.iload_n 2, 1) := by decide +kernel
theorem dX6_levelAt_3 : decode cX6_levelAt 3 = .ok (.invokevirtual 156, 3) := by decide +kernel
theorem dX6_levelAt_6 : decode cX6_levelAt 6 = .ok (.ireturn, 1) := by decide +kernel
set_option maxRecDepth 20000 in
theorem ggX6_levelBySeconds_X6_levelNow : GoodIn wsX6_levelBySeconds wsX6_levelNow := goodIn_r _ [5, 6, 7, 4, 8, 9, 10, 11, 12, 13, 14, 15, 16, 17, 18, 19, 20, 21, 22, 23, 24, 25, 26, 27, 28, 29, 30, 31, 32, 33, 34, 35, 36, 37, 38, 39, 40, 41, 42, 43, 44, 45, 46, 47, 48, 49, 50, 51, 52, 53, 54, 55, 56, 57, 58, 59, 60, 61, 62, 63, 64, 65, 66, 67, 68, 69, 70, 71, 72, 73, 74, 75, 76, 77, 78, 79, 80, 81, 82, 83, 84, 85, 86, 87, 88, 89, 90, 91, 92] (by decide +kernel) (by decide +kernel)
set_option maxRecDepth 20000 in
theorem gX6_levelBySeconds_X6_levelNow : GoodIn wsX6_levelBySeconds (wsV RX6 156 RX6 yX6_levelNow wsX6_levelNow) := goodIn_app (goodIn_of _ (by decide +kernel)) ggX6_levelBySeconds_X6_levelNow
theorem dX6_levelBySeconds_0 : decode cX6_levelBySeconds 0 = .ok (.aload_n 0, 1) := by decide +kernel
theorem dX6_levelBySeconds_1 : decode cX6_levelBySeconds 1 = .ok (.iload_n 1, 1) := by decide +kernel
theorem dX6_levelBySeconds_2 : decode cX6_levelBySeconds 2 = .ok (.iload_n 2, 1) := by decide +kernel
theorem dX6_levelBySeconds_3 : decode cX6_levelBySeconds 3 = .ok (.invokevirtual 156, 3) := by decide +kernel
theorem dX6_levelBySeconds_6 : decode cX6_levelBySeconds 6 = .ok (.ireturn, 1) := by decide +kernel
set_option maxRecDepth 20000 in
theorem ggX6_isLamp_X6_isIn : GoodIn wsX6_isLamp wsX6_isIn := goodIn_r _ [5] (by decide +kernel) (by decide +kernel)
set_option maxRecDepth 20000 in
theorem gX6_isLamp_X6_isIn : GoodIn wsX6_isLamp (va_wsS RX6 90 yX6_isIn wsX6_isIn) := goodIn_app (goodIn_of _ (by decide +kernel)) ggX6_isLamp_X6_isIn
theorem dX6_isLamp_0 : decode cX6_isLamp 0 = .ok (.iload_n 1, 1) := by decide +kernel
theorem dX6_isLamp_1 : decode cX6_isLamp 1 = .ok (.iconst 0, 1) := by decide +kernel
theorem dX6_isLamp_2 : decode cX6_isLamp 2 = .ok (.aload_n 0, 1) := by decide +kernel
theorem dX6_isLamp_3 : decode cX6_isLamp 3 = .ok (.getfield 159, 3) := by decide +kernel
theorem dX6_isLamp_6 : decode cX6_isLamp 6 = .ok (.iconst 1, 1) := by decide +kernel
theorem dX6_isLamp_7 : decode cX6_isLamp 7 = .ok (.isub, 1) := by decide +kernel
theorem dX6_isLamp_8 : decode cX6_isLamp 8 = .ok (.invokestatic 90, 3) := by decide +kernel
theorem dX6_isLamp_11 : decode cX6_isLamp 11 = .ok (.ireturn, 1) := by decide +kernel
set_option maxRecDepth 20000 in
theorem ggX6_addLamp_X6_isStage : GoodIn wsX6_addLamp wsX6_isStage := goodIn_r _ [11, 12, 13, 10, 14] (by decide +kernel) (by decide +kernel)
set_option maxRecDepth 20000 in
theorem gX6_addLamp_X6_isStage : GoodIn wsX6_addLamp (va_wsS RX6 162 yX6_isStage wsX6_isStage) := goodIn_app (goodIn_of _ (by decide +kernel)) ggX6_addLamp_X6_isStage
set_option maxRecDepth 20000 in
theorem ggX6_addLamp_X6_isArea : GoodIn wsX6_addLamp wsX6_isArea := goodIn_r _ [17, 12, 13, 10, 14] (by decide +kernel) (by decide +kernel)
set_option maxRecDepth 20000 in
theorem gX6_addLamp_X6_isArea : GoodIn wsX6_addLamp (va_wsS RX6 101 yX6_isArea wsX6_isArea) := goodIn_app (goodIn_of _ (by decide +kernel)) ggX6_addLamp_X6_isArea
set_option maxRecDepth 20000 in
theorem ggX6_addLamp_X6_isIn : GoodIn wsX6_addLamp wsX6_isIn := goodIn_r _ [14] (by decide +kernel) (by decide +kernel)
set_option maxRecDepth 20000 in
theorem gX6_addLamp_X6_isIn : GoodIn wsX6_addLamp (va_wsS RX6 90 yX6_isIn wsX6_isIn) := goodIn_app (goodIn_of _ (by decide +kernel)) ggX6_addLamp_X6_isIn
set_option maxRecDepth 20000 in
theorem ggX6_addLamp_X6_isFine : GoodIn wsX6_addLamp wsX6_isFine := goodIn_r _ [21, 22, 23, 24, 25, 26, 27, 28, 29, 30, 31, 32, 33, 34, 35, 36, 37, 38, 39, 40, 41, 42, 43, 44, 45, 46, 47, 48, 49, 50, 51, 52] (by decide +kernel) (by decide +kernel)
set_option maxRecDepth 20000 in
theorem gX6_addLamp_X6_isFine : GoodIn wsX6_addLamp (wsV RX6 94 RX6 yX6_isFine wsX6_isFine) := goodIn_app (goodIn_of _ (by decide +kernel)) ggX6_addLamp_X6_isFine
theorem dX6_addLamp_0 : decode cX6_addLamp 0 = .ok (.iload_n 1, 1) := by decide +kernel
theorem dX6_addLamp_1 : decode cX6_addLamp 1 = .ok (.invokestatic 162, 3) := by decide +kernel
theorem dX6_addLamp_4 : decode cX6_addLamp 4 = .ok (.ifCond .eq 14, 3) := by decide +kernel
theorem dX6_addLamp_7 : decode cX6_addLamp 7 = .ok (.iload_n 2, 1) := by decide +kernel
theorem dX6_addLamp_8 : decode cX6_addLamp 8 = .ok (.invokestatic 101, 3) := by decide +kernel
theorem dX6_addLamp_11 : decode cX6_addLamp 11 = .ok (.ifCond .eq 7, 3) := by decide +kernel
theorem dX6_addLamp_14 : decode cX6_addLamp 14 = .ok (.iconst 1, 1) := by decide +kernel
theorem dX6_addLamp_15 : decode cX6_addLamp 15 = .ok (.goto 4, 3) := by decide +kernel
theorem dX6_addLamp_18 : decode cX6_addLamp 18 = .ok (.iconst 0, 1) := by decide +kernel
theorem dX6_addLamp_19 : decode cX6_addLamp 19 = .ok (.istore 5, 2) := by decide +kernel
theorem dX6_addLamp_21 : decode cX6_addLamp 21 = .ok (.iload_n 3, 1) := by decide +kernel
theorem dX6_addLamp_22 : decode cX6_addLamp 22 = .ok (.iconst 0, 1) := by decide +kernel
theorem dX6_addLamp_23 : decode cX6_addLamp 23 = .ok (.iconst 2, 1) := by decide +kernel
theorem dX6_addLamp_24 : decode cX6_addLamp 24 = .ok (.invokestatic 90, 3) := by decide +kernel
theorem dX6_addLamp_27 : decode cX6_addLamp 27 = .ok (.ifCond .eq 18, 3) := by decide +kernel
theorem dX6_addLamp_30 : decode cX6_addLamp 30 = .ok (.iload 4, 2) := by decide +kernel
theorem dX6_addLamp_32 : decode cX6_addLamp 32 = .ok (.iconst 1, 1) := by decide +kernel
theorem dX6_addLamp_33 : decode cX6_addLamp 33 = .ok (.bipush 100, 2) := by decide +kernel
theorem dX6_addLamp_35 : decode cX6_addLamp 35 = .ok (.invokestatic 90, 3) := by decide +kernel
theorem dX6_addLamp_38 : decode cX6_addLamp 38 = .ok (.ifCond .eq 7, 3) := by decide +kernel
theorem dX6_addLamp_41 : decode cX6_addLamp 41 = .ok (.iconst 1, 1) := by decide +kernel
theorem dX6_addLamp_42 : decode cX6_addLamp 42 = .ok (.goto 4, 3) := by decide +kernel
theorem dX6_addLamp_45 : decode cX6_addLamp 45 = .ok (.iconst 0, 1) := by decide +kernel
theorem dX6_addLamp_46 : decode cX6_addLamp 46 = .ok (.istore 6, 2) := by decide +kernel
theorem dX6_addLamp_48 : decode cX6_addLamp 48 = .ok (.aload_n 0, 1) := by decide +kernel
theorem dX6_addLamp_49 : decode cX6_addLamp 49 = .ok (.iload 5, 2) := by decide +kernel
theorem dX6_addLamp_51 : decode cX6_addLamp 51 = .ok (.ifCond .ne 7, 3) := by decide +kernel
theorem dX6_addLamp_54 : decode cX6_addLamp 54 = .ok (.iconst 1, 1) := by decide +kernel
theorem dX6_addLamp_55 : decode cX6_addLamp 55 = .ok (.goto 26, 3) := by decide +kernel
theorem dX6_addLamp_58 : decode cX6_addLamp 58 = .ok (.iload 6, 2) := by decide +kernel
theorem dX6_addLamp_60 : decode cX6_addLamp 60 = .ok (.ifCond .ne 7, 3) := by decide +kernel
theorem dX6_addLamp_63 : decode cX6_addLamp 63 = .ok (.iconst 2, 1) := by decide +kernel
theorem dX6_addLamp_64 : decode cX6_addLamp 64 = .ok (.goto 17, 3) := by decide +kernel
theorem dX6_addLamp_67 : decode cX6_addLamp 67 = .ok (.aload_n 0, 1) := by decide +kernel
theorem dX6_addLamp_68 : decode cX6_addLamp 68 = .ok (.getfield 159, 3) := by decide +kernel
theorem dX6_addLamp_71 : decode cX6_addLamp 71 = .ok (.bipush 20, 2) := by decide +kernel
theorem dX6_addLamp_73 : decode cX6_addLamp 73 = .ok (.if_icmp .ne 7, 3) := by decide +kernel
theorem dX6_addLamp_76 : decode cX6_addLamp 76 = .ok (.iconst 3, 1) := by decide +kernel
theorem dX6_addLamp_77 : decode cX6_addLamp 77 = .ok (.goto 4, 3) := by decide +kernel
theorem dX6_addLamp_80 : decode cX6_addLamp 80 = .ok (.iconst 0, 1) := by decide +kernel
theorem dX6_addLamp_81 : decode cX6_addLamp 81 = .ok (.invokevirtual 94, 3) := by decide +kernel
theorem dX6_addLamp_84 : decode cX6_addLamp 84 = .ok (.ifCond .ne 5, 3) := by decide +kernel
theorem dX6_addLamp_87 : decode cX6_addLamp 87 = .ok (.iconst 0, 1) := by decide +kernel
theorem dX6_addLamp_88 : decode cX6_addLamp 88 = .ok (.ireturn, 1) := by decide +kernel
theorem dX6_addLamp_89 : decode cX6_addLamp 89 = .ok (.aload_n 0, 1) := by decide +kernel
theorem dX6_addLamp_90 : decode cX6_addLamp 90 = .ok (.getfield 38, 3) := by decide +kernel
theorem dX6_addLamp_93 : decode cX6_addLamp 93 = .ok (.aload_n 0, 1) := by decide +kernel
theorem dX6_addLamp_94 : decode cX6_addLamp 94 = .ok (.getfield 159, 3) := by decide +kernel
theorem dX6_addLamp_97 : decode cX6_addLamp 97 = .ok (.iload_n 1, 1) := by decide +kernel
theorem dX6_addLamp_98 : decode cX6_addLamp 98 = .ok (.iastore, 1) := by decide +kernel
theorem dX6_addLamp_99 : decode cX6_addLamp 99 = .ok (.aload_n 0, 1) := by decide +kernel
theorem dX6_addLamp_100 : decode cX6_addLamp 100 = .ok (.getfield 41, 3) := by decide +kernel
theorem dX6_addLamp_103 : decode cX6_addLamp 103 = .ok (.aload_n 0, 1) := by decide +kernel
theorem dX6_addLamp_104 : decode cX6_addLamp 104 = .ok (.getfield 159, 3) := by decide +kernel
theorem dX6_addLamp_107 : decode cX6_addLamp 107 = .ok (.iload_n 2, 1) := by decide +kernel
theorem dX6_addLamp_108 : decode cX6_addLamp 108 = .ok (.iastore, 1) := by decide +kernel
theorem dX6_addLamp_109 : decode cX6_addLamp 109 = .ok (.aload_n 0, 1) := by decide +kernel
theorem dX6_addLamp_110 : decode cX6_addLamp 110 = .ok (.getfield 44, 3) := by decide +kernel
theorem dX6_addLamp_113 : decode cX6_addLamp 113 = .ok (.aload_n 0, 1) := by decide +kernel
theorem dX6_addLamp_114 : decode cX6_addLamp 114 = .ok (.getfield 159, 3) := by decide +kernel
theorem dX6_addLamp_117 : decode cX6_addLamp 117 = .ok (.iload_n 1, 1) := by decide +kernel
theorem dX6_addLamp_118 : decode cX6_addLamp 118 = .ok (.iastore, 1) := by decide +kernel
theorem dX6_addLamp_119 : decode cX6_addLamp 119 = .ok (.aload_n 0, 1) := by decide +kernel
theorem dX6_addLamp_120 : decode cX6_addLamp 120 = .ok (.getfield 47, 3) := by decide +kernel
theorem dX6_addLamp_123 : decode cX6_addLamp 123 = .ok (.aload_n 0, 1) := by decide +kernel
theorem dX6_addLamp_124 : decode cX6_addLamp 124 = .ok (.getfield 159, 3) := by decide +kernel
theorem dX6_addLamp_127 : decode cX6_addLamp 127 = .ok (.iload_n 2, 1) := by decide +kernel
theorem dX6_addLamp_128 : decode cX6_addLamp 128 = .ok (.iastore, 1) := by decide +kernel
theorem dX6_addLamp_129 : decode cX6_addLamp 129 = .ok (.aload_n 0, 1) := by decide +kernel
theorem dX6_addLamp_130 : decode cX6_addLamp 130 = .ok (.getfield 50, 3) := by decide +kernel
theorem dX6_addLamp_133 : decode cX6_addLamp 133 = .ok (.aload_n 0, 1) := by decide +kernel
theorem dX6_addLamp_134 : decode cX6_addLamp 134 = .ok (.getfield 159, 3) := by decide +kernel
theorem dX6_addLamp_137 : decode cX6_addLamp 137 = .ok (.iload_n 3, 1) := by decide +kernel
theorem dX6_addLamp_138 : decode cX6_addLamp 138 = .ok (.iastore, 1) := by decide +kernel
theorem dX6_addLamp_139 : decode cX6_addLamp 139 = .ok (.aload_n 0, 1) := by decide +kernel
theorem dX6_addLamp_140 : decode cX6_addLamp 140 = .ok (.getfield 53, 3) := by decide +kernel
theorem dX6_addLamp_143 : decode cX6_addLamp 143 = .ok (.aload_n 0, 1) := by decide +kernel
theorem dX6_addLamp_144 : decode cX6_addLamp 144 = .ok (.getfield 159, 3) := by decide +kernel
theorem dX6_addLamp_147 : decode cX6_addLamp 147 = .ok (.iload 4, 2) := by decide +kernel
theorem dX6_addLamp_149 : decode cX6_addLamp 149 = .ok (.iastore, 1) := by decide +kernel
theorem dX6_addLamp_150 : decode cX6_addLamp 150 = .ok (.aload_n 0, 1) := by decide +kernel
theorem dX6_addLamp_151 : decode cX6_addLamp 151 = .ok (.dup, 1) := by decide +kernel
theorem dX6_addLamp_152 : decode cX6_addLamp 152 = .ok (.getfield 159, 3) := by decide +kernel
theorem dX6_addLamp_155 : decode cX6_addLamp 155 = .ok (.iconst 1, 1) := by decide +kernel
theorem dX6_addLamp_156 : decode cX6_addLamp 156 = .ok (.iadd, 1) := by decide +kernel
theorem dX6_addLamp_157 : decode cX6_addLamp 157 = .ok (.putfield 159, 3) := by decide +kernel
theorem dX6_addLamp_160 : decode cX6_addLamp 160 = .ok (.aload_n 0, 1) := by decide +kernel
theorem dX6_addLamp_161 : decode cX6_addLamp 161 = .ok (.getfield 159, 3) := by decide +kernel
theorem dX6_addLamp_164 : decode cX6_addLamp 164 = .ok (.iconst 1, 1) := by decide +kernel
theorem dX6_addLamp_165 : decode cX6_addLamp 165 = .ok (.isub, 1) := by decide +kernel
theorem dX6_addLamp_166 : decode cX6_addLamp 166 = .ok (.ireturn, 1) := by decide +kernel
theorem dX6_isHome_0 : decode cX6_isHome 0 = .ok (.aload_n 0, 1) := by decide +kernel
theorem dX6_isHome_1 : decode cX6_isHome 1 = .ok (.getfield 44, 3) := by decide +kernel
theorem dX6_isHome_4 : decode cX6_isHome 4 = .ok (.iload_n 1, 1) := by decide +kernel
theorem dX6_isHome_5 : decode cX6_isHome 5 = .ok (.iaload, 1) := by decide +kernel
theorem dX6_isHome_6 : decode cX6_isHome 6 = .ok (.aload_n 0, 1) := by decide +kernel
theorem dX6_isHome_7 : decode cX6_isHome 7 = .ok (.getfield 38, 3) := by decide +kernel
theorem dX6_isHome_10 : decode cX6_isHome 10 = .ok (.iload_n 1, 1) := by decide +kernel
theorem dX6_isHome_11 : decode cX6_isHome 11 = .ok (.iaload, 1) := by decide +kernel
theorem dX6_isHome_12 : decode cX6_isHome 12 = .ok (.if_icmp .ne 7, 3) := by decide +kernel
theorem dX6_isHome_15 : decode cX6_isHome 15 = .ok (.iconst 1, 1) := by decide +kernel
theorem dX6_isHome_16 : decode cX6_isHome 16 = .ok (.goto 4, 3) := by decide +kernel
theorem dX6_isHome_19 : decode cX6_isHome 19 = .ok (.iconst 0, 1) := by decide +kernel
theorem dX6_isHome_20 : decode cX6_isHome 20 = .ok (.ireturn, 1) := by decide +kernel
set_option maxRecDepth 20000 in
theorem ggX6_borrow_X6_isLamp : GoodIn wsX6_borrow wsX6_isLamp := goodIn_r _ [8, 9, 10, 11, 7, 12, 28, 29, 30, 31, 32, 33, 34, 35, 36, 37, 38, 39, 40, 41, 42, 43, 44, 45, 46, 47, 48, 49, 50, 51, 52, 53, 54, 55, 56, 57] (by decide +kernel) (by decide +kernel)
set_option maxRecDepth 20000 in
theorem gX6_borrow_X6_isLamp : GoodIn wsX6_borrow (wsV RX6 165 RX6 yX6_isLamp wsX6_isLamp) := goodIn_app (goodIn_of _ (by decide +kernel)) ggX6_borrow_X6_isLamp
set_option maxRecDepth 20000 in
theorem ggX6_borrow_X6_isStage : GoodIn wsX6_borrow wsX6_isStage := goodIn_r _ [15, 10, 11, 7, 12] (by decide +kernel) (by decide +kernel)
set_option maxRecDepth 20000 in
theorem gX6_borrow_X6_isStage : GoodIn wsX6_borrow (va_wsS RX6 162 yX6_isStage wsX6_isStage) := goodIn_app (goodIn_of _ (by decide +kernel)) ggX6_borrow_X6_isStage
set_option maxRecDepth 20000 in
theorem ggX6_borrow_X6_isArea : GoodIn wsX6_borrow wsX6_isArea := goodIn_r _ [18, 10, 11, 7, 12] (by decide +kernel) (by decide +kernel)
set_option maxRecDepth 20000 in
theorem gX6_borrow_X6_isArea : GoodIn wsX6_borrow (va_wsS RX6 101 yX6_isArea wsX6_isArea) := goodIn_app (goodIn_of _ (by decide +kernel)) ggX6_borrow_X6_isArea
set_option maxRecDepth 20000 in
theorem ggX6_borrow_X6_isHome : GoodIn wsX6_borrow wsX6_isHome := goodIn_r _ [22, 2, 1, 28, 29, 30, 31, 32, 33, 34, 35, 36, 37, 38, 39, 40, 41, 42, 43, 44, 45, 46, 47, 48, 49, 50, 51, 52, 53, 54, 55, 56, 57] (by decide +kernel) (by decide +kernel)
set_option maxRecDepth 20000 in
theorem gX6_borrow_X6_isHome : GoodIn wsX6_borrow (wsV RX6 168 RX6 yX6_isHome wsX6_isHome) := goodIn_app (goodIn_of _ (by decide +kernel)) ggX6_borrow_X6_isHome
set_option maxRecDepth 20000 in
theorem ggX6_borrow_X6_isFine : GoodIn wsX6_borrow wsX6_isFine := goodIn_r _ [26, 27, 28, 29, 30, 31, 32, 33, 34, 35, 36, 37, 38, 39, 40, 41, 42, 43, 44, 45, 46, 47, 48, 49, 50, 51, 52, 53, 54, 55, 56, 57] (by decide +kernel) (by decide +kernel)
set_option maxRecDepth 20000 in
theorem gX6_borrow_X6_isFine : GoodIn wsX6_borrow (wsV RX6 94 RX6 yX6_isFine wsX6_isFine) := goodIn_app (goodIn_of _ (by decide +kernel)) ggX6_borrow_X6_isFine
theorem dX6_borrow_0 : decode cX6_borrow 0 = .ok (.aload_n 0, 1) := by decide +kernel
theorem dX6_borrow_1 : decode cX6_borrow 1 = .ok (.iload_n 1, 1) := by decide +kernel
theorem dX6_borrow_2 : decode cX6_borrow 2 = .ok (.invokevirtual 165, 3) := by decide +kernel
theorem dX6_borrow_5 : decode cX6_borrow 5 = .ok (.ifCond .eq 21, 3) := by decide +kernel
theorem dX6_borrow_8 : decode cX6_borrow 8 = .ok (.iload_n 2, 1) := by decide +kernel
theorem dX6_borrow_9 : decode cX6_borrow 9 = .ok (.invokestatic 162, 3) := by decide +kernel
theorem dX6_borrow_12 : decode cX6_borrow 12 = .ok (.ifCond .eq 14, 3) := by decide +kernel
theorem dX6_borrow_15 : decode cX6_borrow 15 = .ok (.iload_n 3, 1) := by decide +kernel
theorem dX6_borrow_16 : decode cX6_borrow 16 = .ok (.invokestatic 101, 3) := by decide +kernel
theorem dX6_borrow_19 : decode cX6_borrow 19 = .ok (.ifCond .eq 7, 3) := by decide +kernel
theorem dX6_borrow_22 : decode cX6_borrow 22 = .ok (.iconst 1, 1) := by decide +kernel
theorem dX6_borrow_23 : decode cX6_borrow 23 = .ok (.goto 4, 3) := by decide +kernel
theorem dX6_borrow_26 : decode cX6_borrow 26 = .ok (.iconst 0, 1) := by decide +kernel
theorem dX6_borrow_27 : decode cX6_borrow 27 = .ok (.istore 4, 2) := by decide +kernel
theorem dX6_borrow_29 : decode cX6_borrow 29 = .ok (.aload_n 0, 1) := by decide +kernel
theorem dX6_borrow_30 : decode cX6_borrow 30 = .ok (.iload 4, 2) := by decide +kernel
theorem dX6_borrow_32 : decode cX6_borrow 32 = .ok (.ifCond .ne 7, 3) := by decide +kernel
theorem dX6_borrow_35 : decode cX6_borrow 35 = .ok (.iconst 1, 1) := by decide +kernel
theorem dX6_borrow_36 : decode cX6_borrow 36 = .ok (.goto 26, 3) := by decide +kernel
theorem dX6_borrow_39 : decode cX6_borrow 39 = .ok (.aload_n 0, 1) := by decide +kernel
theorem dX6_borrow_40 : decode cX6_borrow 40 = .ok (.iload_n 1, 1) := by decide +kernel
theorem dX6_borrow_41 : decode cX6_borrow 41 = .ok (.invokevirtual 168, 3) := by decide +kernel
theorem dX6_borrow_44 : decode cX6_borrow 44 = .ok (.ifCond .eq 13, 3) := by decide +kernel
theorem dX6_borrow_47 : decode cX6_borrow 47 = .ok (.iload_n 2, 1) := by decide +kernel
theorem dX6_borrow_48 : decode cX6_borrow 48 = .ok (.aload_n 0, 1) := by decide +kernel
theorem dX6_borrow_49 : decode cX6_borrow 49 = .ok (.getfield 38, 3) := by decide +kernel
theorem dX6_borrow_52 : decode cX6_borrow 52 = .ok (.iload_n 1, 1) := by decide +kernel
theorem dX6_borrow_53 : decode cX6_borrow 53 = .ok (.iaload, 1) := by decide +kernel
theorem dX6_borrow_54 : decode cX6_borrow 54 = .ok (.if_icmp .ne 7, 3) := by decide +kernel
theorem dX6_borrow_57 : decode cX6_borrow 57 = .ok (.iconst 2, 1) := by decide +kernel
theorem dX6_borrow_58 : decode cX6_borrow 58 = .ok (.goto 4, 3) := by decide +kernel
theorem dX6_borrow_61 : decode cX6_borrow 61 = .ok (.iconst 0, 1) := by decide +kernel
theorem dX6_borrow_62 : decode cX6_borrow 62 = .ok (.invokevirtual 94, 3) := by decide +kernel
theorem dX6_borrow_65 : decode cX6_borrow 65 = .ok (.ifCond .ne 5, 3) := by decide +kernel
theorem dX6_borrow_68 : decode cX6_borrow 68 = .ok (.iconst 0, 1) := by decide +kernel
theorem dX6_borrow_69 : decode cX6_borrow 69 = .ok (.ireturn, 1) := by decide +kernel
theorem dX6_borrow_70 : decode cX6_borrow 70 = .ok (.aload_n 0, 1) := by decide +kernel
theorem dX6_borrow_71 : decode cX6_borrow 71 = .ok (.getfield 44, 3) := by decide +kernel
theorem dX6_borrow_74 : decode cX6_borrow 74 = .ok (.iload_n 1, 1) := by decide +kernel
theorem dX6_borrow_75 : decode cX6_borrow 75 = .ok (.iload_n 2, 1) := by decide +kernel
theorem dX6_borrow_76 : decode cX6_borrow 76 = .ok (.iastore, 1) := by decide +kernel
theorem dX6_borrow_77 : decode cX6_borrow 77 = .ok (.aload_n 0, 1) := by decide +kernel
theorem dX6_borrow_78 : decode cX6_borrow 78 = .ok (.getfield 47, 3) := by decide +kernel
theorem dX6_borrow_81 : decode cX6_borrow 81 = .ok (.iload_n 1, 1) := by decide +kernel
theorem dX6_borrow_82 : decode cX6_borrow 82 = .ok (.iload_n 3, 1) := by decide +kernel
theorem dX6_borrow_83 : decode cX6_borrow 83 = .ok (.iastore, 1) := by decide +kernel
theorem dX6_borrow_84 : decode cX6_borrow 84 = .ok (.aload_n 0, 1) := by decide +kernel
theorem dX6_borrow_85 : decode cX6_borrow 85 = .ok (.getfield 38, 3) := by decide +kernel
theorem dX6_borrow_88 : decode cX6_borrow 88 = .ok (.iload_n 1, 1) := by decide +kernel
theorem dX6_borrow_89 : decode cX6_borrow 89 = .ok (.iaload, 1) := by decide +kernel
theorem dX6_borrow_90 : decode cX6_borrow 90 = .ok (.ireturn, 1) := by decide +kernel
set_option maxRecDepth 20000 in
theorem ggX6_bringBack_X6_isLamp : GoodIn wsX6_bringBack wsX6_isLamp := goodIn_r _ [9, 10, 11, 12, 8, 13, 23, 24, 25, 26, 27, 28, 29, 30, 31, 32, 33, 34, 35, 36, 37, 38, 39, 40, 41, 42, 43, 44, 45, 46, 47, 48, 49, 50, 51, 52] (by decide +kernel) (by decide +kernel)
set_option maxRecDepth 20000 in
theorem gX6_bringBack_X6_isLamp : GoodIn wsX6_bringBack (wsV RX6 165 RX6 yX6_isLamp wsX6_isLamp) := goodIn_app (goodIn_of _ (by decide +kernel)) ggX6_bringBack_X6_isLamp
set_option maxRecDepth 20000 in
theorem ggX6_bringBack_X6_isHome : GoodIn wsX6_bringBack wsX6_isHome := goodIn_r _ [17, 1, 2, 23, 24, 25, 26, 27, 28, 29, 30, 31, 32, 33, 34, 35, 36, 37, 38, 39, 40, 41, 42, 43, 44, 45, 46, 47, 48, 49, 50, 51, 52] (by decide +kernel) (by decide +kernel)
set_option maxRecDepth 20000 in
theorem gX6_bringBack_X6_isHome : GoodIn wsX6_bringBack (wsV RX6 168 RX6 yX6_isHome wsX6_isHome) := goodIn_app (goodIn_of _ (by decide +kernel)) ggX6_bringBack_X6_isHome
set_option maxRecDepth 20000 in
theorem ggX6_bringBack_X6_isFine : GoodIn wsX6_bringBack wsX6_isFine := goodIn_r _ [21, 22, 23, 24, 25, 26, 27, 28, 29, 30, 31, 32, 33, 34, 35, 36, 37, 38, 39, 40, 41, 42, 43, 44, 45, 46, 47, 48, 49, 50, 51, 52] (by decide +kernel) (by decide +kernel)
set_option maxRecDepth 20000 in
theorem gX6_bringBack_X6_isFine : GoodIn wsX6_bringBack (wsV RX6 94 RX6 yX6_isFine wsX6_isFine) := goodIn_app (goodIn_of _ (by decide +kernel)) ggX6_bringBack_X6_isFine
theorem dX6_bringBack_0 : decode cX6_bringBack 0 = .ok (.aload_n 0, 1) := by decide +kernel
theorem dX6_bringBack_1 : decode cX6_bringBack 1 = .ok (.iload_n 1, 1) := by decide +kernel
theorem dX6_bringBack_2 : decode cX6_bringBack 2 = .ok (.invokevirtual 165, 3) := by decide +kernel
theorem dX6_bringBack_5 : decode cX6_bringBack 5 = .ok (.istore_n 2, 1) := by decide +kernel
theorem dX6_bringBack_6 : decode cX6_bringBack 6 = .ok (.aload_n 0, 1) := by decide +kernel
theorem dX6_bringBack_7 : decode cX6_bringBack 7 = .ok (.iload_n 2, 1) := by decide +kernel
theorem dX6_bringBack_8 : decode cX6_bringBack 8 = .ok (.ifCond .ne 7, 3) := by decide +kernel
theorem dX6_bringBack_11 : decode cX6_bringBack 11 = .ok (.iconst 1, 1) := by decide +kernel
theorem dX6_bringBack_12 : decode cX6_bringBack 12 = .ok (.goto 16, 3) := by decide +kernel
theorem dX6_bringBack_15 : decode cX6_bringBack 15 = .ok (.aload_n 0, 1) := by decide +kernel
theorem dX6_bringBack_16 : decode cX6_bringBack 16 = .ok (.iload_n 1, 1) := by decide +kernel
theorem dX6_bringBack_17 : decode cX6_bringBack 17 = .ok (.invokevirtual 168, 3) := by decide +kernel
theorem dX6_bringBack_20 : decode cX6_bringBack 20 = .ok (.ifCond .eq 7, 3) := by decide +kernel
theorem dX6_bringBack_23 : decode cX6_bringBack 23 = .ok (.iconst 2, 1) := by decide +kernel
theorem dX6_bringBack_24 : decode cX6_bringBack 24 = .ok (.goto 4, 3) := by decide +kernel
theorem dX6_bringBack_27 : decode cX6_bringBack 27 = .ok (.iconst 0, 1) := by decide +kernel
theorem dX6_bringBack_28 : decode cX6_bringBack 28 = .ok (.invokevirtual 94, 3) := by decide +kernel
theorem dX6_bringBack_31 : decode cX6_bringBack 31 = .ok (.ifCond .ne 5, 3) := by decide +kernel
theorem dX6_bringBack_34 : decode cX6_bringBack 34 = .ok (.iconst 0, 1) := by decide +kernel
theorem dX6_bringBack_35 : decode cX6_bringBack 35 = .ok (.ireturn, 1) := by decide +kernel
theorem dX6_bringBack_36 : decode cX6_bringBack 36 = .ok (.aload_n 0, 1) := by decide +kernel
theorem dX6_bringBack_37 : decode cX6_bringBack 37 = .ok (.getfield 44, 3) := by decide +kernel
theorem dX6_bringBack_40 : decode cX6_bringBack 40 = .ok (.iload_n 1, 1) := by decide +kernel
theorem dX6_bringBack_41 : decode cX6_bringBack 41 = .ok (.iaload, 1) := by decide +kernel
theorem dX6_bringBack_42 : decode cX6_bringBack 42 = .ok (.istore_n 3, 1) := by decide +kernel
theorem dX6_bringBack_43 : decode cX6_bringBack 43 = .ok (.aload_n 0, 1) := by decide +kernel
theorem dX6_bringBack_44 : decode cX6_bringBack 44 = .ok (.getfield 44, 3) := by decide +kernel
theorem dX6_bringBack_47 : decode cX6_bringBack 47 = .ok (.iload_n 1, 1) := by decide +kernel
theorem dX6_bringBack_48 : decode cX6_bringBack 48 = .ok (.aload_n 0, 1) := by decide +kernel
theorem dX6_bringBack_49 : decode cX6_bringBack 49 = .ok (.getfield 38, 3) := by decide +kernel
theorem dX6_bringBack_52 : decode cX6_bringBack 52 = .ok (.iload_n 1, 1) := by decide +kernel
theorem dX6_bringBack_53 : decode cX6_bringBack 53 = .ok (.iaload, 1) := by decide +kernel
theorem dX6_bringBack_54 : decode cX6_bringBack 54 = .ok (.iastore, 1) := by decide +kernel
theorem dX6_bringBack_55 : decode cX6_bringBack 55 = .ok (.aload_n 0, 1) := by decide +kernel
theorem dX6_bringBack_56 : decode cX6_bringBack 56 = .ok (.getfield 47, 3) := by decide +kernel
theorem dX6_bringBack_59 : decode cX6_bringBack 59 = .ok (.iload_n 1, 1) := by decide +kernel
theorem dX6_bringBack_60 : decode cX6_bringBack 60 = .ok (.aload_n 0, 1) := by decide +kernel
theorem dX6_bringBack_61 : decode cX6_bringBack 61 = .ok (.getfield 41, 3) := by decide +kernel
theorem dX6_bringBack_64 : decode cX6_bringBack 64 = .ok (.iload_n 1, 1) := by decide +kernel
theorem dX6_bringBack_65 : decode cX6_bringBack 65 = .ok (.iaload, 1) := by decide +kernel
theorem dX6_bringBack_66 : decode cX6_bringBack 66 = .ok (.iastore, 1) := by decide +kernel
theorem dX6_bringBack_67 : decode cX6_bringBack 67 = .ok (.iload_n 3, 1) := by decide +kernel
theorem dX6_bringBack_68 : decode cX6_bringBack 68 = .ok (.ireturn, 1) := by decide +kernel
set_option maxRecDepth 20000 in
theorem ggX6_replace_X6_isLamp : GoodIn wsX6_replace wsX6_isLamp := goodIn_r _ [6, 7, 8, 9, 5, 10, 16, 17, 18, 19, 20, 21, 22, 23, 24, 25, 26, 27, 28, 29, 30, 31, 32, 33, 34, 35, 36, 37, 38, 39, 40, 41, 42, 43, 44, 45] (by decide +kernel) (by decide +kernel)
set_option maxRecDepth 20000 in
theorem gX6_replace_X6_isLamp : GoodIn wsX6_replace (wsV RX6 165 RX6 yX6_isLamp wsX6_isLamp) := goodIn_app (goodIn_of _ (by decide +kernel)) ggX6_replace_X6_isLamp
set_option maxRecDepth 20000 in
theorem ggX6_replace_X6_isFine : GoodIn wsX6_replace wsX6_isFine := goodIn_r _ [14, 15, 16, 17, 18, 19, 20, 21, 22, 23, 24, 25, 26, 27, 28, 29, 30, 31, 32, 33, 34, 35, 36, 37, 38, 39, 40, 41, 42, 43, 44, 45] (by decide +kernel) (by decide +kernel)
set_option maxRecDepth 20000 in
theorem gX6_replace_X6_isFine : GoodIn wsX6_replace (wsV RX6 94 RX6 yX6_isFine wsX6_isFine) := goodIn_app (goodIn_of _ (by decide +kernel)) ggX6_replace_X6_isFine
theorem dX6_replace_0 : decode cX6_replace 0 = .ok (.aload_n 0, 1) := by decide +kernel
theorem dX6_replace_1 : decode cX6_replace 1 = .ok (.aload_n 0, 1) := by decide +kernel
theorem dX6_replace_2 : decode cX6_replace 2 = .ok (.iload_n 1, 1) := by decide +kernel
theorem dX6_replace_3 : decode cX6_replace 3 = .ok (.invokevirtual 165, 3) := by decide +kernel
theorem dX6_replace_6 : decode cX6_replace 6 = .ok (.ifCond .eq 7, 3) := by decide +kernel
theorem dX6_replace_9 : decode cX6_replace 9 = .ok (.iconst 0, 1) := by decide +kernel
theorem dX6_replace_10 : decode cX6_replace 10 = .ok (.goto 4, 3) := by decide +kernel
theorem dX6_replace_13 : decode cX6_replace 13 = .ok (.iconst 1, 1) := by decide +kernel
theorem dX6_replace_14 : decode cX6_replace 14 = .ok (.invokevirtual 94, 3) := by decide +kernel
theorem dX6_replace_17 : decode cX6_replace 17 = .ok (.ifCond .ne 5, 3) := by decide +kernel
theorem dX6_replace_20 : decode cX6_replace 20 = .ok (.iconst 0, 1) := by decide +kernel
theorem dX6_replace_21 : decode cX6_replace 21 = .ok (.ireturn, 1) := by decide +kernel
theorem dX6_replace_22 : decode cX6_replace 22 = .ok (.aload_n 0, 1) := by decide +kernel
theorem dX6_replace_23 : decode cX6_replace 23 = .ok (.getfield 56, 3) := by decide +kernel
theorem dX6_replace_26 : decode cX6_replace 26 = .ok (.iload_n 1, 1) := by decide +kernel
theorem dX6_replace_27 : decode cX6_replace 27 = .ok (.iaload, 1) := by decide +kernel
theorem dX6_replace_28 : decode cX6_replace 28 = .ok (.istore_n 2, 1) := by decide +kernel
theorem dX6_replace_29 : decode cX6_replace 29 = .ok (.aload_n 0, 1) := by decide +kernel
theorem dX6_replace_30 : decode cX6_replace 30 = .ok (.getfield 56, 3) := by decide +kernel
theorem dX6_replace_33 : decode cX6_replace 33 = .ok (.iload_n 1, 1) := by decide +kernel
theorem dX6_replace_34 : decode cX6_replace 34 = .ok (.iconst 0, 1) := by decide +kernel
theorem dX6_replace_35 : decode cX6_replace 35 = .ok (.iastore, 1) := by decide +kernel
theorem dX6_replace_36 : decode cX6_replace 36 = .ok (.iload_n 2, 1) := by decide +kernel
theorem dX6_replace_37 : decode cX6_replace 37 = .ok (.ireturn, 1) := by decide +kernel
theorem dX6_lamps_0 : decode cX6_lamps 0 = .ok (.aload_n 0, 1) := by decide +kernel
theorem dX6_lamps_1 : decode cX6_lamps 1 = .ok (.iconst 0, 1) := by decide +kernel
theorem dX6_lamps_2 : decode cX6_lamps 2 = .ok (.putfield 83, 3) := by decide +kernel
theorem dX6_lamps_5 : decode cX6_lamps 5 = .ok (.aload_n 0, 1) := by decide +kernel
theorem dX6_lamps_6 : decode cX6_lamps 6 = .ok (.getfield 159, 3) := by decide +kernel
theorem dX6_lamps_9 : decode cX6_lamps 9 = .ok (.ireturn, 1) := by decide +kernel
set_option maxRecDepth 20000 in
theorem ggX6_whereIs_X6_isLamp : GoodIn wsX6_whereIs wsX6_isLamp := goodIn_r _ [6, 7, 8, 9, 5, 10, 16, 17, 18, 19, 20, 21, 22, 23, 24, 25, 26, 27, 28, 29, 30, 31, 32, 33, 34, 35, 36, 37, 38, 39, 40, 41, 42, 43, 44, 45] (by decide +kernel) (by decide +kernel)
set_option maxRecDepth 20000 in
theorem gX6_whereIs_X6_isLamp : GoodIn wsX6_whereIs (wsV RX6 165 RX6 yX6_isLamp wsX6_isLamp) := goodIn_app (goodIn_of _ (by decide +kernel)) ggX6_whereIs_X6_isLamp
set_option maxRecDepth 20000 in
theorem ggX6_whereIs_X6_isFine : GoodIn wsX6_whereIs wsX6_isFine := goodIn_r _ [14, 15, 16, 17, 18, 19, 20, 21, 22, 23, 24, 25, 26, 27, 28, 29, 30, 31, 32, 33, 34, 35, 36, 37, 38, 39, 40, 41, 42, 43, 44, 45] (by decide +kernel) (by decide +kernel)
set_option maxRecDepth 20000 in
theorem gX6_whereIs_X6_isFine : GoodIn wsX6_whereIs (wsV RX6 94 RX6 yX6_isFine wsX6_isFine) := goodIn_app (goodIn_of _ (by decide +kernel)) ggX6_whereIs_X6_isFine
theorem dX6_whereIs_0 : decode cX6_whereIs 0 = .ok (.aload_n 0, 1) := by decide +kernel
theorem dX6_whereIs_1 : decode cX6_whereIs 1 = .ok (.aload_n 0, 1) := by decide +kernel
theorem dX6_whereIs_2 : decode cX6_whereIs 2 = .ok (.iload_n 1, 1) := by decide +kernel
theorem dX6_whereIs_3 : decode cX6_whereIs 3 = .ok (.invokevirtual 165, 3) := by decide +kernel
theorem dX6_whereIs_6 : decode cX6_whereIs 6 = .ok (.ifCond .eq 7, 3) := by decide +kernel
theorem dX6_whereIs_9 : decode cX6_whereIs 9 = .ok (.iconst 0, 1) := by decide +kernel
theorem dX6_whereIs_10 : decode cX6_whereIs 10 = .ok (.goto 4, 3) := by decide +kernel
theorem dX6_whereIs_13 : decode cX6_whereIs 13 = .ok (.iconst 1, 1) := by decide +kernel
theorem dX6_whereIs_14 : decode cX6_whereIs 14 = .ok (.invokevirtual 94, 3) := by decide +kernel
theorem dX6_whereIs_17 : decode cX6_whereIs 17 = .ok (.ifCond .eq 12, 3) := by decide +kernel
theorem dX6_whereIs_20 : decode cX6_whereIs 20 = .ok (.aload_n 0, 1) := by decide +kernel
theorem dX6_whereIs_21 : decode cX6_whereIs 21 = .ok (.getfield 44, 3) := by decide +kernel
theorem dX6_whereIs_24 : decode cX6_whereIs 24 = .ok (.iload_n 1, 1) := by decide +kernel
theorem dX6_whereIs_25 : decode cX6_whereIs 25 = .ok (.iaload, 1) := by decide +kernel
theorem dX6_whereIs_26 : decode cX6_whereIs 26 = .ok (.goto 4, 3) := by decide +kernel
theorem dX6_whereIs_29 : decode cX6_whereIs 29 = .ok (.iconst 0, 1) := by decide +kernel
theorem dX6_whereIs_30 : decode cX6_whereIs 30 = .ok (.ireturn, 1) := by decide +kernel
set_option maxRecDepth 20000 in
theorem ggX6_wear_X6_isLamp : GoodIn wsX6_wear wsX6_isLamp := goodIn_r _ [6, 7, 8, 9, 5, 10, 16, 17, 18, 19, 20, 21, 22, 23, 24, 25, 26, 27, 28, 29, 30, 31, 32, 33, 34, 35, 36, 37, 38, 39, 40, 41, 42, 43, 44, 45] (by decide +kernel) (by decide +kernel)
set_option maxRecDepth 20000 in
theorem gX6_wear_X6_isLamp : GoodIn wsX6_wear (wsV RX6 165 RX6 yX6_isLamp wsX6_isLamp) := goodIn_app (goodIn_of _ (by decide +kernel)) ggX6_wear_X6_isLamp
set_option maxRecDepth 20000 in
theorem ggX6_wear_X6_isFine : GoodIn wsX6_wear wsX6_isFine := goodIn_r _ [14, 15, 16, 17, 18, 19, 20, 21, 22, 23, 24, 25, 26, 27, 28, 29, 30, 31, 32, 33, 34, 35, 36, 37, 38, 39, 40, 41, 42, 43, 44, 45] (by decide +kernel) (by decide +kernel)
set_option maxRecDepth 20000 in
theorem gX6_wear_X6_isFine : GoodIn wsX6_wear (wsV RX6 94 RX6 yX6_isFine wsX6_isFine) := goodIn_app (goodIn_of _ (by decide +kernel)) ggX6_wear_X6_isFine
theorem dX6_wear_0 : decode cX6_wear 0 = .ok (.aload_n 0, 1) := by decide +kernel
theorem dX6_wear_1 : decode cX6_wear 1 = .ok (.aload_n 0, 1) := by decide +kernel
theorem dX6_wear_2 : decode cX6_wear 2 = .ok (.iload_n 1, 1) := by decide +kernel
theorem dX6_wear_3 : decode cX6_wear 3 = .ok (.invokevirtual 165, 3) := by decide +kernel
theorem dX6_wear_6 : decode cX6_wear 6 = .ok (.ifCond .eq 7, 3) := by decide +kernel
theorem dX6_wear_9 : decode cX6_wear 9 = .ok (.iconst 0, 1) := by decide +kernel
theorem dX6_wear_10 : decode cX6_wear 10 = .ok (.goto 4, 3) := by decide +kernel
theorem dX6_wear_13 : decode cX6_wear 13 = .ok (.iconst 1, 1) := by decide +kernel
theorem dX6_wear_14 : decode cX6_wear 14 = .ok (.invokevirtual 94, 3) := by decide +kernel
theorem dX6_wear_17 : decode cX6_wear 17 = .ok (.ifCond .eq 12, 3) := by decide +kernel
theorem dX6_wear_20 : decode cX6_wear 20 = .ok (.aload_n 0, 1) := by decide +kernel
theorem dX6_wear_21 : decode cX6_wear 21 = .ok (.getfield 56, 3) := by decide +kernel
theorem dX6_wear_24 : decode cX6_wear 24 = .ok (.iload_n 1, 1) := by decide +kernel
theorem dX6_wear_25 : decode cX6_wear 25 = .ok (.iaload, 1) := by decide +kernel
theorem dX6_wear_26 : decode cX6_wear 26 = .ok (.goto 4, 3) := by decide +kernel
theorem dX6_wear_29 : decode cX6_wear 29 = .ok (.iconst 0, 1) := by decide +kernel
theorem dX6_wear_30 : decode cX6_wear 30 = .ok (.ireturn, 1) := by decide +kernel
theorem dX6_lays_0 : decode cX6_lays 0 = .ok (.iconst 0, 1) := by decide +kernel
theorem dX6_lays_1 : decode cX6_lays 1 = .ok (.istore_n 3, 1) := by decide +kernel
theorem dX6_lays_2 : decode cX6_lays 2 = .ok (.iconst 0, 1) := by decide +kernel
theorem dX6_lays_3 : decode cX6_lays 3 = .ok (.istore 4, 2) := by decide +kernel
theorem dX6_lays_5 : decode cX6_lays 5 = .ok (.iconst 0, 1) := by decide +kernel
theorem dX6_lays_6 : decode cX6_lays 6 = .ok (.istore 5, 2) := by decide +kernel
theorem dX6_lays_8 : decode cX6_lays 8 = .ok (.iload 5, 2) := by decide +kernel
theorem dX6_lays_10 : decode cX6_lays 10 = .ok (.aload_n 0, 1) := by decide +kernel
theorem dX6_lays_11 : decode cX6_lays 11 = .ok (.getfield 159, 3) := by decide +kernel
theorem dX6_lays_14 : decode cX6_lays 14 = .ok (.if_icmp .ge 93, 3) := by decide +kernel
theorem dX6_lays_17 : decode cX6_lays 17 = .ok (.aload_n 0, 1) := by decide +kernel
theorem dX6_lays_18 : decode cX6_lays 18 = .ok (.getfield 44, 3) := by decide +kernel
theorem dX6_lays_21 : decode cX6_lays 21 = .ok (.iload 5, 2) := by decide +kernel
theorem dX6_lays_23 : decode cX6_lays 23 = .ok (.iaload, 1) := by decide +kernel
theorem dX6_lays_24 : decode cX6_lays 24 = .ok (.iload_n 1, 1) := by decide +kernel
theorem dX6_lays_25 : decode cX6_lays 25 = .ok (.if_icmp .ne 23, 3) := by decide +kernel
theorem dX6_lays_28 : decode cX6_lays 28 = .ok (.aload_n 0, 1) := by decide +kernel
theorem dX6_lays_29 : decode cX6_lays 29 = .ok (.getfield 47, 3) := by decide +kernel
theorem dX6_lays_32 : decode cX6_lays 32 = .ok (.iload 5, 2) := by decide +kernel
theorem dX6_lays_34 : decode cX6_lays 34 = .ok (.iaload, 1) := by decide +kernel
theorem dX6_lays_35 : decode cX6_lays 35 = .ok (.aload_n 0, 1) := by decide +kernel
theorem dX6_lays_36 : decode cX6_lays 36 = .ok (.getfield 20, 3) := by decide +kernel
theorem dX6_lays_39 : decode cX6_lays 39 = .ok (.iload_n 2, 1) := by decide +kernel
theorem dX6_lays_40 : decode cX6_lays 40 = .ok (.iaload, 1) := by decide +kernel
theorem dX6_lays_41 : decode cX6_lays 41 = .ok (.if_icmp .ne 7, 3) := by decide +kernel
theorem dX6_lays_44 : decode cX6_lays 44 = .ok (.iconst 1, 1) := by decide +kernel
theorem dX6_lays_45 : decode cX6_lays 45 = .ok (.goto 4, 3) := by decide +kernel
theorem dX6_lays_48 : decode cX6_lays 48 = .ok (.iconst 0, 1) := by decide +kernel
theorem dX6_lays_49 : decode cX6_lays 49 = .ok (.istore 6, 2) := by decide +kernel
theorem dX6_lays_51 : decode cX6_lays 51 = .ok (.iload_n 3, 1) := by decide +kernel
theorem dX6_lays_52 : decode cX6_lays 52 = .ok (.iload 6, 2) := by decide +kernel
theorem dX6_lays_54 : decode cX6_lays 54 = .ok (.ifCond .eq 10, 3) := by decide +kernel
theorem dX6_lays_57 : decode cX6_lays 57 = .ok (.iconst 1, 1) := by decide +kernel
theorem dX6_lays_58 : decode cX6_lays 58 = .ok (.iload 5, 2) := by decide +kernel
theorem dX6_lays_60 : decode cX6_lays 60 = .ok (.ishl, 1) := by decide +kernel
theorem dX6_lays_61 : decode cX6_lays 61 = .ok (.goto 4, 3) := by decide +kernel
theorem dX6_lays_64 : decode cX6_lays 64 = .ok (.iconst 0, 1) := by decide +kernel
theorem dX6_lays_65 : decode cX6_lays 65 = .ok (.ior, 1) := by decide +kernel
theorem dX6_lays_66 : decode cX6_lays 66 = .ok (.istore_n 3, 1) := by decide +kernel
theorem dX6_lays_67 : decode cX6_lays 67 = .ok (.iload 4, 2) := by decide +kernel
theorem dX6_lays_69 : decode cX6_lays 69 = .ok (.iload 6, 2) := by decide +kernel
theorem dX6_lays_71 : decode cX6_lays 71 = .ok (.ifCond .eq 26, 3) := by decide +kernel
theorem dX6_lays_74 : decode cX6_lays 74 = .ok (.aload_n 0, 1) := by decide +kernel
theorem dX6_lays_75 : decode cX6_lays 75 = .ok (.getfield 50, 3) := by decide +kernel
theorem dX6_lays_78 : decode cX6_lays 78 = .ok (.iload 5, 2) := by decide +kernel
theorem dX6_lays_80 : decode cX6_lays 80 = .ok (.iaload, 1) := by decide +kernel
theorem dX6_lays_81 : decode cX6_lays 81 = .ok (.aload_n 0, 1) := by decide +kernel
theorem dX6_lays_82 : decode cX6_lays 82 = .ok (.getfield 23, 3) := by decide +kernel
theorem dX6_lays_85 : decode cX6_lays 85 = .ok (.iload_n 2, 1) := by decide +kernel
theorem dX6_lays_86 : decode cX6_lays 86 = .ok (.iaload, 1) := by decide +kernel
theorem dX6_lays_87 : decode cX6_lays 87 = .ok (.if_icmp .ne 10, 3) := by decide +kernel
theorem dX6_lays_90 : decode cX6_lays 90 = .ok (.iconst 1, 1) := by decide +kernel
theorem dX6_lays_91 : decode cX6_lays 91 = .ok (.iload 5, 2) := by decide +kernel
theorem dX6_lays_93 : decode cX6_lays 93 = .ok (.ishl, 1) := by decide +kernel
theorem dX6_lays_94 : decode cX6_lays 94 = .ok (.goto 4, 3) := by decide +kernel
theorem dX6_lays_97 : decode cX6_lays 97 = .ok (.iconst 0, 1) := by decide +kernel
theorem dX6_lays_98 : decode cX6_lays 98 = .ok (.ior, 1) := by decide +kernel
theorem dX6_lays_99 : decode cX6_lays 99 = .ok (.istore 4, 2) := by decide +kernel
theorem dX6_lays_101 : decode cX6_lays 101 = .ok (.iinc 5 1, 3) := by decide +kernel
theorem dX6_lays_104 : decode cX6_lays 104 = .ok (.goto (-96), 3) := by decide +kernel
theorem dX6_lays_107 : decode cX6_lays 107 = .ok (.iload 4, 2) := by decide +kernel
theorem dX6_lays_109 : decode cX6_lays 109 = .ok (.ifCond .ne 7, 3) := by decide +kernel
theorem dX6_lays_112 : decode cX6_lays 112 = .ok (.iload_n 3, 1) := by decide +kernel
theorem dX6_lays_113 : decode cX6_lays 113 = .ok (.goto 5, 3) := by decide +kernel
theorem dX6_lays_116 : decode cX6_lays 116 = .ok (.iload 4, 2) := by decide +kernel
theorem dX6_lays_118 : decode cX6_lays 118 = .ok (.ireturn, 1) := by decide +kernel
set_option maxRecDepth 20000 in
theorem ggX6_laidOn_X6_isStage : GoodIn wsX6_laidOn wsX6_isStage := goodIn_r _ [4, 5, 6, 3, 7] (by decide +kernel) (by decide +kernel)
set_option maxRecDepth 20000 in
theorem gX6_laidOn_X6_isStage : GoodIn wsX6_laidOn (va_wsS RX6 162 yX6_isStage wsX6_isStage) := goodIn_app (goodIn_of _ (by decide +kernel)) ggX6_laidOn_X6_isStage
set_option maxRecDepth 20000 in
theorem ggX6_laidOn_X6_isChannel : GoodIn wsX6_laidOn wsX6_isChannel := goodIn_r _ [10, 5, 6, 3, 7] (by decide +kernel) (by decide +kernel)
set_option maxRecDepth 20000 in
theorem gX6_laidOn_X6_isChannel : GoodIn wsX6_laidOn (va_wsS RX6 108 yX6_isChannel wsX6_isChannel) := goodIn_app (goodIn_of _ (by decide +kernel)) ggX6_laidOn_X6_isChannel
set_option maxRecDepth 20000 in
theorem ggX6_laidOn_X6_isFine : GoodIn wsX6_laidOn wsX6_isFine := goodIn_r _ [14, 15, 26, 27, 28, 29, 30, 31, 32, 33, 34, 35, 36, 37, 38, 39, 40, 41, 42, 43, 44, 45, 46, 47, 48, 49, 50, 51, 52, 53, 54, 55] (by decide +kernel) (by decide +kernel)
set_option maxRecDepth 20000 in
theorem gX6_laidOn_X6_isFine : GoodIn wsX6_laidOn (wsV RX6 94 RX6 yX6_isFine wsX6_isFine) := goodIn_app (goodIn_of _ (by decide +kernel)) ggX6_laidOn_X6_isFine
set_option maxRecDepth 20000 in
theorem ggX6_laidOn_X6_lays : GoodIn wsX6_laidOn wsX6_lays := goodIn_r _ [19, 20, 21, 22, 23, 24, 25, 26, 27, 28, 29, 30, 31, 32, 33, 34, 35, 36, 37, 38, 39, 40, 41, 42, 43, 44, 45, 46, 47, 48, 49, 50, 51, 52, 53, 54, 55] (by decide +kernel) (by decide +kernel)
set_option maxRecDepth 20000 in
theorem gX6_laidOn_X6_lays : GoodIn wsX6_laidOn (wsV RX6 171 RX6 yX6_lays wsX6_lays) := goodIn_app (goodIn_of _ (by decide +kernel)) ggX6_laidOn_X6_lays
theorem dX6_laidOn_0 : decode cX6_laidOn 0 = .ok (.aload_n 0, 1) := by decide +kernel
theorem dX6_laidOn_1 : decode cX6_laidOn 1 = .ok (.iload_n 1, 1) := by decide +kernel
theorem dX6_laidOn_2 : decode cX6_laidOn 2 = .ok (.invokestatic 162, 3) := by decide +kernel
theorem dX6_laidOn_5 : decode cX6_laidOn 5 = .ok (.ifCond .eq 14, 3) := by decide +kernel
theorem dX6_laidOn_8 : decode cX6_laidOn 8 = .ok (.iload_n 2, 1) := by decide +kernel
theorem dX6_laidOn_9 : decode cX6_laidOn 9 = .ok (.invokestatic 108, 3) := by decide +kernel
theorem dX6_laidOn_12 : decode cX6_laidOn 12 = .ok (.ifCond .eq 7, 3) := by decide +kernel
theorem dX6_laidOn_15 : decode cX6_laidOn 15 = .ok (.iconst 0, 1) := by decide +kernel
theorem dX6_laidOn_16 : decode cX6_laidOn 16 = .ok (.goto 4, 3) := by decide +kernel
theorem dX6_laidOn_19 : decode cX6_laidOn 19 = .ok (.iconst 1, 1) := by decide +kernel
theorem dX6_laidOn_20 : decode cX6_laidOn 20 = .ok (.invokevirtual 94, 3) := by decide +kernel
theorem dX6_laidOn_23 : decode cX6_laidOn 23 = .ok (.ifCond .eq 12, 3) := by decide +kernel
theorem dX6_laidOn_26 : decode cX6_laidOn 26 = .ok (.aload_n 0, 1) := by decide +kernel
theorem dX6_laidOn_27 : decode cX6_laidOn 27 = .ok (.iload_n 1, 1) := by decide +kernel
theorem dX6_laidOn_28 : decode cX6_laidOn 28 = .ok (.iload_n 2, 1) := by decide +kernel
theorem dX6_laidOn_29 : decode cX6_laidOn 29 = .ok (.invokevirtual 171, 3) := by decide +kernel
theorem dX6_laidOn_32 : decode cX6_laidOn 32 = .ok (.goto 4, 3) := by decide +kernel
theorem dX6_laidOn_35 : decode cX6_laidOn 35 = .ok (.iconst 0, 1) := by decide +kernel
theorem dX6_laidOn_36 : decode cX6_laidOn 36 = .ok (.ireturn, 1) := by decide +kernel
set_option maxRecDepth 20000 in
theorem ggX6_lights_X6_level : GoodIn wsX6_lights wsX6_level := goodIn_r _ [6, 7, 8, 9, 10, 11, 12, 13, 5, 14, 15, 16, 17, 18, 19, 20, 21, 22, 23, 24, 25, 26, 27, 28, 29, 30, 31, 32, 33, 34, 35, 36, 37, 38, 39, 40, 41, 42, 43, 44, 45, 46, 47, 48, 49, 50, 51, 52, 53, 54, 55, 56, 57, 58, 59, 60] (by decide +kernel) (by decide +kernel)
set_option maxRecDepth 20000 in
theorem gX6_lights_X6_level : GoodIn wsX6_lights (wsV RX6 153 RX6 yX6_level wsX6_level) := goodIn_app (goodIn_of _ (by decide +kernel)) ggX6_lights_X6_level
theorem dX6_lights_0 : decode cX6_lights 0 = .ok (.iconst 0, 1) := by decide +kernel
theorem dX6_lights_1 : decode cX6_lights 1 = .ok (.istore_n 2, 1) := by decide +kernel
theorem dX6_lights_2 : decode cX6_lights 2 = .ok (.iload_n 2, 1) := by decide +kernel
theorem dX6_lights_3 : decode cX6_lights 3 = .ok (.bipush 10, 2) := by decide +kernel
theorem dX6_lights_5 : decode cX6_lights 5 = .ok (.if_icmp .ge 21, 3) := by decide +kernel
theorem dX6_lights_8 : decode cX6_lights 8 = .ok (.aload_n 0, 1) := by decide +kernel
theorem dX6_lights_9 : decode cX6_lights 9 = .ok (.getfield 77, 3) := by decide +kernel
theorem dX6_lights_12 : decode cX6_lights 12 = .ok (.iload_n 2, 1) := by decide +kernel
theorem dX6_lights_13 : decode cX6_lights 13 = .ok (.aload_n 0, 1) := by decide +kernel
theorem dX6_lights_14 : decode cX6_lights 14 = .ok (.iload_n 2, 1) := by decide +kernel
theorem dX6_lights_15 : decode cX6_lights 15 = .ok (.iload_n 1, 1) := by decide +kernel
theorem dX6_lights_16 : decode cX6_lights 16 = .ok (.invokevirtual 153, 3) := by decide +kernel
theorem dX6_lights_19 : decode cX6_lights 19 = .ok (.iastore, 1) := by decide +kernel
theorem dX6_lights_20 : decode cX6_lights 20 = .ok (.iinc 2 1, 3) := by decide +kernel
theorem dX6_lights_23 : decode cX6_lights 23 = .ok (.goto (-21), 3) := by decide +kernel
theorem dX6_lights_26 : decode cX6_lights 26 = .ok (.return_, 1) := by decide +kernel
set_option maxRecDepth 20000 in
theorem ggX6_laysAll_X6_lays : GoodIn wsX6_laysAll wsX6_lays := goodIn_r _ [6, 7, 8, 9, 10, 11, 12, 13, 14, 15, 16, 17, 18, 19, 20, 21, 22, 23, 24, 25, 26, 27, 28, 29, 30, 31, 32, 33, 34, 35, 36, 37, 38, 39, 40, 41, 42] (by decide +kernel) (by decide +kernel)
set_option maxRecDepth 20000 in
theorem gX6_laysAll_X6_lays : GoodIn wsX6_laysAll (wsV RX6 171 RX6 yX6_lays wsX6_lays) := goodIn_app (goodIn_of _ (by decide +kernel)) ggX6_laysAll_X6_lays
theorem dX6_laysAll_0 : decode cX6_laysAll 0 = .ok (.iconst 0, 1) := by decide +kernel
theorem dX6_laysAll_1 : decode cX6_laysAll 1 = .ok (.istore_n 2, 1) := by decide +kernel
theorem dX6_laysAll_2 : decode cX6_laysAll 2 = .ok (.iload_n 2, 1) := by decide +kernel
theorem dX6_laysAll_3 : decode cX6_laysAll 3 = .ok (.bipush 10, 2) := by decide +kernel
theorem dX6_laysAll_5 : decode cX6_laysAll 5 = .ok (.if_icmp .ge 21, 3) := by decide +kernel
theorem dX6_laysAll_8 : decode cX6_laysAll 8 = .ok (.aload_n 0, 1) := by decide +kernel
theorem dX6_laysAll_9 : decode cX6_laysAll 9 = .ok (.getfield 74, 3) := by decide +kernel
theorem dX6_laysAll_12 : decode cX6_laysAll 12 = .ok (.iload_n 2, 1) := by decide +kernel
theorem dX6_laysAll_13 : decode cX6_laysAll 13 = .ok (.aload_n 0, 1) := by decide +kernel
theorem dX6_laysAll_14 : decode cX6_laysAll 14 = .ok (.iload_n 1, 1) := by decide +kernel
theorem dX6_laysAll_15 : decode cX6_laysAll 15 = .ok (.iload_n 2, 1) := by decide +kernel
theorem dX6_laysAll_16 : decode cX6_laysAll 16 = .ok (.invokevirtual 171, 3) := by decide +kernel
theorem dX6_laysAll_19 : decode cX6_laysAll 19 = .ok (.iastore, 1) := by decide +kernel
theorem dX6_laysAll_20 : decode cX6_laysAll 20 = .ok (.iinc 2 1, 3) := by decide +kernel
theorem dX6_laysAll_23 : decode cX6_laysAll 23 = .ok (.goto (-21), 3) := by decide +kernel
theorem dX6_laysAll_26 : decode cX6_laysAll 26 = .ok (.return_, 1) := by decide +kernel
theorem dX6_lampNow_0 : decode cX6_lampNow 0 = .ok (.iconst 0, 1) := by decide +kernel
theorem dX6_lampNow_1 : decode cX6_lampNow 1 = .ok (.istore_n 2, 1) := by decide +kernel
theorem dX6_lampNow_2 : decode cX6_lampNow 2 = .ok (.iconst 0, 1) := by decide +kernel
theorem dX6_lampNow_3 : decode cX6_lampNow 3 = .ok (.istore_n 3, 1) := by decide +kernel
theorem dX6_lampNow_4 : decode cX6_lampNow 4 = .ok (.iload_n 3, 1) := by decide +kernel
theorem dX6_lampNow_5 : decode cX6_lampNow 5 = .ok (.bipush 10, 2) := by decide +kernel
theorem dX6_lampNow_7 : decode cX6_lampNow 7 = .ok (.if_icmp .ge 68, 3) := by decide +kernel
theorem dX6_lampNow_10 : decode cX6_lampNow 10 = .ok (.aload_n 0, 1) := by decide +kernel
theorem dX6_lampNow_11 : decode cX6_lampNow 11 = .ok (.getfield 56, 3) := by decide +kernel
theorem dX6_lampNow_14 : decode cX6_lampNow 14 = .ok (.iload_n 1, 1) := by decide +kernel
theorem dX6_lampNow_15 : decode cX6_lampNow 15 = .ok (.iaload, 1) := by decide +kernel
theorem dX6_lampNow_16 : decode cX6_lampNow 16 = .ok (.sipush 300, 3) := by decide +kernel
theorem dX6_lampNow_19 : decode cX6_lampNow 19 = .ok (.if_icmp .ge 56, 3) := by decide +kernel
theorem dX6_lampNow_22 : decode cX6_lampNow 22 = .ok (.aload_n 0, 1) := by decide +kernel
theorem dX6_lampNow_23 : decode cX6_lampNow 23 = .ok (.getfield 77, 3) := by decide +kernel
theorem dX6_lampNow_26 : decode cX6_lampNow 26 = .ok (.iload_n 3, 1) := by decide +kernel
theorem dX6_lampNow_27 : decode cX6_lampNow 27 = .ok (.iaload, 1) := by decide +kernel
theorem dX6_lampNow_28 : decode cX6_lampNow 28 = .ok (.iload_n 2, 1) := by decide +kernel
theorem dX6_lampNow_29 : decode cX6_lampNow 29 = .ok (.if_icmp .le 21, 3) := by decide +kernel
theorem dX6_lampNow_32 : decode cX6_lampNow 32 = .ok (.aload_n 0, 1) := by decide +kernel
theorem dX6_lampNow_33 : decode cX6_lampNow 33 = .ok (.getfield 74, 3) := by decide +kernel
theorem dX6_lampNow_36 : decode cX6_lampNow 36 = .ok (.iload_n 3, 1) := by decide +kernel
theorem dX6_lampNow_37 : decode cX6_lampNow 37 = .ok (.iaload, 1) := by decide +kernel
theorem dX6_lampNow_38 : decode cX6_lampNow 38 = .ok (.iload_n 1, 1) := by decide +kernel
theorem dX6_lampNow_39 : decode cX6_lampNow 39 = .ok (.ishr, 1) := by decide +kernel
theorem dX6_lampNow_40 : decode cX6_lampNow 40 = .ok (.iconst 1, 1) := by decide +kernel
theorem dX6_lampNow_41 : decode cX6_lampNow 41 = .ok (.iand, 1) := by decide +kernel
theorem dX6_lampNow_42 : decode cX6_lampNow 42 = .ok (.iconst 1, 1) := by decide +kernel
theorem dX6_lampNow_43 : decode cX6_lampNow 43 = .ok (.if_icmp .ne 7, 3) := by decide +kernel
theorem dX6_lampNow_46 : decode cX6_lampNow 46 = .ok (.iconst 1, 1) := by decide +kernel
theorem dX6_lampNow_47 : decode cX6_lampNow 47 = .ok (.goto 4, 3) := by decide +kernel
theorem dX6_lampNow_50 : decode cX6_lampNow 50 = .ok (.iconst 0, 1) := by decide +kernel
theorem dX6_lampNow_51 : decode cX6_lampNow 51 = .ok (.istore 4, 2) := by decide +kernel
theorem dX6_lampNow_53 : decode cX6_lampNow 53 = .ok (.iload 4, 2) := by decide +kernel
theorem dX6_lampNow_55 : decode cX6_lampNow 55 = .ok (.ifCond .eq 12, 3) := by decide +kernel
theorem dX6_lampNow_58 : decode cX6_lampNow 58 = .ok (.aload_n 0, 1) := by decide +kernel
theorem dX6_lampNow_59 : decode cX6_lampNow 59 = .ok (.getfield 77, 3) := by decide +kernel
theorem dX6_lampNow_62 : decode cX6_lampNow 62 = .ok (.iload_n 3, 1) := by decide +kernel
theorem dX6_lampNow_63 : decode cX6_lampNow 63 = .ok (.iaload, 1) := by decide +kernel
theorem dX6_lampNow_64 : decode cX6_lampNow 64 = .ok (.goto 4, 3) := by decide +kernel
theorem dX6_lampNow_67 : decode cX6_lampNow 67 = .ok (.iload_n 2, 1) := by decide +kernel
theorem dX6_lampNow_68 : decode cX6_lampNow 68 = .ok (.istore_n 2, 1) := by decide +kernel
theorem dX6_lampNow_69 : decode cX6_lampNow 69 = .ok (.iinc 3 1, 3) := by decide +kernel
theorem dX6_lampNow_72 : decode cX6_lampNow 72 = .ok (.goto (-68), 3) := by decide +kernel
theorem dX6_lampNow_75 : decode cX6_lampNow 75 = .ok (.iload_n 2, 1) := by decide +kernel
theorem dX6_lampNow_76 : decode cX6_lampNow 76 = .ok (.ireturn, 1) := by decide +kernel
set_option maxRecDepth 20000 in
theorem ggX6_lightNow_X6_lampNow : GoodIn wsX6_lightNow wsX6_lampNow := goodIn_r _ [9, 10, 11, 12, 13, 14, 15, 16, 17, 18, 19, 20, 21, 22, 23, 24, 25, 26, 27, 28, 29, 30, 31, 32, 33, 34, 35, 36, 37, 38, 39, 40, 41, 42] (by decide +kernel) (by decide +kernel)
set_option maxRecDepth 20000 in
theorem gX6_lightNow_X6_lampNow : GoodIn wsX6_lightNow (wsV RX6 174 RX6 yX6_lampNow wsX6_lampNow) := goodIn_app (goodIn_of _ (by decide +kernel)) ggX6_lightNow_X6_lampNow
theorem dX6_lightNow_0 : decode cX6_lightNow 0 = .ok (.iconst 0, 1) := by decide +kernel
theorem dX6_lightNow_1 : decode cX6_lightNow 1 = .ok (.istore_n 3, 1) := by decide +kernel
theorem dX6_lightNow_2 : decode cX6_lightNow 2 = .ok (.iconst 0, 1) := by decide +kernel
theorem dX6_lightNow_3 : decode cX6_lightNow 3 = .ok (.istore 4, 2) := by decide +kernel
theorem dX6_lightNow_5 : decode cX6_lightNow 5 = .ok (.iload 4, 2) := by decide +kernel
theorem dX6_lightNow_7 : decode cX6_lightNow 7 = .ok (.aload_n 0, 1) := by decide +kernel
theorem dX6_lightNow_8 : decode cX6_lightNow 8 = .ok (.getfield 159, 3) := by decide +kernel
theorem dX6_lightNow_11 : decode cX6_lightNow 11 = .ok (.if_icmp .ge 55, 3) := by decide +kernel
theorem dX6_lightNow_14 : decode cX6_lightNow 14 = .ok (.iload_n 3, 1) := by decide +kernel
theorem dX6_lightNow_15 : decode cX6_lightNow 15 = .ok (.aload_n 0, 1) := by decide +kernel
theorem dX6_lightNow_16 : decode cX6_lightNow 16 = .ok (.getfield 44, 3) := by decide +kernel
theorem dX6_lightNow_19 : decode cX6_lightNow 19 = .ok (.iload 4, 2) := by decide +kernel
theorem dX6_lightNow_21 : decode cX6_lightNow 21 = .ok (.iaload, 1) := by decide +kernel
theorem dX6_lightNow_22 : decode cX6_lightNow 22 = .ok (.iload_n 1, 1) := by decide +kernel
theorem dX6_lightNow_23 : decode cX6_lightNow 23 = .ok (.if_icmp .ne 34, 3) := by decide +kernel
theorem dX6_lightNow_26 : decode cX6_lightNow 26 = .ok (.aload_n 0, 1) := by decide +kernel
theorem dX6_lightNow_27 : decode cX6_lightNow 27 = .ok (.getfield 47, 3) := by decide +kernel
theorem dX6_lightNow_30 : decode cX6_lightNow 30 = .ok (.iload 4, 2) := by decide +kernel
theorem dX6_lightNow_32 : decode cX6_lightNow 32 = .ok (.iaload, 1) := by decide +kernel
theorem dX6_lightNow_33 : decode cX6_lightNow 33 = .ok (.iload_n 2, 1) := by decide +kernel
theorem dX6_lightNow_34 : decode cX6_lightNow 34 = .ok (.if_icmp .ne 23, 3) := by decide +kernel
theorem dX6_lightNow_37 : decode cX6_lightNow 37 = .ok (.aload_n 0, 1) := by decide +kernel
theorem dX6_lightNow_38 : decode cX6_lightNow 38 = .ok (.iload 4, 2) := by decide +kernel
theorem dX6_lightNow_40 : decode cX6_lightNow 40 = .ok (.invokevirtual 174, 3) := by decide +kernel
theorem dX6_lightNow_43 : decode cX6_lightNow 43 = .ok (.aload_n 0, 1) := by decide +kernel
theorem dX6_lightNow_44 : decode cX6_lightNow 44 = .ok (.getfield 53, 3) := by decide +kernel
theorem dX6_lightNow_47 : decode cX6_lightNow 47 = .ok (.iload 4, 2) := by decide +kernel
theorem dX6_lightNow_49 : decode cX6_lightNow 49 = .ok (.iaload, 1) := by decide +kernel
theorem dX6_lightNow_50 : decode cX6_lightNow 50 = .ok (.imul, 1) := by decide +kernel
theorem dX6_lightNow_51 : decode cX6_lightNow 51 = .ok (.bipush 100, 2) := by decide +kernel
theorem dX6_lightNow_53 : decode cX6_lightNow 53 = .ok (.idiv, 1) := by decide +kernel
theorem dX6_lightNow_54 : decode cX6_lightNow 54 = .ok (.goto 4, 3) := by decide +kernel
theorem dX6_lightNow_57 : decode cX6_lightNow 57 = .ok (.iconst 0, 1) := by decide +kernel
theorem dX6_lightNow_58 : decode cX6_lightNow 58 = .ok (.iadd, 1) := by decide +kernel
theorem dX6_lightNow_59 : decode cX6_lightNow 59 = .ok (.istore_n 3, 1) := by decide +kernel
theorem dX6_lightNow_60 : decode cX6_lightNow 60 = .ok (.iinc 4 1, 3) := by decide +kernel
theorem dX6_lightNow_63 : decode cX6_lightNow 63 = .ok (.goto (-58), 3) := by decide +kernel
theorem dX6_lightNow_66 : decode cX6_lightNow 66 = .ok (.iload_n 3, 1) := by decide +kernel
theorem dX6_lightNow_67 : decode cX6_lightNow 67 = .ok (.bipush 100, 2) := by decide +kernel
theorem dX6_lightNow_69 : decode cX6_lightNow 69 = .ok (.if_icmp .le 8, 3) := by decide +kernel
theorem dX6_lightNow_72 : decode cX6_lightNow 72 = .ok (.bipush 100, 2) := by decide +kernel
theorem dX6_lightNow_74 : decode cX6_lightNow 74 = .ok (.goto 4, 3) := by decide +kernel
theorem dX6_lightNow_77 : decode cX6_lightNow 77 = .ok (.iload_n 3, 1) := by decide +kernel
theorem dX6_lightNow_78 : decode cX6_lightNow 78 = .ok (.ireturn, 1) := by decide +kernel
set_option maxRecDepth 20000 in
theorem ggX6_lampLevel_X6_isLamp : GoodIn wsX6_lampLevel wsX6_isLamp := goodIn_r _ [6, 7, 8, 9, 5, 10, 85, 86, 87, 88, 89, 90, 91, 92, 93, 94, 95, 96, 97, 98, 99, 100, 101, 102, 103, 104, 105, 106, 107, 108, 109, 110, 111, 112, 113, 114] (by decide +kernel) (by decide +kernel)
set_option maxRecDepth 20000 in
theorem gX6_lampLevel_X6_isLamp : GoodIn wsX6_lampLevel (wsV RX6 165 RX6 yX6_isLamp wsX6_isLamp) := goodIn_app (goodIn_of _ (by decide +kernel)) ggX6_lampLevel_X6_isLamp
set_option maxRecDepth 20000 in
theorem ggX6_lampLevel_X6_isTime : GoodIn wsX6_lampLevel wsX6_isTime := goodIn_r _ [13, 8, 9, 5, 10] (by decide +kernel) (by decide +kernel)
set_option maxRecDepth 20000 in
theorem gX6_lampLevel_X6_isTime : GoodIn wsX6_lampLevel (va_wsS RX6 147 yX6_isTime wsX6_isTime) := goodIn_app (goodIn_of _ (by decide +kernel)) ggX6_lampLevel_X6_isTime
set_option maxRecDepth 20000 in
theorem ggX6_lampLevel_X6_isFine : GoodIn wsX6_lampLevel wsX6_isFine := goodIn_r _ [17, 18, 85, 86, 87, 88, 89, 90, 91, 92, 93, 94, 95, 96, 97, 98, 99, 100, 101, 102, 103, 104, 105, 106, 107, 108, 109, 110, 111, 112, 113, 114] (by decide +kernel) (by decide +kernel)
set_option maxRecDepth 20000 in
theorem gX6_lampLevel_X6_isFine : GoodIn wsX6_lampLevel (wsV RX6 94 RX6 yX6_isFine wsX6_isFine) := goodIn_app (goodIn_of _ (by decide +kernel)) ggX6_lampLevel_X6_isFine
set_option maxRecDepth 20000 in
theorem ggX6_lampLevel_X6_plays : GoodIn wsX6_lampLevel wsX6_plays := goodIn_r _ [22, 23, 24, 25, 26, 27, 28, 29, 30, 31, 32, 33, 5, 34, 35, 36, 37, 38, 39, 40, 41, 42, 43, 44, 45, 46, 47, 48, 85, 86, 87, 88, 89, 90, 91, 92, 93, 94, 95, 96, 97, 98, 99, 100, 101, 102, 103, 104, 105, 106, 107, 108, 109, 110, 111, 112, 113, 114] (by decide +kernel) (by decide +kernel)
set_option maxRecDepth 20000 in
theorem gX6_lampLevel_X6_plays : GoodIn wsX6_lampLevel (wsV RX6 150 RX6 yX6_plays wsX6_plays) := goodIn_app (goodIn_of _ (by decide +kernel)) ggX6_lampLevel_X6_plays
set_option maxRecDepth 20000 in
theorem ggX6_lampLevel_X6_laysAll : GoodIn wsX6_lampLevel wsX6_laysAll := goodIn_r _ [52, 53, 54, 55, 56, 5, 57, 7, 1, 58, 59, 60, 61, 85, 86, 87, 88, 89, 90, 91, 92, 93, 94, 95, 96, 97, 98, 99, 100, 101, 102, 103, 104, 105, 106, 107, 108, 109, 110, 111, 112, 113, 114] (by decide +kernel) (by decide +kernel)
set_option maxRecDepth 20000 in
theorem gX6_lampLevel_X6_laysAll : GoodIn wsX6_lampLevel (wsV RX6 177 RX6 yX6_laysAll wsX6_laysAll) := goodIn_app (goodIn_of _ (by decide +kernel)) ggX6_lampLevel_X6_laysAll
set_option maxRecDepth 20000 in
theorem ggX6_lampLevel_X6_lights : GoodIn wsX6_lampLevel wsX6_lights := goodIn_r _ [65, 66, 67, 68, 69, 5, 70, 27, 29, 30, 71, 45, 46, 47, 48, 24, 39, 40, 72, 73, 74, 75, 76, 41, 42, 43, 44, 25, 77, 78, 79, 85, 86, 87, 88, 89, 90, 91, 92, 93, 94, 95, 96, 97, 98, 99, 100, 101, 102, 103, 104, 105, 106, 107, 108, 109, 110, 111, 112, 113, 114] (by decide +kernel) (by decide +kernel)
set_option maxRecDepth 20000 in
theorem gX6_lampLevel_X6_lights : GoodIn wsX6_lampLevel (wsV RX6 181 RX6 yX6_lights wsX6_lights) := goodIn_app (goodIn_of _ (by decide +kernel)) ggX6_lampLevel_X6_lights
set_option maxRecDepth 20000 in
theorem ggX6_lampLevel_X6_lampNow : GoodIn wsX6_lampLevel wsX6_lampNow := goodIn_r _ [83, 84, 66, 53, 85, 86, 87, 88, 89, 90, 91, 92, 93, 94, 95, 96, 97, 98, 99, 100, 101, 102, 103, 104, 105, 106, 107, 108, 109, 110, 111, 112, 113, 114] (by decide +kernel) (by decide +kernel)
set_option maxRecDepth 20000 in
theorem gX6_lampLevel_X6_lampNow : GoodIn wsX6_lampLevel (wsV RX6 174 RX6 yX6_lampNow wsX6_lampNow) := goodIn_app (goodIn_of _ (by decide +kernel)) ggX6_lampLevel_X6_lampNow
theorem dX6_lampLevel_0 : decode cX6_lampLevel 0 = .ok (.aload_n 0, 1) := by decide +kernel
theorem dX6_lampLevel_1 : decode cX6_lampLevel 1 = .ok (.iload_n 1, 1) := by decide +kernel
theorem dX6_lampLevel_2 : decode cX6_lampLevel 2 = .ok (.invokevirtual 165, 3) := by decide +kernel
theorem dX6_lampLevel_5 : decode cX6_lampLevel 5 = .ok (.istore_n 3, 1) := by decide +kernel
theorem dX6_lampLevel_6 : decode cX6_lampLevel 6 = .ok (.aload_n 0, 1) := by decide +kernel
theorem dX6_lampLevel_7 : decode cX6_lampLevel 7 = .ok (.iload_n 3, 1) := by decide +kernel
theorem dX6_lampLevel_8 : decode cX6_lampLevel 8 = .ok (.ifCond .ne 7, 3) := by decide +kernel
theorem dX6_lampLevel_11 : decode cX6_lampLevel 11 = .ok (.iconst 1, 1) := by decide +kernel
theorem dX6_lampLevel_12 : decode cX6_lampLevel 12 = .ok (.goto 15, 3) := by decide +kernel
theorem dX6_lampLevel_15 : decode cX6_lampLevel 15 = .ok (.iload_n 2, 1) := by decide +kernel
theorem dX6_lampLevel_16 : decode cX6_lampLevel 16 = .ok (.invokestatic 147, 3) := by decide +kernel
theorem dX6_lampLevel_19 : decode cX6_lampLevel 19 = .ok (.ifCond .ne 7, 3) := by decide +kernel
theorem dX6_lampLevel_22 : decode cX6_lampLevel 22 = .ok (.iconst 2, 1) := by decide +kernel
theorem dX6_lampLevel_23 : decode cX6_lampLevel 23 = .ok (.goto 4, 3) := by decide +kernel
theorem dX6_lampLevel_26 : decode cX6_lampLevel 26 = .ok (.iconst 0, 1) := by decide +kernel
theorem dX6_lampLevel_27 : decode cX6_lampLevel 27 = .ok (.invokevirtual 94, 3) := by decide +kernel
theorem dX6_lampLevel_30 : decode cX6_lampLevel 30 = .ok (.ifCond .ne 5, 3) := by decide +kernel
theorem dX6_lampLevel_33 : decode cX6_lampLevel 33 = .ok (.iconst 0, 1) := by decide +kernel
theorem dX6_lampLevel_34 : decode cX6_lampLevel 34 = .ok (.ireturn, 1) := by decide +kernel
theorem dX6_lampLevel_35 : decode cX6_lampLevel 35 = .ok (.aload_n 0, 1) := by decide +kernel
theorem dX6_lampLevel_36 : decode cX6_lampLevel 36 = .ok (.invokevirtual 150, 3) := by decide +kernel
theorem dX6_lampLevel_39 : decode cX6_lampLevel 39 = .ok (.aload_n 0, 1) := by decide +kernel
theorem dX6_lampLevel_40 : decode cX6_lampLevel 40 = .ok (.aload_n 0, 1) := by decide +kernel
theorem dX6_lampLevel_41 : decode cX6_lampLevel 41 = .ok (.getfield 44, 3) := by decide +kernel
theorem dX6_lampLevel_44 : decode cX6_lampLevel 44 = .ok (.iload_n 1, 1) := by decide +kernel
theorem dX6_lampLevel_45 : decode cX6_lampLevel 45 = .ok (.iaload, 1) := by decide +kernel
theorem dX6_lampLevel_46 : decode cX6_lampLevel 46 = .ok (.invokevirtual 177, 3) := by decide +kernel
theorem dX6_lampLevel_49 : decode cX6_lampLevel 49 = .ok (.aload_n 0, 1) := by decide +kernel
theorem dX6_lampLevel_50 : decode cX6_lampLevel 50 = .ok (.iload_n 2, 1) := by decide +kernel
theorem dX6_lampLevel_51 : decode cX6_lampLevel 51 = .ok (.invokevirtual 181, 3) := by decide +kernel
theorem dX6_lampLevel_54 : decode cX6_lampLevel 54 = .ok (.aload_n 0, 1) := by decide +kernel
theorem dX6_lampLevel_55 : decode cX6_lampLevel 55 = .ok (.iload_n 1, 1) := by decide +kernel
theorem dX6_lampLevel_56 : decode cX6_lampLevel 56 = .ok (.invokevirtual 174, 3) := by decide +kernel
theorem dX6_lampLevel_59 : decode cX6_lampLevel 59 = .ok (.ireturn, 1) := by decide +kernel
set_option maxRecDepth 20000 in
theorem ggX6_light_X6_isStage : GoodIn wsX6_light wsX6_isStage := goodIn_r _ [4, 5, 6, 3, 7] (by decide +kernel) (by decide +kernel)
set_option maxRecDepth 20000 in
theorem gX6_light_X6_isStage : GoodIn wsX6_light (va_wsS RX6 162 yX6_isStage wsX6_isStage) := goodIn_app (goodIn_of _ (by decide +kernel)) ggX6_light_X6_isStage
set_option maxRecDepth 20000 in
theorem ggX6_light_X6_isArea : GoodIn wsX6_light wsX6_isArea := goodIn_r _ [10, 5, 6, 3, 7] (by decide +kernel) (by decide +kernel)
set_option maxRecDepth 20000 in
theorem gX6_light_X6_isArea : GoodIn wsX6_light (va_wsS RX6 101 yX6_isArea wsX6_isArea) := goodIn_app (goodIn_of _ (by decide +kernel)) ggX6_light_X6_isArea
set_option maxRecDepth 20000 in
theorem ggX6_light_X6_isTime : GoodIn wsX6_light wsX6_isTime := goodIn_r _ [13, 5, 6, 3, 7] (by decide +kernel) (by decide +kernel)
set_option maxRecDepth 20000 in
theorem gX6_light_X6_isTime : GoodIn wsX6_light (va_wsS RX6 147 yX6_isTime wsX6_isTime) := goodIn_app (goodIn_of _ (by decide +kernel)) ggX6_light_X6_isTime
set_option maxRecDepth 20000 in
theorem ggX6_light_X6_isFine : GoodIn wsX6_light wsX6_isFine := goodIn_r _ [17, 18, 92, 93, 94, 95, 96, 97, 98, 99, 100, 101, 102, 103, 104, 105, 106, 107, 108, 109, 110, 111, 112, 113, 114, 115, 116, 117, 118, 119, 120, 121] (by decide +kernel) (by decide +kernel)
set_option maxRecDepth 20000 in
theorem gX6_light_X6_isFine : GoodIn wsX6_light (wsV RX6 94 RX6 yX6_isFine wsX6_isFine) := goodIn_app (goodIn_of _ (by decide +kernel)) ggX6_light_X6_isFine
set_option maxRecDepth 20000 in
theorem ggX6_light_X6_plays : GoodIn wsX6_light wsX6_plays := goodIn_r _ [22, 23, 24, 25, 26, 27, 28, 29, 30, 31, 32, 33, 3, 34, 35, 36, 37, 38, 39, 40, 41, 42, 43, 44, 45, 46, 47, 48, 92, 93, 94, 95, 96, 97, 98, 99, 100, 101, 102, 103, 104, 105, 106, 107, 108, 109, 110, 111, 112, 113, 114, 115, 116, 117, 118, 119, 120, 121] (by decide +kernel) (by decide +kernel)
set_option maxRecDepth 20000 in
theorem gX6_light_X6_plays : GoodIn wsX6_light (wsV RX6 150 RX6 yX6_plays wsX6_plays) := goodIn_app (goodIn_of _ (by decide +kernel)) ggX6_light_X6_plays
set_option maxRecDepth 20000 in
theorem ggX6_light_X6_laysAll : GoodIn wsX6_light wsX6_laysAll := goodIn_r _ [52, 53, 54, 55, 56, 3, 57, 58, 59, 60, 61, 62, 63, 92, 93, 94, 95, 96, 97, 98, 99, 100, 101, 102, 103, 104, 105, 106, 107, 108, 109, 110, 111, 112, 113, 114, 115, 116, 117, 118, 119, 120, 121] (by decide +kernel) (by decide +kernel)
set_option maxRecDepth 20000 in
theorem gX6_light_X6_laysAll : GoodIn wsX6_light (wsV RX6 177 RX6 yX6_laysAll wsX6_laysAll) := goodIn_app (goodIn_of _ (by decide +kernel)) ggX6_light_X6_laysAll
set_option maxRecDepth 20000 in
theorem ggX6_light_X6_lights : GoodIn wsX6_light wsX6_lights := goodIn_r _ [67, 68, 69, 70, 71, 3, 72, 27, 29, 30, 73, 45, 46, 47, 48, 24, 39, 40, 74, 75, 76, 77, 78, 41, 42, 43, 44, 25, 79, 80, 81, 92, 93, 94, 95, 96, 97, 98, 99, 100, 101, 102, 103, 104, 105, 106, 107, 108, 109, 110, 111, 112, 113, 114, 115, 116, 117, 118, 119, 120, 121] (by decide +kernel) (by decide +kernel)
set_option maxRecDepth 20000 in
theorem gX6_light_X6_lights : GoodIn wsX6_light (wsV RX6 181 RX6 yX6_lights wsX6_lights) := goodIn_app (goodIn_of _ (by decide +kernel)) ggX6_light_X6_lights
set_option maxRecDepth 20000 in
theorem ggX6_light_X6_lightNow : GoodIn wsX6_light wsX6_lightNow := goodIn_r _ [85, 58, 59, 60, 86, 87, 88, 89, 3, 90, 91, 68, 53, 92, 93, 94, 95, 96, 97, 98, 99, 100, 101, 102, 103, 104, 105, 106, 107, 108, 109, 110, 111, 112, 113, 114, 115, 116, 117, 118, 119, 120, 121] (by decide +kernel) (by decide +kernel)
set_option maxRecDepth 20000 in
theorem gX6_light_X6_lightNow : GoodIn wsX6_light (wsV RX6 184 RX6 yX6_lightNow wsX6_lightNow) := goodIn_app (goodIn_of _ (by decide +kernel)) ggX6_light_X6_lightNow
theorem dX6_light_0 : decode cX6_light 0 = .ok (.iload_n 1, 1) := by decide +kernel
theorem dX6_light_1 : decode cX6_light 1 = .ok (.invokestatic 162, 3) := by decide +kernel
theorem dX6_light_4 : decode cX6_light 4 = .ok (.ifCond .eq 14, 3) := by decide +kernel
theorem dX6_light_7 : decode cX6_light 7 = .ok (.iload_n 2, 1) := by decide +kernel
theorem dX6_light_8 : decode cX6_light 8 = .ok (.invokestatic 101, 3) := by decide +kernel
theorem dX6_light_11 : decode cX6_light 11 = .ok (.ifCond .eq 7, 3) := by decide +kernel
theorem dX6_light_14 : decode cX6_light 14 = .ok (.iconst 1, 1) := by decide +kernel
theorem dX6_light_15 : decode cX6_light 15 = .ok (.goto 4, 3) := by decide +kernel
theorem dX6_light_18 : decode cX6_light 18 = .ok (.iconst 0, 1) := by decide +kernel
theorem dX6_light_19 : decode cX6_light 19 = .ok (.istore 4, 2) := by decide +kernel
theorem dX6_light_21 : decode cX6_light 21 = .ok (.aload_n 0, 1) := by decide +kernel
theorem dX6_light_22 : decode cX6_light 22 = .ok (.iload 4, 2) := by decide +kernel
theorem dX6_light_24 : decode cX6_light 24 = .ok (.ifCond .ne 7, 3) := by decide +kernel
theorem dX6_light_27 : decode cX6_light 27 = .ok (.iconst 1, 1) := by decide +kernel
theorem dX6_light_28 : decode cX6_light 28 = .ok (.goto 15, 3) := by decide +kernel
theorem dX6_light_31 : decode cX6_light 31 = .ok (.iload_n 3, 1) := by decide +kernel
theorem dX6_light_32 : decode cX6_light 32 = .ok (.invokestatic 147, 3) := by decide +kernel
theorem dX6_light_35 : decode cX6_light 35 = .ok (.ifCond .ne 7, 3) := by decide +kernel
theorem dX6_light_38 : decode cX6_light 38 = .ok (.iconst 2, 1) := by decide +kernel
theorem dX6_light_39 : decode cX6_light 39 = .ok (.goto 4, 3) := by decide +kernel
theorem dX6_light_42 : decode cX6_light 42 = .ok (.iconst 0, 1) := by decide +kernel
theorem dX6_light_43 : decode cX6_light 43 = .ok (.invokevirtual 94, 3) := by decide +kernel
theorem dX6_light_46 : decode cX6_light 46 = .ok (.ifCond .ne 5, 3) := by decide +kernel
theorem dX6_light_49 : decode cX6_light 49 = .ok (.iconst 0, 1) := by decide +kernel
theorem dX6_light_50 : decode cX6_light 50 = .ok (.ireturn, 1) := by decide +kernel
theorem dX6_light_51 : decode cX6_light 51 = .ok (.aload_n 0, 1) := by decide +kernel
theorem dX6_light_52 : decode cX6_light 52 = .ok (.invokevirtual 150, 3) := by decide +kernel
theorem dX6_light_55 : decode cX6_light 55 = .ok (.aload_n 0, 1) := by decide +kernel
theorem dX6_light_56 : decode cX6_light 56 = .ok (.iload_n 1, 1) := by decide +kernel
theorem dX6_light_57 : decode cX6_light 57 = .ok (.invokevirtual 177, 3) := by decide +kernel
theorem dX6_light_60 : decode cX6_light 60 = .ok (.aload_n 0, 1) := by decide +kernel
theorem dX6_light_61 : decode cX6_light 61 = .ok (.iload_n 3, 1) := by decide +kernel
theorem dX6_light_62 : decode cX6_light 62 = .ok (.invokevirtual 181, 3) := by decide +kernel
theorem dX6_light_65 : decode cX6_light 65 = .ok (.aload_n 0, 1) := by decide +kernel
theorem dX6_light_66 : decode cX6_light 66 = .ok (.iload_n 1, 1) := by decide +kernel
theorem dX6_light_67 : decode cX6_light 67 = .ok (.iload_n 2, 1) := by decide +kernel
theorem dX6_light_68 : decode cX6_light 68 = .ok (.invokevirtual 184, 3) := by decide +kernel
theorem dX6_light_71 : decode cX6_light 71 = .ok (.ireturn, 1) := by decide +kernel
set_option maxRecDepth 20000 in
theorem ggX6_shorts_X6_lights : GoodIn wsX6_shorts wsX6_lights := goodIn_r _ [9, 10, 11, 12, 13, 8, 14, 15, 16, 17, 18, 19, 20, 21, 22, 2, 23, 24, 25, 26, 27, 28, 29, 30, 31, 32, 33, 1, 34, 35, 36, 51, 52, 53, 54, 55, 56, 57, 58, 59, 60, 61, 62, 63, 64, 65, 66, 67, 68, 69, 70, 71, 72, 73, 74, 75, 76, 77, 78, 79, 80] (by decide +kernel) (by decide +kernel)
set_option maxRecDepth 20000 in
theorem gX6_shorts_X6_lights : GoodIn wsX6_shorts (wsV RX6 181 RX6 yX6_lights wsX6_lights) := goodIn_app (goodIn_of _ (by decide +kernel)) ggX6_shorts_X6_lights
set_option maxRecDepth 20000 in
theorem ggX6_shorts_X6_lightNow : GoodIn wsX6_shorts wsX6_lightNow := goodIn_r _ [40, 41, 42, 43, 44, 45, 46, 47, 8, 48, 49, 10, 50, 51, 52, 53, 54, 55, 56, 57, 58, 59, 60, 61, 62, 63, 64, 65, 66, 67, 68, 69, 70, 71, 72, 73, 74, 75, 76, 77, 78, 79, 80] (by decide +kernel) (by decide +kernel)
set_option maxRecDepth 20000 in
theorem gX6_shorts_X6_lightNow : GoodIn wsX6_shorts (wsV RX6 184 RX6 yX6_lightNow wsX6_lightNow) := goodIn_app (goodIn_of _ (by decide +kernel)) ggX6_shorts_X6_lightNow
theorem dX6_shorts_0 : decode cX6_shorts 0 = .ok (.aload_n 0, 1) := by decide +kernel
theorem dX6_shorts_1 : decode cX6_shorts 1 = .ok (.getfield 13, 3) := by decide +kernel
theorem dX6_shorts_4 : decode cX6_shorts 4 = .ok (.iload_n 2, 1) := by decide +kernel
theorem dX6_shorts_5 : decode cX6_shorts 5 = .ok (.baload, 1) := by decide +kernel
theorem dX6_shorts_6 : decode cX6_shorts 6 = .ok (.ifCond .eq 5, 3) := by decide +kernel
theorem dX6_shorts_9 : decode cX6_shorts 9 = .ok (.iconst 0, 1) := by decide +kernel
theorem dX6_shorts_10 : decode cX6_shorts 10 = .ok (.ireturn, 1) := by decide +kernel
theorem dX6_shorts_11 : decode cX6_shorts 11 = .ok (.iconst 0, 1) := by decide +kernel
theorem dX6_shorts_12 : decode cX6_shorts 12 = .ok (.istore_n 3, 1) := by decide +kernel
theorem dX6_shorts_13 : decode cX6_shorts 13 = .ok (.aload_n 0, 1) := by decide +kernel
theorem dX6_shorts_14 : decode cX6_shorts 14 = .ok (.aload_n 0, 1) := by decide +kernel
theorem dX6_shorts_15 : decode cX6_shorts 15 = .ok (.getfield 71, 3) := by decide +kernel
theorem dX6_shorts_18 : decode cX6_shorts 18 = .ok (.iload_n 2, 1) := by decide +kernel
theorem dX6_shorts_19 : decode cX6_shorts 19 = .ok (.iaload, 1) := by decide +kernel
theorem dX6_shorts_20 : decode cX6_shorts 20 = .ok (.aload_n 0, 1) := by decide +kernel
theorem dX6_shorts_21 : decode cX6_shorts 21 = .ok (.getfield 7, 3) := by decide +kernel
theorem dX6_shorts_24 : decode cX6_shorts 24 = .ok (.iload_n 2, 1) := by decide +kernel
theorem dX6_shorts_25 : decode cX6_shorts 25 = .ok (.iaload, 1) := by decide +kernel
theorem dX6_shorts_26 : decode cX6_shorts 26 = .ok (.iadd, 1) := by decide +kernel
theorem dX6_shorts_27 : decode cX6_shorts 27 = .ok (.iconst 1, 1) := by decide +kernel
theorem dX6_shorts_28 : decode cX6_shorts 28 = .ok (.isub, 1) := by decide +kernel
theorem dX6_shorts_29 : decode cX6_shorts 29 = .ok (.invokevirtual 181, 3) := by decide +kernel
theorem dX6_shorts_32 : decode cX6_shorts 32 = .ok (.iconst 0, 1) := by decide +kernel
theorem dX6_shorts_33 : decode cX6_shorts 33 = .ok (.istore 4, 2) := by decide +kernel
theorem dX6_shorts_35 : decode cX6_shorts 35 = .ok (.iload 4, 2) := by decide +kernel
theorem dX6_shorts_37 : decode cX6_shorts 37 = .ok (.iconst 4, 1) := by decide +kernel
theorem dX6_shorts_38 : decode cX6_shorts 38 = .ok (.if_icmp .ge 41, 3) := by decide +kernel
theorem dX6_shorts_41 : decode cX6_shorts 41 = .ok (.iload_n 3, 1) := by decide +kernel
theorem dX6_shorts_42 : decode cX6_shorts 42 = .ok (.aload_n 0, 1) := by decide +kernel
theorem dX6_shorts_43 : decode cX6_shorts 43 = .ok (.iload_n 1, 1) := by decide +kernel
theorem dX6_shorts_44 : decode cX6_shorts 44 = .ok (.iload 4, 2) := by decide +kernel
theorem dX6_shorts_46 : decode cX6_shorts 46 = .ok (.invokevirtual 184, 3) := by decide +kernel
theorem dX6_shorts_49 : decode cX6_shorts 49 = .ok (.aload_n 0, 1) := by decide +kernel
theorem dX6_shorts_50 : decode cX6_shorts 50 = .ok (.getfield 17, 3) := by decide +kernel
theorem dX6_shorts_53 : decode cX6_shorts 53 = .ok (.iconst 4, 1) := by decide +kernel
theorem dX6_shorts_54 : decode cX6_shorts 54 = .ok (.iload_n 2, 1) := by decide +kernel
theorem dX6_shorts_55 : decode cX6_shorts 55 = .ok (.imul, 1) := by decide +kernel
theorem dX6_shorts_56 : decode cX6_shorts 56 = .ok (.iload 4, 2) := by decide +kernel
theorem dX6_shorts_58 : decode cX6_shorts 58 = .ok (.iadd, 1) := by decide +kernel
theorem dX6_shorts_59 : decode cX6_shorts 59 = .ok (.iaload, 1) := by decide +kernel
theorem dX6_shorts_60 : decode cX6_shorts 60 = .ok (.if_icmp .ge 10, 3) := by decide +kernel
theorem dX6_shorts_63 : decode cX6_shorts 63 = .ok (.iconst 1, 1) := by decide +kernel
theorem dX6_shorts_64 : decode cX6_shorts 64 = .ok (.iload 4, 2) := by decide +kernel
theorem dX6_shorts_66 : decode cX6_shorts 66 = .ok (.ishl, 1) := by decide +kernel
theorem dX6_shorts_67 : decode cX6_shorts 67 = .ok (.goto 4, 3) := by decide +kernel
theorem dX6_shorts_70 : decode cX6_shorts 70 = .ok (.iconst 0, 1) := by decide +kernel
theorem dX6_shorts_71 : decode cX6_shorts 71 = .ok (.ior, 1) := by decide +kernel
theorem dX6_shorts_72 : decode cX6_shorts 72 = .ok (.istore_n 3, 1) := by decide +kernel
theorem dX6_shorts_73 : decode cX6_shorts 73 = .ok (.iinc 4 1, 3) := by decide +kernel
theorem dX6_shorts_76 : decode cX6_shorts 76 = .ok (.goto (-41), 3) := by decide +kernel
theorem dX6_shorts_79 : decode cX6_shorts 79 = .ok (.iload_n 3, 1) := by decide +kernel
theorem dX6_shorts_80 : decode cX6_shorts 80 = .ok (.ireturn, 1) := by decide +kernel
set_option maxRecDepth 20000 in
theorem ggX6_shortOf_X6_isStage : GoodIn wsX6_shortOf wsX6_isStage := goodIn_r _ [4, 5, 6, 3, 7] (by decide +kernel) (by decide +kernel)
set_option maxRecDepth 20000 in
theorem gX6_shortOf_X6_isStage : GoodIn wsX6_shortOf (va_wsS RX6 162 yX6_isStage wsX6_isStage) := goodIn_app (goodIn_of _ (by decide +kernel)) ggX6_shortOf_X6_isStage
set_option maxRecDepth 20000 in
theorem ggX6_shortOf_X6_isLine : GoodIn wsX6_shortOf wsX6_isLine := goodIn_r _ [11, 12, 5, 6, 3, 7, 95, 96, 97, 98, 99, 100, 101, 102, 103, 104, 105, 106, 107, 108, 109, 110, 111, 112, 113, 114, 115, 116, 117, 118, 119, 120, 121, 122, 123, 124] (by decide +kernel) (by decide +kernel)
set_option maxRecDepth 20000 in
theorem gX6_shortOf_X6_isLine : GoodIn wsX6_shortOf (wsV RX6 98 RX6 yX6_isLine wsX6_isLine) := goodIn_app (goodIn_of _ (by decide +kernel)) ggX6_shortOf_X6_isLine
set_option maxRecDepth 20000 in
theorem ggX6_shortOf_X6_isFine : GoodIn wsX6_shortOf wsX6_isFine := goodIn_r _ [16, 17, 95, 96, 97, 98, 99, 100, 101, 102, 103, 104, 105, 106, 107, 108, 109, 110, 111, 112, 113, 114, 115, 116, 117, 118, 119, 120, 121, 122, 123, 124] (by decide +kernel) (by decide +kernel)
set_option maxRecDepth 20000 in
theorem gX6_shortOf_X6_isFine : GoodIn wsX6_shortOf (wsV RX6 94 RX6 yX6_isFine wsX6_isFine) := goodIn_app (goodIn_of _ (by decide +kernel)) ggX6_shortOf_X6_isFine
set_option maxRecDepth 20000 in
theorem ggX6_shortOf_X6_plays : GoodIn wsX6_shortOf wsX6_plays := goodIn_r _ [21, 12, 22, 23, 24, 25, 26, 27, 28, 29, 30, 31, 3, 32, 33, 34, 35, 36, 37, 38, 39, 40, 41, 42, 43, 44, 45, 46, 95, 96, 97, 98, 99, 100, 101, 102, 103, 104, 105, 106, 107, 108, 109, 110, 111, 112, 113, 114, 115, 116, 117, 118, 119, 120, 121, 122, 123, 124] (by decide +kernel) (by decide +kernel)
set_option maxRecDepth 20000 in
theorem gX6_shortOf_X6_plays : GoodIn wsX6_shortOf (wsV RX6 150 RX6 yX6_plays wsX6_plays) := goodIn_app (goodIn_of _ (by decide +kernel)) ggX6_shortOf_X6_plays
set_option maxRecDepth 20000 in
theorem ggX6_shortOf_X6_laysAll : GoodIn wsX6_shortOf wsX6_laysAll := goodIn_r _ [50, 51, 52, 53, 54, 3, 55, 56, 57, 58, 59, 60, 61, 95, 96, 97, 98, 99, 100, 101, 102, 103, 104, 105, 106, 107, 108, 109, 110, 111, 112, 113, 114, 115, 116, 117, 118, 119, 120, 121, 122, 123, 124] (by decide +kernel) (by decide +kernel)
set_option maxRecDepth 20000 in
theorem gX6_shortOf_X6_laysAll : GoodIn wsX6_shortOf (wsV RX6 177 RX6 yX6_laysAll wsX6_laysAll) := goodIn_app (goodIn_of _ (by decide +kernel)) ggX6_shortOf_X6_laysAll
set_option maxRecDepth 20000 in
theorem ggX6_shortOf_X6_shorts : GoodIn wsX6_shortOf wsX6_shorts := goodIn_r _ [65, 23, 22, 24, 66, 67, 68, 69, 3, 70, 71, 72, 73, 74, 75, 25, 27, 28, 76, 43, 44, 45, 46, 37, 38, 77, 78, 79, 80, 81, 39, 40, 41, 42, 82, 83, 84, 85, 86, 87, 88, 56, 57, 58, 89, 90, 91, 92, 93, 94, 51, 95, 96, 97, 98, 99, 100, 101, 102, 103, 104, 105, 106, 107, 108, 109, 110, 111, 112, 113, 114, 115, 116, 117, 118, 119, 120, 121, 122, 123, 124] (by decide +kernel) (by decide +kernel)
set_option maxRecDepth 20000 in
theorem gX6_shortOf_X6_shorts : GoodIn wsX6_shortOf (wsV RX6 187 RX6 yX6_shorts wsX6_shorts) := goodIn_app (goodIn_of _ (by decide +kernel)) ggX6_shortOf_X6_shorts
theorem dX6_shortOf_0 : decode cX6_shortOf 0 = .ok (.aload_n 0, 1) := by decide +kernel
theorem dX6_shortOf_1 : decode cX6_shortOf 1 = .ok (.iload_n 1, 1) := by decide +kernel
theorem dX6_shortOf_2 : decode cX6_shortOf 2 = .ok (.invokestatic 162, 3) := by decide +kernel
theorem dX6_shortOf_5 : decode cX6_shortOf 5 = .ok (.ifCond .eq 15, 3) := by decide +kernel
theorem dX6_shortOf_8 : decode cX6_shortOf 8 = .ok (.aload_n 0, 1) := by decide +kernel
theorem dX6_shortOf_9 : decode cX6_shortOf 9 = .ok (.iload_n 2, 1) := by decide +kernel
theorem dX6_shortOf_10 : decode cX6_shortOf 10 = .ok (.invokevirtual 98, 3) := by decide +kernel
theorem dX6_shortOf_13 : decode cX6_shortOf 13 = .ok (.ifCond .eq 7, 3) := by decide +kernel
theorem dX6_shortOf_16 : decode cX6_shortOf 16 = .ok (.iconst 0, 1) := by decide +kernel
theorem dX6_shortOf_17 : decode cX6_shortOf 17 = .ok (.goto 4, 3) := by decide +kernel
theorem dX6_shortOf_20 : decode cX6_shortOf 20 = .ok (.iconst 1, 1) := by decide +kernel
theorem dX6_shortOf_21 : decode cX6_shortOf 21 = .ok (.invokevirtual 94, 3) := by decide +kernel
theorem dX6_shortOf_24 : decode cX6_shortOf 24 = .ok (.ifCond .ne 5, 3) := by decide +kernel
theorem dX6_shortOf_27 : decode cX6_shortOf 27 = .ok (.iconst 0, 1) := by decide +kernel
theorem dX6_shortOf_28 : decode cX6_shortOf 28 = .ok (.ireturn, 1) := by decide +kernel
theorem dX6_shortOf_29 : decode cX6_shortOf 29 = .ok (.aload_n 0, 1) := by decide +kernel
theorem dX6_shortOf_30 : decode cX6_shortOf 30 = .ok (.invokevirtual 150, 3) := by decide +kernel
theorem dX6_shortOf_33 : decode cX6_shortOf 33 = .ok (.aload_n 0, 1) := by decide +kernel
theorem dX6_shortOf_34 : decode cX6_shortOf 34 = .ok (.iload_n 1, 1) := by decide +kernel
theorem dX6_shortOf_35 : decode cX6_shortOf 35 = .ok (.invokevirtual 177, 3) := by decide +kernel
theorem dX6_shortOf_38 : decode cX6_shortOf 38 = .ok (.aload_n 0, 1) := by decide +kernel
theorem dX6_shortOf_39 : decode cX6_shortOf 39 = .ok (.iload_n 1, 1) := by decide +kernel
theorem dX6_shortOf_40 : decode cX6_shortOf 40 = .ok (.iload_n 2, 1) := by decide +kernel
theorem dX6_shortOf_41 : decode cX6_shortOf 41 = .ok (.invokevirtual 187, 3) := by decide +kernel
theorem dX6_shortOf_44 : decode cX6_shortOf 44 = .ok (.ireturn, 1) := by decide +kernel
set_option maxRecDepth 20000 in
theorem ggX6_shortLines_X6_laysAll : GoodIn wsX6_shortLines wsX6_laysAll := goodIn_r _ [6, 7, 8, 9, 10, 5, 11, 12, 13, 14, 15, 16, 17, 67, 68, 69, 70, 71, 72, 73, 74, 75, 76, 77, 78, 79, 80, 81, 82, 83, 84, 85, 86, 87, 88, 89, 90, 91, 92, 93, 94, 95, 96] (by decide +kernel) (by decide +kernel)
set_option maxRecDepth 20000 in
theorem gX6_shortLines_X6_laysAll : GoodIn wsX6_shortLines (wsV RX6 177 RX6 yX6_laysAll wsX6_laysAll) := goodIn_app (goodIn_of _ (by decide +kernel)) ggX6_shortLines_X6_laysAll
set_option maxRecDepth 20000 in
theorem ggX6_shortLines_X6_shorts : GoodIn wsX6_shortLines wsX6_shorts := goodIn_r _ [21, 22, 23, 24, 25, 26, 27, 28, 5, 29, 30, 31, 32, 33, 34, 35, 36, 37, 38, 39, 40, 41, 42, 43, 44, 45, 46, 47, 48, 49, 50, 51, 52, 53, 54, 55, 56, 57, 58, 59, 60, 12, 13, 14, 61, 62, 63, 64, 65, 66, 7, 67, 68, 69, 70, 71, 72, 73, 74, 75, 76, 77, 78, 79, 80, 81, 82, 83, 84, 85, 86, 87, 88, 89, 90, 91, 92, 93, 94, 95, 96] (by decide +kernel) (by decide +kernel)
set_option maxRecDepth 20000 in
theorem gX6_shortLines_X6_shorts : GoodIn wsX6_shortLines (wsV RX6 187 RX6 yX6_shorts wsX6_shorts) := goodIn_app (goodIn_of _ (by decide +kernel)) ggX6_shortLines_X6_shorts
theorem dX6_shortLines_0 : decode cX6_shortLines 0 = .ok (.aload_n 0, 1) := by decide +kernel
theorem dX6_shortLines_1 : decode cX6_shortLines 1 = .ok (.iload_n 1, 1) := by decide +kernel
theorem dX6_shortLines_2 : decode cX6_shortLines 2 = .ok (.invokevirtual 177, 3) := by decide +kernel
theorem dX6_shortLines_5 : decode cX6_shortLines 5 = .ok (.iconst 0, 1) := by decide +kernel
theorem dX6_shortLines_6 : decode cX6_shortLines 6 = .ok (.istore_n 2, 1) := by decide +kernel
theorem dX6_shortLines_7 : decode cX6_shortLines 7 = .ok (.iconst 0, 1) := by decide +kernel
theorem dX6_shortLines_8 : decode cX6_shortLines 8 = .ok (.istore_n 3, 1) := by decide +kernel
theorem dX6_shortLines_9 : decode cX6_shortLines 9 = .ok (.iload_n 3, 1) := by decide +kernel
theorem dX6_shortLines_10 : decode cX6_shortLines 10 = .ok (.aload_n 0, 1) := by decide +kernel
theorem dX6_shortLines_11 : decode cX6_shortLines 11 = .ok (.getfield 87, 3) := by decide +kernel
theorem dX6_shortLines_14 : decode cX6_shortLines 14 = .ok (.if_icmp .ge 26, 3) := by decide +kernel
theorem dX6_shortLines_17 : decode cX6_shortLines 17 = .ok (.iload_n 2, 1) := by decide +kernel
theorem dX6_shortLines_18 : decode cX6_shortLines 18 = .ok (.aload_n 0, 1) := by decide +kernel
theorem dX6_shortLines_19 : decode cX6_shortLines 19 = .ok (.iload_n 1, 1) := by decide +kernel
theorem dX6_shortLines_20 : decode cX6_shortLines 20 = .ok (.iload_n 3, 1) := by decide +kernel
theorem dX6_shortLines_21 : decode cX6_shortLines 21 = .ok (.invokevirtual 187, 3) := by decide +kernel
theorem dX6_shortLines_24 : decode cX6_shortLines 24 = .ok (.ifCond .eq 7, 3) := by decide +kernel
theorem dX6_shortLines_27 : decode cX6_shortLines 27 = .ok (.iconst 1, 1) := by decide +kernel
theorem dX6_shortLines_28 : decode cX6_shortLines 28 = .ok (.goto 4, 3) := by decide +kernel
theorem dX6_shortLines_31 : decode cX6_shortLines 31 = .ok (.iconst 0, 1) := by decide +kernel
theorem dX6_shortLines_32 : decode cX6_shortLines 32 = .ok (.iadd, 1) := by decide +kernel
theorem dX6_shortLines_33 : decode cX6_shortLines 33 = .ok (.istore_n 2, 1) := by decide +kernel
theorem dX6_shortLines_34 : decode cX6_shortLines 34 = .ok (.iinc 3 1, 3) := by decide +kernel
theorem dX6_shortLines_37 : decode cX6_shortLines 37 = .ok (.goto (-28), 3) := by decide +kernel
theorem dX6_shortLines_40 : decode cX6_shortLines 40 = .ok (.iload_n 2, 1) := by decide +kernel
theorem dX6_shortLines_41 : decode cX6_shortLines 41 = .ok (.ireturn, 1) := by decide +kernel
set_option maxRecDepth 20000 in
theorem ggX6_bestStage_X6_plays : GoodIn wsX6_bestStage wsX6_plays := goodIn_r _ [6, 7, 8, 9, 10, 11, 12, 13, 14, 15, 16, 17, 5, 18, 19, 20, 21, 22, 23, 24, 25, 26, 27, 28, 29, 30, 31, 32, 85, 86, 87, 88, 89, 90, 91, 92, 93, 94, 95, 96, 97, 98, 99, 100, 101, 102, 103, 104, 105, 106, 107, 108, 109, 110, 111, 112, 113, 114] (by decide +kernel) (by decide +kernel)
set_option maxRecDepth 20000 in
theorem gX6_bestStage_X6_plays : GoodIn wsX6_bestStage (wsV RX6 150 RX6 yX6_plays wsX6_plays) := goodIn_app (goodIn_of _ (by decide +kernel)) ggX6_bestStage_X6_plays
set_option maxRecDepth 20000 in
theorem ggX6_bestStage_X6_shortLines : GoodIn wsX6_bestStage wsX6_shortLines := goodIn_r _ [36, 7, 37, 38, 39, 5, 40, 41, 42, 43, 44, 45, 46, 47, 48, 49, 50, 51, 52, 53, 54, 55, 9, 8, 10, 56, 57, 58, 59, 60, 61, 62, 63, 64, 65, 11, 13, 14, 66, 29, 30, 31, 32, 23, 24, 67, 68, 69, 70, 71, 25, 26, 27, 28, 72, 73, 74, 75, 76, 77, 78, 79, 80, 81, 82, 83, 84, 85, 86, 87, 88, 89, 90, 91, 92, 93, 94, 95, 96, 97, 98, 99, 100, 101, 102, 103, 104, 105, 106, 107, 108, 109, 110, 111, 112, 113, 114] (by decide +kernel) (by decide +kernel)
set_option maxRecDepth 20000 in
theorem gX6_bestStage_X6_shortLines : GoodIn wsX6_bestStage (wsV RX6 190 RX6 yX6_shortLines wsX6_shortLines) := goodIn_app (goodIn_of _ (by decide +kernel)) ggX6_bestStage_X6_shortLines
theorem dX6_bestStage_0 : decode cX6_bestStage 0 = .ok (.aload_n 0, 1) := by decide +kernel
theorem dX6_bestStage_1 : decode cX6_bestStage 1 = .ok (.iconst 0, 1) := by decide +kernel
theorem dX6_bestStage_2 : decode cX6_bestStage 2 = .ok (.putfield 83, 3) := by decide +kernel
theorem dX6_bestStage_5 : decode cX6_bestStage 5 = .ok (.aload_n 0, 1) := by decide +kernel
theorem dX6_bestStage_6 : decode cX6_bestStage 6 = .ok (.invokevirtual 150, 3) := by decide +kernel
theorem dX6_bestStage_9 : decode cX6_bestStage 9 = .ok (.iconst 0, 1) := by decide +kernel
theorem dX6_bestStage_10 : decode cX6_bestStage 10 = .ok (.istore_n 1, 1) := by decide +kernel
theorem dX6_bestStage_11 : decode cX6_bestStage 11 = .ok (.aload_n 0, 1) := by decide +kernel
theorem dX6_bestStage_12 : decode cX6_bestStage 12 = .ok (.iconst 0, 1) := by decide +kernel
theorem dX6_bestStage_13 : decode cX6_bestStage 13 = .ok (.invokevirtual 190, 3) := by decide +kernel
theorem dX6_bestStage_16 : decode cX6_bestStage 16 = .ok (.istore_n 2, 1) := by decide +kernel
theorem dX6_bestStage_17 : decode cX6_bestStage 17 = .ok (.iconst 1, 1) := by decide +kernel
theorem dX6_bestStage_18 : decode cX6_bestStage 18 = .ok (.istore_n 3, 1) := by decide +kernel
theorem dX6_bestStage_19 : decode cX6_bestStage 19 = .ok (.iload_n 3, 1) := by decide +kernel
theorem dX6_bestStage_20 : decode cX6_bestStage 20 = .ok (.iconst 4, 1) := by decide +kernel
theorem dX6_bestStage_21 : decode cX6_bestStage 21 = .ok (.if_icmp .ge 41, 3) := by decide +kernel
theorem dX6_bestStage_24 : decode cX6_bestStage 24 = .ok (.aload_n 0, 1) := by decide +kernel
theorem dX6_bestStage_25 : decode cX6_bestStage 25 = .ok (.iload_n 3, 1) := by decide +kernel
theorem dX6_bestStage_26 : decode cX6_bestStage 26 = .ok (.invokevirtual 190, 3) := by decide +kernel
theorem dX6_bestStage_29 : decode cX6_bestStage 29 = .ok (.istore 4, 2) := by decide +kernel
theorem dX6_bestStage_31 : decode cX6_bestStage 31 = .ok (.iload 4, 2) := by decide +kernel
theorem dX6_bestStage_33 : decode cX6_bestStage 33 = .ok (.iload_n 2, 1) := by decide +kernel
theorem dX6_bestStage_34 : decode cX6_bestStage 34 = .ok (.if_icmp .ge 7, 3) := by decide +kernel
theorem dX6_bestStage_37 : decode cX6_bestStage 37 = .ok (.iload_n 3, 1) := by decide +kernel
theorem dX6_bestStage_38 : decode cX6_bestStage 38 = .ok (.goto 4, 3) := by decide +kernel
theorem dX6_bestStage_41 : decode cX6_bestStage 41 = .ok (.iload_n 1, 1) := by decide +kernel
theorem dX6_bestStage_42 : decode cX6_bestStage 42 = .ok (.istore_n 1, 1) := by decide +kernel
theorem dX6_bestStage_43 : decode cX6_bestStage 43 = .ok (.iload 4, 2) := by decide +kernel
theorem dX6_bestStage_45 : decode cX6_bestStage 45 = .ok (.iload_n 2, 1) := by decide +kernel
theorem dX6_bestStage_46 : decode cX6_bestStage 46 = .ok (.if_icmp .ge 8, 3) := by decide +kernel
theorem dX6_bestStage_49 : decode cX6_bestStage 49 = .ok (.iload 4, 2) := by decide +kernel
theorem dX6_bestStage_51 : decode cX6_bestStage 51 = .ok (.goto 4, 3) := by decide +kernel
theorem dX6_bestStage_54 : decode cX6_bestStage 54 = .ok (.iload_n 2, 1) := by decide +kernel
theorem dX6_bestStage_55 : decode cX6_bestStage 55 = .ok (.istore_n 2, 1) := by decide +kernel
theorem dX6_bestStage_56 : decode cX6_bestStage 56 = .ok (.iinc 3 1, 3) := by decide +kernel
theorem dX6_bestStage_59 : decode cX6_bestStage 59 = .ok (.goto (-40), 3) := by decide +kernel
theorem dX6_bestStage_62 : decode cX6_bestStage 62 = .ok (.iload_n 1, 1) := by decide +kernel
theorem dX6_bestStage_63 : decode cX6_bestStage 63 = .ok (.ireturn, 1) := by decide +kernel
set_option maxRecDepth 20000 in
theorem ggX6_bestToBorrow_X6_isStage : GoodIn wsX6_bestToBorrow wsX6_isStage := goodIn_r _ [9, 10, 11, 8, 12] (by decide +kernel) (by decide +kernel)
set_option maxRecDepth 20000 in
theorem gX6_bestToBorrow_X6_isStage : GoodIn wsX6_bestToBorrow (va_wsS RX6 162 yX6_isStage wsX6_isStage) := goodIn_app (goodIn_of _ (by decide +kernel)) ggX6_bestToBorrow_X6_isStage
set_option maxRecDepth 20000 in
theorem ggX6_bestToBorrow_X6_isArea : GoodIn wsX6_bestToBorrow wsX6_isArea := goodIn_r _ [15, 10, 11, 8, 12] (by decide +kernel) (by decide +kernel)
set_option maxRecDepth 20000 in
theorem gX6_bestToBorrow_X6_isArea : GoodIn wsX6_bestToBorrow (va_wsS RX6 101 yX6_isArea wsX6_isArea) := goodIn_app (goodIn_of _ (by decide +kernel)) ggX6_bestToBorrow_X6_isArea
set_option maxRecDepth 20000 in
theorem ggX6_bestToBorrow_X6_isFine : GoodIn wsX6_bestToBorrow wsX6_isFine := goodIn_r _ [19, 20, 104, 105, 106, 107, 108, 109, 110, 111, 112, 113, 114, 115, 116, 117, 118, 119, 120, 121, 122, 123, 124, 125, 126, 127, 128, 129, 130, 131, 132, 133] (by decide +kernel) (by decide +kernel)
set_option maxRecDepth 20000 in
theorem gX6_bestToBorrow_X6_isFine : GoodIn wsX6_bestToBorrow (wsV RX6 94 RX6 yX6_isFine wsX6_isFine) := goodIn_app (goodIn_of _ (by decide +kernel)) ggX6_bestToBorrow_X6_isFine
set_option maxRecDepth 20000 in
theorem ggX6_bestToBorrow_X6_plays : GoodIn wsX6_bestToBorrow wsX6_plays := goodIn_r _ [24, 25, 26, 27, 28, 29, 30, 31, 32, 33, 34, 35, 8, 36, 37, 38, 39, 40, 41, 42, 43, 44, 45, 46, 47, 48, 49, 50, 104, 105, 106, 107, 108, 109, 110, 111, 112, 113, 114, 115, 116, 117, 118, 119, 120, 121, 122, 123, 124, 125, 126, 127, 128, 129, 130, 131, 132, 133] (by decide +kernel) (by decide +kernel)
set_option maxRecDepth 20000 in
theorem gX6_bestToBorrow_X6_plays : GoodIn wsX6_bestToBorrow (wsV RX6 150 RX6 yX6_plays wsX6_plays) := goodIn_app (goodIn_of _ (by decide +kernel)) ggX6_bestToBorrow_X6_plays
set_option maxRecDepth 20000 in
theorem ggX6_bestToBorrow_X6_shortLines : GoodIn wsX6_bestToBorrow wsX6_shortLines := goodIn_r _ [54, 25, 55, 56, 57, 8, 58, 59, 60, 61, 62, 63, 1, 3, 4, 64, 65, 66, 67, 68, 69, 70, 27, 26, 28, 71, 72, 73, 74, 75, 76, 77, 78, 79, 80, 29, 31, 32, 81, 47, 48, 49, 50, 41, 42, 82, 83, 84, 85, 86, 43, 44, 45, 46, 87, 88, 89, 90, 91, 92, 93, 94, 95, 96, 97, 98, 99, 104, 105, 106, 107, 108, 109, 110, 111, 112, 113, 114, 115, 116, 117, 118, 119, 120, 121, 122, 123, 124, 125, 126, 127, 128, 129, 130, 131, 132, 133] (by decide +kernel) (by decide +kernel)
set_option maxRecDepth 20000 in
theorem gX6_bestToBorrow_X6_shortLines : GoodIn wsX6_bestToBorrow (wsV RX6 190 RX6 yX6_shortLines wsX6_shortLines) := goodIn_app (goodIn_of _ (by decide +kernel)) ggX6_bestToBorrow_X6_shortLines
set_option maxRecDepth 20000 in
theorem ggX6_bestToBorrow_X6_isHome : GoodIn wsX6_bestToBorrow wsX6_isHome := goodIn_r _ [103, 3, 2, 104, 105, 106, 107, 108, 109, 110, 111, 112, 113, 114, 115, 116, 117, 118, 119, 120, 121, 122, 123, 124, 125, 126, 127, 128, 129, 130, 131, 132, 133] (by decide +kernel) (by decide +kernel)
set_option maxRecDepth 20000 in
theorem gX6_bestToBorrow_X6_isHome : GoodIn wsX6_bestToBorrow (wsV RX6 168 RX6 yX6_isHome wsX6_isHome) := goodIn_app (goodIn_of _ (by decide +kernel)) ggX6_bestToBorrow_X6_isHome
theorem dX6_bestToBorrow_0 : decode cX6_bestToBorrow 0 = .ok (.aload_n 0, 1) := by decide +kernel
theorem dX6_bestToBorrow_1 : decode cX6_bestToBorrow 1 = .ok (.iload_n 1, 1) := by decide +kernel
theorem dX6_bestToBorrow_2 : decode cX6_bestToBorrow 2 = .ok (.invokestatic 162, 3) := by decide +kernel
theorem dX6_bestToBorrow_5 : decode cX6_bestToBorrow 5 = .ok (.ifCond .eq 14, 3) := by decide +kernel
theorem dX6_bestToBorrow_8 : decode cX6_bestToBorrow 8 = .ok (.iload_n 2, 1) := by decide +kernel
theorem dX6_bestToBorrow_9 : decode cX6_bestToBorrow 9 = .ok (.invokestatic 101, 3) := by decide +kernel
theorem dX6_bestToBorrow_12 : decode cX6_bestToBorrow 12 = .ok (.ifCond .eq 7, 3) := by decide +kernel
theorem dX6_bestToBorrow_15 : decode cX6_bestToBorrow 15 = .ok (.iconst 0, 1) := by decide +kernel
theorem dX6_bestToBorrow_16 : decode cX6_bestToBorrow 16 = .ok (.goto 4, 3) := by decide +kernel
theorem dX6_bestToBorrow_19 : decode cX6_bestToBorrow 19 = .ok (.iconst 1, 1) := by decide +kernel
theorem dX6_bestToBorrow_20 : decode cX6_bestToBorrow 20 = .ok (.invokevirtual 94, 3) := by decide +kernel
theorem dX6_bestToBorrow_23 : decode cX6_bestToBorrow 23 = .ok (.ifCond .ne 5, 3) := by decide +kernel
theorem dX6_bestToBorrow_26 : decode cX6_bestToBorrow 26 = .ok (.iconst 0, 1) := by decide +kernel
theorem dX6_bestToBorrow_27 : decode cX6_bestToBorrow 27 = .ok (.ireturn, 1) := by decide +kernel
theorem dX6_bestToBorrow_28 : decode cX6_bestToBorrow 28 = .ok (.aload_n 0, 1) := by decide +kernel
theorem dX6_bestToBorrow_29 : decode cX6_bestToBorrow 29 = .ok (.invokevirtual 150, 3) := by decide +kernel
theorem dX6_bestToBorrow_32 : decode cX6_bestToBorrow 32 = .ok (.iconst (-1), 1) := by decide +kernel
theorem dX6_bestToBorrow_33 : decode cX6_bestToBorrow 33 = .ok (.istore_n 3, 1) := by decide +kernel
theorem dX6_bestToBorrow_34 : decode cX6_bestToBorrow 34 = .ok (.aload_n 0, 1) := by decide +kernel
theorem dX6_bestToBorrow_35 : decode cX6_bestToBorrow 35 = .ok (.iload_n 1, 1) := by decide +kernel
theorem dX6_bestToBorrow_36 : decode cX6_bestToBorrow 36 = .ok (.invokevirtual 190, 3) := by decide +kernel
theorem dX6_bestToBorrow_39 : decode cX6_bestToBorrow 39 = .ok (.istore 4, 2) := by decide +kernel
theorem dX6_bestToBorrow_41 : decode cX6_bestToBorrow 41 = .ok (.iconst 0, 1) := by decide +kernel
theorem dX6_bestToBorrow_42 : decode cX6_bestToBorrow 42 = .ok (.istore 5, 2) := by decide +kernel
theorem dX6_bestToBorrow_44 : decode cX6_bestToBorrow 44 = .ok (.iload 5, 2) := by decide +kernel
theorem dX6_bestToBorrow_46 : decode cX6_bestToBorrow 46 = .ok (.aload_n 0, 1) := by decide +kernel
theorem dX6_bestToBorrow_47 : decode cX6_bestToBorrow 47 = .ok (.getfield 159, 3) := by decide +kernel
theorem dX6_bestToBorrow_50 : decode cX6_bestToBorrow 50 = .ok (.if_icmp .ge 110, 3) := by decide +kernel
theorem dX6_bestToBorrow_53 : decode cX6_bestToBorrow 53 = .ok (.aload_n 0, 1) := by decide +kernel
theorem dX6_bestToBorrow_54 : decode cX6_bestToBorrow 54 = .ok (.iload 5, 2) := by decide +kernel
theorem dX6_bestToBorrow_56 : decode cX6_bestToBorrow 56 = .ok (.invokevirtual 168, 3) := by decide +kernel
theorem dX6_bestToBorrow_59 : decode cX6_bestToBorrow 59 = .ok (.ifCond .eq 95, 3) := by decide +kernel
theorem dX6_bestToBorrow_62 : decode cX6_bestToBorrow 62 = .ok (.aload_n 0, 1) := by decide +kernel
theorem dX6_bestToBorrow_63 : decode cX6_bestToBorrow 63 = .ok (.getfield 38, 3) := by decide +kernel
theorem dX6_bestToBorrow_66 : decode cX6_bestToBorrow 66 = .ok (.iload 5, 2) := by decide +kernel
theorem dX6_bestToBorrow_68 : decode cX6_bestToBorrow 68 = .ok (.iaload, 1) := by decide +kernel
theorem dX6_bestToBorrow_69 : decode cX6_bestToBorrow 69 = .ok (.iload_n 1, 1) := by decide +kernel
theorem dX6_bestToBorrow_70 : decode cX6_bestToBorrow 70 = .ok (.if_icmp .eq 84, 3) := by decide +kernel
theorem dX6_bestToBorrow_73 : decode cX6_bestToBorrow 73 = .ok (.aload_n 0, 1) := by decide +kernel
theorem dX6_bestToBorrow_74 : decode cX6_bestToBorrow 74 = .ok (.getfield 44, 3) := by decide +kernel
theorem dX6_bestToBorrow_77 : decode cX6_bestToBorrow 77 = .ok (.iload 5, 2) := by decide +kernel
theorem dX6_bestToBorrow_79 : decode cX6_bestToBorrow 79 = .ok (.iload_n 1, 1) := by decide +kernel
theorem dX6_bestToBorrow_80 : decode cX6_bestToBorrow 80 = .ok (.iastore, 1) := by decide +kernel
theorem dX6_bestToBorrow_81 : decode cX6_bestToBorrow 81 = .ok (.aload_n 0, 1) := by decide +kernel
theorem dX6_bestToBorrow_82 : decode cX6_bestToBorrow 82 = .ok (.getfield 47, 3) := by decide +kernel
theorem dX6_bestToBorrow_85 : decode cX6_bestToBorrow 85 = .ok (.iload 5, 2) := by decide +kernel
theorem dX6_bestToBorrow_87 : decode cX6_bestToBorrow 87 = .ok (.iload_n 2, 1) := by decide +kernel
theorem dX6_bestToBorrow_88 : decode cX6_bestToBorrow 88 = .ok (.iastore, 1) := by decide +kernel
theorem dX6_bestToBorrow_89 : decode cX6_bestToBorrow 89 = .ok (.aload_n 0, 1) := by decide +kernel
theorem dX6_bestToBorrow_90 : decode cX6_bestToBorrow 90 = .ok (.iload_n 1, 1) := by decide +kernel
theorem dX6_bestToBorrow_91 : decode cX6_bestToBorrow 91 = .ok (.invokevirtual 190, 3) := by decide +kernel
theorem dX6_bestToBorrow_94 : decode cX6_bestToBorrow 94 = .ok (.istore 6, 2) := by decide +kernel
theorem dX6_bestToBorrow_96 : decode cX6_bestToBorrow 96 = .ok (.aload_n 0, 1) := by decide +kernel
theorem dX6_bestToBorrow_97 : decode cX6_bestToBorrow 97 = .ok (.getfield 44, 3) := by decide +kernel
theorem dX6_bestToBorrow_100 : decode cX6_bestToBorrow 100 = .ok (.iload 5, 2) := by decide +kernel
theorem dX6_bestToBorrow_102 : decode cX6_bestToBorrow 102 = .ok (.aload_n 0, 1) := by decide +kernel
theorem dX6_bestToBorrow_103 : decode cX6_bestToBorrow 103 = .ok (.getfield 38, 3) := by decide +kernel
theorem dX6_bestToBorrow_106 : decode cX6_bestToBorrow 106 = .ok (.iload 5, 2) := by decide +kernel
theorem dX6_bestToBorrow_108 : decode cX6_bestToBorrow 108 = .ok (.iaload, 1) := by decide +kernel
theorem dX6_bestToBorrow_109 : decode cX6_bestToBorrow 109 = .ok (.iastore, 1) := by decide +kernel
theorem dX6_bestToBorrow_110 : decode cX6_bestToBorrow 110 = .ok (.aload_n 0, 1) := by decide +kernel
theorem dX6_bestToBorrow_111 : decode cX6_bestToBorrow 111 = .ok (.getfield 47, 3) := by decide +kernel
theorem dX6_bestToBorrow_114 : decode cX6_bestToBorrow 114 = .ok (.iload 5, 2) := by decide +kernel
theorem dX6_bestToBorrow_116 : decode cX6_bestToBorrow 116 = .ok (.aload_n 0, 1) := by decide +kernel
theorem dX6_bestToBorrow_117 : decode cX6_bestToBorrow 117 = .ok (.getfield 41, 3) := by decide +kernel
theorem dX6_bestToBorrow_120 : decode cX6_bestToBorrow 120 = .ok (.iload 5, 2) := by decide +kernel
theorem dX6_bestToBorrow_122 : decode cX6_bestToBorrow 122 = .ok (.iaload, 1) := by decide +kernel
theorem dX6_bestToBorrow_123 : decode cX6_bestToBorrow 123 = .ok (.iastore, 1) := by decide +kernel
theorem dX6_bestToBorrow_124 : decode cX6_bestToBorrow 124 = .ok (.iload 6, 2) := by decide +kernel
theorem dX6_bestToBorrow_126 : decode cX6_bestToBorrow 126 = .ok (.iload 4, 2) := by decide +kernel
theorem dX6_bestToBorrow_128 : decode cX6_bestToBorrow 128 = .ok (.if_icmp .ge 8, 3) := by decide +kernel
theorem dX6_bestToBorrow_131 : decode cX6_bestToBorrow 131 = .ok (.iload 5, 2) := by decide +kernel
theorem dX6_bestToBorrow_133 : decode cX6_bestToBorrow 133 = .ok (.goto 4, 3) := by decide +kernel
theorem dX6_bestToBorrow_136 : decode cX6_bestToBorrow 136 = .ok (.iload_n 3, 1) := by decide +kernel
theorem dX6_bestToBorrow_137 : decode cX6_bestToBorrow 137 = .ok (.istore_n 3, 1) := by decide +kernel
theorem dX6_bestToBorrow_138 : decode cX6_bestToBorrow 138 = .ok (.iload 6, 2) := by decide +kernel
theorem dX6_bestToBorrow_140 : decode cX6_bestToBorrow 140 = .ok (.iload 4, 2) := by decide +kernel
theorem dX6_bestToBorrow_142 : decode cX6_bestToBorrow 142 = .ok (.if_icmp .ge 8, 3) := by decide +kernel
theorem dX6_bestToBorrow_145 : decode cX6_bestToBorrow 145 = .ok (.iload 6, 2) := by decide +kernel
theorem dX6_bestToBorrow_147 : decode cX6_bestToBorrow 147 = .ok (.goto 5, 3) := by decide +kernel
theorem dX6_bestToBorrow_150 : decode cX6_bestToBorrow 150 = .ok (.iload 4, 2) := by decide +kernel
theorem dX6_bestToBorrow_152 : decode cX6_bestToBorrow 152 = .ok (.istore 4, 2) := by decide +kernel
theorem dX6_bestToBorrow_154 : decode cX6_bestToBorrow 154 = .ok (.iinc 5 1, 3) := by decide +kernel
theorem dX6_bestToBorrow_157 : decode cX6_bestToBorrow 157 = .ok (.goto (-113), 3) := by decide +kernel
theorem dX6_bestToBorrow_160 : decode cX6_bestToBorrow 160 = .ok (.iload_n 3, 1) := by decide +kernel
theorem dX6_bestToBorrow_161 : decode cX6_bestToBorrow 161 = .ok (.ireturn, 1) := by decide +kernel
set_option maxRecDepth 20000 in
theorem ggX6_wears_X6_ahead : GoodIn wsX6_wears wsX6_ahead := goodIn_r _ [10, 11, 12, 50, 51, 52, 53, 54, 55, 56, 57, 58, 59, 60, 61, 62, 63, 64, 65, 66, 67, 68, 69, 70, 71, 72, 73, 74, 75, 76, 77, 78, 79] (by decide +kernel) (by decide +kernel)
set_option maxRecDepth 20000 in
theorem gX6_wears_X6_ahead : GoodIn wsX6_wears (wsV RX6 104 RX6 yX6_ahead wsX6_ahead) := goodIn_app (goodIn_of _ (by decide +kernel)) ggX6_wears_X6_ahead
set_option maxRecDepth 20000 in
theorem ggX6_wears_X6_lights : GoodIn wsX6_wears wsX6_lights := goodIn_r _ [16, 17, 18, 19, 20, 9, 21, 22, 23, 24, 25, 26, 27, 28, 29, 30, 31, 32, 33, 34, 35, 36, 37, 38, 39, 40, 41, 11, 42, 43, 44, 50, 51, 52, 53, 54, 55, 56, 57, 58, 59, 60, 61, 62, 63, 64, 65, 66, 67, 68, 69, 70, 71, 72, 73, 74, 75, 76, 77, 78, 79] (by decide +kernel) (by decide +kernel)
set_option maxRecDepth 20000 in
theorem gX6_wears_X6_lights : GoodIn wsX6_wears (wsV RX6 181 RX6 yX6_lights wsX6_lights) := goodIn_app (goodIn_of _ (by decide +kernel)) ggX6_wears_X6_lights
set_option maxRecDepth 20000 in
theorem ggX6_wears_X6_lampNow : GoodIn wsX6_wears wsX6_lampNow := goodIn_r _ [48, 5, 17, 49, 50, 51, 52, 53, 54, 55, 56, 57, 58, 59, 60, 61, 62, 63, 64, 65, 66, 67, 68, 69, 70, 71, 72, 73, 74, 75, 76, 77, 78, 79] (by decide +kernel) (by decide +kernel)
set_option maxRecDepth 20000 in
theorem gX6_wears_X6_lampNow : GoodIn wsX6_wears (wsV RX6 174 RX6 yX6_lampNow wsX6_lampNow) := goodIn_app (goodIn_of _ (by decide +kernel)) ggX6_wears_X6_lampNow
theorem dX6_wears_0 : decode cX6_wears 0 = .ok (.iconst 0, 1) := by decide +kernel
theorem dX6_wears_1 : decode cX6_wears 1 = .ok (.istore_n 2, 1) := by decide +kernel
theorem dX6_wears_2 : decode cX6_wears 2 = .ok (.iload_n 2, 1) := by decide +kernel
theorem dX6_wears_3 : decode cX6_wears 3 = .ok (.aload_n 0, 1) := by decide +kernel
theorem dX6_wears_4 : decode cX6_wears 4 = .ok (.getfield 159, 3) := by decide +kernel
theorem dX6_wears_7 : decode cX6_wears 7 = .ok (.if_icmp .ge 16, 3) := by decide +kernel
theorem dX6_wears_10 : decode cX6_wears 10 = .ok (.aload_n 0, 1) := by decide +kernel
theorem dX6_wears_11 : decode cX6_wears 11 = .ok (.getfield 80, 3) := by decide +kernel
theorem dX6_wears_14 : decode cX6_wears 14 = .ok (.iload_n 2, 1) := by decide +kernel
theorem dX6_wears_15 : decode cX6_wears 15 = .ok (.iconst 0, 1) := by decide +kernel
theorem dX6_wears_16 : decode cX6_wears 16 = .ok (.iastore, 1) := by decide +kernel
theorem dX6_wears_17 : decode cX6_wears 17 = .ok (.iinc 2 1, 3) := by decide +kernel
theorem dX6_wears_20 : decode cX6_wears 20 = .ok (.goto (-18), 3) := by decide +kernel
theorem dX6_wears_23 : decode cX6_wears 23 = .ok (.aload_n 0, 1) := by decide +kernel
theorem dX6_wears_24 : decode cX6_wears 24 = .ok (.aload_n 0, 1) := by decide +kernel
theorem dX6_wears_25 : decode cX6_wears 25 = .ok (.getfield 87, 3) := by decide +kernel
theorem dX6_wears_28 : decode cX6_wears 28 = .ok (.invokevirtual 104, 3) := by decide +kernel
theorem dX6_wears_31 : decode cX6_wears 31 = .ok (.istore_n 2, 1) := by decide +kernel
theorem dX6_wears_32 : decode cX6_wears 32 = .ok (.iconst 0, 1) := by decide +kernel
theorem dX6_wears_33 : decode cX6_wears 33 = .ok (.istore_n 3, 1) := by decide +kernel
theorem dX6_wears_34 : decode cX6_wears 34 = .ok (.iload_n 3, 1) := by decide +kernel
theorem dX6_wears_35 : decode cX6_wears 35 = .ok (.iload_n 2, 1) := by decide +kernel
theorem dX6_wears_36 : decode cX6_wears 36 = .ok (.if_icmp .ge 67, 3) := by decide +kernel
theorem dX6_wears_39 : decode cX6_wears 39 = .ok (.aload_n 0, 1) := by decide +kernel
theorem dX6_wears_40 : decode cX6_wears 40 = .ok (.iload_n 3, 1) := by decide +kernel
theorem dX6_wears_41 : decode cX6_wears 41 = .ok (.invokevirtual 181, 3) := by decide +kernel
theorem dX6_wears_44 : decode cX6_wears 44 = .ok (.iconst 0, 1) := by decide +kernel
theorem dX6_wears_45 : decode cX6_wears 45 = .ok (.istore 4, 2) := by decide +kernel
theorem dX6_wears_47 : decode cX6_wears 47 = .ok (.iload 4, 2) := by decide +kernel
theorem dX6_wears_49 : decode cX6_wears 49 = .ok (.aload_n 0, 1) := by decide +kernel
theorem dX6_wears_50 : decode cX6_wears 50 = .ok (.getfield 159, 3) := by decide +kernel
theorem dX6_wears_53 : decode cX6_wears 53 = .ok (.if_icmp .ge 44, 3) := by decide +kernel
theorem dX6_wears_56 : decode cX6_wears 56 = .ok (.aload_n 0, 1) := by decide +kernel
theorem dX6_wears_57 : decode cX6_wears 57 = .ok (.getfield 80, 3) := by decide +kernel
theorem dX6_wears_60 : decode cX6_wears 60 = .ok (.iload 4, 2) := by decide +kernel
theorem dX6_wears_62 : decode cX6_wears 62 = .ok (.dup2, 1) := by decide +kernel
theorem dX6_wears_63 : decode cX6_wears 63 = .ok (.iaload, 1) := by decide +kernel
theorem dX6_wears_64 : decode cX6_wears 64 = .ok (.aload_n 0, 1) := by decide +kernel
theorem dX6_wears_65 : decode cX6_wears 65 = .ok (.getfield 44, 3) := by decide +kernel
theorem dX6_wears_68 : decode cX6_wears 68 = .ok (.iload 4, 2) := by decide +kernel
theorem dX6_wears_70 : decode cX6_wears 70 = .ok (.iaload, 1) := by decide +kernel
theorem dX6_wears_71 : decode cX6_wears 71 = .ok (.iload_n 1, 1) := by decide +kernel
theorem dX6_wears_72 : decode cX6_wears 72 = .ok (.if_icmp .ne 16, 3) := by decide +kernel
theorem dX6_wears_75 : decode cX6_wears 75 = .ok (.aload_n 0, 1) := by decide +kernel
theorem dX6_wears_76 : decode cX6_wears 76 = .ok (.iload 4, 2) := by decide +kernel
theorem dX6_wears_78 : decode cX6_wears 78 = .ok (.invokevirtual 174, 3) := by decide +kernel
theorem dX6_wears_81 : decode cX6_wears 81 = .ok (.ifCond .le 7, 3) := by decide +kernel
theorem dX6_wears_84 : decode cX6_wears 84 = .ok (.iconst 1, 1) := by decide +kernel
theorem dX6_wears_85 : decode cX6_wears 85 = .ok (.goto 4, 3) := by decide +kernel
theorem dX6_wears_88 : decode cX6_wears 88 = .ok (.iconst 0, 1) := by decide +kernel
theorem dX6_wears_89 : decode cX6_wears 89 = .ok (.iadd, 1) := by decide +kernel
theorem dX6_wears_90 : decode cX6_wears 90 = .ok (.iastore, 1) := by decide +kernel
theorem dX6_wears_91 : decode cX6_wears 91 = .ok (.iinc 4 1, 3) := by decide +kernel
theorem dX6_wears_94 : decode cX6_wears 94 = .ok (.goto (-47), 3) := by decide +kernel
theorem dX6_wears_97 : decode cX6_wears 97 = .ok (.iinc 3 1, 3) := by decide +kernel
theorem dX6_wears_100 : decode cX6_wears 100 = .ok (.goto (-66), 3) := by decide +kernel
theorem dX6_wears_103 : decode cX6_wears 103 = .ok (.iconst 0, 1) := by decide +kernel
theorem dX6_wears_104 : decode cX6_wears 104 = .ok (.istore_n 3, 1) := by decide +kernel
theorem dX6_wears_105 : decode cX6_wears 105 = .ok (.iload_n 3, 1) := by decide +kernel
theorem dX6_wears_106 : decode cX6_wears 106 = .ok (.aload_n 0, 1) := by decide +kernel
theorem dX6_wears_107 : decode cX6_wears 107 = .ok (.getfield 159, 3) := by decide +kernel
theorem dX6_wears_110 : decode cX6_wears 110 = .ok (.if_icmp .ge 24, 3) := by decide +kernel
theorem dX6_wears_113 : decode cX6_wears 113 = .ok (.aload_n 0, 1) := by decide +kernel
theorem dX6_wears_114 : decode cX6_wears 114 = .ok (.getfield 56, 3) := by decide +kernel
theorem dX6_wears_117 : decode cX6_wears 117 = .ok (.iload_n 3, 1) := by decide +kernel
theorem dX6_wears_118 : decode cX6_wears 118 = .ok (.dup2, 1) := by decide +kernel
theorem dX6_wears_119 : decode cX6_wears 119 = .ok (.iaload, 1) := by decide +kernel
theorem dX6_wears_120 : decode cX6_wears 120 = .ok (.aload_n 0, 1) := by decide +kernel
theorem dX6_wears_121 : decode cX6_wears 121 = .ok (.getfield 80, 3) := by decide +kernel
theorem dX6_wears_124 : decode cX6_wears 124 = .ok (.iload_n 3, 1) := by decide +kernel
theorem dX6_wears_125 : decode cX6_wears 125 = .ok (.iaload, 1) := by decide +kernel
theorem dX6_wears_126 : decode cX6_wears 126 = .ok (.iadd, 1) := by decide +kernel
theorem dX6_wears_127 : decode cX6_wears 127 = .ok (.iastore, 1) := by decide +kernel
theorem dX6_wears_128 : decode cX6_wears 128 = .ok (.iinc 3 1, 3) := by decide +kernel
theorem dX6_wears_131 : decode cX6_wears 131 = .ok (.goto (-26), 3) := by decide +kernel
theorem dX6_wears_134 : decode cX6_wears 134 = .ok (.return_, 1) := by decide +kernel
set_option maxRecDepth 20000 in
theorem ggX6_perform_X6_isStage : GoodIn wsX6_perform wsX6_isStage := goodIn_r _ [8, 9, 10, 7, 11] (by decide +kernel) (by decide +kernel)
set_option maxRecDepth 20000 in
theorem gX6_perform_X6_isStage : GoodIn wsX6_perform (va_wsS RX6 162 yX6_isStage wsX6_isStage) := goodIn_app (goodIn_of _ (by decide +kernel)) ggX6_perform_X6_isStage
set_option maxRecDepth 20000 in
theorem ggX6_perform_X6_ahead : GoodIn wsX6_perform wsX6_ahead := goodIn_r _ [15, 16, 17, 103, 104, 105, 106, 107, 108, 109, 110, 111, 112, 113, 114, 115, 116, 117, 118, 119, 120, 121, 122, 123, 124, 125, 126, 127, 128, 129, 130, 131, 132] (by decide +kernel) (by decide +kernel)
set_option maxRecDepth 20000 in
theorem gX6_perform_X6_ahead : GoodIn wsX6_perform (wsV RX6 104 RX6 yX6_ahead wsX6_ahead) := goodIn_app (goodIn_of _ (by decide +kernel)) ggX6_perform_X6_ahead
set_option maxRecDepth 20000 in
theorem ggX6_perform_X6_isFine : GoodIn wsX6_perform wsX6_isFine := goodIn_r _ [21, 22, 103, 104, 105, 106, 107, 108, 109, 110, 111, 112, 113, 114, 115, 116, 117, 118, 119, 120, 121, 122, 123, 124, 125, 126, 127, 128, 129, 130, 131, 132] (by decide +kernel) (by decide +kernel)
set_option maxRecDepth 20000 in
theorem gX6_perform_X6_isFine : GoodIn wsX6_perform (wsV RX6 94 RX6 yX6_isFine wsX6_isFine) := goodIn_app (goodIn_of _ (by decide +kernel)) ggX6_perform_X6_isFine
set_option maxRecDepth 20000 in
theorem ggX6_perform_X6_plays : GoodIn wsX6_perform wsX6_plays := goodIn_r _ [26, 1, 27, 16, 17, 28, 29, 30, 31, 32, 33, 34, 7, 35, 36, 37, 38, 39, 40, 41, 42, 43, 44, 45, 46, 47, 48, 49, 103, 104, 105, 106, 107, 108, 109, 110, 111, 112, 113, 114, 115, 116, 117, 118, 119, 120, 121, 122, 123, 124, 125, 126, 127, 128, 129, 130, 131, 132] (by decide +kernel) (by decide +kernel)
set_option maxRecDepth 20000 in
theorem gX6_perform_X6_plays : GoodIn wsX6_perform (wsV RX6 150 RX6 yX6_plays wsX6_plays) := goodIn_app (goodIn_of _ (by decide +kernel)) ggX6_perform_X6_plays
set_option maxRecDepth 20000 in
theorem ggX6_perform_X6_laysAll : GoodIn wsX6_perform wsX6_laysAll := goodIn_r _ [53, 54, 55, 56, 57, 7, 58, 59, 60, 61, 62, 63, 64, 103, 104, 105, 106, 107, 108, 109, 110, 111, 112, 113, 114, 115, 116, 117, 118, 119, 120, 121, 122, 123, 124, 125, 126, 127, 128, 129, 130, 131, 132] (by decide +kernel) (by decide +kernel)
set_option maxRecDepth 20000 in
theorem gX6_perform_X6_laysAll : GoodIn wsX6_perform (wsV RX6 177 RX6 yX6_laysAll wsX6_laysAll) := goodIn_app (goodIn_of _ (by decide +kernel)) ggX6_perform_X6_laysAll
set_option maxRecDepth 20000 in
theorem ggX6_perform_X6_shorts : GoodIn wsX6_perform wsX6_shorts := goodIn_r _ [68, 16, 27, 17, 69, 70, 71, 72, 7, 73, 74, 75, 76, 77, 78, 28, 30, 31, 79, 46, 47, 48, 49, 40, 41, 80, 81, 82, 83, 84, 42, 43, 44, 45, 85, 86, 87, 88, 89, 90, 91, 59, 60, 61, 92, 93, 94, 95, 96, 97, 54, 103, 104, 105, 106, 107, 108, 109, 110, 111, 112, 113, 114, 115, 116, 117, 118, 119, 120, 121, 122, 123, 124, 125, 126, 127, 128, 129, 130, 131, 132] (by decide +kernel) (by decide +kernel)
set_option maxRecDepth 20000 in
theorem gX6_perform_X6_shorts : GoodIn wsX6_perform (wsV RX6 187 RX6 yX6_shorts wsX6_shorts) := goodIn_app (goodIn_of _ (by decide +kernel)) ggX6_perform_X6_shorts
set_option maxRecDepth 20000 in
theorem ggX6_perform_X6_wears : GoodIn wsX6_perform wsX6_wears := goodIn_r _ [101, 59, 102, 1, 60, 97, 12, 13, 14, 7, 15, 16, 17, 70, 71, 72, 73, 74, 75, 76, 77, 78, 28, 30, 31, 79, 46, 47, 48, 49, 27, 40, 41, 80, 81, 82, 83, 84, 42, 43, 44, 45, 85, 86, 87, 93, 94, 95, 96, 54, 103, 104, 105, 106, 107, 108, 109, 110, 111, 112, 113, 114, 115, 116, 117, 118, 119, 120, 121, 122, 123, 124, 125, 126, 127, 128, 129, 130, 131, 132] (by decide +kernel) (by decide +kernel)
set_option maxRecDepth 20000 in
theorem gX6_perform_X6_wears : GoodIn wsX6_perform (wsV RX6 196 RX6 yX6_wears wsX6_wears) := goodIn_app (goodIn_of _ (by decide +kernel)) ggX6_perform_X6_wears
theorem dX6_perform_0 : decode cX6_perform 0 = .ok (.iload_n 1, 1) := by decide +kernel
theorem dX6_perform_1 : decode cX6_perform 1 = .ok (.invokestatic 162, 3) := by decide +kernel
theorem dX6_perform_4 : decode cX6_perform 4 = .ok (.istore_n 2, 1) := by decide +kernel
theorem dX6_perform_5 : decode cX6_perform 5 = .ok (.aload_n 0, 1) := by decide +kernel
theorem dX6_perform_6 : decode cX6_perform 6 = .ok (.iload_n 2, 1) := by decide +kernel
theorem dX6_perform_7 : decode cX6_perform 7 = .ok (.ifCond .ne 7, 3) := by decide +kernel
theorem dX6_perform_10 : decode cX6_perform 10 = .ok (.iconst 1, 1) := by decide +kernel
theorem dX6_perform_11 : decode cX6_perform 11 = .ok (.goto 28, 3) := by decide +kernel
theorem dX6_perform_14 : decode cX6_perform 14 = .ok (.aload_n 0, 1) := by decide +kernel
theorem dX6_perform_15 : decode cX6_perform 15 = .ok (.aload_n 0, 1) := by decide +kernel
theorem dX6_perform_16 : decode cX6_perform 16 = .ok (.getfield 87, 3) := by decide +kernel
theorem dX6_perform_19 : decode cX6_perform 19 = .ok (.invokevirtual 104, 3) := by decide +kernel
theorem dX6_perform_22 : decode cX6_perform 22 = .ok (.ifCond .eq 12, 3) := by decide +kernel
theorem dX6_perform_25 : decode cX6_perform 25 = .ok (.aload_n 0, 1) := by decide +kernel
theorem dX6_perform_26 : decode cX6_perform 26 = .ok (.getfield 193, 3) := by decide +kernel
theorem dX6_perform_29 : decode cX6_perform 29 = .ok (.bipush 20, 2) := by decide +kernel
theorem dX6_perform_31 : decode cX6_perform 31 = .ok (.if_icmp .ne 7, 3) := by decide +kernel
theorem dX6_perform_34 : decode cX6_perform 34 = .ok (.iconst 2, 1) := by decide +kernel
theorem dX6_perform_35 : decode cX6_perform 35 = .ok (.goto 4, 3) := by decide +kernel
theorem dX6_perform_38 : decode cX6_perform 38 = .ok (.iconst 0, 1) := by decide +kernel
theorem dX6_perform_39 : decode cX6_perform 39 = .ok (.invokevirtual 94, 3) := by decide +kernel
theorem dX6_perform_42 : decode cX6_perform 42 = .ok (.ifCond .ne 5, 3) := by decide +kernel
theorem dX6_perform_45 : decode cX6_perform 45 = .ok (.iconst 0, 1) := by decide +kernel
theorem dX6_perform_46 : decode cX6_perform 46 = .ok (.ireturn, 1) := by decide +kernel
theorem dX6_perform_47 : decode cX6_perform 47 = .ok (.aload_n 0, 1) := by decide +kernel
theorem dX6_perform_48 : decode cX6_perform 48 = .ok (.invokevirtual 150, 3) := by decide +kernel
theorem dX6_perform_51 : decode cX6_perform 51 = .ok (.aload_n 0, 1) := by decide +kernel
theorem dX6_perform_52 : decode cX6_perform 52 = .ok (.iload_n 1, 1) := by decide +kernel
theorem dX6_perform_53 : decode cX6_perform 53 = .ok (.invokevirtual 177, 3) := by decide +kernel
theorem dX6_perform_56 : decode cX6_perform 56 = .ok (.aload_n 0, 1) := by decide +kernel
theorem dX6_perform_57 : decode cX6_perform 57 = .ok (.getfield 59, 3) := by decide +kernel
theorem dX6_perform_60 : decode cX6_perform 60 = .ok (.aload_n 0, 1) := by decide +kernel
theorem dX6_perform_61 : decode cX6_perform 61 = .ok (.getfield 193, 3) := by decide +kernel
theorem dX6_perform_64 : decode cX6_perform 64 = .ok (.iload_n 1, 1) := by decide +kernel
theorem dX6_perform_65 : decode cX6_perform 65 = .ok (.iastore, 1) := by decide +kernel
theorem dX6_perform_66 : decode cX6_perform 66 = .ok (.iconst 0, 1) := by decide +kernel
theorem dX6_perform_67 : decode cX6_perform 67 = .ok (.istore_n 3, 1) := by decide +kernel
theorem dX6_perform_68 : decode cX6_perform 68 = .ok (.iconst 0, 1) := by decide +kernel
theorem dX6_perform_69 : decode cX6_perform 69 = .ok (.istore 4, 2) := by decide +kernel
theorem dX6_perform_71 : decode cX6_perform 71 = .ok (.iload 4, 2) := by decide +kernel
theorem dX6_perform_73 : decode cX6_perform 73 = .ok (.aload_n 0, 1) := by decide +kernel
theorem dX6_perform_74 : decode cX6_perform 74 = .ok (.getfield 87, 3) := by decide +kernel
theorem dX6_perform_77 : decode cX6_perform 77 = .ok (.if_icmp .ge 48, 3) := by decide +kernel
theorem dX6_perform_80 : decode cX6_perform 80 = .ok (.aload_n 0, 1) := by decide +kernel
theorem dX6_perform_81 : decode cX6_perform 81 = .ok (.iload_n 1, 1) := by decide +kernel
theorem dX6_perform_82 : decode cX6_perform 82 = .ok (.iload 4, 2) := by decide +kernel
theorem dX6_perform_84 : decode cX6_perform 84 = .ok (.invokevirtual 187, 3) := by decide +kernel
theorem dX6_perform_87 : decode cX6_perform 87 = .ok (.istore 5, 2) := by decide +kernel
theorem dX6_perform_89 : decode cX6_perform 89 = .ok (.aload_n 0, 1) := by decide +kernel
theorem dX6_perform_90 : decode cX6_perform 90 = .ok (.getfield 62, 3) := by decide +kernel
theorem dX6_perform_93 : decode cX6_perform 93 = .ok (.bipush 30, 2) := by decide +kernel
theorem dX6_perform_95 : decode cX6_perform 95 = .ok (.aload_n 0, 1) := by decide +kernel
theorem dX6_perform_96 : decode cX6_perform 96 = .ok (.getfield 193, 3) := by decide +kernel
theorem dX6_perform_99 : decode cX6_perform 99 = .ok (.imul, 1) := by decide +kernel
theorem dX6_perform_100 : decode cX6_perform 100 = .ok (.iload 4, 2) := by decide +kernel
theorem dX6_perform_102 : decode cX6_perform 102 = .ok (.iadd, 1) := by decide +kernel
theorem dX6_perform_103 : decode cX6_perform 103 = .ok (.iload 5, 2) := by decide +kernel
theorem dX6_perform_105 : decode cX6_perform 105 = .ok (.iastore, 1) := by decide +kernel
theorem dX6_perform_106 : decode cX6_perform 106 = .ok (.iload_n 3, 1) := by decide +kernel
theorem dX6_perform_107 : decode cX6_perform 107 = .ok (.iload 5, 2) := by decide +kernel
theorem dX6_perform_109 : decode cX6_perform 109 = .ok (.ifCond .eq 7, 3) := by decide +kernel
theorem dX6_perform_112 : decode cX6_perform 112 = .ok (.iconst 1, 1) := by decide +kernel
theorem dX6_perform_113 : decode cX6_perform 113 = .ok (.goto 4, 3) := by decide +kernel
theorem dX6_perform_116 : decode cX6_perform 116 = .ok (.iconst 0, 1) := by decide +kernel
theorem dX6_perform_117 : decode cX6_perform 117 = .ok (.iadd, 1) := by decide +kernel
theorem dX6_perform_118 : decode cX6_perform 118 = .ok (.istore_n 3, 1) := by decide +kernel
theorem dX6_perform_119 : decode cX6_perform 119 = .ok (.iinc 4 1, 3) := by decide +kernel
theorem dX6_perform_122 : decode cX6_perform 122 = .ok (.goto (-51), 3) := by decide +kernel
theorem dX6_perform_125 : decode cX6_perform 125 = .ok (.aload_n 0, 1) := by decide +kernel
theorem dX6_perform_126 : decode cX6_perform 126 = .ok (.dup, 1) := by decide +kernel
theorem dX6_perform_127 : decode cX6_perform 127 = .ok (.getfield 193, 3) := by decide +kernel
theorem dX6_perform_130 : decode cX6_perform 130 = .ok (.iconst 1, 1) := by decide +kernel
theorem dX6_perform_131 : decode cX6_perform 131 = .ok (.iadd, 1) := by decide +kernel
theorem dX6_perform_132 : decode cX6_perform 132 = .ok (.putfield 193, 3) := by decide +kernel
theorem dX6_perform_135 : decode cX6_perform 135 = .ok (.aload_n 0, 1) := by decide +kernel
theorem dX6_perform_136 : decode cX6_perform 136 = .ok (.iload_n 1, 1) := by decide +kernel
theorem dX6_perform_137 : decode cX6_perform 137 = .ok (.invokevirtual 196, 3) := by decide +kernel
theorem dX6_perform_140 : decode cX6_perform 140 = .ok (.iload_n 3, 1) := by decide +kernel
theorem dX6_perform_141 : decode cX6_perform 141 = .ok (.ireturn, 1) := by decide +kernel
theorem dX6_logs_0 : decode cX6_logs 0 = .ok (.aload_n 0, 1) := by decide +kernel
theorem dX6_logs_1 : decode cX6_logs 1 = .ok (.iconst 0, 1) := by decide +kernel
theorem dX6_logs_2 : decode cX6_logs 2 = .ok (.putfield 83, 3) := by decide +kernel
theorem dX6_logs_5 : decode cX6_logs 5 = .ok (.aload_n 0, 1) := by decide +kernel
theorem dX6_logs_6 : decode cX6_logs 6 = .ok (.getfield 193, 3) := by decide +kernel
theorem dX6_logs_9 : decode cX6_logs 9 = .ok (.ireturn, 1) := by decide +kernel
set_option maxRecDepth 20000 in
theorem ggX6_isLog_X6_isIn : GoodIn wsX6_isLog wsX6_isIn := goodIn_r _ [5] (by decide +kernel) (by decide +kernel)
set_option maxRecDepth 20000 in
theorem gX6_isLog_X6_isIn : GoodIn wsX6_isLog (va_wsS RX6 90 yX6_isIn wsX6_isIn) := goodIn_app (goodIn_of _ (by decide +kernel)) ggX6_isLog_X6_isIn
theorem dX6_isLog_0 : decode cX6_isLog 0 = .ok (.iload_n 1, 1) := by decide +kernel
theorem dX6_isLog_1 : decode cX6_isLog 1 = .ok (.iconst 0, 1) := by decide +kernel
theorem dX6_isLog_2 : decode cX6_isLog 2 = .ok (.aload_n 0, 1) := by decide +kernel
theorem dX6_isLog_3 : decode cX6_isLog 3 = .ok (.getfield 193, 3) := by decide +kernel
theorem dX6_isLog_6 : decode cX6_isLog 6 = .ok (.iconst 1, 1) := by decide +kernel
theorem dX6_isLog_7 : decode cX6_isLog 7 = .ok (.isub, 1) := by decide +kernel
theorem dX6_isLog_8 : decode cX6_isLog 8 = .ok (.invokestatic 90, 3) := by decide +kernel
theorem dX6_isLog_11 : decode cX6_isLog 11 = .ok (.ireturn, 1) := by decide +kernel
set_option maxRecDepth 20000 in
theorem ggX6_stageOf_X6_isLog : GoodIn wsX6_stageOf wsX6_isLog := goodIn_r _ [6, 7, 8, 9, 5, 10, 16, 17, 18, 19, 20, 21, 22, 23, 24, 25, 26, 27, 28, 29, 30, 31, 32, 33, 34, 35, 36, 37, 38, 39, 40, 41, 42, 43, 44, 45] (by decide +kernel) (by decide +kernel)
set_option maxRecDepth 20000 in
theorem gX6_stageOf_X6_isLog : GoodIn wsX6_stageOf (wsV RX6 199 RX6 yX6_isLog wsX6_isLog) := goodIn_app (goodIn_of _ (by decide +kernel)) ggX6_stageOf_X6_isLog
set_option maxRecDepth 20000 in
theorem ggX6_stageOf_X6_isFine : GoodIn wsX6_stageOf wsX6_isFine := goodIn_r _ [14, 15, 16, 17, 18, 19, 20, 21, 22, 23, 24, 25, 26, 27, 28, 29, 30, 31, 32, 33, 34, 35, 36, 37, 38, 39, 40, 41, 42, 43, 44, 45] (by decide +kernel) (by decide +kernel)
set_option maxRecDepth 20000 in
theorem gX6_stageOf_X6_isFine : GoodIn wsX6_stageOf (wsV RX6 94 RX6 yX6_isFine wsX6_isFine) := goodIn_app (goodIn_of _ (by decide +kernel)) ggX6_stageOf_X6_isFine
theorem dX6_stageOf_0 : decode cX6_stageOf 0 = .ok (.aload_n 0, 1) := by decide +kernel
theorem dX6_stageOf_1 : decode cX6_stageOf 1 = .ok (.aload_n 0, 1) := by decide +kernel
theorem dX6_stageOf_2 : decode cX6_stageOf 2 = .ok (.iload_n 1, 1) := by decide +kernel
theorem dX6_stageOf_3 : decode cX6_stageOf 3 = .ok (.invokevirtual 199, 3) := by decide +kernel
theorem dX6_stageOf_6 : decode cX6_stageOf 6 = .ok (.ifCond .eq 7, 3) := by decide +kernel
theorem dX6_stageOf_9 : decode cX6_stageOf 9 = .ok (.iconst 0, 1) := by decide +kernel
theorem dX6_stageOf_10 : decode cX6_stageOf 10 = .ok (.goto 4, 3) := by decide +kernel
theorem dX6_stageOf_13 : decode cX6_stageOf 13 = .ok (.iconst 1, 1) := by decide +kernel
theorem dX6_stageOf_14 : decode cX6_stageOf 14 = .ok (.invokevirtual 94, 3) := by decide +kernel
theorem dX6_stageOf_17 : decode cX6_stageOf 17 = .ok (.ifCond .eq 12, 3) := by decide +kernel
theorem dX6_stageOf_20 : decode cX6_stageOf 20 = .ok (.aload_n 0, 1) := by decide +kernel
theorem dX6_stageOf_21 : decode cX6_stageOf 21 = .ok (.getfield 59, 3) := by decide +kernel
theorem dX6_stageOf_24 : decode cX6_stageOf 24 = .ok (.iload_n 1, 1) := by decide +kernel
theorem dX6_stageOf_25 : decode cX6_stageOf 25 = .ok (.iaload, 1) := by decide +kernel
theorem dX6_stageOf_26 : decode cX6_stageOf 26 = .ok (.goto 4, 3) := by decide +kernel
theorem dX6_stageOf_29 : decode cX6_stageOf 29 = .ok (.iconst 0, 1) := by decide +kernel
theorem dX6_stageOf_30 : decode cX6_stageOf 30 = .ok (.ireturn, 1) := by decide +kernel
set_option maxRecDepth 20000 in
theorem ggX6_wasShortOf_X6_isLog : GoodIn wsX6_wasShortOf wsX6_isLog := goodIn_r _ [6, 7, 8, 9, 5, 10, 21, 22, 23, 24, 25, 26, 27, 28, 29, 30, 31, 32, 33, 34, 35, 36, 37, 38, 39, 40, 41, 42, 43, 44, 45, 46, 47, 48, 49, 50] (by decide +kernel) (by decide +kernel)
set_option maxRecDepth 20000 in
theorem gX6_wasShortOf_X6_isLog : GoodIn wsX6_wasShortOf (wsV RX6 199 RX6 yX6_isLog wsX6_isLog) := goodIn_app (goodIn_of _ (by decide +kernel)) ggX6_wasShortOf_X6_isLog
set_option maxRecDepth 20000 in
theorem ggX6_wasShortOf_X6_isLine : GoodIn wsX6_wasShortOf wsX6_isLine := goodIn_r _ [14, 15, 8, 9, 5, 10, 21, 22, 23, 24, 25, 26, 27, 28, 29, 30, 31, 32, 33, 34, 35, 36, 37, 38, 39, 40, 41, 42, 43, 44, 45, 46, 47, 48, 49, 50] (by decide +kernel) (by decide +kernel)
set_option maxRecDepth 20000 in
theorem gX6_wasShortOf_X6_isLine : GoodIn wsX6_wasShortOf (wsV RX6 98 RX6 yX6_isLine wsX6_isLine) := goodIn_app (goodIn_of _ (by decide +kernel)) ggX6_wasShortOf_X6_isLine
set_option maxRecDepth 20000 in
theorem ggX6_wasShortOf_X6_isFine : GoodIn wsX6_wasShortOf wsX6_isFine := goodIn_r _ [19, 20, 21, 22, 23, 24, 25, 26, 27, 28, 29, 30, 31, 32, 33, 34, 35, 36, 37, 38, 39, 40, 41, 42, 43, 44, 45, 46, 47, 48, 49, 50] (by decide +kernel) (by decide +kernel)
set_option maxRecDepth 20000 in
theorem gX6_wasShortOf_X6_isFine : GoodIn wsX6_wasShortOf (wsV RX6 94 RX6 yX6_isFine wsX6_isFine) := goodIn_app (goodIn_of _ (by decide +kernel)) ggX6_wasShortOf_X6_isFine
theorem dX6_wasShortOf_0 : decode cX6_wasShortOf 0 = .ok (.aload_n 0, 1) := by decide +kernel
theorem dX6_wasShortOf_1 : decode cX6_wasShortOf 1 = .ok (.aload_n 0, 1) := by decide +kernel
theorem dX6_wasShortOf_2 : decode cX6_wasShortOf 2 = .ok (.iload_n 1, 1) := by decide +kernel
theorem dX6_wasShortOf_3 : decode cX6_wasShortOf 3 = .ok (.invokevirtual 199, 3) := by decide +kernel
theorem dX6_wasShortOf_6 : decode cX6_wasShortOf 6 = .ok (.ifCond .eq 15, 3) := by decide +kernel
theorem dX6_wasShortOf_9 : decode cX6_wasShortOf 9 = .ok (.aload_n 0, 1) := by decide +kernel
theorem dX6_wasShortOf_10 : decode cX6_wasShortOf 10 = .ok (.iload_n 2, 1) := by decide +kernel
theorem dX6_wasShortOf_11 : decode cX6_wasShortOf 11 = .ok (.invokevirtual 98, 3) := by decide +kernel
theorem dX6_wasShortOf_14 : decode cX6_wasShortOf 14 = .ok (.ifCond .eq 7, 3) := by decide +kernel
theorem dX6_wasShortOf_17 : decode cX6_wasShortOf 17 = .ok (.iconst 0, 1) := by decide +kernel
theorem dX6_wasShortOf_18 : decode cX6_wasShortOf 18 = .ok (.goto 4, 3) := by decide +kernel
theorem dX6_wasShortOf_21 : decode cX6_wasShortOf 21 = .ok (.iconst 1, 1) := by decide +kernel
theorem dX6_wasShortOf_22 : decode cX6_wasShortOf 22 = .ok (.invokevirtual 94, 3) := by decide +kernel
theorem dX6_wasShortOf_25 : decode cX6_wasShortOf 25 = .ok (.ifCond .eq 17, 3) := by decide +kernel
theorem dX6_wasShortOf_28 : decode cX6_wasShortOf 28 = .ok (.aload_n 0, 1) := by decide +kernel
theorem dX6_wasShortOf_29 : decode cX6_wasShortOf 29 = .ok (.getfield 62, 3) := by decide +kernel
theorem dX6_wasShortOf_32 : decode cX6_wasShortOf 32 = .ok (.bipush 30, 2) := by decide +kernel
theorem dX6_wasShortOf_34 : decode cX6_wasShortOf 34 = .ok (.iload_n 1, 1) := by decide +kernel
theorem dX6_wasShortOf_35 : decode cX6_wasShortOf 35 = .ok (.imul, 1) := by decide +kernel
theorem dX6_wasShortOf_36 : decode cX6_wasShortOf 36 = .ok (.iload_n 2, 1) := by decide +kernel
theorem dX6_wasShortOf_37 : decode cX6_wasShortOf 37 = .ok (.iadd, 1) := by decide +kernel
theorem dX6_wasShortOf_38 : decode cX6_wasShortOf 38 = .ok (.iaload, 1) := by decide +kernel
theorem dX6_wasShortOf_39 : decode cX6_wasShortOf 39 = .ok (.goto 4, 3) := by decide +kernel
theorem dX6_wasShortOf_42 : decode cX6_wasShortOf 42 = .ok (.iconst 0, 1) := by decide +kernel
theorem dX6_wasShortOf_43 : decode cX6_wasShortOf 43 = .ok (.ireturn, 1) := by decide +kernel
set_option maxRecDepth 20000 in
theorem ggX6_timesShort_X6_isLine : GoodIn wsX6_timesShort wsX6_isLine := goodIn_r _ [7, 8, 9, 10, 6, 11, 17, 18, 19, 20, 21, 22, 23, 24, 25, 26, 27, 28, 29, 30, 31, 32, 33, 34, 35, 36, 37, 38, 39, 40, 41, 42, 43, 44, 45, 46] (by decide +kernel) (by decide +kernel)
set_option maxRecDepth 20000 in
theorem gX6_timesShort_X6_isLine : GoodIn wsX6_timesShort (wsV RX6 98 RX6 yX6_isLine wsX6_isLine) := goodIn_app (goodIn_of _ (by decide +kernel)) ggX6_timesShort_X6_isLine
set_option maxRecDepth 20000 in
theorem ggX6_timesShort_X6_isFine : GoodIn wsX6_timesShort wsX6_isFine := goodIn_r _ [15, 16, 17, 18, 19, 20, 21, 22, 23, 24, 25, 26, 27, 28, 29, 30, 31, 32, 33, 34, 35, 36, 37, 38, 39, 40, 41, 42, 43, 44, 45, 46] (by decide +kernel) (by decide +kernel)
set_option maxRecDepth 20000 in
theorem gX6_timesShort_X6_isFine : GoodIn wsX6_timesShort (wsV RX6 94 RX6 yX6_isFine wsX6_isFine) := goodIn_app (goodIn_of _ (by decide +kernel)) ggX6_timesShort_X6_isFine
theorem dX6_timesShort_0 : decode cX6_timesShort 0 = .ok (.aload_n 0, 1) := by decide +kernel
theorem dX6_timesShort_1 : decode cX6_timesShort 1 = .ok (.aload_n 0, 1) := by decide +kernel
theorem dX6_timesShort_2 : decode cX6_timesShort 2 = .ok (.iload_n 1, 1) := by decide +kernel
theorem dX6_timesShort_3 : decode cX6_timesShort 3 = .ok (.invokevirtual 98, 3) := by decide +kernel
theorem dX6_timesShort_6 : decode cX6_timesShort 6 = .ok (.ifCond .eq 7, 3) := by decide +kernel
theorem dX6_timesShort_9 : decode cX6_timesShort 9 = .ok (.iconst 0, 1) := by decide +kernel
theorem dX6_timesShort_10 : decode cX6_timesShort 10 = .ok (.goto 4, 3) := by decide +kernel
theorem dX6_timesShort_13 : decode cX6_timesShort 13 = .ok (.iconst 1, 1) := by decide +kernel
theorem dX6_timesShort_14 : decode cX6_timesShort 14 = .ok (.invokevirtual 94, 3) := by decide +kernel
theorem dX6_timesShort_17 : decode cX6_timesShort 17 = .ok (.ifCond .ne 5, 3) := by decide +kernel
theorem dX6_timesShort_20 : decode cX6_timesShort 20 = .ok (.iconst 0, 1) := by decide +kernel
theorem dX6_timesShort_21 : decode cX6_timesShort 21 = .ok (.ireturn, 1) := by decide +kernel
theorem dX6_timesShort_22 : decode cX6_timesShort 22 = .ok (.iconst 0, 1) := by decide +kernel
theorem dX6_timesShort_23 : decode cX6_timesShort 23 = .ok (.istore_n 2, 1) := by decide +kernel
theorem dX6_timesShort_24 : decode cX6_timesShort 24 = .ok (.iconst 0, 1) := by decide +kernel
theorem dX6_timesShort_25 : decode cX6_timesShort 25 = .ok (.istore_n 3, 1) := by decide +kernel
theorem dX6_timesShort_26 : decode cX6_timesShort 26 = .ok (.iload_n 3, 1) := by decide +kernel
theorem dX6_timesShort_27 : decode cX6_timesShort 27 = .ok (.aload_n 0, 1) := by decide +kernel
theorem dX6_timesShort_28 : decode cX6_timesShort 28 = .ok (.getfield 193, 3) := by decide +kernel
theorem dX6_timesShort_31 : decode cX6_timesShort 31 = .ok (.if_icmp .ge 31, 3) := by decide +kernel
theorem dX6_timesShort_34 : decode cX6_timesShort 34 = .ok (.iload_n 2, 1) := by decide +kernel
theorem dX6_timesShort_35 : decode cX6_timesShort 35 = .ok (.aload_n 0, 1) := by decide +kernel
theorem dX6_timesShort_36 : decode cX6_timesShort 36 = .ok (.getfield 62, 3) := by decide +kernel
theorem dX6_timesShort_39 : decode cX6_timesShort 39 = .ok (.bipush 30, 2) := by decide +kernel
theorem dX6_timesShort_41 : decode cX6_timesShort 41 = .ok (.iload_n 3, 1) := by decide +kernel
theorem dX6_timesShort_42 : decode cX6_timesShort 42 = .ok (.imul, 1) := by decide +kernel
theorem dX6_timesShort_43 : decode cX6_timesShort 43 = .ok (.iload_n 1, 1) := by decide +kernel
theorem dX6_timesShort_44 : decode cX6_timesShort 44 = .ok (.iadd, 1) := by decide +kernel
theorem dX6_timesShort_45 : decode cX6_timesShort 45 = .ok (.iaload, 1) := by decide +kernel
theorem dX6_timesShort_46 : decode cX6_timesShort 46 = .ok (.ifCond .eq 7, 3) := by decide +kernel
theorem dX6_timesShort_49 : decode cX6_timesShort 49 = .ok (.iconst 1, 1) := by decide +kernel
theorem dX6_timesShort_50 : decode cX6_timesShort 50 = .ok (.goto 4, 3) := by decide +kernel
theorem dX6_timesShort_53 : decode cX6_timesShort 53 = .ok (.iconst 0, 1) := by decide +kernel
theorem dX6_timesShort_54 : decode cX6_timesShort 54 = .ok (.iadd, 1) := by decide +kernel
theorem dX6_timesShort_55 : decode cX6_timesShort 55 = .ok (.istore_n 2, 1) := by decide +kernel
theorem dX6_timesShort_56 : decode cX6_timesShort 56 = .ok (.iinc 3 1, 3) := by decide +kernel
theorem dX6_timesShort_59 : decode cX6_timesShort 59 = .ok (.goto (-33), 3) := by decide +kernel
theorem dX6_timesShort_62 : decode cX6_timesShort 62 = .ok (.iload_n 2, 1) := by decide +kernel
theorem dX6_timesShort_63 : decode cX6_timesShort 63 = .ok (.ireturn, 1) := by decide +kernel
set_option maxRecDepth 20000 in
theorem ggL_addLine_X5_addLine : GoodIn wsL_addLine wsX5_addLine := goodIn_ca (goodIn_ca (goodIn_r _ [7, 8, 9, 10, 6, 11, 12, 13, 14, 15, 16, 17, 18, 19, 20, 21, 22, 23, 24, 25, 26, 27, 28, 29, 30, 31, 32, 33, 34, 35, 36, 37] (by decide +kernel) (by decide +kernel)) (goodIn_sub (fun _ h => List.mem_cons_of_mem _ (List.mem_append_left _ (List.mem_append_right _ h))) (by decide +kernel))) (goodIn_sub (fun _ h => List.mem_cons_of_mem _ (List.mem_append_right _ h)) (by decide +kernel))
set_option maxRecDepth 20000 in
theorem gL_addLine_X5_addLine : GoodIn wsL_addLine (wsV RL 7 RX5 yX5_addLine wsX5_addLine) := goodIn_app (goodIn_of _ (by decide +kernel)) ggL_addLine_X5_addLine
