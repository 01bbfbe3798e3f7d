theorem dX0_init_0 : decode cX0_init 0 = .ok (.aload_n 0, 1) := by decide +kernel
theorem dX0_init_1 : decode cX0_init 1 = .ok (.invokespecial 3, 3) := by decide +kernel
theorem dX0_init_4 : decode cX0_init 4 = .ok (.aload_n 0, 1) := by decide +kernel
theorem dX0_init_5 : decode cX0_init 5 = .ok (.bipush 20, 2) := by decide +kernel
theorem dX0_init_7 : decode cX0_init 7 = .ok (.newarray .int, 2) := by decide +kernel
theorem dX0_init_9 : decode cX0_init 9 = .ok (.putfield 9, 3) := by decide +kernel
theorem dX0_init_12 : decode cX0_init 12 = .ok (.aload_n 0, 1) := by decide +kernel
theorem dX0_init_13 : decode cX0_init 13 = .ok (.bipush 20, 2) := by decide +kernel
theorem dX0_init_15 : decode cX0_init 15 = .ok (.bipush 30, 2) := by decide +kernel
theorem dX0_init_17 : decode cX0_init 17 = .ok (.multianewarray 15 2, 4) := by decide +kernel
theorem dX0_init_21 : decode cX0_init 21 = .ok (.putfield 17, 3) := by decide +kernel
theorem dX0_init_24 : decode cX0_init 24 = .ok (.aload_n 0, 1) := by decide +kernel
theorem dX0_init_25 : decode cX0_init 25 = .ok (.iconst 0, 1) := by decide +kernel
theorem dX0_init_26 : decode cX0_init 26 = .ok (.putfield 20, 3) := by decide +kernel
theorem dX0_init_29 : decode cX0_init 29 = .ok (.return_, 1) := by decide +kernel
theorem dX0_append_0 : decode cX0_append 0 = .ok (.aload_n 0, 1) := by decide +kernel
theorem dX0_append_1 : decode cX0_append 1 = .ok (.getfield 9, 3) := by decide +kernel
theorem dX0_append_4 : decode cX0_append 4 = .ok (.aload_n 0, 1) := by decide +kernel
theorem dX0_append_5 : decode cX0_append 5 = .ok (.getfield 20, 3) := by decide +kernel
theorem dX0_append_8 : decode cX0_append 8 = .ok (.iload_n 1, 1) := by decide +kernel
theorem dX0_append_9 : decode cX0_append 9 = .ok (.iastore, 1) := by decide +kernel
theorem dX0_append_10 : decode cX0_append 10 = .ok (.aload_n 0, 1) := by decide +kernel
theorem dX0_append_11 : decode cX0_append 11 = .ok (.dup, 1) := by decide +kernel
theorem dX0_append_12 : decode cX0_append 12 = .ok (.getfield 20, 3) := by decide +kernel
theorem dX0_append_15 : decode cX0_append 15 = .ok (.iconst 1, 1) := by decide +kernel
theorem dX0_append_16 : decode cX0_append 16 = .ok (.iadd, 1) := by decide +kernel
theorem dX0_append_17 : decode cX0_append 17 = .ok (.putfield 20, 3) := by decide +kernel
theorem dX0_append_20 : decode cX0_append 20 = .ok (.aload_n 0, 1) := by decide +kernel
theorem dX0_append_21 : decode cX0_append 21 = .ok (.getfield 20, 3) := by decide +kernel
theorem dX0_append_24 : decode cX0_append 24 = .ok (.iconst 1, 1) := by decide +kernel
theorem dX0_append_25 : decode cX0_append 25 = .ok (.isub, 1) := by decide +kernel
theorem dX0_append_26 : decode cX0_append 26 = .ok (.ireturn, 1) := by decide +kernel
theorem dX0_countShortLogs_0 : decode cX0_countShortLogs 0 = .ok (.iconst 0, 1) := by decide +kernel
theorem dX0_countShortLogs_1 : decode cX0_countShortLogs 1 = .ok (.istore_n 2, 1) := by decide +kernel
theorem dX0_countShortLogs_2 : decode cX0_countShortLogs 2 = .ok (.iconst 0, 1) := by decide +kernel
theorem dX0_countShortLogs_3 : decode cX0_countShortLogs 3 = .ok (.istore_n 3, 1) := by decide +kernel
theorem dX0_countShortLogs_4 : decode cX0_countShortLogs 4 = .ok (.iload_n 3, 1) := by decide +kernel
theorem dX0_countShortLogs_5 : decode cX0_countShortLogs 5 = .ok (.aload_n 0, 1) := by decide +kernel
theorem dX0_countShortLogs_6 : decode cX0_countShortLogs 6 = .ok (.getfield 20, 3) := by decide +kernel
theorem dX0_countShortLogs_9 : decode cX0_countShortLogs 9 = .ok (.if_icmp .ge 23, 3) := by decide +kernel
theorem dX0_countShortLogs_12 : decode cX0_countShortLogs 12 = .ok (.aload_n 0, 1) := by decide +kernel
theorem dX0_countShortLogs_13 : decode cX0_countShortLogs 13 = .ok (.getfield 17, 3) := by decide +kernel
theorem dX0_countShortLogs_16 : decode cX0_countShortLogs 16 = .ok (.iload_n 3, 1) := by decide +kernel
theorem dX0_countShortLogs_17 : decode cX0_countShortLogs 17 = .ok (.aaload, 1) := by decide +kernel
theorem dX0_countShortLogs_18 : decode cX0_countShortLogs 18 = .ok (.iload_n 1, 1) := by decide +kernel
theorem dX0_countShortLogs_19 : decode cX0_countShortLogs 19 = .ok (.iaload, 1) := by decide +kernel
theorem dX0_countShortLogs_20 : decode cX0_countShortLogs 20 = .ok (.ifCond .eq 6, 3) := by decide +kernel
theorem dX0_countShortLogs_23 : decode cX0_countShortLogs 23 = .ok (.iinc 2 1, 3) := by decide +kernel
theorem dX0_countShortLogs_26 : decode cX0_countShortLogs 26 = .ok (.iinc 3 1, 3) := by decide +kernel
theorem dX0_countShortLogs_29 : decode cX0_countShortLogs 29 = .ok (.goto (-25), 3) := by decide +kernel
theorem dX0_countShortLogs_32 : decode cX0_countShortLogs 32 = .ok (.iload_n 2, 1) := by decide +kernel
theorem dX0_countShortLogs_33 : decode cX0_countShortLogs 33 = .ok (.ireturn, 1) := by decide +kernel
theorem dX1_init_0 : decode cX1_init 0 = .ok (.aload_n 0, 1) := by decide +kernel
theorem dX1_init_1 : decode cX1_init 1 = .ok (.invokespecial 3, 3) := by decide +kernel
theorem dX1_init_4 : decode cX1_init 4 = .ok (.aload_n 0, 1) := by decide +kernel
theorem dX1_init_5 : decode cX1_init 5 = .ok (.bipush 20, 2) := by decide +kernel
theorem dX1_init_7 : decode cX1_init 7 = .ok (.newarray .int, 2) := by decide +kernel
theorem dX1_init_9 : decode cX1_init 9 = .ok (.putfield 9, 3) := by decide +kernel
theorem dX1_init_12 : decode cX1_init 12 = .ok (.aload_n 0, 1) := by decide +kernel
theorem dX1_init_13 : decode cX1_init 13 = .ok (.bipush 20, 2) := by decide +kernel
theorem dX1_init_15 : decode cX1_init 15 = .ok (.newarray .int, 2) := by decide +kernel
theorem dX1_init_17 : decode cX1_init 17 = .ok (.putfield 15, 3) := by decide +kernel
theorem dX1_init_20 : decode cX1_init 20 = .ok (.aload_n 0, 1) := by decide +kernel
theorem dX1_init_21 : decode cX1_init 21 = .ok (.bipush 20, 2) := by decide +kernel
theorem dX1_init_23 : decode cX1_init 23 = .ok (.newarray .int, 2) := by decide +kernel
theorem dX1_init_25 : decode cX1_init 25 = .ok (.putfield 18, 3) := by decide +kernel
theorem dX1_init_28 : decode cX1_init 28 = .ok (.aload_n 0, 1) := by decide +kernel
theorem dX1_init_29 : decode cX1_init 29 = .ok (.bipush 20, 2) := by decide +kernel
theorem dX1_init_31 : decode cX1_init 31 = .ok (.bipush 10, 2) := by decide +kernel
theorem dX1_init_33 : decode cX1_init 33 = .ok (.multianewarray 21 2, 4) := by decide +kernel
theorem dX1_init_37 : decode cX1_init 37 = .ok (.putfield 23, 3) := by decide +kernel
theorem dX1_init_40 : decode cX1_init 40 = .ok (.aload_n 0, 1) := by decide +kernel
theorem dX1_init_41 : decode cX1_init 41 = .ok (.iconst 0, 1) := by decide +kernel
theorem dX1_init_42 : decode cX1_init 42 = .ok (.putfield 26, 3) := by decide +kernel
theorem dX1_init_45 : decode cX1_init 45 = .ok (.aload_n 0, 1) := by decide +kernel
theorem dX1_init_46 : decode cX1_init 46 = .ok (.bipush 20, 2) := by decide +kernel
theorem dX1_init_48 : decode cX1_init 48 = .ok (.newarray .int, 2) := by decide +kernel
theorem dX1_init_50 : decode cX1_init 50 = .ok (.putfield 30, 3) := by decide +kernel
theorem dX1_init_53 : decode cX1_init 53 = .ok (.aload_n 0, 1) := by decide +kernel
theorem dX1_init_54 : decode cX1_init 54 = .ok (.bipush 20, 2) := by decide +kernel
theorem dX1_init_56 : decode cX1_init 56 = .ok (.newarray .int, 2) := by decide +kernel
theorem dX1_init_58 : decode cX1_init 58 = .ok (.putfield 33, 3) := by decide +kernel
theorem dX1_init_61 : decode cX1_init 61 = .ok (.aload_n 0, 1) := by decide +kernel
theorem dX1_init_62 : decode cX1_init 62 = .ok (.bipush 20, 2) := by decide +kernel
theorem dX1_init_64 : decode cX1_init 64 = .ok (.newarray .int, 2) := by decide +kernel
theorem dX1_init_66 : decode cX1_init 66 = .ok (.putfield 36, 3) := by decide +kernel
theorem dX1_init_69 : decode cX1_init 69 = .ok (.aload_n 0, 1) := by decide +kernel
theorem dX1_init_70 : decode cX1_init 70 = .ok (.bipush 20, 2) := by decide +kernel
theorem dX1_init_72 : decode cX1_init 72 = .ok (.bipush 10, 2) := by decide +kernel
theorem dX1_init_74 : decode cX1_init 74 = .ok (.multianewarray 21 2, 4) := by decide +kernel
theorem dX1_init_78 : decode cX1_init 78 = .ok (.putfield 39, 3) := by decide +kernel
theorem dX1_init_81 : decode cX1_init 81 = .ok (.aload_n 0, 1) := by decide +kernel
theorem dX1_init_82 : decode cX1_init 82 = .ok (.bipush 20, 2) := by decide +kernel
theorem dX1_init_84 : decode cX1_init 84 = .ok (.newarray .int, 2) := by decide +kernel
theorem dX1_init_86 : decode cX1_init 86 = .ok (.putfield 42, 3) := by decide +kernel
theorem dX1_init_89 : decode cX1_init 89 = .ok (.aload_n 0, 1) := by decide +kernel
theorem dX1_init_90 : decode cX1_init 90 = .ok (.iconst 0, 1) := by decide +kernel
theorem dX1_init_91 : decode cX1_init 91 = .ok (.putfield 45, 3) := by decide +kernel
theorem dX1_init_94 : decode cX1_init 94 = .ok (.return_, 1) := by decide +kernel
theorem dX1_append_0 : decode cX1_append 0 = .ok (.iconst 0, 1) := by decide +kernel
theorem dX1_append_1 : decode cX1_append 1 = .ok (.istore_n 1, 1) := by decide +kernel
theorem dX1_append_2 : decode cX1_append 2 = .ok (.iload_n 1, 1) := by decide +kernel
theorem dX1_append_3 : decode cX1_append 3 = .ok (.bipush 10, 2) := by decide +kernel
theorem dX1_append_5 : decode cX1_append 5 = .ok (.if_icmp .ge 21, 3) := by decide +kernel
theorem dX1_append_8 : decode cX1_append 8 = .ok (.aload_n 0, 1) := by decide +kernel
theorem dX1_append_9 : decode cX1_append 9 = .ok (.getfield 23, 3) := by decide +kernel
theorem dX1_append_12 : decode cX1_append 12 = .ok (.aload_n 0, 1) := by decide +kernel
theorem dX1_append_13 : decode cX1_append 13 = .ok (.getfield 26, 3) := by decide +kernel
theorem dX1_append_16 : decode cX1_append 16 = .ok (.aaload, 1) := by decide +kernel
theorem dX1_append_17 : decode cX1_append 17 = .ok (.iload_n 1, 1) := by decide +kernel
theorem dX1_append_18 : decode cX1_append 18 = .ok (.iconst (-1), 1) := by decide +kernel
theorem dX1_append_19 : decode cX1_append 19 = .ok (.iastore, 1) := by decide +kernel
theorem dX1_append_20 : decode cX1_append 20 = .ok (.iinc 1 1, 3) := by decide +kernel
theorem dX1_append_23 : decode cX1_append 23 = .ok (.goto (-21), 3) := by decide +kernel
theorem dX1_append_26 : decode cX1_append 26 = .ok (.aload_n 0, 1) := by decide +kernel
theorem dX1_append_27 : decode cX1_append 27 = .ok (.dup, 1) := by decide +kernel
theorem dX1_append_28 : decode cX1_append 28 = .ok (.getfield 26, 3) := by decide +kernel
theorem dX1_append_31 : decode cX1_append 31 = .ok (.iconst 1, 1) := by decide +kernel
theorem dX1_append_32 : decode cX1_append 32 = .ok (.iadd, 1) := by decide +kernel
theorem dX1_append_33 : decode cX1_append 33 = .ok (.putfield 26, 3) := by decide +kernel
theorem dX1_append_36 : decode cX1_append 36 = .ok (.aload_n 0, 1) := by decide +kernel
theorem dX1_append_37 : decode cX1_append 37 = .ok (.getfield 26, 3) := by decide +kernel
theorem dX1_append_40 : decode cX1_append 40 = .ok (.iconst 1, 1) := by decide +kernel
theorem dX1_append_41 : decode cX1_append 41 = .ok (.isub, 1) := by decide +kernel
theorem dX1_append_42 : decode cX1_append 42 = .ok (.ireturn, 1) := by decide +kernel
theorem dX1_place_0 : decode cX1_place 0 = .ok (.aload_n 0, 1) := by decide +kernel
theorem dX1_place_1 : decode cX1_place 1 = .ok (.getfield 9, 3) := by decide +kernel
theorem dX1_place_4 : decode cX1_place 4 = .ok (.iload_n 1, 1) := by decide +kernel
theorem dX1_place_5 : decode cX1_place 5 = .ok (.iload_n 2, 1) := by decide +kernel
theorem dX1_place_6 : decode cX1_place 6 = .ok (.iastore, 1) := by decide +kernel
theorem dX1_place_7 : decode cX1_place 7 = .ok (.aload_n 0, 1) := by decide +kernel
theorem dX1_place_8 : decode cX1_place 8 = .ok (.getfield 15, 3) := by decide +kernel
theorem dX1_place_11 : decode cX1_place 11 = .ok (.iload_n 1, 1) := by decide +kernel
theorem dX1_place_12 : decode cX1_place 12 = .ok (.iload_n 3, 1) := by decide +kernel
theorem dX1_place_13 : decode cX1_place 13 = .ok (.iastore, 1) := by decide +kernel
theorem dX1_place_14 : decode cX1_place 14 = .ok (.aload_n 0, 1) := by decide +kernel
theorem dX1_place_15 : decode cX1_place 15 = .ok (.getfield 18, 3) := by decide +kernel
theorem dX1_place_18 : decode cX1_place 18 = .ok (.iload_n 1, 1) := by decide +kernel
theorem dX1_place_19 : decode cX1_place 19 = .ok (.iload 4, 2) := by decide +kernel
theorem dX1_place_21 : decode cX1_place 21 = .ok (.iastore, 1) := by decide +kernel
theorem dX1_place_22 : decode cX1_place 22 = .ok (.return_, 1) := by decide +kernel
set_option maxRecDepth 20000 in
theorem ggX1_arrange_X1_sortCues : GoodIn wsX1_arrange wsX1_sortCues := goodIn_r _ [5, 6, 7, 8, 9, 10, 4, 11, 12, 13, 51, 52, 53, 54, 55, 56, 57, 58, 59, 60, 61] (by decide +kernel) (by decide +kernel)
set_option maxRecDepth 20000 in
theorem gX1_arrange_X1_sortCues : GoodIn wsX1_arrange (wsV RX1 48 RX1 yX1_sortCues wsX1_sortCues) := goodIn_app (goodIn_of _ (by decide +kernel)) ggX1_arrange_X1_sortCues
set_option maxRecDepth 20000 in
theorem ggX1_arrange_X1_setTimes : GoodIn wsX1_arrange wsX1_setTimes := goodIn_r _ [17, 6, 12, 18, 13, 19, 20, 21, 22, 23, 24, 25, 51, 52, 53, 54, 55, 56, 57, 58, 59, 60, 61, 62, 63, 64, 65] (by decide +kernel) (by decide +kernel)
set_option maxRecDepth 20000 in
theorem gX1_arrange_X1_setTimes : GoodIn wsX1_arrange (wsV RX1 51 RX1 yX1_setTimes wsX1_setTimes) := goodIn_app (goodIn_of _ (by decide +kernel)) ggX1_arrange_X1_setTimes
set_option maxRecDepth 20000 in
theorem ggX1_arrange_X1_fold : GoodIn wsX1_arrange wsX1_fold := goodIn_r _ [29, 6, 7, 18, 30, 31, 32, 33, 4, 34, 35, 36, 37, 38, 39, 40, 51, 52, 53, 54, 55, 56, 57, 58, 59, 60, 61] (by decide +kernel) (by decide +kernel)
set_option maxRecDepth 20000 in
theorem gX1_arrange_X1_fold : GoodIn wsX1_arrange (wsV RX1 55 RX1 yX1_fold wsX1_fold) := goodIn_app (goodIn_of _ (by decide +kernel)) ggX1_arrange_X1_fold
set_option maxRecDepth 20000 in
theorem ggX1_arrange_X1_sortPlays : GoodIn wsX1_arrange wsX1_sortPlays := goodIn_r _ [44, 45, 6, 18, 7, 46, 47, 48, 4, 49, 50, 51, 52, 53, 54, 55, 56, 57, 58, 59, 60, 61] (by decide +kernel) (by decide +kernel)
set_option maxRecDepth 20000 in
theorem gX1_arrange_X1_sortPlays : GoodIn wsX1_arrange (wsV RX1 58 RX1 yX1_sortPlays wsX1_sortPlays) := goodIn_app (goodIn_of _ (by decide +kernel)) ggX1_arrange_X1_sortPlays
theorem dX1_arrange_0 : decode cX1_arrange 0 = .ok (.aload_n 0, 1) := by decide +kernel
theorem dX1_arrange_1 : decode cX1_arrange 1 = .ok (.invokevirtual 48, 3) := by decide +kernel
theorem dX1_arrange_4 : decode cX1_arrange 4 = .ok (.aload_n 0, 1) := by decide +kernel
theorem dX1_arrange_5 : decode cX1_arrange 5 = .ok (.aload_n 1, 1) := by decide +kernel
theorem dX1_arrange_6 : decode cX1_arrange 6 = .ok (.invokevirtual 51, 3) := by decide +kernel
theorem dX1_arrange_9 : decode cX1_arrange 9 = .ok (.aload_n 0, 1) := by decide +kernel
theorem dX1_arrange_10 : decode cX1_arrange 10 = .ok (.invokevirtual 55, 3) := by decide +kernel
theorem dX1_arrange_13 : decode cX1_arrange 13 = .ok (.aload_n 0, 1) := by decide +kernel
theorem dX1_arrange_14 : decode cX1_arrange 14 = .ok (.invokevirtual 58, 3) := by decide +kernel
theorem dX1_arrange_17 : decode cX1_arrange 17 = .ok (.return_, 1) := by decide +kernel
set_option maxRecDepth 20000 in
theorem ggX1_sortCues_X1_comesAhead : GoodIn wsX1_sortCues wsX1_comesAhead := goodIn_r _ [7, 8, 9, 10, 11, 12, 13, 14, 15, 16, 17, 18, 19, 20] (by decide +kernel) (by decide +kernel)
set_option maxRecDepth 20000 in
theorem gX1_sortCues_X1_comesAhead : GoodIn wsX1_sortCues (wsV RX1 61 RX1 yX1_comesAhead wsX1_comesAhead) := goodIn_app (goodIn_of _ (by decide +kernel)) ggX1_sortCues_X1_comesAhead
theorem dX1_sortCues_0 : decode cX1_sortCues 0 = .ok (.iconst 0, 1) := by decide +kernel
theorem dX1_sortCues_1 : decode cX1_sortCues 1 = .ok (.istore_n 1, 1) := by decide +kernel
theorem dX1_sortCues_2 : decode cX1_sortCues 2 = .ok (.iload_n 1, 1) := by decide +kernel
theorem dX1_sortCues_3 : decode cX1_sortCues 3 = .ok (.aload_n 0, 1) := by decide +kernel
theorem dX1_sortCues_4 : decode cX1_sortCues 4 = .ok (.getfield 26, 3) := by decide +kernel
theorem dX1_sortCues_7 : decode cX1_sortCues 7 = .ok (.if_icmp .ge 58, 3) := by decide +kernel
theorem dX1_sortCues_10 : decode cX1_sortCues 10 = .ok (.iload_n 1, 1) := by decide +kernel
theorem dX1_sortCues_11 : decode cX1_sortCues 11 = .ok (.istore_n 2, 1) := by decide +kernel
theorem dX1_sortCues_12 : decode cX1_sortCues 12 = .ok (.iload_n 2, 1) := by decide +kernel
theorem dX1_sortCues_13 : decode cX1_sortCues 13 = .ok (.ifCond .le 39, 3) := by decide +kernel
theorem dX1_sortCues_16 : decode cX1_sortCues 16 = .ok (.aload_n 0, 1) := by decide +kernel
theorem dX1_sortCues_17 : decode cX1_sortCues 17 = .ok (.iload_n 1, 1) := by decide +kernel
theorem dX1_sortCues_18 : decode cX1_sortCues 18 = .ok (.aload_n 0, 1) := by decide +kernel
theorem dX1_sortCues_19 : decode cX1_sortCues 19 = .ok (.getfield 30, 3) := by decide +kernel
theorem dX1_sortCues_22 : decode cX1_sortCues 22 = .ok (.iload_n 2, 1) := by decide +kernel
theorem dX1_sortCues_23 : decode cX1_sortCues 23 = .ok (.iconst 1, 1) := by decide +kernel
theorem dX1_sortCues_24 : decode cX1_sortCues 24 = .ok (.isub, 1) := by decide +kernel
theorem dX1_sortCues_25 : decode cX1_sortCues 25 = .ok (.iaload, 1) := by decide +kernel
theorem dX1_sortCues_26 : decode cX1_sortCues 26 = .ok (.invokevirtual 61, 3) := by decide +kernel
theorem dX1_sortCues_29 : decode cX1_sortCues 29 = .ok (.ifCond .eq 23, 3) := by decide +kernel
theorem dX1_sortCues_32 : decode cX1_sortCues 32 = .ok (.aload_n 0, 1) := by decide +kernel
theorem dX1_sortCues_33 : decode cX1_sortCues 33 = .ok (.getfield 30, 3) := by decide +kernel
theorem dX1_sortCues_36 : decode cX1_sortCues 36 = .ok (.iload_n 2, 1) := by decide +kernel
theorem dX1_sortCues_37 : decode cX1_sortCues 37 = .ok (.aload_n 0, 1) := by decide +kernel
theorem dX1_sortCues_38 : decode cX1_sortCues 38 = .ok (.getfield 30, 3) := by decide +kernel
theorem dX1_sortCues_41 : decode cX1_sortCues 41 = .ok (.iload_n 2, 1) := by decide +kernel
theorem dX1_sortCues_42 : decode cX1_sortCues 42 = .ok (.iconst 1, 1) := by decide +kernel
theorem dX1_sortCues_43 : decode cX1_sortCues 43 = .ok (.isub, 1) := by decide +kernel
theorem dX1_sortCues_44 : decode cX1_sortCues 44 = .ok (.iaload, 1) := by decide +kernel
theorem dX1_sortCues_45 : decode cX1_sortCues 45 = .ok (.iastore, 1) := by decide +kernel
theorem dX1_sortCues_46 : decode cX1_sortCues 46 = .ok (.iinc 2 (-1), 3) := by decide +kernel
theorem dX1_sortCues_49 : decode cX1_sortCues 49 = .ok (.goto (-37), 3) := by decide +kernel
theorem dX1_sortCues_52 : decode cX1_sortCues 52 = .ok (.aload_n 0, 1) := by decide +kernel
theorem dX1_sortCues_53 : decode cX1_sortCues 53 = .ok (.getfield 30, 3) := by decide +kernel
theorem dX1_sortCues_56 : decode cX1_sortCues 56 = .ok (.iload_n 2, 1) := by decide +kernel
theorem dX1_sortCues_57 : decode cX1_sortCues 57 = .ok (.iload_n 1, 1) := by decide +kernel
theorem dX1_sortCues_58 : decode cX1_sortCues 58 = .ok (.iastore, 1) := by decide +kernel
theorem dX1_sortCues_59 : decode cX1_sortCues 59 = .ok (.iinc 1 1, 3) := by decide +kernel
theorem dX1_sortCues_62 : decode cX1_sortCues 62 = .ok (.goto (-60), 3) := by decide +kernel
theorem dX1_sortCues_65 : decode cX1_sortCues 65 = .ok (.return_, 1) := by decide +kernel
theorem dX1_comesAhead_0 : decode cX1_comesAhead 0 = .ok (.aload_n 0, 1) := by decide +kernel
theorem dX1_comesAhead_1 : decode cX1_comesAhead 1 = .ok (.getfield 9, 3) := by decide +kernel
theorem dX1_comesAhead_4 : decode cX1_comesAhead 4 = .ok (.iload_n 1, 1) := by decide +kernel
theorem dX1_comesAhead_5 : decode cX1_comesAhead 5 = .ok (.iaload, 1) := by decide +kernel
theorem dX1_comesAhead_6 : decode cX1_comesAhead 6 = .ok (.aload_n 0, 1) := by decide +kernel
theorem dX1_comesAhead_7 : decode cX1_comesAhead 7 = .ok (.getfield 9, 3) := by decide +kernel
theorem dX1_comesAhead_10 : decode cX1_comesAhead 10 = .ok (.iload_n 2, 1) := by decide +kernel
theorem dX1_comesAhead_11 : decode cX1_comesAhead 11 = .ok (.iaload, 1) := by decide +kernel
theorem dX1_comesAhead_12 : decode cX1_comesAhead 12 = .ok (.if_icmp .eq 24, 3) := by decide +kernel
theorem dX1_comesAhead_15 : decode cX1_comesAhead 15 = .ok (.aload_n 0, 1) := by decide +kernel
theorem dX1_comesAhead_16 : decode cX1_comesAhead 16 = .ok (.getfield 9, 3) := by decide +kernel
theorem dX1_comesAhead_19 : decode cX1_comesAhead 19 = .ok (.iload_n 1, 1) := by decide +kernel
theorem dX1_comesAhead_20 : decode cX1_comesAhead 20 = .ok (.iaload, 1) := by decide +kernel
theorem dX1_comesAhead_21 : decode cX1_comesAhead 21 = .ok (.aload_n 0, 1) := by decide +kernel
theorem dX1_comesAhead_22 : decode cX1_comesAhead 22 = .ok (.getfield 9, 3) := by decide +kernel
theorem dX1_comesAhead_25 : decode cX1_comesAhead 25 = .ok (.iload_n 2, 1) := by decide +kernel
theorem dX1_comesAhead_26 : decode cX1_comesAhead 26 = .ok (.iaload, 1) := by decide +kernel
theorem dX1_comesAhead_27 : decode cX1_comesAhead 27 = .ok (.if_icmp .ge 7, 3) := by decide +kernel
theorem dX1_comesAhead_30 : decode cX1_comesAhead 30 = .ok (.iconst 1, 1) := by decide +kernel
theorem dX1_comesAhead_31 : decode cX1_comesAhead 31 = .ok (.goto 4, 3) := by decide +kernel
theorem dX1_comesAhead_34 : decode cX1_comesAhead 34 = .ok (.iconst 0, 1) := by decide +kernel
theorem dX1_comesAhead_35 : decode cX1_comesAhead 35 = .ok (.ireturn, 1) := by decide +kernel
theorem dX1_comesAhead_36 : decode cX1_comesAhead 36 = .ok (.aload_n 0, 1) := by decide +kernel
theorem dX1_comesAhead_37 : decode cX1_comesAhead 37 = .ok (.getfield 15, 3) := by decide +kernel
theorem dX1_comesAhead_40 : decode cX1_comesAhead 40 = .ok (.iload_n 1, 1) := by decide +kernel
theorem dX1_comesAhead_41 : decode cX1_comesAhead 41 = .ok (.iaload, 1) := by decide +kernel
theorem dX1_comesAhead_42 : decode cX1_comesAhead 42 = .ok (.aload_n 0, 1) := by decide +kernel
theorem dX1_comesAhead_43 : decode cX1_comesAhead 43 = .ok (.getfield 15, 3) := by decide +kernel
theorem dX1_comesAhead_46 : decode cX1_comesAhead 46 = .ok (.iload_n 2, 1) := by decide +kernel
theorem dX1_comesAhead_47 : decode cX1_comesAhead 47 = .ok (.iaload, 1) := by decide +kernel
theorem dX1_comesAhead_48 : decode cX1_comesAhead 48 = .ok (.if_icmp .ge 7, 3) := by decide +kernel
theorem dX1_comesAhead_51 : decode cX1_comesAhead 51 = .ok (.iconst 1, 1) := by decide +kernel
theorem dX1_comesAhead_52 : decode cX1_comesAhead 52 = .ok (.goto 4, 3) := by decide +kernel
theorem dX1_comesAhead_55 : decode cX1_comesAhead 55 = .ok (.iconst 0, 1) := by decide +kernel
theorem dX1_comesAhead_56 : decode cX1_comesAhead 56 = .ok (.ireturn, 1) := by decide +kernel
set_option maxRecDepth 20000 in
theorem ggX1_setTimes_X4_secondsAhead : GoodIn wsX1_setTimes wsX4_secondsAhead := goodIn_r _ [9, 10, 11, 23, 24, 25, 26] (by decide +kernel) (by decide +kernel)
set_option maxRecDepth 20000 in
theorem gX1_setTimes_X4_secondsAhead : GoodIn wsX1_setTimes (wsV RX1 71 RX4 yX4_secondsAhead wsX4_secondsAhead) := goodIn_app (goodIn_of _ (by decide +kernel)) ggX1_setTimes_X4_secondsAhead
theorem dX1_setTimes_0 : decode cX1_setTimes 0 = .ok (.iconst 0, 1) := by decide +kernel
theorem dX1_setTimes_1 : decode cX1_setTimes 1 = .ok (.istore_n 2, 1) := by decide +kernel
theorem dX1_setTimes_2 : decode cX1_setTimes 2 = .ok (.iload_n 2, 1) := by decide +kernel
theorem dX1_setTimes_3 : decode cX1_setTimes 3 = .ok (.aload_n 0, 1) := by decide +kernel
theorem dX1_setTimes_4 : decode cX1_setTimes 4 = .ok (.getfield 26, 3) := by decide +kernel
theorem dX1_setTimes_7 : decode cX1_setTimes 7 = .ok (.if_icmp .ge 47, 3) := by decide +kernel
theorem dX1_setTimes_10 : decode cX1_setTimes 10 = .ok (.aload_n 0, 1) := by decide +kernel
theorem dX1_setTimes_11 : decode cX1_setTimes 11 = .ok (.getfield 9, 3) := by decide +kernel
theorem dX1_setTimes_14 : decode cX1_setTimes 14 = .ok (.iload_n 2, 1) := by decide +kernel
theorem dX1_setTimes_15 : decode cX1_setTimes 15 = .ok (.iaload, 1) := by decide +kernel
theorem dX1_setTimes_16 : decode cX1_setTimes 16 = .ok (.istore_n 3, 1) := by decide +kernel
theorem dX1_setTimes_17 : decode cX1_setTimes 17 = .ok (.aload_n 0, 1) := by decide +kernel
theorem dX1_setTimes_18 : decode cX1_setTimes 18 = .ok (.getfield 33, 3) := by decide +kernel
theorem dX1_setTimes_21 : decode cX1_setTimes 21 = .ok (.iload_n 2, 1) := by decide +kernel
theorem dX1_setTimes_22 : decode cX1_setTimes 22 = .ok (.aload_n 1, 1) := by decide +kernel
theorem dX1_setTimes_23 : decode cX1_setTimes 23 = .ok (.getfield 65, 3) := by decide +kernel
theorem dX1_setTimes_26 : decode cX1_setTimes 26 = .ok (.iload_n 3, 1) := by decide +kernel
theorem dX1_setTimes_27 : decode cX1_setTimes 27 = .ok (.baload, 1) := by decide +kernel
theorem dX1_setTimes_28 : decode cX1_setTimes 28 = .ok (.ifCond .eq 7, 3) := by decide +kernel
theorem dX1_setTimes_31 : decode cX1_setTimes 31 = .ok (.iconst (-1), 1) := by decide +kernel
theorem dX1_setTimes_32 : decode cX1_setTimes 32 = .ok (.goto 15, 3) := by decide +kernel
theorem dX1_setTimes_35 : decode cX1_setTimes 35 = .ok (.aload_n 1, 1) := by decide +kernel
theorem dX1_setTimes_36 : decode cX1_setTimes 36 = .ok (.iload_n 3, 1) := by decide +kernel
theorem dX1_setTimes_37 : decode cX1_setTimes 37 = .ok (.invokevirtual 71, 3) := by decide +kernel
theorem dX1_setTimes_40 : decode cX1_setTimes 40 = .ok (.aload_n 0, 1) := by decide +kernel
theorem dX1_setTimes_41 : decode cX1_setTimes 41 = .ok (.getfield 15, 3) := by decide +kernel
theorem dX1_setTimes_44 : decode cX1_setTimes 44 = .ok (.iload_n 2, 1) := by decide +kernel
theorem dX1_setTimes_45 : decode cX1_setTimes 45 = .ok (.iaload, 1) := by decide +kernel
theorem dX1_setTimes_46 : decode cX1_setTimes 46 = .ok (.iadd, 1) := by decide +kernel
theorem dX1_setTimes_47 : decode cX1_setTimes 47 = .ok (.iastore, 1) := by decide +kernel
theorem dX1_setTimes_48 : decode cX1_setTimes 48 = .ok (.iinc 2 1, 3) := by decide +kernel
theorem dX1_setTimes_51 : decode cX1_setTimes 51 = .ok (.goto (-49), 3) := by decide +kernel
theorem dX1_setTimes_54 : decode cX1_setTimes 54 = .ok (.return_, 1) := by decide +kernel
set_option maxRecDepth 20000 in
theorem ggX1_fold_X1_forget : GoodIn wsX1_fold wsX1_forget := goodIn_r _ [9, 10, 16, 17, 18, 19, 20, 21, 22, 23, 24, 25, 26] (by decide +kernel) (by decide +kernel)
set_option maxRecDepth 20000 in
theorem gX1_fold_X1_forget : GoodIn wsX1_fold (wsV RX1 75 RX1 yX1_forget wsX1_forget) := goodIn_app (goodIn_of _ (by decide +kernel)) ggX1_fold_X1_forget
set_option maxRecDepth 20000 in
theorem ggX1_fold_X1_fillIn : GoodIn wsX1_fold wsX1_fillIn := goodIn_r _ [14, 10, 15, 16, 17, 18, 19, 20, 21, 22, 23, 24, 25, 26] (by decide +kernel) (by decide +kernel)
set_option maxRecDepth 20000 in
theorem gX1_fold_X1_fillIn : GoodIn wsX1_fold (wsV RX1 79 RX1 yX1_fillIn wsX1_fillIn) := goodIn_app (goodIn_of _ (by decide +kernel)) ggX1_fold_X1_fillIn
theorem dX1_fold_0 : decode cX1_fold 0 = .ok (.iconst (-1), 1) := by decide +kernel
theorem dX1_fold_1 : decode cX1_fold 1 = .ok (.istore_n 1, 1) := by decide +kernel
theorem dX1_fold_2 : decode cX1_fold 2 = .ok (.aload_n 0, 1) := by decide +kernel
theorem dX1_fold_3 : decode cX1_fold 3 = .ok (.getfield 26, 3) := by decide +kernel
theorem dX1_fold_6 : decode cX1_fold 6 = .ok (.iconst 1, 1) := by decide +kernel
theorem dX1_fold_7 : decode cX1_fold 7 = .ok (.isub, 1) := by decide +kernel
theorem dX1_fold_8 : decode cX1_fold 8 = .ok (.istore_n 2, 1) := by decide +kernel
theorem dX1_fold_9 : decode cX1_fold 9 = .ok (.iload_n 2, 1) := by decide +kernel
theorem dX1_fold_10 : decode cX1_fold 10 = .ok (.ifCond .lt 51, 3) := by decide +kernel
theorem dX1_fold_13 : decode cX1_fold 13 = .ok (.aload_n 0, 1) := by decide +kernel
theorem dX1_fold_14 : decode cX1_fold 14 = .ok (.getfield 30, 3) := by decide +kernel
theorem dX1_fold_17 : decode cX1_fold 17 = .ok (.iload_n 2, 1) := by decide +kernel
theorem dX1_fold_18 : decode cX1_fold 18 = .ok (.iaload, 1) := by decide +kernel
theorem dX1_fold_19 : decode cX1_fold 19 = .ok (.istore_n 3, 1) := by decide +kernel
theorem dX1_fold_20 : decode cX1_fold 20 = .ok (.aload_n 0, 1) := by decide +kernel
theorem dX1_fold_21 : decode cX1_fold 21 = .ok (.iload_n 3, 1) := by decide +kernel
theorem dX1_fold_22 : decode cX1_fold 22 = .ok (.invokevirtual 75, 3) := by decide +kernel
theorem dX1_fold_25 : decode cX1_fold 25 = .ok (.aload_n 0, 1) := by decide +kernel
theorem dX1_fold_26 : decode cX1_fold 26 = .ok (.getfield 33, 3) := by decide +kernel
theorem dX1_fold_29 : decode cX1_fold 29 = .ok (.iload_n 3, 1) := by decide +kernel
theorem dX1_fold_30 : decode cX1_fold 30 = .ok (.iaload, 1) := by decide +kernel
theorem dX1_fold_31 : decode cX1_fold 31 = .ok (.iconst (-1), 1) := by decide +kernel
theorem dX1_fold_32 : decode cX1_fold 32 = .ok (.if_icmp .eq 5, 3) := by decide +kernel
theorem dX1_fold_35 : decode cX1_fold 35 = .ok (.iload_n 3, 1) := by decide +kernel
theorem dX1_fold_36 : decode cX1_fold 36 = .ok (.istore_n 1, 1) := by decide +kernel
theorem dX1_fold_37 : decode cX1_fold 37 = .ok (.aload_n 0, 1) := by decide +kernel
theorem dX1_fold_38 : decode cX1_fold 38 = .ok (.getfield 36, 3) := by decide +kernel
theorem dX1_fold_41 : decode cX1_fold 41 = .ok (.iload_n 3, 1) := by decide +kernel
theorem dX1_fold_42 : decode cX1_fold 42 = .ok (.iload_n 1, 1) := by decide +kernel
theorem dX1_fold_43 : decode cX1_fold 43 = .ok (.iastore, 1) := by decide +kernel
theorem dX1_fold_44 : decode cX1_fold 44 = .ok (.iload_n 1, 1) := by decide +kernel
theorem dX1_fold_45 : decode cX1_fold 45 = .ok (.iconst (-1), 1) := by decide +kernel
theorem dX1_fold_46 : decode cX1_fold 46 = .ok (.if_icmp .eq 9, 3) := by decide +kernel
theorem dX1_fold_49 : decode cX1_fold 49 = .ok (.aload_n 0, 1) := by decide +kernel
theorem dX1_fold_50 : decode cX1_fold 50 = .ok (.iload_n 1, 1) := by decide +kernel
theorem dX1_fold_51 : decode cX1_fold 51 = .ok (.iload_n 3, 1) := by decide +kernel
theorem dX1_fold_52 : decode cX1_fold 52 = .ok (.invokevirtual 79, 3) := by decide +kernel
theorem dX1_fold_55 : decode cX1_fold 55 = .ok (.iinc 2 (-1), 3) := by decide +kernel
theorem dX1_fold_58 : decode cX1_fold 58 = .ok (.goto (-49), 3) := by decide +kernel
theorem dX1_fold_61 : decode cX1_fold 61 = .ok (.return_, 1) := by decide +kernel
theorem dX1_forget_0 : decode cX1_forget 0 = .ok (.iconst 0, 1) := by decide +kernel
theorem dX1_forget_1 : decode cX1_forget 1 = .ok (.istore_n 2, 1) := by decide +kernel
theorem dX1_forget_2 : decode cX1_forget 2 = .ok (.iload_n 2, 1) := by decide +kernel
theorem dX1_forget_3 : decode cX1_forget 3 = .ok (.bipush 10, 2) := by decide +kernel
theorem dX1_forget_5 : decode cX1_forget 5 = .ok (.if_icmp .ge 18, 3) := by decide +kernel
theorem dX1_forget_8 : decode cX1_forget 8 = .ok (.aload_n 0, 1) := by decide +kernel
theorem dX1_forget_9 : decode cX1_forget 9 = .ok (.getfield 39, 3) := by decide +kernel
theorem dX1_forget_12 : decode cX1_forget 12 = .ok (.iload_n 1, 1) := by decide +kernel
theorem dX1_forget_13 : decode cX1_forget 13 = .ok (.aaload, 1) := by decide +kernel
theorem dX1_forget_14 : decode cX1_forget 14 = .ok (.iload_n 2, 1) := by decide +kernel
theorem dX1_forget_15 : decode cX1_forget 15 = .ok (.iconst (-1), 1) := by decide +kernel
theorem dX1_forget_16 : decode cX1_forget 16 = .ok (.iastore, 1) := by decide +kernel
theorem dX1_forget_17 : decode cX1_forget 17 = .ok (.iinc 2 1, 3) := by decide +kernel
theorem dX1_forget_20 : decode cX1_forget 20 = .ok (.goto (-18), 3) := by decide +kernel
theorem dX1_forget_23 : decode cX1_forget 23 = .ok (.return_, 1) := by decide +kernel
theorem dX1_fillIn_0 : decode cX1_fillIn 0 = .ok (.iconst 0, 1) := by decide +kernel
theorem dX1_fillIn_1 : decode cX1_fillIn 1 = .ok (.istore_n 3, 1) := by decide +kernel
theorem dX1_fillIn_2 : decode cX1_fillIn 2 = .ok (.iload_n 3, 1) := by decide +kernel
theorem dX1_fillIn_3 : decode cX1_fillIn 3 = .ok (.bipush 10, 2) := by decide +kernel
theorem dX1_fillIn_5 : decode cX1_fillIn 5 = .ok (.if_icmp .ge 37, 3) := by decide +kernel
theorem dX1_fillIn_8 : decode cX1_fillIn 8 = .ok (.aload_n 0, 1) := by decide +kernel
theorem dX1_fillIn_9 : decode cX1_fillIn 9 = .ok (.getfield 39, 3) := by decide +kernel
theorem dX1_fillIn_12 : decode cX1_fillIn 12 = .ok (.iload_n 1, 1) := by decide +kernel
theorem dX1_fillIn_13 : decode cX1_fillIn 13 = .ok (.aaload, 1) := by decide +kernel
theorem dX1_fillIn_14 : decode cX1_fillIn 14 = .ok (.iload_n 3, 1) := by decide +kernel
theorem dX1_fillIn_15 : decode cX1_fillIn 15 = .ok (.iaload, 1) := by decide +kernel
theorem dX1_fillIn_16 : decode cX1_fillIn 16 = .ok (.iconst (-1), 1) := by decide +kernel
theorem dX1_fillIn_17 : decode cX1_fillIn 17 = .ok (.if_icmp .ne 19, 3) := by decide +kernel
theorem dX1_fillIn_20 : decode cX1_fillIn 20 = .ok (.aload_n 0, 1) := by decide +kernel
theorem dX1_fillIn_21 : decode cX1_fillIn 21 = .ok (.getfield 39, 3) := by decide +kernel
theorem dX1_fillIn_24 : decode cX1_fillIn 24 = .ok (.iload_n 1, 1) := by decide +kernel
theorem dX1_fillIn_25 : decode cX1_fillIn 25 = .ok (.aaload, 1) := by decide +kernel
theorem dX1_fillIn_26 : decode cX1_fillIn 26 = .ok (.iload_n 3, 1) := by decide +kernel
theorem dX1_fillIn_27 : decode cX1_fillIn 27 = .ok (.aload_n 0, 1) := by decide +kernel
theorem dX1_fillIn_28 : decode cX1_fillIn 28 = .ok (.getfield 23, 3) := by decide +kernel
theorem dX1_fillIn_31 : decode cX1_fillIn 31 = .ok (.iload_n 2, 1) := by decide +kernel
theorem dX1_fillIn_32 : decode cX1_fillIn 32 = .ok (.aaload, 1) := by decide +kernel
theorem dX1_fillIn_33 : decode cX1_fillIn 33 = .ok (.iload_n 3, 1) := by decide +kernel
theorem dX1_fillIn_34 : decode cX1_fillIn 34 = .ok (.iaload, 1) := by decide +kernel
theorem dX1_fillIn_35 : decode cX1_fillIn 35 = .ok (.iastore, 1) := by decide +kernel
theorem dX1_fillIn_36 : decode cX1_fillIn 36 = .ok (.iinc 3 1, 3) := by decide +kernel
theorem dX1_fillIn_39 : decode cX1_fillIn 39 = .ok (.goto (-37), 3) := by decide +kernel
theorem dX1_fillIn_42 : decode cX1_fillIn 42 = .ok (.return_, 1) := by decide +kernel
set_option maxRecDepth 20000 in
theorem ggX1_sortPlays_X1_insertPlay : GoodIn wsX1_sortPlays wsX1_insertPlay := goodIn_r _ [9, 1, 3, 10, 11, 12, 13, 14, 15, 16, 17, 18, 19, 20, 21] (by decide +kernel) (by decide +kernel)
set_option maxRecDepth 20000 in
theorem gX1_sortPlays_X1_insertPlay : GoodIn wsX1_sortPlays (wsV RX1 83 RX1 yX1_insertPlay wsX1_insertPlay) := goodIn_app (goodIn_of _ (by decide +kernel)) ggX1_sortPlays_X1_insertPlay
theorem dX1_sortPlays_0 : decode cX1_sortPlays 0 = .ok (.aload_n 0, 1) := by decide +kernel
theorem dX1_sortPlays_1 : decode cX1_sortPlays 1 = .ok (.iconst 0, 1) := by decide +kernel
theorem dX1_sortPlays_2 : decode cX1_sortPlays 2 = .ok (.putfield 45, 3) := by decide +kernel
theorem dX1_sortPlays_5 : decode cX1_sortPlays 5 = .ok (.iconst 0, 1) := by decide +kernel
theorem dX1_sortPlays_6 : decode cX1_sortPlays 6 = .ok (.istore_n 1, 1) := by decide +kernel
theorem dX1_sortPlays_7 : decode cX1_sortPlays 7 = .ok (.iload_n 1, 1) := by decide +kernel
theorem dX1_sortPlays_8 : decode cX1_sortPlays 8 = .ok (.aload_n 0, 1) := by decide +kernel
theorem dX1_sortPlays_9 : decode cX1_sortPlays 9 = .ok (.getfield 26, 3) := by decide +kernel
theorem dX1_sortPlays_12 : decode cX1_sortPlays 12 = .ok (.if_icmp .ge 34, 3) := by decide +kernel
theorem dX1_sortPlays_15 : decode cX1_sortPlays 15 = .ok (.aload_n 0, 1) := by decide +kernel
theorem dX1_sortPlays_16 : decode cX1_sortPlays 16 = .ok (.getfield 33, 3) := by decide +kernel
theorem dX1_sortPlays_19 : decode cX1_sortPlays 19 = .ok (.aload_n 0, 1) := by decide +kernel
theorem dX1_sortPlays_20 : decode cX1_sortPlays 20 = .ok (.getfield 30, 3) := by decide +kernel
theorem dX1_sortPlays_23 : decode cX1_sortPlays 23 = .ok (.iload_n 1, 1) := by decide +kernel
theorem dX1_sortPlays_24 : decode cX1_sortPlays 24 = .ok (.iaload, 1) := by decide +kernel
theorem dX1_sortPlays_25 : decode cX1_sortPlays 25 = .ok (.iaload, 1) := by decide +kernel
theorem dX1_sortPlays_26 : decode cX1_sortPlays 26 = .ok (.iconst (-1), 1) := by decide +kernel
theorem dX1_sortPlays_27 : decode cX1_sortPlays 27 = .ok (.if_icmp .eq 13, 3) := by decide +kernel
theorem dX1_sortPlays_30 : decode cX1_sortPlays 30 = .ok (.aload_n 0, 1) := by decide +kernel
theorem dX1_sortPlays_31 : decode cX1_sortPlays 31 = .ok (.aload_n 0, 1) := by decide +kernel
theorem dX1_sortPlays_32 : decode cX1_sortPlays 32 = .ok (.getfield 30, 3) := by decide +kernel
theorem dX1_sortPlays_35 : decode cX1_sortPlays 35 = .ok (.iload_n 1, 1) := by decide +kernel
theorem dX1_sortPlays_36 : decode cX1_sortPlays 36 = .ok (.iaload, 1) := by decide +kernel
theorem dX1_sortPlays_37 : decode cX1_sortPlays 37 = .ok (.invokevirtual 83, 3) := by decide +kernel
theorem dX1_sortPlays_40 : decode cX1_sortPlays 40 = .ok (.iinc 1 1, 3) := by decide +kernel
theorem dX1_sortPlays_43 : decode cX1_sortPlays 43 = .ok (.goto (-36), 3) := by decide +kernel
theorem dX1_sortPlays_46 : decode cX1_sortPlays 46 = .ok (.return_, 1) := by decide +kernel
theorem dX1_insertPlay_0 : decode cX1_insertPlay 0 = .ok (.aload_n 0, 1) := by decide +kernel
theorem dX1_insertPlay_1 : decode cX1_insertPlay 1 = .ok (.getfield 45, 3) := by decide +kernel
theorem dX1_insertPlay_4 : decode cX1_insertPlay 4 = .ok (.istore_n 2, 1) := by decide +kernel
theorem dX1_insertPlay_5 : decode cX1_insertPlay 5 = .ok (.iload_n 2, 1) := by decide +kernel
theorem dX1_insertPlay_6 : decode cX1_insertPlay 6 = .ok (.ifCond .le 45, 3) := by decide +kernel
theorem dX1_insertPlay_9 : decode cX1_insertPlay 9 = .ok (.aload_n 0, 1) := by decide +kernel
theorem dX1_insertPlay_10 : decode cX1_insertPlay 10 = .ok (.getfield 33, 3) := by decide +kernel
theorem dX1_insertPlay_13 : decode cX1_insertPlay 13 = .ok (.aload_n 0, 1) := by decide +kernel
theorem dX1_insertPlay_14 : decode cX1_insertPlay 14 = .ok (.getfield 42, 3) := by decide +kernel
theorem dX1_insertPlay_17 : decode cX1_insertPlay 17 = .ok (.iload_n 2, 1) := by decide +kernel
theorem dX1_insertPlay_18 : decode cX1_insertPlay 18 = .ok (.iconst 1, 1) := by decide +kernel
theorem dX1_insertPlay_19 : decode cX1_insertPlay 19 = .ok (.isub, 1) := by decide +kernel
theorem dX1_insertPlay_20 : decode cX1_insertPlay 20 = .ok (.iaload, 1) := by decide +kernel
theorem dX1_insertPlay_21 : decode cX1_insertPlay 21 = .ok (.iaload, 1) := by decide +kernel
theorem dX1_insertPlay_22 : decode cX1_insertPlay 22 = .ok (.aload_n 0, 1) := by decide +kernel
theorem dX1_insertPlay_23 : decode cX1_insertPlay 23 = .ok (.getfield 33, 3) := by decide +kernel
theorem dX1_insertPlay_26 : decode cX1_insertPlay 26 = .ok (.iload_n 1, 1) := by decide +kernel
theorem dX1_insertPlay_27 : decode cX1_insertPlay 27 = .ok (.iaload, 1) := by decide +kernel
theorem dX1_insertPlay_28 : decode cX1_insertPlay 28 = .ok (.if_icmp .le 23, 3) := by decide +kernel
theorem dX1_insertPlay_31 : decode cX1_insertPlay 31 = .ok (.aload_n 0, 1) := by decide +kernel
theorem dX1_insertPlay_32 : decode cX1_insertPlay 32 = .ok (.getfield 42, 3) := by decide +kernel
theorem dX1_insertPlay_35 : decode cX1_insertPlay 35 = .ok (.iload_n 2, 1) := by decide +kernel
theorem dX1_insertPlay_36 : decode cX1_insertPlay 36 = .ok (.aload_n 0, 1) := by decide +kernel
theorem dX1_insertPlay_37 : decode cX1_insertPlay 37 = .ok (.getfield 42, 3) := by decide +kernel
theorem dX1_insertPlay_40 : decode cX1_insertPlay 40 = .ok (.iload_n 2, 1) := by decide +kernel
theorem dX1_insertPlay_41 : decode cX1_insertPlay 41 = .ok (.iconst 1, 1) := by decide +kernel
theorem dX1_insertPlay_42 : decode cX1_insertPlay 42 = .ok (.isub, 1) := by decide +kernel
theorem dX1_insertPlay_43 : decode cX1_insertPlay 43 = .ok (.iaload, 1) := by decide +kernel
theorem dX1_insertPlay_44 : decode cX1_insertPlay 44 = .ok (.iastore, 1) := by decide +kernel
theorem dX1_insertPlay_45 : decode cX1_insertPlay 45 = .ok (.iinc 2 (-1), 3) := by decide +kernel
theorem dX1_insertPlay_48 : decode cX1_insertPlay 48 = .ok (.goto (-43), 3) := by decide +kernel
theorem dX1_insertPlay_51 : decode cX1_insertPlay 51 = .ok (.aload_n 0, 1) := by decide +kernel
theorem dX1_insertPlay_52 : decode cX1_insertPlay 52 = .ok (.getfield 42, 3) := by decide +kernel
theorem dX1_insertPlay_55 : decode cX1_insertPlay 55 = .ok (.iload_n 2, 1) := by decide +kernel
theorem dX1_insertPlay_56 : decode cX1_insertPlay 56 = .ok (.iload_n 1, 1) := by decide +kernel
theorem dX1_insertPlay_57 : decode cX1_insertPlay 57 = .ok (.iastore, 1) := by decide +kernel
theorem dX1_insertPlay_58 : decode cX1_insertPlay 58 = .ok (.aload_n 0, 1) := by decide +kernel
theorem dX1_insertPlay_59 : decode cX1_insertPlay 59 = .ok (.dup, 1) := by decide +kernel
theorem dX1_insertPlay_60 : decode cX1_insertPlay 60 = .ok (.getfield 45, 3) := by decide +kernel
theorem dX1_insertPlay_63 : decode cX1_insertPlay 63 = .ok (.iconst 1, 1) := by decide +kernel
theorem dX1_insertPlay_64 : decode cX1_insertPlay 64 = .ok (.iadd, 1) := by decide +kernel
theorem dX1_insertPlay_65 : decode cX1_insertPlay 65 = .ok (.putfield 45, 3) := by decide +kernel
theorem dX1_insertPlay_68 : decode cX1_insertPlay 68 = .ok (.return_, 1) := by decide +kernel
set_option maxRecDepth 20000 in
theorem ggX1_levelByFades_X1_levelBehind : GoodIn wsX1_levelByFades wsX1_levelBehind := goodIn_r _ [9] (by decide +kernel) (by decide +kernel)
set_option maxRecDepth 20000 in
theorem gX1_levelByFades_X1_levelBehind : GoodIn wsX1_levelByFades (va_wsS RX1 86 yX1_levelBehind wsX1_levelBehind) := goodIn_app (goodIn_of _ (by decide +kernel)) ggX1_levelByFades_X1_levelBehind
theorem dX1_levelByFades_0 : decode cX1_levelByFades 0 = .ok (.iconst 0, 1) := by decide +kernel
theorem dX1_levelByFades_1 : decode cX1_levelByFades 1 = .ok (.istore_n 3, 1) := by decide +kernel
theorem dX1_levelByFades_2 : decode cX1_levelByFades 2 = .ok (.iconst 0, 1) := by decide +kernel
theorem dX1_levelByFades_3 : decode cX1_levelByFades 3 = .ok (.istore 4, 2) := by decide +kernel
theorem dX1_levelByFades_5 : decode cX1_levelByFades 5 = .ok (.iconst 0, 1) := by decide +kernel
theorem dX1_levelByFades_6 : decode cX1_levelByFades 6 = .ok (.istore 5, 2) := by decide +kernel
theorem dX1_levelByFades_8 : decode cX1_levelByFades 8 = .ok (.iconst 0, 1) := by decide +kernel
theorem dX1_levelByFades_9 : decode cX1_levelByFades 9 = .ok (.istore 6, 2) := by decide +kernel
theorem dX1_levelByFades_11 : decode cX1_levelByFades 11 = .ok (.iconst 0, 1) := by decide +kernel
theorem dX1_levelByFades_12 : decode cX1_levelByFades 12 = .ok (.istore 7, 2) := by decide +kernel
theorem dX1_levelByFades_14 : decode cX1_levelByFades 14 = .ok (.iload 7, 2) := by decide +kernel
theorem dX1_levelByFades_16 : decode cX1_levelByFades 16 = .ok (.aload_n 0, 1) := by decide +kernel
theorem dX1_levelByFades_17 : decode cX1_levelByFades 17 = .ok (.getfield 45, 3) := by decide +kernel
theorem dX1_levelByFades_20 : decode cX1_levelByFades 20 = .ok (.if_icmp .ge 95, 3) := by decide +kernel
theorem dX1_levelByFades_23 : decode cX1_levelByFades 23 = .ok (.aload_n 0, 1) := by decide +kernel
theorem dX1_levelByFades_24 : decode cX1_levelByFades 24 = .ok (.getfield 33, 3) := by decide +kernel
theorem dX1_levelByFades_27 : decode cX1_levelByFades 27 = .ok (.aload_n 0, 1) := by decide +kernel
theorem dX1_levelByFades_28 : decode cX1_levelByFades 28 = .ok (.getfield 42, 3) := by decide +kernel
theorem dX1_levelByFades_31 : decode cX1_levelByFades 31 = .ok (.iload 7, 2) := by decide +kernel
theorem dX1_levelByFades_33 : decode cX1_levelByFades 33 = .ok (.iaload, 1) := by decide +kernel
theorem dX1_levelByFades_34 : decode cX1_levelByFades 34 = .ok (.iaload, 1) := by decide +kernel
theorem dX1_levelByFades_35 : decode cX1_levelByFades 35 = .ok (.iload_n 2, 1) := by decide +kernel
theorem dX1_levelByFades_36 : decode cX1_levelByFades 36 = .ok (.if_icmp .gt 79, 3) := by decide +kernel
theorem dX1_levelByFades_39 : decode cX1_levelByFades 39 = .ok (.aload_n 0, 1) := by decide +kernel
theorem dX1_levelByFades_40 : decode cX1_levelByFades 40 = .ok (.getfield 42, 3) := by decide +kernel
theorem dX1_levelByFades_43 : decode cX1_levelByFades 43 = .ok (.iload 7, 2) := by decide +kernel
theorem dX1_levelByFades_45 : decode cX1_levelByFades 45 = .ok (.iaload, 1) := by decide +kernel
theorem dX1_levelByFades_46 : decode cX1_levelByFades 46 = .ok (.istore 8, 2) := by decide +kernel
theorem dX1_levelByFades_48 : decode cX1_levelByFades 48 = .ok (.aload_n 0, 1) := by decide +kernel
theorem dX1_levelByFades_49 : decode cX1_levelByFades 49 = .ok (.getfield 39, 3) := by decide +kernel
theorem dX1_levelByFades_52 : decode cX1_levelByFades 52 = .ok (.iload 8, 2) := by decide +kernel
theorem dX1_levelByFades_54 : decode cX1_levelByFades 54 = .ok (.aaload, 1) := by decide +kernel
theorem dX1_levelByFades_55 : decode cX1_levelByFades 55 = .ok (.iload_n 1, 1) := by decide +kernel
theorem dX1_levelByFades_56 : decode cX1_levelByFades 56 = .ok (.iaload, 1) := by decide +kernel
theorem dX1_levelByFades_57 : decode cX1_levelByFades 57 = .ok (.iconst (-1), 1) := by decide +kernel
theorem dX1_levelByFades_58 : decode cX1_levelByFades 58 = .ok (.if_icmp .eq 51, 3) := by decide +kernel
theorem dX1_levelByFades_61 : decode cX1_levelByFades 61 = .ok (.aload_n 0, 1) := by decide +kernel
theorem dX1_levelByFades_62 : decode cX1_levelByFades 62 = .ok (.getfield 33, 3) := by decide +kernel
theorem dX1_levelByFades_65 : decode cX1_levelByFades 65 = .ok (.iload 8, 2) := by decide +kernel
theorem dX1_levelByFades_67 : decode cX1_levelByFades 67 = .ok (.iaload, 1) := by decide +kernel
theorem dX1_levelByFades_68 : decode cX1_levelByFades 68 = .ok (.iload 5, 2) := by decide +kernel
theorem dX1_levelByFades_70 : decode cX1_levelByFades 70 = .ok (.isub, 1) := by decide +kernel
theorem dX1_levelByFades_71 : decode cX1_levelByFades 71 = .ok (.iload 6, 2) := by decide +kernel
theorem dX1_levelByFades_73 : decode cX1_levelByFades 73 = .ok (.iload_n 3, 1) := by decide +kernel
theorem dX1_levelByFades_74 : decode cX1_levelByFades 74 = .ok (.iload 4, 2) := by decide +kernel
theorem dX1_levelByFades_76 : decode cX1_levelByFades 76 = .ok (.invokestatic 86, 3) := by decide +kernel
theorem dX1_levelByFades_79 : decode cX1_levelByFades 79 = .ok (.istore_n 3, 1) := by decide +kernel
theorem dX1_levelByFades_80 : decode cX1_levelByFades 80 = .ok (.aload_n 0, 1) := by decide +kernel
theorem dX1_levelByFades_81 : decode cX1_levelByFades 81 = .ok (.getfield 39, 3) := by decide +kernel
theorem dX1_levelByFades_84 : decode cX1_levelByFades 84 = .ok (.iload 8, 2) := by decide +kernel
theorem dX1_levelByFades_86 : decode cX1_levelByFades 86 = .ok (.aaload, 1) := by decide +kernel
theorem dX1_levelByFades_87 : decode cX1_levelByFades 87 = .ok (.iload_n 1, 1) := by decide +kernel
theorem dX1_levelByFades_88 : decode cX1_levelByFades 88 = .ok (.iaload, 1) := by decide +kernel
theorem dX1_levelByFades_89 : decode cX1_levelByFades 89 = .ok (.istore 4, 2) := by decide +kernel
theorem dX1_levelByFades_91 : decode cX1_levelByFades 91 = .ok (.aload_n 0, 1) := by decide +kernel
theorem dX1_levelByFades_92 : decode cX1_levelByFades 92 = .ok (.getfield 33, 3) := by decide +kernel
theorem dX1_levelByFades_95 : decode cX1_levelByFades 95 = .ok (.iload 8, 2) := by decide +kernel
theorem dX1_levelByFades_97 : decode cX1_levelByFades 97 = .ok (.iaload, 1) := by decide +kernel
theorem dX1_levelByFades_98 : decode cX1_levelByFades 98 = .ok (.istore 5, 2) := by decide +kernel
theorem dX1_levelByFades_100 : decode cX1_levelByFades 100 = .ok (.aload_n 0, 1) := by decide +kernel
theorem dX1_levelByFades_101 : decode cX1_levelByFades 101 = .ok (.getfield 18, 3) := by decide +kernel
theorem dX1_levelByFades_104 : decode cX1_levelByFades 104 = .ok (.iload 8, 2) := by decide +kernel
theorem dX1_levelByFades_106 : decode cX1_levelByFades 106 = .ok (.iaload, 1) := by decide +kernel
theorem dX1_levelByFades_107 : decode cX1_levelByFades 107 = .ok (.istore 6, 2) := by decide +kernel
theorem dX1_levelByFades_109 : decode cX1_levelByFades 109 = .ok (.iinc 7 1, 3) := by decide +kernel
theorem dX1_levelByFades_112 : decode cX1_levelByFades 112 = .ok (.goto (-98), 3) := by decide +kernel
theorem dX1_levelByFades_115 : decode cX1_levelByFades 115 = .ok (.iload_n 2, 1) := by decide +kernel
theorem dX1_levelByFades_116 : decode cX1_levelByFades 116 = .ok (.iload 5, 2) := by decide +kernel
theorem dX1_levelByFades_118 : decode cX1_levelByFades 118 = .ok (.isub, 1) := by decide +kernel
theorem dX1_levelByFades_119 : decode cX1_levelByFades 119 = .ok (.iload 6, 2) := by decide +kernel
theorem dX1_levelByFades_121 : decode cX1_levelByFades 121 = .ok (.iload_n 3, 1) := by decide +kernel
theorem dX1_levelByFades_122 : decode cX1_levelByFades 122 = .ok (.iload 4, 2) := by decide +kernel
theorem dX1_levelByFades_124 : decode cX1_levelByFades 124 = .ok (.invokestatic 86, 3) := by decide +kernel
theorem dX1_levelByFades_127 : decode cX1_levelByFades 127 = .ok (.ireturn, 1) := by decide +kernel
set_option maxRecDepth 20000 in
theorem ggX1_levelByTicks_X1_levelBehind : GoodIn wsX1_levelByTicks wsX1_levelBehind := goodIn_r _ [9] (by decide +kernel) (by decide +kernel)
set_option maxRecDepth 20000 in
theorem gX1_levelByTicks_X1_levelBehind : GoodIn wsX1_levelByTicks (va_wsS RX1 86 yX1_levelBehind wsX1_levelBehind) := goodIn_app (goodIn_of _ (by decide +kernel)) ggX1_levelByTicks_X1_levelBehind
theorem dX1_levelByTicks_0 : decode cX1_levelByTicks 0 = .ok (.iconst 0, 1) := by decide +kernel
theorem dX1_levelByTicks_1 : decode cX1_levelByTicks 1 = .ok (.istore_n 3, 1) := by decide +kernel
theorem dX1_levelByTicks_2 : decode cX1_levelByTicks 2 = .ok (.iconst 0, 1) := by decide +kernel
theorem dX1_levelByTicks_3 : decode cX1_levelByTicks 3 = .ok (.istore 4, 2) := by decide +kernel
theorem dX1_levelByTicks_5 : decode cX1_levelByTicks 5 = .ok (.iconst 0, 1) := by decide +kernel
theorem dX1_levelByTicks_6 : decode cX1_levelByTicks 6 = .ok (.istore 5, 2) := by decide +kernel
theorem dX1_levelByTicks_8 : decode cX1_levelByTicks 8 = .ok (.iconst 0, 1) := by decide +kernel
theorem dX1_levelByTicks_9 : decode cX1_levelByTicks 9 = .ok (.istore 6, 2) := by decide +kernel
theorem dX1_levelByTicks_11 : decode cX1_levelByTicks 11 = .ok (.iconst 0, 1) := by decide +kernel
theorem dX1_levelByTicks_12 : decode cX1_levelByTicks 12 = .ok (.istore 7, 2) := by decide +kernel
theorem dX1_levelByTicks_14 : decode cX1_levelByTicks 14 = .ok (.iconst 0, 1) := by decide +kernel
theorem dX1_levelByTicks_15 : decode cX1_levelByTicks 15 = .ok (.istore 8, 2) := by decide +kernel
theorem dX1_levelByTicks_17 : decode cX1_levelByTicks 17 = .ok (.iconst 0, 1) := by decide +kernel
theorem dX1_levelByTicks_18 : decode cX1_levelByTicks 18 = .ok (.istore 9, 2) := by decide +kernel
theorem dX1_levelByTicks_20 : decode cX1_levelByTicks 20 = .ok (.iload 9, 2) := by decide +kernel
theorem dX1_levelByTicks_22 : decode cX1_levelByTicks 22 = .ok (.iload_n 2, 1) := by decide +kernel
theorem dX1_levelByTicks_23 : decode cX1_levelByTicks 23 = .ok (.if_icmp .gt 116, 3) := by decide +kernel
theorem dX1_levelByTicks_26 : decode cX1_levelByTicks 26 = .ok (.iload 6, 2) := by decide +kernel
theorem dX1_levelByTicks_28 : decode cX1_levelByTicks 28 = .ok (.iload 7, 2) := by decide +kernel
theorem dX1_levelByTicks_30 : decode cX1_levelByTicks 30 = .ok (.iload 4, 2) := by decide +kernel
theorem dX1_levelByTicks_32 : decode cX1_levelByTicks 32 = .ok (.iload 5, 2) := by decide +kernel
theorem dX1_levelByTicks_34 : decode cX1_levelByTicks 34 = .ok (.invokestatic 86, 3) := by decide +kernel
theorem dX1_levelByTicks_37 : decode cX1_levelByTicks 37 = .ok (.istore_n 3, 1) := by decide +kernel
theorem dX1_levelByTicks_38 : decode cX1_levelByTicks 38 = .ok (.iload 8, 2) := by decide +kernel
theorem dX1_levelByTicks_40 : decode cX1_levelByTicks 40 = .ok (.aload_n 0, 1) := by decide +kernel
theorem dX1_levelByTicks_41 : decode cX1_levelByTicks 41 = .ok (.getfield 45, 3) := by decide +kernel
theorem dX1_levelByTicks_44 : decode cX1_levelByTicks 44 = .ok (.if_icmp .ge 86, 3) := by decide +kernel
theorem dX1_levelByTicks_47 : decode cX1_levelByTicks 47 = .ok (.aload_n 0, 1) := by decide +kernel
theorem dX1_levelByTicks_48 : decode cX1_levelByTicks 48 = .ok (.getfield 33, 3) := by decide +kernel
theorem dX1_levelByTicks_51 : decode cX1_levelByTicks 51 = .ok (.aload_n 0, 1) := by decide +kernel
theorem dX1_levelByTicks_52 : decode cX1_levelByTicks 52 = .ok (.getfield 42, 3) := by decide +kernel
theorem dX1_levelByTicks_55 : decode cX1_levelByTicks 55 = .ok (.iload 8, 2) := by decide +kernel
theorem dX1_levelByTicks_57 : decode cX1_levelByTicks 57 = .ok (.iaload, 1) := by decide +kernel
theorem dX1_levelByTicks_58 : decode cX1_levelByTicks 58 = .ok (.iaload, 1) := by decide +kernel
theorem dX1_levelByTicks_59 : decode cX1_levelByTicks 59 = .ok (.iload 9, 2) := by decide +kernel
theorem dX1_levelByTicks_61 : decode cX1_levelByTicks 61 = .ok (.if_icmp .ne 69, 3) := by decide +kernel
theorem dX1_levelByTicks_64 : decode cX1_levelByTicks 64 = .ok (.aload_n 0, 1) := by decide +kernel
theorem dX1_levelByTicks_65 : decode cX1_levelByTicks 65 = .ok (.getfield 42, 3) := by decide +kernel
theorem dX1_levelByTicks_68 : decode cX1_levelByTicks 68 = .ok (.iload 8, 2) := by decide +kernel
theorem dX1_levelByTicks_70 : decode cX1_levelByTicks 70 = .ok (.iaload, 1) := by decide +kernel
theorem dX1_levelByTicks_71 : decode cX1_levelByTicks 71 = .ok (.istore 10, 2) := by decide +kernel
theorem dX1_levelByTicks_73 : decode cX1_levelByTicks 73 = .ok (.aload_n 0, 1) := by decide +kernel
theorem dX1_levelByTicks_74 : decode cX1_levelByTicks 74 = .ok (.getfield 39, 3) := by decide +kernel
theorem dX1_levelByTicks_77 : decode cX1_levelByTicks 77 = .ok (.iload 10, 2) := by decide +kernel
theorem dX1_levelByTicks_79 : decode cX1_levelByTicks 79 = .ok (.aaload, 1) := by decide +kernel
theorem dX1_levelByTicks_80 : decode cX1_levelByTicks 80 = .ok (.iload_n 1, 1) := by decide +kernel
theorem dX1_levelByTicks_81 : decode cX1_levelByTicks 81 = .ok (.iaload, 1) := by decide +kernel
theorem dX1_levelByTicks_82 : decode cX1_levelByTicks 82 = .ok (.iconst (-1), 1) := by decide +kernel
theorem dX1_levelByTicks_83 : decode cX1_levelByTicks 83 = .ok (.if_icmp .eq 41, 3) := by decide +kernel
theorem dX1_levelByTicks_86 : decode cX1_levelByTicks 86 = .ok (.iload_n 3, 1) := by decide +kernel
theorem dX1_levelByTicks_87 : decode cX1_levelByTicks 87 = .ok (.istore 4, 2) := by decide +kernel
theorem dX1_levelByTicks_89 : decode cX1_levelByTicks 89 = .ok (.aload_n 0, 1) := by decide +kernel
theorem dX1_levelByTicks_90 : decode cX1_levelByTicks 90 = .ok (.getfield 39, 3) := by decide +kernel
theorem dX1_levelByTicks_93 : decode cX1_levelByTicks 93 = .ok (.iload 10, 2) := by decide +kernel
theorem dX1_levelByTicks_95 : decode cX1_levelByTicks 95 = .ok (.aaload, 1) := by decide +kernel
theorem dX1_levelByTicks_96 : decode cX1_levelByTicks 96 = .ok (.iload_n 1, 1) := by decide +kernel
theorem dX1_levelByTicks_97 : decode cX1_levelByTicks 97 = .ok (.iaload, 1) := by decide +kernel
theorem dX1_levelByTicks_98 : decode cX1_levelByTicks 98 = .ok (.istore 5, 2) := by decide +kernel
theorem dX1_levelByTicks_100 : decode cX1_levelByTicks 100 = .ok (.iconst 0, 1) := by decide +kernel
theorem dX1_levelByTicks_101 : decode cX1_levelByTicks 101 = .ok (.istore 6, 2) := by decide +kernel
theorem dX1_levelByTicks_103 : decode cX1_levelByTicks 103 = .ok (.aload_n 0, 1) := by decide +kernel
theorem dX1_levelByTicks_104 : decode cX1_levelByTicks 104 = .ok (.getfield 18, 3) := by decide +kernel
theorem dX1_levelByTicks_107 : decode cX1_levelByTicks 107 = .ok (.iload 10, 2) := by decide +kernel
theorem dX1_levelByTicks_109 : decode cX1_levelByTicks 109 = .ok (.iaload, 1) := by decide +kernel
theorem dX1_levelByTicks_110 : decode cX1_levelByTicks 110 = .ok (.istore 7, 2) := by decide +kernel
theorem dX1_levelByTicks_112 : decode cX1_levelByTicks 112 = .ok (.iload 6, 2) := by decide +kernel
theorem dX1_levelByTicks_114 : decode cX1_levelByTicks 114 = .ok (.iload 7, 2) := by decide +kernel
theorem dX1_levelByTicks_116 : decode cX1_levelByTicks 116 = .ok (.iload 4, 2) := by decide +kernel
theorem dX1_levelByTicks_118 : decode cX1_levelByTicks 118 = .ok (.iload 5, 2) := by decide +kernel
theorem dX1_levelByTicks_120 : decode cX1_levelByTicks 120 = .ok (.invokestatic 86, 3) := by decide +kernel
theorem dX1_levelByTicks_123 : decode cX1_levelByTicks 123 = .ok (.istore_n 3, 1) := by decide +kernel
theorem dX1_levelByTicks_124 : decode cX1_levelByTicks 124 = .ok (.iinc 8 1, 3) := by decide +kernel
theorem dX1_levelByTicks_127 : decode cX1_levelByTicks 127 = .ok (.goto (-89), 3) := by decide +kernel
theorem dX1_levelByTicks_130 : decode cX1_levelByTicks 130 = .ok (.iinc 6 1, 3) := by decide +kernel
theorem dX1_levelByTicks_133 : decode cX1_levelByTicks 133 = .ok (.iinc 9 1, 3) := by decide +kernel
theorem dX1_levelByTicks_136 : decode cX1_levelByTicks 136 = .ok (.goto (-116), 3) := by decide +kernel
theorem dX1_levelByTicks_139 : decode cX1_levelByTicks 139 = .ok (.iload_n 3, 1) := by decide +kernel
theorem dX1_levelByTicks_140 : decode cX1_levelByTicks 140 = .ok (.ireturn, 1) := by decide +kernel
theorem dX1_levelBehind_0 : decode cX1_levelBehind 0 = .ok (.iload_n 1, 1) := by decide +kernel
theorem dX1_levelBehind_1 : decode cX1_levelBehind 1 = .ok (.ifCond .le 8, 3) := by decide +kernel
theorem dX1_levelBehind_4 : decode cX1_levelBehind 4 = .ok (.iload_n 0, 1) := by decide +kernel
theorem dX1_levelBehind_5 : decode cX1_levelBehind 5 = .ok (.iload_n 1, 1) := by decide +kernel
theorem dX1_levelBehind_6 : decode cX1_levelBehind 6 = .ok (.if_icmp .lt 5, 3) := by decide +kernel
theorem dX1_levelBehind_9 : decode cX1_levelBehind 9 = .ok (.iload_n 3, 1) := by decide +kernel
theorem dX1_levelBehind_10 : decode cX1_levelBehind 10 = .ok (.ireturn, 1) := by decide +kernel
theorem dX1_levelBehind_11 : decode cX1_levelBehind 11 = .ok (.iload_n 2, 1) := by decide +kernel
theorem dX1_levelBehind_12 : decode cX1_levelBehind 12 = .ok (.iload_n 3, 1) := by decide +kernel
theorem dX1_levelBehind_13 : decode cX1_levelBehind 13 = .ok (.iload_n 2, 1) := by decide +kernel
theorem dX1_levelBehind_14 : decode cX1_levelBehind 14 = .ok (.isub, 1) := by decide +kernel
theorem dX1_levelBehind_15 : decode cX1_levelBehind 15 = .ok (.iload_n 0, 1) := by decide +kernel
theorem dX1_levelBehind_16 : decode cX1_levelBehind 16 = .ok (.imul, 1) := by decide +kernel
theorem dX1_levelBehind_17 : decode cX1_levelBehind 17 = .ok (.iload_n 1, 1) := by decide +kernel
theorem dX1_levelBehind_18 : decode cX1_levelBehind 18 = .ok (.idiv, 1) := by decide +kernel
theorem dX1_levelBehind_19 : decode cX1_levelBehind 19 = .ok (.iadd, 1) := by decide +kernel
theorem dX1_levelBehind_20 : decode cX1_levelBehind 20 = .ok (.ireturn, 1) := by decide +kernel
set_option maxRecDepth 20000 in
theorem ggX1_fillLevels_X1_levelByFades : GoodIn wsX1_fillLevels wsX1_levelByFades := goodIn_r _ [5, 6, 7, 8, 9, 10, 11, 12, 4, 13, 14, 15, 16, 17, 18, 19, 20, 21, 22, 23, 24] (by decide +kernel) (by decide +kernel)
set_option maxRecDepth 20000 in
theorem gX1_fillLevels_X1_levelByFades : GoodIn wsX1_fillLevels (wsV RX1 90 RX1 yX1_levelByFades wsX1_levelByFades) := goodIn_app (goodIn_of _ (by decide +kernel)) ggX1_fillLevels_X1_levelByFades
theorem dX1_fillLevels_0 : decode cX1_fillLevels 0 = .ok (.iconst 0, 1) := by decide +kernel
theorem dX1_fillLevels_1 : decode cX1_fillLevels 1 = .ok (.istore_n 3, 1) := by decide +kernel
theorem dX1_fillLevels_2 : decode cX1_fillLevels 2 = .ok (.iload_n 3, 1) := by decide +kernel
theorem dX1_fillLevels_3 : decode cX1_fillLevels 3 = .ok (.bipush 10, 2) := by decide +kernel
theorem dX1_fillLevels_5 : decode cX1_fillLevels 5 = .ok (.if_icmp .ge 18, 3) := by decide +kernel
theorem dX1_fillLevels_8 : decode cX1_fillLevels 8 = .ok (.aload_n 2, 1) := by decide +kernel
theorem dX1_fillLevels_9 : decode cX1_fillLevels 9 = .ok (.iload_n 3, 1) := by decide +kernel
theorem dX1_fillLevels_10 : decode cX1_fillLevels 10 = .ok (.aload_n 0, 1) := by decide +kernel
theorem dX1_fillLevels_11 : decode cX1_fillLevels 11 = .ok (.iload_n 3, 1) := by decide +kernel
theorem dX1_fillLevels_12 : decode cX1_fillLevels 12 = .ok (.iload_n 1, 1) := by decide +kernel
theorem dX1_fillLevels_13 : decode cX1_fillLevels 13 = .ok (.invokevirtual 90, 3) := by decide +kernel
theorem dX1_fillLevels_16 : decode cX1_fillLevels 16 = .ok (.iastore, 1) := by decide +kernel
theorem dX1_fillLevels_17 : decode cX1_fillLevels 17 = .ok (.iinc 3 1, 3) := by decide +kernel
theorem dX1_fillLevels_20 : decode cX1_fillLevels 20 = .ok (.goto (-18), 3) := by decide +kernel
theorem dX1_fillLevels_23 : decode cX1_fillLevels 23 = .ok (.return_, 1) := by decide +kernel
theorem dX2_init_0 : decode cX2_init 0 = .ok (.aload_n 0, 1) := by decide +kernel
theorem dX2_init_1 : decode cX2_init 1 = .ok (.invokespecial 3, 3) := by decide +kernel
theorem dX2_init_4 : decode cX2_init 4 = .ok (.aload_n 0, 1) := by decide +kernel
theorem dX2_init_5 : decode cX2_init 5 = .ok (.bipush 10, 2) := by decide +kernel
theorem dX2_init_7 : decode cX2_init 7 = .ok (.newarray .int, 2) := by decide +kernel
theorem dX2_init_9 : decode cX2_init 9 = .ok (.putfield 9, 3) := by decide +kernel
theorem dX2_init_12 : decode cX2_init 12 = .ok (.aload_n 0, 1) := by decide +kernel
theorem dX2_init_13 : decode cX2_init 13 = .ok (.bipush 10, 2) := by decide +kernel
theorem dX2_init_15 : decode cX2_init 15 = .ok (.newarray .int, 2) := by decide +kernel
theorem dX2_init_17 : decode cX2_init 17 = .ok (.putfield 15, 3) := by decide +kernel
theorem dX2_init_20 : decode cX2_init 20 = .ok (.iconst 0, 1) := by decide +kernel
theorem dX2_init_21 : decode cX2_init 21 = .ok (.istore_n 1, 1) := by decide +kernel
theorem dX2_init_22 : decode cX2_init 22 = .ok (.iload_n 1, 1) := by decide +kernel
theorem dX2_init_23 : decode cX2_init 23 = .ok (.bipush 10, 2) := by decide +kernel
theorem dX2_init_25 : decode cX2_init 25 = .ok (.if_icmp .ge 18, 3) := by decide +kernel
theorem dX2_init_28 : decode cX2_init 28 = .ok (.aload_n 0, 1) := by decide +kernel
theorem dX2_init_29 : decode cX2_init 29 = .ok (.getfield 9, 3) := by decide +kernel
theorem dX2_init_32 : decode cX2_init 32 = .ok (.iload_n 1, 1) := by decide +kernel
theorem dX2_init_33 : decode cX2_init 33 = .ok (.iload_n 1, 1) := by decide +kernel
theorem dX2_init_34 : decode cX2_init 34 = .ok (.iconst 4, 1) := by decide +kernel
theorem dX2_init_35 : decode cX2_init 35 = .ok (.irem, 1) := by decide +kernel
theorem dX2_init_36 : decode cX2_init 36 = .ok (.iastore, 1) := by decide +kernel
theorem dX2_init_37 : decode cX2_init 37 = .ok (.iinc 1 1, 3) := by decide +kernel
theorem dX2_init_40 : decode cX2_init 40 = .ok (.goto (-18), 3) := by decide +kernel
theorem dX2_init_43 : decode cX2_init 43 = .ok (.return_, 1) := by decide +kernel
theorem dX3_init_0 : decode cX3_init 0 = .ok (.aload_n 0, 1) := by decide +kernel
theorem dX3_init_1 : decode cX3_init 1 = .ok (.invokespecial 3, 3) := by decide +kernel
theorem dX3_init_4 : decode cX3_init 4 = .ok (.aload_n 0, 1) := by decide +kernel
theorem dX3_init_5 : decode cX3_init 5 = .ok (.bipush 20, 2) := by decide +kernel
theorem dX3_init_7 : decode cX3_init 7 = .ok (.newarray .int, 2) := by decide +kernel
theorem dX3_init_9 : decode cX3_init 9 = .ok (.putfield 9, 3) := by decide +kernel
theorem dX3_init_12 : decode cX3_init 12 = .ok (.aload_n 0, 1) := by decide +kernel
theorem dX3_init_13 : decode cX3_init 13 = .ok (.bipush 20, 2) := by decide +kernel
theorem dX3_init_15 : decode cX3_init 15 = .ok (.newarray .int, 2) := by decide +kernel
theorem dX3_init_17 : decode cX3_init 17 = .ok (.putfield 15, 3) := by decide +kernel
theorem dX3_init_20 : decode cX3_init 20 = .ok (.aload_n 0, 1) := by decide +kernel
theorem dX3_init_21 : decode cX3_init 21 = .ok (.bipush 20, 2) := by decide +kernel
theorem dX3_init_23 : decode cX3_init 23 = .ok (.newarray .int, 2) := by decide +kernel
theorem dX3_init_25 : decode cX3_init 25 = .ok (.putfield 18, 3) := by decide +kernel
theorem dX3_init_28 : decode cX3_init 28 = .ok (.aload_n 0, 1) := by decide +kernel
theorem dX3_init_29 : decode cX3_init 29 = .ok (.bipush 20, 2) := by decide +kernel
theorem dX3_init_31 : decode cX3_init 31 = .ok (.newarray .int, 2) := by decide +kernel
theorem dX3_init_33 : decode cX3_init 33 = .ok (.putfield 21, 3) := by decide +kernel
theorem dX3_init_36 : decode cX3_init 36 = .ok (.aload_n 0, 1) := by decide +kernel
theorem dX3_init_37 : decode cX3_init 37 = .ok (.bipush 20, 2) := by decide +kernel
theorem dX3_init_39 : decode cX3_init 39 = .ok (.newarray .int, 2) := by decide +kernel
theorem dX3_init_41 : decode cX3_init 41 = .ok (.putfield 24, 3) := by decide +kernel
theorem dX3_init_44 : decode cX3_init 44 = .ok (.aload_n 0, 1) := by decide +kernel
theorem dX3_init_45 : decode cX3_init 45 = .ok (.bipush 20, 2) := by decide +kernel
theorem dX3_init_47 : decode cX3_init 47 = .ok (.newarray .int, 2) := by decide +kernel
theorem dX3_init_49 : decode cX3_init 49 = .ok (.putfield 27, 3) := by decide +kernel
theorem dX3_init_52 : decode cX3_init 52 = .ok (.aload_n 0, 1) := by decide +kernel
theorem dX3_init_53 : decode cX3_init 53 = .ok (.bipush 20, 2) := by decide +kernel
theorem dX3_init_55 : decode cX3_init 55 = .ok (.newarray .int, 2) := by decide +kernel
theorem dX3_init_57 : decode cX3_init 57 = .ok (.putfield 30, 3) := by decide +kernel
theorem dX3_init_60 : decode cX3_init 60 = .ok (.aload_n 0, 1) := by decide +kernel
theorem dX3_init_61 : decode cX3_init 61 = .ok (.bipush 20, 2) := by decide +kernel
theorem dX3_init_63 : decode cX3_init 63 = .ok (.newarray .int, 2) := by decide +kernel
theorem dX3_init_65 : decode cX3_init 65 = .ok (.putfield 33, 3) := by decide +kernel
theorem dX3_init_68 : decode cX3_init 68 = .ok (.aload_n 0, 1) := by decide +kernel
theorem dX3_init_69 : decode cX3_init 69 = .ok (.iconst 0, 1) := by decide +kernel
theorem dX3_init_70 : decode cX3_init 70 = .ok (.putfield 36, 3) := by decide +kernel
theorem dX3_init_73 : decode cX3_init 73 = .ok (.return_, 1) := by decide +kernel
set_option maxRecDepth 20000 in
theorem ggX3_append_X3_putHome : GoodIn wsX3_append wsX3_putHome := goodIn_r _ [10, 2, 3, 11, 12, 13, 9, 14, 15, 16, 17, 18, 19, 20, 21, 22, 23, 24, 25] (by decide +kernel) (by decide +kernel)
set_option maxRecDepth 20000 in
theorem gX3_append_X3_putHome : GoodIn wsX3_append (wsV RX3 40 RX3 yX3_putHome wsX3_putHome) := goodIn_app (goodIn_of _ (by decide +kernel)) ggX3_append_X3_putHome
theorem dX3_append_0 : decode cX3_append 0 = .ok (.aload_n 0, 1) := by decide +kernel
theorem dX3_append_1 : decode cX3_append 1 = .ok (.getfield 36, 3) := by decide +kernel
theorem dX3_append_4 : decode cX3_append 4 = .ok (.istore 5, 2) := by decide +kernel
theorem dX3_append_6 : decode cX3_append 6 = .ok (.aload_n 0, 1) := by decide +kernel
theorem dX3_append_7 : decode cX3_append 7 = .ok (.getfield 9, 3) := by decide +kernel
theorem dX3_append_10 : decode cX3_append 10 = .ok (.iload 5, 2) := by decide +kernel
theorem dX3_append_12 : decode cX3_append 12 = .ok (.iload_n 1, 1) := by decide +kernel
theorem dX3_append_13 : decode cX3_append 13 = .ok (.iastore, 1) := by decide +kernel
theorem dX3_append_14 : decode cX3_append 14 = .ok (.aload_n 0, 1) := by decide +kernel
theorem dX3_append_15 : decode cX3_append 15 = .ok (.getfield 15, 3) := by decide +kernel
theorem dX3_append_18 : decode cX3_append 18 = .ok (.iload 5, 2) := by decide +kernel
theorem dX3_append_20 : decode cX3_append 20 = .ok (.iload_n 2, 1) := by decide +kernel
theorem dX3_append_21 : decode cX3_append 21 = .ok (.iastore, 1) := by decide +kernel
theorem dX3_append_22 : decode cX3_append 22 = .ok (.aload_n 0, 1) := by decide +kernel
theorem dX3_append_23 : decode cX3_append 23 = .ok (.getfield 18, 3) := by decide +kernel
theorem dX3_append_26 : decode cX3_append 26 = .ok (.iload 5, 2) := by decide +kernel
theorem dX3_append_28 : decode cX3_append 28 = .ok (.iload_n 3, 1) := by decide +kernel
theorem dX3_append_29 : decode cX3_append 29 = .ok (.iastore, 1) := by decide +kernel
theorem dX3_append_30 : decode cX3_append 30 = .ok (.aload_n 0, 1) := by decide +kernel
theorem dX3_append_31 : decode cX3_append 31 = .ok (.getfield 21, 3) := by decide +kernel
theorem dX3_append_34 : decode cX3_append 34 = .ok (.iload 5, 2) := by decide +kernel
theorem dX3_append_36 : decode cX3_append 36 = .ok (.iload 4, 2) := by decide +kernel
theorem dX3_append_38 : decode cX3_append 38 = .ok (.iastore, 1) := by decide +kernel
theorem dX3_append_39 : decode cX3_append 39 = .ok (.aload_n 0, 1) := by decide +kernel
theorem dX3_append_40 : decode cX3_append 40 = .ok (.dup, 1) := by decide +kernel
theorem dX3_append_41 : decode cX3_append 41 = .ok (.getfield 36, 3) := by decide +kernel
theorem dX3_append_44 : decode cX3_append 44 = .ok (.iconst 1, 1) := by decide +kernel
theorem dX3_append_45 : decode cX3_append 45 = .ok (.iadd, 1) := by decide +kernel
theorem dX3_append_46 : decode cX3_append 46 = .ok (.putfield 36, 3) := by decide +kernel
theorem dX3_append_49 : decode cX3_append 49 = .ok (.aload_n 0, 1) := by decide +kernel
theorem dX3_append_50 : decode cX3_append 50 = .ok (.iload 5, 2) := by decide +kernel
theorem dX3_append_52 : decode cX3_append 52 = .ok (.invokevirtual 40, 3) := by decide +kernel
theorem dX3_append_55 : decode cX3_append 55 = .ok (.iload 5, 2) := by decide +kernel
theorem dX3_append_57 : decode cX3_append 57 = .ok (.ireturn, 1) := by decide +kernel
theorem dX3_isHome_0 : decode cX3_isHome 0 = .ok (.aload_n 0, 1) := by decide +kernel
theorem dX3_isHome_1 : decode cX3_isHome 1 = .ok (.getfield 24, 3) := by decide +kernel
theorem dX3_isHome_4 : decode cX3_isHome 4 = .ok (.iload_n 1, 1) := by decide +kernel
theorem dX3_isHome_5 : decode cX3_isHome 5 = .ok (.iaload, 1) := by decide +kernel
theorem dX3_isHome_6 : decode cX3_isHome 6 = .ok (.aload_n 0, 1) := by decide +kernel
theorem dX3_isHome_7 : decode cX3_isHome 7 = .ok (.getfield 9, 3) := by decide +kernel
theorem dX3_isHome_10 : decode cX3_isHome 10 = .ok (.iload_n 1, 1) := by decide +kernel
theorem dX3_isHome_11 : decode cX3_isHome 11 = .ok (.iaload, 1) := by decide +kernel
theorem dX3_isHome_12 : decode cX3_isHome 12 = .ok (.if_icmp .ne 7, 3) := by decide +kernel
theorem dX3_isHome_15 : decode cX3_isHome 15 = .ok (.iconst 1, 1) := by decide +kernel
theorem dX3_isHome_16 : decode cX3_isHome 16 = .ok (.goto 4, 3) := by decide +kernel
theorem dX3_isHome_19 : decode cX3_isHome 19 = .ok (.iconst 0, 1) := by decide +kernel
theorem dX3_isHome_20 : decode cX3_isHome 20 = .ok (.ireturn, 1) := by decide +kernel
set_option maxRecDepth 20000 in
theorem ggX3_canGo_X3_isHome : GoodIn wsX3_canGo wsX3_isHome := goodIn_r _ [6, 7, 1, 8, 9, 10, 11, 12, 13, 14, 15, 16] (by decide +kernel) (by decide +kernel)
set_option maxRecDepth 20000 in
theorem gX3_canGo_X3_isHome : GoodIn wsX3_canGo (wsV RX3 44 RX3 yX3_isHome wsX3_isHome) := goodIn_app (goodIn_of _ (by decide +kernel)) ggX3_canGo_X3_isHome
theorem dX3_canGo_0 : decode cX3_canGo 0 = .ok (.aload_n 0, 1) := by decide +kernel
theorem dX3_canGo_1 : decode cX3_canGo 1 = .ok (.iload_n 1, 1) := by decide +kernel
theorem dX3_canGo_2 : decode cX3_canGo 2 = .ok (.invokevirtual 44, 3) := by decide +kernel
theorem dX3_canGo_5 : decode cX3_canGo 5 = .ok (.ifCond .eq 17, 3) := by decide +kernel
theorem dX3_canGo_8 : decode cX3_canGo 8 = .ok (.aload_n 0, 1) := by decide +kernel
theorem dX3_canGo_9 : decode cX3_canGo 9 = .ok (.getfield 9, 3) := by decide +kernel
theorem dX3_canGo_12 : decode cX3_canGo 12 = .ok (.iload_n 1, 1) := by decide +kernel
theorem dX3_canGo_13 : decode cX3_canGo 13 = .ok (.iaload, 1) := by decide +kernel
theorem dX3_canGo_14 : decode cX3_canGo 14 = .ok (.iload_n 2, 1) := by decide +kernel
theorem dX3_canGo_15 : decode cX3_canGo 15 = .ok (.if_icmp .eq 7, 3) := by decide +kernel
theorem dX3_canGo_18 : decode cX3_canGo 18 = .ok (.iconst 1, 1) := by decide +kernel
theorem dX3_canGo_19 : decode cX3_canGo 19 = .ok (.goto 4, 3) := by decide +kernel
theorem dX3_canGo_22 : decode cX3_canGo 22 = .ok (.iconst 0, 1) := by decide +kernel
theorem dX3_canGo_23 : decode cX3_canGo 23 = .ok (.ireturn, 1) := by decide +kernel
theorem dX3_put_0 : decode cX3_put 0 = .ok (.aload_n 0, 1) := by decide +kernel
theorem dX3_put_1 : decode cX3_put 1 = .ok (.getfield 24, 3) := by decide +kernel
theorem dX3_put_4 : decode cX3_put 4 = .ok (.iload_n 1, 1) := by decide +kernel
theorem dX3_put_5 : decode cX3_put 5 = .ok (.iload_n 2, 1) := by decide +kernel
theorem dX3_put_6 : decode cX3_put 6 = .ok (.iastore, 1) := by decide +kernel
theorem dX3_put_7 : decode cX3_put 7 = .ok (.aload_n 0, 1) := by decide +kernel
theorem dX3_put_8 : decode cX3_put 8 = .ok (.getfield 27, 3) := by decide +kernel
theorem dX3_put_11 : decode cX3_put 11 = .ok (.iload_n 1, 1) := by decide +kernel
theorem dX3_put_12 : decode cX3_put 12 = .ok (.iload_n 3, 1) := by decide +kernel
theorem dX3_put_13 : decode cX3_put 13 = .ok (.iastore, 1) := by decide +kernel
theorem dX3_put_14 : decode cX3_put 14 = .ok (.return_, 1) := by decide +kernel
set_option maxRecDepth 20000 in
theorem ggX3_putHome_X3_put : GoodIn wsX3_putHome wsX3_put := goodIn_r _ [7, 8, 9, 10, 11, 12, 13, 14, 15, 16, 17, 18] (by decide +kernel) (by decide +kernel)
set_option maxRecDepth 20000 in
theorem gX3_putHome_X3_put : GoodIn wsX3_putHome (wsV RX3 48 RX3 yX3_put wsX3_put) := goodIn_app (goodIn_of _ (by decide +kernel)) ggX3_putHome_X3_put
theorem dX3_putHome_0 : decode cX3_putHome 0 = .ok (.aload_n 0, 1) := by decide +kernel
theorem dX3_putHome_1 : decode cX3_putHome 1 = .ok (.iload_n 1, 1) := by decide +kernel
theorem dX3_putHome_2 : decode cX3_putHome 2 = .ok (.aload_n 0, 1) := by decide +kernel
theorem dX3_putHome_3 : decode cX3_putHome 3 = .ok (.getfield 9, 3) := by decide +kernel
theorem dX3_putHome_6 : decode cX3_putHome 6 = .ok (.iload_n 1, 1) := by decide +kernel
theorem dX3_putHome_7 : decode cX3_putHome 7 = .ok (.iaload, 1) := by decide +kernel
theorem dX3_putHome_8 : decode cX3_putHome 8 = .ok (.aload_n 0, 1) := by decide +kernel
theorem dX3_putHome_9 : decode cX3_putHome 9 = .ok (.getfield 15, 3) := by decide +kernel
theorem dX3_putHome_12 : decode cX3_putHome 12 = .ok (.iload_n 1, 1) := by decide +kernel
theorem dX3_putHome_13 : decode cX3_putHome 13 = .ok (.iaload, 1) := by decide +kernel
theorem dX3_putHome_14 : decode cX3_putHome 14 = .ok (.invokevirtual 48, 3) := by decide +kernel
theorem dX3_putHome_17 : decode cX3_putHome 17 = .ok (.return_, 1) := by decide +kernel
theorem dX3_isFor_0 : decode cX3_isFor 0 = .ok (.aload_n 0, 1) := by decide +kernel
theorem dX3_isFor_1 : decode cX3_isFor 1 = .ok (.getfield 24, 3) := by decide +kernel
theorem dX3_isFor_4 : decode cX3_isFor 4 = .ok (.iload_n 1, 1) := by decide +kernel
theorem dX3_isFor_5 : decode cX3_isFor 5 = .ok (.iaload, 1) := by decide +kernel
theorem dX3_isFor_6 : decode cX3_isFor 6 = .ok (.iload_n 2, 1) := by decide +kernel
theorem dX3_isFor_7 : decode cX3_isFor 7 = .ok (.if_icmp .ne 17, 3) := by decide +kernel
theorem dX3_isFor_10 : decode cX3_isFor 10 = .ok (.aload_n 0, 1) := by decide +kernel
theorem dX3_isFor_11 : decode cX3_isFor 11 = .ok (.getfield 27, 3) := by decide +kernel
theorem dX3_isFor_14 : decode cX3_isFor 14 = .ok (.iload_n 1, 1) := by decide +kernel
theorem dX3_isFor_15 : decode cX3_isFor 15 = .ok (.iaload, 1) := by decide +kernel
theorem dX3_isFor_16 : decode cX3_isFor 16 = .ok (.iload_n 3, 1) := by decide +kernel
theorem dX3_isFor_17 : decode cX3_isFor 17 = .ok (.if_icmp .ne 7, 3) := by decide +kernel
theorem dX3_isFor_20 : decode cX3_isFor 20 = .ok (.iconst 1, 1) := by decide +kernel
theorem dX3_isFor_21 : decode cX3_isFor 21 = .ok (.goto 4, 3) := by decide +kernel
theorem dX3_isFor_24 : decode cX3_isFor 24 = .ok (.iconst 0, 1) := by decide +kernel
theorem dX3_isFor_25 : decode cX3_isFor 25 = .ok (.ireturn, 1) := by decide +kernel
set_option maxRecDepth 20000 in
theorem ggX3_lampsFor_X3_isFor : GoodIn wsX3_lampsFor wsX3_isFor := goodIn_r _ [7, 8, 9, 10, 11, 12, 13, 14, 15, 16, 17, 18] (by decide +kernel) (by decide +kernel)
set_option maxRecDepth 20000 in
theorem gX3_lampsFor_X3_isFor : GoodIn wsX3_lampsFor (wsV RX3 52 RX3 yX3_isFor wsX3_isFor) := goodIn_app (goodIn_of _ (by decide +kernel)) ggX3_lampsFor_X3_isFor
theorem dX3_lampsFor_0 : decode cX3_lampsFor 0 = .ok (.iconst 0, 1) := by decide +kernel
theorem dX3_lampsFor_1 : decode cX3_lampsFor 1 = .ok (.istore 4, 2) := by decide +kernel
theorem dX3_lampsFor_3 : decode cX3_lampsFor 3 = .ok (.iconst 0, 1) := by decide +kernel
theorem dX3_lampsFor_4 : decode cX3_lampsFor 4 = .ok (.istore 5, 2) := by decide +kernel
theorem dX3_lampsFor_6 : decode cX3_lampsFor 6 = .ok (.iconst 0, 1) := by decide +kernel
theorem dX3_lampsFor_7 : decode cX3_lampsFor 7 = .ok (.istore 6, 2) := by decide +kernel
theorem dX3_lampsFor_9 : decode cX3_lampsFor 9 = .ok (.iload 6, 2) := by decide +kernel
theorem dX3_lampsFor_11 : decode cX3_lampsFor 11 = .ok (.aload_n 0, 1) := by decide +kernel
theorem dX3_lampsFor_12 : decode cX3_lampsFor 12 = .ok (.getfield 36, 3) := by decide +kernel
theorem dX3_lampsFor_15 : decode cX3_lampsFor 15 = .ok (.if_icmp .ge 49, 3) := by decide +kernel
theorem dX3_lampsFor_18 : decode cX3_lampsFor 18 = .ok (.aload_n 0, 1) := by decide +kernel
theorem dX3_lampsFor_19 : decode cX3_lampsFor 19 = .ok (.iload 6, 2) := by decide +kernel
theorem dX3_lampsFor_21 : decode cX3_lampsFor 21 = .ok (.iload_n 1, 1) := by decide +kernel
theorem dX3_lampsFor_22 : decode cX3_lampsFor 22 = .ok (.iload_n 2, 1) := by decide +kernel
theorem dX3_lampsFor_23 : decode cX3_lampsFor 23 = .ok (.invokevirtual 52, 3) := by decide +kernel
theorem dX3_lampsFor_26 : decode cX3_lampsFor 26 = .ok (.ifCond .eq 32, 3) := by decide +kernel
theorem dX3_lampsFor_29 : decode cX3_lampsFor 29 = .ok (.iload 5, 2) := by decide +kernel
theorem dX3_lampsFor_31 : decode cX3_lampsFor 31 = .ok (.iconst 1, 1) := by decide +kernel
theorem dX3_lampsFor_32 : decode cX3_lampsFor 32 = .ok (.iload 6, 2) := by decide +kernel
theorem dX3_lampsFor_34 : decode cX3_lampsFor 34 = .ok (.ishl, 1) := by decide +kernel
theorem dX3_lampsFor_35 : decode cX3_lampsFor 35 = .ok (.ior, 1) := by decide +kernel
theorem dX3_lampsFor_36 : decode cX3_lampsFor 36 = .ok (.istore 5, 2) := by decide +kernel
theorem dX3_lampsFor_38 : decode cX3_lampsFor 38 = .ok (.aload_n 0, 1) := by decide +kernel
theorem dX3_lampsFor_39 : decode cX3_lampsFor 39 = .ok (.getfield 18, 3) := by decide +kernel
theorem dX3_lampsFor_42 : decode cX3_lampsFor 42 = .ok (.iload 6, 2) := by decide +kernel
theorem dX3_lampsFor_44 : decode cX3_lampsFor 44 = .ok (.iaload, 1) := by decide +kernel
theorem dX3_lampsFor_45 : decode cX3_lampsFor 45 = .ok (.iload_n 3, 1) := by decide +kernel
theorem dX3_lampsFor_46 : decode cX3_lampsFor 46 = .ok (.if_icmp .ne 12, 3) := by decide +kernel
theorem dX3_lampsFor_49 : decode cX3_lampsFor 49 = .ok (.iload 4, 2) := by decide +kernel
theorem dX3_lampsFor_51 : decode cX3_lampsFor 51 = .ok (.iconst 1, 1) := by decide +kernel
theorem dX3_lampsFor_52 : decode cX3_lampsFor 52 = .ok (.iload 6, 2) := by decide +kernel
theorem dX3_lampsFor_54 : decode cX3_lampsFor 54 = .ok (.ishl, 1) := by decide +kernel
theorem dX3_lampsFor_55 : decode cX3_lampsFor 55 = .ok (.ior, 1) := by decide +kernel
theorem dX3_lampsFor_56 : decode cX3_lampsFor 56 = .ok (.istore 4, 2) := by decide +kernel
theorem dX3_lampsFor_58 : decode cX3_lampsFor 58 = .ok (.iinc 6 1, 3) := by decide +kernel
theorem dX3_lampsFor_61 : decode cX3_lampsFor 61 = .ok (.goto (-52), 3) := by decide +kernel
theorem dX3_lampsFor_64 : decode cX3_lampsFor 64 = .ok (.iload 4, 2) := by decide +kernel
theorem dX3_lampsFor_66 : decode cX3_lampsFor 66 = .ok (.ifCond .eq 8, 3) := by decide +kernel
theorem dX3_lampsFor_69 : decode cX3_lampsFor 69 = .ok (.iload 4, 2) := by decide +kernel
theorem dX3_lampsFor_71 : decode cX3_lampsFor 71 = .ok (.goto 5, 3) := by decide +kernel
theorem dX3_lampsFor_74 : decode cX3_lampsFor 74 = .ok (.iload 5, 2) := by decide +kernel
theorem dX3_lampsFor_76 : decode cX3_lampsFor 76 = .ok (.ireturn, 1) := by decide +kernel
set_option maxRecDepth 20000 in
theorem ggX3_lay_X3_lampsFor : GoodIn wsX3_lay wsX3_lampsFor := goodIn_r _ [5, 6, 7, 8, 9, 10, 4, 11, 12, 13, 16, 17, 18, 19, 20, 21, 22, 23, 24] (by decide +kernel) (by decide +kernel)
set_option maxRecDepth 20000 in
theorem gX3_lay_X3_lampsFor : GoodIn wsX3_lay (wsV RX3 60 RX3 yX3_lampsFor wsX3_lampsFor) := goodIn_app (goodIn_of _ (by decide +kernel)) ggX3_lay_X3_lampsFor
theorem dX3_lay_0 : decode cX3_lay 0 = .ok (.iconst 0, 1) := by decide +kernel
theorem dX3_lay_1 : decode cX3_lay 1 = .ok (.istore 4, 2) := by decide +kernel
theorem dX3_lay_3 : decode cX3_lay 3 = .ok (.iload 4, 2) := by decide +kernel
theorem dX3_lay_5 : decode cX3_lay 5 = .ok (.bipush 10, 2) := by decide +kernel
theorem dX3_lay_7 : decode cX3_lay 7 = .ok (.if_icmp .ge 32, 3) := by decide +kernel
theorem dX3_lay_10 : decode cX3_lay 10 = .ok (.aload_n 3, 1) := by decide +kernel
theorem dX3_lay_11 : decode cX3_lay 11 = .ok (.iload 4, 2) := by decide +kernel
theorem dX3_lay_13 : decode cX3_lay 13 = .ok (.aload_n 0, 1) := by decide +kernel
theorem dX3_lay_14 : decode cX3_lay 14 = .ok (.iload_n 1, 1) := by decide +kernel
theorem dX3_lay_15 : decode cX3_lay 15 = .ok (.aload_n 2, 1) := by decide +kernel
theorem dX3_lay_16 : decode cX3_lay 16 = .ok (.getfield 56, 3) := by decide +kernel
theorem dX3_lay_19 : decode cX3_lay 19 = .ok (.iload 4, 2) := by decide +kernel
theorem dX3_lay_21 : decode cX3_lay 21 = .ok (.iaload, 1) := by decide +kernel
theorem dX3_lay_22 : decode cX3_lay 22 = .ok (.aload_n 2, 1) := by decide +kernel
theorem dX3_lay_23 : decode cX3_lay 23 = .ok (.getfield 59, 3) := by decide +kernel
theorem dX3_lay_26 : decode cX3_lay 26 = .ok (.iload 4, 2) := by decide +kernel
theorem dX3_lay_28 : decode cX3_lay 28 = .ok (.iaload, 1) := by decide +kernel
theorem dX3_lay_29 : decode cX3_lay 29 = .ok (.invokevirtual 60, 3) := by decide +kernel
theorem dX3_lay_32 : decode cX3_lay 32 = .ok (.iastore, 1) := by decide +kernel
theorem dX3_lay_33 : decode cX3_lay 33 = .ok (.iinc 4 1, 3) := by decide +kernel
theorem dX3_lay_36 : decode cX3_lay 36 = .ok (.goto (-33), 3) := by decide +kernel
theorem dX3_lay_39 : decode cX3_lay 39 = .ok (.return_, 1) := by decide +kernel
theorem dX3_levelOf_0 : decode cX3_levelOf 0 = .ok (.aload_n 0, 1) := by decide +kernel
theorem dX3_levelOf_1 : decode cX3_levelOf 1 = .ok (.getfield 30, 3) := by decide +kernel
theorem dX3_levelOf_4 : decode cX3_levelOf 4 = .ok (.iload_n 1, 1) := by decide +kernel
theorem dX3_levelOf_5 : decode cX3_levelOf 5 = .ok (.iaload, 1) := by decide +kernel
theorem dX3_levelOf_6 : decode cX3_levelOf 6 = .ok (.sipush 300, 3) := by decide +kernel
theorem dX3_levelOf_9 : decode cX3_levelOf 9 = .ok (.if_icmp .lt 5, 3) := by decide +kernel
theorem dX3_levelOf_12 : decode cX3_levelOf 12 = .ok (.iconst 0, 1) := by decide +kernel
theorem dX3_levelOf_13 : decode cX3_levelOf 13 = .ok (.ireturn, 1) := by decide +kernel
theorem dX3_levelOf_14 : decode cX3_levelOf 14 = .ok (.iconst 0, 1) := by decide +kernel
theorem dX3_levelOf_15 : decode cX3_levelOf 15 = .ok (.istore 4, 2) := by decide +kernel
theorem dX3_levelOf_17 : decode cX3_levelOf 17 = .ok (.iconst 0, 1) := by decide +kernel
theorem dX3_levelOf_18 : decode cX3_levelOf 18 = .ok (.istore 5, 2) := by decide +kernel
theorem dX3_levelOf_20 : decode cX3_levelOf 20 = .ok (.iload 5, 2) := by decide +kernel
theorem dX3_levelOf_22 : decode cX3_levelOf 22 = .ok (.bipush 10, 2) := by decide +kernel
theorem dX3_levelOf_24 : decode cX3_levelOf 24 = .ok (.if_icmp .ge 35, 3) := by decide +kernel
theorem dX3_levelOf_27 : decode cX3_levelOf 27 = .ok (.aload_n 2, 1) := by decide +kernel
theorem dX3_levelOf_28 : decode cX3_levelOf 28 = .ok (.iload 5, 2) := by decide +kernel
theorem dX3_levelOf_30 : decode cX3_levelOf 30 = .ok (.iaload, 1) := by decide +kernel
theorem dX3_levelOf_31 : decode cX3_levelOf 31 = .ok (.iload_n 1, 1) := by decide +kernel
theorem dX3_levelOf_32 : decode cX3_levelOf 32 = .ok (.ishr, 1) := by decide +kernel
theorem dX3_levelOf_33 : decode cX3_levelOf 33 = .ok (.iconst 1, 1) := by decide +kernel
theorem dX3_levelOf_34 : decode cX3_levelOf 34 = .ok (.iand, 1) := by decide +kernel
theorem dX3_levelOf_35 : decode cX3_levelOf 35 = .ok (.ifCond .eq 18, 3) := by decide +kernel
theorem dX3_levelOf_38 : decode cX3_levelOf 38 = .ok (.aload_n 3, 1) := by decide +kernel
theorem dX3_levelOf_39 : decode cX3_levelOf 39 = .ok (.iload 5, 2) := by decide +kernel
theorem dX3_levelOf_41 : decode cX3_levelOf 41 = .ok (.iaload, 1) := by decide +kernel
theorem dX3_levelOf_42 : decode cX3_levelOf 42 = .ok (.iload 4, 2) := by decide +kernel
theorem dX3_levelOf_44 : decode cX3_levelOf 44 = .ok (.if_icmp .le 9, 3) := by decide +kernel
theorem dX3_levelOf_47 : decode cX3_levelOf 47 = .ok (.aload_n 3, 1) := by decide +kernel
theorem dX3_levelOf_48 : decode cX3_levelOf 48 = .ok (.iload 5, 2) := by decide +kernel
theorem dX3_levelOf_50 : decode cX3_levelOf 50 = .ok (.iaload, 1) := by decide +kernel
theorem dX3_levelOf_51 : decode cX3_levelOf 51 = .ok (.istore 4, 2) := by decide +kernel
theorem dX3_levelOf_53 : decode cX3_levelOf 53 = .ok (.iinc 5 1, 3) := by decide +kernel
theorem dX3_levelOf_56 : decode cX3_levelOf 56 = .ok (.goto (-36), 3) := by decide +kernel
theorem dX3_levelOf_59 : decode cX3_levelOf 59 = .ok (.iload 4, 2) := by decide +kernel
theorem dX3_levelOf_61 : decode cX3_levelOf 61 = .ok (.ireturn, 1) := by decide +kernel
set_option maxRecDepth 20000 in
theorem ggX3_lightOf_X3_isFor : GoodIn wsX3_lightOf wsX3_isFor := goodIn_r _ [7, 8, 9, 15, 16, 17, 18, 19, 20, 21, 22, 23] (by decide +kernel) (by decide +kernel)
set_option maxRecDepth 20000 in
theorem gX3_lightOf_X3_isFor : GoodIn wsX3_lightOf (wsV RX3 52 RX3 yX3_isFor wsX3_isFor) := goodIn_app (goodIn_of _ (by decide +kernel)) ggX3_lightOf_X3_isFor
set_option maxRecDepth 20000 in
theorem ggX3_lightOf_X3_levelOf : GoodIn wsX3_lightOf wsX3_levelOf := goodIn_r _ [13, 14, 15, 16, 17, 18, 19, 20, 21, 22, 23] (by decide +kernel) (by decide +kernel)
set_option maxRecDepth 20000 in
theorem gX3_lightOf_X3_levelOf : GoodIn wsX3_lightOf (wsV RX3 64 RX3 yX3_levelOf wsX3_levelOf) := goodIn_app (goodIn_of _ (by decide +kernel)) ggX3_lightOf_X3_levelOf
theorem dX3_lightOf_0 : decode cX3_lightOf 0 = .ok (.iconst 0, 1) := by decide +kernel
theorem dX3_lightOf_1 : decode cX3_lightOf 1 = .ok (.istore 5, 2) := by decide +kernel
theorem dX3_lightOf_3 : decode cX3_lightOf 3 = .ok (.iconst 0, 1) := by decide +kernel
theorem dX3_lightOf_4 : decode cX3_lightOf 4 = .ok (.istore 6, 2) := by decide +kernel
theorem dX3_lightOf_6 : decode cX3_lightOf 6 = .ok (.iload 6, 2) := by decide +kernel
theorem dX3_lightOf_8 : decode cX3_lightOf 8 = .ok (.aload_n 0, 1) := by decide +kernel
theorem dX3_lightOf_9 : decode cX3_lightOf 9 = .ok (.getfield 36, 3) := by decide +kernel
theorem dX3_lightOf_12 : decode cX3_lightOf 12 = .ok (.if_icmp .ge 45, 3) := by decide +kernel
theorem dX3_lightOf_15 : decode cX3_lightOf 15 = .ok (.aload_n 0, 1) := by decide +kernel
theorem dX3_lightOf_16 : decode cX3_lightOf 16 = .ok (.iload 6, 2) := by decide +kernel
theorem dX3_lightOf_18 : decode cX3_lightOf 18 = .ok (.iload_n 1, 1) := by decide +kernel
theorem dX3_lightOf_19 : decode cX3_lightOf 19 = .ok (.iload_n 2, 1) := by decide +kernel
theorem dX3_lightOf_20 : decode cX3_lightOf 20 = .ok (.invokevirtual 52, 3) := by decide +kernel
theorem dX3_lightOf_23 : decode cX3_lightOf 23 = .ok (.ifCond .eq 28, 3) := by decide +kernel
theorem dX3_lightOf_26 : decode cX3_lightOf 26 = .ok (.iload 5, 2) := by decide +kernel
theorem dX3_lightOf_28 : decode cX3_lightOf 28 = .ok (.aload_n 0, 1) := by decide +kernel
theorem dX3_lightOf_29 : decode cX3_lightOf 29 = .ok (.iload 6, 2) := by decide +kernel
theorem dX3_lightOf_31 : decode cX3_lightOf 31 = .ok (.aload_n 3, 1) := by decide +kernel
theorem dX3_lightOf_32 : decode cX3_lightOf 32 = .ok (.aload 4, 2) := by decide +kernel
theorem dX3_lightOf_34 : decode cX3_lightOf 34 = .ok (.invokevirtual 64, 3) := by decide +kernel
theorem dX3_lightOf_37 : decode cX3_lightOf 37 = .ok (.aload_n 0, 1) := by decide +kernel
theorem dX3_lightOf_38 : decode cX3_lightOf 38 = .ok (.getfield 21, 3) := by decide +kernel
theorem dX3_lightOf_41 : decode cX3_lightOf 41 = .ok (.iload 6, 2) := by decide +kernel
theorem dX3_lightOf_43 : decode cX3_lightOf 43 = .ok (.iaload, 1) := by decide +kernel
theorem dX3_lightOf_44 : decode cX3_lightOf 44 = .ok (.imul, 1) := by decide +kernel
theorem dX3_lightOf_45 : decode cX3_lightOf 45 = .ok (.bipush 100, 2) := by decide +kernel
theorem dX3_lightOf_47 : decode cX3_lightOf 47 = .ok (.idiv, 1) := by decide +kernel
theorem dX3_lightOf_48 : decode cX3_lightOf 48 = .ok (.iadd, 1) := by decide +kernel
theorem dX3_lightOf_49 : decode cX3_lightOf 49 = .ok (.istore 5, 2) := by decide +kernel
theorem dX3_lightOf_51 : decode cX3_lightOf 51 = .ok (.iinc 6 1, 3) := by decide +kernel
theorem dX3_lightOf_54 : decode cX3_lightOf 54 = .ok (.goto (-48), 3) := by decide +kernel
theorem dX3_lightOf_57 : decode cX3_lightOf 57 = .ok (.iload 5, 2) := by decide +kernel
theorem dX3_lightOf_59 : decode cX3_lightOf 59 = .ok (.bipush 100, 2) := by decide +kernel
theorem dX3_lightOf_61 : decode cX3_lightOf 61 = .ok (.if_icmp .ge 8, 3) := by decide +kernel
theorem dX3_lightOf_64 : decode cX3_lightOf 64 = .ok (.iload 5, 2) := by decide +kernel
theorem dX3_lightOf_66 : decode cX3_lightOf 66 = .ok (.goto 5, 3) := by decide +kernel
theorem dX3_lightOf_69 : decode cX3_lightOf 69 = .ok (.bipush 100, 2) := by decide +kernel
theorem dX3_lightOf_71 : decode cX3_lightOf 71 = .ok (.ireturn, 1) := by decide +kernel
theorem dX3_startBurning_0 : decode cX3_startBurning 0 = .ok (.iconst 0, 1) := by decide +kernel
theorem dX3_startBurning_1 : decode cX3_startBurning 1 = .ok (.istore_n 1, 1) := by decide +kernel
theorem dX3_startBurning_2 : decode cX3_startBurning 2 = .ok (.iload_n 1, 1) := by decide +kernel
theorem dX3_startBurning_3 : decode cX3_startBurning 3 = .ok (.aload_n 0, 1) := by decide +kernel
theorem dX3_startBurning_4 : decode cX3_startBurning 4 = .ok (.getfield 36, 3) := by decide +kernel
theorem dX3_startBurning_7 : decode cX3_startBurning 7 = .ok (.if_icmp .ge 16, 3) := by decide +kernel
theorem dX3_startBurning_10 : decode cX3_startBurning 10 = .ok (.aload_n 0, 1) := by decide +kernel
theorem dX3_startBurning_11 : decode cX3_startBurning 11 = .ok (.getfield 33, 3) := by decide +kernel
theorem dX3_startBurning_14 : decode cX3_startBurning 14 = .ok (.iload_n 1, 1) := by decide +kernel
theorem dX3_startBurning_15 : decode cX3_startBurning 15 = .ok (.iconst 0, 1) := by decide +kernel
theorem dX3_startBurning_16 : decode cX3_startBurning 16 = .ok (.iastore, 1) := by decide +kernel
theorem dX3_startBurning_17 : decode cX3_startBurning 17 = .ok (.iinc 1 1, 3) := by decide +kernel
theorem dX3_startBurning_20 : decode cX3_startBurning 20 = .ok (.goto (-18), 3) := by decide +kernel
theorem dX3_startBurning_23 : decode cX3_startBurning 23 = .ok (.return_, 1) := by decide +kernel
set_option maxRecDepth 20000 in
theorem ggX3_burn_X3_levelOf : GoodIn wsX3_burn wsX3_levelOf := goodIn_r _ [8, 9, 10, 11, 12, 13, 14, 15, 16, 17, 18] (by decide +kernel) (by decide +kernel)
set_option maxRecDepth 20000 in
theorem gX3_burn_X3_levelOf : GoodIn wsX3_burn (wsV RX3 64 RX3 yX3_levelOf wsX3_levelOf) := goodIn_app (goodIn_of _ (by decide +kernel)) ggX3_burn_X3_levelOf
theorem dX3_burn_0 : decode cX3_burn 0 = .ok (.iconst 0, 1) := by decide +kernel
theorem dX3_burn_1 : decode cX3_burn 1 = .ok (.istore 4, 2) := by decide +kernel
theorem dX3_burn_3 : decode cX3_burn 3 = .ok (.iload 4, 2) := by decide +kernel
theorem dX3_burn_5 : decode cX3_burn 5 = .ok (.aload_n 0, 1) := by decide +kernel
theorem dX3_burn_6 : decode cX3_burn 6 = .ok (.getfield 36, 3) := by decide +kernel
theorem dX3_burn_9 : decode cX3_burn 9 = .ok (.if_icmp .ge 42, 3) := by decide +kernel
theorem dX3_burn_12 : decode cX3_burn 12 = .ok (.aload_n 0, 1) := by decide +kernel
theorem dX3_burn_13 : decode cX3_burn 13 = .ok (.getfield 24, 3) := by decide +kernel
theorem dX3_burn_16 : decode cX3_burn 16 = .ok (.iload 4, 2) := by decide +kernel
theorem dX3_burn_18 : decode cX3_burn 18 = .ok (.iaload, 1) := by decide +kernel
theorem dX3_burn_19 : decode cX3_burn 19 = .ok (.iload_n 1, 1) := by decide +kernel
theorem dX3_burn_20 : decode cX3_burn 20 = .ok (.if_icmp .ne 25, 3) := by decide +kernel
theorem dX3_burn_23 : decode cX3_burn 23 = .ok (.aload_n 0, 1) := by decide +kernel
theorem dX3_burn_24 : decode cX3_burn 24 = .ok (.iload 4, 2) := by decide +kernel
theorem dX3_burn_26 : decode cX3_burn 26 = .ok (.aload_n 2, 1) := by decide +kernel
theorem dX3_burn_27 : decode cX3_burn 27 = .ok (.aload_n 3, 1) := by decide +kernel
theorem dX3_burn_28 : decode cX3_burn 28 = .ok (.invokevirtual 64, 3) := by decide +kernel
theorem dX3_burn_31 : decode cX3_burn 31 = .ok (.ifCond .le 14, 3) := by decide +kernel
theorem dX3_burn_34 : decode cX3_burn 34 = .ok (.aload_n 0, 1) := by decide +kernel
theorem dX3_burn_35 : decode cX3_burn 35 = .ok (.getfield 33, 3) := by decide +kernel
theorem dX3_burn_38 : decode cX3_burn 38 = .ok (.iload 4, 2) := by decide +kernel
theorem dX3_burn_40 : decode cX3_burn 40 = .ok (.dup2, 1) := by decide +kernel
theorem dX3_burn_41 : decode cX3_burn 41 = .ok (.iaload, 1) := by decide +kernel
theorem dX3_burn_42 : decode cX3_burn 42 = .ok (.iconst 1, 1) := by decide +kernel
theorem dX3_burn_43 : decode cX3_burn 43 = .ok (.iadd, 1) := by decide +kernel
theorem dX3_burn_44 : decode cX3_burn 44 = .ok (.iastore, 1) := by decide +kernel
theorem dX3_burn_45 : decode cX3_burn 45 = .ok (.iinc 4 1, 3) := by decide +kernel
theorem dX3_burn_48 : decode cX3_burn 48 = .ok (.goto (-45), 3) := by decide +kernel
theorem dX3_burn_51 : decode cX3_burn 51 = .ok (.return_, 1) := by decide +kernel
theorem dX3_addBurnt_0 : decode cX3_addBurnt 0 = .ok (.iconst 0, 1) := by decide +kernel
theorem dX3_addBurnt_1 : decode cX3_addBurnt 1 = .ok (.istore_n 1, 1) := by decide +kernel
theorem dX3_addBurnt_2 : decode cX3_addBurnt 2 = .ok (.iload_n 1, 1) := by decide +kernel
theorem dX3_addBurnt_3 : decode cX3_addBurnt 3 = .ok (.aload_n 0, 1) := by decide +kernel
theorem dX3_addBurnt_4 : decode cX3_addBurnt 4 = .ok (.getfield 36, 3) := by decide +kernel
theorem dX3_addBurnt_7 : decode cX3_addBurnt 7 = .ok (.if_icmp .ge 24, 3) := by decide +kernel
theorem dX3_addBurnt_10 : decode cX3_addBurnt 10 = .ok (.aload_n 0, 1) := by decide +kernel
theorem dX3_addBurnt_11 : decode cX3_addBurnt 11 = .ok (.getfield 30, 3) := by decide +kernel
theorem dX3_addBurnt_14 : decode cX3_addBurnt 14 = .ok (.iload_n 1, 1) := by decide +kernel
theorem dX3_addBurnt_15 : decode cX3_addBurnt 15 = .ok (.dup2, 1) := by decide +kernel
theorem dX3_addBurnt_16 : decode cX3_addBurnt 16 = .ok (.iaload, 1) := by decide +kernel
theorem dX3_addBurnt_17 : decode cX3_addBurnt 17 = .ok (.aload_n 0, 1) := by decide +kernel
theorem dX3_addBurnt_18 : decode cX3_addBurnt 18 = .ok (.getfield 33, 3) := by decide +kernel
theorem dX3_addBurnt_21 : decode cX3_addBurnt 21 = .ok (.iload_n 1, 1) := by decide +kernel
theorem dX3_addBurnt_22 : decode cX3_addBurnt 22 = .ok (.iaload, 1) := by decide +kernel
theorem dX3_addBurnt_23 : decode cX3_addBurnt 23 = .ok (.iadd, 1) := by decide +kernel
theorem dX3_addBurnt_24 : decode cX3_addBurnt 24 = .ok (.iastore, 1) := by decide +kernel
theorem dX3_addBurnt_25 : decode cX3_addBurnt 25 = .ok (.iinc 1 1, 3) := by decide +kernel
theorem dX3_addBurnt_28 : decode cX3_addBurnt 28 = .ok (.goto (-26), 3) := by decide +kernel
theorem dX3_addBurnt_31 : decode cX3_addBurnt 31 = .ok (.return_, 1) := by decide +kernel
theorem dX4_init_0 : decode cX4_init 0 = .ok (.aload_n 0, 1) := by decide +kernel
theorem dX4_init_1 : decode cX4_init 1 = .ok (.invokespecial 3, 3) := by decide +kernel
theorem dX4_init_4 : decode cX4_init 4 = .ok (.aload_n 0, 1) := by decide +kernel
theorem dX4_init_5 : decode cX4_init 5 = .ok (.bipush 30, 2) := by decide +kernel
theorem dX4_init_7 : decode cX4_init 7 = .ok (.newarray .int, 2) := by decide +kernel
theorem dX4_init_9 : decode cX4_init 9 = .ok (.putfield 9, 3) := by decide +kernel
theorem dX4_init_12 : decode cX4_init 12 = .ok (.aload_n 0, 1) := by decide +kernel
theorem dX4_init_13 : decode cX4_init 13 = .ok (.bipush 30, 2) := by decide +kernel
theorem dX4_init_15 : decode cX4_init 15 = .ok (.newarray .boolean, 2) := by decide +kernel
theorem dX4_init_17 : decode cX4_init 17 = .ok (.putfield 15, 3) := by decide +kernel
theorem dX4_init_20 : decode cX4_init 20 = .ok (.aload_n 0, 1) := by decide +kernel
theorem dX4_init_21 : decode cX4_init 21 = .ok (.bipush 30, 2) := by decide +kernel
theorem dX4_init_23 : decode cX4_init 23 = .ok (.iconst 4, 1) := by decide +kernel
theorem dX4_init_24 : decode cX4_init 24 = .ok (.multianewarray 19 2, 4) := by decide +kernel
theorem dX4_init_28 : decode cX4_init 28 = .ok (.putfield 21, 3) := by decide +kernel
theorem dX4_init_31 : decode cX4_init 31 = .ok (.aload_n 0, 1) := by decide +kernel
theorem dX4_init_32 : decode cX4_init 32 = .ok (.iconst 0, 1) := by decide +kernel
theorem dX4_init_33 : decode cX4_init 33 = .ok (.putfield 24, 3) := by decide +kernel
theorem dX4_init_36 : decode cX4_init 36 = .ok (.return_, 1) := by decide +kernel
theorem dX4_append_0 : decode cX4_append 0 = .ok (.aload_n 0, 1) := by decide +kernel
theorem dX4_append_1 : decode cX4_append 1 = .ok (.getfield 9, 3) := by decide +kernel
theorem dX4_append_4 : decode cX4_append 4 = .ok (.aload_n 0, 1) := by decide +kernel
theorem dX4_append_5 : decode cX4_append 5 = .ok (.getfield 24, 3) := by decide +kernel
theorem dX4_append_8 : decode cX4_append 8 = .ok (.iload_n 1, 1) := by decide +kernel
theorem dX4_append_9 : decode cX4_append 9 = .ok (.iastore, 1) := by decide +kernel
theorem dX4_append_10 : decode cX4_append 10 = .ok (.aload_n 0, 1) := by decide +kernel
theorem dX4_append_11 : decode cX4_append 11 = .ok (.dup, 1) := by decide +kernel
theorem dX4_append_12 : decode cX4_append 12 = .ok (.getfield 24, 3) := by decide +kernel
theorem dX4_append_15 : decode cX4_append 15 = .ok (.iconst 1, 1) := by decide +kernel
theorem dX4_append_16 : decode cX4_append 16 = .ok (.iadd, 1) := by decide +kernel
theorem dX4_append_17 : decode cX4_append 17 = .ok (.putfield 24, 3) := by decide +kernel
theorem dX4_append_20 : decode cX4_append 20 = .ok (.aload_n 0, 1) := by decide +kernel
theorem dX4_append_21 : decode cX4_append 21 = .ok (.getfield 24, 3) := by decide +kernel
theorem dX4_append_24 : decode cX4_append 24 = .ok (.iconst 1, 1) := by decide +kernel
theorem dX4_append_25 : decode cX4_append 25 = .ok (.isub, 1) := by decide +kernel
theorem dX4_append_26 : decode cX4_append 26 = .ok (.ireturn, 1) := by decide +kernel
theorem dX4_secondsAhead_0 : decode cX4_secondsAhead 0 = .ok (.iconst 0, 1) := by decide +kernel
theorem dX4_secondsAhead_1 : decode cX4_secondsAhead 1 = .ok (.istore_n 2, 1) := by decide +kernel
theorem dX4_secondsAhead_2 : decode cX4_secondsAhead 2 = .ok (.iconst 0, 1) := by decide +kernel
theorem dX4_secondsAhead_3 : decode cX4_secondsAhead 3 = .ok (.istore_n 3, 1) := by decide +kernel
theorem dX4_secondsAhead_4 : decode cX4_secondsAhead 4 = .ok (.iload_n 3, 1) := by decide +kernel
theorem dX4_secondsAhead_5 : decode cX4_secondsAhead 5 = .ok (.iload_n 1, 1) := by decide +kernel
theorem dX4_secondsAhead_6 : decode cX4_secondsAhead 6 = .ok (.if_icmp .ge 27, 3) := by decide +kernel
theorem dX4_secondsAhead_9 : decode cX4_secondsAhead 9 = .ok (.aload_n 0, 1) := by decide +kernel
theorem dX4_secondsAhead_10 : decode cX4_secondsAhead 10 = .ok (.getfield 15, 3) := by decide +kernel
theorem dX4_secondsAhead_13 : decode cX4_secondsAhead 13 = .ok (.iload_n 3, 1) := by decide +kernel
theorem dX4_secondsAhead_14 : decode cX4_secondsAhead 14 = .ok (.baload, 1) := by decide +kernel
theorem dX4_secondsAhead_15 : decode cX4_secondsAhead 15 = .ok (.ifCond .ne 12, 3) := by decide +kernel
theorem dX4_secondsAhead_18 : decode cX4_secondsAhead 18 = .ok (.iload_n 2, 1) := by decide +kernel
theorem dX4_secondsAhead_19 : decode cX4_secondsAhead 19 = .ok (.aload_n 0, 1) := by decide +kernel
theorem dX4_secondsAhead_20 : decode cX4_secondsAhead 20 = .ok (.getfield 9, 3) := by decide +kernel
theorem dX4_secondsAhead_23 : decode cX4_secondsAhead 23 = .ok (.iload_n 3, 1) := by decide +kernel
theorem dX4_secondsAhead_24 : decode cX4_secondsAhead 24 = .ok (.iaload, 1) := by decide +kernel
theorem dX4_secondsAhead_25 : decode cX4_secondsAhead 25 = .ok (.iadd, 1) := by decide +kernel
theorem dX4_secondsAhead_26 : decode cX4_secondsAhead 26 = .ok (.istore_n 2, 1) := by decide +kernel
theorem dX4_secondsAhead_27 : decode cX4_secondsAhead 27 = .ok (.iinc 3 1, 3) := by decide +kernel
theorem dX4_secondsAhead_30 : decode cX4_secondsAhead 30 = .ok (.goto (-26), 3) := by decide +kernel
theorem dX4_secondsAhead_33 : decode cX4_secondsAhead 33 = .ok (.iload_n 2, 1) := by decide +kernel
theorem dX4_secondsAhead_34 : decode cX4_secondsAhead 34 = .ok (.ireturn, 1) := by decide +kernel
set_option maxRecDepth 20000 in
theorem ggX4_lastSecondOf_X4_secondsAhead : GoodIn wsX4_lastSecondOf wsX4_secondsAhead := goodIn_r _ [6, 7, 1, 8, 9, 10, 11] (by decide +kernel) (by decide +kernel)
set_option maxRecDepth 20000 in
theorem gX4_lastSecondOf_X4_secondsAhead : GoodIn wsX4_lastSecondOf (wsV RX4 28 RX4 yX4_secondsAhead wsX4_secondsAhead) := goodIn_app (goodIn_of _ (by decide +kernel)) ggX4_lastSecondOf_X4_secondsAhead
theorem dX4_lastSecondOf_0 : decode cX4_lastSecondOf 0 = .ok (.aload_n 0, 1) := by decide +kernel
theorem dX4_lastSecondOf_1 : decode cX4_lastSecondOf 1 = .ok (.iload_n 1, 1) := by decide +kernel
theorem dX4_lastSecondOf_2 : decode cX4_lastSecondOf 2 = .ok (.invokevirtual 28, 3) := by decide +kernel
theorem dX4_lastSecondOf_5 : decode cX4_lastSecondOf 5 = .ok (.aload_n 0, 1) := by decide +kernel
theorem dX4_lastSecondOf_6 : decode cX4_lastSecondOf 6 = .ok (.getfield 9, 3) := by decide +kernel
theorem dX4_lastSecondOf_9 : decode cX4_lastSecondOf 9 = .ok (.iload_n 1, 1) := by decide +kernel
theorem dX4_lastSecondOf_10 : decode cX4_lastSecondOf 10 = .ok (.iaload, 1) := by decide +kernel
theorem dX4_lastSecondOf_11 : decode cX4_lastSecondOf 11 = .ok (.iadd, 1) := by decide +kernel
theorem dX4_lastSecondOf_12 : decode cX4_lastSecondOf 12 = .ok (.iconst 1, 1) := by decide +kernel
theorem dX4_lastSecondOf_13 : decode cX4_lastSecondOf 13 = .ok (.isub, 1) := by decide +kernel
theorem dX4_lastSecondOf_14 : decode cX4_lastSecondOf 14 = .ok (.ireturn, 1) := by decide +kernel
set_option maxRecDepth 20000 in
theorem ggX4_total_X4_secondsAhead : GoodIn wsX4_total wsX4_secondsAhead := goodIn_r _ [6, 7, 8, 9, 10, 11, 12] (by decide +kernel) (by decide +kernel)
set_option maxRecDepth 20000 in
theorem gX4_total_X4_secondsAhead : GoodIn wsX4_total (wsV RX4 28 RX4 yX4_secondsAhead wsX4_secondsAhead) := goodIn_app (goodIn_of _ (by decide +kernel)) ggX4_total_X4_secondsAhead
theorem dX4_total_0 : decode cX4_total 0 = .ok (.aload_n 0, 1) := by decide +kernel
theorem dX4_total_1 : decode cX4_total 1 = .ok (.aload_n 0, 1) := by decide +kernel
theorem dX4_total_2 : decode cX4_total 2 = .ok (.getfield 24, 3) := by decide +kernel
theorem dX4_total_5 : decode cX4_total 5 = .ok (.invokevirtual 28, 3) := by decide +kernel
theorem dX4_total_8 : decode cX4_total 8 = .ok (.ireturn, 1) := by decide +kernel
set_option maxRecDepth 20000 in
theorem ggX5_init_X4_init : GoodIn wsX5_init wsX4_init := goodIn_r _ [30, 31, 2, 3, 24, 32, 33, 34, 35, 36, 37, 78, 79, 80, 81] (by decide +kernel) (by decide +kernel)
set_option maxRecDepth 20000 in
theorem gX5_init_X4_init_n9 : GoodIn wsX5_init (wsX4_init) := ggX5_init_X4_init
set_option maxRecDepth 20000 in
theorem ggX5_init_X2_init : GoodIn wsX5_init wsX2_init := goodIn_r _ [40, 41, 2, 3, 24, 42, 43, 90, 91] (by decide +kernel) (by decide +kernel)
set_option maxRecDepth 20000 in
theorem gX5_init_X2_init : GoodIn wsX5_init (wsX2_init) := ggX5_init_X2_init
set_option maxRecDepth 20000 in
theorem ggX5_init_X1_init : GoodIn wsX5_init wsX1_init := goodIn_r _ [45, 46, 2, 3, 24, 47, 48, 49, 50, 51, 52, 53, 54, 55, 56, 57, 58, 92, 93, 94, 95, 96, 97, 98, 99, 100, 101, 102] (by decide +kernel) (by decide +kernel)
set_option maxRecDepth 20000 in
theorem gX5_init_X1_init_n25 : GoodIn wsX5_init (wsX1_init) := ggX5_init_X1_init
set_option maxRecDepth 20000 in
theorem ggX5_init_X3_init : GoodIn wsX5_init wsX3_init := goodIn_r _ [60, 61, 2, 3, 24, 62, 63, 64, 65, 66, 67, 68, 69, 70, 103, 104, 105, 106, 107, 108, 109, 110, 111] (by decide +kernel) (by decide +kernel)
set_option maxRecDepth 20000 in
theorem gX5_init_X3_init_n32 : GoodIn wsX5_init (wsX3_init) := ggX5_init_X3_init
set_option maxRecDepth 20000 in
theorem ggX5_init_X0_init : GoodIn wsX5_init wsX0_init := goodIn_r _ [72, 73, 2, 3, 24, 74, 75, 76, 77, 112, 113, 114] (by decide +kernel) (by decide +kernel)
set_option maxRecDepth 20000 in
theorem gX5_init_X0_init_n39 : GoodIn wsX5_init (wsX0_init) := ggX5_init_X0_init
