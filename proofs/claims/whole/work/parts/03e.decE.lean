theorem dL_addLine_0 : decode cL_addLine 0 = .ok (.aload_n 2, 1) := by decide +kernel
theorem dL_addLine_1 : decode cL_addLine 1 = .ok (.iconst 0, 1) := by decide +kernel
theorem dL_addLine_2 : decode cL_addLine 2 = .ok (.aload_n 0, 1) := by decide +kernel
theorem dL_addLine_3 : decode cL_addLine 3 = .ok (.iload_n 1, 1) := by decide +kernel
theorem dL_addLine_4 : decode cL_addLine 4 = .ok (.invokevirtual 7, 3) := by decide +kernel
theorem dL_addLine_7 : decode cL_addLine 7 = .ok (.i2l, 1) := by decide +kernel
theorem dL_addLine_8 : decode cL_addLine 8 = .ok (.lastore, 1) := by decide +kernel
theorem dL_addLine_9 : decode cL_addLine 9 = .ok (.goto 9, 3) := by decide +kernel
theorem dL_addLine_12 : decode cL_addLine 12 = .ok (.astore_n 3, 1) := by decide +kernel
theorem dL_addLine_13 : decode cL_addLine 13 = .ok (.iconst 1, 1) := by decide +kernel
theorem dL_addLine_14 : decode cL_addLine 14 = .ok (.ireturn, 1) := by decide +kernel
theorem dL_addLine_15 : decode cL_addLine 15 = .ok (.astore_n 3, 1) := by decide +kernel
theorem dL_addLine_16 : decode cL_addLine 16 = .ok (.iconst 2, 1) := by decide +kernel
theorem dL_addLine_17 : decode cL_addLine 17 = .ok (.ireturn, 1) := by decide +kernel
theorem dL_addLine_18 : decode cL_addLine 18 = .ok (.iconst 0, 1) := by decide +kernel
theorem dL_addLine_19 : decode cL_addLine 19 = .ok (.ireturn, 1) := by decide +kernel
set_option maxRecDepth 20000 in
theorem ggL_need_X5_need : GoodIn wsL_need wsX5_need := goodIn_ca (goodIn_ca (goodIn_r _ [7, 8, 9, 10, 6, 11, 12, 13, 14, 15, 16, 17, 18, 19, 20, 21, 22, 23, 24, 25, 26, 27, 28, 29, 30] (by decide +kernel) (by decide +kernel)) (goodIn_sub (fun _ h => List.mem_cons_of_mem _ (List.mem_append_left _ (List.mem_append_right _ h))) (by decide +kernel))) (goodIn_sub (fun _ h => List.mem_cons_of_mem _ (List.mem_append_right _ h)) (by decide +kernel))
set_option maxRecDepth 20000 in
theorem gL_need_X5_need : GoodIn wsL_need (wsV RL 17 RX5 yX5_need wsX5_need) := goodIn_app (goodIn_of _ (by decide +kernel)) ggL_need_X5_need
theorem dL_need_0 : decode cL_need 0 = .ok (.aload 4, 2) := by decide +kernel
theorem dL_need_2 : decode cL_need 2 = .ok (.iconst 0, 1) := by decide +kernel
theorem dL_need_3 : decode cL_need 3 = .ok (.aload_n 0, 1) := by decide +kernel
theorem dL_need_4 : decode cL_need 4 = .ok (.iload_n 1, 1) := by decide +kernel
theorem dL_need_5 : decode cL_need 5 = .ok (.iload_n 2, 1) := by decide +kernel
theorem dL_need_6 : decode cL_need 6 = .ok (.iload_n 3, 1) := by decide +kernel
theorem dL_need_7 : decode cL_need 7 = .ok (.invokevirtual 17, 3) := by decide +kernel
theorem dL_need_10 : decode cL_need 10 = .ok (.i2l, 1) := by decide +kernel
theorem dL_need_11 : decode cL_need 11 = .ok (.lastore, 1) := by decide +kernel
theorem dL_need_12 : decode cL_need 12 = .ok (.goto 11, 3) := by decide +kernel
theorem dL_need_15 : decode cL_need 15 = .ok (.astore 5, 2) := by decide +kernel
theorem dL_need_17 : decode cL_need 17 = .ok (.iconst 1, 1) := by decide +kernel
theorem dL_need_18 : decode cL_need 18 = .ok (.ireturn, 1) := by decide +kernel
theorem dL_need_19 : decode cL_need 19 = .ok (.astore 5, 2) := by decide +kernel
theorem dL_need_21 : decode cL_need 21 = .ok (.iconst 2, 1) := by decide +kernel
theorem dL_need_22 : decode cL_need 22 = .ok (.ireturn, 1) := by decide +kernel
theorem dL_need_23 : decode cL_need 23 = .ok (.iconst 0, 1) := by decide +kernel
theorem dL_need_24 : decode cL_need 24 = .ok (.ireturn, 1) := by decide +kernel
set_option maxRecDepth 20000 in
theorem ggL_cut_X5_cut : GoodIn wsL_cut wsX5_cut := goodIn_ca (goodIn_r _ [6, 7, 8, 9, 10, 5, 11, 12, 13, 14, 15, 16, 17, 18, 19, 20, 21, 22, 23, 24, 25, 26, 27, 28, 29, 30, 31, 32, 33, 34, 35, 36, 37, 38, 39, 40, 41, 42, 43, 44, 45, 46, 47, 48, 49, 50, 51, 52, 53, 54, 55, 56, 57, 58, 59, 60, 61, 62, 63, 64, 65, 66, 67, 68, 69, 70, 71, 72, 73, 74, 75, 76, 77, 78, 79, 80, 81, 82, 83, 84, 85, 86, 87, 88, 89, 90, 91, 92, 93, 94, 95, 96] (by decide +kernel) (by decide +kernel)) (goodIn_sub (fun _ h => List.mem_cons_of_mem _ (List.mem_append_right _ h)) (by decide +kernel))
set_option maxRecDepth 20000 in
theorem gL_cut_X5_cut : GoodIn wsL_cut (wsV RL 23 RX5 yX5_cut wsX5_cut) := goodIn_app (goodIn_of _ (by decide +kernel)) ggL_cut_X5_cut
theorem dL_cut_0 : decode cL_cut 0 = .ok (.aload_n 3, 1) := by decide +kernel
theorem dL_cut_1 : decode cL_cut 1 = .ok (.iconst 0, 1) := by decide +kernel
theorem dL_cut_2 : decode cL_cut 2 = .ok (.aload_n 0, 1) := by decide +kernel
theorem dL_cut_3 : decode cL_cut 3 = .ok (.iload_n 1, 1) := by decide +kernel
theorem dL_cut_4 : decode cL_cut 4 = .ok (.iload_n 2, 1) := by decide +kernel
theorem dL_cut_5 : decode cL_cut 5 = .ok (.invokevirtual 23, 3) := by decide +kernel
theorem dL_cut_8 : decode cL_cut 8 = .ok (.i2l, 1) := by decide +kernel
theorem dL_cut_9 : decode cL_cut 9 = .ok (.lastore, 1) := by decide +kernel
theorem dL_cut_10 : decode cL_cut 10 = .ok (.goto 7, 3) := by decide +kernel
theorem dL_cut_13 : decode cL_cut 13 = .ok (.astore 4, 2) := by decide +kernel
theorem dL_cut_15 : decode cL_cut 15 = .ok (.iconst 1, 1) := by decide +kernel
theorem dL_cut_16 : decode cL_cut 16 = .ok (.ireturn, 1) := by decide +kernel
theorem dL_cut_17 : decode cL_cut 17 = .ok (.iconst 0, 1) := by decide +kernel
theorem dL_cut_18 : decode cL_cut 18 = .ok (.ireturn, 1) := by decide +kernel
set_option maxRecDepth 20000 in
theorem ggL_startOf_X5_startOf : GoodIn wsL_startOf wsX5_startOf := goodIn_ca (goodIn_r _ [6, 7, 8, 9, 5, 10, 11, 12, 13, 14, 15, 16, 17, 18, 19, 20, 21, 22, 23, 24, 25, 26, 27, 28, 29, 30, 31] (by decide +kernel) (by decide +kernel)) (goodIn_sub (fun _ h => List.mem_cons_of_mem _ (List.mem_append_right _ h)) (by decide +kernel))
set_option maxRecDepth 20000 in
theorem gL_startOf_X5_startOf : GoodIn wsL_startOf (wsV RL 27 RX5 yX5_startOf wsX5_startOf) := goodIn_app (goodIn_of _ (by decide +kernel)) ggL_startOf_X5_startOf
theorem dL_startOf_0 : decode cL_startOf 0 = .ok (.aload_n 2, 1) := by decide +kernel
theorem dL_startOf_1 : decode cL_startOf 1 = .ok (.iconst 0, 1) := by decide +kernel
theorem dL_startOf_2 : decode cL_startOf 2 = .ok (.aload_n 0, 1) := by decide +kernel
theorem dL_startOf_3 : decode cL_startOf 3 = .ok (.iload_n 1, 1) := by decide +kernel
theorem dL_startOf_4 : decode cL_startOf 4 = .ok (.invokevirtual 27, 3) := by decide +kernel
theorem dL_startOf_7 : decode cL_startOf 7 = .ok (.i2l, 1) := by decide +kernel
theorem dL_startOf_8 : decode cL_startOf 8 = .ok (.lastore, 1) := by decide +kernel
theorem dL_startOf_9 : decode cL_startOf 9 = .ok (.goto 6, 3) := by decide +kernel
theorem dL_startOf_12 : decode cL_startOf 12 = .ok (.astore_n 3, 1) := by decide +kernel
theorem dL_startOf_13 : decode cL_startOf 13 = .ok (.iconst 1, 1) := by decide +kernel
theorem dL_startOf_14 : decode cL_startOf 14 = .ok (.ireturn, 1) := by decide +kernel
theorem dL_startOf_15 : decode cL_startOf 15 = .ok (.iconst 0, 1) := by decide +kernel
theorem dL_startOf_16 : decode cL_startOf 16 = .ok (.ireturn, 1) := by decide +kernel
set_option maxRecDepth 20000 in
theorem ggL_setChannel_X5_setChannel : GoodIn wsL_setChannel wsX5_setChannel := goodIn_ca (goodIn_ca (goodIn_r _ [7, 8, 9, 10, 6, 11, 12, 13, 14, 15, 16, 17, 18, 19, 20, 21, 22, 23, 24, 25, 26, 27, 28] (by decide +kernel) (by decide +kernel)) (goodIn_sub (fun _ h => List.mem_cons_of_mem _ (List.mem_append_left _ (List.mem_append_right _ h))) (by decide +kernel))) (goodIn_sub (fun _ h => List.mem_cons_of_mem _ (List.mem_append_right _ h)) (by decide +kernel))
set_option maxRecDepth 20000 in
theorem gL_setChannel_X5_setChannel : GoodIn wsL_setChannel (wsV RL 30 RX5 yX5_setChannel wsX5_setChannel) := goodIn_app (goodIn_of _ (by decide +kernel)) ggL_setChannel_X5_setChannel
theorem dL_setChannel_0 : decode cL_setChannel 0 = .ok (.aload 4, 2) := by decide +kernel
theorem dL_setChannel_2 : decode cL_setChannel 2 = .ok (.iconst 0, 1) := by decide +kernel
theorem dL_setChannel_3 : decode cL_setChannel 3 = .ok (.aload_n 0, 1) := by decide +kernel
theorem dL_setChannel_4 : decode cL_setChannel 4 = .ok (.iload_n 1, 1) := by decide +kernel
theorem dL_setChannel_5 : decode cL_setChannel 5 = .ok (.iload_n 2, 1) := by decide +kernel
theorem dL_setChannel_6 : decode cL_setChannel 6 = .ok (.iload_n 3, 1) := by decide +kernel
theorem dL_setChannel_7 : decode cL_setChannel 7 = .ok (.invokevirtual 30, 3) := by decide +kernel
theorem dL_setChannel_10 : decode cL_setChannel 10 = .ok (.i2l, 1) := by decide +kernel
theorem dL_setChannel_11 : decode cL_setChannel 11 = .ok (.lastore, 1) := by decide +kernel
theorem dL_setChannel_12 : decode cL_setChannel 12 = .ok (.goto 11, 3) := by decide +kernel
theorem dL_setChannel_15 : decode cL_setChannel 15 = .ok (.astore 5, 2) := by decide +kernel
theorem dL_setChannel_17 : decode cL_setChannel 17 = .ok (.iconst 1, 1) := by decide +kernel
theorem dL_setChannel_18 : decode cL_setChannel 18 = .ok (.ireturn, 1) := by decide +kernel
theorem dL_setChannel_19 : decode cL_setChannel 19 = .ok (.astore 5, 2) := by decide +kernel
theorem dL_setChannel_21 : decode cL_setChannel 21 = .ok (.iconst 2, 1) := by decide +kernel
theorem dL_setChannel_22 : decode cL_setChannel 22 = .ok (.ireturn, 1) := by decide +kernel
theorem dL_setChannel_23 : decode cL_setChannel 23 = .ok (.iconst 0, 1) := by decide +kernel
theorem dL_setChannel_24 : decode cL_setChannel 24 = .ok (.ireturn, 1) := by decide +kernel
set_option maxRecDepth 20000 in
theorem ggL_addCue_X5_addCue : GoodIn wsL_addCue wsX5_addCue := goodIn_ca (goodIn_ca (goodIn_ca (goodIn_r _ [8, 9, 10, 11, 12, 7, 13, 14, 15, 16, 17, 18, 19, 20, 21, 22, 23, 24, 25, 26, 27, 28, 29, 30, 31, 32, 33, 34, 35, 36, 37, 38, 39, 40, 41, 42, 43, 44, 45, 46, 47, 48, 49, 50, 51, 52, 53, 54, 55, 56, 57, 58, 59, 60, 61, 62, 63, 64, 65, 66, 67, 68, 69, 70, 71, 72, 73, 74, 75, 76, 77, 78, 79, 80, 81, 82, 83, 84, 85, 86, 87, 88, 89, 90, 91, 92, 93, 94, 95, 96, 97, 98, 99, 100, 101, 102, 103, 104, 105, 106, 107, 108, 109, 110, 111] (by decide +kernel) (by decide +kernel)) (goodIn_sub (fun _ h => List.mem_cons_of_mem _ (List.mem_append_left _ (List.mem_append_left _ (List.mem_append_right _ h)))) (by decide +kernel))) (goodIn_sub (fun _ h => List.mem_cons_of_mem _ (List.mem_append_left _ (List.mem_append_right _ h))) (by decide +kernel))) (goodIn_sub (fun _ h => List.mem_cons_of_mem _ (List.mem_append_right _ h)) (by decide +kernel))
set_option maxRecDepth 20000 in
theorem gL_addCue_X5_addCue : GoodIn wsL_addCue (wsV RL 33 RX5 yX5_addCue wsX5_addCue) := goodIn_app (goodIn_of _ (by decide +kernel)) ggL_addCue_X5_addCue
theorem dL_addCue_0 : decode cL_addCue 0 = .ok (.aload 4, 2) := by decide +kernel
theorem dL_addCue_2 : decode cL_addCue 2 = .ok (.iconst 0, 1) := by decide +kernel
theorem dL_addCue_3 : decode cL_addCue 3 = .ok (.aload_n 0, 1) := by decide +kernel
theorem dL_addCue_4 : decode cL_addCue 4 = .ok (.iload_n 1, 1) := by decide +kernel
theorem dL_addCue_5 : decode cL_addCue 5 = .ok (.iload_n 2, 1) := by decide +kernel
theorem dL_addCue_6 : decode cL_addCue 6 = .ok (.iload_n 3, 1) := by decide +kernel
theorem dL_addCue_7 : decode cL_addCue 7 = .ok (.invokevirtual 33, 3) := by decide +kernel
theorem dL_addCue_10 : decode cL_addCue 10 = .ok (.i2l, 1) := by decide +kernel
theorem dL_addCue_11 : decode cL_addCue 11 = .ok (.lastore, 1) := by decide +kernel
theorem dL_addCue_12 : decode cL_addCue 12 = .ok (.goto 15, 3) := by decide +kernel
theorem dL_addCue_15 : decode cL_addCue 15 = .ok (.astore 5, 2) := by decide +kernel
theorem dL_addCue_17 : decode cL_addCue 17 = .ok (.iconst 1, 1) := by decide +kernel
theorem dL_addCue_18 : decode cL_addCue 18 = .ok (.ireturn, 1) := by decide +kernel
theorem dL_addCue_19 : decode cL_addCue 19 = .ok (.astore 5, 2) := by decide +kernel
theorem dL_addCue_21 : decode cL_addCue 21 = .ok (.iconst 2, 1) := by decide +kernel
theorem dL_addCue_22 : decode cL_addCue 22 = .ok (.ireturn, 1) := by decide +kernel
theorem dL_addCue_23 : decode cL_addCue 23 = .ok (.astore 5, 2) := by decide +kernel
theorem dL_addCue_25 : decode cL_addCue 25 = .ok (.iconst 3, 1) := by decide +kernel
theorem dL_addCue_26 : decode cL_addCue 26 = .ok (.ireturn, 1) := by decide +kernel
theorem dL_addCue_27 : decode cL_addCue 27 = .ok (.iconst 0, 1) := by decide +kernel
theorem dL_addCue_28 : decode cL_addCue 28 = .ok (.ireturn, 1) := by decide +kernel
set_option maxRecDepth 20000 in
theorem ggL_move_X5_move : GoodIn wsL_move wsX5_move := goodIn_ca (goodIn_ca (goodIn_r _ [7, 8, 9, 10, 11, 6, 12, 13, 14, 15, 16, 17, 18, 19, 20, 21, 22, 23, 24, 25, 26, 27, 28, 29, 30, 31, 32, 33, 34, 35, 36, 37, 38, 39, 40, 41, 42, 43, 44, 45, 46, 47, 48, 49, 50, 51, 52, 53, 54, 55, 56, 57, 58, 59, 60, 61, 62, 63, 64, 65, 66, 67, 68, 69, 70, 71, 72, 73, 74, 75, 76, 77, 78, 79, 80, 81, 82, 83, 84, 85, 86, 87, 88, 89, 90, 91, 92, 93, 94, 95, 96, 97, 98, 99, 100, 101] (by decide +kernel) (by decide +kernel)) (goodIn_sub (fun _ h => List.mem_cons_of_mem _ (List.mem_append_left _ (List.mem_append_right _ h))) (by decide +kernel))) (goodIn_sub (fun _ h => List.mem_cons_of_mem _ (List.mem_append_right _ h)) (by decide +kernel))
set_option maxRecDepth 20000 in
theorem gL_move_X5_move : GoodIn wsL_move (wsV RL 36 RX5 yX5_move wsX5_move) := goodIn_app (goodIn_of _ (by decide +kernel)) ggL_move_X5_move
theorem dL_move_0 : decode cL_move 0 = .ok (.aload 5, 2) := by decide +kernel
theorem dL_move_2 : decode cL_move 2 = .ok (.iconst 0, 1) := by decide +kernel
theorem dL_move_3 : decode cL_move 3 = .ok (.aload_n 0, 1) := by decide +kernel
theorem dL_move_4 : decode cL_move 4 = .ok (.iload_n 1, 1) := by decide +kernel
theorem dL_move_5 : decode cL_move 5 = .ok (.iload_n 2, 1) := by decide +kernel
theorem dL_move_6 : decode cL_move 6 = .ok (.iload_n 3, 1) := by decide +kernel
theorem dL_move_7 : decode cL_move 7 = .ok (.iload 4, 2) := by decide +kernel
theorem dL_move_9 : decode cL_move 9 = .ok (.invokevirtual 36, 3) := by decide +kernel
theorem dL_move_12 : decode cL_move 12 = .ok (.i2l, 1) := by decide +kernel
theorem dL_move_13 : decode cL_move 13 = .ok (.lastore, 1) := by decide +kernel
theorem dL_move_14 : decode cL_move 14 = .ok (.goto 11, 3) := by decide +kernel
theorem dL_move_17 : decode cL_move 17 = .ok (.astore 6, 2) := by decide +kernel
theorem dL_move_19 : decode cL_move 19 = .ok (.iconst 1, 1) := by decide +kernel
theorem dL_move_20 : decode cL_move 20 = .ok (.ireturn, 1) := by decide +kernel
theorem dL_move_21 : decode cL_move 21 = .ok (.astore 6, 2) := by decide +kernel
theorem dL_move_23 : decode cL_move 23 = .ok (.iconst 2, 1) := by decide +kernel
theorem dL_move_24 : decode cL_move 24 = .ok (.ireturn, 1) := by decide +kernel
theorem dL_move_25 : decode cL_move 25 = .ok (.iconst 0, 1) := by decide +kernel
theorem dL_move_26 : decode cL_move 26 = .ok (.ireturn, 1) := by decide +kernel
set_option maxRecDepth 20000 in
theorem ggL_change_X5_change : GoodIn wsL_change wsX5_change := goodIn_ca (goodIn_ca (goodIn_r _ [7, 8, 9, 10, 11, 6, 12, 13, 14, 15, 16, 17, 18, 19, 20, 21, 22, 23, 24, 25, 26, 27, 28, 29, 30, 31, 32, 33, 34, 35, 36, 37, 38, 39, 40, 41, 42, 43, 44, 45, 46, 47, 48, 49, 50, 51, 52, 53, 54, 55, 56, 57, 58, 59, 60, 61, 62, 63, 64, 65, 66, 67, 68, 69, 70, 71, 72, 73, 74, 75, 76, 77, 78, 79, 80, 81, 82, 83, 84, 85, 86, 87, 88, 89, 90, 91, 92, 93, 94, 95, 96] (by decide +kernel) (by decide +kernel)) (goodIn_sub (fun _ h => List.mem_cons_of_mem _ (List.mem_append_left _ (List.mem_append_right _ h))) (by decide +kernel))) (goodIn_sub (fun _ h => List.mem_cons_of_mem _ (List.mem_append_right _ h)) (by decide +kernel))
set_option maxRecDepth 20000 in
theorem gL_change_X5_change : GoodIn wsL_change (wsV RL 40 RX5 yX5_change wsX5_change) := goodIn_app (goodIn_of _ (by decide +kernel)) ggL_change_X5_change
theorem dL_change_0 : decode cL_change 0 = .ok (.aload 4, 2) := by decide +kernel
theorem dL_change_2 : decode cL_change 2 = .ok (.iconst 0, 1) := by decide +kernel
theorem dL_change_3 : decode cL_change 3 = .ok (.aload_n 0, 1) := by decide +kernel
theorem dL_change_4 : decode cL_change 4 = .ok (.iload_n 1, 1) := by decide +kernel
theorem dL_change_5 : decode cL_change 5 = .ok (.iload_n 2, 1) := by decide +kernel
theorem dL_change_6 : decode cL_change 6 = .ok (.iload_n 3, 1) := by decide +kernel
theorem dL_change_7 : decode cL_change 7 = .ok (.invokevirtual 40, 3) := by decide +kernel
theorem dL_change_10 : decode cL_change 10 = .ok (.i2l, 1) := by decide +kernel
theorem dL_change_11 : decode cL_change 11 = .ok (.lastore, 1) := by decide +kernel
theorem dL_change_12 : decode cL_change 12 = .ok (.goto 11, 3) := by decide +kernel
theorem dL_change_15 : decode cL_change 15 = .ok (.astore 5, 2) := by decide +kernel
theorem dL_change_17 : decode cL_change 17 = .ok (.iconst 1, 1) := by decide +kernel
theorem dL_change_18 : decode cL_change 18 = .ok (.ireturn, 1) := by decide +kernel
theorem dL_change_19 : decode cL_change 19 = .ok (.astore 5, 2) := by decide +kernel
theorem dL_change_21 : decode cL_change 21 = .ok (.iconst 2, 1) := by decide +kernel
theorem dL_change_22 : decode cL_change 22 = .ok (.ireturn, 1) := by decide +kernel
theorem dL_change_23 : decode cL_change 23 = .ok (.iconst 0, 1) := by decide +kernel
theorem dL_change_24 : decode cL_change 24 = .ok (.ireturn, 1) := by decide +kernel
set_option maxRecDepth 20000 in
theorem ggL_cueAt_X5_cueAt : GoodIn wsL_cueAt wsX5_cueAt := goodIn_ca (goodIn_r _ [6, 7, 8, 9, 5, 10, 11, 12, 13, 14, 15, 16, 17, 18, 19, 20, 21, 22, 23, 24, 25, 26, 27, 28, 29, 30, 31] (by decide +kernel) (by decide +kernel)) (goodIn_sub (fun _ h => List.mem_cons_of_mem _ (List.mem_append_right _ h)) (by decide +kernel))
set_option maxRecDepth 20000 in
theorem gL_cueAt_X5_cueAt : GoodIn wsL_cueAt (wsV RL 43 RX5 yX5_cueAt wsX5_cueAt) := goodIn_app (goodIn_of _ (by decide +kernel)) ggL_cueAt_X5_cueAt
theorem dL_cueAt_0 : decode cL_cueAt 0 = .ok (.aload_n 2, 1) := by decide +kernel
theorem dL_cueAt_1 : decode cL_cueAt 1 = .ok (.iconst 0, 1) := by decide +kernel
theorem dL_cueAt_2 : decode cL_cueAt 2 = .ok (.aload_n 0, 1) := by decide +kernel
theorem dL_cueAt_3 : decode cL_cueAt 3 = .ok (.iload_n 1, 1) := by decide +kernel
theorem dL_cueAt_4 : decode cL_cueAt 4 = .ok (.invokevirtual 43, 3) := by decide +kernel
theorem dL_cueAt_7 : decode cL_cueAt 7 = .ok (.i2l, 1) := by decide +kernel
theorem dL_cueAt_8 : decode cL_cueAt 8 = .ok (.lastore, 1) := by decide +kernel
theorem dL_cueAt_9 : decode cL_cueAt 9 = .ok (.goto 6, 3) := by decide +kernel
theorem dL_cueAt_12 : decode cL_cueAt 12 = .ok (.astore_n 3, 1) := by decide +kernel
theorem dL_cueAt_13 : decode cL_cueAt 13 = .ok (.iconst 1, 1) := by decide +kernel
theorem dL_cueAt_14 : decode cL_cueAt 14 = .ok (.ireturn, 1) := by decide +kernel
theorem dL_cueAt_15 : decode cL_cueAt 15 = .ok (.iconst 0, 1) := by decide +kernel
theorem dL_cueAt_16 : decode cL_cueAt 16 = .ok (.ireturn, 1) := by decide +kernel
set_option maxRecDepth 20000 in
theorem ggL_timeOf_X5_timeOf : GoodIn wsL_timeOf wsX5_timeOf := goodIn_ca (goodIn_r _ [6, 7, 8, 9, 5, 10, 11, 12, 13, 14, 15, 16, 17, 18, 19, 20, 21, 22, 23, 24, 25, 26, 27, 28, 29, 30, 31] (by decide +kernel) (by decide +kernel)) (goodIn_sub (fun _ h => List.mem_cons_of_mem _ (List.mem_append_right _ h)) (by decide +kernel))
set_option maxRecDepth 20000 in
theorem gL_timeOf_X5_timeOf : GoodIn wsL_timeOf (wsV RL 46 RX5 yX5_timeOf wsX5_timeOf) := goodIn_app (goodIn_of _ (by decide +kernel)) ggL_timeOf_X5_timeOf
theorem dL_timeOf_0 : decode cL_timeOf 0 = .ok (.aload_n 2, 1) := by decide +kernel
theorem dL_timeOf_1 : decode cL_timeOf 1 = .ok (.iconst 0, 1) := by decide +kernel
theorem dL_timeOf_2 : decode cL_timeOf 2 = .ok (.aload_n 0, 1) := by decide +kernel
theorem dL_timeOf_3 : decode cL_timeOf 3 = .ok (.iload_n 1, 1) := by decide +kernel
theorem dL_timeOf_4 : decode cL_timeOf 4 = .ok (.invokevirtual 46, 3) := by decide +kernel
theorem dL_timeOf_7 : decode cL_timeOf 7 = .ok (.i2l, 1) := by decide +kernel
theorem dL_timeOf_8 : decode cL_timeOf 8 = .ok (.lastore, 1) := by decide +kernel
theorem dL_timeOf_9 : decode cL_timeOf 9 = .ok (.goto 6, 3) := by decide +kernel
theorem dL_timeOf_12 : decode cL_timeOf 12 = .ok (.astore_n 3, 1) := by decide +kernel
theorem dL_timeOf_13 : decode cL_timeOf 13 = .ok (.iconst 1, 1) := by decide +kernel
theorem dL_timeOf_14 : decode cL_timeOf 14 = .ok (.ireturn, 1) := by decide +kernel
theorem dL_timeOf_15 : decode cL_timeOf 15 = .ok (.iconst 0, 1) := by decide +kernel
theorem dL_timeOf_16 : decode cL_timeOf 16 = .ok (.ireturn, 1) := by decide +kernel
set_option maxRecDepth 20000 in
theorem ggL_foldedInto_X5_foldedInto : GoodIn wsL_foldedInto wsX5_foldedInto := goodIn_ca (goodIn_r _ [6, 7, 8, 9, 5, 10, 11, 12, 13, 14, 15, 16, 17, 18, 19, 20, 21, 22, 23, 24, 25, 26, 27, 28, 29, 30, 31] (by decide +kernel) (by decide +kernel)) (goodIn_sub (fun _ h => List.mem_cons_of_mem _ (List.mem_append_right _ h)) (by decide +kernel))
set_option maxRecDepth 20000 in
theorem gL_foldedInto_X5_foldedInto : GoodIn wsL_foldedInto (wsV RL 49 RX5 yX5_foldedInto wsX5_foldedInto) := goodIn_app (goodIn_of _ (by decide +kernel)) ggL_foldedInto_X5_foldedInto
theorem dL_foldedInto_0 : decode cL_foldedInto 0 = .ok (.aload_n 2, 1) := by decide +kernel
theorem dL_foldedInto_1 : decode cL_foldedInto 1 = .ok (.iconst 0, 1) := by decide +kernel
theorem dL_foldedInto_2 : decode cL_foldedInto 2 = .ok (.aload_n 0, 1) := by decide +kernel
theorem dL_foldedInto_3 : decode cL_foldedInto 3 = .ok (.iload_n 1, 1) := by decide +kernel
theorem dL_foldedInto_4 : decode cL_foldedInto 4 = .ok (.invokevirtual 49, 3) := by decide +kernel
theorem dL_foldedInto_7 : decode cL_foldedInto 7 = .ok (.i2l, 1) := by decide +kernel
theorem dL_foldedInto_8 : decode cL_foldedInto 8 = .ok (.lastore, 1) := by decide +kernel
theorem dL_foldedInto_9 : decode cL_foldedInto 9 = .ok (.goto 6, 3) := by decide +kernel
theorem dL_foldedInto_12 : decode cL_foldedInto 12 = .ok (.astore_n 3, 1) := by decide +kernel
theorem dL_foldedInto_13 : decode cL_foldedInto 13 = .ok (.iconst 1, 1) := by decide +kernel
theorem dL_foldedInto_14 : decode cL_foldedInto 14 = .ok (.ireturn, 1) := by decide +kernel
theorem dL_foldedInto_15 : decode cL_foldedInto 15 = .ok (.iconst 0, 1) := by decide +kernel
theorem dL_foldedInto_16 : decode cL_foldedInto 16 = .ok (.ireturn, 1) := by decide +kernel
set_option maxRecDepth 20000 in
theorem ggL_changes_X5_changes : GoodIn wsL_changes wsX5_changes := goodIn_ca (goodIn_r _ [6, 7, 8, 9, 5, 10, 11, 12, 13, 14, 15, 16, 17, 18, 19, 20, 21, 22, 23, 24, 25, 26, 27, 28, 29, 30, 31] (by decide +kernel) (by decide +kernel)) (goodIn_sub (fun _ h => List.mem_cons_of_mem _ (List.mem_append_right _ h)) (by decide +kernel))
set_option maxRecDepth 20000 in
theorem gL_changes_X5_changes : GoodIn wsL_changes (wsV RL 52 RX5 yX5_changes wsX5_changes) := goodIn_app (goodIn_of _ (by decide +kernel)) ggL_changes_X5_changes
theorem dL_changes_0 : decode cL_changes 0 = .ok (.aload_n 3, 1) := by decide +kernel
theorem dL_changes_1 : decode cL_changes 1 = .ok (.iconst 0, 1) := by decide +kernel
theorem dL_changes_2 : decode cL_changes 2 = .ok (.aload_n 0, 1) := by decide +kernel
theorem dL_changes_3 : decode cL_changes 3 = .ok (.iload_n 1, 1) := by decide +kernel
theorem dL_changes_4 : decode cL_changes 4 = .ok (.iload_n 2, 1) := by decide +kernel
theorem dL_changes_5 : decode cL_changes 5 = .ok (.invokevirtual 52, 3) := by decide +kernel
theorem dL_changes_8 : decode cL_changes 8 = .ok (.i2l, 1) := by decide +kernel
theorem dL_changes_9 : decode cL_changes 9 = .ok (.lastore, 1) := by decide +kernel
theorem dL_changes_10 : decode cL_changes 10 = .ok (.goto 7, 3) := by decide +kernel
theorem dL_changes_13 : decode cL_changes 13 = .ok (.astore 4, 2) := by decide +kernel
theorem dL_changes_15 : decode cL_changes 15 = .ok (.iconst 1, 1) := by decide +kernel
theorem dL_changes_16 : decode cL_changes 16 = .ok (.ireturn, 1) := by decide +kernel
theorem dL_changes_17 : decode cL_changes 17 = .ok (.iconst 0, 1) := by decide +kernel
theorem dL_changes_18 : decode cL_changes 18 = .ok (.ireturn, 1) := by decide +kernel
set_option maxRecDepth 20000 in
theorem ggL_levelAt_X5_levelAt : GoodIn wsL_levelAt wsX5_levelAt := goodIn_ca (goodIn_ca (goodIn_r _ [7, 8, 9, 10, 6, 11, 12, 13, 14, 15, 16, 17, 18, 19, 20, 21, 22, 23, 24, 25, 26, 27, 28, 29, 30, 31, 32, 33, 34, 35, 36, 37, 38, 39, 40, 41, 42, 43, 44, 45, 46, 47, 48, 49, 50] (by decide +kernel) (by decide +kernel)) (goodIn_sub (fun _ h => List.mem_cons_of_mem _ (List.mem_append_left _ (List.mem_append_right _ h))) (by decide +kernel))) (goodIn_sub (fun _ h => List.mem_cons_of_mem _ (List.mem_append_right _ h)) (by decide +kernel))
set_option maxRecDepth 20000 in
theorem gL_levelAt_X5_levelAt : GoodIn wsL_levelAt (wsV RL 56 RX5 yX5_levelAt wsX5_levelAt) := goodIn_app (goodIn_of _ (by decide +kernel)) ggL_levelAt_X5_levelAt
theorem dL_levelAt_0 : decode cL_levelAt 0 = .ok (.aload_n 3, 1) := by decide +kernel
theorem dL_levelAt_1 : decode cL_levelAt 1 = .ok (.iconst 0, 1) := by decide +kernel
theorem dL_levelAt_2 : decode cL_levelAt 2 = .ok (.aload_n 0, 1) := by decide +kernel
theorem dL_levelAt_3 : decode cL_levelAt 3 = .ok (.iload_n 1, 1) := by decide +kernel
theorem dL_levelAt_4 : decode cL_levelAt 4 = .ok (.iload_n 2, 1) := by decide +kernel
theorem dL_levelAt_5 : decode cL_levelAt 5 = .ok (.invokevirtual 56, 3) := by decide +kernel
theorem dL_levelAt_8 : decode cL_levelAt 8 = .ok (.i2l, 1) := by decide +kernel
theorem dL_levelAt_9 : decode cL_levelAt 9 = .ok (.lastore, 1) := by decide +kernel
theorem dL_levelAt_10 : decode cL_levelAt 10 = .ok (.goto 11, 3) := by decide +kernel
theorem dL_levelAt_13 : decode cL_levelAt 13 = .ok (.astore 4, 2) := by decide +kernel
theorem dL_levelAt_15 : decode cL_levelAt 15 = .ok (.iconst 1, 1) := by decide +kernel
theorem dL_levelAt_16 : decode cL_levelAt 16 = .ok (.ireturn, 1) := by decide +kernel
theorem dL_levelAt_17 : decode cL_levelAt 17 = .ok (.astore 4, 2) := by decide +kernel
theorem dL_levelAt_19 : decode cL_levelAt 19 = .ok (.iconst 2, 1) := by decide +kernel
theorem dL_levelAt_20 : decode cL_levelAt 20 = .ok (.ireturn, 1) := by decide +kernel
theorem dL_levelAt_21 : decode cL_levelAt 21 = .ok (.iconst 0, 1) := by decide +kernel
theorem dL_levelAt_22 : decode cL_levelAt 22 = .ok (.ireturn, 1) := by decide +kernel
set_option maxRecDepth 20000 in
theorem ggL_levelBySeconds_X5_levelBySeconds : GoodIn wsL_levelBySeconds wsX5_levelBySeconds := goodIn_ca (goodIn_ca (goodIn_r _ [7, 8, 9, 10, 6, 11, 12, 13, 14, 15, 16, 17, 18, 19, 20, 21, 22, 23, 24, 25, 26, 27, 28, 29, 30, 31, 32, 33, 34, 35, 36, 37, 38, 39, 40, 41, 42, 43, 44, 45, 46, 47, 48, 49, 50] (by decide +kernel) (by decide +kernel)) (goodIn_sub (fun _ h => List.mem_cons_of_mem _ (List.mem_append_left _ (List.mem_append_right _ h))) (by decide +kernel))) (goodIn_sub (fun _ h => List.mem_cons_of_mem _ (List.mem_append_right _ h)) (by decide +kernel))
set_option maxRecDepth 20000 in
theorem gL_levelBySeconds_X5_levelBySeconds : GoodIn wsL_levelBySeconds (wsV RL 59 RX5 yX5_levelBySeconds wsX5_levelBySeconds) := goodIn_app (goodIn_of _ (by decide +kernel)) ggL_levelBySeconds_X5_levelBySeconds
theorem dL_levelBySeconds_0 : decode cL_levelBySeconds 0 = .ok (.aload_n 3, 1) := by decide +kernel
theorem dL_levelBySeconds_1 : decode cL_levelBySeconds 1 = .ok (.iconst 0, 1) := by decide +kernel
theorem dL_levelBySeconds_2 : decode cL_levelBySeconds 2 = .ok (.aload_n 0, 1) := by decide +kernel
theorem dL_levelBySeconds_3 : decode cL_levelBySeconds 3 = .ok (.iload_n 1, 1) := by decide +kernel
theorem dL_levelBySeconds_4 : decode cL_levelBySeconds 4 = .ok (.iload_n 2, 1) := by decide +kernel
theorem dL_levelBySeconds_5 : decode cL_levelBySeconds 5 = .ok (.invokevirtual 59, 3) := by decide +kernel
theorem dL_levelBySeconds_8 : decode cL_levelBySeconds 8 = .ok (.i2l, 1) := by decide +kernel
theorem dL_levelBySeconds_9 : decode cL_levelBySeconds 9 = .ok (.lastore, 1) := by decide +kernel
theorem dL_levelBySeconds_10 : decode cL_levelBySeconds 10 = .ok (.goto 11, 3) := by decide +kernel
theorem dL_levelBySeconds_13 : decode cL_levelBySeconds 13 = .ok (.astore 4, 2) := by decide +kernel
theorem dL_levelBySeconds_15 : decode cL_levelBySeconds 15 = .ok (.iconst 1, 1) := by decide +kernel
theorem dL_levelBySeconds_16 : decode cL_levelBySeconds 16 = .ok (.ireturn, 1) := by decide +kernel
theorem dL_levelBySeconds_17 : decode cL_levelBySeconds 17 = .ok (.astore 4, 2) := by decide +kernel
theorem dL_levelBySeconds_19 : decode cL_levelBySeconds 19 = .ok (.iconst 2, 1) := by decide +kernel
theorem dL_levelBySeconds_20 : decode cL_levelBySeconds 20 = .ok (.ireturn, 1) := by decide +kernel
theorem dL_levelBySeconds_21 : decode cL_levelBySeconds 21 = .ok (.iconst 0, 1) := by decide +kernel
theorem dL_levelBySeconds_22 : decode cL_levelBySeconds 22 = .ok (.ireturn, 1) := by decide +kernel
set_option maxRecDepth 20000 in
theorem ggL_addLamp_X5_addLamp : GoodIn wsL_addLamp wsX5_addLamp := goodIn_ca (goodIn_ca (goodIn_ca (goodIn_r _ [8, 9, 10, 11, 7, 12, 13, 14, 15, 16, 17, 18, 19, 20, 21, 22, 23, 24, 25, 26, 27, 28, 29, 30, 31, 32, 33, 34, 35, 36, 37, 38, 39, 40, 41, 42, 43, 44, 45, 46, 47, 48, 49, 50, 51, 52, 53, 54, 55, 56, 57, 58, 59, 60, 61] (by decide +kernel) (by decide +kernel)) (goodIn_sub (fun _ h => List.mem_cons_of_mem _ (List.mem_append_left _ (List.mem_append_left _ (List.mem_append_right _ h)))) (by decide +kernel))) (goodIn_sub (fun _ h => List.mem_cons_of_mem _ (List.mem_append_left _ (List.mem_append_right _ h))) (by decide +kernel))) (goodIn_sub (fun _ h => List.mem_cons_of_mem _ (List.mem_append_right _ h)) (by decide +kernel))
set_option maxRecDepth 20000 in
theorem gL_addLamp_X5_addLamp : GoodIn wsL_addLamp (wsV RL 62 RX5 yX5_addLamp wsX5_addLamp) := goodIn_app (goodIn_of _ (by decide +kernel)) ggL_addLamp_X5_addLamp
theorem dL_addLamp_0 : decode cL_addLamp 0 = .ok (.aload 5, 2) := by decide +kernel
theorem dL_addLamp_2 : decode cL_addLamp 2 = .ok (.iconst 0, 1) := by decide +kernel
theorem dL_addLamp_3 : decode cL_addLamp 3 = .ok (.aload_n 0, 1) := by decide +kernel
theorem dL_addLamp_4 : decode cL_addLamp 4 = .ok (.iload_n 1, 1) := by decide +kernel
theorem dL_addLamp_5 : decode cL_addLamp 5 = .ok (.iload_n 2, 1) := by decide +kernel
theorem dL_addLamp_6 : decode cL_addLamp 6 = .ok (.iload_n 3, 1) := by decide +kernel
theorem dL_addLamp_7 : decode cL_addLamp 7 = .ok (.iload 4, 2) := by decide +kernel
theorem dL_addLamp_9 : decode cL_addLamp 9 = .ok (.invokevirtual 62, 3) := by decide +kernel
theorem dL_addLamp_12 : decode cL_addLamp 12 = .ok (.i2l, 1) := by decide +kernel
theorem dL_addLamp_13 : decode cL_addLamp 13 = .ok (.lastore, 1) := by decide +kernel
theorem dL_addLamp_14 : decode cL_addLamp 14 = .ok (.goto 15, 3) := by decide +kernel
theorem dL_addLamp_17 : decode cL_addLamp 17 = .ok (.astore 6, 2) := by decide +kernel
theorem dL_addLamp_19 : decode cL_addLamp 19 = .ok (.iconst 1, 1) := by decide +kernel
theorem dL_addLamp_20 : decode cL_addLamp 20 = .ok (.ireturn, 1) := by decide +kernel
theorem dL_addLamp_21 : decode cL_addLamp 21 = .ok (.astore 6, 2) := by decide +kernel
theorem dL_addLamp_23 : decode cL_addLamp 23 = .ok (.iconst 2, 1) := by decide +kernel
theorem dL_addLamp_24 : decode cL_addLamp 24 = .ok (.ireturn, 1) := by decide +kernel
theorem dL_addLamp_25 : decode cL_addLamp 25 = .ok (.astore 6, 2) := by decide +kernel
theorem dL_addLamp_27 : decode cL_addLamp 27 = .ok (.iconst 3, 1) := by decide +kernel
theorem dL_addLamp_28 : decode cL_addLamp 28 = .ok (.ireturn, 1) := by decide +kernel
theorem dL_addLamp_29 : decode cL_addLamp 29 = .ok (.iconst 0, 1) := by decide +kernel
theorem dL_addLamp_30 : decode cL_addLamp 30 = .ok (.ireturn, 1) := by decide +kernel
set_option maxRecDepth 20000 in
theorem ggL_borrow_X5_borrow : GoodIn wsL_borrow wsX5_borrow := goodIn_ca (goodIn_ca (goodIn_r _ [7, 8, 9, 10, 6, 11, 12, 13, 14, 15, 16, 17, 18, 19, 20, 21, 22, 23, 24, 25, 26, 27, 28, 29, 30, 31, 32, 33, 34, 35, 36, 37, 38, 39, 40, 41, 42, 43, 44, 45, 46, 47, 48, 49, 50, 51] (by decide +kernel) (by decide +kernel)) (goodIn_sub (fun _ h => List.mem_cons_of_mem _ (List.mem_append_left _ (List.mem_append_right _ h))) (by decide +kernel))) (goodIn_sub (fun _ h => List.mem_cons_of_mem _ (List.mem_append_right _ h)) (by decide +kernel))
set_option maxRecDepth 20000 in
theorem gL_borrow_X5_borrow : GoodIn wsL_borrow (wsV RL 65 RX5 yX5_borrow wsX5_borrow) := goodIn_app (goodIn_of _ (by decide +kernel)) ggL_borrow_X5_borrow
theorem dL_borrow_0 : decode cL_borrow 0 = .ok (.aload 4, 2) := by decide +kernel
theorem dL_borrow_2 : decode cL_borrow 2 = .ok (.iconst 0, 1) := by decide +kernel
theorem dL_borrow_3 : decode cL_borrow 3 = .ok (.aload_n 0, 1) := by decide +kernel
theorem dL_borrow_4 : decode cL_borrow 4 = .ok (.iload_n 1, 1) := by decide +kernel
theorem dL_borrow_5 : decode cL_borrow 5 = .ok (.iload_n 2, 1) := by decide +kernel
theorem dL_borrow_6 : decode cL_borrow 6 = .ok (.iload_n 3, 1) := by decide +kernel
theorem dL_borrow_7 : decode cL_borrow 7 = .ok (.invokevirtual 65, 3) := by decide +kernel
theorem dL_borrow_10 : decode cL_borrow 10 = .ok (.i2l, 1) := by decide +kernel
theorem dL_borrow_11 : decode cL_borrow 11 = .ok (.lastore, 1) := by decide +kernel
theorem dL_borrow_12 : decode cL_borrow 12 = .ok (.goto 11, 3) := by decide +kernel
theorem dL_borrow_15 : decode cL_borrow 15 = .ok (.astore 5, 2) := by decide +kernel
theorem dL_borrow_17 : decode cL_borrow 17 = .ok (.iconst 1, 1) := by decide +kernel
theorem dL_borrow_18 : decode cL_borrow 18 = .ok (.ireturn, 1) := by decide +kernel
theorem dL_borrow_19 : decode cL_borrow 19 = .ok (.astore 5, 2) := by decide +kernel
theorem dL_borrow_21 : decode cL_borrow 21 = .ok (.iconst 2, 1) := by decide +kernel
theorem dL_borrow_22 : decode cL_borrow 22 = .ok (.ireturn, 1) := by decide +kernel
theorem dL_borrow_23 : decode cL_borrow 23 = .ok (.iconst 0, 1) := by decide +kernel
theorem dL_borrow_24 : decode cL_borrow 24 = .ok (.ireturn, 1) := by decide +kernel
set_option maxRecDepth 20000 in
theorem ggL_bringBack_X5_bringBack : GoodIn wsL_bringBack wsX5_bringBack := goodIn_ca (goodIn_ca (goodIn_r _ [7, 8, 9, 10, 6, 11, 12, 13, 14, 15, 16, 17, 18, 19, 20, 21, 22, 23, 24, 25, 26, 27, 28, 29, 30, 31, 32, 33, 34, 35, 36, 37, 38, 39, 40, 41, 42, 43, 44, 45, 46, 47, 48, 49, 50, 51, 52] (by decide +kernel) (by decide +kernel)) (goodIn_sub (fun _ h => List.mem_cons_of_mem _ (List.mem_append_left _ (List.mem_append_right _ h))) (by decide +kernel))) (goodIn_sub (fun _ h => List.mem_cons_of_mem _ (List.mem_append_right _ h)) (by decide +kernel))
set_option maxRecDepth 20000 in
theorem gL_bringBack_X5_bringBack : GoodIn wsL_bringBack (wsV RL 68 RX5 yX5_bringBack wsX5_bringBack) := goodIn_app (goodIn_of _ (by decide +kernel)) ggL_bringBack_X5_bringBack
theorem dL_bringBack_0 : decode cL_bringBack 0 = .ok (.aload_n 2, 1) := by decide +kernel
theorem dL_bringBack_1 : decode cL_bringBack 1 = .ok (.iconst 0, 1) := by decide +kernel
theorem dL_bringBack_2 : decode cL_bringBack 2 = .ok (.aload_n 0, 1) := by decide +kernel
theorem dL_bringBack_3 : decode cL_bringBack 3 = .ok (.iload_n 1, 1) := by decide +kernel
theorem dL_bringBack_4 : decode cL_bringBack 4 = .ok (.invokevirtual 68, 3) := by decide +kernel
theorem dL_bringBack_7 : decode cL_bringBack 7 = .ok (.i2l, 1) := by decide +kernel
theorem dL_bringBack_8 : decode cL_bringBack 8 = .ok (.lastore, 1) := by decide +kernel
theorem dL_bringBack_9 : decode cL_bringBack 9 = .ok (.goto 9, 3) := by decide +kernel
theorem dL_bringBack_12 : decode cL_bringBack 12 = .ok (.astore_n 3, 1) := by decide +kernel
theorem dL_bringBack_13 : decode cL_bringBack 13 = .ok (.iconst 1, 1) := by decide +kernel
theorem dL_bringBack_14 : decode cL_bringBack 14 = .ok (.ireturn, 1) := by decide +kernel
theorem dL_bringBack_15 : decode cL_bringBack 15 = .ok (.astore_n 3, 1) := by decide +kernel
theorem dL_bringBack_16 : decode cL_bringBack 16 = .ok (.iconst 2, 1) := by decide +kernel
theorem dL_bringBack_17 : decode cL_bringBack 17 = .ok (.ireturn, 1) := by decide +kernel
theorem dL_bringBack_18 : decode cL_bringBack 18 = .ok (.iconst 0, 1) := by decide +kernel
theorem dL_bringBack_19 : decode cL_bringBack 19 = .ok (.ireturn, 1) := by decide +kernel
set_option maxRecDepth 20000 in
theorem ggL_replace_X5_replace : GoodIn wsL_replace wsX5_replace := goodIn_ca (goodIn_r _ [6, 7, 8, 9, 5, 10, 11, 12, 13, 14, 15, 16, 17, 18, 19, 20, 21, 22, 23, 24, 25, 26, 27, 28, 29] (by decide +kernel) (by decide +kernel)) (goodIn_sub (fun _ h => List.mem_cons_of_mem _ (List.mem_append_right _ h)) (by decide +kernel))
set_option maxRecDepth 20000 in
theorem gL_replace_X5_replace : GoodIn wsL_replace (wsV RL 71 RX5 yX5_replace wsX5_replace) := goodIn_app (goodIn_of _ (by decide +kernel)) ggL_replace_X5_replace
theorem dL_replace_0 : decode cL_replace 0 = .ok (.aload_n 2, 1) := by decide +kernel
theorem dL_replace_1 : decode cL_replace 1 = .ok (.iconst 0, 1) := by decide +kernel
theorem dL_replace_2 : decode cL_replace 2 = .ok (.aload_n 0, 1) := by decide +kernel
theorem dL_replace_3 : decode cL_replace 3 = .ok (.iload_n 1, 1) := by decide +kernel
theorem dL_replace_4 : decode cL_replace 4 = .ok (.invokevirtual 71, 3) := by decide +kernel
theorem dL_replace_7 : decode cL_replace 7 = .ok (.i2l, 1) := by decide +kernel
theorem dL_replace_8 : decode cL_replace 8 = .ok (.lastore, 1) := by decide +kernel
theorem dL_replace_9 : decode cL_replace 9 = .ok (.goto 6, 3) := by decide +kernel
theorem dL_replace_12 : decode cL_replace 12 = .ok (.astore_n 3, 1) := by decide +kernel
theorem dL_replace_13 : decode cL_replace 13 = .ok (.iconst 1, 1) := by decide +kernel
theorem dL_replace_14 : decode cL_replace 14 = .ok (.ireturn, 1) := by decide +kernel
theorem dL_replace_15 : decode cL_replace 15 = .ok (.iconst 0, 1) := by decide +kernel
theorem dL_replace_16 : decode cL_replace 16 = .ok (.ireturn, 1) := by decide +kernel
set_option maxRecDepth 20000 in
theorem ggL_whereIs_X5_whereIs : GoodIn wsL_whereIs wsX5_whereIs := goodIn_ca (goodIn_r _ [6, 7, 8, 9, 5, 10, 11, 12, 13, 14, 15, 16, 17, 18, 19, 20, 21, 22, 23, 24, 25, 26, 27, 28, 29] (by decide +kernel) (by decide +kernel)) (goodIn_sub (fun _ h => List.mem_cons_of_mem _ (List.mem_append_right _ h)) (by decide +kernel))
set_option maxRecDepth 20000 in
theorem gL_whereIs_X5_whereIs : GoodIn wsL_whereIs (wsV RL 74 RX5 yX5_whereIs wsX5_whereIs) := goodIn_app (goodIn_of _ (by decide +kernel)) ggL_whereIs_X5_whereIs
theorem dL_whereIs_0 : decode cL_whereIs 0 = .ok (.aload_n 2, 1) := by decide +kernel
theorem dL_whereIs_1 : decode cL_whereIs 1 = .ok (.iconst 0, 1) := by decide +kernel
theorem dL_whereIs_2 : decode cL_whereIs 2 = .ok (.aload_n 0, 1) := by decide +kernel
theorem dL_whereIs_3 : decode cL_whereIs 3 = .ok (.iload_n 1, 1) := by decide +kernel
theorem dL_whereIs_4 : decode cL_whereIs 4 = .ok (.invokevirtual 74, 3) := by decide +kernel
theorem dL_whereIs_7 : decode cL_whereIs 7 = .ok (.i2l, 1) := by decide +kernel
theorem dL_whereIs_8 : decode cL_whereIs 8 = .ok (.lastore, 1) := by decide +kernel
theorem dL_whereIs_9 : decode cL_whereIs 9 = .ok (.goto 6, 3) := by decide +kernel
theorem dL_whereIs_12 : decode cL_whereIs 12 = .ok (.astore_n 3, 1) := by decide +kernel
theorem dL_whereIs_13 : decode cL_whereIs 13 = .ok (.iconst 1, 1) := by decide +kernel
theorem dL_whereIs_14 : decode cL_whereIs 14 = .ok (.ireturn, 1) := by decide +kernel
theorem dL_whereIs_15 : decode cL_whereIs 15 = .ok (.iconst 0, 1) := by decide +kernel
theorem dL_whereIs_16 : decode cL_whereIs 16 = .ok (.ireturn, 1) := by decide +kernel
set_option maxRecDepth 20000 in
theorem ggL_wear_X5_wear : GoodIn wsL_wear wsX5_wear := goodIn_ca (goodIn_r _ [6, 7, 8, 9, 5, 10, 11, 12, 13, 14, 15, 16, 17, 18, 19, 20, 21, 22, 23, 24, 25, 26, 27, 28, 29] (by decide +kernel) (by decide +kernel)) (goodIn_sub (fun _ h => List.mem_cons_of_mem _ (List.mem_append_right _ h)) (by decide +kernel))
set_option maxRecDepth 20000 in
theorem gL_wear_X5_wear : GoodIn wsL_wear (wsV RL 77 RX5 yX5_wear wsX5_wear) := goodIn_app (goodIn_of _ (by decide +kernel)) ggL_wear_X5_wear
theorem dL_wear_0 : decode cL_wear 0 = .ok (.aload_n 2, 1) := by decide +kernel
theorem dL_wear_1 : decode cL_wear 1 = .ok (.iconst 0, 1) := by decide +kernel
theorem dL_wear_2 : decode cL_wear 2 = .ok (.aload_n 0, 1) := by decide +kernel
theorem dL_wear_3 : decode cL_wear 3 = .ok (.iload_n 1, 1) := by decide +kernel
theorem dL_wear_4 : decode cL_wear 4 = .ok (.invokevirtual 77, 3) := by decide +kernel
theorem dL_wear_7 : decode cL_wear 7 = .ok (.i2l, 1) := by decide +kernel
theorem dL_wear_8 : decode cL_wear 8 = .ok (.lastore, 1) := by decide +kernel
theorem dL_wear_9 : decode cL_wear 9 = .ok (.goto 6, 3) := by decide +kernel
theorem dL_wear_12 : decode cL_wear 12 = .ok (.astore_n 3, 1) := by decide +kernel
theorem dL_wear_13 : decode cL_wear 13 = .ok (.iconst 1, 1) := by decide +kernel
theorem dL_wear_14 : decode cL_wear 14 = .ok (.ireturn, 1) := by decide +kernel
theorem dL_wear_15 : decode cL_wear 15 = .ok (.iconst 0, 1) := by decide +kernel
theorem dL_wear_16 : decode cL_wear 16 = .ok (.ireturn, 1) := by decide +kernel
set_option maxRecDepth 20000 in
theorem ggL_laidOn_X5_laidOn : GoodIn wsL_laidOn wsX5_laidOn := goodIn_ca (goodIn_r _ [6, 7, 8, 9, 10, 5, 11, 12, 13, 14, 15, 16, 17, 18, 19, 20, 21, 22, 23, 24, 25, 26, 27, 28, 29, 30, 31, 32, 33, 34, 35, 36, 37, 38, 39, 40, 41, 42, 43, 44, 45] (by decide +kernel) (by decide +kernel)) (goodIn_sub (fun _ h => List.mem_cons_of_mem _ (List.mem_append_right _ h)) (by decide +kernel))
set_option maxRecDepth 20000 in
theorem gL_laidOn_X5_laidOn : GoodIn wsL_laidOn (wsV RL 80 RX5 yX5_laidOn wsX5_laidOn) := goodIn_app (goodIn_of _ (by decide +kernel)) ggL_laidOn_X5_laidOn
theorem dL_laidOn_0 : decode cL_laidOn 0 = .ok (.aload_n 3, 1) := by decide +kernel
theorem dL_laidOn_1 : decode cL_laidOn 1 = .ok (.iconst 0, 1) := by decide +kernel
theorem dL_laidOn_2 : decode cL_laidOn 2 = .ok (.aload_n 0, 1) := by decide +kernel
theorem dL_laidOn_3 : decode cL_laidOn 3 = .ok (.iload_n 1, 1) := by decide +kernel
theorem dL_laidOn_4 : decode cL_laidOn 4 = .ok (.iload_n 2, 1) := by decide +kernel
theorem dL_laidOn_5 : decode cL_laidOn 5 = .ok (.invokevirtual 80, 3) := by decide +kernel
theorem dL_laidOn_8 : decode cL_laidOn 8 = .ok (.i2l, 1) := by decide +kernel
theorem dL_laidOn_9 : decode cL_laidOn 9 = .ok (.lastore, 1) := by decide +kernel
theorem dL_laidOn_10 : decode cL_laidOn 10 = .ok (.goto 7, 3) := by decide +kernel
theorem dL_laidOn_13 : decode cL_laidOn 13 = .ok (.astore 4, 2) := by decide +kernel
theorem dL_laidOn_15 : decode cL_laidOn 15 = .ok (.iconst 1, 1) := by decide +kernel
theorem dL_laidOn_16 : decode cL_laidOn 16 = .ok (.ireturn, 1) := by decide +kernel
theorem dL_laidOn_17 : decode cL_laidOn 17 = .ok (.iconst 0, 1) := by decide +kernel
theorem dL_laidOn_18 : decode cL_laidOn 18 = .ok (.ireturn, 1) := by decide +kernel
set_option maxRecDepth 20000 in
theorem ggL_lampLevel_X5_lampLevel : GoodIn wsL_lampLevel wsX5_lampLevel := goodIn_ca (goodIn_ca (goodIn_r _ [7, 8, 9, 10, 11, 12, 13, 14, 6, 15, 16, 17, 18, 19, 20, 21, 22, 23, 24, 25, 26, 27, 28, 29, 30, 31, 32, 33, 34, 35, 36, 37, 38, 39, 40, 41, 42, 43, 44, 45, 46, 47, 48, 49, 50, 51, 52, 53, 54, 55, 56, 57, 58, 59, 60, 61, 62, 63, 64, 65, 66, 67, 68, 69, 70, 71, 72, 73, 74, 75, 76, 77, 78, 79, 80, 81, 82, 83, 84, 85, 86, 87, 88, 89, 90, 91] (by decide +kernel) (by decide +kernel)) (goodIn_sub (fun _ h => List.mem_cons_of_mem _ (List.mem_append_left _ (List.mem_append_right _ h))) (by decide +kernel))) (goodIn_sub (fun _ h => List.mem_cons_of_mem _ (List.mem_append_right _ h)) (by decide +kernel))
set_option maxRecDepth 20000 in
theorem gL_lampLevel_X5_lampLevel : GoodIn wsL_lampLevel (wsV RL 83 RX5 yX5_lampLevel wsX5_lampLevel) := goodIn_app (goodIn_of _ (by decide +kernel)) ggL_lampLevel_X5_lampLevel
theorem dL_lampLevel_0 : decode cL_lampLevel 0 = .ok (.aload_n 3, 1) := by decide +kernel
theorem dL_lampLevel_1 : decode cL_lampLevel 1 = .ok (.iconst 0, 1) := by decide +kernel
theorem dL_lampLevel_2 : decode cL_lampLevel 2 = .ok (.aload_n 0, 1) := by decide +kernel
theorem dL_lampLevel_3 : decode cL_lampLevel 3 = .ok (.iload_n 1, 1) := by decide +kernel
theorem dL_lampLevel_4 : decode cL_lampLevel 4 = .ok (.iload_n 2, 1) := by decide +kernel
theorem dL_lampLevel_5 : decode cL_lampLevel 5 = .ok (.invokevirtual 83, 3) := by decide +kernel
theorem dL_lampLevel_8 : decode cL_lampLevel 8 = .ok (.i2l, 1) := by decide +kernel
theorem dL_lampLevel_9 : decode cL_lampLevel 9 = .ok (.lastore, 1) := by decide +kernel
theorem dL_lampLevel_10 : decode cL_lampLevel 10 = .ok (.goto 11, 3) := by decide +kernel
theorem dL_lampLevel_13 : decode cL_lampLevel 13 = .ok (.astore 4, 2) := by decide +kernel
theorem dL_lampLevel_15 : decode cL_lampLevel 15 = .ok (.iconst 1, 1) := by decide +kernel
theorem dL_lampLevel_16 : decode cL_lampLevel 16 = .ok (.ireturn, 1) := by decide +kernel
theorem dL_lampLevel_17 : decode cL_lampLevel 17 = .ok (.astore 4, 2) := by decide +kernel
theorem dL_lampLevel_19 : decode cL_lampLevel 19 = .ok (.iconst 2, 1) := by decide +kernel
theorem dL_lampLevel_20 : decode cL_lampLevel 20 = .ok (.ireturn, 1) := by decide +kernel
theorem dL_lampLevel_21 : decode cL_lampLevel 21 = .ok (.iconst 0, 1) := by decide +kernel
theorem dL_lampLevel_22 : decode cL_lampLevel 22 = .ok (.ireturn, 1) := by decide +kernel
set_option maxRecDepth 20000 in
theorem ggL_light_X5_light : GoodIn wsL_light wsX5_light := goodIn_ca (goodIn_ca (goodIn_r _ [7, 8, 9, 10, 11, 12, 13, 14, 6, 15, 16, 17, 18, 19, 20, 21, 22, 23, 24, 25, 26, 27, 28, 29, 30, 31, 32, 33, 34, 35, 36, 37, 38, 39, 40, 41, 42, 43, 44, 45, 46, 47, 48, 49, 50, 51, 52, 53, 54, 55, 56, 57, 58, 59, 60, 61, 62, 63, 64, 65, 66, 67, 68, 69, 70, 71, 72, 73, 74, 75, 76, 77, 78, 79, 80, 81, 82, 83, 84, 85, 86, 87, 88, 89, 90, 91, 92, 93, 94, 95, 96] (by decide +kernel) (by decide +kernel)) (goodIn_sub (fun _ h => List.mem_cons_of_mem _ (List.mem_append_left _ (List.mem_append_right _ h))) (by decide +kernel))) (goodIn_sub (fun _ h => List.mem_cons_of_mem _ (List.mem_append_right _ h)) (by decide +kernel))
set_option maxRecDepth 20000 in
theorem gL_light_X5_light : GoodIn wsL_light (wsV RL 86 RX5 yX5_light wsX5_light) := goodIn_app (goodIn_of _ (by decide +kernel)) ggL_light_X5_light
theorem dL_light_0 : decode cL_light 0 = .ok (.aload 4, 2) := by decide +kernel
theorem dL_light_2 : decode cL_light 2 = .ok (.iconst 0, 1) := by decide +kernel
theorem dL_light_3 : decode cL_light 3 = .ok (.aload_n 0, 1) := by decide +kernel
theorem dL_light_4 : decode cL_light 4 = .ok (.iload_n 1, 1) := by decide +kernel
theorem dL_light_5 : decode cL_light 5 = .ok (.iload_n 2, 1) := by decide +kernel
theorem dL_light_6 : decode cL_light 6 = .ok (.iload_n 3, 1) := by decide +kernel
theorem dL_light_7 : decode cL_light 7 = .ok (.invokevirtual 86, 3) := by decide +kernel
theorem dL_light_10 : decode cL_light 10 = .ok (.i2l, 1) := by decide +kernel
theorem dL_light_11 : decode cL_light 11 = .ok (.lastore, 1) := by decide +kernel
theorem dL_light_12 : decode cL_light 12 = .ok (.goto 11, 3) := by decide +kernel
theorem dL_light_15 : decode cL_light 15 = .ok (.astore 5, 2) := by decide +kernel
theorem dL_light_17 : decode cL_light 17 = .ok (.iconst 1, 1) := by decide +kernel
theorem dL_light_18 : decode cL_light 18 = .ok (.ireturn, 1) := by decide +kernel
theorem dL_light_19 : decode cL_light 19 = .ok (.astore 5, 2) := by decide +kernel
theorem dL_light_21 : decode cL_light 21 = .ok (.iconst 2, 1) := by decide +kernel
theorem dL_light_22 : decode cL_light 22 = .ok (.ireturn, 1) := by decide +kernel
theorem dL_light_23 : decode cL_light 23 = .ok (.iconst 0, 1) := by decide +kernel
theorem dL_light_24 : decode cL_light 24 = .ok (.ireturn, 1) := by decide +kernel
set_option maxRecDepth 20000 in
theorem ggL_shortOf_X5_shortOf : GoodIn wsL_shortOf wsX5_shortOf := goodIn_ca (goodIn_r _ [6, 7, 8, 9, 10, 11, 12, 5, 13, 14, 15, 16, 17, 18, 19, 20, 21, 22, 23, 24, 25, 26, 27, 28, 29, 30, 31, 32, 33, 34, 35, 36, 37, 38, 39, 40, 41, 42, 43, 44, 45, 46, 47, 48, 49, 50, 51, 52, 53, 54, 55, 56, 57, 58, 59, 60, 61, 62, 63, 64, 65, 66, 67, 68, 69, 70, 71, 72, 73, 74, 75, 76, 77, 78, 79, 80, 81, 82, 83, 84, 85, 86, 87, 88, 89, 90, 91, 92, 93, 94, 95, 96, 97, 98, 99, 100, 101, 102, 103, 104, 105, 106, 107, 108, 109, 110, 111, 112, 113, 114] (by decide +kernel) (by decide +kernel)) (goodIn_sub (fun _ h => List.mem_cons_of_mem _ (List.mem_append_right _ h)) (by decide +kernel))
set_option maxRecDepth 20000 in
theorem gL_shortOf_X5_shortOf : GoodIn wsL_shortOf (wsV RL 89 RX5 yX5_shortOf wsX5_shortOf) := goodIn_app (goodIn_of _ (by decide +kernel)) ggL_shortOf_X5_shortOf
theorem dL_shortOf_0 : decode cL_shortOf 0 = .ok (.aload_n 3, 1) := by decide +kernel
theorem dL_shortOf_1 : decode cL_shortOf 1 = .ok (.iconst 0, 1) := by decide +kernel
theorem dL_shortOf_2 : decode cL_shortOf 2 = .ok (.aload_n 0, 1) := by decide +kernel
theorem dL_shortOf_3 : decode cL_shortOf 3 = .ok (.iload_n 1, 1) := by decide +kernel
theorem dL_shortOf_4 : decode cL_shortOf 4 = .ok (.iload_n 2, 1) := by decide +kernel
theorem dL_shortOf_5 : decode cL_shortOf 5 = .ok (.invokevirtual 89, 3) := by decide +kernel
theorem dL_shortOf_8 : decode cL_shortOf 8 = .ok (.i2l, 1) := by decide +kernel
theorem dL_shortOf_9 : decode cL_shortOf 9 = .ok (.lastore, 1) := by decide +kernel
theorem dL_shortOf_10 : decode cL_shortOf 10 = .ok (.goto 7, 3) := by decide +kernel
theorem dL_shortOf_13 : decode cL_shortOf 13 = .ok (.astore 4, 2) := by decide +kernel
theorem dL_shortOf_15 : decode cL_shortOf 15 = .ok (.iconst 1, 1) := by decide +kernel
theorem dL_shortOf_16 : decode cL_shortOf 16 = .ok (.ireturn, 1) := by decide +kernel
theorem dL_shortOf_17 : decode cL_shortOf 17 = .ok (.iconst 0, 1) := by decide +kernel
theorem dL_shortOf_18 : decode cL_shortOf 18 = .ok (.ireturn, 1) := by decide +kernel
set_option maxRecDepth 20000 in
theorem ggL_bestToBorrow_X5_bestToBorrow : GoodIn wsL_bestToBorrow wsX5_bestToBorrow := goodIn_ca (goodIn_r _ [6, 7, 8, 9, 5, 10, 11, 12, 13, 14, 15, 16, 17, 18, 19, 20, 21, 22, 23, 24, 25, 26, 27, 28, 29, 30, 31, 32, 33, 34, 35, 36, 37, 38, 39, 40, 41, 42, 43, 44, 45, 46, 47, 48, 49, 50, 51, 52, 53, 54, 55, 56, 57, 58, 59, 60, 61, 62, 63, 64, 65, 66, 67, 68, 69, 70, 71, 72, 73, 74, 75, 76, 77, 78, 79, 80, 81, 82, 83, 84, 85, 86, 87, 88, 89, 90, 91, 92, 93, 94, 95, 96, 97, 98, 99, 100, 101, 102, 103, 104, 105, 106, 107, 108, 109, 110, 111, 112, 113, 114, 115, 116, 117, 118, 119, 120, 121, 122, 123, 124, 125, 126, 127, 128, 129, 130, 131, 132, 133, 134, 135, 136, 137, 138, 139, 140, 141, 142, 143, 144, 145] (by decide +kernel) (by decide +kernel)) (goodIn_sub (fun _ h => List.mem_cons_of_mem _ (List.mem_append_right _ h)) (by decide +kernel))
set_option maxRecDepth 20000 in
theorem gL_bestToBorrow_X5_bestToBorrow : GoodIn wsL_bestToBorrow (wsV RL 92 RX5 yX5_bestToBorrow wsX5_bestToBorrow) := goodIn_app (goodIn_of _ (by decide +kernel)) ggL_bestToBorrow_X5_bestToBorrow
theorem dL_bestToBorrow_0 : decode cL_bestToBorrow 0 = .ok (.aload_n 3, 1) := by decide +kernel
theorem dL_bestToBorrow_1 : decode cL_bestToBorrow 1 = .ok (.iconst 0, 1) := by decide +kernel
theorem dL_bestToBorrow_2 : decode cL_bestToBorrow 2 = .ok (.aload_n 0, 1) := by decide +kernel
theorem dL_bestToBorrow_3 : decode cL_bestToBorrow 3 = .ok (.iload_n 1, 1) := by decide +kernel
theorem dL_bestToBorrow_4 : decode cL_bestToBorrow 4 = .ok (.iload_n 2, 1) := by decide +kernel
theorem dL_bestToBorrow_5 : decode cL_bestToBorrow 5 = .ok (.invokevirtual 92, 3) := by decide +kernel
theorem dL_bestToBorrow_8 : decode cL_bestToBorrow 8 = .ok (.i2l, 1) := by decide +kernel
theorem dL_bestToBorrow_9 : decode cL_bestToBorrow 9 = .ok (.lastore, 1) := by decide +kernel
theorem dL_bestToBorrow_10 : decode cL_bestToBorrow 10 = .ok (.goto 7, 3) := by decide +kernel
theorem dL_bestToBorrow_13 : decode cL_bestToBorrow 13 = .ok (.astore 4, 2) := by decide +kernel
theorem dL_bestToBorrow_15 : decode cL_bestToBorrow 15 = .ok (.iconst 1, 1) := by decide +kernel
theorem dL_bestToBorrow_16 : decode cL_bestToBorrow 16 = .ok (.ireturn, 1) := by decide +kernel
theorem dL_bestToBorrow_17 : decode cL_bestToBorrow 17 = .ok (.iconst 0, 1) := by decide +kernel
theorem dL_bestToBorrow_18 : decode cL_bestToBorrow 18 = .ok (.ireturn, 1) := by decide +kernel
set_option maxRecDepth 20000 in
theorem ggL_perform_X5_perform : GoodIn wsL_perform wsX5_perform := goodIn_ca (goodIn_ca (goodIn_r _ [7, 8, 9, 10, 11, 6, 12, 13, 14, 15, 16, 17, 18, 19, 20, 21, 22, 23, 24, 25, 26, 27, 28, 29, 30, 31, 32, 33, 34, 35, 36, 37, 38, 39, 40, 41, 42, 43, 44, 45, 46, 47, 48, 49, 50, 51, 52, 53, 54, 55, 56, 57, 58, 59, 60, 61, 62, 63, 64, 65, 66, 67, 68, 69, 70, 71, 72, 73, 74, 75, 76, 77, 78, 79, 80, 81, 82, 83, 84, 85, 86, 87, 88, 89, 90, 91, 92, 93, 94, 95, 96, 97, 98, 99, 100, 101, 102, 103, 104, 105, 106, 107, 108, 109, 110, 111, 112, 113, 114, 115, 116, 117, 118, 119, 120, 121, 122, 123, 124, 125, 126, 127, 128, 129, 130, 131, 132, 133, 134, 135, 136, 137, 138, 139, 140, 141, 142, 143, 144, 145, 146, 147, 148, 149, 150, 151, 152, 153, 154, 155, 156, 157, 158, 159, 160, 161, 162, 163, 164, 165, 166, 167, 168, 169] (by decide +kernel) (by decide +kernel)) (goodIn_sub (fun _ h => List.mem_cons_of_mem _ (List.mem_append_left _ (List.mem_append_right _ h))) (by decide +kernel))) (goodIn_sub (fun _ h => List.mem_cons_of_mem _ (List.mem_append_right _ h)) (by decide +kernel))
set_option maxRecDepth 20000 in
theorem gL_perform_X5_perform : GoodIn wsL_perform (wsV RL 95 RX5 yX5_perform wsX5_perform) := goodIn_app (goodIn_of _ (by decide +kernel)) ggL_perform_X5_perform
theorem dL_perform_0 : decode cL_perform 0 = .ok (.aload_n 2, 1) := by decide +kernel
theorem dL_perform_1 : decode cL_perform 1 = .ok (.iconst 0, 1) := by decide +kernel
theorem dL_perform_2 : decode cL_perform 2 = .ok (.aload_n 0, 1) := by decide +kernel
theorem dL_perform_3 : decode cL_perform 3 = .ok (.iload_n 1, 1) := by decide +kernel
theorem dL_perform_4 : decode cL_perform 4 = .ok (.invokevirtual 95, 3) := by decide +kernel
theorem dL_perform_7 : decode cL_perform 7 = .ok (.i2l, 1) := by decide +kernel
theorem dL_perform_8 : decode cL_perform 8 = .ok (.lastore, 1) := by decide +kernel
theorem dL_perform_9 : decode cL_perform 9 = .ok (.goto 9, 3) := by decide +kernel
theorem dL_perform_12 : decode cL_perform 12 = .ok (.astore_n 3, 1) := by decide +kernel
theorem dL_perform_13 : decode cL_perform 13 = .ok (.iconst 1, 1) := by decide +kernel
theorem dL_perform_14 : decode cL_perform 14 = .ok (.ireturn, 1) := by decide +kernel
theorem dL_perform_15 : decode cL_perform 15 = .ok (.astore_n 3, 1) := by decide +kernel
theorem dL_perform_16 : decode cL_perform 16 = .ok (.iconst 2, 1) := by decide +kernel
theorem dL_perform_17 : decode cL_perform 17 = .ok (.ireturn, 1) := by decide +kernel
theorem dL_perform_18 : decode cL_perform 18 = .ok (.iconst 0, 1) := by decide +kernel
theorem dL_perform_19 : decode cL_perform 19 = .ok (.ireturn, 1) := by decide +kernel
set_option maxRecDepth 20000 in
theorem ggL_stageOf_X5_stageOf : GoodIn wsL_stageOf wsX5_stageOf := goodIn_ca (goodIn_r _ [6, 7, 8, 9, 5, 10, 11, 12, 13, 14, 15, 16, 17, 18, 19, 20, 21, 22, 23] (by decide +kernel) (by decide +kernel)) (goodIn_sub (fun _ h => List.mem_cons_of_mem _ (List.mem_append_right _ h)) (by decide +kernel))
set_option maxRecDepth 20000 in
theorem gL_stageOf_X5_stageOf : GoodIn wsL_stageOf (wsV RL 98 RX5 yX5_stageOf wsX5_stageOf) := goodIn_app (goodIn_of _ (by decide +kernel)) ggL_stageOf_X5_stageOf
theorem dL_stageOf_0 : decode cL_stageOf 0 = .ok (.aload_n 2, 1) := by decide +kernel
theorem dL_stageOf_1 : decode cL_stageOf 1 = .ok (.iconst 0, 1) := by decide +kernel
theorem dL_stageOf_2 : decode cL_stageOf 2 = .ok (.aload_n 0, 1) := by decide +kernel
theorem dL_stageOf_3 : decode cL_stageOf 3 = .ok (.iload_n 1, 1) := by decide +kernel
theorem dL_stageOf_4 : decode cL_stageOf 4 = .ok (.invokevirtual 98, 3) := by decide +kernel
theorem dL_stageOf_7 : decode cL_stageOf 7 = .ok (.i2l, 1) := by decide +kernel
theorem dL_stageOf_8 : decode cL_stageOf 8 = .ok (.lastore, 1) := by decide +kernel
theorem dL_stageOf_9 : decode cL_stageOf 9 = .ok (.goto 6, 3) := by decide +kernel
theorem dL_stageOf_12 : decode cL_stageOf 12 = .ok (.astore_n 3, 1) := by decide +kernel
theorem dL_stageOf_13 : decode cL_stageOf 13 = .ok (.iconst 1, 1) := by decide +kernel
theorem dL_stageOf_14 : decode cL_stageOf 14 = .ok (.ireturn, 1) := by decide +kernel
theorem dL_stageOf_15 : decode cL_stageOf 15 = .ok (.iconst 0, 1) := by decide +kernel
theorem dL_stageOf_16 : decode cL_stageOf 16 = .ok (.ireturn, 1) := by decide +kernel
set_option maxRecDepth 20000 in
theorem ggL_wasShortOf_X5_wasShortOf : GoodIn wsL_wasShortOf wsX5_wasShortOf := goodIn_ca (goodIn_r _ [6, 7, 8, 9, 10, 5, 11, 12, 13, 14, 15, 16, 17, 18, 19, 20, 21, 22, 23, 24, 25, 26, 27, 28] (by decide +kernel) (by decide +kernel)) (goodIn_sub (fun _ h => List.mem_cons_of_mem _ (List.mem_append_right _ h)) (by decide +kernel))
set_option maxRecDepth 20000 in
theorem gL_wasShortOf_X5_wasShortOf : GoodIn wsL_wasShortOf (wsV RL 101 RX5 yX5_wasShortOf wsX5_wasShortOf) := goodIn_app (goodIn_of _ (by decide +kernel)) ggL_wasShortOf_X5_wasShortOf
theorem dL_wasShortOf_0 : decode cL_wasShortOf 0 = .ok (.aload_n 3, 1) := by decide +kernel
theorem dL_wasShortOf_1 : decode cL_wasShortOf 1 = .ok (.iconst 0, 1) := by decide +kernel
theorem dL_wasShortOf_2 : decode cL_wasShortOf 2 = .ok (.aload_n 0, 1) := by decide +kernel
theorem dL_wasShortOf_3 : decode cL_wasShortOf 3 = .ok (.iload_n 1, 1) := by decide +kernel
theorem dL_wasShortOf_4 : decode cL_wasShortOf 4 = .ok (.iload_n 2, 1) := by decide +kernel
theorem dL_wasShortOf_5 : decode cL_wasShortOf 5 = .ok (.invokevirtual 101, 3) := by decide +kernel
theorem dL_wasShortOf_8 : decode cL_wasShortOf 8 = .ok (.i2l, 1) := by decide +kernel
theorem dL_wasShortOf_9 : decode cL_wasShortOf 9 = .ok (.lastore, 1) := by decide +kernel
theorem dL_wasShortOf_10 : decode cL_wasShortOf 10 = .ok (.goto 7, 3) := by decide +kernel
theorem dL_wasShortOf_13 : decode cL_wasShortOf 13 = .ok (.astore 4, 2) := by decide +kernel
theorem dL_wasShortOf_15 : decode cL_wasShortOf 15 = .ok (.iconst 1, 1) := by decide +kernel
theorem dL_wasShortOf_16 : decode cL_wasShortOf 16 = .ok (.ireturn, 1) := by decide +kernel
theorem dL_wasShortOf_17 : decode cL_wasShortOf 17 = .ok (.iconst 0, 1) := by decide +kernel
theorem dL_wasShortOf_18 : decode cL_wasShortOf 18 = .ok (.ireturn, 1) := by decide +kernel
set_option maxRecDepth 20000 in
theorem ggL_timesShort_X5_timesShort : GoodIn wsL_timesShort wsX5_timesShort := goodIn_ca (goodIn_r _ [6, 7, 8, 9, 10, 5, 11, 12, 13, 14, 15, 16, 17, 18, 19, 20, 21, 22, 23, 24, 25, 26, 27, 28, 29, 30, 31, 32, 33, 34, 35] (by decide +kernel) (by decide +kernel)) (goodIn_sub (fun _ h => List.mem_cons_of_mem _ (List.mem_append_right _ h)) (by decide +kernel))
set_option maxRecDepth 20000 in
theorem gL_timesShort_X5_timesShort : GoodIn wsL_timesShort (wsV RL 104 RX5 yX5_timesShort wsX5_timesShort) := goodIn_app (goodIn_of _ (by decide +kernel)) ggL_timesShort_X5_timesShort
theorem dL_timesShort_0 : decode cL_timesShort 0 = .ok (.aload_n 2, 1) := by decide +kernel
theorem dL_timesShort_1 : decode cL_timesShort 1 = .ok (.iconst 0, 1) := by decide +kernel
theorem dL_timesShort_2 : decode cL_timesShort 2 = .ok (.aload_n 0, 1) := by decide +kernel
theorem dL_timesShort_3 : decode cL_timesShort 3 = .ok (.iload_n 1, 1) := by decide +kernel
theorem dL_timesShort_4 : decode cL_timesShort 4 = .ok (.invokevirtual 104, 3) := by decide +kernel
theorem dL_timesShort_7 : decode cL_timesShort 7 = .ok (.i2l, 1) := by decide +kernel
theorem dL_timesShort_8 : decode cL_timesShort 8 = .ok (.lastore, 1) := by decide +kernel
theorem dL_timesShort_9 : decode cL_timesShort 9 = .ok (.goto 6, 3) := by decide +kernel
theorem dL_timesShort_12 : decode cL_timesShort 12 = .ok (.astore_n 3, 1) := by decide +kernel
theorem dL_timesShort_13 : decode cL_timesShort 13 = .ok (.iconst 1, 1) := by decide +kernel
theorem dL_timesShort_14 : decode cL_timesShort 14 = .ok (.ireturn, 1) := by decide +kernel
theorem dL_timesShort_15 : decode cL_timesShort 15 = .ok (.iconst 0, 1) := by decide +kernel
theorem dL_timesShort_16 : decode cL_timesShort 16 = .ok (.ireturn, 1) := by decide +kernel
set_option maxRecDepth 20000 in
theorem ggL_law_X5_init : GoodIn wsL_law wsX5_init := goodIn_r _ [9, 10, 11, 12, 13, 14, 15, 16, 17, 18, 19, 20, 21, 22, 23, 24, 25, 26, 27, 28, 29, 30, 31, 32, 33, 34, 35, 36, 37, 38, 39, 40, 41, 42, 43, 44, 45, 46, 47, 48, 49, 50, 51, 52, 53, 54, 55, 56, 57, 58, 59, 60, 61, 62, 63, 64, 65, 66, 67, 68, 69, 70, 71, 72, 73, 74, 75, 76, 77, 78, 79, 80, 81, 82, 83, 84, 85, 86, 840, 841, 842, 843, 802, 803, 804, 805, 806, 807, 808, 809, 844, 845, 846, 847, 848, 849, 850, 851, 852, 853, 854, 855, 856, 857, 858, 859, 860, 861, 862, 863, 864, 865, 866, 867, 868] (by decide +kernel) (by decide +kernel)
set_option maxRecDepth 20000 in
theorem gL_law_X5_init : GoodIn wsL_law (wsX5_init) := ggL_law_X5_init
set_option maxRecDepth 20000 in
theorem ggL_law_X6_init : GoodIn wsL_law wsX6_init := goodIn_r _ [89, 90, 11, 12, 33, 91, 42, 92, 93, 94, 95, 96, 97, 98, 99, 100, 101, 102, 103, 104, 105, 106, 107, 108, 109, 110, 111, 112, 113, 114, 810, 811, 812, 813, 814, 815, 816, 817, 818, 819, 820, 821, 822, 823, 824, 825, 826, 827, 828, 829, 830, 831, 832, 833, 834, 835, 836, 837, 838, 839] (by decide +kernel) (by decide +kernel)
set_option maxRecDepth 20000 in
theorem gL_law_X6_init : GoodIn wsL_law (wsX6_init) := ggL_law_X6_init
set_option maxRecDepth 20000 in
theorem ggL_law_L_addLine : GoodIn wsL_law wsL_addLine := goodIn_ca (goodIn_ca (goodIn_r _ [118, 119, 120, 121, 122, 123, 2, 124, 16, 125, 126, 127, 128, 129, 130, 131, 132, 133, 134, 135, 136, 137, 15, 138, 41, 46, 802, 803, 804, 805, 806, 807, 808, 809, 840, 841, 842, 843] (by decide +kernel) (by decide +kernel)) (goodIn_sub (fun _ h => List.mem_append_left _ (List.mem_append_left _ (List.mem_append_right _ h))) (by decide +kernel))) (goodIn_sub (fun _ h => List.mem_append_left _ (List.mem_append_right _ h)) (by decide +kernel))
set_option maxRecDepth 20000 in
theorem gL_law_L_addLine : GoodIn wsL_law (va_wsS RL 111 yL_addLine wsL_addLine) := goodIn_app (goodIn_of _ (by decide +kernel)) ggL_law_L_addLine
set_option maxRecDepth 20000 in
theorem ggL_law_X6_addLine : GoodIn wsL_law wsX6_addLine := goodIn_r _ [142, 143, 91, 144, 145, 5, 146, 147, 148, 149, 150, 151, 810, 811, 812, 813, 814, 815, 816, 817, 818, 819, 820, 821, 822, 823, 824, 825, 826, 827, 828, 829, 830, 831, 832, 833, 834, 835, 836, 837, 838, 839] (by decide +kernel) (by decide +kernel)
set_option maxRecDepth 20000 in
theorem gL_law_X6_addLine : GoodIn wsL_law (wsV RL 116 RX6 yX6_addLine wsX6_addLine) := goodIn_app (goodIn_of _ (by decide +kernel)) ggL_law_X6_addLine
set_option maxRecDepth 20000 in
theorem ggL_law_X6_thrown : GoodIn wsL_law wsX6_thrown := goodIn_r _ [155, 151, 810, 811, 812, 813, 814, 815, 816, 817, 818, 819, 820, 821, 822, 823, 824, 825, 826, 827, 828, 829, 830, 831, 832, 833, 834, 835, 836, 837, 838, 839] (by decide +kernel) (by decide +kernel)
set_option maxRecDepth 20000 in
theorem gL_law_X6_thrown : GoodIn wsL_law (wsV RL 117 RX6 yX6_thrown wsX6_thrown) := goodIn_app (goodIn_of _ (by decide +kernel)) ggL_law_X6_thrown
set_option maxRecDepth 20000 in
theorem ggL_law_L_need : GoodIn wsL_law wsL_need := goodIn_ca (goodIn_ca (goodIn_r _ [158, 159, 119, 160, 161, 162, 2, 163, 16, 164, 165, 166, 167, 168, 125, 126, 127, 128, 129, 802, 803, 804, 805, 806, 807, 808, 809, 840, 841, 842, 843] (by decide +kernel) (by decide +kernel)) (goodIn_sub (fun _ h => List.mem_append_right _ h) (by decide +kernel))) (goodIn_sub (fun _ h => List.mem_append_left _ (List.mem_append_left _ (List.mem_append_right _ h))) (by decide +kernel))
set_option maxRecDepth 20000 in
theorem gL_law_L_need : GoodIn wsL_law (va_wsS RL 121 yL_need wsL_need) := goodIn_app (goodIn_of _ (by decide +kernel)) ggL_law_L_need
set_option maxRecDepth 20000 in
theorem ggL_law_X6_need : GoodIn wsL_law wsX6_need := goodIn_r _ [172, 93, 173, 174, 175, 5, 176, 143, 144, 145, 146, 177, 178, 179, 147, 148, 149, 150, 151, 810, 811, 812, 813, 814, 815, 816, 817, 818, 819, 820, 821, 822, 823, 824, 825, 826, 827, 828, 829, 830, 831, 832, 833, 834, 835, 836, 837, 838, 839] (by decide +kernel) (by decide +kernel)
set_option maxRecDepth 20000 in
theorem gL_law_X6_need : GoodIn wsL_law (wsV RL 124 RX6 yX6_need wsX6_need) := goodIn_app (goodIn_of _ (by decide +kernel)) ggL_law_X6_need
set_option maxRecDepth 20000 in
theorem ggL_law_L_cut : GoodIn wsL_law wsL_cut := goodIn_ca (goodIn_r _ [182, 159, 183, 184, 185, 2, 186, 16, 24, 164, 165, 166, 167, 168, 187, 188, 189, 23, 190, 191, 192, 193, 194, 61, 62, 195, 196, 197, 198, 56, 57, 199, 200, 201, 202, 63, 203, 204, 205, 15, 206, 43, 41, 207, 208, 209, 210, 64, 211, 212, 213, 214, 65, 215, 216, 217, 218, 60, 219, 220, 221, 222, 67, 223, 224, 225, 226, 66, 227, 228, 229, 230, 46, 231, 802, 803, 804, 805, 806, 807, 808, 809, 840, 841, 842, 843, 846, 847, 848, 849, 850, 851, 852, 853, 854, 855, 856] (by decide +kernel) (by decide +kernel)) (goodIn_sub (fun _ h => List.mem_append_right _ h) (by decide +kernel))
set_option maxRecDepth 20000 in
theorem gL_law_L_cut : GoodIn wsL_law (va_wsS RL 125 yL_cut wsL_cut) := goodIn_app (goodIn_of _ (by decide +kernel)) ggL_law_L_cut
set_option maxRecDepth 20000 in
theorem ggL_law_X6_cut : GoodIn wsL_law wsX6_cut := goodIn_r _ [235, 92, 143, 173, 174, 175, 5, 176, 144, 145, 146, 147, 148, 149, 150, 151, 236, 237, 238, 239, 91, 810, 811, 812, 813, 814, 815, 816, 817, 818, 819, 820, 821, 822, 823, 824, 825, 826, 827, 828, 829, 830, 831, 832, 833, 834, 835, 836, 837, 838, 839] (by decide +kernel) (by decide +kernel)
set_option maxRecDepth 20000 in
theorem gL_law_X6_cut : GoodIn wsL_law (wsV RL 128 RX6 yX6_cut wsX6_cut) := goodIn_app (goodIn_of _ (by decide +kernel)) ggL_law_X6_cut
set_option maxRecDepth 20000 in
theorem ggL_law_X5_lines : GoodIn wsL_law wsX5_lines := goodIn_r _ [243, 16, 802, 803, 804, 805, 806, 807, 808, 809, 840, 841, 842, 843] (by decide +kernel) (by decide +kernel)
set_option maxRecDepth 20000 in
theorem gL_law_X5_lines : GoodIn wsL_law (wsV RL 129 RX5 yX5_lines wsX5_lines) := goodIn_app (goodIn_of _ (by decide +kernel)) ggL_law_X5_lines
set_option maxRecDepth 20000 in
theorem ggL_law_X6_lines : GoodIn wsL_law wsX6_lines := goodIn_r _ [247, 151, 143, 810, 811, 812, 813, 814, 815, 816, 817, 818, 819, 820, 821, 822, 823, 824, 825, 826, 827, 828, 829, 830, 831, 832, 833, 834, 835, 836, 837, 838, 839] (by decide +kernel) (by decide +kernel)
set_option maxRecDepth 20000 in
theorem gL_law_X6_lines : GoodIn wsL_law (wsV RL 132 RX6 yX6_lines wsX6_lines) := goodIn_app (goodIn_of _ (by decide +kernel)) ggL_law_X6_lines
set_option maxRecDepth 20000 in
theorem ggL_law_L_startOf : GoodIn wsL_law wsL_startOf := goodIn_ca (goodIn_r _ [250, 159, 251, 252, 253, 2, 254, 16, 164, 165, 166, 167, 168, 255, 204, 205, 15, 206, 43, 41, 802, 803, 804, 805, 806, 807, 808, 809, 840, 841, 842, 843] (by decide +kernel) (by decide +kernel)) (goodIn_sub (fun _ h => List.mem_append_right _ h) (by decide +kernel))
set_option maxRecDepth 20000 in
theorem gL_law_L_startOf : GoodIn wsL_law (va_wsS RL 133 yL_startOf wsL_startOf) := goodIn_app (goodIn_of _ (by decide +kernel)) ggL_law_L_startOf
set_option maxRecDepth 20000 in
theorem ggL_law_X6_startOf : GoodIn wsL_law wsX6_startOf := goodIn_r _ [259, 92, 173, 174, 175, 5, 176, 143, 144, 145, 146, 147, 148, 149, 150, 151, 236, 237, 238, 239, 91, 810, 811, 812, 813, 814, 815, 816, 817, 818, 819, 820, 821, 822, 823, 824, 825, 826, 827, 828, 829, 830, 831, 832, 833, 834, 835, 836, 837, 838, 839] (by decide +kernel) (by decide +kernel)
set_option maxRecDepth 20000 in
theorem gL_law_X6_startOf : GoodIn wsL_law (wsV RL 135 RX6 yX6_startOf wsX6_startOf) := goodIn_app (goodIn_of _ (by decide +kernel)) ggL_law_X6_startOf
set_option maxRecDepth 20000 in
theorem ggL_law_X5_length : GoodIn wsL_law wsX5_length := goodIn_r _ [263, 16, 227, 228, 229, 15, 230, 46, 231, 204, 205, 206, 43, 41, 802, 803, 804, 805, 806, 807, 808, 809, 840, 841, 842, 843] (by decide +kernel) (by decide +kernel)
set_option maxRecDepth 20000 in
theorem gL_law_X5_length : GoodIn wsL_law (wsV RL 136 RX5 yX5_length wsX5_length) := goodIn_app (goodIn_of _ (by decide +kernel)) ggL_law_X5_length
set_option maxRecDepth 20000 in
theorem ggL_law_X6_length : GoodIn wsL_law wsX6_length := goodIn_r _ [267, 151, 143, 236, 237, 238, 5, 239, 92, 91, 810, 811, 812, 813, 814, 815, 816, 817, 818, 819, 820, 821, 822, 823, 824, 825, 826, 827, 828, 829, 830, 831, 832, 833, 834, 835, 836, 837, 838, 839] (by decide +kernel) (by decide +kernel)
set_option maxRecDepth 20000 in
theorem gL_law_X6_length : GoodIn wsL_law (wsV RL 139 RX6 yX6_length wsX6_length) := goodIn_app (goodIn_of _ (by decide +kernel)) ggL_law_X6_length
set_option maxRecDepth 20000 in
theorem ggL_law_L_setChannel : GoodIn wsL_law wsL_setChannel := goodIn_ca (goodIn_ca (goodIn_r _ [270, 159, 119, 271, 272, 273, 2, 274, 20, 164, 165, 166, 167, 168, 125, 126, 127, 128, 129, 802, 803, 804, 805, 806, 807, 808, 809, 844, 845] (by decide +kernel) (by decide +kernel)) (goodIn_sub (fun _ h => List.mem_append_right _ h) (by decide +kernel))) (goodIn_sub (fun _ h => List.mem_append_left _ (List.mem_append_left _ (List.mem_append_right _ h))) (by decide +kernel))
set_option maxRecDepth 20000 in
theorem gL_law_L_setChannel : GoodIn wsL_law (va_wsS RL 140 yL_setChannel wsL_setChannel) := goodIn_app (goodIn_of _ (by decide +kernel)) ggL_law_L_setChannel
set_option maxRecDepth 20000 in
theorem ggL_law_X6_setChannel : GoodIn wsL_law wsX6_setChannel := goodIn_r _ [278, 94, 95, 279, 280, 5, 281, 144, 145, 146, 177, 178, 179, 147, 148, 149, 150, 151, 810, 811, 812, 813, 814, 815, 816, 817, 818, 819, 820, 821, 822, 823, 824, 825, 826, 827, 828, 829, 830, 831, 832, 833, 834, 835, 836, 837, 838, 839] (by decide +kernel) (by decide +kernel)
set_option maxRecDepth 20000 in
theorem gL_law_X6_setChannel : GoodIn wsL_law (wsV RL 142 RX6 yX6_setChannel wsX6_setChannel) := goodIn_app (goodIn_of _ (by decide +kernel)) ggL_law_X6_setChannel
set_option maxRecDepth 20000 in
theorem ggL_law_L_addCue : GoodIn wsL_law wsL_addCue := goodIn_ca (goodIn_ca (goodIn_ca (goodIn_r _ [284, 159, 119, 120, 285, 286, 287, 2, 288, 16, 24, 164, 165, 166, 167, 168, 125, 126, 127, 128, 129, 130, 131, 132, 133, 134, 289, 290, 291, 23, 292, 60, 61, 293, 294, 295, 296, 56, 57, 58, 187, 188, 189, 190, 191, 192, 193, 194, 62, 195, 196, 197, 198, 199, 200, 201, 202, 63, 203, 204, 205, 15, 206, 43, 41, 207, 208, 209, 210, 64, 211, 212, 213, 214, 65, 215, 216, 217, 218, 219, 220, 221, 222, 67, 223, 224, 225, 226, 66, 802, 803, 804, 805, 806, 807, 808, 809, 840, 841, 842, 843, 846, 847, 848, 849, 850, 851, 852, 853, 854, 855, 856] (by decide +kernel) (by decide +kernel)) (goodIn_sub (fun _ h => List.mem_append_right _ h) (by decide +kernel))) (goodIn_sub (fun _ h => List.mem_append_left _ (List.mem_append_left _ (List.mem_append_right _ h))) (by decide +kernel))) (goodIn_sub (fun _ h => List.mem_append_left _ (List.mem_append_right _ h)) (by decide +kernel))
set_option maxRecDepth 20000 in
theorem gL_law_L_addCue : GoodIn wsL_law (va_wsS RL 143 yL_addCue wsL_addCue) := goodIn_app (goodIn_of _ (by decide +kernel)) ggL_law_L_addCue
set_option maxRecDepth 20000 in
theorem ggL_law_X6_addCue : GoodIn wsL_law wsX6_addCue := goodIn_r _ [300, 301, 96, 97, 98, 99, 173, 174, 175, 5, 176, 143, 144, 145, 146, 302, 303, 304, 147, 148, 149, 150, 151, 810, 811, 812, 813, 814, 815, 816, 817, 818, 819, 820, 821, 822, 823, 824, 825, 826, 827, 828, 829, 830, 831, 832, 833, 834, 835, 836, 837, 838, 839] (by decide +kernel) (by decide +kernel)
set_option maxRecDepth 20000 in
theorem gL_law_X6_addCue : GoodIn wsL_law (wsV RL 145 RX6 yX6_addCue wsX6_addCue) := goodIn_app (goodIn_of _ (by decide +kernel)) ggL_law_X6_addCue
set_option maxRecDepth 20000 in
theorem ggL_law_L_move : GoodIn wsL_law wsL_move := goodIn_ca (goodIn_ca (goodIn_r _ [307, 159, 119, 308, 309, 310, 2, 311, 24, 16, 164, 165, 166, 167, 168, 125, 126, 127, 128, 129, 293, 294, 295, 23, 296, 56, 57, 58, 187, 188, 189, 190, 191, 192, 193, 194, 61, 62, 195, 196, 197, 198, 199, 200, 201, 202, 63, 203, 204, 205, 15, 206, 43, 41, 207, 208, 209, 210, 64, 211, 212, 213, 214, 65, 215, 216, 217, 218, 60, 219, 220, 221, 222, 67, 223, 224, 225, 226, 66, 802, 803, 804, 805, 806, 807, 808, 809, 846, 847, 848, 849, 850, 851, 852, 853, 854, 855, 856, 840, 841, 842, 843] (by decide +kernel) (by decide +kernel)) (goodIn_sub (fun _ h => List.mem_append_right _ h) (by decide +kernel))) (goodIn_sub (fun _ h => List.mem_append_left _ (List.mem_append_left _ (List.mem_append_right _ h))) (by decide +kernel))
set_option maxRecDepth 20000 in
theorem gL_law_L_move : GoodIn wsL_law (va_wsS RL 146 yL_move wsL_move) := goodIn_app (goodIn_of _ (by decide +kernel)) ggL_law_L_move
set_option maxRecDepth 20000 in
theorem ggL_law_X6_move : GoodIn wsL_law wsX6_move := goodIn_r _ [315, 96, 97, 98, 316, 317, 318, 5, 319, 301, 144, 145, 146, 173, 174, 175, 176, 143, 302, 303, 304, 147, 148, 149, 150, 151, 810, 811, 812, 813, 814, 815, 816, 817, 818, 819, 820, 821, 822, 823, 824, 825, 826, 827, 828, 829, 830, 831, 832, 833, 834, 835, 836, 837, 838, 839] (by decide +kernel) (by decide +kernel)
set_option maxRecDepth 20000 in
theorem gL_law_X6_move : GoodIn wsL_law (wsV RL 149 RX6 yX6_move wsX6_move) := goodIn_app (goodIn_of _ (by decide +kernel)) ggL_law_X6_move
set_option maxRecDepth 20000 in
theorem ggL_law_L_change : GoodIn wsL_law wsL_change := goodIn_ca (goodIn_ca (goodIn_r _ [322, 159, 119, 323, 324, 325, 2, 326, 24, 16, 164, 165, 166, 167, 168, 125, 126, 127, 128, 129, 187, 188, 189, 23, 190, 191, 192, 193, 194, 61, 62, 195, 196, 197, 198, 56, 57, 199, 200, 201, 202, 63, 203, 204, 205, 15, 206, 43, 41, 207, 208, 209, 210, 64, 211, 212, 213, 214, 65, 215, 216, 217, 218, 60, 219, 220, 221, 222, 67, 223, 224, 225, 226, 66, 802, 803, 804, 805, 806, 807, 808, 809, 846, 847, 848, 849, 850, 851, 852, 853, 854, 855, 856, 840, 841, 842, 843] (by decide +kernel) (by decide +kernel)) (goodIn_sub (fun _ h => List.mem_append_right _ h) (by decide +kernel))) (goodIn_sub (fun _ h => List.mem_append_left _ (List.mem_append_left _ (List.mem_append_right _ h))) (by decide +kernel))
set_option maxRecDepth 20000 in
theorem gL_law_L_change : GoodIn wsL_law (va_wsS RL 150 yL_change wsL_change) := goodIn_app (goodIn_of _ (by decide +kernel)) ggL_law_L_change
set_option maxRecDepth 20000 in
theorem ggL_law_X6_change : GoodIn wsL_law wsX6_change := goodIn_r _ [330, 99, 316, 317, 318, 5, 319, 301, 144, 145, 146, 279, 280, 281, 147, 148, 149, 150, 151, 810, 811, 812, 813, 814, 815, 816, 817, 818, 819, 820, 821, 822, 823, 824, 825, 826, 827, 828, 829, 830, 831, 832, 833, 834, 835, 836, 837, 838, 839] (by decide +kernel) (by decide +kernel)
set_option maxRecDepth 20000 in
theorem gL_law_X6_change : GoodIn wsL_law (wsV RL 152 RX6 yX6_change wsX6_change) := goodIn_app (goodIn_of _ (by decide +kernel)) ggL_law_X6_change
set_option maxRecDepth 20000 in
theorem ggL_law_X5_cues : GoodIn wsL_law wsX5_cues := goodIn_r _ [334, 24, 802, 803, 804, 805, 806, 807, 808, 809, 846, 847, 848, 849, 850, 851, 852, 853, 854, 855, 856] (by decide +kernel) (by decide +kernel)
set_option maxRecDepth 20000 in
theorem gL_law_X5_cues : GoodIn wsL_law (wsV RL 153 RX5 yX5_cues wsX5_cues) := goodIn_app (goodIn_of _ (by decide +kernel)) ggL_law_X5_cues
set_option maxRecDepth 20000 in
theorem ggL_law_X6_cues : GoodIn wsL_law wsX6_cues := goodIn_r _ [338, 151, 301, 810, 811, 812, 813, 814, 815, 816, 817, 818, 819, 820, 821, 822, 823, 824, 825, 826, 827, 828, 829, 830, 831, 832, 833, 834, 835, 836, 837, 838, 839] (by decide +kernel) (by decide +kernel)
set_option maxRecDepth 20000 in
theorem gL_law_X6_cues : GoodIn wsL_law (wsV RL 156 RX6 yX6_cues wsX6_cues) := goodIn_app (goodIn_of _ (by decide +kernel)) ggL_law_X6_cues
set_option maxRecDepth 20000 in
theorem ggL_law_L_cueAt : GoodIn wsL_law wsL_cueAt := goodIn_ca (goodIn_r _ [341, 159, 342, 343, 344, 2, 345, 24, 164, 165, 166, 167, 168, 802, 803, 804, 805, 806, 807, 808, 809, 846, 847, 848, 849, 850, 851, 852, 853, 854, 855, 856] (by decide +kernel) (by decide +kernel)) (goodIn_sub (fun _ h => List.mem_append_right _ h) (by decide +kernel))
set_option maxRecDepth 20000 in
theorem gL_law_L_cueAt : GoodIn wsL_law (va_wsS RL 157 yL_cueAt wsL_cueAt) := goodIn_app (goodIn_of _ (by decide +kernel)) ggL_law_L_cueAt
set_option maxRecDepth 20000 in
theorem ggL_law_X6_cueAt : GoodIn wsL_law wsX6_cueAt := goodIn_r _ [349, 301, 109, 144, 145, 5, 146, 147, 148, 149, 150, 151, 350, 351, 352, 353, 354, 355, 356, 357, 96, 97, 810, 811, 812, 813, 814, 815, 816, 817, 818, 819, 820, 821, 822, 823, 824, 825, 826, 827, 828, 829, 830, 831, 832, 833, 834, 835, 836, 837, 838, 839] (by decide +kernel) (by decide +kernel)
set_option maxRecDepth 20000 in
theorem gL_law_X6_cueAt : GoodIn wsL_law (wsV RL 159 RX6 yX6_cueAt wsX6_cueAt) := goodIn_app (goodIn_of _ (by decide +kernel)) ggL_law_X6_cueAt
set_option maxRecDepth 20000 in
theorem ggL_law_L_timeOf : GoodIn wsL_law wsL_timeOf := goodIn_ca (goodIn_r _ [360, 159, 361, 362, 363, 2, 364, 24, 164, 165, 166, 167, 168, 802, 803, 804, 805, 806, 807, 808, 809, 846, 847, 848, 849, 850, 851, 852, 853, 854, 855, 856] (by decide +kernel) (by decide +kernel)) (goodIn_sub (fun _ h => List.mem_append_right _ h) (by decide +kernel))
set_option maxRecDepth 20000 in
theorem gL_law_L_timeOf : GoodIn wsL_law (va_wsS RL 160 yL_timeOf wsL_timeOf) := goodIn_app (goodIn_of _ (by decide +kernel)) ggL_law_L_timeOf
set_option maxRecDepth 20000 in
theorem ggL_law_X6_timeOf : GoodIn wsL_law wsX6_timeOf := goodIn_r _ [368, 96, 97, 316, 317, 318, 5, 319, 301, 144, 145, 146, 147, 148, 149, 150, 151, 369, 370, 371, 372, 92, 236, 237, 238, 239, 91, 810, 811, 812, 813, 814, 815, 816, 817, 818, 819, 820, 821, 822, 823, 824, 825, 826, 827, 828, 829, 830, 831, 832, 833, 834, 835, 836, 837, 838, 839] (by decide +kernel) (by decide +kernel)
set_option maxRecDepth 20000 in
theorem gL_law_X6_timeOf : GoodIn wsL_law (wsV RL 162 RX6 yX6_timeOf wsX6_timeOf) := goodIn_app (goodIn_of _ (by decide +kernel)) ggL_law_X6_timeOf
set_option maxRecDepth 20000 in
theorem ggL_law_L_foldedInto : GoodIn wsL_law wsL_foldedInto := goodIn_ca (goodIn_r _ [375, 159, 376, 377, 378, 2, 379, 24, 164, 165, 166, 167, 168, 802, 803, 804, 805, 806, 807, 808, 809, 846, 847, 848, 849, 850, 851, 852, 853, 854, 855, 856] (by decide +kernel) (by decide +kernel)) (goodIn_sub (fun _ h => List.mem_append_right _ h) (by decide +kernel))
set_option maxRecDepth 20000 in
theorem gL_law_L_foldedInto : GoodIn wsL_law (va_wsS RL 163 yL_foldedInto wsL_foldedInto) := goodIn_app (goodIn_of _ (by decide +kernel)) ggL_law_L_foldedInto
set_option maxRecDepth 20000 in
theorem ggL_law_X6_foldedInto : GoodIn wsL_law wsX6_foldedInto := goodIn_r _ [383, 301, 109, 316, 317, 318, 5, 319, 144, 145, 146, 147, 148, 149, 150, 151, 350, 351, 352, 353, 354, 355, 356, 357, 96, 97, 384, 385, 386, 387, 369, 370, 371, 372, 92, 810, 811, 812, 813, 814, 815, 816, 817, 818, 819, 820, 821, 822, 823, 824, 825, 826, 827, 828, 829, 830, 831, 832, 833, 834, 835, 836, 837, 838, 839] (by decide +kernel) (by decide +kernel)
set_option maxRecDepth 20000 in
theorem gL_law_X6_foldedInto : GoodIn wsL_law (wsV RL 165 RX6 yX6_foldedInto wsX6_foldedInto) := goodIn_app (goodIn_of _ (by decide +kernel)) ggL_law_X6_foldedInto
set_option maxRecDepth 20000 in
theorem ggL_law_L_changes : GoodIn wsL_law wsL_changes := goodIn_ca (goodIn_r _ [390, 159, 391, 392, 393, 2, 394, 24, 164, 165, 166, 167, 168, 802, 803, 804, 805, 806, 807, 808, 809, 846, 847, 848, 849, 850, 851, 852, 853, 854, 855, 856] (by decide +kernel) (by decide +kernel)) (goodIn_sub (fun _ h => List.mem_append_right _ h) (by decide +kernel))
set_option maxRecDepth 20000 in
theorem gL_law_L_changes : GoodIn wsL_law (va_wsS RL 166 yL_changes wsL_changes) := goodIn_app (goodIn_of _ (by decide +kernel)) ggL_law_L_changes
set_option maxRecDepth 20000 in
theorem ggL_law_X6_changes : GoodIn wsL_law wsX6_changes := goodIn_r _ [398, 316, 317, 318, 5, 319, 301, 144, 145, 146, 279, 280, 281, 147, 148, 149, 150, 151, 350, 351, 352, 353, 109, 354, 355, 356, 357, 96, 97, 369, 370, 371, 372, 92, 384, 385, 386, 387, 399, 400, 401, 402, 99, 810, 811, 812, 813, 814, 815, 816, 817, 818, 819, 820, 821, 822, 823, 824, 825, 826, 827, 828, 829, 830, 831, 832, 833, 834, 835, 836, 837, 838, 839] (by decide +kernel) (by decide +kernel)
set_option maxRecDepth 20000 in
theorem gL_law_X6_changes : GoodIn wsL_law (wsV RL 169 RX6 yX6_changes wsX6_changes) := goodIn_app (goodIn_of _ (by decide +kernel)) ggL_law_X6_changes
set_option maxRecDepth 20000 in
theorem ggL_law_L_levelAt : GoodIn wsL_law wsL_levelAt := goodIn_ca (goodIn_ca (goodIn_r _ [405, 159, 119, 406, 407, 408, 2, 409, 24, 164, 165, 166, 167, 168, 125, 126, 127, 128, 129, 410, 411, 412, 23, 413, 67, 63, 66, 65, 58, 414, 415, 416, 802, 803, 804, 805, 806, 807, 808, 809, 846, 847, 848, 849, 850, 851, 852, 853, 854, 855, 856] (by decide +kernel) (by decide +kernel)) (goodIn_sub (fun _ h => List.mem_append_right _ h) (by decide +kernel))) (goodIn_sub (fun _ h => List.mem_append_left _ (List.mem_append_left _ (List.mem_append_right _ h))) (by decide +kernel))
set_option maxRecDepth 20000 in
theorem gL_law_L_levelAt : GoodIn wsL_law (va_wsS RL 170 yL_levelAt wsL_levelAt) := goodIn_app (goodIn_of _ (by decide +kernel)) ggL_law_L_levelAt
set_option maxRecDepth 20000 in
theorem ggL_law_X6_levelAt : GoodIn wsL_law wsX6_levelAt := goodIn_r _ [420, 421, 422, 423, 5, 424, 279, 280, 281, 144, 145, 146, 425, 426, 427, 147, 148, 149, 150, 151, 428, 429, 430, 431, 143, 111, 92, 91, 432, 301, 109, 110, 350, 351, 352, 353, 354, 355, 356, 357, 96, 97, 369, 370, 371, 372, 433, 434, 435, 436, 437, 438, 439, 440, 98, 399, 400, 401, 402, 99, 441, 442, 443, 810, 811, 812, 813, 814, 815, 816, 817, 818, 819, 820, 821, 822, 823, 824, 825, 826, 827, 828, 829, 830, 831, 832, 833, 834, 835, 836, 837, 838, 839] (by decide +kernel) (by decide +kernel)
set_option maxRecDepth 20000 in
theorem gL_law_X6_levelAt : GoodIn wsL_law (wsV RL 172 RX6 yX6_levelAt wsX6_levelAt) := goodIn_app (goodIn_of _ (by decide +kernel)) ggL_law_X6_levelAt
set_option maxRecDepth 20000 in
theorem ggL_law_L_levelBySeconds : GoodIn wsL_law wsL_levelBySeconds := goodIn_ca (goodIn_ca (goodIn_r _ [446, 159, 119, 447, 448, 449, 2, 450, 24, 164, 165, 166, 167, 168, 125, 126, 127, 128, 129, 451, 452, 453, 23, 454, 67, 63, 66, 65, 58, 414, 415, 416, 802, 803, 804, 805, 806, 807, 808, 809, 846, 847, 848, 849, 850, 851, 852, 853, 854, 855, 856] (by decide +kernel) (by decide +kernel)) (goodIn_sub (fun _ h => List.mem_append_right _ h) (by decide +kernel))) (goodIn_sub (fun _ h => List.mem_append_left _ (List.mem_append_left _ (List.mem_append_right _ h))) (by decide +kernel))
set_option maxRecDepth 20000 in
theorem gL_law_L_levelBySeconds : GoodIn wsL_law (va_wsS RL 173 yL_levelBySeconds wsL_levelBySeconds) := goodIn_app (goodIn_of _ (by decide +kernel)) ggL_law_L_levelBySeconds
set_option maxRecDepth 20000 in
theorem ggL_law_X6_levelBySeconds : GoodIn wsL_law wsX6_levelBySeconds := goodIn_r _ [458, 421, 422, 423, 5, 424, 279, 280, 281, 144, 145, 146, 425, 426, 427, 147, 148, 149, 150, 151, 428, 429, 430, 431, 143, 111, 92, 91, 432, 301, 109, 110, 350, 351, 352, 353, 354, 355, 356, 357, 96, 97, 369, 370, 371, 372, 433, 434, 435, 436, 437, 438, 439, 440, 98, 399, 400, 401, 402, 99, 441, 442, 443, 810, 811, 812, 813, 814, 815, 816, 817, 818, 819, 820, 821, 822, 823, 824, 825, 826, 827, 828, 829, 830, 831, 832, 833, 834, 835, 836, 837, 838, 839] (by decide +kernel) (by decide +kernel)
set_option maxRecDepth 20000 in
theorem gL_law_X6_levelBySeconds : GoodIn wsL_law (wsV RL 175 RX6 yX6_levelBySeconds wsX6_levelBySeconds) := goodIn_app (goodIn_of _ (by decide +kernel)) ggL_law_X6_levelBySeconds
set_option maxRecDepth 20000 in
theorem ggL_law_L_addLamp : GoodIn wsL_law wsL_addLamp := goodIn_ca (goodIn_ca (goodIn_ca (goodIn_r _ [461, 159, 119, 120, 462, 463, 464, 2, 465, 28, 164, 165, 166, 167, 168, 125, 126, 127, 128, 129, 130, 131, 132, 133, 134, 466, 467, 468, 27, 469, 79, 71, 72, 73, 74, 470, 471, 472, 473, 474, 475, 476, 477, 75, 76, 802, 803, 804, 805, 806, 807, 808, 809, 857, 858, 859, 860, 861, 862, 863, 864, 865] (by decide +kernel) (by decide +kernel)) (goodIn_sub (fun _ h => List.mem_append_right _ h) (by decide +kernel))) (goodIn_sub (fun _ h => List.mem_append_left _ (List.mem_append_left _ (List.mem_append_right _ h))) (by decide +kernel))) (goodIn_sub (fun _ h => List.mem_append_left _ (List.mem_append_right _ h)) (by decide +kernel))
set_option maxRecDepth 20000 in
theorem gL_law_L_addLamp : GoodIn wsL_law (va_wsS RL 176 yL_addLamp wsL_addLamp) := goodIn_app (goodIn_of _ (by decide +kernel)) ggL_law_L_addLamp
set_option maxRecDepth 20000 in
theorem ggL_law_X6_addLamp : GoodIn wsL_law wsX6_addLamp := goodIn_r _ [481, 482, 100, 101, 102, 103, 104, 105, 483, 484, 5, 485, 144, 145, 146, 177, 178, 179, 147, 148, 149, 150, 151, 810, 811, 812, 813, 814, 815, 816, 817, 818, 819, 820, 821, 822, 823, 824, 825, 826, 827, 828, 829, 830, 831, 832, 833, 834, 835, 836, 837, 838, 839] (by decide +kernel) (by decide +kernel)
set_option maxRecDepth 20000 in
theorem gL_law_X6_addLamp : GoodIn wsL_law (wsV RL 178 RX6 yX6_addLamp wsX6_addLamp) := goodIn_app (goodIn_of _ (by decide +kernel)) ggL_law_X6_addLamp
set_option maxRecDepth 20000 in
theorem ggL_law_L_borrow : GoodIn wsL_law wsL_borrow := goodIn_ca (goodIn_ca (goodIn_r _ [488, 159, 120, 489, 490, 491, 2, 492, 28, 164, 165, 166, 167, 168, 493, 494, 495, 27, 496, 71, 497, 498, 499, 500, 75, 501, 502, 503, 133, 134, 504, 475, 476, 477, 76, 802, 803, 804, 805, 806, 807, 808, 809, 857, 858, 859, 860, 861, 862, 863, 864, 865] (by decide +kernel) (by decide +kernel)) (goodIn_sub (fun _ h => List.mem_append_right _ h) (by decide +kernel))) (goodIn_sub (fun _ h => List.mem_append_left _ (List.mem_append_right _ h)) (by decide +kernel))
set_option maxRecDepth 20000 in
theorem gL_law_L_borrow : GoodIn wsL_law (va_wsS RL 179 yL_borrow wsL_borrow) := goodIn_app (goodIn_of _ (by decide +kernel)) ggL_law_L_borrow
set_option maxRecDepth 20000 in
theorem ggL_law_X6_borrow : GoodIn wsL_law wsX6_borrow := goodIn_r _ [508, 100, 102, 103, 509, 510, 511, 5, 512, 482, 144, 145, 146, 483, 484, 485, 177, 178, 179, 513, 514, 515, 516, 147, 148, 149, 150, 151, 810, 811, 812, 813, 814, 815, 816, 817, 818, 819, 820, 821, 822, 823, 824, 825, 826, 827, 828, 829, 830, 831, 832, 833, 834, 835, 836, 837, 838, 839] (by decide +kernel) (by decide +kernel)
set_option maxRecDepth 20000 in
theorem gL_law_X6_borrow : GoodIn wsL_law (wsV RL 181 RX6 yX6_borrow wsX6_borrow) := goodIn_app (goodIn_of _ (by decide +kernel)) ggL_law_X6_borrow
set_option maxRecDepth 20000 in
theorem ggL_law_L_bringBack : GoodIn wsL_law wsL_bringBack := goodIn_ca (goodIn_ca (goodIn_r _ [519, 159, 120, 520, 521, 522, 2, 523, 28, 164, 165, 166, 167, 168, 524, 498, 499, 27, 500, 75, 71, 501, 502, 503, 133, 134, 525, 471, 472, 473, 72, 474, 475, 476, 477, 76, 802, 803, 804, 805, 806, 807, 808, 809, 857, 858, 859, 860, 861, 862, 863, 864, 865] (by decide +kernel) (by decide +kernel)) (goodIn_sub (fun _ h => List.mem_append_right _ h) (by decide +kernel))) (goodIn_sub (fun _ h => List.mem_append_left _ (List.mem_append_right _ h)) (by decide +kernel))
set_option maxRecDepth 20000 in
theorem gL_law_L_bringBack : GoodIn wsL_law (va_wsS RL 182 yL_bringBack wsL_bringBack) := goodIn_app (goodIn_of _ (by decide +kernel)) ggL_law_L_bringBack
set_option maxRecDepth 20000 in
theorem ggL_law_X6_bringBack : GoodIn wsL_law wsX6_bringBack := goodIn_r _ [529, 102, 100, 103, 101, 509, 510, 511, 5, 512, 482, 144, 145, 146, 513, 514, 515, 516, 147, 148, 149, 150, 151, 810, 811, 812, 813, 814, 815, 816, 817, 818, 819, 820, 821, 822, 823, 824, 825, 826, 827, 828, 829, 830, 831, 832, 833, 834, 835, 836, 837, 838, 839] (by decide +kernel) (by decide +kernel)
set_option maxRecDepth 20000 in
theorem gL_law_X6_bringBack : GoodIn wsL_law (wsV RL 184 RX6 yX6_bringBack wsX6_bringBack) := goodIn_app (goodIn_of _ (by decide +kernel)) ggL_law_X6_bringBack
set_option maxRecDepth 20000 in
theorem ggL_law_L_replace : GoodIn wsL_law wsL_replace := goodIn_ca (goodIn_r _ [532, 159, 533, 534, 535, 2, 536, 28, 164, 165, 166, 167, 168, 802, 803, 804, 805, 806, 807, 808, 809, 857, 858, 859, 860, 861, 862, 863, 864, 865] (by decide +kernel) (by decide +kernel)) (goodIn_sub (fun _ h => List.mem_append_right _ h) (by decide +kernel))
set_option maxRecDepth 20000 in
theorem gL_law_L_replace : GoodIn wsL_law (va_wsS RL 185 yL_replace wsL_replace) := goodIn_app (goodIn_of _ (by decide +kernel)) ggL_law_L_replace
set_option maxRecDepth 20000 in
theorem ggL_law_X6_replace : GoodIn wsL_law wsX6_replace := goodIn_r _ [540, 106, 509, 510, 511, 5, 512, 482, 144, 145, 146, 147, 148, 149, 150, 151, 810, 811, 812, 813, 814, 815, 816, 817, 818, 819, 820, 821, 822, 823, 824, 825, 826, 827, 828, 829, 830, 831, 832, 833, 834, 835, 836, 837, 838, 839] (by decide +kernel) (by decide +kernel)
set_option maxRecDepth 20000 in
theorem gL_law_X6_replace : GoodIn wsL_law (wsV RL 187 RX6 yX6_replace wsX6_replace) := goodIn_app (goodIn_of _ (by decide +kernel)) ggL_law_X6_replace
set_option maxRecDepth 20000 in
theorem ggL_law_X5_lamps : GoodIn wsL_law wsX5_lamps := goodIn_r _ [544, 28, 802, 803, 804, 805, 806, 807, 808, 809, 857, 858, 859, 860, 861, 862, 863, 864, 865] (by decide +kernel) (by decide +kernel)
set_option maxRecDepth 20000 in
theorem gL_law_X5_lamps : GoodIn wsL_law (wsV RL 188 RX5 yX5_lamps wsX5_lamps) := goodIn_app (goodIn_of _ (by decide +kernel)) ggL_law_X5_lamps
set_option maxRecDepth 20000 in
theorem ggL_law_X6_lamps : GoodIn wsL_law wsX6_lamps := goodIn_r _ [548, 151, 482, 810, 811, 812, 813, 814, 815, 816, 817, 818, 819, 820, 821, 822, 823, 824, 825, 826, 827, 828, 829, 830, 831, 832, 833, 834, 835, 836, 837, 838, 839] (by decide +kernel) (by decide +kernel)
set_option maxRecDepth 20000 in
theorem gL_law_X6_lamps : GoodIn wsL_law (wsV RL 191 RX6 yX6_lamps wsX6_lamps) := goodIn_app (goodIn_of _ (by decide +kernel)) ggL_law_X6_lamps
set_option maxRecDepth 20000 in
theorem ggL_law_L_whereIs : GoodIn wsL_law wsL_whereIs := goodIn_ca (goodIn_r _ [551, 159, 552, 553, 554, 2, 555, 28, 164, 165, 166, 167, 168, 802, 803, 804, 805, 806, 807, 808, 809, 857, 858, 859, 860, 861, 862, 863, 864, 865] (by decide +kernel) (by decide +kernel)) (goodIn_sub (fun _ h => List.mem_append_right _ h) (by decide +kernel))
set_option maxRecDepth 20000 in
theorem gL_law_L_whereIs : GoodIn wsL_law (va_wsS RL 192 yL_whereIs wsL_whereIs) := goodIn_app (goodIn_of _ (by decide +kernel)) ggL_law_L_whereIs
set_option maxRecDepth 20000 in
theorem ggL_law_X6_whereIs : GoodIn wsL_law wsX6_whereIs := goodIn_r _ [559, 102, 509, 510, 511, 5, 512, 482, 144, 145, 146, 147, 148, 149, 150, 151, 810, 811, 812, 813, 814, 815, 816, 817, 818, 819, 820, 821, 822, 823, 824, 825, 826, 827, 828, 829, 830, 831, 832, 833, 834, 835, 836, 837, 838, 839] (by decide +kernel) (by decide +kernel)
set_option maxRecDepth 20000 in
theorem gL_law_X6_whereIs : GoodIn wsL_law (wsV RL 194 RX6 yX6_whereIs wsX6_whereIs) := goodIn_app (goodIn_of _ (by decide +kernel)) ggL_law_X6_whereIs
set_option maxRecDepth 20000 in
theorem ggL_law_L_wear : GoodIn wsL_law wsL_wear := goodIn_ca (goodIn_r _ [562, 159, 563, 564, 565, 2, 566, 28, 164, 165, 166, 167, 168, 802, 803, 804, 805, 806, 807, 808, 809, 857, 858, 859, 860, 861, 862, 863, 864, 865] (by decide +kernel) (by decide +kernel)) (goodIn_sub (fun _ h => List.mem_append_right _ h) (by decide +kernel))
set_option maxRecDepth 20000 in
theorem gL_law_L_wear : GoodIn wsL_law (va_wsS RL 195 yL_wear wsL_wear) := goodIn_app (goodIn_of _ (by decide +kernel)) ggL_law_L_wear
set_option maxRecDepth 20000 in
theorem ggL_law_X6_wear : GoodIn wsL_law wsX6_wear := goodIn_r _ [570, 106, 509, 510, 511, 5, 512, 482, 144, 145, 146, 147, 148, 149, 150, 151, 810, 811, 812, 813, 814, 815, 816, 817, 818, 819, 820, 821, 822, 823, 824, 825, 826, 827, 828, 829, 830, 831, 832, 833, 834, 835, 836, 837, 838, 839] (by decide +kernel) (by decide +kernel)
set_option maxRecDepth 20000 in
theorem gL_law_X6_wear : GoodIn wsL_law (wsV RL 197 RX6 yX6_wear wsX6_wear) := goodIn_app (goodIn_of _ (by decide +kernel)) ggL_law_X6_wear
set_option maxRecDepth 20000 in
theorem ggL_law_L_laidOn : GoodIn wsL_law wsL_laidOn := goodIn_ca (goodIn_r _ [573, 159, 574, 575, 576, 2, 577, 28, 20, 164, 165, 166, 167, 168, 578, 579, 580, 27, 581, 79, 73, 582, 583, 584, 585, 75, 76, 802, 803, 804, 805, 806, 807, 808, 809, 844, 845, 857, 858, 859, 860, 861, 862, 863, 864, 865] (by decide +kernel) (by decide +kernel)) (goodIn_sub (fun _ h => List.mem_append_right _ h) (by decide +kernel))
set_option maxRecDepth 20000 in
theorem gL_law_L_laidOn : GoodIn wsL_law (va_wsS RL 198 yL_laidOn wsL_laidOn) := goodIn_app (goodIn_of _ (by decide +kernel)) ggL_law_L_laidOn
set_option maxRecDepth 20000 in
theorem ggL_law_X6_laidOn : GoodIn wsL_law wsX6_laidOn := goodIn_r _ [589, 483, 484, 5, 485, 144, 145, 146, 279, 280, 281, 147, 148, 149, 150, 151, 590, 591, 592, 593, 482, 102, 103, 94, 104, 95, 810, 811, 812, 813, 814, 815, 816, 817, 818, 819, 820, 821, 822, 823, 824, 825, 826, 827, 828, 829, 830, 831, 832, 833, 834, 835, 836, 837, 838, 839] (by decide +kernel) (by decide +kernel)
set_option maxRecDepth 20000 in
theorem gL_law_X6_laidOn : GoodIn wsL_law (wsV RL 200 RX6 yX6_laidOn wsX6_laidOn) := goodIn_app (goodIn_of _ (by decide +kernel)) ggL_law_X6_laidOn
set_option maxRecDepth 20000 in
theorem ggL_law_L_lampLevel : GoodIn wsL_law wsL_lampLevel := goodIn_ca (goodIn_ca (goodIn_r _ [596, 159, 119, 597, 598, 599, 2, 600, 28, 20, 35, 24, 34, 164, 165, 166, 167, 168, 125, 126, 127, 128, 129, 601, 602, 603, 27, 604, 605, 579, 580, 581, 79, 73, 582, 583, 584, 585, 75, 76, 606, 607, 608, 23, 609, 610, 411, 412, 413, 67, 63, 66, 65, 58, 414, 415, 416, 611, 612, 613, 614, 77, 802, 803, 804, 805, 806, 807, 808, 809, 857, 858, 859, 860, 861, 862, 863, 864, 865, 844, 845, 846, 847, 848, 849, 850, 851, 852, 853, 854, 855, 856] (by decide +kernel) (by decide +kernel)) (goodIn_sub (fun _ h => List.mem_append_right _ h) (by decide +kernel))) (goodIn_sub (fun _ h => List.mem_append_left _ (List.mem_append_left _ (List.mem_append_right _ h))) (by decide +kernel))
set_option maxRecDepth 20000 in
theorem gL_law_L_lampLevel : GoodIn wsL_law (va_wsS RL 201 yL_lampLevel wsL_lampLevel) := goodIn_app (goodIn_of _ (by decide +kernel)) ggL_law_L_lampLevel
set_option maxRecDepth 20000 in
theorem ggL_law_X6_lampLevel : GoodIn wsL_law wsX6_lampLevel := goodIn_r _ [618, 102, 509, 510, 511, 5, 512, 482, 144, 145, 146, 425, 426, 427, 147, 148, 149, 150, 151, 428, 429, 430, 431, 143, 111, 92, 91, 432, 301, 109, 110, 350, 351, 352, 353, 354, 355, 356, 357, 96, 97, 369, 370, 371, 372, 433, 434, 435, 436, 619, 620, 621, 622, 112, 590, 591, 592, 593, 103, 94, 104, 95, 623, 624, 625, 626, 113, 437, 438, 439, 440, 98, 399, 400, 401, 402, 99, 441, 442, 443, 627, 628, 629, 630, 106, 810, 811, 812, 813, 814, 815, 816, 817, 818, 819, 820, 821, 822, 823, 824, 825, 826, 827, 828, 829, 830, 831, 832, 833, 834, 835, 836, 837, 838, 839] (by decide +kernel) (by decide +kernel)
set_option maxRecDepth 20000 in
theorem gL_law_X6_lampLevel : GoodIn wsL_law (wsV RL 203 RX6 yX6_lampLevel wsX6_lampLevel) := goodIn_app (goodIn_of _ (by decide +kernel)) ggL_law_X6_lampLevel
set_option maxRecDepth 20000 in
theorem ggL_law_L_light : GoodIn wsL_law wsL_light := goodIn_ca (goodIn_ca (goodIn_r _ [633, 159, 119, 634, 635, 636, 2, 637, 28, 20, 35, 24, 34, 164, 165, 166, 167, 168, 125, 126, 127, 128, 129, 601, 602, 603, 27, 604, 605, 579, 580, 581, 79, 73, 582, 583, 584, 585, 75, 76, 606, 607, 608, 23, 609, 610, 411, 412, 413, 67, 63, 66, 65, 58, 414, 415, 416, 638, 639, 640, 641, 74, 642, 612, 613, 614, 77, 802, 803, 804, 805, 806, 807, 808, 809, 844, 845, 857, 858, 859, 860, 861, 862, 863, 864, 865, 846, 847, 848, 849, 850, 851, 852, 853, 854, 855, 856] (by decide +kernel) (by decide +kernel)) (goodIn_sub (fun _ h => List.mem_append_right _ h) (by decide +kernel))) (goodIn_sub (fun _ h => List.mem_append_left _ (List.mem_append_left _ (List.mem_append_right _ h))) (by decide +kernel))
set_option maxRecDepth 20000 in
theorem gL_law_L_light : GoodIn wsL_law (va_wsS RL 204 yL_light wsL_light) := goodIn_app (goodIn_of _ (by decide +kernel)) ggL_law_L_light
set_option maxRecDepth 20000 in
theorem ggL_law_X6_light : GoodIn wsL_law wsX6_light := goodIn_r _ [646, 483, 484, 5, 485, 144, 145, 146, 177, 178, 179, 425, 426, 427, 147, 148, 149, 150, 151, 428, 429, 430, 431, 143, 111, 92, 91, 432, 301, 109, 110, 350, 351, 352, 353, 354, 355, 356, 357, 96, 97, 369, 370, 371, 372, 433, 434, 435, 436, 619, 620, 621, 622, 112, 590, 591, 592, 593, 482, 102, 103, 94, 104, 95, 623, 624, 625, 626, 113, 437, 438, 439, 440, 98, 399, 400, 401, 402, 99, 441, 442, 443, 647, 648, 649, 650, 105, 627, 628, 629, 630, 106, 810, 811, 812, 813, 814, 815, 816, 817, 818, 819, 820, 821, 822, 823, 824, 825, 826, 827, 828, 829, 830, 831, 832, 833, 834, 835, 836, 837, 838, 839] (by decide +kernel) (by decide +kernel)
set_option maxRecDepth 20000 in
theorem gL_law_X6_light : GoodIn wsL_law (wsV RL 206 RX6 yX6_light wsX6_light) := goodIn_app (goodIn_of _ (by decide +kernel)) ggL_law_X6_light
set_option maxRecDepth 20000 in
theorem ggL_law_L_shortOf : GoodIn wsL_law wsL_shortOf := goodIn_ca (goodIn_r _ [653, 159, 654, 655, 656, 2, 657, 16, 28, 20, 35, 164, 165, 166, 167, 168, 601, 602, 603, 27, 604, 605, 579, 580, 581, 79, 73, 582, 583, 584, 585, 75, 76, 658, 659, 660, 661, 24, 37, 662, 663, 664, 15, 665, 41, 231, 204, 205, 206, 43, 606, 607, 608, 23, 609, 610, 411, 412, 413, 67, 63, 66, 65, 58, 414, 415, 416, 666, 667, 668, 669, 638, 639, 640, 641, 74, 642, 612, 613, 614, 77, 802, 803, 804, 805, 806, 807, 808, 809, 840, 841, 842, 843, 844, 845, 857, 858, 859, 860, 861, 862, 863, 864, 865, 846, 847, 848, 849, 850, 851, 852, 853, 854, 855, 856] (by decide +kernel) (by decide +kernel)) (goodIn_sub (fun _ h => List.mem_append_right _ h) (by decide +kernel))
set_option maxRecDepth 20000 in
theorem gL_law_L_shortOf : GoodIn wsL_law (va_wsS RL 207 yL_shortOf wsL_shortOf) := goodIn_app (goodIn_of _ (by decide +kernel)) ggL_law_L_shortOf
set_option maxRecDepth 20000 in
theorem ggL_law_X6_shortOf : GoodIn wsL_law wsX6_shortOf := goodIn_r _ [673, 483, 484, 5, 485, 144, 145, 146, 173, 174, 175, 176, 143, 147, 148, 149, 150, 151, 428, 429, 430, 431, 111, 92, 91, 432, 301, 109, 110, 350, 351, 352, 353, 354, 355, 356, 357, 96, 97, 369, 370, 371, 372, 433, 434, 435, 436, 619, 620, 621, 622, 112, 590, 591, 592, 593, 482, 102, 103, 94, 104, 95, 674, 675, 676, 677, 93, 623, 624, 625, 626, 113, 437, 438, 439, 440, 98, 399, 400, 401, 402, 99, 441, 442, 443, 647, 648, 649, 650, 105, 627, 628, 629, 630, 106, 810, 811, 812, 813, 814, 815, 816, 817, 818, 819, 820, 821, 822, 823, 824, 825, 826, 827, 828, 829, 830, 831, 832, 833, 834, 835, 836, 837, 838, 839] (by decide +kernel) (by decide +kernel)
set_option maxRecDepth 20000 in
theorem gL_law_X6_shortOf : GoodIn wsL_law (wsV RL 209 RX6 yX6_shortOf wsX6_shortOf) := goodIn_app (goodIn_of _ (by decide +kernel)) ggL_law_X6_shortOf
set_option maxRecDepth 20000 in
theorem ggL_law_X5_bestStage : GoodIn wsL_law wsX5_bestStage := goodIn_r _ [681, 682, 683, 684, 2, 685, 16, 658, 659, 660, 661, 24, 37, 662, 663, 664, 15, 665, 41, 231, 204, 205, 206, 43, 606, 607, 608, 23, 609, 610, 411, 412, 413, 67, 63, 66, 65, 58, 414, 415, 416, 686, 687, 688, 689, 28, 20, 35, 601, 602, 603, 27, 604, 605, 579, 580, 581, 79, 73, 582, 583, 584, 585, 75, 76, 666, 667, 668, 669, 638, 639, 640, 641, 74, 642, 612, 613, 614, 77, 802, 803, 804, 805, 806, 807, 808, 809, 840, 841, 842, 843, 846, 847, 848, 849, 850, 851, 852, 853, 854, 855, 856, 844, 845, 857, 858, 859, 860, 861, 862, 863, 864, 865] (by decide +kernel) (by decide +kernel)
set_option maxRecDepth 20000 in
theorem gL_law_X5_bestStage : GoodIn wsL_law (wsV RL 210 RX5 yX5_bestStage wsX5_bestStage) := goodIn_app (goodIn_of _ (by decide +kernel)) ggL_law_X5_bestStage
set_option maxRecDepth 20000 in
theorem ggL_law_X6_bestStage : GoodIn wsL_law wsX6_bestStage := goodIn_r _ [693, 151, 428, 429, 430, 5, 431, 143, 111, 92, 91, 432, 301, 109, 110, 350, 351, 352, 353, 354, 355, 356, 357, 96, 97, 369, 370, 371, 372, 433, 434, 435, 436, 694, 695, 696, 697, 619, 620, 621, 622, 112, 590, 591, 592, 593, 482, 102, 103, 94, 104, 95, 674, 675, 676, 677, 93, 623, 624, 625, 626, 113, 437, 438, 439, 440, 98, 399, 400, 401, 402, 99, 441, 442, 443, 647, 648, 649, 650, 105, 627, 628, 629, 630, 106, 810, 811, 812, 813, 814, 815, 816, 817, 818, 819, 820, 821, 822, 823, 824, 825, 826, 827, 828, 829, 830, 831, 832, 833, 834, 835, 836, 837, 838, 839] (by decide +kernel) (by decide +kernel)
set_option maxRecDepth 20000 in
theorem gL_law_X6_bestStage : GoodIn wsL_law (wsV RL 213 RX6 yX6_bestStage wsX6_bestStage) := goodIn_app (goodIn_of _ (by decide +kernel)) ggL_law_X6_bestStage
set_option maxRecDepth 20000 in
theorem ggL_law_L_bestToBorrow : GoodIn wsL_law wsL_bestToBorrow := goodIn_ca (goodIn_r _ [700, 159, 701, 702, 703, 2, 704, 28, 164, 165, 166, 167, 168, 682, 683, 684, 685, 16, 658, 659, 660, 661, 24, 37, 662, 663, 664, 15, 665, 41, 231, 204, 205, 206, 43, 606, 607, 608, 23, 609, 610, 411, 412, 413, 67, 63, 66, 65, 58, 414, 415, 416, 686, 687, 688, 689, 20, 35, 601, 602, 603, 27, 604, 605, 579, 580, 581, 79, 73, 582, 583, 584, 585, 75, 76, 666, 667, 668, 669, 638, 639, 640, 641, 74, 642, 612, 613, 614, 77, 493, 494, 495, 496, 71, 497, 498, 499, 500, 705, 706, 707, 708, 504, 475, 476, 477, 525, 471, 472, 473, 72, 474, 802, 803, 804, 805, 806, 807, 808, 809, 857, 858, 859, 860, 861, 862, 863, 864, 865, 840, 841, 842, 843, 846, 847, 848, 849, 850, 851, 852, 853, 854, 855, 856, 844, 845] (by decide +kernel) (by decide +kernel)) (goodIn_sub (fun _ h => List.mem_append_right _ h) (by decide +kernel))
set_option maxRecDepth 20000 in
theorem gL_law_L_bestToBorrow : GoodIn wsL_law (va_wsS RL 214 yL_bestToBorrow wsL_bestToBorrow) := goodIn_app (goodIn_of _ (by decide +kernel)) ggL_law_L_bestToBorrow
set_option maxRecDepth 20000 in
theorem ggL_law_X6_bestToBorrow : GoodIn wsL_law wsX6_bestToBorrow := goodIn_r _ [712, 482, 100, 102, 103, 101, 483, 484, 5, 485, 144, 145, 146, 177, 178, 179, 147, 148, 149, 150, 151, 428, 429, 430, 431, 143, 111, 92, 91, 432, 301, 109, 110, 350, 351, 352, 353, 354, 355, 356, 357, 96, 97, 369, 370, 371, 372, 433, 434, 435, 436, 694, 695, 696, 697, 619, 620, 621, 622, 112, 590, 591, 592, 593, 94, 104, 95, 674, 675, 676, 677, 93, 623, 624, 625, 626, 113, 437, 438, 439, 440, 98, 399, 400, 401, 402, 99, 441, 442, 443, 647, 648, 649, 650, 105, 627, 628, 629, 630, 106, 513, 514, 515, 516, 810, 811, 812, 813, 814, 815, 816, 817, 818, 819, 820, 821, 822, 823, 824, 825, 826, 827, 828, 829, 830, 831, 832, 833, 834, 835, 836, 837, 838, 839] (by decide +kernel) (by decide +kernel)
set_option maxRecDepth 20000 in
theorem gL_law_X6_bestToBorrow : GoodIn wsL_law (wsV RL 216 RX6 yX6_bestToBorrow wsX6_bestToBorrow) := goodIn_app (goodIn_of _ (by decide +kernel)) ggL_law_X6_bestToBorrow
set_option maxRecDepth 20000 in
theorem ggL_law_L_perform : GoodIn wsL_law wsL_perform := goodIn_ca (goodIn_ca (goodIn_r _ [715, 159, 120, 716, 717, 718, 2, 719, 16, 32, 164, 165, 166, 167, 168, 227, 228, 229, 15, 230, 46, 231, 204, 205, 206, 43, 41, 501, 502, 503, 133, 134, 130, 131, 132, 682, 683, 684, 685, 658, 659, 660, 661, 24, 37, 662, 663, 664, 665, 606, 607, 608, 23, 609, 610, 411, 412, 413, 67, 63, 66, 65, 58, 414, 415, 416, 686, 687, 688, 689, 28, 20, 35, 601, 602, 603, 27, 604, 605, 579, 580, 581, 79, 73, 582, 583, 584, 585, 75, 76, 666, 667, 668, 669, 638, 639, 640, 641, 74, 642, 612, 613, 614, 77, 720, 721, 722, 723, 724, 725, 726, 31, 727, 83, 86, 728, 729, 730, 731, 34, 732, 733, 734, 735, 78, 736, 737, 738, 739, 740, 741, 742, 743, 802, 803, 804, 805, 806, 807, 808, 809, 866, 867, 868, 840, 841, 842, 843, 846, 847, 848, 849, 850, 851, 852, 853, 854, 855, 856, 844, 845, 857, 858, 859, 860, 861, 862, 863, 864, 865] (by decide +kernel) (by decide +kernel)) (goodIn_sub (fun _ h => List.mem_append_right _ h) (by decide +kernel))) (goodIn_sub (fun _ h => List.mem_append_left _ (List.mem_append_right _ h)) (by decide +kernel))
set_option maxRecDepth 20000 in
theorem gL_law_L_perform : GoodIn wsL_law (va_wsS RL 217 yL_perform wsL_perform) := goodIn_app (goodIn_of _ (by decide +kernel)) ggL_law_L_perform
set_option maxRecDepth 20000 in
theorem ggL_law_X6_perform : GoodIn wsL_law wsX6_perform := goodIn_r _ [747, 143, 748, 107, 108, 483, 484, 5, 485, 144, 145, 146, 236, 237, 238, 239, 92, 91, 147, 148, 149, 150, 151, 428, 429, 430, 431, 111, 432, 301, 109, 110, 350, 351, 352, 353, 354, 355, 356, 357, 96, 97, 369, 370, 371, 372, 433, 434, 435, 436, 619, 620, 621, 622, 112, 590, 591, 592, 593, 482, 102, 103, 94, 104, 95, 674, 675, 676, 677, 93, 623, 624, 625, 626, 113, 437, 438, 439, 440, 98, 399, 400, 401, 402, 99, 441, 442, 443, 647, 648, 649, 650, 105, 627, 628, 629, 630, 106, 749, 750, 751, 752, 114, 810, 811, 812, 813, 814, 815, 816, 817, 818, 819, 820, 821, 822, 823, 824, 825, 826, 827, 828, 829, 830, 831, 832, 833, 834, 835, 836, 837, 838, 839] (by decide +kernel) (by decide +kernel)
set_option maxRecDepth 20000 in
theorem gL_law_X6_perform : GoodIn wsL_law (wsV RL 219 RX6 yX6_perform wsX6_perform) := goodIn_app (goodIn_of _ (by decide +kernel)) ggL_law_X6_perform
set_option maxRecDepth 20000 in
theorem ggL_law_X5_logs : GoodIn wsL_law wsX5_logs := goodIn_r _ [756, 32, 802, 803, 804, 805, 806, 807, 808, 809, 866, 867, 868] (by decide +kernel) (by decide +kernel)
set_option maxRecDepth 20000 in
theorem gL_law_X5_logs : GoodIn wsL_law (wsV RL 220 RX5 yX5_logs wsX5_logs) := goodIn_app (goodIn_of _ (by decide +kernel)) ggL_law_X5_logs
set_option maxRecDepth 20000 in
theorem ggL_law_X6_logs : GoodIn wsL_law wsX6_logs := goodIn_r _ [760, 151, 748, 810, 811, 812, 813, 814, 815, 816, 817, 818, 819, 820, 821, 822, 823, 824, 825, 826, 827, 828, 829, 830, 831, 832, 833, 834, 835, 836, 837, 838, 839] (by decide +kernel) (by decide +kernel)
set_option maxRecDepth 20000 in
theorem gL_law_X6_logs : GoodIn wsL_law (wsV RL 223 RX6 yX6_logs wsX6_logs) := goodIn_app (goodIn_of _ (by decide +kernel)) ggL_law_X6_logs
set_option maxRecDepth 20000 in
theorem ggL_law_L_stageOf : GoodIn wsL_law wsL_stageOf := goodIn_ca (goodIn_r _ [763, 159, 764, 765, 766, 2, 767, 32, 164, 165, 166, 167, 168, 802, 803, 804, 805, 806, 807, 808, 809, 866, 867, 868] (by decide +kernel) (by decide +kernel)) (goodIn_sub (fun _ h => List.mem_append_right _ h) (by decide +kernel))
set_option maxRecDepth 20000 in
theorem gL_law_L_stageOf : GoodIn wsL_law (va_wsS RL 224 yL_stageOf wsL_stageOf) := goodIn_app (goodIn_of _ (by decide +kernel)) ggL_law_L_stageOf
set_option maxRecDepth 20000 in
theorem ggL_law_X6_stageOf : GoodIn wsL_law wsX6_stageOf := goodIn_r _ [771, 107, 772, 773, 774, 5, 775, 748, 144, 145, 146, 147, 148, 149, 150, 151, 810, 811, 812, 813, 814, 815, 816, 817, 818, 819, 820, 821, 822, 823, 824, 825, 826, 827, 828, 829, 830, 831, 832, 833, 834, 835, 836, 837, 838, 839] (by decide +kernel) (by decide +kernel)
set_option maxRecDepth 20000 in
theorem gL_law_X6_stageOf : GoodIn wsL_law (wsV RL 226 RX6 yX6_stageOf wsX6_stageOf) := goodIn_app (goodIn_of _ (by decide +kernel)) ggL_law_X6_stageOf
set_option maxRecDepth 20000 in
theorem ggL_law_L_wasShortOf : GoodIn wsL_law wsL_wasShortOf := goodIn_ca (goodIn_r _ [778, 159, 779, 780, 781, 2, 782, 32, 16, 164, 165, 166, 167, 168, 802, 803, 804, 805, 806, 807, 808, 809, 866, 867, 868, 840, 841, 842, 843] (by decide +kernel) (by decide +kernel)) (goodIn_sub (fun _ h => List.mem_append_right _ h) (by decide +kernel))
set_option maxRecDepth 20000 in
theorem gL_law_L_wasShortOf : GoodIn wsL_law (va_wsS RL 227 yL_wasShortOf wsL_wasShortOf) := goodIn_app (goodIn_of _ (by decide +kernel)) ggL_law_L_wasShortOf
set_option maxRecDepth 20000 in
theorem ggL_law_X6_wasShortOf : GoodIn wsL_law wsX6_wasShortOf := goodIn_r _ [786, 108, 772, 773, 774, 5, 775, 748, 144, 145, 146, 173, 174, 175, 176, 143, 147, 148, 149, 150, 151, 810, 811, 812, 813, 814, 815, 816, 817, 818, 819, 820, 821, 822, 823, 824, 825, 826, 827, 828, 829, 830, 831, 832, 833, 834, 835, 836, 837, 838, 839] (by decide +kernel) (by decide +kernel)
set_option maxRecDepth 20000 in
theorem gL_law_X6_wasShortOf : GoodIn wsL_law (wsV RL 229 RX6 yX6_wasShortOf wsX6_wasShortOf) := goodIn_app (goodIn_of _ (by decide +kernel)) ggL_law_X6_wasShortOf
set_option maxRecDepth 20000 in
theorem ggL_law_L_timesShort : GoodIn wsL_law wsL_timesShort := goodIn_ca (goodIn_r _ [789, 159, 790, 791, 792, 2, 793, 16, 32, 164, 165, 166, 167, 168, 794, 795, 796, 31, 797, 86, 85, 802, 803, 804, 805, 806, 807, 808, 809, 840, 841, 842, 843, 866, 867, 868] (by decide +kernel) (by decide +kernel)) (goodIn_sub (fun _ h => List.mem_append_right _ h) (by decide +kernel))
set_option maxRecDepth 20000 in
theorem gL_law_L_timesShort : GoodIn wsL_law (va_wsS RL 230 yL_timesShort wsL_timesShort) := goodIn_app (goodIn_of _ (by decide +kernel)) ggL_law_L_timesShort
set_option maxRecDepth 20000 in
theorem ggL_law_X6_timesShort : GoodIn wsL_law wsX6_timesShort := goodIn_r _ [801, 748, 108, 173, 174, 175, 5, 176, 143, 144, 145, 146, 147, 148, 149, 150, 151, 810, 811, 812, 813, 814, 815, 816, 817, 818, 819, 820, 821, 822, 823, 824, 825, 826, 827, 828, 829, 830, 831, 832, 833, 834, 835, 836, 837, 838, 839] (by decide +kernel) (by decide +kernel)
set_option maxRecDepth 20000 in
theorem gL_law_X6_timesShort : GoodIn wsL_law (wsV RL 232 RX6 yX6_timesShort wsX6_timesShort) := goodIn_app (goodIn_of _ (by decide +kernel)) ggL_law_X6_timesShort
