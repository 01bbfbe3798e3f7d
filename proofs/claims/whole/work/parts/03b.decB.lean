theorem dX5_init_0 : decode cX5_init 0 = .ok (.aload_n 0, 1) := by decide +kernel
theorem dX5_init_1 : decode cX5_init 1 = .ok (.invokespecial 1, 3) := by decide +kernel
theorem dX5_init_4 : decode cX5_init 4 = .ok (.aload_n 0, 1) := by decide +kernel
theorem dX5_init_5 : decode cX5_init 5 = .ok (.new 7, 3) := by decide +kernel
theorem dX5_init_8 : decode cX5_init 8 = .ok (.dup, 1) := by decide +kernel
theorem dX5_init_9 : decode cX5_init 9 = .ok (.invokespecial 9, 3) := by decide +kernel
theorem dX5_init_12 : decode cX5_init 12 = .ok (.putfield 10, 3) := by decide +kernel
theorem dX5_init_15 : decode cX5_init 15 = .ok (.aload_n 0, 1) := by decide +kernel
theorem dX5_init_16 : decode cX5_init 16 = .ok (.new 16, 3) := by decide +kernel
theorem dX5_init_19 : decode cX5_init 19 = .ok (.dup, 1) := by decide +kernel
theorem dX5_init_20 : decode cX5_init 20 = .ok (.invokespecial 18, 3) := by decide +kernel
theorem dX5_init_23 : decode cX5_init 23 = .ok (.putfield 19, 3) := by decide +kernel
theorem dX5_init_26 : decode cX5_init 26 = .ok (.aload_n 0, 1) := by decide +kernel
theorem dX5_init_27 : decode cX5_init 27 = .ok (.new 23, 3) := by decide +kernel
theorem dX5_init_30 : decode cX5_init 30 = .ok (.dup, 1) := by decide +kernel
theorem dX5_init_31 : decode cX5_init 31 = .ok (.invokespecial 25, 3) := by decide +kernel
theorem dX5_init_34 : decode cX5_init 34 = .ok (.putfield 26, 3) := by decide +kernel
theorem dX5_init_37 : decode cX5_init 37 = .ok (.aload_n 0, 1) := by decide +kernel
theorem dX5_init_38 : decode cX5_init 38 = .ok (.new 30, 3) := by decide +kernel
theorem dX5_init_41 : decode cX5_init 41 = .ok (.dup, 1) := by decide +kernel
theorem dX5_init_42 : decode cX5_init 42 = .ok (.invokespecial 32, 3) := by decide +kernel
theorem dX5_init_45 : decode cX5_init 45 = .ok (.putfield 33, 3) := by decide +kernel
theorem dX5_init_48 : decode cX5_init 48 = .ok (.aload_n 0, 1) := by decide +kernel
theorem dX5_init_49 : decode cX5_init 49 = .ok (.new 37, 3) := by decide +kernel
theorem dX5_init_52 : decode cX5_init 52 = .ok (.dup, 1) := by decide +kernel
theorem dX5_init_53 : decode cX5_init 53 = .ok (.invokespecial 39, 3) := by decide +kernel
theorem dX5_init_56 : decode cX5_init 56 = .ok (.putfield 40, 3) := by decide +kernel
theorem dX5_init_59 : decode cX5_init 59 = .ok (.aload_n 0, 1) := by decide +kernel
theorem dX5_init_60 : decode cX5_init 60 = .ok (.bipush 10, 2) := by decide +kernel
theorem dX5_init_62 : decode cX5_init 62 = .ok (.newarray .int, 2) := by decide +kernel
theorem dX5_init_64 : decode cX5_init 64 = .ok (.putfield 44, 3) := by decide +kernel
theorem dX5_init_67 : decode cX5_init 67 = .ok (.aload_n 0, 1) := by decide +kernel
theorem dX5_init_68 : decode cX5_init 68 = .ok (.bipush 10, 2) := by decide +kernel
theorem dX5_init_70 : decode cX5_init 70 = .ok (.newarray .int, 2) := by decide +kernel
theorem dX5_init_72 : decode cX5_init 72 = .ok (.putfield 48, 3) := by decide +kernel
theorem dX5_init_75 : decode cX5_init 75 = .ok (.aload_n 0, 1) := by decide +kernel
theorem dX5_init_76 : decode cX5_init 76 = .ok (.bipush 30, 2) := by decide +kernel
theorem dX5_init_78 : decode cX5_init 78 = .ok (.bipush 10, 2) := by decide +kernel
theorem dX5_init_80 : decode cX5_init 80 = .ok (.multianewarray 51 2, 4) := by decide +kernel
theorem dX5_init_84 : decode cX5_init 84 = .ok (.putfield 53, 3) := by decide +kernel
theorem dX5_init_87 : decode cX5_init 87 = .ok (.return_, 1) := by decide +kernel
set_option maxRecDepth 20000 in
theorem ggX5_addLine_X5_checkRange : GoodIn wsX5_addLine wsX5_checkRange := goodIn_ca (goodIn_r _ [5, 6, 7] (by decide +kernel) (by decide +kernel)) (goodIn_sub (fun _ h => List.mem_cons_of_mem _ (List.mem_append_left _ (List.mem_append_right _ h))) (by decide +kernel))
set_option maxRecDepth 20000 in
theorem gX5_addLine_X5_checkRange : GoodIn wsX5_addLine (va_wsS RX5 56 yX5_checkRange wsX5_checkRange) := goodIn_app (goodIn_of _ (by decide +kernel)) ggX5_addLine_X5_checkRange
set_option maxRecDepth 20000 in
theorem ggX5_addLine_X5_checkRoom : GoodIn wsX5_addLine wsX5_checkRoom := goodIn_ca (goodIn_r _ [10, 11, 12] (by decide +kernel) (by decide +kernel)) (goodIn_sub (fun _ h => List.mem_cons_of_mem _ (List.mem_append_right _ h)) (by decide +kernel))
set_option maxRecDepth 20000 in
theorem gX5_addLine_X5_checkRoom : GoodIn wsX5_addLine (va_wsS RX5 64 yX5_checkRoom wsX5_checkRoom) := goodIn_app (goodIn_of _ (by decide +kernel)) ggX5_addLine_X5_checkRoom
set_option maxRecDepth 20000 in
theorem ggX5_addLine_X4_append : GoodIn wsX5_addLine wsX4_append := goodIn_r _ [17, 18, 19, 28, 29, 30, 31] (by decide +kernel) (by decide +kernel)
set_option maxRecDepth 20000 in
theorem gX5_addLine_X4_append : GoodIn wsX5_addLine (wsV RX5 68 RX4 yX4_append wsX4_append) := goodIn_app (goodIn_of _ (by decide +kernel)) ggX5_addLine_X4_append
theorem dX5_addLine_0 : decode cX5_addLine 0 = .ok (.iload_n 1, 1) := by decide +kernel
theorem dX5_addLine_1 : decode cX5_addLine 1 = .ok (.iconst 1, 1) := by decide +kernel
theorem dX5_addLine_2 : decode cX5_addLine 2 = .ok (.bipush 30, 2) := by decide +kernel
theorem dX5_addLine_4 : decode cX5_addLine 4 = .ok (.invokestatic 56, 3) := by decide +kernel
theorem dX5_addLine_7 : decode cX5_addLine 7 = .ok (.aload_n 0, 1) := by decide +kernel
theorem dX5_addLine_8 : decode cX5_addLine 8 = .ok (.getfield 10, 3) := by decide +kernel
theorem dX5_addLine_11 : decode cX5_addLine 11 = .ok (.getfield 60, 3) := by decide +kernel
theorem dX5_addLine_14 : decode cX5_addLine 14 = .ok (.bipush 30, 2) := by decide +kernel
theorem dX5_addLine_16 : decode cX5_addLine 16 = .ok (.invokestatic 64, 3) := by decide +kernel
theorem dX5_addLine_19 : decode cX5_addLine 19 = .ok (.aload_n 0, 1) := by decide +kernel
theorem dX5_addLine_20 : decode cX5_addLine 20 = .ok (.getfield 10, 3) := by decide +kernel
theorem dX5_addLine_23 : decode cX5_addLine 23 = .ok (.iload_n 1, 1) := by decide +kernel
theorem dX5_addLine_24 : decode cX5_addLine 24 = .ok (.invokevirtual 68, 3) := by decide +kernel
theorem dX5_addLine_27 : decode cX5_addLine 27 = .ok (.ireturn, 1) := by decide +kernel
set_option maxRecDepth 20000 in
theorem ggX5_need_X5_checkNumber : GoodIn wsX5_need wsX5_checkNumber := goodIn_ca (goodIn_r _ [5, 6, 7] (by decide +kernel) (by decide +kernel)) (goodIn_sub (fun _ h => List.mem_cons_of_mem _ (List.mem_append_left _ (List.mem_append_right _ h))) (by decide +kernel))
set_option maxRecDepth 20000 in
theorem gX5_need_X5_checkNumber : GoodIn wsX5_need (va_wsS RX5 72 yX5_checkNumber wsX5_checkNumber) := goodIn_app (goodIn_of _ (by decide +kernel)) ggX5_need_X5_checkNumber
set_option maxRecDepth 20000 in
theorem ggX5_need_X5_checkRange : GoodIn wsX5_need wsX5_checkRange := goodIn_ca (goodIn_r _ [10, 11, 12] (by decide +kernel) (by decide +kernel)) (goodIn_sub (fun _ h => List.mem_cons_of_mem _ (List.mem_append_right _ h)) (by decide +kernel))
set_option maxRecDepth 20000 in
theorem gX5_need_X5_checkRange : GoodIn wsX5_need (va_wsS RX5 56 yX5_checkRange wsX5_checkRange) := goodIn_app (goodIn_of _ (by decide +kernel)) ggX5_need_X5_checkRange
theorem dX5_need_0 : decode cX5_need 0 = .ok (.iload_n 1, 1) := by decide +kernel
theorem dX5_need_1 : decode cX5_need 1 = .ok (.aload_n 0, 1) := by decide +kernel
theorem dX5_need_2 : decode cX5_need 2 = .ok (.getfield 10, 3) := by decide +kernel
theorem dX5_need_5 : decode cX5_need 5 = .ok (.getfield 60, 3) := by decide +kernel
theorem dX5_need_8 : decode cX5_need 8 = .ok (.invokestatic 72, 3) := by decide +kernel
theorem dX5_need_11 : decode cX5_need 11 = .ok (.iload_n 2, 1) := by decide +kernel
theorem dX5_need_12 : decode cX5_need 12 = .ok (.iconst 4, 1) := by decide +kernel
theorem dX5_need_13 : decode cX5_need 13 = .ok (.invokestatic 72, 3) := by decide +kernel
theorem dX5_need_16 : decode cX5_need 16 = .ok (.iload_n 3, 1) := by decide +kernel
theorem dX5_need_17 : decode cX5_need 17 = .ok (.iconst 0, 1) := by decide +kernel
theorem dX5_need_18 : decode cX5_need 18 = .ok (.bipush 100, 2) := by decide +kernel
theorem dX5_need_20 : decode cX5_need 20 = .ok (.invokestatic 56, 3) := by decide +kernel
theorem dX5_need_23 : decode cX5_need 23 = .ok (.aload_n 0, 1) := by decide +kernel
theorem dX5_need_24 : decode cX5_need 24 = .ok (.getfield 10, 3) := by decide +kernel
theorem dX5_need_27 : decode cX5_need 27 = .ok (.getfield 75, 3) := by decide +kernel
theorem dX5_need_30 : decode cX5_need 30 = .ok (.iload_n 1, 1) := by decide +kernel
theorem dX5_need_31 : decode cX5_need 31 = .ok (.aaload, 1) := by decide +kernel
theorem dX5_need_32 : decode cX5_need 32 = .ok (.iload_n 2, 1) := by decide +kernel
theorem dX5_need_33 : decode cX5_need 33 = .ok (.iaload, 1) := by decide +kernel
theorem dX5_need_34 : decode cX5_need 34 = .ok (.istore 4, 2) := by decide +kernel
theorem dX5_need_36 : decode cX5_need 36 = .ok (.aload_n 0, 1) := by decide +kernel
theorem dX5_need_37 : decode cX5_need 37 = .ok (.getfield 10, 3) := by decide +kernel
theorem dX5_need_40 : decode cX5_need 40 = .ok (.getfield 75, 3) := by decide +kernel
theorem dX5_need_43 : decode cX5_need 43 = .ok (.iload_n 1, 1) := by decide +kernel
theorem dX5_need_44 : decode cX5_need 44 = .ok (.aaload, 1) := by decide +kernel
theorem dX5_need_45 : decode cX5_need 45 = .ok (.iload_n 2, 1) := by decide +kernel
theorem dX5_need_46 : decode cX5_need 46 = .ok (.iload_n 3, 1) := by decide +kernel
theorem dX5_need_47 : decode cX5_need 47 = .ok (.iastore, 1) := by decide +kernel
theorem dX5_need_48 : decode cX5_need 48 = .ok (.iload 4, 2) := by decide +kernel
theorem dX5_need_50 : decode cX5_need 50 = .ok (.ireturn, 1) := by decide +kernel
set_option maxRecDepth 20000 in
theorem ggX5_cut_X5_checkNumber : GoodIn wsX5_cut wsX5_checkNumber := goodIn_ca (goodIn_r _ [6, 7, 8] (by decide +kernel) (by decide +kernel)) (goodIn_sub (fun _ h => List.mem_cons_of_mem _ (List.mem_append_right _ h)) (by decide +kernel))
set_option maxRecDepth 20000 in
theorem gX5_cut_X5_checkNumber : GoodIn wsX5_cut (va_wsS RX5 72 yX5_checkNumber wsX5_checkNumber) := goodIn_app (goodIn_of _ (by decide +kernel)) ggX5_cut_X5_checkNumber
set_option maxRecDepth 20000 in
theorem ggX5_cut_X1_arrange : GoodIn wsX5_cut wsX1_arrange := goodIn_r _ [13, 14, 15, 16, 12, 17, 18, 19, 20, 21, 22, 23, 24, 25, 26, 27, 28, 29, 30, 31, 32, 33, 34, 35, 36, 37, 38, 39, 40, 41, 42, 43, 44, 45, 46, 47, 48, 49, 50, 51, 52, 53, 54, 55, 56, 57, 58, 59, 60, 61, 62, 81, 82, 83, 84, 85, 86, 87, 88, 89, 90, 91, 77, 78, 79, 80] (by decide +kernel) (by decide +kernel)
set_option maxRecDepth 20000 in
theorem gX5_cut_X1_arrange : GoodIn wsX5_cut (wsV RX5 82 RX1 yX1_arrange wsX1_arrange) := goodIn_app (goodIn_of _ (by decide +kernel)) ggX5_cut_X1_arrange
set_option maxRecDepth 20000 in
theorem ggX5_cut_X4_total : GoodIn wsX5_cut wsX4_total := goodIn_r _ [66, 67, 68, 32, 33, 34, 35, 36, 37, 77, 78, 79, 80] (by decide +kernel) (by decide +kernel)
set_option maxRecDepth 20000 in
theorem gX5_cut_X4_total : GoodIn wsX5_cut (wsV RX5 86 RX4 yX4_total wsX4_total) := goodIn_app (goodIn_of _ (by decide +kernel)) ggX5_cut_X4_total
theorem dX5_cut_0 : decode cX5_cut 0 = .ok (.iload_n 1, 1) := by decide +kernel
theorem dX5_cut_1 : decode cX5_cut 1 = .ok (.aload_n 0, 1) := by decide +kernel
theorem dX5_cut_2 : decode cX5_cut 2 = .ok (.getfield 10, 3) := by decide +kernel
theorem dX5_cut_5 : decode cX5_cut 5 = .ok (.getfield 60, 3) := by decide +kernel
theorem dX5_cut_8 : decode cX5_cut 8 = .ok (.invokestatic 72, 3) := by decide +kernel
theorem dX5_cut_11 : decode cX5_cut 11 = .ok (.aload_n 0, 1) := by decide +kernel
theorem dX5_cut_12 : decode cX5_cut 12 = .ok (.getfield 10, 3) := by decide +kernel
theorem dX5_cut_15 : decode cX5_cut 15 = .ok (.getfield 78, 3) := by decide +kernel
theorem dX5_cut_18 : decode cX5_cut 18 = .ok (.iload_n 1, 1) := by decide +kernel
theorem dX5_cut_19 : decode cX5_cut 19 = .ok (.iload_n 2, 1) := by decide +kernel
theorem dX5_cut_20 : decode cX5_cut 20 = .ok (.bastore, 1) := by decide +kernel
theorem dX5_cut_21 : decode cX5_cut 21 = .ok (.aload_n 0, 1) := by decide +kernel
theorem dX5_cut_22 : decode cX5_cut 22 = .ok (.getfield 26, 3) := by decide +kernel
theorem dX5_cut_25 : decode cX5_cut 25 = .ok (.aload_n 0, 1) := by decide +kernel
theorem dX5_cut_26 : decode cX5_cut 26 = .ok (.getfield 10, 3) := by decide +kernel
theorem dX5_cut_29 : decode cX5_cut 29 = .ok (.invokevirtual 82, 3) := by decide +kernel
theorem dX5_cut_32 : decode cX5_cut 32 = .ok (.aload_n 0, 1) := by decide +kernel
theorem dX5_cut_33 : decode cX5_cut 33 = .ok (.getfield 10, 3) := by decide +kernel
theorem dX5_cut_36 : decode cX5_cut 36 = .ok (.invokevirtual 86, 3) := by decide +kernel
theorem dX5_cut_39 : decode cX5_cut 39 = .ok (.ireturn, 1) := by decide +kernel
theorem dX5_lines_0 : decode cX5_lines 0 = .ok (.aload_n 0, 1) := by decide +kernel
theorem dX5_lines_1 : decode cX5_lines 1 = .ok (.getfield 10, 3) := by decide +kernel
theorem dX5_lines_4 : decode cX5_lines 4 = .ok (.getfield 60, 3) := by decide +kernel
theorem dX5_lines_7 : decode cX5_lines 7 = .ok (.ireturn, 1) := by decide +kernel
set_option maxRecDepth 20000 in
theorem ggX5_startOf_X5_checkNumber : GoodIn wsX5_startOf wsX5_checkNumber := goodIn_ca (goodIn_r _ [5, 6, 7] (by decide +kernel) (by decide +kernel)) (goodIn_sub (fun _ h => List.mem_cons_of_mem _ (List.mem_append_right _ h)) (by decide +kernel))
set_option maxRecDepth 20000 in
theorem gX5_startOf_X5_checkNumber : GoodIn wsX5_startOf (va_wsS RX5 72 yX5_checkNumber wsX5_checkNumber) := goodIn_app (goodIn_of _ (by decide +kernel)) ggX5_startOf_X5_checkNumber
set_option maxRecDepth 20000 in
theorem ggX5_startOf_X4_secondsAhead : GoodIn wsX5_startOf wsX4_secondsAhead := goodIn_r _ [12, 13, 14, 23, 24, 25, 26] (by decide +kernel) (by decide +kernel)
set_option maxRecDepth 20000 in
theorem gX5_startOf_X4_secondsAhead : GoodIn wsX5_startOf (wsV RX5 90 RX4 yX4_secondsAhead wsX4_secondsAhead) := goodIn_app (goodIn_of _ (by decide +kernel)) ggX5_startOf_X4_secondsAhead
theorem dX5_startOf_0 : decode cX5_startOf 0 = .ok (.iload_n 1, 1) := by decide +kernel
theorem dX5_startOf_1 : decode cX5_startOf 1 = .ok (.aload_n 0, 1) := by decide +kernel
theorem dX5_startOf_2 : decode cX5_startOf 2 = .ok (.getfield 10, 3) := by decide +kernel
theorem dX5_startOf_5 : decode cX5_startOf 5 = .ok (.getfield 60, 3) := by decide +kernel
theorem dX5_startOf_8 : decode cX5_startOf 8 = .ok (.invokestatic 72, 3) := by decide +kernel
theorem dX5_startOf_11 : decode cX5_startOf 11 = .ok (.aload_n 0, 1) := by decide +kernel
theorem dX5_startOf_12 : decode cX5_startOf 12 = .ok (.getfield 10, 3) := by decide +kernel
theorem dX5_startOf_15 : decode cX5_startOf 15 = .ok (.getfield 78, 3) := by decide +kernel
theorem dX5_startOf_18 : decode cX5_startOf 18 = .ok (.iload_n 1, 1) := by decide +kernel
theorem dX5_startOf_19 : decode cX5_startOf 19 = .ok (.baload, 1) := by decide +kernel
theorem dX5_startOf_20 : decode cX5_startOf 20 = .ok (.ifCond .eq 7, 3) := by decide +kernel
theorem dX5_startOf_23 : decode cX5_startOf 23 = .ok (.iconst (-1), 1) := by decide +kernel
theorem dX5_startOf_24 : decode cX5_startOf 24 = .ok (.goto 11, 3) := by decide +kernel
theorem dX5_startOf_27 : decode cX5_startOf 27 = .ok (.aload_n 0, 1) := by decide +kernel
theorem dX5_startOf_28 : decode cX5_startOf 28 = .ok (.getfield 10, 3) := by decide +kernel
theorem dX5_startOf_31 : decode cX5_startOf 31 = .ok (.iload_n 1, 1) := by decide +kernel
theorem dX5_startOf_32 : decode cX5_startOf 32 = .ok (.invokevirtual 90, 3) := by decide +kernel
theorem dX5_startOf_35 : decode cX5_startOf 35 = .ok (.ireturn, 1) := by decide +kernel
set_option maxRecDepth 20000 in
theorem ggX5_length_X4_total : GoodIn wsX5_length wsX4_total := goodIn_r _ [6, 7, 8, 9, 10, 5, 11, 12, 13, 22, 23, 24, 25] (by decide +kernel) (by decide +kernel)
set_option maxRecDepth 20000 in
theorem gX5_length_X4_total : GoodIn wsX5_length (wsV RX5 86 RX4 yX4_total wsX4_total) := goodIn_app (goodIn_of _ (by decide +kernel)) ggX5_length_X4_total
theorem dX5_length_0 : decode cX5_length 0 = .ok (.aload_n 0, 1) := by decide +kernel
theorem dX5_length_1 : decode cX5_length 1 = .ok (.getfield 10, 3) := by decide +kernel
theorem dX5_length_4 : decode cX5_length 4 = .ok (.invokevirtual 86, 3) := by decide +kernel
theorem dX5_length_7 : decode cX5_length 7 = .ok (.ireturn, 1) := by decide +kernel
set_option maxRecDepth 20000 in
theorem ggX5_setChannel_X5_checkNumber : GoodIn wsX5_setChannel wsX5_checkNumber := goodIn_ca (goodIn_r _ [5, 6, 7] (by decide +kernel) (by decide +kernel)) (goodIn_sub (fun _ h => List.mem_cons_of_mem _ (List.mem_append_left _ (List.mem_append_right _ h))) (by decide +kernel))
set_option maxRecDepth 20000 in
theorem gX5_setChannel_X5_checkNumber : GoodIn wsX5_setChannel (va_wsS RX5 72 yX5_checkNumber wsX5_checkNumber) := goodIn_app (goodIn_of _ (by decide +kernel)) ggX5_setChannel_X5_checkNumber
set_option maxRecDepth 20000 in
theorem ggX5_setChannel_X5_checkRange : GoodIn wsX5_setChannel wsX5_checkRange := goodIn_ca (goodIn_r _ [10, 11, 12] (by decide +kernel) (by decide +kernel)) (goodIn_sub (fun _ h => List.mem_cons_of_mem _ (List.mem_append_right _ h)) (by decide +kernel))
set_option maxRecDepth 20000 in
theorem gX5_setChannel_X5_checkRange : GoodIn wsX5_setChannel (va_wsS RX5 56 yX5_checkRange wsX5_checkRange) := goodIn_app (goodIn_of _ (by decide +kernel)) ggX5_setChannel_X5_checkRange
theorem dX5_setChannel_0 : decode cX5_setChannel 0 = .ok (.iload_n 1, 1) := by decide +kernel
theorem dX5_setChannel_1 : decode cX5_setChannel 1 = .ok (.bipush 10, 2) := by decide +kernel
theorem dX5_setChannel_3 : decode cX5_setChannel 3 = .ok (.invokestatic 72, 3) := by decide +kernel
theorem dX5_setChannel_6 : decode cX5_setChannel 6 = .ok (.iload_n 2, 1) := by decide +kernel
theorem dX5_setChannel_7 : decode cX5_setChannel 7 = .ok (.iconst 4, 1) := by decide +kernel
theorem dX5_setChannel_8 : decode cX5_setChannel 8 = .ok (.invokestatic 72, 3) := by decide +kernel
theorem dX5_setChannel_11 : decode cX5_setChannel 11 = .ok (.iload_n 3, 1) := by decide +kernel
theorem dX5_setChannel_12 : decode cX5_setChannel 12 = .ok (.iconst 0, 1) := by decide +kernel
theorem dX5_setChannel_13 : decode cX5_setChannel 13 = .ok (.iconst 2, 1) := by decide +kernel
theorem dX5_setChannel_14 : decode cX5_setChannel 14 = .ok (.invokestatic 56, 3) := by decide +kernel
theorem dX5_setChannel_17 : decode cX5_setChannel 17 = .ok (.bipush 10, 2) := by decide +kernel
theorem dX5_setChannel_19 : decode cX5_setChannel 19 = .ok (.aload_n 0, 1) := by decide +kernel
theorem dX5_setChannel_20 : decode cX5_setChannel 20 = .ok (.getfield 19, 3) := by decide +kernel
theorem dX5_setChannel_23 : decode cX5_setChannel 23 = .ok (.getfield 93, 3) := by decide +kernel
theorem dX5_setChannel_26 : decode cX5_setChannel 26 = .ok (.iload_n 1, 1) := by decide +kernel
theorem dX5_setChannel_27 : decode cX5_setChannel 27 = .ok (.iaload, 1) := by decide +kernel
theorem dX5_setChannel_28 : decode cX5_setChannel 28 = .ok (.imul, 1) := by decide +kernel
theorem dX5_setChannel_29 : decode cX5_setChannel 29 = .ok (.aload_n 0, 1) := by decide +kernel
theorem dX5_setChannel_30 : decode cX5_setChannel 30 = .ok (.getfield 19, 3) := by decide +kernel
theorem dX5_setChannel_33 : decode cX5_setChannel 33 = .ok (.getfield 96, 3) := by decide +kernel
theorem dX5_setChannel_36 : decode cX5_setChannel 36 = .ok (.iload_n 1, 1) := by decide +kernel
theorem dX5_setChannel_37 : decode cX5_setChannel 37 = .ok (.iaload, 1) := by decide +kernel
theorem dX5_setChannel_38 : decode cX5_setChannel 38 = .ok (.iadd, 1) := by decide +kernel
theorem dX5_setChannel_39 : decode cX5_setChannel 39 = .ok (.istore 4, 2) := by decide +kernel
theorem dX5_setChannel_41 : decode cX5_setChannel 41 = .ok (.aload_n 0, 1) := by decide +kernel
theorem dX5_setChannel_42 : decode cX5_setChannel 42 = .ok (.getfield 19, 3) := by decide +kernel
theorem dX5_setChannel_45 : decode cX5_setChannel 45 = .ok (.getfield 93, 3) := by decide +kernel
theorem dX5_setChannel_48 : decode cX5_setChannel 48 = .ok (.iload_n 1, 1) := by decide +kernel
theorem dX5_setChannel_49 : decode cX5_setChannel 49 = .ok (.iload_n 2, 1) := by decide +kernel
theorem dX5_setChannel_50 : decode cX5_setChannel 50 = .ok (.iastore, 1) := by decide +kernel
theorem dX5_setChannel_51 : decode cX5_setChannel 51 = .ok (.aload_n 0, 1) := by decide +kernel
theorem dX5_setChannel_52 : decode cX5_setChannel 52 = .ok (.getfield 19, 3) := by decide +kernel
theorem dX5_setChannel_55 : decode cX5_setChannel 55 = .ok (.getfield 96, 3) := by decide +kernel
theorem dX5_setChannel_58 : decode cX5_setChannel 58 = .ok (.iload_n 1, 1) := by decide +kernel
theorem dX5_setChannel_59 : decode cX5_setChannel 59 = .ok (.iload_n 3, 1) := by decide +kernel
theorem dX5_setChannel_60 : decode cX5_setChannel 60 = .ok (.iastore, 1) := by decide +kernel
theorem dX5_setChannel_61 : decode cX5_setChannel 61 = .ok (.iload 4, 2) := by decide +kernel
theorem dX5_setChannel_63 : decode cX5_setChannel 63 = .ok (.ireturn, 1) := by decide +kernel
set_option maxRecDepth 20000 in
theorem ggX5_addCue_X5_checkNumber : GoodIn wsX5_addCue wsX5_checkNumber := goodIn_ca (goodIn_r _ [6, 7, 8] (by decide +kernel) (by decide +kernel)) (goodIn_sub (fun _ h => List.mem_cons_of_mem _ (List.mem_append_left _ (List.mem_append_left _ (List.mem_append_right _ h)))) (by decide +kernel))
set_option maxRecDepth 20000 in
theorem gX5_addCue_X5_checkNumber : GoodIn wsX5_addCue (va_wsS RX5 72 yX5_checkNumber wsX5_checkNumber) := goodIn_app (goodIn_of _ (by decide +kernel)) ggX5_addCue_X5_checkNumber
set_option maxRecDepth 20000 in
theorem ggX5_addCue_X5_checkRange : GoodIn wsX5_addCue wsX5_checkRange := goodIn_ca (goodIn_r _ [11, 12, 13] (by decide +kernel) (by decide +kernel)) (goodIn_sub (fun _ h => List.mem_cons_of_mem _ (List.mem_append_left _ (List.mem_append_right _ h))) (by decide +kernel))
set_option maxRecDepth 20000 in
theorem gX5_addCue_X5_checkRange : GoodIn wsX5_addCue (va_wsS RX5 56 yX5_checkRange wsX5_checkRange) := goodIn_app (goodIn_of _ (by decide +kernel)) ggX5_addCue_X5_checkRange
set_option maxRecDepth 20000 in
theorem ggX5_addCue_X5_checkRoom : GoodIn wsX5_addCue wsX5_checkRoom := goodIn_ca (goodIn_r _ [16, 17, 18] (by decide +kernel) (by decide +kernel)) (goodIn_sub (fun _ h => List.mem_cons_of_mem _ (List.mem_append_right _ h)) (by decide +kernel))
set_option maxRecDepth 20000 in
theorem gX5_addCue_X5_checkRoom : GoodIn wsX5_addCue (va_wsS RX5 64 yX5_checkRoom wsX5_checkRoom) := goodIn_app (goodIn_of _ (by decide +kernel)) ggX5_addCue_X5_checkRoom
set_option maxRecDepth 20000 in
theorem ggX5_addCue_X1_append : GoodIn wsX5_addCue wsX1_append := goodIn_r _ [23, 24, 25, 94, 95, 96, 97, 98, 99, 100, 101, 102, 103, 104] (by decide +kernel) (by decide +kernel)
set_option maxRecDepth 20000 in
theorem gX5_addCue_X1_append : GoodIn wsX5_addCue (wsV RX5 100 RX1 yX1_append wsX1_append) := goodIn_app (goodIn_of _ (by decide +kernel)) ggX5_addCue_X1_append
set_option maxRecDepth 20000 in
theorem ggX5_addCue_X1_place : GoodIn wsX5_addCue wsX1_place := goodIn_r _ [29, 30, 31, 32, 94, 95, 96, 97, 98, 99, 100, 101, 102, 103, 104] (by decide +kernel) (by decide +kernel)
set_option maxRecDepth 20000 in
theorem gX5_addCue_X1_place : GoodIn wsX5_addCue (wsV RX5 102 RX1 yX1_place wsX1_place) := goodIn_app (goodIn_of _ (by decide +kernel)) ggX5_addCue_X1_place
set_option maxRecDepth 20000 in
theorem ggX5_addCue_X1_arrange : GoodIn wsX5_addCue wsX1_arrange := goodIn_r _ [36, 37, 38, 39, 22, 40, 25, 41, 42, 43, 44, 45, 30, 31, 46, 47, 48, 49, 50, 51, 52, 53, 54, 55, 56, 57, 58, 59, 60, 61, 62, 63, 64, 65, 66, 67, 68, 69, 70, 71, 24, 72, 73, 74, 75, 76, 77, 78, 79, 80, 81, 94, 95, 96, 97, 98, 99, 100, 101, 102, 103, 104, 90, 91, 92, 93] (by decide +kernel) (by decide +kernel)
set_option maxRecDepth 20000 in
theorem gX5_addCue_X1_arrange : GoodIn wsX5_addCue (wsV RX5 82 RX1 yX1_arrange wsX1_arrange) := goodIn_app (goodIn_of _ (by decide +kernel)) ggX5_addCue_X1_arrange
theorem dX5_addCue_0 : decode cX5_addCue 0 = .ok (.iload_n 1, 1) := by decide +kernel
theorem dX5_addCue_1 : decode cX5_addCue 1 = .ok (.aload_n 0, 1) := by decide +kernel
theorem dX5_addCue_2 : decode cX5_addCue 2 = .ok (.getfield 10, 3) := by decide +kernel
theorem dX5_addCue_5 : decode cX5_addCue 5 = .ok (.getfield 60, 3) := by decide +kernel
theorem dX5_addCue_8 : decode cX5_addCue 8 = .ok (.invokestatic 72, 3) := by decide +kernel
theorem dX5_addCue_11 : decode cX5_addCue 11 = .ok (.iload_n 2, 1) := by decide +kernel
theorem dX5_addCue_12 : decode cX5_addCue 12 = .ok (.iconst 0, 1) := by decide +kernel
theorem dX5_addCue_13 : decode cX5_addCue 13 = .ok (.bipush 60, 2) := by decide +kernel
theorem dX5_addCue_15 : decode cX5_addCue 15 = .ok (.invokestatic 56, 3) := by decide +kernel
theorem dX5_addCue_18 : decode cX5_addCue 18 = .ok (.iload_n 3, 1) := by decide +kernel
theorem dX5_addCue_19 : decode cX5_addCue 19 = .ok (.iconst 0, 1) := by decide +kernel
theorem dX5_addCue_20 : decode cX5_addCue 20 = .ok (.bipush 60, 2) := by decide +kernel
theorem dX5_addCue_22 : decode cX5_addCue 22 = .ok (.invokestatic 56, 3) := by decide +kernel
theorem dX5_addCue_25 : decode cX5_addCue 25 = .ok (.aload_n 0, 1) := by decide +kernel
theorem dX5_addCue_26 : decode cX5_addCue 26 = .ok (.getfield 26, 3) := by decide +kernel
theorem dX5_addCue_29 : decode cX5_addCue 29 = .ok (.getfield 99, 3) := by decide +kernel
theorem dX5_addCue_32 : decode cX5_addCue 32 = .ok (.bipush 20, 2) := by decide +kernel
theorem dX5_addCue_34 : decode cX5_addCue 34 = .ok (.invokestatic 64, 3) := by decide +kernel
theorem dX5_addCue_37 : decode cX5_addCue 37 = .ok (.aload_n 0, 1) := by decide +kernel
theorem dX5_addCue_38 : decode cX5_addCue 38 = .ok (.getfield 26, 3) := by decide +kernel
theorem dX5_addCue_41 : decode cX5_addCue 41 = .ok (.invokevirtual 100, 3) := by decide +kernel
theorem dX5_addCue_44 : decode cX5_addCue 44 = .ok (.istore 4, 2) := by decide +kernel
theorem dX5_addCue_46 : decode cX5_addCue 46 = .ok (.aload_n 0, 1) := by decide +kernel
theorem dX5_addCue_47 : decode cX5_addCue 47 = .ok (.getfield 26, 3) := by decide +kernel
theorem dX5_addCue_50 : decode cX5_addCue 50 = .ok (.iload 4, 2) := by decide +kernel
theorem dX5_addCue_52 : decode cX5_addCue 52 = .ok (.iload_n 1, 1) := by decide +kernel
theorem dX5_addCue_53 : decode cX5_addCue 53 = .ok (.iload_n 2, 1) := by decide +kernel
theorem dX5_addCue_54 : decode cX5_addCue 54 = .ok (.iload_n 3, 1) := by decide +kernel
theorem dX5_addCue_55 : decode cX5_addCue 55 = .ok (.invokevirtual 102, 3) := by decide +kernel
theorem dX5_addCue_58 : decode cX5_addCue 58 = .ok (.aload_n 0, 1) := by decide +kernel
theorem dX5_addCue_59 : decode cX5_addCue 59 = .ok (.getfield 26, 3) := by decide +kernel
theorem dX5_addCue_62 : decode cX5_addCue 62 = .ok (.aload_n 0, 1) := by decide +kernel
theorem dX5_addCue_63 : decode cX5_addCue 63 = .ok (.getfield 10, 3) := by decide +kernel
theorem dX5_addCue_66 : decode cX5_addCue 66 = .ok (.invokevirtual 82, 3) := by decide +kernel
theorem dX5_addCue_69 : decode cX5_addCue 69 = .ok (.iload 4, 2) := by decide +kernel
theorem dX5_addCue_71 : decode cX5_addCue 71 = .ok (.ireturn, 1) := by decide +kernel
set_option maxRecDepth 20000 in
theorem ggX5_move_X5_checkNumber : GoodIn wsX5_move wsX5_checkNumber := goodIn_ca (goodIn_r _ [6, 7, 8] (by decide +kernel) (by decide +kernel)) (goodIn_sub (fun _ h => List.mem_cons_of_mem _ (List.mem_append_left _ (List.mem_append_right _ h))) (by decide +kernel))
set_option maxRecDepth 20000 in
theorem gX5_move_X5_checkNumber : GoodIn wsX5_move (va_wsS RX5 72 yX5_checkNumber wsX5_checkNumber) := goodIn_app (goodIn_of _ (by decide +kernel)) ggX5_move_X5_checkNumber
set_option maxRecDepth 20000 in
theorem ggX5_move_X5_checkRange : GoodIn wsX5_move wsX5_checkRange := goodIn_ca (goodIn_r _ [11, 12, 13] (by decide +kernel) (by decide +kernel)) (goodIn_sub (fun _ h => List.mem_cons_of_mem _ (List.mem_append_right _ h)) (by decide +kernel))
set_option maxRecDepth 20000 in
theorem gX5_move_X5_checkRange : GoodIn wsX5_move (va_wsS RX5 56 yX5_checkRange wsX5_checkRange) := goodIn_app (goodIn_of _ (by decide +kernel)) ggX5_move_X5_checkRange
set_option maxRecDepth 20000 in
theorem ggX5_move_X1_place : GoodIn wsX5_move wsX1_place := goodIn_r _ [18, 19, 20, 21, 81, 82, 83, 84, 85, 86, 87, 88, 89, 90, 91] (by decide +kernel) (by decide +kernel)
set_option maxRecDepth 20000 in
theorem gX5_move_X1_place : GoodIn wsX5_move (wsV RX5 102 RX1 yX1_place wsX1_place) := goodIn_app (goodIn_of _ (by decide +kernel)) ggX5_move_X1_place
set_option maxRecDepth 20000 in
theorem ggX5_move_X1_arrange : GoodIn wsX5_move wsX1_arrange := goodIn_r _ [25, 26, 27, 28, 17, 29, 30, 31, 32, 33, 34, 35, 19, 20, 36, 37, 38, 39, 40, 41, 42, 43, 44, 45, 46, 47, 48, 49, 50, 51, 52, 53, 54, 55, 56, 57, 58, 59, 60, 61, 62, 63, 64, 65, 66, 67, 68, 69, 70, 71, 72, 81, 82, 83, 84, 85, 86, 87, 88, 89, 90, 91, 92, 93, 94, 95] (by decide +kernel) (by decide +kernel)
set_option maxRecDepth 20000 in
theorem gX5_move_X1_arrange : GoodIn wsX5_move (wsV RX5 82 RX1 yX1_arrange wsX1_arrange) := goodIn_app (goodIn_of _ (by decide +kernel)) ggX5_move_X1_arrange
theorem dX5_move_0 : decode cX5_move 0 = .ok (.iload_n 1, 1) := by decide +kernel
theorem dX5_move_1 : decode cX5_move 1 = .ok (.aload_n 0, 1) := by decide +kernel
theorem dX5_move_2 : decode cX5_move 2 = .ok (.getfield 26, 3) := by decide +kernel
theorem dX5_move_5 : decode cX5_move 5 = .ok (.getfield 99, 3) := by decide +kernel
theorem dX5_move_8 : decode cX5_move 8 = .ok (.invokestatic 72, 3) := by decide +kernel
theorem dX5_move_11 : decode cX5_move 11 = .ok (.iload_n 2, 1) := by decide +kernel
theorem dX5_move_12 : decode cX5_move 12 = .ok (.aload_n 0, 1) := by decide +kernel
theorem dX5_move_13 : decode cX5_move 13 = .ok (.getfield 10, 3) := by decide +kernel
theorem dX5_move_16 : decode cX5_move 16 = .ok (.getfield 60, 3) := by decide +kernel
theorem dX5_move_19 : decode cX5_move 19 = .ok (.invokestatic 72, 3) := by decide +kernel
theorem dX5_move_22 : decode cX5_move 22 = .ok (.iload_n 3, 1) := by decide +kernel
theorem dX5_move_23 : decode cX5_move 23 = .ok (.iconst 0, 1) := by decide +kernel
theorem dX5_move_24 : decode cX5_move 24 = .ok (.bipush 60, 2) := by decide +kernel
theorem dX5_move_26 : decode cX5_move 26 = .ok (.invokestatic 56, 3) := by decide +kernel
theorem dX5_move_29 : decode cX5_move 29 = .ok (.iload 4, 2) := by decide +kernel
theorem dX5_move_31 : decode cX5_move 31 = .ok (.iconst 0, 1) := by decide +kernel
theorem dX5_move_32 : decode cX5_move 32 = .ok (.bipush 60, 2) := by decide +kernel
theorem dX5_move_34 : decode cX5_move 34 = .ok (.invokestatic 56, 3) := by decide +kernel
theorem dX5_move_37 : decode cX5_move 37 = .ok (.aload_n 0, 1) := by decide +kernel
theorem dX5_move_38 : decode cX5_move 38 = .ok (.getfield 26, 3) := by decide +kernel
theorem dX5_move_41 : decode cX5_move 41 = .ok (.getfield 106, 3) := by decide +kernel
theorem dX5_move_44 : decode cX5_move 44 = .ok (.iload_n 1, 1) := by decide +kernel
theorem dX5_move_45 : decode cX5_move 45 = .ok (.iaload, 1) := by decide +kernel
theorem dX5_move_46 : decode cX5_move 46 = .ok (.istore 5, 2) := by decide +kernel
theorem dX5_move_48 : decode cX5_move 48 = .ok (.aload_n 0, 1) := by decide +kernel
theorem dX5_move_49 : decode cX5_move 49 = .ok (.getfield 26, 3) := by decide +kernel
theorem dX5_move_52 : decode cX5_move 52 = .ok (.iload_n 1, 1) := by decide +kernel
theorem dX5_move_53 : decode cX5_move 53 = .ok (.iload_n 2, 1) := by decide +kernel
theorem dX5_move_54 : decode cX5_move 54 = .ok (.iload_n 3, 1) := by decide +kernel
theorem dX5_move_55 : decode cX5_move 55 = .ok (.iload 4, 2) := by decide +kernel
theorem dX5_move_57 : decode cX5_move 57 = .ok (.invokevirtual 102, 3) := by decide +kernel
theorem dX5_move_60 : decode cX5_move 60 = .ok (.aload_n 0, 1) := by decide +kernel
theorem dX5_move_61 : decode cX5_move 61 = .ok (.getfield 26, 3) := by decide +kernel
theorem dX5_move_64 : decode cX5_move 64 = .ok (.aload_n 0, 1) := by decide +kernel
theorem dX5_move_65 : decode cX5_move 65 = .ok (.getfield 10, 3) := by decide +kernel
theorem dX5_move_68 : decode cX5_move 68 = .ok (.invokevirtual 82, 3) := by decide +kernel
theorem dX5_move_71 : decode cX5_move 71 = .ok (.iload 5, 2) := by decide +kernel
theorem dX5_move_73 : decode cX5_move 73 = .ok (.ireturn, 1) := by decide +kernel
set_option maxRecDepth 20000 in
theorem ggX5_change_X5_checkNumber : GoodIn wsX5_change wsX5_checkNumber := goodIn_ca (goodIn_r _ [6, 7, 8] (by decide +kernel) (by decide +kernel)) (goodIn_sub (fun _ h => List.mem_cons_of_mem _ (List.mem_append_left _ (List.mem_append_right _ h))) (by decide +kernel))
set_option maxRecDepth 20000 in
theorem gX5_change_X5_checkNumber : GoodIn wsX5_change (va_wsS RX5 72 yX5_checkNumber wsX5_checkNumber) := goodIn_app (goodIn_of _ (by decide +kernel)) ggX5_change_X5_checkNumber
set_option maxRecDepth 20000 in
theorem ggX5_change_X5_checkRange : GoodIn wsX5_change wsX5_checkRange := goodIn_ca (goodIn_r _ [11, 12, 13] (by decide +kernel) (by decide +kernel)) (goodIn_sub (fun _ h => List.mem_cons_of_mem _ (List.mem_append_right _ h)) (by decide +kernel))
set_option maxRecDepth 20000 in
theorem gX5_change_X5_checkRange : GoodIn wsX5_change (va_wsS RX5 56 yX5_checkRange wsX5_checkRange) := goodIn_app (goodIn_of _ (by decide +kernel)) ggX5_change_X5_checkRange
set_option maxRecDepth 20000 in
theorem ggX5_change_X1_arrange : GoodIn wsX5_change wsX1_arrange := goodIn_r _ [18, 19, 20, 21, 17, 22, 23, 24, 25, 26, 27, 28, 29, 30, 31, 32, 33, 34, 35, 36, 37, 38, 39, 40, 41, 42, 43, 44, 45, 46, 47, 48, 49, 50, 51, 52, 53, 54, 55, 56, 57, 58, 59, 60, 61, 62, 63, 64, 65, 66, 67, 76, 77, 78, 79, 80, 81, 82, 83, 84, 85, 86, 87, 88, 89, 90] (by decide +kernel) (by decide +kernel)
set_option maxRecDepth 20000 in
theorem gX5_change_X1_arrange : GoodIn wsX5_change (wsV RX5 82 RX1 yX1_arrange wsX1_arrange) := goodIn_app (goodIn_of _ (by decide +kernel)) ggX5_change_X1_arrange
theorem dX5_change_0 : decode cX5_change 0 = .ok (.iload_n 1, 1) := by decide +kernel
theorem dX5_change_1 : decode cX5_change 1 = .ok (.aload_n 0, 1) := by decide +kernel
theorem dX5_change_2 : decode cX5_change 2 = .ok (.getfield 26, 3) := by decide +kernel
theorem dX5_change_5 : decode cX5_change 5 = .ok (.getfield 99, 3) := by decide +kernel
theorem dX5_change_8 : decode cX5_change 8 = .ok (.invokestatic 72, 3) := by decide +kernel
theorem dX5_change_11 : decode cX5_change 11 = .ok (.iload_n 2, 1) := by decide +kernel
theorem dX5_change_12 : decode cX5_change 12 = .ok (.bipush 10, 2) := by decide +kernel
theorem dX5_change_14 : decode cX5_change 14 = .ok (.invokestatic 72, 3) := by decide +kernel
theorem dX5_change_17 : decode cX5_change 17 = .ok (.iload_n 3, 1) := by decide +kernel
theorem dX5_change_18 : decode cX5_change 18 = .ok (.iconst (-1), 1) := by decide +kernel
theorem dX5_change_19 : decode cX5_change 19 = .ok (.bipush 100, 2) := by decide +kernel
theorem dX5_change_21 : decode cX5_change 21 = .ok (.invokestatic 56, 3) := by decide +kernel
theorem dX5_change_24 : decode cX5_change 24 = .ok (.aload_n 0, 1) := by decide +kernel
theorem dX5_change_25 : decode cX5_change 25 = .ok (.getfield 26, 3) := by decide +kernel
theorem dX5_change_28 : decode cX5_change 28 = .ok (.getfield 109, 3) := by decide +kernel
theorem dX5_change_31 : decode cX5_change 31 = .ok (.iload_n 1, 1) := by decide +kernel
theorem dX5_change_32 : decode cX5_change 32 = .ok (.aaload, 1) := by decide +kernel
theorem dX5_change_33 : decode cX5_change 33 = .ok (.iload_n 2, 1) := by decide +kernel
theorem dX5_change_34 : decode cX5_change 34 = .ok (.iaload, 1) := by decide +kernel
theorem dX5_change_35 : decode cX5_change 35 = .ok (.istore 4, 2) := by decide +kernel
theorem dX5_change_37 : decode cX5_change 37 = .ok (.aload_n 0, 1) := by decide +kernel
theorem dX5_change_38 : decode cX5_change 38 = .ok (.getfield 26, 3) := by decide +kernel
theorem dX5_change_41 : decode cX5_change 41 = .ok (.getfield 109, 3) := by decide +kernel
theorem dX5_change_44 : decode cX5_change 44 = .ok (.iload_n 1, 1) := by decide +kernel
theorem dX5_change_45 : decode cX5_change 45 = .ok (.aaload, 1) := by decide +kernel
theorem dX5_change_46 : decode cX5_change 46 = .ok (.iload_n 2, 1) := by decide +kernel
theorem dX5_change_47 : decode cX5_change 47 = .ok (.iload_n 3, 1) := by decide +kernel
theorem dX5_change_48 : decode cX5_change 48 = .ok (.iastore, 1) := by decide +kernel
theorem dX5_change_49 : decode cX5_change 49 = .ok (.aload_n 0, 1) := by decide +kernel
theorem dX5_change_50 : decode cX5_change 50 = .ok (.getfield 26, 3) := by decide +kernel
theorem dX5_change_53 : decode cX5_change 53 = .ok (.aload_n 0, 1) := by decide +kernel
theorem dX5_change_54 : decode cX5_change 54 = .ok (.getfield 10, 3) := by decide +kernel
theorem dX5_change_57 : decode cX5_change 57 = .ok (.invokevirtual 82, 3) := by decide +kernel
theorem dX5_change_60 : decode cX5_change 60 = .ok (.iload 4, 2) := by decide +kernel
theorem dX5_change_62 : decode cX5_change 62 = .ok (.ireturn, 1) := by decide +kernel
theorem dX5_cues_0 : decode cX5_cues 0 = .ok (.aload_n 0, 1) := by decide +kernel
theorem dX5_cues_1 : decode cX5_cues 1 = .ok (.getfield 26, 3) := by decide +kernel
theorem dX5_cues_4 : decode cX5_cues 4 = .ok (.getfield 99, 3) := by decide +kernel
theorem dX5_cues_7 : decode cX5_cues 7 = .ok (.ireturn, 1) := by decide +kernel
set_option maxRecDepth 20000 in
theorem ggX5_cueAt_X5_checkNumber : GoodIn wsX5_cueAt wsX5_checkNumber := goodIn_ca (goodIn_r _ [5, 6, 7] (by decide +kernel) (by decide +kernel)) (goodIn_sub (fun _ h => List.mem_cons_of_mem _ (List.mem_append_right _ h)) (by decide +kernel))
set_option maxRecDepth 20000 in
theorem gX5_cueAt_X5_checkNumber : GoodIn wsX5_cueAt (va_wsS RX5 72 yX5_checkNumber wsX5_checkNumber) := goodIn_app (goodIn_of _ (by decide +kernel)) ggX5_cueAt_X5_checkNumber
theorem dX5_cueAt_0 : decode cX5_cueAt 0 = .ok (.iload_n 1, 1) := by decide +kernel
theorem dX5_cueAt_1 : decode cX5_cueAt 1 = .ok (.aload_n 0, 1) := by decide +kernel
theorem dX5_cueAt_2 : decode cX5_cueAt 2 = .ok (.getfield 26, 3) := by decide +kernel
theorem dX5_cueAt_5 : decode cX5_cueAt 5 = .ok (.getfield 99, 3) := by decide +kernel
theorem dX5_cueAt_8 : decode cX5_cueAt 8 = .ok (.invokestatic 72, 3) := by decide +kernel
theorem dX5_cueAt_11 : decode cX5_cueAt 11 = .ok (.aload_n 0, 1) := by decide +kernel
theorem dX5_cueAt_12 : decode cX5_cueAt 12 = .ok (.getfield 26, 3) := by decide +kernel
theorem dX5_cueAt_15 : decode cX5_cueAt 15 = .ok (.getfield 112, 3) := by decide +kernel
theorem dX5_cueAt_18 : decode cX5_cueAt 18 = .ok (.iload_n 1, 1) := by decide +kernel
theorem dX5_cueAt_19 : decode cX5_cueAt 19 = .ok (.iaload, 1) := by decide +kernel
theorem dX5_cueAt_20 : decode cX5_cueAt 20 = .ok (.ireturn, 1) := by decide +kernel
set_option maxRecDepth 20000 in
theorem ggX5_timeOf_X5_checkNumber : GoodIn wsX5_timeOf wsX5_checkNumber := goodIn_ca (goodIn_r _ [5, 6, 7] (by decide +kernel) (by decide +kernel)) (goodIn_sub (fun _ h => List.mem_cons_of_mem _ (List.mem_append_right _ h)) (by decide +kernel))
set_option maxRecDepth 20000 in
theorem gX5_timeOf_X5_checkNumber : GoodIn wsX5_timeOf (va_wsS RX5 72 yX5_checkNumber wsX5_checkNumber) := goodIn_app (goodIn_of _ (by decide +kernel)) ggX5_timeOf_X5_checkNumber
theorem dX5_timeOf_0 : decode cX5_timeOf 0 = .ok (.iload_n 1, 1) := by decide +kernel
theorem dX5_timeOf_1 : decode cX5_timeOf 1 = .ok (.aload_n 0, 1) := by decide +kernel
theorem dX5_timeOf_2 : decode cX5_timeOf 2 = .ok (.getfield 26, 3) := by decide +kernel
theorem dX5_timeOf_5 : decode cX5_timeOf 5 = .ok (.getfield 99, 3) := by decide +kernel
theorem dX5_timeOf_8 : decode cX5_timeOf 8 = .ok (.invokestatic 72, 3) := by decide +kernel
theorem dX5_timeOf_11 : decode cX5_timeOf 11 = .ok (.aload_n 0, 1) := by decide +kernel
theorem dX5_timeOf_12 : decode cX5_timeOf 12 = .ok (.getfield 26, 3) := by decide +kernel
theorem dX5_timeOf_15 : decode cX5_timeOf 15 = .ok (.getfield 115, 3) := by decide +kernel
theorem dX5_timeOf_18 : decode cX5_timeOf 18 = .ok (.iload_n 1, 1) := by decide +kernel
theorem dX5_timeOf_19 : decode cX5_timeOf 19 = .ok (.iaload, 1) := by decide +kernel
theorem dX5_timeOf_20 : decode cX5_timeOf 20 = .ok (.ireturn, 1) := by decide +kernel
set_option maxRecDepth 20000 in
theorem ggX5_foldedInto_X5_checkNumber : GoodIn wsX5_foldedInto wsX5_checkNumber := goodIn_ca (goodIn_r _ [5, 6, 7] (by decide +kernel) (by decide +kernel)) (goodIn_sub (fun _ h => List.mem_cons_of_mem _ (List.mem_append_right _ h)) (by decide +kernel))
set_option maxRecDepth 20000 in
theorem gX5_foldedInto_X5_checkNumber : GoodIn wsX5_foldedInto (va_wsS RX5 72 yX5_checkNumber wsX5_checkNumber) := goodIn_app (goodIn_of _ (by decide +kernel)) ggX5_foldedInto_X5_checkNumber
theorem dX5_foldedInto_0 : decode cX5_foldedInto 0 = .ok (.iload_n 1, 1) := by decide +kernel
theorem dX5_foldedInto_1 : decode cX5_foldedInto 1 = .ok (.aload_n 0, 1) := by decide +kernel
theorem dX5_foldedInto_2 : decode cX5_foldedInto 2 = .ok (.getfield 26, 3) := by decide +kernel
theorem dX5_foldedInto_5 : decode cX5_foldedInto 5 = .ok (.getfield 99, 3) := by decide +kernel
theorem dX5_foldedInto_8 : decode cX5_foldedInto 8 = .ok (.invokestatic 72, 3) := by decide +kernel
theorem dX5_foldedInto_11 : decode cX5_foldedInto 11 = .ok (.aload_n 0, 1) := by decide +kernel
theorem dX5_foldedInto_12 : decode cX5_foldedInto 12 = .ok (.getfield 26, 3) := by decide +kernel
theorem dX5_foldedInto_15 : decode cX5_foldedInto 15 = .ok (.getfield 118, 3) := by decide +kernel
theorem dX5_foldedInto_18 : decode cX5_foldedInto 18 = .ok (.iload_n 1, 1) := by decide +kernel
theorem dX5_foldedInto_19 : decode cX5_foldedInto 19 = .ok (.iaload, 1) := by decide +kernel
theorem dX5_foldedInto_20 : decode cX5_foldedInto 20 = .ok (.ireturn, 1) := by decide +kernel
set_option maxRecDepth 20000 in
theorem ggX5_changes_X5_checkNumber : GoodIn wsX5_changes wsX5_checkNumber := goodIn_ca (goodIn_r _ [5, 6, 7] (by decide +kernel) (by decide +kernel)) (goodIn_sub (fun _ h => List.mem_cons_of_mem _ (List.mem_append_right _ h)) (by decide +kernel))
set_option maxRecDepth 20000 in
theorem gX5_changes_X5_checkNumber : GoodIn wsX5_changes (va_wsS RX5 72 yX5_checkNumber wsX5_checkNumber) := goodIn_app (goodIn_of _ (by decide +kernel)) ggX5_changes_X5_checkNumber
theorem dX5_changes_0 : decode cX5_changes 0 = .ok (.iload_n 1, 1) := by decide +kernel
theorem dX5_changes_1 : decode cX5_changes 1 = .ok (.aload_n 0, 1) := by decide +kernel
theorem dX5_changes_2 : decode cX5_changes 2 = .ok (.getfield 26, 3) := by decide +kernel
theorem dX5_changes_5 : decode cX5_changes 5 = .ok (.getfield 99, 3) := by decide +kernel
theorem dX5_changes_8 : decode cX5_changes 8 = .ok (.invokestatic 72, 3) := by decide +kernel
theorem dX5_changes_11 : decode cX5_changes 11 = .ok (.iload_n 2, 1) := by decide +kernel
theorem dX5_changes_12 : decode cX5_changes 12 = .ok (.bipush 10, 2) := by decide +kernel
theorem dX5_changes_14 : decode cX5_changes 14 = .ok (.invokestatic 72, 3) := by decide +kernel
theorem dX5_changes_17 : decode cX5_changes 17 = .ok (.aload_n 0, 1) := by decide +kernel
theorem dX5_changes_18 : decode cX5_changes 18 = .ok (.getfield 26, 3) := by decide +kernel
theorem dX5_changes_21 : decode cX5_changes 21 = .ok (.getfield 121, 3) := by decide +kernel
theorem dX5_changes_24 : decode cX5_changes 24 = .ok (.iload_n 1, 1) := by decide +kernel
theorem dX5_changes_25 : decode cX5_changes 25 = .ok (.aaload, 1) := by decide +kernel
theorem dX5_changes_26 : decode cX5_changes 26 = .ok (.iload_n 2, 1) := by decide +kernel
theorem dX5_changes_27 : decode cX5_changes 27 = .ok (.iaload, 1) := by decide +kernel
theorem dX5_changes_28 : decode cX5_changes 28 = .ok (.ireturn, 1) := by decide +kernel
set_option maxRecDepth 20000 in
theorem ggX5_levelAt_X5_checkNumber : GoodIn wsX5_levelAt wsX5_checkNumber := goodIn_ca (goodIn_r _ [5, 6, 7] (by decide +kernel) (by decide +kernel)) (goodIn_sub (fun _ h => List.mem_cons_of_mem _ (List.mem_append_left _ (List.mem_append_right _ h))) (by decide +kernel))
set_option maxRecDepth 20000 in
theorem gX5_levelAt_X5_checkNumber : GoodIn wsX5_levelAt (va_wsS RX5 72 yX5_checkNumber wsX5_checkNumber) := goodIn_app (goodIn_of _ (by decide +kernel)) ggX5_levelAt_X5_checkNumber
set_option maxRecDepth 20000 in
theorem ggX5_levelAt_X5_checkRange : GoodIn wsX5_levelAt wsX5_checkRange := goodIn_ca (goodIn_r _ [10, 11, 12] (by decide +kernel) (by decide +kernel)) (goodIn_sub (fun _ h => List.mem_cons_of_mem _ (List.mem_append_right _ h)) (by decide +kernel))
set_option maxRecDepth 20000 in
theorem gX5_levelAt_X5_checkRange : GoodIn wsX5_levelAt (va_wsS RX5 56 yX5_checkRange wsX5_checkRange) := goodIn_app (goodIn_of _ (by decide +kernel)) ggX5_levelAt_X5_checkRange
set_option maxRecDepth 20000 in
theorem ggX5_levelAt_X1_levelByFades : GoodIn wsX5_levelAt wsX1_levelByFades := goodIn_r _ [17, 18, 19, 20, 21, 22, 23, 24, 16, 25, 34, 35, 36, 37, 38, 39, 40, 41, 42, 43, 44] (by decide +kernel) (by decide +kernel)
set_option maxRecDepth 20000 in
theorem gX5_levelAt_X1_levelByFades : GoodIn wsX5_levelAt (wsV RX5 124 RX1 yX1_levelByFades wsX1_levelByFades) := goodIn_app (goodIn_of _ (by decide +kernel)) ggX5_levelAt_X1_levelByFades
theorem dX5_levelAt_0 : decode cX5_levelAt 0 = .ok (.iload_n 1, 1) := by decide +kernel
theorem dX5_levelAt_1 : decode cX5_levelAt 1 = .ok (.bipush 10, 2) := by decide +kernel
theorem dX5_levelAt_3 : decode cX5_levelAt 3 = .ok (.invokestatic 72, 3) := by decide +kernel
theorem dX5_levelAt_6 : decode cX5_levelAt 6 = .ok (.iload_n 2, 1) := by decide +kernel
theorem dX5_levelAt_7 : decode cX5_levelAt 7 = .ok (.iconst 0, 1) := by decide +kernel
theorem dX5_levelAt_8 : decode cX5_levelAt 8 = .ok (.sipush 2000, 3) := by decide +kernel
theorem dX5_levelAt_11 : decode cX5_levelAt 11 = .ok (.invokestatic 56, 3) := by decide +kernel
theorem dX5_levelAt_14 : decode cX5_levelAt 14 = .ok (.aload_n 0, 1) := by decide +kernel
theorem dX5_levelAt_15 : decode cX5_levelAt 15 = .ok (.getfield 26, 3) := by decide +kernel
theorem dX5_levelAt_18 : decode cX5_levelAt 18 = .ok (.iload_n 1, 1) := by decide +kernel
theorem dX5_levelAt_19 : decode cX5_levelAt 19 = .ok (.iload_n 2, 1) := by decide +kernel
theorem dX5_levelAt_20 : decode cX5_levelAt 20 = .ok (.invokevirtual 124, 3) := by decide +kernel
theorem dX5_levelAt_23 : decode cX5_levelAt 23 = .ok (.ireturn, 1) := by decide +kernel
set_option maxRecDepth 20000 in
theorem ggX5_levelBySeconds_X5_checkNumber : GoodIn wsX5_levelBySeconds wsX5_checkNumber := goodIn_ca (goodIn_r _ [5, 6, 7] (by decide +kernel) (by decide +kernel)) (goodIn_sub (fun _ h => List.mem_cons_of_mem _ (List.mem_append_left _ (List.mem_append_right _ h))) (by decide +kernel))
set_option maxRecDepth 20000 in
theorem gX5_levelBySeconds_X5_checkNumber : GoodIn wsX5_levelBySeconds (va_wsS RX5 72 yX5_checkNumber wsX5_checkNumber) := goodIn_app (goodIn_of _ (by decide +kernel)) ggX5_levelBySeconds_X5_checkNumber
set_option maxRecDepth 20000 in
theorem ggX5_levelBySeconds_X5_checkRange : GoodIn wsX5_levelBySeconds wsX5_checkRange := goodIn_ca (goodIn_r _ [10, 11, 12] (by decide +kernel) (by decide +kernel)) (goodIn_sub (fun _ h => List.mem_cons_of_mem _ (List.mem_append_right _ h)) (by decide +kernel))
set_option maxRecDepth 20000 in
theorem gX5_levelBySeconds_X5_checkRange : GoodIn wsX5_levelBySeconds (va_wsS RX5 56 yX5_checkRange wsX5_checkRange) := goodIn_app (goodIn_of _ (by decide +kernel)) ggX5_levelBySeconds_X5_checkRange
set_option maxRecDepth 20000 in
theorem ggX5_levelBySeconds_X1_levelByTicks : GoodIn wsX5_levelBySeconds wsX1_levelByTicks := goodIn_r _ [17, 18, 19, 20, 21, 22, 23, 24, 16, 25, 34, 35, 36, 37, 38, 39, 40, 41, 42, 43, 44] (by decide +kernel) (by decide +kernel)
set_option maxRecDepth 20000 in
theorem gX5_levelBySeconds_X1_levelByTicks : GoodIn wsX5_levelBySeconds (wsV RX5 128 RX1 yX1_levelByTicks wsX1_levelByTicks) := goodIn_app (goodIn_of _ (by decide +kernel)) ggX5_levelBySeconds_X1_levelByTicks
theorem dX5_levelBySeconds_0 : decode cX5_levelBySeconds 0 = .ok (.iload_n 1, 1) := by decide +kernel
theorem dX5_levelBySeconds_1 : decode cX5_levelBySeconds 1 = .ok (.bipush 10, 2) := by decide +kernel
theorem dX5_levelBySeconds_3 : decode cX5_levelBySeconds 3 = .ok (.invokestatic 72, 3) := by decide +kernel
theorem dX5_levelBySeconds_6 : decode cX5_levelBySeconds 6 = .ok (.iload_n 2, 1) := by decide +kernel
theorem dX5_levelBySeconds_7 : decode cX5_levelBySeconds 7 = .ok (.iconst 0, 1) := by decide +kernel
theorem dX5_levelBySeconds_8 : decode cX5_levelBySeconds 8 = .ok (.sipush 2000, 3) := by decide +kernel
theorem dX5_levelBySeconds_11 : decode cX5_levelBySeconds 11 = .ok (.invokestatic 56, 3) := by decide +kernel
theorem dX5_levelBySeconds_14 : decode cX5_levelBySeconds 14 = .ok (.aload_n 0, 1) := by decide +kernel
theorem dX5_levelBySeconds_15 : decode cX5_levelBySeconds 15 = .ok (.getfield 26, 3) := by decide +kernel
theorem dX5_levelBySeconds_18 : decode cX5_levelBySeconds 18 = .ok (.iload_n 1, 1) := by decide +kernel
theorem dX5_levelBySeconds_19 : decode cX5_levelBySeconds 19 = .ok (.iload_n 2, 1) := by decide +kernel
theorem dX5_levelBySeconds_20 : decode cX5_levelBySeconds 20 = .ok (.invokevirtual 128, 3) := by decide +kernel
theorem dX5_levelBySeconds_23 : decode cX5_levelBySeconds 23 = .ok (.ireturn, 1) := by decide +kernel
set_option maxRecDepth 20000 in
theorem ggX5_addLamp_X5_checkNumber : GoodIn wsX5_addLamp wsX5_checkNumber := goodIn_ca (goodIn_r _ [5, 6, 7] (by decide +kernel) (by decide +kernel)) (goodIn_sub (fun _ h => List.mem_cons_of_mem _ (List.mem_append_left _ (List.mem_append_left _ (List.mem_append_right _ h)))) (by decide +kernel))
set_option maxRecDepth 20000 in
theorem gX5_addLamp_X5_checkNumber : GoodIn wsX5_addLamp (va_wsS RX5 72 yX5_checkNumber wsX5_checkNumber) := goodIn_app (goodIn_of _ (by decide +kernel)) ggX5_addLamp_X5_checkNumber
set_option maxRecDepth 20000 in
theorem ggX5_addLamp_X5_checkRange : GoodIn wsX5_addLamp wsX5_checkRange := goodIn_ca (goodIn_r _ [10, 11, 12] (by decide +kernel) (by decide +kernel)) (goodIn_sub (fun _ h => List.mem_cons_of_mem _ (List.mem_append_left _ (List.mem_append_right _ h))) (by decide +kernel))
set_option maxRecDepth 20000 in
theorem gX5_addLamp_X5_checkRange : GoodIn wsX5_addLamp (va_wsS RX5 56 yX5_checkRange wsX5_checkRange) := goodIn_app (goodIn_of _ (by decide +kernel)) ggX5_addLamp_X5_checkRange
set_option maxRecDepth 20000 in
theorem ggX5_addLamp_X5_checkRoom : GoodIn wsX5_addLamp wsX5_checkRoom := goodIn_ca (goodIn_r _ [15, 16, 17] (by decide +kernel) (by decide +kernel)) (goodIn_sub (fun _ h => List.mem_cons_of_mem _ (List.mem_append_right _ h)) (by decide +kernel))
set_option maxRecDepth 20000 in
theorem gX5_addLamp_X5_checkRoom : GoodIn wsX5_addLamp (va_wsS RX5 64 yX5_checkRoom wsX5_checkRoom) := goodIn_app (goodIn_of _ (by decide +kernel)) ggX5_addLamp_X5_checkRoom
set_option maxRecDepth 20000 in
theorem ggX5_addLamp_X3_append : GoodIn wsX5_addLamp wsX3_append := goodIn_r _ [22, 23, 24, 25, 26, 27, 28, 29, 30, 21, 31, 32, 33, 34, 35, 36, 37, 46, 47, 48, 49, 50, 51, 52, 53, 54] (by decide +kernel) (by decide +kernel)
set_option maxRecDepth 20000 in
theorem gX5_addLamp_X3_append : GoodIn wsX5_addLamp (wsV RX5 132 RX3 yX3_append wsX3_append) := goodIn_app (goodIn_of _ (by decide +kernel)) ggX5_addLamp_X3_append
theorem dX5_addLamp_0 : decode cX5_addLamp 0 = .ok (.iload_n 1, 1) := by decide +kernel
theorem dX5_addLamp_1 : decode cX5_addLamp 1 = .ok (.iconst 4, 1) := by decide +kernel
theorem dX5_addLamp_2 : decode cX5_addLamp 2 = .ok (.invokestatic 72, 3) := by decide +kernel
theorem dX5_addLamp_5 : decode cX5_addLamp 5 = .ok (.iload_n 2, 1) := by decide +kernel
theorem dX5_addLamp_6 : decode cX5_addLamp 6 = .ok (.iconst 4, 1) := by decide +kernel
theorem dX5_addLamp_7 : decode cX5_addLamp 7 = .ok (.invokestatic 72, 3) := by decide +kernel
theorem dX5_addLamp_10 : decode cX5_addLamp 10 = .ok (.iload_n 3, 1) := by decide +kernel
theorem dX5_addLamp_11 : decode cX5_addLamp 11 = .ok (.iconst 0, 1) := by decide +kernel
theorem dX5_addLamp_12 : decode cX5_addLamp 12 = .ok (.iconst 2, 1) := by decide +kernel
theorem dX5_addLamp_13 : decode cX5_addLamp 13 = .ok (.invokestatic 56, 3) := by decide +kernel
theorem dX5_addLamp_16 : decode cX5_addLamp 16 = .ok (.iload 4, 2) := by decide +kernel
theorem dX5_addLamp_18 : decode cX5_addLamp 18 = .ok (.iconst 1, 1) := by decide +kernel
theorem dX5_addLamp_19 : decode cX5_addLamp 19 = .ok (.bipush 100, 2) := by decide +kernel
theorem dX5_addLamp_21 : decode cX5_addLamp 21 = .ok (.invokestatic 56, 3) := by decide +kernel
theorem dX5_addLamp_24 : decode cX5_addLamp 24 = .ok (.aload_n 0, 1) := by decide +kernel
theorem dX5_addLamp_25 : decode cX5_addLamp 25 = .ok (.getfield 33, 3) := by decide +kernel
theorem dX5_addLamp_28 : decode cX5_addLamp 28 = .ok (.getfield 131, 3) := by decide +kernel
theorem dX5_addLamp_31 : decode cX5_addLamp 31 = .ok (.bipush 20, 2) := by decide +kernel
theorem dX5_addLamp_33 : decode cX5_addLamp 33 = .ok (.invokestatic 64, 3) := by decide +kernel
theorem dX5_addLamp_36 : decode cX5_addLamp 36 = .ok (.aload_n 0, 1) := by decide +kernel
theorem dX5_addLamp_37 : decode cX5_addLamp 37 = .ok (.getfield 33, 3) := by decide +kernel
theorem dX5_addLamp_40 : decode cX5_addLamp 40 = .ok (.iload_n 1, 1) := by decide +kernel
theorem dX5_addLamp_41 : decode cX5_addLamp 41 = .ok (.iload_n 2, 1) := by decide +kernel
theorem dX5_addLamp_42 : decode cX5_addLamp 42 = .ok (.iload_n 3, 1) := by decide +kernel
theorem dX5_addLamp_43 : decode cX5_addLamp 43 = .ok (.iload 4, 2) := by decide +kernel
theorem dX5_addLamp_45 : decode cX5_addLamp 45 = .ok (.invokevirtual 132, 3) := by decide +kernel
theorem dX5_addLamp_48 : decode cX5_addLamp 48 = .ok (.ireturn, 1) := by decide +kernel
set_option maxRecDepth 20000 in
theorem ggX5_borrow_X5_checkNumber : GoodIn wsX5_borrow wsX5_checkNumber := goodIn_ca (goodIn_r _ [5, 6, 7] (by decide +kernel) (by decide +kernel)) (goodIn_sub (fun _ h => List.mem_cons_of_mem _ (List.mem_append_left _ (List.mem_append_right _ h))) (by decide +kernel))
set_option maxRecDepth 20000 in
theorem gX5_borrow_X5_checkNumber : GoodIn wsX5_borrow (va_wsS RX5 72 yX5_checkNumber wsX5_checkNumber) := goodIn_app (goodIn_of _ (by decide +kernel)) ggX5_borrow_X5_checkNumber
set_option maxRecDepth 20000 in
theorem ggX5_borrow_X3_canGo : GoodIn wsX5_borrow wsX3_canGo := goodIn_r _ [12, 13, 14, 15, 16, 11, 17, 18, 37, 38, 39, 40, 41, 42, 43, 44, 45] (by decide +kernel) (by decide +kernel)
set_option maxRecDepth 20000 in
theorem gX5_borrow_X3_canGo : GoodIn wsX5_borrow (wsV RX5 135 RX3 yX3_canGo wsX3_canGo) := goodIn_app (goodIn_of _ (by decide +kernel)) ggX5_borrow_X3_canGo
set_option maxRecDepth 20000 in
theorem ggX5_borrow_X5_checkState : GoodIn wsX5_borrow wsX5_checkState := goodIn_ca (goodIn_r _ [21, 22, 23] (by decide +kernel) (by decide +kernel)) (goodIn_sub (fun _ h => List.mem_cons_of_mem _ (List.mem_append_right _ h)) (by decide +kernel))
set_option maxRecDepth 20000 in
theorem gX5_borrow_X5_checkState : GoodIn wsX5_borrow (va_wsS RX5 139 yX5_checkState wsX5_checkState) := goodIn_app (goodIn_of _ (by decide +kernel)) ggX5_borrow_X5_checkState
set_option maxRecDepth 20000 in
theorem ggX5_borrow_X3_put : GoodIn wsX5_borrow wsX3_put := goodIn_r _ [27, 18, 28, 37, 38, 39, 40, 41, 42, 43, 44, 45] (by decide +kernel) (by decide +kernel)
set_option maxRecDepth 20000 in
theorem gX5_borrow_X3_put : GoodIn wsX5_borrow (wsV RX5 143 RX3 yX3_put wsX3_put) := goodIn_app (goodIn_of _ (by decide +kernel)) ggX5_borrow_X3_put
theorem dX5_borrow_0 : decode cX5_borrow 0 = .ok (.iload_n 1, 1) := by decide +kernel
theorem dX5_borrow_1 : decode cX5_borrow 1 = .ok (.aload_n 0, 1) := by decide +kernel
theorem dX5_borrow_2 : decode cX5_borrow 2 = .ok (.getfield 33, 3) := by decide +kernel
theorem dX5_borrow_5 : decode cX5_borrow 5 = .ok (.getfield 131, 3) := by decide +kernel
theorem dX5_borrow_8 : decode cX5_borrow 8 = .ok (.invokestatic 72, 3) := by decide +kernel
theorem dX5_borrow_11 : decode cX5_borrow 11 = .ok (.iload_n 2, 1) := by decide +kernel
theorem dX5_borrow_12 : decode cX5_borrow 12 = .ok (.iconst 4, 1) := by decide +kernel
theorem dX5_borrow_13 : decode cX5_borrow 13 = .ok (.invokestatic 72, 3) := by decide +kernel
theorem dX5_borrow_16 : decode cX5_borrow 16 = .ok (.iload_n 3, 1) := by decide +kernel
theorem dX5_borrow_17 : decode cX5_borrow 17 = .ok (.iconst 4, 1) := by decide +kernel
theorem dX5_borrow_18 : decode cX5_borrow 18 = .ok (.invokestatic 72, 3) := by decide +kernel
theorem dX5_borrow_21 : decode cX5_borrow 21 = .ok (.aload_n 0, 1) := by decide +kernel
theorem dX5_borrow_22 : decode cX5_borrow 22 = .ok (.getfield 33, 3) := by decide +kernel
theorem dX5_borrow_25 : decode cX5_borrow 25 = .ok (.iload_n 1, 1) := by decide +kernel
theorem dX5_borrow_26 : decode cX5_borrow 26 = .ok (.iload_n 2, 1) := by decide +kernel
theorem dX5_borrow_27 : decode cX5_borrow 27 = .ok (.invokevirtual 135, 3) := by decide +kernel
theorem dX5_borrow_30 : decode cX5_borrow 30 = .ok (.invokestatic 139, 3) := by decide +kernel
theorem dX5_borrow_33 : decode cX5_borrow 33 = .ok (.aload_n 0, 1) := by decide +kernel
theorem dX5_borrow_34 : decode cX5_borrow 34 = .ok (.getfield 33, 3) := by decide +kernel
theorem dX5_borrow_37 : decode cX5_borrow 37 = .ok (.iload_n 1, 1) := by decide +kernel
theorem dX5_borrow_38 : decode cX5_borrow 38 = .ok (.iload_n 2, 1) := by decide +kernel
theorem dX5_borrow_39 : decode cX5_borrow 39 = .ok (.iload_n 3, 1) := by decide +kernel
theorem dX5_borrow_40 : decode cX5_borrow 40 = .ok (.invokevirtual 143, 3) := by decide +kernel
theorem dX5_borrow_43 : decode cX5_borrow 43 = .ok (.aload_n 0, 1) := by decide +kernel
theorem dX5_borrow_44 : decode cX5_borrow 44 = .ok (.getfield 33, 3) := by decide +kernel
theorem dX5_borrow_47 : decode cX5_borrow 47 = .ok (.getfield 146, 3) := by decide +kernel
theorem dX5_borrow_50 : decode cX5_borrow 50 = .ok (.iload_n 1, 1) := by decide +kernel
theorem dX5_borrow_51 : decode cX5_borrow 51 = .ok (.iaload, 1) := by decide +kernel
theorem dX5_borrow_52 : decode cX5_borrow 52 = .ok (.ireturn, 1) := by decide +kernel
set_option maxRecDepth 20000 in
theorem ggX5_bringBack_X5_checkNumber : GoodIn wsX5_bringBack wsX5_checkNumber := goodIn_ca (goodIn_r _ [5, 6, 7] (by decide +kernel) (by decide +kernel)) (goodIn_sub (fun _ h => List.mem_cons_of_mem _ (List.mem_append_left _ (List.mem_append_right _ h))) (by decide +kernel))
set_option maxRecDepth 20000 in
theorem gX5_bringBack_X5_checkNumber : GoodIn wsX5_bringBack (va_wsS RX5 72 yX5_checkNumber wsX5_checkNumber) := goodIn_app (goodIn_of _ (by decide +kernel)) ggX5_bringBack_X5_checkNumber
set_option maxRecDepth 20000 in
theorem ggX5_bringBack_X3_isHome : GoodIn wsX5_bringBack wsX3_isHome := goodIn_r _ [12, 13, 14, 38, 39, 40, 41, 42, 43, 44, 45, 46] (by decide +kernel) (by decide +kernel)
set_option maxRecDepth 20000 in
theorem gX5_bringBack_X3_isHome : GoodIn wsX5_bringBack (wsV RX5 149 RX3 yX3_isHome wsX3_isHome) := goodIn_app (goodIn_of _ (by decide +kernel)) ggX5_bringBack_X3_isHome
set_option maxRecDepth 20000 in
theorem ggX5_bringBack_X5_checkState : GoodIn wsX5_bringBack wsX5_checkState := goodIn_ca (goodIn_r _ [17, 18, 19] (by decide +kernel) (by decide +kernel)) (goodIn_sub (fun _ h => List.mem_cons_of_mem _ (List.mem_append_right _ h)) (by decide +kernel))
set_option maxRecDepth 20000 in
theorem gX5_bringBack_X5_checkState : GoodIn wsX5_bringBack (va_wsS RX5 139 yX5_checkState wsX5_checkState) := goodIn_app (goodIn_of _ (by decide +kernel)) ggX5_bringBack_X5_checkState
set_option maxRecDepth 20000 in
theorem ggX5_bringBack_X3_putHome : GoodIn wsX5_bringBack wsX3_putHome := goodIn_r _ [23, 14, 24, 25, 26, 27, 11, 28, 13, 29, 38, 39, 40, 41, 42, 43, 44, 45, 46] (by decide +kernel) (by decide +kernel)
set_option maxRecDepth 20000 in
theorem gX5_bringBack_X3_putHome : GoodIn wsX5_bringBack (wsV RX5 156 RX3 yX3_putHome wsX3_putHome) := goodIn_app (goodIn_of _ (by decide +kernel)) ggX5_bringBack_X3_putHome
theorem dX5_bringBack_0 : decode cX5_bringBack 0 = .ok (.iload_n 1, 1) := by decide +kernel
theorem dX5_bringBack_1 : decode cX5_bringBack 1 = .ok (.aload_n 0, 1) := by decide +kernel
theorem dX5_bringBack_2 : decode cX5_bringBack 2 = .ok (.getfield 33, 3) := by decide +kernel
theorem dX5_bringBack_5 : decode cX5_bringBack 5 = .ok (.getfield 131, 3) := by decide +kernel
theorem dX5_bringBack_8 : decode cX5_bringBack 8 = .ok (.invokestatic 72, 3) := by decide +kernel
theorem dX5_bringBack_11 : decode cX5_bringBack 11 = .ok (.aload_n 0, 1) := by decide +kernel
theorem dX5_bringBack_12 : decode cX5_bringBack 12 = .ok (.getfield 33, 3) := by decide +kernel
theorem dX5_bringBack_15 : decode cX5_bringBack 15 = .ok (.iload_n 1, 1) := by decide +kernel
theorem dX5_bringBack_16 : decode cX5_bringBack 16 = .ok (.invokevirtual 149, 3) := by decide +kernel
theorem dX5_bringBack_19 : decode cX5_bringBack 19 = .ok (.ifCond .ne 7, 3) := by decide +kernel
theorem dX5_bringBack_22 : decode cX5_bringBack 22 = .ok (.iconst 1, 1) := by decide +kernel
theorem dX5_bringBack_23 : decode cX5_bringBack 23 = .ok (.goto 4, 3) := by decide +kernel
theorem dX5_bringBack_26 : decode cX5_bringBack 26 = .ok (.iconst 0, 1) := by decide +kernel
theorem dX5_bringBack_27 : decode cX5_bringBack 27 = .ok (.invokestatic 139, 3) := by decide +kernel
theorem dX5_bringBack_30 : decode cX5_bringBack 30 = .ok (.aload_n 0, 1) := by decide +kernel
theorem dX5_bringBack_31 : decode cX5_bringBack 31 = .ok (.getfield 33, 3) := by decide +kernel
theorem dX5_bringBack_34 : decode cX5_bringBack 34 = .ok (.getfield 153, 3) := by decide +kernel
theorem dX5_bringBack_37 : decode cX5_bringBack 37 = .ok (.iload_n 1, 1) := by decide +kernel
theorem dX5_bringBack_38 : decode cX5_bringBack 38 = .ok (.iaload, 1) := by decide +kernel
theorem dX5_bringBack_39 : decode cX5_bringBack 39 = .ok (.istore_n 2, 1) := by decide +kernel
theorem dX5_bringBack_40 : decode cX5_bringBack 40 = .ok (.aload_n 0, 1) := by decide +kernel
theorem dX5_bringBack_41 : decode cX5_bringBack 41 = .ok (.getfield 33, 3) := by decide +kernel
theorem dX5_bringBack_44 : decode cX5_bringBack 44 = .ok (.iload_n 1, 1) := by decide +kernel
theorem dX5_bringBack_45 : decode cX5_bringBack 45 = .ok (.invokevirtual 156, 3) := by decide +kernel
theorem dX5_bringBack_48 : decode cX5_bringBack 48 = .ok (.iload_n 2, 1) := by decide +kernel
theorem dX5_bringBack_49 : decode cX5_bringBack 49 = .ok (.ireturn, 1) := by decide +kernel
set_option maxRecDepth 20000 in
theorem ggX5_replace_X5_checkNumber : GoodIn wsX5_replace wsX5_checkNumber := goodIn_ca (goodIn_r _ [5, 6, 7] (by decide +kernel) (by decide +kernel)) (goodIn_sub (fun _ h => List.mem_cons_of_mem _ (List.mem_append_right _ h)) (by decide +kernel))
set_option maxRecDepth 20000 in
theorem gX5_replace_X5_checkNumber : GoodIn wsX5_replace (va_wsS RX5 72 yX5_checkNumber wsX5_checkNumber) := goodIn_app (goodIn_of _ (by decide +kernel)) ggX5_replace_X5_checkNumber
theorem dX5_replace_0 : decode cX5_replace 0 = .ok (.iload_n 1, 1) := by decide +kernel
theorem dX5_replace_1 : decode cX5_replace 1 = .ok (.aload_n 0, 1) := by decide +kernel
theorem dX5_replace_2 : decode cX5_replace 2 = .ok (.getfield 33, 3) := by decide +kernel
theorem dX5_replace_5 : decode cX5_replace 5 = .ok (.getfield 131, 3) := by decide +kernel
theorem dX5_replace_8 : decode cX5_replace 8 = .ok (.invokestatic 72, 3) := by decide +kernel
theorem dX5_replace_11 : decode cX5_replace 11 = .ok (.aload_n 0, 1) := by decide +kernel
theorem dX5_replace_12 : decode cX5_replace 12 = .ok (.getfield 33, 3) := by decide +kernel
theorem dX5_replace_15 : decode cX5_replace 15 = .ok (.getfield 160, 3) := by decide +kernel
theorem dX5_replace_18 : decode cX5_replace 18 = .ok (.iload_n 1, 1) := by decide +kernel
theorem dX5_replace_19 : decode cX5_replace 19 = .ok (.iaload, 1) := by decide +kernel
theorem dX5_replace_20 : decode cX5_replace 20 = .ok (.istore_n 2, 1) := by decide +kernel
theorem dX5_replace_21 : decode cX5_replace 21 = .ok (.aload_n 0, 1) := by decide +kernel
theorem dX5_replace_22 : decode cX5_replace 22 = .ok (.getfield 33, 3) := by decide +kernel
theorem dX5_replace_25 : decode cX5_replace 25 = .ok (.getfield 160, 3) := by decide +kernel
theorem dX5_replace_28 : decode cX5_replace 28 = .ok (.iload_n 1, 1) := by decide +kernel
theorem dX5_replace_29 : decode cX5_replace 29 = .ok (.iconst 0, 1) := by decide +kernel
theorem dX5_replace_30 : decode cX5_replace 30 = .ok (.iastore, 1) := by decide +kernel
theorem dX5_replace_31 : decode cX5_replace 31 = .ok (.iload_n 2, 1) := by decide +kernel
theorem dX5_replace_32 : decode cX5_replace 32 = .ok (.ireturn, 1) := by decide +kernel
theorem dX5_lamps_0 : decode cX5_lamps 0 = .ok (.aload_n 0, 1) := by decide +kernel
theorem dX5_lamps_1 : decode cX5_lamps 1 = .ok (.getfield 33, 3) := by decide +kernel
theorem dX5_lamps_4 : decode cX5_lamps 4 = .ok (.getfield 131, 3) := by decide +kernel
theorem dX5_lamps_7 : decode cX5_lamps 7 = .ok (.ireturn, 1) := by decide +kernel
set_option maxRecDepth 20000 in
theorem ggX5_whereIs_X5_checkNumber : GoodIn wsX5_whereIs wsX5_checkNumber := goodIn_ca (goodIn_r _ [5, 6, 7] (by decide +kernel) (by decide +kernel)) (goodIn_sub (fun _ h => List.mem_cons_of_mem _ (List.mem_append_right _ h)) (by decide +kernel))
set_option maxRecDepth 20000 in
theorem gX5_whereIs_X5_checkNumber : GoodIn wsX5_whereIs (va_wsS RX5 72 yX5_checkNumber wsX5_checkNumber) := goodIn_app (goodIn_of _ (by decide +kernel)) ggX5_whereIs_X5_checkNumber
theorem dX5_whereIs_0 : decode cX5_whereIs 0 = .ok (.iload_n 1, 1) := by decide +kernel
theorem dX5_whereIs_1 : decode cX5_whereIs 1 = .ok (.aload_n 0, 1) := by decide +kernel
theorem dX5_whereIs_2 : decode cX5_whereIs 2 = .ok (.getfield 33, 3) := by decide +kernel
theorem dX5_whereIs_5 : decode cX5_whereIs 5 = .ok (.getfield 131, 3) := by decide +kernel
theorem dX5_whereIs_8 : decode cX5_whereIs 8 = .ok (.invokestatic 72, 3) := by decide +kernel
theorem dX5_whereIs_11 : decode cX5_whereIs 11 = .ok (.aload_n 0, 1) := by decide +kernel
theorem dX5_whereIs_12 : decode cX5_whereIs 12 = .ok (.getfield 33, 3) := by decide +kernel
theorem dX5_whereIs_15 : decode cX5_whereIs 15 = .ok (.getfield 153, 3) := by decide +kernel
theorem dX5_whereIs_18 : decode cX5_whereIs 18 = .ok (.iload_n 1, 1) := by decide +kernel
theorem dX5_whereIs_19 : decode cX5_whereIs 19 = .ok (.iaload, 1) := by decide +kernel
theorem dX5_whereIs_20 : decode cX5_whereIs 20 = .ok (.ireturn, 1) := by decide +kernel
set_option maxRecDepth 20000 in
theorem ggX5_wear_X5_checkNumber : GoodIn wsX5_wear wsX5_checkNumber := goodIn_ca (goodIn_r _ [5, 6, 7] (by decide +kernel) (by decide +kernel)) (goodIn_sub (fun _ h => List.mem_cons_of_mem _ (List.mem_append_right _ h)) (by decide +kernel))
set_option maxRecDepth 20000 in
theorem gX5_wear_X5_checkNumber : GoodIn wsX5_wear (va_wsS RX5 72 yX5_checkNumber wsX5_checkNumber) := goodIn_app (goodIn_of _ (by decide +kernel)) ggX5_wear_X5_checkNumber
theorem dX5_wear_0 : decode cX5_wear 0 = .ok (.iload_n 1, 1) := by decide +kernel
theorem dX5_wear_1 : decode cX5_wear 1 = .ok (.aload_n 0, 1) := by decide +kernel
theorem dX5_wear_2 : decode cX5_wear 2 = .ok (.getfield 33, 3) := by decide +kernel
theorem dX5_wear_5 : decode cX5_wear 5 = .ok (.getfield 131, 3) := by decide +kernel
theorem dX5_wear_8 : decode cX5_wear 8 = .ok (.invokestatic 72, 3) := by decide +kernel
theorem dX5_wear_11 : decode cX5_wear 11 = .ok (.aload_n 0, 1) := by decide +kernel
theorem dX5_wear_12 : decode cX5_wear 12 = .ok (.getfield 33, 3) := by decide +kernel
theorem dX5_wear_15 : decode cX5_wear 15 = .ok (.getfield 160, 3) := by decide +kernel
theorem dX5_wear_18 : decode cX5_wear 18 = .ok (.iload_n 1, 1) := by decide +kernel
theorem dX5_wear_19 : decode cX5_wear 19 = .ok (.iaload, 1) := by decide +kernel
theorem dX5_wear_20 : decode cX5_wear 20 = .ok (.ireturn, 1) := by decide +kernel
set_option maxRecDepth 20000 in
theorem ggX5_laidOn_X5_checkNumber : GoodIn wsX5_laidOn wsX5_checkNumber := goodIn_ca (goodIn_r _ [6, 7, 8] (by decide +kernel) (by decide +kernel)) (goodIn_sub (fun _ h => List.mem_cons_of_mem _ (List.mem_append_right _ h)) (by decide +kernel))
set_option maxRecDepth 20000 in
theorem gX5_laidOn_X5_checkNumber : GoodIn wsX5_laidOn (va_wsS RX5 72 yX5_checkNumber wsX5_checkNumber) := goodIn_app (goodIn_of _ (by decide +kernel)) ggX5_laidOn_X5_checkNumber
set_option maxRecDepth 20000 in
theorem ggX5_laidOn_X3_lampsFor : GoodIn wsX5_laidOn wsX3_lampsFor := goodIn_r _ [13, 14, 15, 16, 17, 18, 12, 19, 20, 21, 32, 33, 34, 35, 36, 37, 38, 39, 40] (by decide +kernel) (by decide +kernel)
set_option maxRecDepth 20000 in
theorem gX5_laidOn_X3_lampsFor : GoodIn wsX5_laidOn (wsV RX5 163 RX3 yX3_lampsFor wsX3_lampsFor) := goodIn_app (goodIn_of _ (by decide +kernel)) ggX5_laidOn_X3_lampsFor
theorem dX5_laidOn_0 : decode cX5_laidOn 0 = .ok (.iload_n 1, 1) := by decide +kernel
theorem dX5_laidOn_1 : decode cX5_laidOn 1 = .ok (.iconst 4, 1) := by decide +kernel
theorem dX5_laidOn_2 : decode cX5_laidOn 2 = .ok (.invokestatic 72, 3) := by decide +kernel
theorem dX5_laidOn_5 : decode cX5_laidOn 5 = .ok (.iload_n 2, 1) := by decide +kernel
theorem dX5_laidOn_6 : decode cX5_laidOn 6 = .ok (.bipush 10, 2) := by decide +kernel
theorem dX5_laidOn_8 : decode cX5_laidOn 8 = .ok (.invokestatic 72, 3) := by decide +kernel
theorem dX5_laidOn_11 : decode cX5_laidOn 11 = .ok (.aload_n 0, 1) := by decide +kernel
theorem dX5_laidOn_12 : decode cX5_laidOn 12 = .ok (.getfield 33, 3) := by decide +kernel
theorem dX5_laidOn_15 : decode cX5_laidOn 15 = .ok (.iload_n 1, 1) := by decide +kernel
theorem dX5_laidOn_16 : decode cX5_laidOn 16 = .ok (.aload_n 0, 1) := by decide +kernel
theorem dX5_laidOn_17 : decode cX5_laidOn 17 = .ok (.getfield 19, 3) := by decide +kernel
theorem dX5_laidOn_20 : decode cX5_laidOn 20 = .ok (.getfield 93, 3) := by decide +kernel
theorem dX5_laidOn_23 : decode cX5_laidOn 23 = .ok (.iload_n 2, 1) := by decide +kernel
theorem dX5_laidOn_24 : decode cX5_laidOn 24 = .ok (.iaload, 1) := by decide +kernel
theorem dX5_laidOn_25 : decode cX5_laidOn 25 = .ok (.aload_n 0, 1) := by decide +kernel
theorem dX5_laidOn_26 : decode cX5_laidOn 26 = .ok (.getfield 19, 3) := by decide +kernel
theorem dX5_laidOn_29 : decode cX5_laidOn 29 = .ok (.getfield 96, 3) := by decide +kernel
theorem dX5_laidOn_32 : decode cX5_laidOn 32 = .ok (.iload_n 2, 1) := by decide +kernel
theorem dX5_laidOn_33 : decode cX5_laidOn 33 = .ok (.iaload, 1) := by decide +kernel
theorem dX5_laidOn_34 : decode cX5_laidOn 34 = .ok (.invokevirtual 163, 3) := by decide +kernel
theorem dX5_laidOn_37 : decode cX5_laidOn 37 = .ok (.ireturn, 1) := by decide +kernel
set_option maxRecDepth 20000 in
theorem ggX5_lampLevel_X5_checkNumber : GoodIn wsX5_lampLevel wsX5_checkNumber := goodIn_ca (goodIn_r _ [9, 10, 11] (by decide +kernel) (by decide +kernel)) (goodIn_sub (fun _ h => List.mem_cons_of_mem _ (List.mem_append_left _ (List.mem_append_right _ h))) (by decide +kernel))
set_option maxRecDepth 20000 in
theorem gX5_lampLevel_X5_checkNumber : GoodIn wsX5_lampLevel (va_wsS RX5 72 yX5_checkNumber wsX5_checkNumber) := goodIn_app (goodIn_of _ (by decide +kernel)) ggX5_lampLevel_X5_checkNumber
set_option maxRecDepth 20000 in
theorem ggX5_lampLevel_X5_checkRange : GoodIn wsX5_lampLevel wsX5_checkRange := goodIn_ca (goodIn_r _ [14, 15, 16] (by decide +kernel) (by decide +kernel)) (goodIn_sub (fun _ h => List.mem_cons_of_mem _ (List.mem_append_right _ h)) (by decide +kernel))
set_option maxRecDepth 20000 in
theorem gX5_lampLevel_X5_checkRange : GoodIn wsX5_lampLevel (va_wsS RX5 56 yX5_checkRange wsX5_checkRange) := goodIn_app (goodIn_of _ (by decide +kernel)) ggX5_lampLevel_X5_checkRange
set_option maxRecDepth 20000 in
theorem ggX5_lampLevel_X3_lay : GoodIn wsX5_lampLevel wsX3_lay := goodIn_r _ [21, 22, 23, 24, 20, 25, 26, 27, 28, 29, 30, 31, 32, 33, 73, 74, 64, 65, 66, 67, 68, 69, 70, 71, 72] (by decide +kernel) (by decide +kernel)
set_option maxRecDepth 20000 in
theorem gX5_lampLevel_X3_lay : GoodIn wsX5_lampLevel (wsV RX5 167 RX3 yX3_lay wsX3_lay) := goodIn_app (goodIn_of _ (by decide +kernel)) ggX5_lampLevel_X3_lay
set_option maxRecDepth 20000 in
theorem ggX5_lampLevel_X1_fillLevels : GoodIn wsX5_lampLevel wsX1_fillLevels := goodIn_r _ [38, 39, 40, 41, 37, 42, 43, 44, 45, 46, 47, 48, 49, 50, 75, 76, 77, 78, 79, 80, 81, 82, 83, 84, 85] (by decide +kernel) (by decide +kernel)
set_option maxRecDepth 20000 in
theorem gX5_lampLevel_X1_fillLevels : GoodIn wsX5_lampLevel (wsV RX5 171 RX1 yX1_fillLevels wsX1_fillLevels) := goodIn_app (goodIn_of _ (by decide +kernel)) ggX5_lampLevel_X1_fillLevels
set_option maxRecDepth 20000 in
theorem ggX5_lampLevel_X3_levelOf : GoodIn wsX5_lampLevel wsX3_levelOf := goodIn_r _ [54, 55, 64, 65, 66, 67, 68, 69, 70, 71, 72] (by decide +kernel) (by decide +kernel)
set_option maxRecDepth 20000 in
theorem gX5_lampLevel_X3_levelOf : GoodIn wsX5_lampLevel (wsV RX5 175 RX3 yX3_levelOf wsX3_levelOf) := goodIn_app (goodIn_of _ (by decide +kernel)) ggX5_lampLevel_X3_levelOf
theorem dX5_lampLevel_0 : decode cX5_lampLevel 0 = .ok (.iload_n 1, 1) := by decide +kernel
theorem dX5_lampLevel_1 : decode cX5_lampLevel 1 = .ok (.aload_n 0, 1) := by decide +kernel
theorem dX5_lampLevel_2 : decode cX5_lampLevel 2 = .ok (.getfield 33, 3) := by decide +kernel
theorem dX5_lampLevel_5 : decode cX5_lampLevel 5 = .ok (.getfield 131, 3) := by decide +kernel
theorem dX5_lampLevel_8 : decode cX5_lampLevel 8 = .ok (.invokestatic 72, 3) := by decide +kernel
theorem dX5_lampLevel_11 : decode cX5_lampLevel 11 = .ok (.iload_n 2, 1) := by decide +kernel
theorem dX5_lampLevel_12 : decode cX5_lampLevel 12 = .ok (.iconst 0, 1) := by decide +kernel
theorem dX5_lampLevel_13 : decode cX5_lampLevel 13 = .ok (.sipush 2000, 3) := by decide +kernel
theorem dX5_lampLevel_16 : decode cX5_lampLevel 16 = .ok (.invokestatic 56, 3) := by decide +kernel
theorem dX5_lampLevel_19 : decode cX5_lampLevel 19 = .ok (.aload_n 0, 1) := by decide +kernel
theorem dX5_lampLevel_20 : decode cX5_lampLevel 20 = .ok (.getfield 33, 3) := by decide +kernel
theorem dX5_lampLevel_23 : decode cX5_lampLevel 23 = .ok (.aload_n 0, 1) := by decide +kernel
theorem dX5_lampLevel_24 : decode cX5_lampLevel 24 = .ok (.getfield 33, 3) := by decide +kernel
theorem dX5_lampLevel_27 : decode cX5_lampLevel 27 = .ok (.getfield 153, 3) := by decide +kernel
theorem dX5_lampLevel_30 : decode cX5_lampLevel 30 = .ok (.iload_n 1, 1) := by decide +kernel
theorem dX5_lampLevel_31 : decode cX5_lampLevel 31 = .ok (.iaload, 1) := by decide +kernel
theorem dX5_lampLevel_32 : decode cX5_lampLevel 32 = .ok (.aload_n 0, 1) := by decide +kernel
theorem dX5_lampLevel_33 : decode cX5_lampLevel 33 = .ok (.getfield 19, 3) := by decide +kernel
theorem dX5_lampLevel_36 : decode cX5_lampLevel 36 = .ok (.aload_n 0, 1) := by decide +kernel
theorem dX5_lampLevel_37 : decode cX5_lampLevel 37 = .ok (.getfield 48, 3) := by decide +kernel
theorem dX5_lampLevel_40 : decode cX5_lampLevel 40 = .ok (.invokevirtual 167, 3) := by decide +kernel
theorem dX5_lampLevel_43 : decode cX5_lampLevel 43 = .ok (.aload_n 0, 1) := by decide +kernel
theorem dX5_lampLevel_44 : decode cX5_lampLevel 44 = .ok (.getfield 26, 3) := by decide +kernel
theorem dX5_lampLevel_47 : decode cX5_lampLevel 47 = .ok (.iload_n 2, 1) := by decide +kernel
theorem dX5_lampLevel_48 : decode cX5_lampLevel 48 = .ok (.aload_n 0, 1) := by decide +kernel
theorem dX5_lampLevel_49 : decode cX5_lampLevel 49 = .ok (.getfield 44, 3) := by decide +kernel
theorem dX5_lampLevel_52 : decode cX5_lampLevel 52 = .ok (.invokevirtual 171, 3) := by decide +kernel
theorem dX5_lampLevel_55 : decode cX5_lampLevel 55 = .ok (.aload_n 0, 1) := by decide +kernel
theorem dX5_lampLevel_56 : decode cX5_lampLevel 56 = .ok (.getfield 33, 3) := by decide +kernel
theorem dX5_lampLevel_59 : decode cX5_lampLevel 59 = .ok (.iload_n 1, 1) := by decide +kernel
theorem dX5_lampLevel_60 : decode cX5_lampLevel 60 = .ok (.aload_n 0, 1) := by decide +kernel
theorem dX5_lampLevel_61 : decode cX5_lampLevel 61 = .ok (.getfield 48, 3) := by decide +kernel
theorem dX5_lampLevel_64 : decode cX5_lampLevel 64 = .ok (.aload_n 0, 1) := by decide +kernel
theorem dX5_lampLevel_65 : decode cX5_lampLevel 65 = .ok (.getfield 44, 3) := by decide +kernel
theorem dX5_lampLevel_68 : decode cX5_lampLevel 68 = .ok (.invokevirtual 175, 3) := by decide +kernel
theorem dX5_lampLevel_71 : decode cX5_lampLevel 71 = .ok (.ireturn, 1) := by decide +kernel
set_option maxRecDepth 20000 in
theorem ggX5_light_X5_checkNumber : GoodIn wsX5_light wsX5_checkNumber := goodIn_ca (goodIn_r _ [9, 10, 11] (by decide +kernel) (by decide +kernel)) (goodIn_sub (fun _ h => List.mem_cons_of_mem _ (List.mem_append_left _ (List.mem_append_right _ h))) (by decide +kernel))
set_option maxRecDepth 20000 in
theorem gX5_light_X5_checkNumber : GoodIn wsX5_light (va_wsS RX5 72 yX5_checkNumber wsX5_checkNumber) := goodIn_app (goodIn_of _ (by decide +kernel)) ggX5_light_X5_checkNumber
set_option maxRecDepth 20000 in
theorem ggX5_light_X5_checkRange : GoodIn wsX5_light wsX5_checkRange := goodIn_ca (goodIn_r _ [14, 15, 16] (by decide +kernel) (by decide +kernel)) (goodIn_sub (fun _ h => List.mem_cons_of_mem _ (List.mem_append_right _ h)) (by decide +kernel))
set_option maxRecDepth 20000 in
theorem gX5_light_X5_checkRange : GoodIn wsX5_light (va_wsS RX5 56 yX5_checkRange wsX5_checkRange) := goodIn_app (goodIn_of _ (by decide +kernel)) ggX5_light_X5_checkRange
set_option maxRecDepth 20000 in
theorem ggX5_light_X3_lay : GoodIn wsX5_light wsX3_lay := goodIn_r _ [21, 22, 23, 24, 20, 25, 26, 27, 28, 29, 30, 31, 32, 33, 69, 70, 71, 72, 73, 74, 75, 76, 77, 78, 79] (by decide +kernel) (by decide +kernel)
set_option maxRecDepth 20000 in
theorem gX5_light_X3_lay : GoodIn wsX5_light (wsV RX5 167 RX3 yX3_lay wsX3_lay) := goodIn_app (goodIn_of _ (by decide +kernel)) ggX5_light_X3_lay
set_option maxRecDepth 20000 in
theorem ggX5_light_X1_fillLevels : GoodIn wsX5_light wsX1_fillLevels := goodIn_r _ [38, 39, 40, 41, 37, 42, 43, 44, 45, 46, 47, 48, 49, 50, 80, 81, 82, 83, 84, 85, 86, 87, 88, 89, 90] (by decide +kernel) (by decide +kernel)
set_option maxRecDepth 20000 in
theorem gX5_light_X1_fillLevels : GoodIn wsX5_light (wsV RX5 171 RX1 yX1_fillLevels wsX1_fillLevels) := goodIn_app (goodIn_of _ (by decide +kernel)) ggX5_light_X1_fillLevels
set_option maxRecDepth 20000 in
theorem ggX5_light_X3_lightOf : GoodIn wsX5_light wsX3_lightOf := goodIn_r _ [54, 26, 55, 28, 29, 30, 20, 31, 32, 33, 56, 57, 58, 59, 60, 71, 72, 73, 74, 75, 76, 77, 78, 79] (by decide +kernel) (by decide +kernel)
set_option maxRecDepth 20000 in
theorem gX5_light_X3_lightOf : GoodIn wsX5_light (wsV RX5 179 RX3 yX3_lightOf wsX3_lightOf) := goodIn_app (goodIn_of _ (by decide +kernel)) ggX5_light_X3_lightOf
theorem dX5_light_0 : decode cX5_light 0 = .ok (.iload_n 1, 1) := by decide +kernel
theorem dX5_light_1 : decode cX5_light 1 = .ok (.iconst 4, 1) := by decide +kernel
theorem dX5_light_2 : decode cX5_light 2 = .ok (.invokestatic 72, 3) := by decide +kernel
theorem dX5_light_5 : decode cX5_light 5 = .ok (.iload_n 2, 1) := by decide +kernel
theorem dX5_light_6 : decode cX5_light 6 = .ok (.iconst 4, 1) := by decide +kernel
theorem dX5_light_7 : decode cX5_light 7 = .ok (.invokestatic 72, 3) := by decide +kernel
theorem dX5_light_10 : decode cX5_light 10 = .ok (.iload_n 3, 1) := by decide +kernel
theorem dX5_light_11 : decode cX5_light 11 = .ok (.iconst 0, 1) := by decide +kernel
theorem dX5_light_12 : decode cX5_light 12 = .ok (.sipush 2000, 3) := by decide +kernel
theorem dX5_light_15 : decode cX5_light 15 = .ok (.invokestatic 56, 3) := by decide +kernel
theorem dX5_light_18 : decode cX5_light 18 = .ok (.aload_n 0, 1) := by decide +kernel
theorem dX5_light_19 : decode cX5_light 19 = .ok (.getfield 33, 3) := by decide +kernel
theorem dX5_light_22 : decode cX5_light 22 = .ok (.iload_n 1, 1) := by decide +kernel
theorem dX5_light_23 : decode cX5_light 23 = .ok (.aload_n 0, 1) := by decide +kernel
theorem dX5_light_24 : decode cX5_light 24 = .ok (.getfield 19, 3) := by decide +kernel
theorem dX5_light_27 : decode cX5_light 27 = .ok (.aload_n 0, 1) := by decide +kernel
theorem dX5_light_28 : decode cX5_light 28 = .ok (.getfield 48, 3) := by decide +kernel
theorem dX5_light_31 : decode cX5_light 31 = .ok (.invokevirtual 167, 3) := by decide +kernel
theorem dX5_light_34 : decode cX5_light 34 = .ok (.aload_n 0, 1) := by decide +kernel
theorem dX5_light_35 : decode cX5_light 35 = .ok (.getfield 26, 3) := by decide +kernel
theorem dX5_light_38 : decode cX5_light 38 = .ok (.iload_n 3, 1) := by decide +kernel
theorem dX5_light_39 : decode cX5_light 39 = .ok (.aload_n 0, 1) := by decide +kernel
theorem dX5_light_40 : decode cX5_light 40 = .ok (.getfield 44, 3) := by decide +kernel
theorem dX5_light_43 : decode cX5_light 43 = .ok (.invokevirtual 171, 3) := by decide +kernel
theorem dX5_light_46 : decode cX5_light 46 = .ok (.aload_n 0, 1) := by decide +kernel
theorem dX5_light_47 : decode cX5_light 47 = .ok (.getfield 33, 3) := by decide +kernel
theorem dX5_light_50 : decode cX5_light 50 = .ok (.iload_n 1, 1) := by decide +kernel
theorem dX5_light_51 : decode cX5_light 51 = .ok (.iload_n 2, 1) := by decide +kernel
theorem dX5_light_52 : decode cX5_light 52 = .ok (.aload_n 0, 1) := by decide +kernel
theorem dX5_light_53 : decode cX5_light 53 = .ok (.getfield 48, 3) := by decide +kernel
theorem dX5_light_56 : decode cX5_light 56 = .ok (.aload_n 0, 1) := by decide +kernel
theorem dX5_light_57 : decode cX5_light 57 = .ok (.getfield 44, 3) := by decide +kernel
theorem dX5_light_60 : decode cX5_light 60 = .ok (.invokevirtual 179, 3) := by decide +kernel
theorem dX5_light_63 : decode cX5_light 63 = .ok (.ireturn, 1) := by decide +kernel
set_option maxRecDepth 20000 in
theorem ggX5_shortOf_X5_checkNumber : GoodIn wsX5_shortOf wsX5_checkNumber := goodIn_ca (goodIn_r _ [8, 9, 10] (by decide +kernel) (by decide +kernel)) (goodIn_sub (fun _ h => List.mem_cons_of_mem _ (List.mem_append_right _ h)) (by decide +kernel))
set_option maxRecDepth 20000 in
theorem gX5_shortOf_X5_checkNumber : GoodIn wsX5_shortOf (va_wsS RX5 72 yX5_checkNumber wsX5_checkNumber) := goodIn_app (goodIn_of _ (by decide +kernel)) ggX5_shortOf_X5_checkNumber
set_option maxRecDepth 20000 in
theorem ggX5_shortOf_X3_lay : GoodIn wsX5_shortOf wsX3_lay := goodIn_r _ [15, 16, 17, 18, 14, 19, 20, 21, 22, 23, 24, 25, 26, 27, 88, 89, 90, 91, 92, 93, 94, 95, 96, 97, 98] (by decide +kernel) (by decide +kernel)
set_option maxRecDepth 20000 in
theorem gX5_shortOf_X3_lay : GoodIn wsX5_shortOf (wsV RX5 167 RX3 yX3_lay wsX3_lay) := goodIn_app (goodIn_of _ (by decide +kernel)) ggX5_shortOf_X3_lay
set_option maxRecDepth 20000 in
theorem ggX5_shortOf_X5_readEndOf : GoodIn wsX5_shortOf wsX5_readEndOf := goodIn_r _ [31, 1, 32, 33, 34, 35, 36, 37, 38, 39, 40, 41, 42, 43, 44, 45, 46, 47, 48, 49, 50, 51, 52, 53, 54, 55, 56, 57, 58, 59, 60, 61, 76, 77, 78, 79, 80, 81, 82, 83, 84, 85, 86, 87, 99, 100, 101, 102, 103, 104, 105, 106, 107, 108, 109] (by decide +kernel) (by decide +kernel)
set_option maxRecDepth 20000 in
theorem gX5_shortOf_X5_readEndOf : GoodIn wsX5_shortOf (wsV RX5 183 RX5 yX5_readEndOf wsX5_readEndOf) := goodIn_app (goodIn_of _ (by decide +kernel)) ggX5_shortOf_X5_readEndOf
set_option maxRecDepth 20000 in
theorem ggX5_shortOf_X5_shortAreas : GoodIn wsX5_shortOf wsX5_shortAreas := goodIn_r _ [65, 1, 2, 4, 33, 66, 67, 68, 14, 69, 20, 70, 22, 23, 24, 25, 26, 27, 71, 72, 73, 74, 75, 76, 77, 78, 79, 80, 81, 82, 83, 84, 85, 86, 87, 90, 91, 92, 93, 94, 95, 96, 97, 98] (by decide +kernel) (by decide +kernel)
set_option maxRecDepth 20000 in
theorem gX5_shortOf_X5_shortAreas : GoodIn wsX5_shortOf (wsV RX5 186 RX5 yX5_shortAreas wsX5_shortAreas) := goodIn_app (goodIn_of _ (by decide +kernel)) ggX5_shortOf_X5_shortAreas
theorem dX5_shortOf_0 : decode cX5_shortOf 0 = .ok (.iload_n 1, 1) := by decide +kernel
theorem dX5_shortOf_1 : decode cX5_shortOf 1 = .ok (.iconst 4, 1) := by decide +kernel
theorem dX5_shortOf_2 : decode cX5_shortOf 2 = .ok (.invokestatic 72, 3) := by decide +kernel
theorem dX5_shortOf_5 : decode cX5_shortOf 5 = .ok (.iload_n 2, 1) := by decide +kernel
theorem dX5_shortOf_6 : decode cX5_shortOf 6 = .ok (.aload_n 0, 1) := by decide +kernel
theorem dX5_shortOf_7 : decode cX5_shortOf 7 = .ok (.getfield 10, 3) := by decide +kernel
theorem dX5_shortOf_10 : decode cX5_shortOf 10 = .ok (.getfield 60, 3) := by decide +kernel
theorem dX5_shortOf_13 : decode cX5_shortOf 13 = .ok (.invokestatic 72, 3) := by decide +kernel
theorem dX5_shortOf_16 : decode cX5_shortOf 16 = .ok (.aload_n 0, 1) := by decide +kernel
theorem dX5_shortOf_17 : decode cX5_shortOf 17 = .ok (.getfield 33, 3) := by decide +kernel
theorem dX5_shortOf_20 : decode cX5_shortOf 20 = .ok (.iload_n 1, 1) := by decide +kernel
theorem dX5_shortOf_21 : decode cX5_shortOf 21 = .ok (.aload_n 0, 1) := by decide +kernel
theorem dX5_shortOf_22 : decode cX5_shortOf 22 = .ok (.getfield 19, 3) := by decide +kernel
theorem dX5_shortOf_25 : decode cX5_shortOf 25 = .ok (.aload_n 0, 1) := by decide +kernel
theorem dX5_shortOf_26 : decode cX5_shortOf 26 = .ok (.getfield 48, 3) := by decide +kernel
theorem dX5_shortOf_29 : decode cX5_shortOf 29 = .ok (.invokevirtual 167, 3) := by decide +kernel
theorem dX5_shortOf_32 : decode cX5_shortOf 32 = .ok (.aload_n 0, 1) := by decide +kernel
theorem dX5_shortOf_33 : decode cX5_shortOf 33 = .ok (.iload_n 2, 1) := by decide +kernel
theorem dX5_shortOf_34 : decode cX5_shortOf 34 = .ok (.invokevirtual 183, 3) := by decide +kernel
theorem dX5_shortOf_37 : decode cX5_shortOf 37 = .ok (.aload_n 0, 1) := by decide +kernel
theorem dX5_shortOf_38 : decode cX5_shortOf 38 = .ok (.iload_n 1, 1) := by decide +kernel
theorem dX5_shortOf_39 : decode cX5_shortOf 39 = .ok (.iload_n 2, 1) := by decide +kernel
theorem dX5_shortOf_40 : decode cX5_shortOf 40 = .ok (.invokevirtual 186, 3) := by decide +kernel
theorem dX5_shortOf_43 : decode cX5_shortOf 43 = .ok (.ireturn, 1) := by decide +kernel
set_option maxRecDepth 20000 in
theorem ggX5_bestStage_X5_readEnds : GoodIn wsX5_bestStage wsX5_readEnds := goodIn_r _ [5, 6, 7, 8, 9, 4, 10, 11, 12, 13, 14, 15, 16, 17, 18, 19, 20, 21, 22, 23, 24, 25, 26, 27, 28, 29, 30, 31, 32, 33, 34, 35, 36, 37, 38, 39, 40, 79, 80, 81, 82, 83, 84, 85, 86, 87, 88, 89, 90, 91, 92, 93, 94, 95, 96, 97, 98, 99, 100, 101] (by decide +kernel) (by decide +kernel)
set_option maxRecDepth 20000 in
theorem gX5_bestStage_X5_readEnds : GoodIn wsX5_bestStage (wsV RX5 189 RX5 yX5_readEnds wsX5_readEnds) := goodIn_app (goodIn_of _ (by decide +kernel)) ggX5_bestStage_X5_readEnds
set_option maxRecDepth 20000 in
theorem ggX5_bestStage_X5_countShort : GoodIn wsX5_bestStage wsX5_countShort := goodIn_r _ [44, 45, 46, 47, 6, 48, 49, 50, 51, 52, 53, 54, 55, 56, 57, 58, 59, 60, 61, 62, 63, 64, 65, 66, 67, 4, 68, 12, 69, 70, 71, 72, 73, 74, 75, 76, 77, 78, 79, 80, 81, 82, 83, 84, 85, 86, 87, 88, 89, 90, 102, 103, 104, 105, 106, 107, 108, 109, 110, 111, 112] (by decide +kernel) (by decide +kernel)
set_option maxRecDepth 20000 in
theorem gX5_bestStage_X5_countShort : GoodIn wsX5_bestStage (wsV RX5 192 RX5 yX5_countShort wsX5_countShort) := goodIn_app (goodIn_of _ (by decide +kernel)) ggX5_bestStage_X5_countShort
theorem dX5_bestStage_0 : decode cX5_bestStage 0 = .ok (.aload_n 0, 1) := by decide +kernel
theorem dX5_bestStage_1 : decode cX5_bestStage 1 = .ok (.invokevirtual 189, 3) := by decide +kernel
theorem dX5_bestStage_4 : decode cX5_bestStage 4 = .ok (.iconst 0, 1) := by decide +kernel
theorem dX5_bestStage_5 : decode cX5_bestStage 5 = .ok (.istore_n 1, 1) := by decide +kernel
theorem dX5_bestStage_6 : decode cX5_bestStage 6 = .ok (.aload_n 0, 1) := by decide +kernel
theorem dX5_bestStage_7 : decode cX5_bestStage 7 = .ok (.iconst 0, 1) := by decide +kernel
theorem dX5_bestStage_8 : decode cX5_bestStage 8 = .ok (.invokevirtual 192, 3) := by decide +kernel
theorem dX5_bestStage_11 : decode cX5_bestStage 11 = .ok (.istore_n 2, 1) := by decide +kernel
theorem dX5_bestStage_12 : decode cX5_bestStage 12 = .ok (.iconst 1, 1) := by decide +kernel
theorem dX5_bestStage_13 : decode cX5_bestStage 13 = .ok (.istore_n 3, 1) := by decide +kernel
theorem dX5_bestStage_14 : decode cX5_bestStage 14 = .ok (.iload_n 3, 1) := by decide +kernel
theorem dX5_bestStage_15 : decode cX5_bestStage 15 = .ok (.iconst 4, 1) := by decide +kernel
theorem dX5_bestStage_16 : decode cX5_bestStage 16 = .ok (.if_icmp .ge 27, 3) := by decide +kernel
theorem dX5_bestStage_19 : decode cX5_bestStage 19 = .ok (.aload_n 0, 1) := by decide +kernel
theorem dX5_bestStage_20 : decode cX5_bestStage 20 = .ok (.iload_n 3, 1) := by decide +kernel
theorem dX5_bestStage_21 : decode cX5_bestStage 21 = .ok (.invokevirtual 192, 3) := by decide +kernel
theorem dX5_bestStage_24 : decode cX5_bestStage 24 = .ok (.istore 4, 2) := by decide +kernel
theorem dX5_bestStage_26 : decode cX5_bestStage 26 = .ok (.iload 4, 2) := by decide +kernel
theorem dX5_bestStage_28 : decode cX5_bestStage 28 = .ok (.iload_n 2, 1) := by decide +kernel
theorem dX5_bestStage_29 : decode cX5_bestStage 29 = .ok (.if_icmp .ge 8, 3) := by decide +kernel
theorem dX5_bestStage_32 : decode cX5_bestStage 32 = .ok (.iload_n 3, 1) := by decide +kernel
theorem dX5_bestStage_33 : decode cX5_bestStage 33 = .ok (.istore_n 1, 1) := by decide +kernel
theorem dX5_bestStage_34 : decode cX5_bestStage 34 = .ok (.iload 4, 2) := by decide +kernel
theorem dX5_bestStage_36 : decode cX5_bestStage 36 = .ok (.istore_n 2, 1) := by decide +kernel
theorem dX5_bestStage_37 : decode cX5_bestStage 37 = .ok (.iinc 3 1, 3) := by decide +kernel
theorem dX5_bestStage_40 : decode cX5_bestStage 40 = .ok (.goto (-26), 3) := by decide +kernel
theorem dX5_bestStage_43 : decode cX5_bestStage 43 = .ok (.iload_n 1, 1) := by decide +kernel
theorem dX5_bestStage_44 : decode cX5_bestStage 44 = .ok (.ireturn, 1) := by decide +kernel
set_option maxRecDepth 20000 in
theorem ggX5_bestToBorrow_X5_checkNumber : GoodIn wsX5_bestToBorrow wsX5_checkNumber := goodIn_ca (goodIn_r _ [5, 6, 7] (by decide +kernel) (by decide +kernel)) (goodIn_sub (fun _ h => List.mem_cons_of_mem _ (List.mem_append_right _ h)) (by decide +kernel))
set_option maxRecDepth 20000 in
theorem gX5_bestToBorrow_X5_checkNumber : GoodIn wsX5_bestToBorrow (va_wsS RX5 72 yX5_checkNumber wsX5_checkNumber) := goodIn_app (goodIn_of _ (by decide +kernel)) ggX5_bestToBorrow_X5_checkNumber
set_option maxRecDepth 20000 in
theorem ggX5_bestToBorrow_X5_readEnds : GoodIn wsX5_bestToBorrow wsX5_readEnds := goodIn_r _ [11, 12, 13, 14, 15, 4, 16, 17, 18, 19, 20, 21, 22, 23, 24, 25, 26, 27, 28, 29, 30, 31, 32, 33, 34, 35, 36, 37, 38, 39, 40, 41, 42, 43, 44, 45, 46, 107, 108, 109, 110, 111, 112, 113, 114, 124, 125, 126, 127, 128, 129, 130, 131, 132, 133, 134, 135, 136, 137, 138] (by decide +kernel) (by decide +kernel)
set_option maxRecDepth 20000 in
theorem gX5_bestToBorrow_X5_readEnds : GoodIn wsX5_bestToBorrow (wsV RX5 189 RX5 yX5_readEnds wsX5_readEnds) := goodIn_app (goodIn_of _ (by decide +kernel)) ggX5_bestToBorrow_X5_readEnds
set_option maxRecDepth 20000 in
theorem ggX5_bestToBorrow_X5_countShort : GoodIn wsX5_bestToBorrow wsX5_countShort := goodIn_r _ [50, 1, 51, 52, 12, 53, 54, 55, 56, 57, 58, 59, 60, 61, 62, 63, 64, 65, 66, 67, 68, 69, 70, 71, 72, 4, 73, 18, 74, 75, 76, 77, 78, 79, 80, 81, 82, 83, 107, 108, 109, 110, 111, 112, 113, 114, 124, 125, 126, 127, 139, 140, 115, 116, 117, 118, 119, 120, 121, 122, 123] (by decide +kernel) (by decide +kernel)
set_option maxRecDepth 20000 in
theorem gX5_bestToBorrow_X5_countShort : GoodIn wsX5_bestToBorrow (wsV RX5 192 RX5 yX5_countShort wsX5_countShort) := goodIn_app (goodIn_of _ (by decide +kernel)) ggX5_bestToBorrow_X5_countShort
set_option maxRecDepth 20000 in
theorem ggX5_bestToBorrow_X3_canGo : GoodIn wsX5_bestToBorrow wsX3_canGo := goodIn_r _ [87, 88, 89, 90, 91, 56, 92, 68, 115, 116, 117, 118, 119, 120, 121, 122, 123] (by decide +kernel) (by decide +kernel)
set_option maxRecDepth 20000 in
theorem gX5_bestToBorrow_X3_canGo : GoodIn wsX5_bestToBorrow (wsV RX5 135 RX3 yX3_canGo wsX3_canGo) := goodIn_app (goodIn_of _ (by decide +kernel)) ggX5_bestToBorrow_X3_canGo
set_option maxRecDepth 20000 in
theorem ggX5_bestToBorrow_X5_countShortWith : GoodIn wsX5_bestToBorrow wsX5_countShortWith := goodIn_r _ [96, 1, 97, 98, 99, 56, 100, 68, 69, 47, 48, 49, 4, 50, 51, 52, 12, 53, 54, 55, 57, 58, 59, 60, 61, 62, 63, 64, 65, 66, 67, 70, 71, 72, 73, 18, 74, 75, 76, 77, 78, 79, 80, 81, 82, 83, 101, 102, 103, 104, 88, 105, 106, 107, 108, 109, 110, 111, 112, 113, 114, 115, 116, 117, 118, 119, 120, 121, 122, 123, 124, 125, 126, 127, 139, 140] (by decide +kernel) (by decide +kernel)
set_option maxRecDepth 20000 in
theorem gX5_bestToBorrow_X5_countShortWith : GoodIn wsX5_bestToBorrow (wsV RX5 195 RX5 yX5_countShortWith wsX5_countShortWith) := goodIn_app (goodIn_of _ (by decide +kernel)) ggX5_bestToBorrow_X5_countShortWith
theorem dX5_bestToBorrow_0 : decode cX5_bestToBorrow 0 = .ok (.iload_n 1, 1) := by decide +kernel
theorem dX5_bestToBorrow_1 : decode cX5_bestToBorrow 1 = .ok (.iconst 4, 1) := by decide +kernel
theorem dX5_bestToBorrow_2 : decode cX5_bestToBorrow 2 = .ok (.invokestatic 72, 3) := by decide +kernel
theorem dX5_bestToBorrow_5 : decode cX5_bestToBorrow 5 = .ok (.iload_n 2, 1) := by decide +kernel
theorem dX5_bestToBorrow_6 : decode cX5_bestToBorrow 6 = .ok (.iconst 4, 1) := by decide +kernel
theorem dX5_bestToBorrow_7 : decode cX5_bestToBorrow 7 = .ok (.invokestatic 72, 3) := by decide +kernel
theorem dX5_bestToBorrow_10 : decode cX5_bestToBorrow 10 = .ok (.aload_n 0, 1) := by decide +kernel
theorem dX5_bestToBorrow_11 : decode cX5_bestToBorrow 11 = .ok (.invokevirtual 189, 3) := by decide +kernel
theorem dX5_bestToBorrow_14 : decode cX5_bestToBorrow 14 = .ok (.iconst (-1), 1) := by decide +kernel
theorem dX5_bestToBorrow_15 : decode cX5_bestToBorrow 15 = .ok (.istore_n 3, 1) := by decide +kernel
theorem dX5_bestToBorrow_16 : decode cX5_bestToBorrow 16 = .ok (.aload_n 0, 1) := by decide +kernel
theorem dX5_bestToBorrow_17 : decode cX5_bestToBorrow 17 = .ok (.iload_n 1, 1) := by decide +kernel
theorem dX5_bestToBorrow_18 : decode cX5_bestToBorrow 18 = .ok (.invokevirtual 192, 3) := by decide +kernel
theorem dX5_bestToBorrow_21 : decode cX5_bestToBorrow 21 = .ok (.istore 4, 2) := by decide +kernel
theorem dX5_bestToBorrow_23 : decode cX5_bestToBorrow 23 = .ok (.iconst 0, 1) := by decide +kernel
theorem dX5_bestToBorrow_24 : decode cX5_bestToBorrow 24 = .ok (.istore 5, 2) := by decide +kernel
theorem dX5_bestToBorrow_26 : decode cX5_bestToBorrow 26 = .ok (.iload 5, 2) := by decide +kernel
theorem dX5_bestToBorrow_28 : decode cX5_bestToBorrow 28 = .ok (.aload_n 0, 1) := by decide +kernel
theorem dX5_bestToBorrow_29 : decode cX5_bestToBorrow 29 = .ok (.getfield 33, 3) := by decide +kernel
theorem dX5_bestToBorrow_32 : decode cX5_bestToBorrow 32 = .ok (.getfield 131, 3) := by decide +kernel
theorem dX5_bestToBorrow_35 : decode cX5_bestToBorrow 35 = .ok (.if_icmp .ge 46, 3) := by decide +kernel
theorem dX5_bestToBorrow_38 : decode cX5_bestToBorrow 38 = .ok (.aload_n 0, 1) := by decide +kernel
theorem dX5_bestToBorrow_39 : decode cX5_bestToBorrow 39 = .ok (.getfield 33, 3) := by decide +kernel
theorem dX5_bestToBorrow_42 : decode cX5_bestToBorrow 42 = .ok (.iload 5, 2) := by decide +kernel
theorem dX5_bestToBorrow_44 : decode cX5_bestToBorrow 44 = .ok (.iload_n 1, 1) := by decide +kernel
theorem dX5_bestToBorrow_45 : decode cX5_bestToBorrow 45 = .ok (.invokevirtual 135, 3) := by decide +kernel
theorem dX5_bestToBorrow_48 : decode cX5_bestToBorrow 48 = .ok (.ifCond .eq 27, 3) := by decide +kernel
theorem dX5_bestToBorrow_51 : decode cX5_bestToBorrow 51 = .ok (.aload_n 0, 1) := by decide +kernel
theorem dX5_bestToBorrow_52 : decode cX5_bestToBorrow 52 = .ok (.iload 5, 2) := by decide +kernel
theorem dX5_bestToBorrow_54 : decode cX5_bestToBorrow 54 = .ok (.iload_n 1, 1) := by decide +kernel
theorem dX5_bestToBorrow_55 : decode cX5_bestToBorrow 55 = .ok (.iload_n 2, 1) := by decide +kernel
theorem dX5_bestToBorrow_56 : decode cX5_bestToBorrow 56 = .ok (.invokevirtual 195, 3) := by decide +kernel
theorem dX5_bestToBorrow_59 : decode cX5_bestToBorrow 59 = .ok (.istore 6, 2) := by decide +kernel
theorem dX5_bestToBorrow_61 : decode cX5_bestToBorrow 61 = .ok (.iload 6, 2) := by decide +kernel
theorem dX5_bestToBorrow_63 : decode cX5_bestToBorrow 63 = .ok (.iload 4, 2) := by decide +kernel
theorem dX5_bestToBorrow_65 : decode cX5_bestToBorrow 65 = .ok (.if_icmp .ge 10, 3) := by decide +kernel
theorem dX5_bestToBorrow_68 : decode cX5_bestToBorrow 68 = .ok (.iload 5, 2) := by decide +kernel
theorem dX5_bestToBorrow_70 : decode cX5_bestToBorrow 70 = .ok (.istore_n 3, 1) := by decide +kernel
theorem dX5_bestToBorrow_71 : decode cX5_bestToBorrow 71 = .ok (.iload 6, 2) := by decide +kernel
theorem dX5_bestToBorrow_73 : decode cX5_bestToBorrow 73 = .ok (.istore 4, 2) := by decide +kernel
theorem dX5_bestToBorrow_75 : decode cX5_bestToBorrow 75 = .ok (.iinc 5 1, 3) := by decide +kernel
theorem dX5_bestToBorrow_78 : decode cX5_bestToBorrow 78 = .ok (.goto (-52), 3) := by decide +kernel
theorem dX5_bestToBorrow_81 : decode cX5_bestToBorrow 81 = .ok (.iload_n 3, 1) := by decide +kernel
theorem dX5_bestToBorrow_82 : decode cX5_bestToBorrow 82 = .ok (.ireturn, 1) := by decide +kernel
set_option maxRecDepth 20000 in
theorem ggX5_perform_X5_checkNumber : GoodIn wsX5_perform wsX5_checkNumber := goodIn_ca (goodIn_r _ [6, 7, 8] (by decide +kernel) (by decide +kernel)) (goodIn_sub (fun _ h => List.mem_cons_of_mem _ (List.mem_append_left _ (List.mem_append_right _ h))) (by decide +kernel))
set_option maxRecDepth 20000 in
theorem gX5_perform_X5_checkNumber : GoodIn wsX5_perform (va_wsS RX5 72 yX5_checkNumber wsX5_checkNumber) := goodIn_app (goodIn_of _ (by decide +kernel)) ggX5_perform_X5_checkNumber
set_option maxRecDepth 20000 in
theorem ggX5_perform_X4_total : GoodIn wsX5_perform wsX4_total := goodIn_r _ [13, 14, 15, 16, 17, 12, 18, 19, 20, 138, 139, 140, 141] (by decide +kernel) (by decide +kernel)
set_option maxRecDepth 20000 in
theorem gX5_perform_X4_total : GoodIn wsX5_perform (wsV RX5 86 RX4 yX4_total wsX4_total) := goodIn_app (goodIn_of _ (by decide +kernel)) ggX5_perform_X4_total
set_option maxRecDepth 20000 in
theorem ggX5_perform_X5_checkState : GoodIn wsX5_perform wsX5_checkState := goodIn_ca (goodIn_r _ [23, 24, 25] (by decide +kernel) (by decide +kernel)) (goodIn_sub (fun _ h => List.mem_cons_of_mem _ (List.mem_append_right _ h)) (by decide +kernel))
set_option maxRecDepth 20000 in
theorem gX5_perform_X5_checkState : GoodIn wsX5_perform (va_wsS RX5 139 yX5_checkState wsX5_checkState) := goodIn_app (goodIn_of _ (by decide +kernel)) ggX5_perform_X5_checkState
set_option maxRecDepth 20000 in
theorem ggX5_perform_X5_checkRoom : GoodIn wsX5_perform wsX5_checkRoom := goodIn_ca (goodIn_r _ [28, 24, 25] (by decide +kernel) (by decide +kernel)) (goodIn_sub (fun _ h => List.mem_cons_of_mem _ (List.mem_append_right _ h)) (by decide +kernel))
set_option maxRecDepth 20000 in
theorem gX5_perform_X5_checkRoom : GoodIn wsX5_perform (va_wsS RX5 64 yX5_checkRoom wsX5_checkRoom) := goodIn_app (goodIn_of _ (by decide +kernel)) ggX5_perform_X5_checkRoom
set_option maxRecDepth 20000 in
theorem ggX5_perform_X5_readEnds : GoodIn wsX5_perform wsX5_readEnds := goodIn_r _ [32, 1, 33, 34, 35, 5, 36, 37, 38, 39, 40, 41, 12, 42, 20, 15, 16, 17, 18, 19, 43, 44, 45, 46, 47, 48, 49, 50, 51, 52, 53, 54, 55, 56, 57, 58, 59, 127, 128, 129, 130, 131, 132, 133, 134, 138, 139, 140, 141, 142, 143, 144, 145, 146, 147, 148, 149, 150, 151, 152] (by decide +kernel) (by decide +kernel)
set_option maxRecDepth 20000 in
theorem gX5_perform_X5_readEnds : GoodIn wsX5_perform (wsV RX5 189 RX5 yX5_readEnds wsX5_readEnds) := goodIn_app (goodIn_of _ (by decide +kernel)) ggX5_perform_X5_readEnds
set_option maxRecDepth 20000 in
theorem ggX5_perform_X5_countShort : GoodIn wsX5_perform wsX5_countShort := goodIn_r _ [63, 64, 65, 66, 1, 67, 68, 69, 70, 71, 72, 73, 74, 75, 76, 77, 78, 79, 80, 81, 82, 83, 84, 85, 86, 5, 87, 38, 88, 89, 90, 91, 92, 93, 94, 95, 96, 97, 127, 128, 129, 130, 131, 132, 133, 134, 138, 139, 140, 141, 153, 154, 155, 156, 157, 158, 159, 160, 161, 162, 163] (by decide +kernel) (by decide +kernel)
set_option maxRecDepth 20000 in
theorem gX5_perform_X5_countShort : GoodIn wsX5_perform (wsV RX5 192 RX5 yX5_countShort wsX5_countShort) := goodIn_app (goodIn_of _ (by decide +kernel)) ggX5_perform_X5_countShort
set_option maxRecDepth 20000 in
theorem ggX5_perform_X5_writeLog : GoodIn wsX5_perform wsX5_writeLog := goodIn_r _ [101, 2, 1, 102, 103, 104, 105, 106, 107, 108, 84, 85, 86, 5, 87, 64, 66, 38, 88, 89, 90, 70, 91, 76, 92, 78, 79, 80, 81, 82, 83, 93, 94, 95, 96, 97, 127, 128, 129, 130, 131, 132, 133, 134, 138, 139, 140, 141, 135, 136, 137, 155, 156, 157, 158, 159, 160, 161, 162, 163] (by decide +kernel) (by decide +kernel)
set_option maxRecDepth 20000 in
theorem gX5_perform_X5_writeLog : GoodIn wsX5_perform (wsV RX5 199 RX5 yX5_writeLog wsX5_writeLog) := goodIn_app (goodIn_of _ (by decide +kernel)) ggX5_perform_X5_writeLog
set_option maxRecDepth 20000 in
theorem ggX5_perform_X5_wearOut : GoodIn wsX5_perform wsX5_wearOut := goodIn_r _ [112, 1, 64, 37, 113, 66, 9, 10, 11, 12, 13, 14, 15, 16, 17, 18, 19, 20, 114, 115, 116, 70, 117, 76, 118, 43, 44, 45, 46, 47, 48, 49, 50, 51, 52, 53, 54, 55, 56, 57, 58, 59, 119, 120, 121, 122, 82, 93, 94, 95, 96, 97, 123, 124, 125, 126, 127, 128, 129, 130, 131, 132, 133, 134, 138, 139, 140, 141, 155, 156, 157, 158, 159, 160, 161, 162, 163, 142, 143, 144, 145, 146, 147, 148, 149, 150, 151, 152] (by decide +kernel) (by decide +kernel)
set_option maxRecDepth 20000 in
theorem gX5_perform_X5_wearOut : GoodIn wsX5_perform (wsV RX5 202 RX5 yX5_wearOut wsX5_wearOut) := goodIn_app (goodIn_of _ (by decide +kernel)) ggX5_perform_X5_wearOut
theorem dX5_perform_0 : decode cX5_perform 0 = .ok (.iload_n 1, 1) := by decide +kernel
theorem dX5_perform_1 : decode cX5_perform 1 = .ok (.iconst 4, 1) := by decide +kernel
theorem dX5_perform_2 : decode cX5_perform 2 = .ok (.invokestatic 72, 3) := by decide +kernel
theorem dX5_perform_5 : decode cX5_perform 5 = .ok (.aload_n 0, 1) := by decide +kernel
theorem dX5_perform_6 : decode cX5_perform 6 = .ok (.getfield 10, 3) := by decide +kernel
theorem dX5_perform_9 : decode cX5_perform 9 = .ok (.invokevirtual 86, 3) := by decide +kernel
theorem dX5_perform_12 : decode cX5_perform 12 = .ok (.ifCond .le 7, 3) := by decide +kernel
theorem dX5_perform_15 : decode cX5_perform 15 = .ok (.iconst 1, 1) := by decide +kernel
theorem dX5_perform_16 : decode cX5_perform 16 = .ok (.goto 4, 3) := by decide +kernel
theorem dX5_perform_19 : decode cX5_perform 19 = .ok (.iconst 0, 1) := by decide +kernel
theorem dX5_perform_20 : decode cX5_perform 20 = .ok (.invokestatic 139, 3) := by decide +kernel
theorem dX5_perform_23 : decode cX5_perform 23 = .ok (.aload_n 0, 1) := by decide +kernel
theorem dX5_perform_24 : decode cX5_perform 24 = .ok (.getfield 40, 3) := by decide +kernel
theorem dX5_perform_27 : decode cX5_perform 27 = .ok (.getfield 198, 3) := by decide +kernel
theorem dX5_perform_30 : decode cX5_perform 30 = .ok (.bipush 20, 2) := by decide +kernel
theorem dX5_perform_32 : decode cX5_perform 32 = .ok (.invokestatic 64, 3) := by decide +kernel
theorem dX5_perform_35 : decode cX5_perform 35 = .ok (.aload_n 0, 1) := by decide +kernel
theorem dX5_perform_36 : decode cX5_perform 36 = .ok (.invokevirtual 189, 3) := by decide +kernel
theorem dX5_perform_39 : decode cX5_perform 39 = .ok (.aload_n 0, 1) := by decide +kernel
theorem dX5_perform_40 : decode cX5_perform 40 = .ok (.iload_n 1, 1) := by decide +kernel
theorem dX5_perform_41 : decode cX5_perform 41 = .ok (.invokevirtual 192, 3) := by decide +kernel
theorem dX5_perform_44 : decode cX5_perform 44 = .ok (.istore_n 2, 1) := by decide +kernel
theorem dX5_perform_45 : decode cX5_perform 45 = .ok (.aload_n 0, 1) := by decide +kernel
theorem dX5_perform_46 : decode cX5_perform 46 = .ok (.iload_n 1, 1) := by decide +kernel
theorem dX5_perform_47 : decode cX5_perform 47 = .ok (.invokevirtual 199, 3) := by decide +kernel
theorem dX5_perform_50 : decode cX5_perform 50 = .ok (.aload_n 0, 1) := by decide +kernel
theorem dX5_perform_51 : decode cX5_perform 51 = .ok (.iload_n 1, 1) := by decide +kernel
theorem dX5_perform_52 : decode cX5_perform 52 = .ok (.invokevirtual 202, 3) := by decide +kernel
theorem dX5_perform_55 : decode cX5_perform 55 = .ok (.iload_n 2, 1) := by decide +kernel
theorem dX5_perform_56 : decode cX5_perform 56 = .ok (.ireturn, 1) := by decide +kernel
theorem dX5_logs_0 : decode cX5_logs 0 = .ok (.aload_n 0, 1) := by decide +kernel
theorem dX5_logs_1 : decode cX5_logs 1 = .ok (.getfield 40, 3) := by decide +kernel
theorem dX5_logs_4 : decode cX5_logs 4 = .ok (.getfield 198, 3) := by decide +kernel
theorem dX5_logs_7 : decode cX5_logs 7 = .ok (.ireturn, 1) := by decide +kernel
set_option maxRecDepth 20000 in
theorem ggX5_stageOf_X5_checkNumber : GoodIn wsX5_stageOf wsX5_checkNumber := goodIn_ca (goodIn_r _ [5, 6, 7] (by decide +kernel) (by decide +kernel)) (goodIn_sub (fun _ h => List.mem_cons_of_mem _ (List.mem_append_right _ h)) (by decide +kernel))
set_option maxRecDepth 20000 in
theorem gX5_stageOf_X5_checkNumber : GoodIn wsX5_stageOf (va_wsS RX5 72 yX5_checkNumber wsX5_checkNumber) := goodIn_app (goodIn_of _ (by decide +kernel)) ggX5_stageOf_X5_checkNumber
theorem dX5_stageOf_0 : decode cX5_stageOf 0 = .ok (.iload_n 1, 1) := by decide +kernel
theorem dX5_stageOf_1 : decode cX5_stageOf 1 = .ok (.aload_n 0, 1) := by decide +kernel
theorem dX5_stageOf_2 : decode cX5_stageOf 2 = .ok (.getfield 40, 3) := by decide +kernel
theorem dX5_stageOf_5 : decode cX5_stageOf 5 = .ok (.getfield 198, 3) := by decide +kernel
theorem dX5_stageOf_8 : decode cX5_stageOf 8 = .ok (.invokestatic 72, 3) := by decide +kernel
theorem dX5_stageOf_11 : decode cX5_stageOf 11 = .ok (.aload_n 0, 1) := by decide +kernel
theorem dX5_stageOf_12 : decode cX5_stageOf 12 = .ok (.getfield 40, 3) := by decide +kernel
theorem dX5_stageOf_15 : decode cX5_stageOf 15 = .ok (.getfield 205, 3) := by decide +kernel
theorem dX5_stageOf_18 : decode cX5_stageOf 18 = .ok (.iload_n 1, 1) := by decide +kernel
theorem dX5_stageOf_19 : decode cX5_stageOf 19 = .ok (.iaload, 1) := by decide +kernel
theorem dX5_stageOf_20 : decode cX5_stageOf 20 = .ok (.ireturn, 1) := by decide +kernel
set_option maxRecDepth 20000 in
theorem ggX5_wasShortOf_X5_checkNumber : GoodIn wsX5_wasShortOf wsX5_checkNumber := goodIn_ca (goodIn_r _ [6, 7, 8] (by decide +kernel) (by decide +kernel)) (goodIn_sub (fun _ h => List.mem_cons_of_mem _ (List.mem_append_right _ h)) (by decide +kernel))
set_option maxRecDepth 20000 in
theorem gX5_wasShortOf_X5_checkNumber : GoodIn wsX5_wasShortOf (va_wsS RX5 72 yX5_checkNumber wsX5_checkNumber) := goodIn_app (goodIn_of _ (by decide +kernel)) ggX5_wasShortOf_X5_checkNumber
theorem dX5_wasShortOf_0 : decode cX5_wasShortOf 0 = .ok (.iload_n 1, 1) := by decide +kernel
theorem dX5_wasShortOf_1 : decode cX5_wasShortOf 1 = .ok (.aload_n 0, 1) := by decide +kernel
theorem dX5_wasShortOf_2 : decode cX5_wasShortOf 2 = .ok (.getfield 40, 3) := by decide +kernel
theorem dX5_wasShortOf_5 : decode cX5_wasShortOf 5 = .ok (.getfield 198, 3) := by decide +kernel
theorem dX5_wasShortOf_8 : decode cX5_wasShortOf 8 = .ok (.invokestatic 72, 3) := by decide +kernel
theorem dX5_wasShortOf_11 : decode cX5_wasShortOf 11 = .ok (.iload_n 2, 1) := by decide +kernel
theorem dX5_wasShortOf_12 : decode cX5_wasShortOf 12 = .ok (.aload_n 0, 1) := by decide +kernel
theorem dX5_wasShortOf_13 : decode cX5_wasShortOf 13 = .ok (.getfield 10, 3) := by decide +kernel
theorem dX5_wasShortOf_16 : decode cX5_wasShortOf 16 = .ok (.getfield 60, 3) := by decide +kernel
theorem dX5_wasShortOf_19 : decode cX5_wasShortOf 19 = .ok (.invokestatic 72, 3) := by decide +kernel
theorem dX5_wasShortOf_22 : decode cX5_wasShortOf 22 = .ok (.aload_n 0, 1) := by decide +kernel
theorem dX5_wasShortOf_23 : decode cX5_wasShortOf 23 = .ok (.getfield 40, 3) := by decide +kernel
theorem dX5_wasShortOf_26 : decode cX5_wasShortOf 26 = .ok (.getfield 206, 3) := by decide +kernel
theorem dX5_wasShortOf_29 : decode cX5_wasShortOf 29 = .ok (.iload_n 1, 1) := by decide +kernel
theorem dX5_wasShortOf_30 : decode cX5_wasShortOf 30 = .ok (.aaload, 1) := by decide +kernel
theorem dX5_wasShortOf_31 : decode cX5_wasShortOf 31 = .ok (.iload_n 2, 1) := by decide +kernel
theorem dX5_wasShortOf_32 : decode cX5_wasShortOf 32 = .ok (.iaload, 1) := by decide +kernel
theorem dX5_wasShortOf_33 : decode cX5_wasShortOf 33 = .ok (.ireturn, 1) := by decide +kernel
set_option maxRecDepth 20000 in
theorem ggX5_timesShort_X5_checkNumber : GoodIn wsX5_timesShort wsX5_checkNumber := goodIn_ca (goodIn_r _ [6, 7, 8] (by decide +kernel) (by decide +kernel)) (goodIn_sub (fun _ h => List.mem_cons_of_mem _ (List.mem_append_right _ h)) (by decide +kernel))
set_option maxRecDepth 20000 in
theorem gX5_timesShort_X5_checkNumber : GoodIn wsX5_timesShort (va_wsS RX5 72 yX5_checkNumber wsX5_checkNumber) := goodIn_app (goodIn_of _ (by decide +kernel)) ggX5_timesShort_X5_checkNumber
set_option maxRecDepth 20000 in
theorem ggX5_timesShort_X0_countShortLogs : GoodIn wsX5_timesShort wsX0_countShortLogs := goodIn_r _ [13, 14, 15, 28, 29, 30] (by decide +kernel) (by decide +kernel)
set_option maxRecDepth 20000 in
theorem gX5_timesShort_X0_countShortLogs : GoodIn wsX5_timesShort (wsV RX5 209 RX0 yX0_countShortLogs wsX0_countShortLogs) := goodIn_app (goodIn_of _ (by decide +kernel)) ggX5_timesShort_X0_countShortLogs
theorem dX5_timesShort_0 : decode cX5_timesShort 0 = .ok (.iload_n 1, 1) := by decide +kernel
theorem dX5_timesShort_1 : decode cX5_timesShort 1 = .ok (.aload_n 0, 1) := by decide +kernel
theorem dX5_timesShort_2 : decode cX5_timesShort 2 = .ok (.getfield 10, 3) := by decide +kernel
theorem dX5_timesShort_5 : decode cX5_timesShort 5 = .ok (.getfield 60, 3) := by decide +kernel
theorem dX5_timesShort_8 : decode cX5_timesShort 8 = .ok (.invokestatic 72, 3) := by decide +kernel
theorem dX5_timesShort_11 : decode cX5_timesShort 11 = .ok (.aload_n 0, 1) := by decide +kernel
theorem dX5_timesShort_12 : decode cX5_timesShort 12 = .ok (.getfield 40, 3) := by decide +kernel
theorem dX5_timesShort_15 : decode cX5_timesShort 15 = .ok (.iload_n 1, 1) := by decide +kernel
theorem dX5_timesShort_16 : decode cX5_timesShort 16 = .ok (.invokevirtual 209, 3) := by decide +kernel
theorem dX5_timesShort_19 : decode cX5_timesShort 19 = .ok (.ireturn, 1) := by decide +kernel
theorem dX5_checkNumber_0 : decode cX5_checkNumber 0 = .ok (.iload_n 0, 1) := by decide +kernel
theorem dX5_checkNumber_1 : decode cX5_checkNumber 1 = .ok (.ifCond .lt 8, 3) := by decide +kernel
theorem dX5_checkNumber_4 : decode cX5_checkNumber 4 = .ok (.iload_n 0, 1) := by decide +kernel
theorem dX5_checkNumber_5 : decode cX5_checkNumber 5 = .ok (.iload_n 1, 1) := by decide +kernel
theorem dX5_checkNumber_6 : decode cX5_checkNumber 6 = .ok (.if_icmp .lt 13, 3) := by decide +kernel
theorem dX5_checkNumber_9 : decode cX5_checkNumber 9 = .ok (.new 212, 3) := by decide +kernel
theorem dX5_checkNumber_12 : decode cX5_checkNumber 12 = .ok (.dup, 1) := by decide +kernel
theorem dX5_checkNumber_13 : decode cX5_checkNumber 13 = .ok (.ldc 214, 2) := by decide +kernel
theorem dX5_checkNumber_15 : decode cX5_checkNumber 15 = .ok (.invokespecial 216, 3) := by decide +kernel
theorem dX5_checkNumber_18 : decode cX5_checkNumber 18 = .ok (.athrow, 1) := by decide +kernel
theorem dX5_checkNumber_19 : decode cX5_checkNumber 19 = .ok (.return_, 1) := by decide +kernel
theorem dX5_checkRange_0 : decode cX5_checkRange 0 = .ok (.iload_n 0, 1) := by decide +kernel
theorem dX5_checkRange_1 : decode cX5_checkRange 1 = .ok (.iload_n 1, 1) := by decide +kernel
theorem dX5_checkRange_2 : decode cX5_checkRange 2 = .ok (.if_icmp .lt 8, 3) := by decide +kernel
theorem dX5_checkRange_5 : decode cX5_checkRange 5 = .ok (.iload_n 0, 1) := by decide +kernel
theorem dX5_checkRange_6 : decode cX5_checkRange 6 = .ok (.iload_n 2, 1) := by decide +kernel
theorem dX5_checkRange_7 : decode cX5_checkRange 7 = .ok (.if_icmp .le 13, 3) := by decide +kernel
theorem dX5_checkRange_10 : decode cX5_checkRange 10 = .ok (.new 219, 3) := by decide +kernel
theorem dX5_checkRange_13 : decode cX5_checkRange 13 = .ok (.dup, 1) := by decide +kernel
theorem dX5_checkRange_14 : decode cX5_checkRange 14 = .ok (.ldc 221, 2) := by decide +kernel
theorem dX5_checkRange_16 : decode cX5_checkRange 16 = .ok (.invokespecial 223, 3) := by decide +kernel
theorem dX5_checkRange_19 : decode cX5_checkRange 19 = .ok (.athrow, 1) := by decide +kernel
theorem dX5_checkRange_20 : decode cX5_checkRange 20 = .ok (.return_, 1) := by decide +kernel
theorem dX5_checkRoom_0 : decode cX5_checkRoom 0 = .ok (.iload_n 0, 1) := by decide +kernel
theorem dX5_checkRoom_1 : decode cX5_checkRoom 1 = .ok (.iload_n 1, 1) := by decide +kernel
theorem dX5_checkRoom_2 : decode cX5_checkRoom 2 = .ok (.if_icmp .lt 13, 3) := by decide +kernel
theorem dX5_checkRoom_5 : decode cX5_checkRoom 5 = .ok (.new 224, 3) := by decide +kernel
theorem dX5_checkRoom_8 : decode cX5_checkRoom 8 = .ok (.dup, 1) := by decide +kernel
theorem dX5_checkRoom_9 : decode cX5_checkRoom 9 = .ok (.ldc 226, 2) := by decide +kernel
theorem dX5_checkRoom_11 : decode cX5_checkRoom 11 = .ok (.invokespecial 228, 3) := by decide +kernel
theorem dX5_checkRoom_14 : decode cX5_checkRoom 14 = .ok (.athrow, 1) := by decide +kernel
theorem dX5_checkRoom_15 : decode cX5_checkRoom 15 = .ok (.return_, 1) := by decide +kernel
theorem dX5_checkState_0 : decode cX5_checkState 0 = .ok (.iload_n 0, 1) := by decide +kernel
theorem dX5_checkState_1 : decode cX5_checkState 1 = .ok (.ifCond .ne 13, 3) := by decide +kernel
theorem dX5_checkState_4 : decode cX5_checkState 4 = .ok (.new 224, 3) := by decide +kernel
theorem dX5_checkState_7 : decode cX5_checkState 7 = .ok (.dup, 1) := by decide +kernel
theorem dX5_checkState_8 : decode cX5_checkState 8 = .ok (.ldc 229, 2) := by decide +kernel
theorem dX5_checkState_10 : decode cX5_checkState 10 = .ok (.invokespecial 228, 3) := by decide +kernel
theorem dX5_checkState_13 : decode cX5_checkState 13 = .ok (.athrow, 1) := by decide +kernel
theorem dX5_checkState_14 : decode cX5_checkState 14 = .ok (.return_, 1) := by decide +kernel
set_option maxRecDepth 20000 in
theorem ggX5_readEndOf_X4_lastSecondOf : GoodIn wsX5_readEndOf wsX4_lastSecondOf := goodIn_r _ [8, 9, 10, 11, 12, 7, 13, 14, 40, 41, 42, 43] (by decide +kernel) (by decide +kernel)
set_option maxRecDepth 20000 in
theorem gX5_readEndOf_X4_lastSecondOf : GoodIn wsX5_readEndOf (wsV RX5 231 RX4 yX4_lastSecondOf wsX4_lastSecondOf) := goodIn_app (goodIn_of _ (by decide +kernel)) ggX5_readEndOf_X4_lastSecondOf
set_option maxRecDepth 20000 in
theorem ggX5_readEndOf_X1_fillLevels : GoodIn wsX5_readEndOf wsX1_fillLevels := goodIn_r _ [19, 20, 21, 22, 18, 23, 24, 25, 26, 27, 28, 29, 30, 31, 44, 45, 46, 47, 48, 49, 50, 51, 52, 53, 54] (by decide +kernel) (by decide +kernel)
set_option maxRecDepth 20000 in
theorem gX5_readEndOf_X1_fillLevels : GoodIn wsX5_readEndOf (wsV RX5 171 RX1 yX1_fillLevels wsX1_fillLevels) := goodIn_app (goodIn_of _ (by decide +kernel)) ggX5_readEndOf_X1_fillLevels
theorem dX5_readEndOf_0 : decode cX5_readEndOf 0 = .ok (.aload_n 0, 1) := by decide +kernel
theorem dX5_readEndOf_1 : decode cX5_readEndOf 1 = .ok (.getfield 10, 3) := by decide +kernel
theorem dX5_readEndOf_4 : decode cX5_readEndOf 4 = .ok (.getfield 78, 3) := by decide +kernel
theorem dX5_readEndOf_7 : decode cX5_readEndOf 7 = .ok (.iload_n 1, 1) := by decide +kernel
theorem dX5_readEndOf_8 : decode cX5_readEndOf 8 = .ok (.baload, 1) := by decide +kernel
theorem dX5_readEndOf_9 : decode cX5_readEndOf 9 = .ok (.ifCond .ne 24, 3) := by decide +kernel
theorem dX5_readEndOf_12 : decode cX5_readEndOf 12 = .ok (.aload_n 0, 1) := by decide +kernel
theorem dX5_readEndOf_13 : decode cX5_readEndOf 13 = .ok (.getfield 26, 3) := by decide +kernel
theorem dX5_readEndOf_16 : decode cX5_readEndOf 16 = .ok (.aload_n 0, 1) := by decide +kernel
theorem dX5_readEndOf_17 : decode cX5_readEndOf 17 = .ok (.getfield 10, 3) := by decide +kernel
theorem dX5_readEndOf_20 : decode cX5_readEndOf 20 = .ok (.iload_n 1, 1) := by decide +kernel
theorem dX5_readEndOf_21 : decode cX5_readEndOf 21 = .ok (.invokevirtual 231, 3) := by decide +kernel
theorem dX5_readEndOf_24 : decode cX5_readEndOf 24 = .ok (.aload_n 0, 1) := by decide +kernel
theorem dX5_readEndOf_25 : decode cX5_readEndOf 25 = .ok (.getfield 53, 3) := by decide +kernel
theorem dX5_readEndOf_28 : decode cX5_readEndOf 28 = .ok (.iload_n 1, 1) := by decide +kernel
theorem dX5_readEndOf_29 : decode cX5_readEndOf 29 = .ok (.aaload, 1) := by decide +kernel
theorem dX5_readEndOf_30 : decode cX5_readEndOf 30 = .ok (.invokevirtual 171, 3) := by decide +kernel
theorem dX5_readEndOf_33 : decode cX5_readEndOf 33 = .ok (.return_, 1) := by decide +kernel
set_option maxRecDepth 20000 in
theorem ggX5_readEnds_X5_readEndOf : GoodIn wsX5_readEnds wsX5_readEndOf := goodIn_r _ [6, 1, 7, 8, 9, 10, 11, 12, 13, 14, 15, 16, 17, 18, 19, 20, 21, 22, 23, 24, 25, 26, 27, 28, 29, 30, 31, 32, 33, 34, 35, 36, 37, 38, 39, 40, 41, 42, 43, 44, 45, 46, 47, 48, 49, 50, 51, 52, 53, 54, 55, 56, 57, 58, 59] (by decide +kernel) (by decide +kernel)
set_option maxRecDepth 20000 in
theorem gX5_readEnds_X5_readEndOf : GoodIn wsX5_readEnds (wsV RX5 183 RX5 yX5_readEndOf wsX5_readEndOf) := goodIn_app (goodIn_of _ (by decide +kernel)) ggX5_readEnds_X5_readEndOf
theorem dX5_readEnds_0 : decode cX5_readEnds 0 = .ok (.iconst 0, 1) := by decide +kernel
theorem dX5_readEnds_1 : decode cX5_readEnds 1 = .ok (.istore_n 1, 1) := by decide +kernel
theorem dX5_readEnds_2 : decode cX5_readEnds 2 = .ok (.iload_n 1, 1) := by decide +kernel
theorem dX5_readEnds_3 : decode cX5_readEnds 3 = .ok (.aload_n 0, 1) := by decide +kernel
theorem dX5_readEnds_4 : decode cX5_readEnds 4 = .ok (.getfield 10, 3) := by decide +kernel
theorem dX5_readEnds_7 : decode cX5_readEnds 7 = .ok (.getfield 60, 3) := by decide +kernel
theorem dX5_readEnds_10 : decode cX5_readEnds 10 = .ok (.if_icmp .ge 14, 3) := by decide +kernel
theorem dX5_readEnds_13 : decode cX5_readEnds 13 = .ok (.aload_n 0, 1) := by decide +kernel
theorem dX5_readEnds_14 : decode cX5_readEnds 14 = .ok (.iload_n 1, 1) := by decide +kernel
theorem dX5_readEnds_15 : decode cX5_readEnds 15 = .ok (.invokevirtual 183, 3) := by decide +kernel
theorem dX5_readEnds_18 : decode cX5_readEnds 18 = .ok (.iinc 1 1, 3) := by decide +kernel
theorem dX5_readEnds_21 : decode cX5_readEnds 21 = .ok (.goto (-19), 3) := by decide +kernel
theorem dX5_readEnds_24 : decode cX5_readEnds 24 = .ok (.return_, 1) := by decide +kernel
set_option maxRecDepth 20000 in
theorem ggX5_shortAreas_X3_lightOf : GoodIn wsX5_shortAreas wsX3_lightOf := goodIn_r _ [9, 10, 11, 12, 13, 14, 8, 15, 16, 17, 18, 19, 20, 21, 22, 35, 36, 37, 38, 39, 40, 41, 42, 43] (by decide +kernel) (by decide +kernel)
set_option maxRecDepth 20000 in
theorem gX5_shortAreas_X3_lightOf : GoodIn wsX5_shortAreas (wsV RX5 179 RX3 yX3_lightOf wsX3_lightOf) := goodIn_app (goodIn_of _ (by decide +kernel)) ggX5_shortAreas_X3_lightOf
theorem dX5_shortAreas_0 : decode cX5_shortAreas 0 = .ok (.aload_n 0, 1) := by decide +kernel
theorem dX5_shortAreas_1 : decode cX5_shortAreas 1 = .ok (.getfield 10, 3) := by decide +kernel
theorem dX5_shortAreas_4 : decode cX5_shortAreas 4 = .ok (.getfield 78, 3) := by decide +kernel
theorem dX5_shortAreas_7 : decode cX5_shortAreas 7 = .ok (.iload_n 2, 1) := by decide +kernel
theorem dX5_shortAreas_8 : decode cX5_shortAreas 8 = .ok (.baload, 1) := by decide +kernel
theorem dX5_shortAreas_9 : decode cX5_shortAreas 9 = .ok (.ifCond .eq 5, 3) := by decide +kernel
theorem dX5_shortAreas_12 : decode cX5_shortAreas 12 = .ok (.iconst 0, 1) := by decide +kernel
theorem dX5_shortAreas_13 : decode cX5_shortAreas 13 = .ok (.ireturn, 1) := by decide +kernel
theorem dX5_shortAreas_14 : decode cX5_shortAreas 14 = .ok (.iconst 0, 1) := by decide +kernel
theorem dX5_shortAreas_15 : decode cX5_shortAreas 15 = .ok (.istore_n 3, 1) := by decide +kernel
theorem dX5_shortAreas_16 : decode cX5_shortAreas 16 = .ok (.iconst 0, 1) := by decide +kernel
theorem dX5_shortAreas_17 : decode cX5_shortAreas 17 = .ok (.istore 4, 2) := by decide +kernel
theorem dX5_shortAreas_19 : decode cX5_shortAreas 19 = .ok (.iload 4, 2) := by decide +kernel
theorem dX5_shortAreas_21 : decode cX5_shortAreas 21 = .ok (.iconst 4, 1) := by decide +kernel
theorem dX5_shortAreas_22 : decode cX5_shortAreas 22 = .ok (.if_icmp .ge 51, 3) := by decide +kernel
theorem dX5_shortAreas_25 : decode cX5_shortAreas 25 = .ok (.aload_n 0, 1) := by decide +kernel
theorem dX5_shortAreas_26 : decode cX5_shortAreas 26 = .ok (.getfield 33, 3) := by decide +kernel
theorem dX5_shortAreas_29 : decode cX5_shortAreas 29 = .ok (.iload_n 1, 1) := by decide +kernel
theorem dX5_shortAreas_30 : decode cX5_shortAreas 30 = .ok (.iload 4, 2) := by decide +kernel
theorem dX5_shortAreas_32 : decode cX5_shortAreas 32 = .ok (.aload_n 0, 1) := by decide +kernel
theorem dX5_shortAreas_33 : decode cX5_shortAreas 33 = .ok (.getfield 48, 3) := by decide +kernel
theorem dX5_shortAreas_36 : decode cX5_shortAreas 36 = .ok (.aload_n 0, 1) := by decide +kernel
theorem dX5_shortAreas_37 : decode cX5_shortAreas 37 = .ok (.getfield 53, 3) := by decide +kernel
theorem dX5_shortAreas_40 : decode cX5_shortAreas 40 = .ok (.iload_n 2, 1) := by decide +kernel
theorem dX5_shortAreas_41 : decode cX5_shortAreas 41 = .ok (.aaload, 1) := by decide +kernel
theorem dX5_shortAreas_42 : decode cX5_shortAreas 42 = .ok (.invokevirtual 179, 3) := by decide +kernel
theorem dX5_shortAreas_45 : decode cX5_shortAreas 45 = .ok (.aload_n 0, 1) := by decide +kernel
theorem dX5_shortAreas_46 : decode cX5_shortAreas 46 = .ok (.getfield 10, 3) := by decide +kernel
theorem dX5_shortAreas_49 : decode cX5_shortAreas 49 = .ok (.getfield 75, 3) := by decide +kernel
theorem dX5_shortAreas_52 : decode cX5_shortAreas 52 = .ok (.iload_n 2, 1) := by decide +kernel
theorem dX5_shortAreas_53 : decode cX5_shortAreas 53 = .ok (.aaload, 1) := by decide +kernel
theorem dX5_shortAreas_54 : decode cX5_shortAreas 54 = .ok (.iload 4, 2) := by decide +kernel
theorem dX5_shortAreas_56 : decode cX5_shortAreas 56 = .ok (.iaload, 1) := by decide +kernel
theorem dX5_shortAreas_57 : decode cX5_shortAreas 57 = .ok (.if_icmp .ge 10, 3) := by decide +kernel
theorem dX5_shortAreas_60 : decode cX5_shortAreas 60 = .ok (.iload_n 3, 1) := by decide +kernel
theorem dX5_shortAreas_61 : decode cX5_shortAreas 61 = .ok (.iconst 1, 1) := by decide +kernel
theorem dX5_shortAreas_62 : decode cX5_shortAreas 62 = .ok (.iload 4, 2) := by decide +kernel
theorem dX5_shortAreas_64 : decode cX5_shortAreas 64 = .ok (.ishl, 1) := by decide +kernel
theorem dX5_shortAreas_65 : decode cX5_shortAreas 65 = .ok (.ior, 1) := by decide +kernel
theorem dX5_shortAreas_66 : decode cX5_shortAreas 66 = .ok (.istore_n 3, 1) := by decide +kernel
theorem dX5_shortAreas_67 : decode cX5_shortAreas 67 = .ok (.iinc 4 1, 3) := by decide +kernel
theorem dX5_shortAreas_70 : decode cX5_shortAreas 70 = .ok (.goto (-51), 3) := by decide +kernel
theorem dX5_shortAreas_73 : decode cX5_shortAreas 73 = .ok (.iload_n 3, 1) := by decide +kernel
theorem dX5_shortAreas_74 : decode cX5_shortAreas 74 = .ok (.ireturn, 1) := by decide +kernel
set_option maxRecDepth 20000 in
theorem ggX5_countShort_X3_lay : GoodIn wsX5_countShort wsX3_lay := goodIn_r _ [9, 10, 11, 12, 8, 13, 14, 15, 16, 17, 18, 19, 20, 21, 50, 51, 52, 53, 54, 55, 56, 57, 58, 59, 60] (by decide +kernel) (by decide +kernel)
set_option maxRecDepth 20000 in
theorem gX5_countShort_X3_lay : GoodIn wsX5_countShort (wsV RX5 167 RX3 yX3_lay wsX3_lay) := goodIn_app (goodIn_of _ (by decide +kernel)) ggX5_countShort_X3_lay
set_option maxRecDepth 20000 in
theorem ggX5_countShort_X5_shortAreas : GoodIn wsX5_countShort wsX5_shortAreas := goodIn_r _ [26, 4, 1, 3, 27, 28, 29, 30, 8, 31, 14, 32, 16, 17, 18, 19, 20, 21, 33, 34, 35, 36, 37, 38, 39, 40, 41, 42, 43, 44, 45, 46, 47, 48, 49, 52, 53, 54, 55, 56, 57, 58, 59, 60] (by decide +kernel) (by decide +kernel)
set_option maxRecDepth 20000 in
theorem gX5_countShort_X5_shortAreas : GoodIn wsX5_countShort (wsV RX5 186 RX5 yX5_shortAreas wsX5_shortAreas) := goodIn_app (goodIn_of _ (by decide +kernel)) ggX5_countShort_X5_shortAreas
theorem dX5_countShort_0 : decode cX5_countShort 0 = .ok (.aload_n 0, 1) := by decide +kernel
theorem dX5_countShort_1 : decode cX5_countShort 1 = .ok (.getfield 33, 3) := by decide +kernel
theorem dX5_countShort_4 : decode cX5_countShort 4 = .ok (.iload_n 1, 1) := by decide +kernel
theorem dX5_countShort_5 : decode cX5_countShort 5 = .ok (.aload_n 0, 1) := by decide +kernel
theorem dX5_countShort_6 : decode cX5_countShort 6 = .ok (.getfield 19, 3) := by decide +kernel
theorem dX5_countShort_9 : decode cX5_countShort 9 = .ok (.aload_n 0, 1) := by decide +kernel
theorem dX5_countShort_10 : decode cX5_countShort 10 = .ok (.getfield 48, 3) := by decide +kernel
theorem dX5_countShort_13 : decode cX5_countShort 13 = .ok (.invokevirtual 167, 3) := by decide +kernel
theorem dX5_countShort_16 : decode cX5_countShort 16 = .ok (.iconst 0, 1) := by decide +kernel
theorem dX5_countShort_17 : decode cX5_countShort 17 = .ok (.istore_n 2, 1) := by decide +kernel
theorem dX5_countShort_18 : decode cX5_countShort 18 = .ok (.iconst 0, 1) := by decide +kernel
theorem dX5_countShort_19 : decode cX5_countShort 19 = .ok (.istore_n 3, 1) := by decide +kernel
theorem dX5_countShort_20 : decode cX5_countShort 20 = .ok (.iload_n 3, 1) := by decide +kernel
theorem dX5_countShort_21 : decode cX5_countShort 21 = .ok (.aload_n 0, 1) := by decide +kernel
theorem dX5_countShort_22 : decode cX5_countShort 22 = .ok (.getfield 10, 3) := by decide +kernel
theorem dX5_countShort_25 : decode cX5_countShort 25 = .ok (.getfield 60, 3) := by decide +kernel
theorem dX5_countShort_28 : decode cX5_countShort 28 = .ok (.if_icmp .ge 21, 3) := by decide +kernel
theorem dX5_countShort_31 : decode cX5_countShort 31 = .ok (.aload_n 0, 1) := by decide +kernel
theorem dX5_countShort_32 : decode cX5_countShort 32 = .ok (.iload_n 1, 1) := by decide +kernel
theorem dX5_countShort_33 : decode cX5_countShort 33 = .ok (.iload_n 3, 1) := by decide +kernel
theorem dX5_countShort_34 : decode cX5_countShort 34 = .ok (.invokevirtual 186, 3) := by decide +kernel
theorem dX5_countShort_37 : decode cX5_countShort 37 = .ok (.ifCond .eq 6, 3) := by decide +kernel
theorem dX5_countShort_40 : decode cX5_countShort 40 = .ok (.iinc 2 1, 3) := by decide +kernel
theorem dX5_countShort_43 : decode cX5_countShort 43 = .ok (.iinc 3 1, 3) := by decide +kernel
theorem dX5_countShort_46 : decode cX5_countShort 46 = .ok (.goto (-26), 3) := by decide +kernel
theorem dX5_countShort_49 : decode cX5_countShort 49 = .ok (.iload_n 2, 1) := by decide +kernel
theorem dX5_countShort_50 : decode cX5_countShort 50 = .ok (.ireturn, 1) := by decide +kernel
set_option maxRecDepth 20000 in
theorem ggX5_countShortWith_X3_put : GoodIn wsX5_countShortWith wsX3_put := goodIn_r _ [6, 7, 8, 61, 62, 63, 64, 65, 66, 67, 68, 69] (by decide +kernel) (by decide +kernel)
set_option maxRecDepth 20000 in
theorem gX5_countShortWith_X3_put : GoodIn wsX5_countShortWith (wsV RX5 143 RX3 yX3_put wsX3_put) := goodIn_app (goodIn_of _ (by decide +kernel)) ggX5_countShortWith_X3_put
set_option maxRecDepth 20000 in
theorem ggX5_countShortWith_X5_countShort : GoodIn wsX5_countShortWith wsX5_countShort := goodIn_r _ [13, 1, 14, 15, 16, 17, 18, 19, 5, 20, 21, 22, 23, 24, 25, 26, 27, 28, 29, 30, 7, 8, 31, 32, 33, 12, 34, 35, 36, 37, 38, 39, 40, 41, 42, 43, 44, 45, 53, 54, 55, 56, 57, 58, 59, 60, 70, 71, 72, 73, 74, 75, 61, 62, 63, 64, 65, 66, 67, 68, 69] (by decide +kernel) (by decide +kernel)
set_option maxRecDepth 20000 in
theorem gX5_countShortWith_X5_countShort : GoodIn wsX5_countShortWith (wsV RX5 192 RX5 yX5_countShort wsX5_countShort) := goodIn_app (goodIn_of _ (by decide +kernel)) ggX5_countShortWith_X5_countShort
set_option maxRecDepth 20000 in
theorem ggX5_countShortWith_X3_putHome : GoodIn wsX5_countShortWith wsX3_putHome := goodIn_r _ [49, 50, 51, 52, 3, 4, 5, 6, 7, 8, 61, 62, 63, 64, 65, 66, 67, 68, 69] (by decide +kernel) (by decide +kernel)
set_option maxRecDepth 20000 in
theorem gX5_countShortWith_X3_putHome : GoodIn wsX5_countShortWith (wsV RX5 156 RX3 yX3_putHome wsX3_putHome) := goodIn_app (goodIn_of _ (by decide +kernel)) ggX5_countShortWith_X3_putHome
theorem dX5_countShortWith_0 : decode cX5_countShortWith 0 = .ok (.aload_n 0, 1) := by decide +kernel
theorem dX5_countShortWith_1 : decode cX5_countShortWith 1 = .ok (.getfield 33, 3) := by decide +kernel
theorem dX5_countShortWith_4 : decode cX5_countShortWith 4 = .ok (.iload_n 1, 1) := by decide +kernel
theorem dX5_countShortWith_5 : decode cX5_countShortWith 5 = .ok (.iload_n 2, 1) := by decide +kernel
theorem dX5_countShortWith_6 : decode cX5_countShortWith 6 = .ok (.iload_n 3, 1) := by decide +kernel
theorem dX5_countShortWith_7 : decode cX5_countShortWith 7 = .ok (.invokevirtual 143, 3) := by decide +kernel
theorem dX5_countShortWith_10 : decode cX5_countShortWith 10 = .ok (.aload_n 0, 1) := by decide +kernel
theorem dX5_countShortWith_11 : decode cX5_countShortWith 11 = .ok (.iload_n 2, 1) := by decide +kernel
theorem dX5_countShortWith_12 : decode cX5_countShortWith 12 = .ok (.invokevirtual 192, 3) := by decide +kernel
theorem dX5_countShortWith_15 : decode cX5_countShortWith 15 = .ok (.istore 4, 2) := by decide +kernel
theorem dX5_countShortWith_17 : decode cX5_countShortWith 17 = .ok (.aload_n 0, 1) := by decide +kernel
theorem dX5_countShortWith_18 : decode cX5_countShortWith 18 = .ok (.getfield 33, 3) := by decide +kernel
theorem dX5_countShortWith_21 : decode cX5_countShortWith 21 = .ok (.iload_n 1, 1) := by decide +kernel
theorem dX5_countShortWith_22 : decode cX5_countShortWith 22 = .ok (.invokevirtual 156, 3) := by decide +kernel
theorem dX5_countShortWith_25 : decode cX5_countShortWith 25 = .ok (.iload 4, 2) := by decide +kernel
theorem dX5_countShortWith_27 : decode cX5_countShortWith 27 = .ok (.ireturn, 1) := by decide +kernel
set_option maxRecDepth 20000 in
theorem ggX5_writeLog_X0_append : GoodIn wsX5_writeLog wsX0_append := goodIn_r _ [7, 8, 9, 48, 49, 50] (by decide +kernel) (by decide +kernel)
set_option maxRecDepth 20000 in
theorem gX5_writeLog_X0_append : GoodIn wsX5_writeLog (wsV RX5 234 RX0 yX0_append wsX0_append) := goodIn_app (goodIn_of _ (by decide +kernel)) ggX5_writeLog_X0_append
set_option maxRecDepth 20000 in
theorem ggX5_writeLog_X5_shortAreas : GoodIn wsX5_writeLog wsX5_shortAreas := goodIn_r _ [14, 2, 15, 16, 17, 18, 19, 20, 21, 22, 23, 24, 25, 26, 27, 28, 29, 30, 31, 32, 33, 34, 35, 36, 37, 38, 39, 40, 41, 42, 43, 44, 45, 46, 47, 51, 52, 53, 54, 55, 56, 57, 58, 59] (by decide +kernel) (by decide +kernel)
set_option maxRecDepth 20000 in
theorem gX5_writeLog_X5_shortAreas : GoodIn wsX5_writeLog (wsV RX5 186 RX5 yX5_shortAreas wsX5_shortAreas) := goodIn_app (goodIn_of _ (by decide +kernel)) ggX5_writeLog_X5_shortAreas
theorem dX5_writeLog_0 : decode cX5_writeLog 0 = .ok (.aload_n 0, 1) := by decide +kernel
theorem dX5_writeLog_1 : decode cX5_writeLog 1 = .ok (.getfield 40, 3) := by decide +kernel
theorem dX5_writeLog_4 : decode cX5_writeLog 4 = .ok (.iload_n 1, 1) := by decide +kernel
theorem dX5_writeLog_5 : decode cX5_writeLog 5 = .ok (.invokevirtual 234, 3) := by decide +kernel
theorem dX5_writeLog_8 : decode cX5_writeLog 8 = .ok (.istore_n 2, 1) := by decide +kernel
theorem dX5_writeLog_9 : decode cX5_writeLog 9 = .ok (.iconst 0, 1) := by decide +kernel
theorem dX5_writeLog_10 : decode cX5_writeLog 10 = .ok (.istore_n 3, 1) := by decide +kernel
theorem dX5_writeLog_11 : decode cX5_writeLog 11 = .ok (.iload_n 3, 1) := by decide +kernel
theorem dX5_writeLog_12 : decode cX5_writeLog 12 = .ok (.aload_n 0, 1) := by decide +kernel
theorem dX5_writeLog_13 : decode cX5_writeLog 13 = .ok (.getfield 10, 3) := by decide +kernel
theorem dX5_writeLog_16 : decode cX5_writeLog 16 = .ok (.getfield 60, 3) := by decide +kernel
theorem dX5_writeLog_19 : decode cX5_writeLog 19 = .ok (.if_icmp .ge 26, 3) := by decide +kernel
theorem dX5_writeLog_22 : decode cX5_writeLog 22 = .ok (.aload_n 0, 1) := by decide +kernel
theorem dX5_writeLog_23 : decode cX5_writeLog 23 = .ok (.getfield 40, 3) := by decide +kernel
theorem dX5_writeLog_26 : decode cX5_writeLog 26 = .ok (.getfield 206, 3) := by decide +kernel
theorem dX5_writeLog_29 : decode cX5_writeLog 29 = .ok (.iload_n 2, 1) := by decide +kernel
theorem dX5_writeLog_30 : decode cX5_writeLog 30 = .ok (.aaload, 1) := by decide +kernel
theorem dX5_writeLog_31 : decode cX5_writeLog 31 = .ok (.iload_n 3, 1) := by decide +kernel
theorem dX5_writeLog_32 : decode cX5_writeLog 32 = .ok (.aload_n 0, 1) := by decide +kernel
theorem dX5_writeLog_33 : decode cX5_writeLog 33 = .ok (.iload_n 1, 1) := by decide +kernel
theorem dX5_writeLog_34 : decode cX5_writeLog 34 = .ok (.iload_n 3, 1) := by decide +kernel
theorem dX5_writeLog_35 : decode cX5_writeLog 35 = .ok (.invokevirtual 186, 3) := by decide +kernel
theorem dX5_writeLog_38 : decode cX5_writeLog 38 = .ok (.iastore, 1) := by decide +kernel
theorem dX5_writeLog_39 : decode cX5_writeLog 39 = .ok (.iinc 3 1, 3) := by decide +kernel
theorem dX5_writeLog_42 : decode cX5_writeLog 42 = .ok (.goto (-31), 3) := by decide +kernel
theorem dX5_writeLog_45 : decode cX5_writeLog 45 = .ok (.return_, 1) := by decide +kernel
set_option maxRecDepth 20000 in
theorem ggX5_wearOut_X4_total : GoodIn wsX5_wearOut wsX4_total := goodIn_r _ [10, 11, 12, 13, 14, 9, 15, 16, 17, 64, 65, 66, 67] (by decide +kernel) (by decide +kernel)
set_option maxRecDepth 20000 in
theorem gX5_wearOut_X4_total : GoodIn wsX5_wearOut (wsV RX5 86 RX4 yX4_total wsX4_total) := goodIn_app (goodIn_of _ (by decide +kernel)) ggX5_wearOut_X4_total
set_option maxRecDepth 20000 in
theorem ggX5_wearOut_X3_startBurning : GoodIn wsX5_wearOut wsX3_startBurning := goodIn_r _ [22, 23, 24, 68, 69, 70, 71, 72, 73, 74, 75, 76] (by decide +kernel) (by decide +kernel)
set_option maxRecDepth 20000 in
theorem gX5_wearOut_X3_startBurning : GoodIn wsX5_wearOut (wsV RX5 235 RX3 yX3_startBurning wsX3_startBurning) := goodIn_app (goodIn_of _ (by decide +kernel)) ggX5_wearOut_X3_startBurning
set_option maxRecDepth 20000 in
theorem ggX5_wearOut_X1_fillLevels : GoodIn wsX5_wearOut wsX1_fillLevels := goodIn_r _ [29, 30, 31, 32, 28, 33, 34, 35, 36, 37, 38, 39, 40, 41, 77, 78, 79, 80, 81, 82, 83, 84, 85, 86, 87] (by decide +kernel) (by decide +kernel)
set_option maxRecDepth 20000 in
theorem gX5_wearOut_X1_fillLevels : GoodIn wsX5_wearOut (wsV RX5 171 RX1 yX1_fillLevels wsX1_fillLevels) := goodIn_app (goodIn_of _ (by decide +kernel)) ggX5_wearOut_X1_fillLevels
set_option maxRecDepth 20000 in
theorem ggX5_wearOut_X3_burn : GoodIn wsX5_wearOut wsX3_burn := goodIn_r _ [45, 23, 46, 24, 47, 48, 49, 21, 50, 51, 68, 69, 70, 71, 72, 73, 74, 75, 76] (by decide +kernel) (by decide +kernel)
set_option maxRecDepth 20000 in
theorem gX5_wearOut_X3_burn : GoodIn wsX5_wearOut (wsV RX5 238 RX3 yX3_burn wsX3_burn) := goodIn_app (goodIn_of _ (by decide +kernel)) ggX5_wearOut_X3_burn
set_option maxRecDepth 20000 in
theorem ggX5_wearOut_X3_addBurnt : GoodIn wsX5_wearOut wsX3_addBurnt := goodIn_r _ [55, 23, 51, 24, 68, 69, 70, 71, 72, 73, 74, 75, 76] (by decide +kernel) (by decide +kernel)
set_option maxRecDepth 20000 in
theorem gX5_wearOut_X3_addBurnt : GoodIn wsX5_wearOut (wsV RX5 242 RX3 yX3_addBurnt wsX3_addBurnt) := goodIn_app (goodIn_of _ (by decide +kernel)) ggX5_wearOut_X3_addBurnt
theorem dX5_wearOut_0 : decode cX5_wearOut 0 = .ok (.aload_n 0, 1) := by decide +kernel
theorem dX5_wearOut_1 : decode cX5_wearOut 1 = .ok (.getfield 10, 3) := by decide +kernel
theorem dX5_wearOut_4 : decode cX5_wearOut 4 = .ok (.invokevirtual 86, 3) := by decide +kernel
theorem dX5_wearOut_7 : decode cX5_wearOut 7 = .ok (.istore_n 2, 1) := by decide +kernel
theorem dX5_wearOut_8 : decode cX5_wearOut 8 = .ok (.aload_n 0, 1) := by decide +kernel
theorem dX5_wearOut_9 : decode cX5_wearOut 9 = .ok (.getfield 33, 3) := by decide +kernel
theorem dX5_wearOut_12 : decode cX5_wearOut 12 = .ok (.invokevirtual 235, 3) := by decide +kernel
theorem dX5_wearOut_15 : decode cX5_wearOut 15 = .ok (.iconst 0, 1) := by decide +kernel
theorem dX5_wearOut_16 : decode cX5_wearOut 16 = .ok (.istore_n 3, 1) := by decide +kernel
theorem dX5_wearOut_17 : decode cX5_wearOut 17 = .ok (.iload_n 3, 1) := by decide +kernel
theorem dX5_wearOut_18 : decode cX5_wearOut 18 = .ok (.iload_n 2, 1) := by decide +kernel
theorem dX5_wearOut_19 : decode cX5_wearOut 19 = .ok (.if_icmp .ge 37, 3) := by decide +kernel
theorem dX5_wearOut_22 : decode cX5_wearOut 22 = .ok (.aload_n 0, 1) := by decide +kernel
theorem dX5_wearOut_23 : decode cX5_wearOut 23 = .ok (.getfield 26, 3) := by decide +kernel
theorem dX5_wearOut_26 : decode cX5_wearOut 26 = .ok (.iload_n 3, 1) := by decide +kernel
theorem dX5_wearOut_27 : decode cX5_wearOut 27 = .ok (.aload_n 0, 1) := by decide +kernel
theorem dX5_wearOut_28 : decode cX5_wearOut 28 = .ok (.getfield 44, 3) := by decide +kernel
theorem dX5_wearOut_31 : decode cX5_wearOut 31 = .ok (.invokevirtual 171, 3) := by decide +kernel
theorem dX5_wearOut_34 : decode cX5_wearOut 34 = .ok (.aload_n 0, 1) := by decide +kernel
theorem dX5_wearOut_35 : decode cX5_wearOut 35 = .ok (.getfield 33, 3) := by decide +kernel
theorem dX5_wearOut_38 : decode cX5_wearOut 38 = .ok (.iload_n 1, 1) := by decide +kernel
theorem dX5_wearOut_39 : decode cX5_wearOut 39 = .ok (.aload_n 0, 1) := by decide +kernel
theorem dX5_wearOut_40 : decode cX5_wearOut 40 = .ok (.getfield 48, 3) := by decide +kernel
theorem dX5_wearOut_43 : decode cX5_wearOut 43 = .ok (.aload_n 0, 1) := by decide +kernel
theorem dX5_wearOut_44 : decode cX5_wearOut 44 = .ok (.getfield 44, 3) := by decide +kernel
theorem dX5_wearOut_47 : decode cX5_wearOut 47 = .ok (.invokevirtual 238, 3) := by decide +kernel
theorem dX5_wearOut_50 : decode cX5_wearOut 50 = .ok (.iinc 3 1, 3) := by decide +kernel
theorem dX5_wearOut_53 : decode cX5_wearOut 53 = .ok (.goto (-36), 3) := by decide +kernel
theorem dX5_wearOut_56 : decode cX5_wearOut 56 = .ok (.aload_n 0, 1) := by decide +kernel
theorem dX5_wearOut_57 : decode cX5_wearOut 57 = .ok (.getfield 33, 3) := by decide +kernel
theorem dX5_wearOut_60 : decode cX5_wearOut 60 = .ok (.invokevirtual 242, 3) := by decide +kernel
theorem dX5_wearOut_63 : decode cX5_wearOut 63 = .ok (.return_, 1) := by decide +kernel
