theorem dL_cell_0 : decode cL_cell 0 = .ok (.iload_n 1, 1) := by decide +kernel
theorem dL_cell_1 : decode cL_cell 1 = .ok (.aload_n 0, 1) := by decide +kernel
theorem dL_cell_2 : decode cL_cell 2 = .ok (.arraylength, 1) := by decide +kernel
theorem dL_cell_3 : decode cL_cell 3 = .ok (.if_icmp .ge 9, 3) := by decide +kernel
theorem dL_cell_6 : decode cL_cell 6 = .ok (.aload_n 0, 1) := by decide +kernel
theorem dL_cell_7 : decode cL_cell 7 = .ok (.iload_n 1, 1) := by decide +kernel
theorem dL_cell_8 : decode cL_cell 8 = .ok (.iaload, 1) := by decide +kernel
theorem dL_cell_9 : decode cL_cell 9 = .ok (.goto 4, 3) := by decide +kernel
theorem dL_cell_12 : decode cL_cell 12 = .ok (.iconst 0, 1) := by decide +kernel
theorem dL_cell_13 : decode cL_cell 13 = .ok (.ireturn, 1) := by decide +kernel
set_option maxRecDepth 20000 in
theorem ggL_add_X4_add : GoodIn wsL_add wsX4_add := goodIn_ca (goodIn_ca (goodIn_r _ [7, 8, 9, 10, 6, 11, 12, 13, 14, 15, 16, 17, 18, 19, 20, 21, 22, 23, 24, 25, 26, 27, 28, 29, 30, 31, 32, 33, 34, 35, 36, 37, 38, 39, 40, 41, 42, 43, 44, 45, 46, 47, 48, 49, 50, 51, 52, 53, 54, 55, 56, 57, 58, 59, 60, 61, 62, 63, 64, 65, 66, 67, 68, 69, 70, 71, 72, 73, 74, 75, 76, 77, 78, 79, 80, 81, 82, 83, 84, 85, 86, 87, 88] (by decide +kernel) (by decide +kernel)) (goodIn_sub (fun _ h => List.mem_cons_of_mem _ (List.mem_append_left _ (List.mem_append_right _ h))) (by decide +kernel))) (goodIn_sub (fun _ h => List.mem_cons_of_mem _ (List.mem_append_right _ h)) (by decide +kernel))
set_option maxRecDepth 20000 in
theorem gL_add_X4_add : GoodIn wsL_add (wsV RL 7 RX4 yX4_add wsX4_add) := goodIn_app (goodIn_of _ (by decide +kernel)) ggL_add_X4_add
theorem dL_add_0 : decode cL_add 0 = .ok (.aload_n 3, 1) := by decide +kernel
theorem dL_add_1 : decode cL_add 1 = .ok (.iconst 0, 1) := by decide +kernel
theorem dL_add_2 : decode cL_add 2 = .ok (.aload_n 0, 1) := by decide +kernel
theorem dL_add_3 : decode cL_add 3 = .ok (.iload_n 1, 1) := by decide +kernel
theorem dL_add_4 : decode cL_add 4 = .ok (.iload_n 2, 1) := by decide +kernel
theorem dL_add_5 : decode cL_add 5 = .ok (.invokevirtual 7, 3) := by decide +kernel
theorem dL_add_8 : decode cL_add 8 = .ok (.ifCond .eq 7, 3) := by decide +kernel
theorem dL_add_11 : decode cL_add 11 = .ok (.lconst 1, 1) := by decide +kernel
theorem dL_add_12 : decode cL_add 12 = .ok (.goto 4, 3) := by decide +kernel
theorem dL_add_15 : decode cL_add 15 = .ok (.lconst 0, 1) := by decide +kernel
theorem dL_add_16 : decode cL_add 16 = .ok (.lastore, 1) := by decide +kernel
theorem dL_add_17 : decode cL_add 17 = .ok (.goto 11, 3) := by decide +kernel
theorem dL_add_20 : decode cL_add 20 = .ok (.astore 4, 2) := by decide +kernel
theorem dL_add_22 : decode cL_add 22 = .ok (.iconst 1, 1) := by decide +kernel
theorem dL_add_23 : decode cL_add 23 = .ok (.ireturn, 1) := by decide +kernel
theorem dL_add_24 : decode cL_add 24 = .ok (.astore 4, 2) := by decide +kernel
theorem dL_add_26 : decode cL_add 26 = .ok (.iconst 2, 1) := by decide +kernel
theorem dL_add_27 : decode cL_add 27 = .ok (.ireturn, 1) := by decide +kernel
theorem dL_add_28 : decode cL_add 28 = .ok (.iconst 0, 1) := by decide +kernel
theorem dL_add_29 : decode cL_add 29 = .ok (.ireturn, 1) := by decide +kernel
set_option maxRecDepth 20000 in
theorem ggL_addLine_X4_addLine : GoodIn wsL_addLine wsX4_addLine := goodIn_ca (goodIn_ca (goodIn_r _ [7, 8, 9, 10, 6, 11, 12, 13, 14, 15, 16, 17, 18, 19, 20, 21, 22, 23, 24, 25, 26, 27, 28, 29, 30, 31, 32, 33, 34, 35, 36, 37, 38, 39, 40, 41, 42, 43, 44, 45, 46, 47, 48, 49, 50, 51, 52, 53, 54, 55, 56, 57, 58, 59, 60, 61, 62, 63, 64, 65, 66, 67, 68, 69, 70, 71, 72, 73, 74, 75, 76, 77, 78, 79, 80, 81, 82, 83, 84, 85, 86, 87, 88] (by decide +kernel) (by decide +kernel)) (goodIn_sub (fun _ h => List.mem_cons_of_mem _ (List.mem_append_left _ (List.mem_append_right _ h))) (by decide +kernel))) (goodIn_sub (fun _ h => List.mem_cons_of_mem _ (List.mem_append_right _ h)) (by decide +kernel))
set_option maxRecDepth 20000 in
theorem gL_addLine_X4_addLine : GoodIn wsL_addLine (wsV RL 17 RX4 yX4_addLine wsX4_addLine) := goodIn_app (goodIn_of _ (by decide +kernel)) ggL_addLine_X4_addLine
theorem dL_addLine_0 : decode cL_addLine 0 = .ok (.aload 5, 2) := by decide +kernel
theorem dL_addLine_2 : decode cL_addLine 2 = .ok (.iconst 0, 1) := by decide +kernel
theorem dL_addLine_3 : decode cL_addLine 3 = .ok (.aload_n 0, 1) := by decide +kernel
theorem dL_addLine_4 : decode cL_addLine 4 = .ok (.iload_n 1, 1) := by decide +kernel
theorem dL_addLine_5 : decode cL_addLine 5 = .ok (.iload_n 2, 1) := by decide +kernel
theorem dL_addLine_6 : decode cL_addLine 6 = .ok (.iload_n 3, 1) := by decide +kernel
theorem dL_addLine_7 : decode cL_addLine 7 = .ok (.iload 4, 2) := by decide +kernel
theorem dL_addLine_9 : decode cL_addLine 9 = .ok (.invokevirtual 17, 3) := by decide +kernel
theorem dL_addLine_12 : decode cL_addLine 12 = .ok (.i2l, 1) := by decide +kernel
theorem dL_addLine_13 : decode cL_addLine 13 = .ok (.lastore, 1) := by decide +kernel
theorem dL_addLine_14 : decode cL_addLine 14 = .ok (.goto 11, 3) := by decide +kernel
theorem dL_addLine_17 : decode cL_addLine 17 = .ok (.astore 6, 2) := by decide +kernel
theorem dL_addLine_19 : decode cL_addLine 19 = .ok (.iconst 1, 1) := by decide +kernel
theorem dL_addLine_20 : decode cL_addLine 20 = .ok (.ireturn, 1) := by decide +kernel
theorem dL_addLine_21 : decode cL_addLine 21 = .ok (.astore 6, 2) := by decide +kernel
theorem dL_addLine_23 : decode cL_addLine 23 = .ok (.iconst 2, 1) := by decide +kernel
theorem dL_addLine_24 : decode cL_addLine 24 = .ok (.ireturn, 1) := by decide +kernel
theorem dL_addLine_25 : decode cL_addLine 25 = .ok (.iconst 0, 1) := by decide +kernel
theorem dL_addLine_26 : decode cL_addLine 26 = .ok (.ireturn, 1) := by decide +kernel
set_option maxRecDepth 20000 in
theorem ggL_empty_X4_empty : GoodIn wsL_empty wsX4_empty := goodIn_ca (goodIn_r _ [6, 7, 8, 9, 5, 10, 11, 12, 13, 14, 15, 16, 17, 18, 19, 20, 21, 22, 23, 24, 25, 26, 27, 28, 29, 30, 31, 32] (by decide +kernel) (by decide +kernel)) (goodIn_sub (fun _ h => List.mem_cons_of_mem _ (List.mem_append_right _ h)) (by decide +kernel))
set_option maxRecDepth 20000 in
theorem gL_empty_X4_empty : GoodIn wsL_empty (wsV RL 21 RX4 yX4_empty wsX4_empty) := goodIn_app (goodIn_of _ (by decide +kernel)) ggL_empty_X4_empty
theorem dL_empty_0 : decode cL_empty 0 = .ok (.aload_n 2, 1) := by decide +kernel
theorem dL_empty_1 : decode cL_empty 1 = .ok (.iconst 0, 1) := by decide +kernel
theorem dL_empty_2 : decode cL_empty 2 = .ok (.aload_n 0, 1) := by decide +kernel
theorem dL_empty_3 : decode cL_empty 3 = .ok (.iload_n 1, 1) := by decide +kernel
theorem dL_empty_4 : decode cL_empty 4 = .ok (.invokevirtual 21, 3) := by decide +kernel
theorem dL_empty_7 : decode cL_empty 7 = .ok (.i2l, 1) := by decide +kernel
theorem dL_empty_8 : decode cL_empty 8 = .ok (.lastore, 1) := by decide +kernel
theorem dL_empty_9 : decode cL_empty 9 = .ok (.goto 6, 3) := by decide +kernel
theorem dL_empty_12 : decode cL_empty 12 = .ok (.astore_n 3, 1) := by decide +kernel
theorem dL_empty_13 : decode cL_empty 13 = .ok (.iconst 1, 1) := by decide +kernel
theorem dL_empty_14 : decode cL_empty 14 = .ok (.ireturn, 1) := by decide +kernel
theorem dL_empty_15 : decode cL_empty 15 = .ok (.iconst 0, 1) := by decide +kernel
theorem dL_empty_16 : decode cL_empty 16 = .ok (.ireturn, 1) := by decide +kernel
set_option maxRecDepth 20000 in
theorem ggL_merge_X4_merge : GoodIn wsL_merge wsX4_merge := goodIn_ca (goodIn_r _ [6, 7, 8, 9, 10, 11, 12, 5, 13, 14, 15, 16, 17, 18, 19, 20, 21, 22, 23, 24, 25, 26, 27, 28, 29, 30, 31, 32, 33, 34, 35, 36, 37, 38, 39, 40, 41, 42, 43, 44, 45, 46, 47, 48, 49, 50, 51, 52, 53, 54, 55, 56, 57, 58, 59, 60, 61, 62, 63, 64, 65, 66, 67, 68, 69, 70, 71, 72, 73] (by decide +kernel) (by decide +kernel)) (goodIn_sub (fun _ h => List.mem_cons_of_mem _ (List.mem_append_right _ h)) (by decide +kernel))
set_option maxRecDepth 20000 in
theorem gL_merge_X4_merge : GoodIn wsL_merge (wsV RL 25 RX4 yX4_merge wsX4_merge) := goodIn_app (goodIn_of _ (by decide +kernel)) ggL_merge_X4_merge
theorem dL_merge_0 : decode cL_merge 0 = .ok (.aload_n 3, 1) := by decide +kernel
theorem dL_merge_1 : decode cL_merge 1 = .ok (.iconst 0, 1) := by decide +kernel
theorem dL_merge_2 : decode cL_merge 2 = .ok (.aload_n 0, 1) := by decide +kernel
theorem dL_merge_3 : decode cL_merge 3 = .ok (.iload_n 1, 1) := by decide +kernel
theorem dL_merge_4 : decode cL_merge 4 = .ok (.iload_n 2, 1) := by decide +kernel
theorem dL_merge_5 : decode cL_merge 5 = .ok (.invokevirtual 25, 3) := by decide +kernel
theorem dL_merge_8 : decode cL_merge 8 = .ok (.i2l, 1) := by decide +kernel
theorem dL_merge_9 : decode cL_merge 9 = .ok (.lastore, 1) := by decide +kernel
theorem dL_merge_10 : decode cL_merge 10 = .ok (.goto 7, 3) := by decide +kernel
theorem dL_merge_13 : decode cL_merge 13 = .ok (.astore 4, 2) := by decide +kernel
theorem dL_merge_15 : decode cL_merge 15 = .ok (.iconst 1, 1) := by decide +kernel
theorem dL_merge_16 : decode cL_merge 16 = .ok (.ireturn, 1) := by decide +kernel
theorem dL_merge_17 : decode cL_merge 17 = .ok (.iconst 0, 1) := by decide +kernel
theorem dL_merge_18 : decode cL_merge 18 = .ok (.ireturn, 1) := by decide +kernel
set_option maxRecDepth 20000 in
theorem ggL_pass_X4_pass : GoodIn wsL_pass wsX4_pass := goodIn_ca (goodIn_r _ [6, 7, 8, 9, 5, 10, 11, 12, 13, 14, 15, 16, 17, 18, 19, 20, 21, 22] (by decide +kernel) (by decide +kernel)) (goodIn_sub (fun _ h => List.mem_cons_of_mem _ (List.mem_append_right _ h)) (by decide +kernel))
set_option maxRecDepth 20000 in
theorem gL_pass_X4_pass : GoodIn wsL_pass (wsV RL 29 RX4 yX4_pass wsX4_pass) := goodIn_app (goodIn_of _ (by decide +kernel)) ggL_pass_X4_pass
theorem dL_pass_0 : decode cL_pass 0 = .ok (.aload_n 2, 1) := by decide +kernel
theorem dL_pass_1 : decode cL_pass 1 = .ok (.iconst 0, 1) := by decide +kernel
theorem dL_pass_2 : decode cL_pass 2 = .ok (.aload_n 0, 1) := by decide +kernel
theorem dL_pass_3 : decode cL_pass 3 = .ok (.iload_n 1, 1) := by decide +kernel
theorem dL_pass_4 : decode cL_pass 4 = .ok (.invokevirtual 29, 3) := by decide +kernel
theorem dL_pass_7 : decode cL_pass 7 = .ok (.i2l, 1) := by decide +kernel
theorem dL_pass_8 : decode cL_pass 8 = .ok (.lastore, 1) := by decide +kernel
theorem dL_pass_9 : decode cL_pass 9 = .ok (.goto 6, 3) := by decide +kernel
theorem dL_pass_12 : decode cL_pass 12 = .ok (.astore_n 3, 1) := by decide +kernel
theorem dL_pass_13 : decode cL_pass 13 = .ok (.iconst 1, 1) := by decide +kernel
theorem dL_pass_14 : decode cL_pass 14 = .ok (.ireturn, 1) := by decide +kernel
theorem dL_pass_15 : decode cL_pass 15 = .ok (.iconst 0, 1) := by decide +kernel
theorem dL_pass_16 : decode cL_pass 16 = .ok (.ireturn, 1) := by decide +kernel
set_option maxRecDepth 20000 in
theorem ggL_plain_X4_plain : GoodIn wsL_plain wsX4_plain := goodIn_ca (goodIn_r _ [6, 7, 8, 9, 10, 5, 11, 12, 13, 14, 15, 16, 17, 18, 19, 20, 21, 22, 23, 24, 25, 26, 27] (by decide +kernel) (by decide +kernel)) (goodIn_sub (fun _ h => List.mem_cons_of_mem _ (List.mem_append_right _ h)) (by decide +kernel))
set_option maxRecDepth 20000 in
theorem gL_plain_X4_plain : GoodIn wsL_plain (wsV RL 32 RX4 yX4_plain wsX4_plain) := goodIn_app (goodIn_of _ (by decide +kernel)) ggL_plain_X4_plain
theorem dL_plain_0 : decode cL_plain 0 = .ok (.aload_n 2, 1) := by decide +kernel
theorem dL_plain_1 : decode cL_plain 1 = .ok (.iconst 0, 1) := by decide +kernel
theorem dL_plain_2 : decode cL_plain 2 = .ok (.aload_n 0, 1) := by decide +kernel
theorem dL_plain_3 : decode cL_plain 3 = .ok (.iload_n 1, 1) := by decide +kernel
theorem dL_plain_4 : decode cL_plain 4 = .ok (.invokevirtual 32, 3) := by decide +kernel
theorem dL_plain_7 : decode cL_plain 7 = .ok (.i2l, 1) := by decide +kernel
theorem dL_plain_8 : decode cL_plain 8 = .ok (.lastore, 1) := by decide +kernel
theorem dL_plain_9 : decode cL_plain 9 = .ok (.goto 6, 3) := by decide +kernel
theorem dL_plain_12 : decode cL_plain 12 = .ok (.astore_n 3, 1) := by decide +kernel
theorem dL_plain_13 : decode cL_plain 13 = .ok (.iconst 1, 1) := by decide +kernel
theorem dL_plain_14 : decode cL_plain 14 = .ok (.ireturn, 1) := by decide +kernel
theorem dL_plain_15 : decode cL_plain 15 = .ok (.iconst 0, 1) := by decide +kernel
theorem dL_plain_16 : decode cL_plain 16 = .ok (.ireturn, 1) := by decide +kernel
set_option maxRecDepth 20000 in
theorem ggL_plainCommon_X4_plainCommon : GoodIn wsL_plainCommon wsX4_plainCommon := goodIn_ca (goodIn_r _ [6, 7, 8, 9, 10, 11, 5, 12, 13, 14, 15, 16, 17, 18, 19, 20, 21, 22, 23, 24, 25, 26, 27, 28, 29, 30, 31, 32, 33, 34, 35, 36, 37] (by decide +kernel) (by decide +kernel)) (goodIn_sub (fun _ h => List.mem_cons_of_mem _ (List.mem_append_right _ h)) (by decide +kernel))
set_option maxRecDepth 20000 in
theorem gL_plainCommon_X4_plainCommon : GoodIn wsL_plainCommon (wsV RL 35 RX4 yX4_plainCommon wsX4_plainCommon) := goodIn_app (goodIn_of _ (by decide +kernel)) ggL_plainCommon_X4_plainCommon
theorem dL_plainCommon_0 : decode cL_plainCommon 0 = .ok (.aload_n 3, 1) := by decide +kernel
theorem dL_plainCommon_1 : decode cL_plainCommon 1 = .ok (.iconst 0, 1) := by decide +kernel
theorem dL_plainCommon_2 : decode cL_plainCommon 2 = .ok (.aload_n 0, 1) := by decide +kernel
theorem dL_plainCommon_3 : decode cL_plainCommon 3 = .ok (.iload_n 1, 1) := by decide +kernel
theorem dL_plainCommon_4 : decode cL_plainCommon 4 = .ok (.iload_n 2, 1) := by decide +kernel
theorem dL_plainCommon_5 : decode cL_plainCommon 5 = .ok (.invokevirtual 35, 3) := by decide +kernel
theorem dL_plainCommon_8 : decode cL_plainCommon 8 = .ok (.i2l, 1) := by decide +kernel
theorem dL_plainCommon_9 : decode cL_plainCommon 9 = .ok (.lastore, 1) := by decide +kernel
theorem dL_plainCommon_10 : decode cL_plainCommon 10 = .ok (.goto 7, 3) := by decide +kernel
theorem dL_plainCommon_13 : decode cL_plainCommon 13 = .ok (.astore 4, 2) := by decide +kernel
theorem dL_plainCommon_15 : decode cL_plainCommon 15 = .ok (.iconst 1, 1) := by decide +kernel
theorem dL_plainCommon_16 : decode cL_plainCommon 16 = .ok (.ireturn, 1) := by decide +kernel
theorem dL_plainCommon_17 : decode cL_plainCommon 17 = .ok (.iconst 0, 1) := by decide +kernel
theorem dL_plainCommon_18 : decode cL_plainCommon 18 = .ok (.ireturn, 1) := by decide +kernel
set_option maxRecDepth 20000 in
theorem ggL_dateOf_X4_dateOf : GoodIn wsL_dateOf wsX4_dateOf := goodIn_ca (goodIn_ca (goodIn_r _ [7, 8, 9, 10, 6, 11, 12, 13, 14, 15, 16, 17, 18, 19, 20, 21, 22, 23, 24, 25, 26, 27, 28, 29, 30, 31, 32, 33, 34, 35, 36, 37, 38, 39, 40, 41, 42, 43, 44, 45, 46, 47] (by decide +kernel) (by decide +kernel)) (goodIn_sub (fun _ h => List.mem_cons_of_mem _ (List.mem_append_left _ (List.mem_append_right _ h))) (by decide +kernel))) (goodIn_sub (fun _ h => List.mem_cons_of_mem _ (List.mem_append_right _ h)) (by decide +kernel))
set_option maxRecDepth 20000 in
theorem gL_dateOf_X4_dateOf : GoodIn wsL_dateOf (wsV RL 38 RX4 yX4_dateOf wsX4_dateOf) := goodIn_app (goodIn_of _ (by decide +kernel)) ggL_dateOf_X4_dateOf
theorem dL_dateOf_0 : decode cL_dateOf 0 = .ok (.aload_n 3, 1) := by decide +kernel
theorem dL_dateOf_1 : decode cL_dateOf 1 = .ok (.iconst 0, 1) := by decide +kernel
theorem dL_dateOf_2 : decode cL_dateOf 2 = .ok (.aload_n 0, 1) := by decide +kernel
theorem dL_dateOf_3 : decode cL_dateOf 3 = .ok (.iload_n 1, 1) := by decide +kernel
theorem dL_dateOf_4 : decode cL_dateOf 4 = .ok (.iload_n 2, 1) := by decide +kernel
theorem dL_dateOf_5 : decode cL_dateOf 5 = .ok (.invokevirtual 38, 3) := by decide +kernel
theorem dL_dateOf_8 : decode cL_dateOf 8 = .ok (.i2l, 1) := by decide +kernel
theorem dL_dateOf_9 : decode cL_dateOf 9 = .ok (.lastore, 1) := by decide +kernel
theorem dL_dateOf_10 : decode cL_dateOf 10 = .ok (.goto 11, 3) := by decide +kernel
theorem dL_dateOf_13 : decode cL_dateOf 13 = .ok (.astore 4, 2) := by decide +kernel
theorem dL_dateOf_15 : decode cL_dateOf 15 = .ok (.iconst 1, 1) := by decide +kernel
theorem dL_dateOf_16 : decode cL_dateOf 16 = .ok (.ireturn, 1) := by decide +kernel
theorem dL_dateOf_17 : decode cL_dateOf 17 = .ok (.astore 4, 2) := by decide +kernel
theorem dL_dateOf_19 : decode cL_dateOf 19 = .ok (.iconst 2, 1) := by decide +kernel
theorem dL_dateOf_20 : decode cL_dateOf 20 = .ok (.ireturn, 1) := by decide +kernel
theorem dL_dateOf_21 : decode cL_dateOf 21 = .ok (.iconst 0, 1) := by decide +kernel
theorem dL_dateOf_22 : decode cL_dateOf 22 = .ok (.ireturn, 1) := by decide +kernel
set_option maxRecDepth 20000 in
theorem ggL_hash_X4_hash : GoodIn wsL_hash wsX4_hash := goodIn_ca (goodIn_r _ [6, 7, 8, 5, 9, 10, 11, 12, 13, 14, 15, 16, 17, 18, 19, 20, 21, 22] (by decide +kernel) (by decide +kernel)) (goodIn_sub (fun _ h => List.mem_cons_of_mem _ (List.mem_append_right _ h)) (by decide +kernel))
set_option maxRecDepth 20000 in
theorem gL_hash_X4_hash : GoodIn wsL_hash (wsV RL 41 RX4 yX4_hash wsX4_hash) := goodIn_app (goodIn_of _ (by decide +kernel)) ggL_hash_X4_hash
theorem dL_hash_0 : decode cL_hash 0 = .ok (.aload_n 2, 1) := by decide +kernel
theorem dL_hash_1 : decode cL_hash 1 = .ok (.iconst 0, 1) := by decide +kernel
theorem dL_hash_2 : decode cL_hash 2 = .ok (.aload_n 0, 1) := by decide +kernel
theorem dL_hash_3 : decode cL_hash 3 = .ok (.iload_n 1, 1) := by decide +kernel
theorem dL_hash_4 : decode cL_hash 4 = .ok (.invokevirtual 41, 3) := by decide +kernel
theorem dL_hash_7 : decode cL_hash 7 = .ok (.i2l, 1) := by decide +kernel
theorem dL_hash_8 : decode cL_hash 8 = .ok (.lastore, 1) := by decide +kernel
theorem dL_hash_9 : decode cL_hash 9 = .ok (.goto 6, 3) := by decide +kernel
theorem dL_hash_12 : decode cL_hash 12 = .ok (.astore_n 3, 1) := by decide +kernel
theorem dL_hash_13 : decode cL_hash 13 = .ok (.iconst 1, 1) := by decide +kernel
theorem dL_hash_14 : decode cL_hash 14 = .ok (.ireturn, 1) := by decide +kernel
theorem dL_hash_15 : decode cL_hash 15 = .ok (.iconst 0, 1) := by decide +kernel
theorem dL_hash_16 : decode cL_hash 16 = .ok (.ireturn, 1) := by decide +kernel
set_option maxRecDepth 20000 in
theorem ggL_kept_X4_kept : GoodIn wsL_kept wsX4_kept := goodIn_ca (goodIn_r _ [6, 7, 8, 9, 10, 11, 5, 12, 13, 14, 15, 16, 17, 18, 19, 20, 21, 22, 23, 24, 25, 26, 27, 28, 29, 30, 31, 32, 33, 34, 35, 36, 37, 38, 39, 40, 41, 42, 43, 44, 45, 46, 47, 48, 49, 50, 51, 52, 53, 54, 55, 56, 57, 58, 59] (by decide +kernel) (by decide +kernel)) (goodIn_sub (fun _ h => List.mem_cons_of_mem _ (List.mem_append_right _ h)) (by decide +kernel))
set_option maxRecDepth 20000 in
theorem gL_kept_X4_kept : GoodIn wsL_kept (wsV RL 44 RX4 yX4_kept wsX4_kept) := goodIn_app (goodIn_of _ (by decide +kernel)) ggL_kept_X4_kept
theorem dL_kept_0 : decode cL_kept 0 = .ok (.aload_n 2, 1) := by decide +kernel
theorem dL_kept_1 : decode cL_kept 1 = .ok (.iconst 0, 1) := by decide +kernel
theorem dL_kept_2 : decode cL_kept 2 = .ok (.aload_n 0, 1) := by decide +kernel
theorem dL_kept_3 : decode cL_kept 3 = .ok (.iload_n 1, 1) := by decide +kernel
theorem dL_kept_4 : decode cL_kept 4 = .ok (.invokevirtual 44, 3) := by decide +kernel
theorem dL_kept_7 : decode cL_kept 7 = .ok (.i2l, 1) := by decide +kernel
theorem dL_kept_8 : decode cL_kept 8 = .ok (.lastore, 1) := by decide +kernel
theorem dL_kept_9 : decode cL_kept 9 = .ok (.goto 6, 3) := by decide +kernel
theorem dL_kept_12 : decode cL_kept 12 = .ok (.astore_n 3, 1) := by decide +kernel
theorem dL_kept_13 : decode cL_kept 13 = .ok (.iconst 1, 1) := by decide +kernel
theorem dL_kept_14 : decode cL_kept 14 = .ok (.ireturn, 1) := by decide +kernel
theorem dL_kept_15 : decode cL_kept 15 = .ok (.iconst 0, 1) := by decide +kernel
theorem dL_kept_16 : decode cL_kept 16 = .ok (.ireturn, 1) := by decide +kernel
set_option maxRecDepth 20000 in
theorem ggL_keptAt_X4_keptAt : GoodIn wsL_keptAt wsX4_keptAt := goodIn_ca (goodIn_r _ [6, 7, 8, 9, 10, 11, 12, 13, 14, 5, 15, 16, 17, 18, 19, 20, 21, 22, 23, 24, 25, 26, 27, 28, 29, 30, 31, 32, 33, 34, 35, 36, 37, 38, 39, 40, 41, 42, 43, 44, 45, 46, 47, 48, 49, 50, 51, 52, 53, 54, 55, 56, 57, 58, 59, 60, 61] (by decide +kernel) (by decide +kernel)) (goodIn_sub (fun _ h => List.mem_cons_of_mem _ (List.mem_append_right _ h)) (by decide +kernel))
set_option maxRecDepth 20000 in
theorem gL_keptAt_X4_keptAt : GoodIn wsL_keptAt (wsV RL 47 RX4 yX4_keptAt wsX4_keptAt) := goodIn_app (goodIn_of _ (by decide +kernel)) ggL_keptAt_X4_keptAt
theorem dL_keptAt_0 : decode cL_keptAt 0 = .ok (.aload_n 3, 1) := by decide +kernel
theorem dL_keptAt_1 : decode cL_keptAt 1 = .ok (.iconst 0, 1) := by decide +kernel
theorem dL_keptAt_2 : decode cL_keptAt 2 = .ok (.aload_n 0, 1) := by decide +kernel
theorem dL_keptAt_3 : decode cL_keptAt 3 = .ok (.iload_n 1, 1) := by decide +kernel
theorem dL_keptAt_4 : decode cL_keptAt 4 = .ok (.iload_n 2, 1) := by decide +kernel
theorem dL_keptAt_5 : decode cL_keptAt 5 = .ok (.invokevirtual 47, 3) := by decide +kernel
theorem dL_keptAt_8 : decode cL_keptAt 8 = .ok (.i2l, 1) := by decide +kernel
theorem dL_keptAt_9 : decode cL_keptAt 9 = .ok (.lastore, 1) := by decide +kernel
theorem dL_keptAt_10 : decode cL_keptAt 10 = .ok (.goto 7, 3) := by decide +kernel
theorem dL_keptAt_13 : decode cL_keptAt 13 = .ok (.astore 4, 2) := by decide +kernel
theorem dL_keptAt_15 : decode cL_keptAt 15 = .ok (.iconst 1, 1) := by decide +kernel
theorem dL_keptAt_16 : decode cL_keptAt 16 = .ok (.ireturn, 1) := by decide +kernel
theorem dL_keptAt_17 : decode cL_keptAt 17 = .ok (.iconst 0, 1) := by decide +kernel
theorem dL_keptAt_18 : decode cL_keptAt 18 = .ok (.ireturn, 1) := by decide +kernel
set_option maxRecDepth 20000 in
theorem ggL_byLeast_X4_byLeast : GoodIn wsL_byLeast wsX4_byLeast := goodIn_ca (goodIn_r _ [6, 7, 8, 9, 10, 5, 11, 12, 13, 14, 15, 16, 17, 18, 19, 20, 21, 22, 23, 24, 25, 26, 27, 28, 29, 30, 31, 32, 33, 34, 35, 36, 37, 38, 39, 40, 41, 42, 43, 44, 45, 46, 47, 48, 49, 50, 51, 52, 53, 54, 55, 56, 57, 58, 59, 60, 61, 62, 63] (by decide +kernel) (by decide +kernel)) (goodIn_sub (fun _ h => List.mem_cons_of_mem _ (List.mem_append_right _ h)) (by decide +kernel))
set_option maxRecDepth 20000 in
theorem gL_byLeast_X4_byLeast : GoodIn wsL_byLeast (wsV RL 50 RX4 yX4_byLeast wsX4_byLeast) := goodIn_app (goodIn_of _ (by decide +kernel)) ggL_byLeast_X4_byLeast
theorem dL_byLeast_0 : decode cL_byLeast 0 = .ok (.aload_n 2, 1) := by decide +kernel
theorem dL_byLeast_1 : decode cL_byLeast 1 = .ok (.iconst 0, 1) := by decide +kernel
theorem dL_byLeast_2 : decode cL_byLeast 2 = .ok (.aload_n 0, 1) := by decide +kernel
theorem dL_byLeast_3 : decode cL_byLeast 3 = .ok (.iload_n 1, 1) := by decide +kernel
theorem dL_byLeast_4 : decode cL_byLeast 4 = .ok (.invokevirtual 50, 3) := by decide +kernel
theorem dL_byLeast_7 : decode cL_byLeast 7 = .ok (.i2l, 1) := by decide +kernel
theorem dL_byLeast_8 : decode cL_byLeast 8 = .ok (.lastore, 1) := by decide +kernel
theorem dL_byLeast_9 : decode cL_byLeast 9 = .ok (.goto 6, 3) := by decide +kernel
theorem dL_byLeast_12 : decode cL_byLeast 12 = .ok (.astore_n 3, 1) := by decide +kernel
theorem dL_byLeast_13 : decode cL_byLeast 13 = .ok (.iconst 1, 1) := by decide +kernel
theorem dL_byLeast_14 : decode cL_byLeast 14 = .ok (.ireturn, 1) := by decide +kernel
theorem dL_byLeast_15 : decode cL_byLeast 15 = .ok (.iconst 0, 1) := by decide +kernel
theorem dL_byLeast_16 : decode cL_byLeast 16 = .ok (.ireturn, 1) := by decide +kernel
set_option maxRecDepth 20000 in
theorem ggL_together_X4_together : GoodIn wsL_together wsX4_together := goodIn_ca (goodIn_r _ [6, 7, 8, 9, 10, 5, 11, 12, 13, 14, 15, 16, 17, 18, 19, 20, 21, 22, 23, 24, 25, 26, 27, 28, 29, 30, 31, 32, 33, 34, 35, 36, 37, 38, 39, 40, 41, 42, 43, 44, 45, 46, 47, 48, 49, 50, 51, 52, 53, 54, 55, 56, 57, 58, 59, 60, 61, 62, 63, 64, 65, 66, 67, 68, 69, 70, 71, 72, 73, 74] (by decide +kernel) (by decide +kernel)) (goodIn_sub (fun _ h => List.mem_cons_of_mem _ (List.mem_append_right _ h)) (by decide +kernel))
set_option maxRecDepth 20000 in
theorem gL_together_X4_together : GoodIn wsL_together (wsV RL 53 RX4 yX4_together wsX4_together) := goodIn_app (goodIn_of _ (by decide +kernel)) ggL_together_X4_together
theorem dL_together_0 : decode cL_together 0 = .ok (.aload_n 3, 1) := by decide +kernel
theorem dL_together_1 : decode cL_together 1 = .ok (.iconst 0, 1) := by decide +kernel
theorem dL_together_2 : decode cL_together 2 = .ok (.aload_n 0, 1) := by decide +kernel
theorem dL_together_3 : decode cL_together 3 = .ok (.iload_n 1, 1) := by decide +kernel
theorem dL_together_4 : decode cL_together 4 = .ok (.iload_n 2, 1) := by decide +kernel
theorem dL_together_5 : decode cL_together 5 = .ok (.invokevirtual 53, 3) := by decide +kernel
theorem dL_together_8 : decode cL_together 8 = .ok (.i2l, 1) := by decide +kernel
theorem dL_together_9 : decode cL_together 9 = .ok (.lastore, 1) := by decide +kernel
theorem dL_together_10 : decode cL_together 10 = .ok (.goto 7, 3) := by decide +kernel
theorem dL_together_13 : decode cL_together 13 = .ok (.astore 4, 2) := by decide +kernel
theorem dL_together_15 : decode cL_together 15 = .ok (.iconst 1, 1) := by decide +kernel
theorem dL_together_16 : decode cL_together 16 = .ok (.ireturn, 1) := by decide +kernel
theorem dL_together_17 : decode cL_together 17 = .ok (.iconst 0, 1) := by decide +kernel
theorem dL_together_18 : decode cL_together 18 = .ok (.ireturn, 1) := by decide +kernel
set_option maxRecDepth 20000 in
theorem ggL_common_X4_common : GoodIn wsL_common wsX4_common := goodIn_ca (goodIn_r _ [6, 7, 8, 9, 10, 11, 12, 13, 14, 5, 15, 16, 17, 18, 19, 20, 21, 22, 23, 24, 25, 26, 27, 28, 29, 30, 31, 32, 33, 34, 35, 36, 37, 38, 39, 40, 41, 42, 43, 44, 45, 46, 47, 48, 49, 50, 51, 52, 53, 54, 55, 56, 57, 58, 59, 60, 61, 62, 63, 64, 65, 66, 67, 68, 69, 70, 71, 72, 73, 74, 75, 76, 77, 78, 79, 80, 81, 82, 83, 84, 85] (by decide +kernel) (by decide +kernel)) (goodIn_sub (fun _ h => List.mem_cons_of_mem _ (List.mem_append_right _ h)) (by decide +kernel))
set_option maxRecDepth 20000 in
theorem gL_common_X4_common : GoodIn wsL_common (wsV RL 56 RX4 yX4_common wsX4_common) := goodIn_app (goodIn_of _ (by decide +kernel)) ggL_common_X4_common
theorem dL_common_0 : decode cL_common 0 = .ok (.aload_n 3, 1) := by decide +kernel
theorem dL_common_1 : decode cL_common 1 = .ok (.iconst 0, 1) := by decide +kernel
theorem dL_common_2 : decode cL_common 2 = .ok (.aload_n 0, 1) := by decide +kernel
theorem dL_common_3 : decode cL_common 3 = .ok (.iload_n 1, 1) := by decide +kernel
theorem dL_common_4 : decode cL_common 4 = .ok (.iload_n 2, 1) := by decide +kernel
theorem dL_common_5 : decode cL_common 5 = .ok (.invokevirtual 56, 3) := by decide +kernel
theorem dL_common_8 : decode cL_common 8 = .ok (.i2l, 1) := by decide +kernel
theorem dL_common_9 : decode cL_common 9 = .ok (.lastore, 1) := by decide +kernel
theorem dL_common_10 : decode cL_common 10 = .ok (.goto 7, 3) := by decide +kernel
theorem dL_common_13 : decode cL_common 13 = .ok (.astore 4, 2) := by decide +kernel
theorem dL_common_15 : decode cL_common 15 = .ok (.iconst 1, 1) := by decide +kernel
theorem dL_common_16 : decode cL_common 16 = .ok (.ireturn, 1) := by decide +kernel
theorem dL_common_17 : decode cL_common 17 = .ok (.iconst 0, 1) := by decide +kernel
theorem dL_common_18 : decode cL_common 18 = .ok (.ireturn, 1) := by decide +kernel
set_option maxRecDepth 20000 in
theorem ggL_without_X4_without : GoodIn wsL_without wsX4_without := goodIn_ca (goodIn_r _ [6, 7, 8, 9, 10, 11, 12, 13, 5, 14, 15, 16, 17, 18, 19, 20, 21, 22, 23, 24, 25, 26, 27, 28, 29, 30, 31, 32, 33, 34, 35, 36, 37, 38, 39, 40, 41, 42, 43, 44, 45, 46, 47, 48, 49, 50, 51, 52, 53, 54, 55, 56, 57, 58, 59, 60, 61, 62, 63, 64, 65, 66, 67, 68, 69, 70, 71, 72, 73, 74, 75, 76, 77, 78, 79, 80, 81, 82, 83, 84, 85] (by decide +kernel) (by decide +kernel)) (goodIn_sub (fun _ h => List.mem_cons_of_mem _ (List.mem_append_right _ h)) (by decide +kernel))
set_option maxRecDepth 20000 in
theorem gL_without_X4_without : GoodIn wsL_without (wsV RL 59 RX4 yX4_without wsX4_without) := goodIn_app (goodIn_of _ (by decide +kernel)) ggL_without_X4_without
theorem dL_without_0 : decode cL_without 0 = .ok (.aload_n 3, 1) := by decide +kernel
theorem dL_without_1 : decode cL_without 1 = .ok (.iconst 0, 1) := by decide +kernel
theorem dL_without_2 : decode cL_without 2 = .ok (.aload_n 0, 1) := by decide +kernel
theorem dL_without_3 : decode cL_without 3 = .ok (.iload_n 1, 1) := by decide +kernel
theorem dL_without_4 : decode cL_without 4 = .ok (.iload_n 2, 1) := by decide +kernel
theorem dL_without_5 : decode cL_without 5 = .ok (.invokevirtual 59, 3) := by decide +kernel
theorem dL_without_8 : decode cL_without 8 = .ok (.i2l, 1) := by decide +kernel
theorem dL_without_9 : decode cL_without 9 = .ok (.lastore, 1) := by decide +kernel
theorem dL_without_10 : decode cL_without 10 = .ok (.goto 7, 3) := by decide +kernel
theorem dL_without_13 : decode cL_without 13 = .ok (.astore 4, 2) := by decide +kernel
theorem dL_without_15 : decode cL_without 15 = .ok (.iconst 1, 1) := by decide +kernel
theorem dL_without_16 : decode cL_without 16 = .ok (.ireturn, 1) := by decide +kernel
theorem dL_without_17 : decode cL_without 17 = .ok (.iconst 0, 1) := by decide +kernel
theorem dL_without_18 : decode cL_without 18 = .ok (.ireturn, 1) := by decide +kernel
set_option maxRecDepth 20000 in
theorem ggL_register_X4_register : GoodIn wsL_register wsX4_register := goodIn_ca (goodIn_r _ [6, 7, 8, 9, 10, 11, 12, 13, 5, 14, 15, 16, 17, 18, 19, 20, 21, 22, 23, 24, 25, 26, 27, 28, 29, 30, 31, 32, 33, 34, 35, 36, 37, 38, 39, 40, 41, 42, 43, 44, 45, 46, 47, 48, 49, 50, 51, 52, 53, 54, 55, 56, 57, 58, 59] (by decide +kernel) (by decide +kernel)) (goodIn_sub (fun _ h => List.mem_cons_of_mem _ (List.mem_append_right _ h)) (by decide +kernel))
set_option maxRecDepth 20000 in
theorem gL_register_X4_register : GoodIn wsL_register (wsV RL 62 RX4 yX4_register wsX4_register) := goodIn_app (goodIn_of _ (by decide +kernel)) ggL_register_X4_register
theorem dL_register_0 : decode cL_register 0 = .ok (.aload_n 3, 1) := by decide +kernel
theorem dL_register_1 : decode cL_register 1 = .ok (.iconst 0, 1) := by decide +kernel
theorem dL_register_2 : decode cL_register 2 = .ok (.aload_n 0, 1) := by decide +kernel
theorem dL_register_3 : decode cL_register 3 = .ok (.iload_n 1, 1) := by decide +kernel
theorem dL_register_4 : decode cL_register 4 = .ok (.iload_n 2, 1) := by decide +kernel
theorem dL_register_5 : decode cL_register 5 = .ok (.invokevirtual 62, 3) := by decide +kernel
theorem dL_register_8 : decode cL_register 8 = .ok (.i2l, 1) := by decide +kernel
theorem dL_register_9 : decode cL_register 9 = .ok (.lastore, 1) := by decide +kernel
theorem dL_register_10 : decode cL_register 10 = .ok (.goto 7, 3) := by decide +kernel
theorem dL_register_13 : decode cL_register 13 = .ok (.astore 4, 2) := by decide +kernel
theorem dL_register_15 : decode cL_register 15 = .ok (.iconst 1, 1) := by decide +kernel
theorem dL_register_16 : decode cL_register 16 = .ok (.ireturn, 1) := by decide +kernel
theorem dL_register_17 : decode cL_register 17 = .ok (.iconst 0, 1) := by decide +kernel
theorem dL_register_18 : decode cL_register 18 = .ok (.ireturn, 1) := by decide +kernel
set_option maxRecDepth 20000 in
theorem ggL_byRegisters_X4_byRegisters : GoodIn wsL_byRegisters wsX4_byRegisters := goodIn_ca (goodIn_r _ [6, 7, 8, 9, 10, 5, 11, 12, 13, 14, 15, 16, 17, 18, 19, 20, 21, 22, 23, 24, 25, 26, 27, 28, 29, 30, 31, 32, 33, 34, 35, 36, 37, 38, 39, 40, 41, 42, 43, 44, 45, 46, 47, 48, 49, 50, 51, 52, 53, 54, 55, 56, 57, 58, 59, 60, 61, 62, 63, 64, 65] (by decide +kernel) (by decide +kernel)) (goodIn_sub (fun _ h => List.mem_cons_of_mem _ (List.mem_append_right _ h)) (by decide +kernel))
set_option maxRecDepth 20000 in
theorem gL_byRegisters_X4_byRegisters : GoodIn wsL_byRegisters (wsV RL 65 RX4 yX4_byRegisters wsX4_byRegisters) := goodIn_app (goodIn_of _ (by decide +kernel)) ggL_byRegisters_X4_byRegisters
theorem dL_byRegisters_0 : decode cL_byRegisters 0 = .ok (.aload_n 2, 1) := by decide +kernel
theorem dL_byRegisters_1 : decode cL_byRegisters 1 = .ok (.iconst 0, 1) := by decide +kernel
theorem dL_byRegisters_2 : decode cL_byRegisters 2 = .ok (.aload_n 0, 1) := by decide +kernel
theorem dL_byRegisters_3 : decode cL_byRegisters 3 = .ok (.iload_n 1, 1) := by decide +kernel
theorem dL_byRegisters_4 : decode cL_byRegisters 4 = .ok (.invokevirtual 65, 3) := by decide +kernel
theorem dL_byRegisters_7 : decode cL_byRegisters 7 = .ok (.lastore, 1) := by decide +kernel
theorem dL_byRegisters_8 : decode cL_byRegisters 8 = .ok (.goto 6, 3) := by decide +kernel
theorem dL_byRegisters_11 : decode cL_byRegisters 11 = .ok (.astore_n 3, 1) := by decide +kernel
theorem dL_byRegisters_12 : decode cL_byRegisters 12 = .ok (.iconst 1, 1) := by decide +kernel
theorem dL_byRegisters_13 : decode cL_byRegisters 13 = .ok (.ireturn, 1) := by decide +kernel
theorem dL_byRegisters_14 : decode cL_byRegisters 14 = .ok (.iconst 0, 1) := by decide +kernel
theorem dL_byRegisters_15 : decode cL_byRegisters 15 = .ok (.ireturn, 1) := by decide +kernel
set_option maxRecDepth 20000 in
theorem ggL_recent_X4_recent : GoodIn wsL_recent wsX4_recent := goodIn_ca (goodIn_ca (goodIn_r _ [7, 8, 9, 10, 11, 12, 13, 6, 14, 15, 16, 17, 18, 19, 20, 21, 22, 23, 24, 25, 26, 27, 28, 29, 30, 31, 32, 33, 34, 35, 36, 37, 38, 39, 40, 41, 42, 43, 44, 45, 46, 47, 48, 49, 50, 51, 52, 53, 54, 55, 56, 57, 58, 59, 60, 61, 62, 63, 64, 65, 66, 67, 68, 69] (by decide +kernel) (by decide +kernel)) (goodIn_sub (fun _ h => List.mem_cons_of_mem _ (List.mem_append_left _ (List.mem_append_right _ h))) (by decide +kernel))) (goodIn_sub (fun _ h => List.mem_cons_of_mem _ (List.mem_append_right _ h)) (by decide +kernel))
set_option maxRecDepth 20000 in
theorem gL_recent_X4_recent : GoodIn wsL_recent (wsV RL 69 RX4 yX4_recent wsX4_recent) := goodIn_app (goodIn_of _ (by decide +kernel)) ggL_recent_X4_recent
theorem dL_recent_0 : decode cL_recent 0 = .ok (.aload_n 3, 1) := by decide +kernel
theorem dL_recent_1 : decode cL_recent 1 = .ok (.iconst 0, 1) := by decide +kernel
theorem dL_recent_2 : decode cL_recent 2 = .ok (.aload_n 0, 1) := by decide +kernel
theorem dL_recent_3 : decode cL_recent 3 = .ok (.iload_n 1, 1) := by decide +kernel
theorem dL_recent_4 : decode cL_recent 4 = .ok (.iload_n 2, 1) := by decide +kernel
theorem dL_recent_5 : decode cL_recent 5 = .ok (.invokevirtual 69, 3) := by decide +kernel
theorem dL_recent_8 : decode cL_recent 8 = .ok (.lastore, 1) := by decide +kernel
theorem dL_recent_9 : decode cL_recent 9 = .ok (.goto 11, 3) := by decide +kernel
theorem dL_recent_12 : decode cL_recent 12 = .ok (.astore 4, 2) := by decide +kernel
theorem dL_recent_14 : decode cL_recent 14 = .ok (.iconst 1, 1) := by decide +kernel
theorem dL_recent_15 : decode cL_recent 15 = .ok (.ireturn, 1) := by decide +kernel
theorem dL_recent_16 : decode cL_recent 16 = .ok (.astore 4, 2) := by decide +kernel
theorem dL_recent_18 : decode cL_recent 18 = .ok (.iconst 2, 1) := by decide +kernel
theorem dL_recent_19 : decode cL_recent 19 = .ok (.ireturn, 1) := by decide +kernel
theorem dL_recent_20 : decode cL_recent 20 = .ok (.iconst 0, 1) := by decide +kernel
theorem dL_recent_21 : decode cL_recent 21 = .ok (.ireturn, 1) := by decide +kernel
set_option maxRecDepth 20000 in
theorem ggL_level_X4_level : GoodIn wsL_level wsX4_level := goodIn_ca (goodIn_r _ [6, 7, 8, 9, 10, 11, 5, 12, 13, 14, 15, 16, 17, 18, 19, 20, 21, 22, 23, 24, 25, 26, 27, 28, 29, 30, 31, 32, 33, 34, 35, 36, 37, 38, 39, 40, 41, 42, 43, 44, 45, 46, 47, 48, 49, 50, 51, 52, 53, 54, 55, 56, 57, 58, 59, 60, 61, 62, 63, 64, 65] (by decide +kernel) (by decide +kernel)) (goodIn_sub (fun _ h => List.mem_cons_of_mem _ (List.mem_append_right _ h)) (by decide +kernel))
set_option maxRecDepth 20000 in
theorem gL_level_X4_level : GoodIn wsL_level (wsV RL 73 RX4 yX4_level wsX4_level) := goodIn_app (goodIn_of _ (by decide +kernel)) ggL_level_X4_level
theorem dL_level_0 : decode cL_level 0 = .ok (.aload_n 2, 1) := by decide +kernel
theorem dL_level_1 : decode cL_level 1 = .ok (.iconst 0, 1) := by decide +kernel
theorem dL_level_2 : decode cL_level 2 = .ok (.aload_n 0, 1) := by decide +kernel
theorem dL_level_3 : decode cL_level 3 = .ok (.iload_n 1, 1) := by decide +kernel
theorem dL_level_4 : decode cL_level 4 = .ok (.invokevirtual 73, 3) := by decide +kernel
theorem dL_level_7 : decode cL_level 7 = .ok (.i2l, 1) := by decide +kernel
theorem dL_level_8 : decode cL_level 8 = .ok (.lastore, 1) := by decide +kernel
theorem dL_level_9 : decode cL_level 9 = .ok (.goto 6, 3) := by decide +kernel
theorem dL_level_12 : decode cL_level 12 = .ok (.astore_n 3, 1) := by decide +kernel
theorem dL_level_13 : decode cL_level 13 = .ok (.iconst 1, 1) := by decide +kernel
theorem dL_level_14 : decode cL_level 14 = .ok (.ireturn, 1) := by decide +kernel
theorem dL_level_15 : decode cL_level 15 = .ok (.iconst 0, 1) := by decide +kernel
theorem dL_level_16 : decode cL_level 16 = .ok (.ireturn, 1) := by decide +kernel
set_option maxRecDepth 20000 in
theorem ggL_sampled_X4_sampled : GoodIn wsL_sampled wsX4_sampled := goodIn_ca (goodIn_r _ [6, 7, 8, 9, 10, 11, 5, 12, 13, 14, 15, 16, 17, 18, 19, 20, 21, 22, 23, 24, 25, 26, 27, 28, 29, 30, 31, 32, 33, 34, 35, 36, 37, 38, 39, 40, 41, 42, 43, 44, 45, 46, 47, 48, 49, 50, 51, 52, 53, 54, 55, 56, 57, 58, 59, 60, 61, 62, 63, 64, 65] (by decide +kernel) (by decide +kernel)) (goodIn_sub (fun _ h => List.mem_cons_of_mem _ (List.mem_append_right _ h)) (by decide +kernel))
set_option maxRecDepth 20000 in
theorem gL_sampled_X4_sampled : GoodIn wsL_sampled (wsV RL 76 RX4 yX4_sampled wsX4_sampled) := goodIn_app (goodIn_of _ (by decide +kernel)) ggL_sampled_X4_sampled
theorem dL_sampled_0 : decode cL_sampled 0 = .ok (.aload_n 2, 1) := by decide +kernel
theorem dL_sampled_1 : decode cL_sampled 1 = .ok (.iconst 0, 1) := by decide +kernel
theorem dL_sampled_2 : decode cL_sampled 2 = .ok (.aload_n 0, 1) := by decide +kernel
theorem dL_sampled_3 : decode cL_sampled 3 = .ok (.iload_n 1, 1) := by decide +kernel
theorem dL_sampled_4 : decode cL_sampled 4 = .ok (.invokevirtual 76, 3) := by decide +kernel
theorem dL_sampled_7 : decode cL_sampled 7 = .ok (.i2l, 1) := by decide +kernel
theorem dL_sampled_8 : decode cL_sampled 8 = .ok (.lastore, 1) := by decide +kernel
theorem dL_sampled_9 : decode cL_sampled 9 = .ok (.goto 6, 3) := by decide +kernel
theorem dL_sampled_12 : decode cL_sampled 12 = .ok (.astore_n 3, 1) := by decide +kernel
theorem dL_sampled_13 : decode cL_sampled 13 = .ok (.iconst 1, 1) := by decide +kernel
theorem dL_sampled_14 : decode cL_sampled 14 = .ok (.ireturn, 1) := by decide +kernel
theorem dL_sampled_15 : decode cL_sampled 15 = .ok (.iconst 0, 1) := by decide +kernel
theorem dL_sampled_16 : decode cL_sampled 16 = .ok (.ireturn, 1) := by decide +kernel
set_option maxRecDepth 20000 in
theorem ggL_sampledAt_X4_sampledAt : GoodIn wsL_sampledAt wsX4_sampledAt := goodIn_ca (goodIn_r _ [6, 7, 8, 9, 10, 11, 12, 13, 5, 14, 15, 16, 17, 18, 19, 20, 21, 22, 23, 24, 25, 26, 27, 28, 29, 30, 31, 32, 33, 34, 35, 36, 37, 38, 39, 40, 41, 42, 43, 44, 45, 46, 47, 48, 49, 50, 51, 52, 53, 54, 55, 56, 57, 58, 59, 60, 61, 62, 63, 64, 65, 66, 67, 68, 69] (by decide +kernel) (by decide +kernel)) (goodIn_sub (fun _ h => List.mem_cons_of_mem _ (List.mem_append_right _ h)) (by decide +kernel))
set_option maxRecDepth 20000 in
theorem gL_sampledAt_X4_sampledAt : GoodIn wsL_sampledAt (wsV RL 79 RX4 yX4_sampledAt wsX4_sampledAt) := goodIn_app (goodIn_of _ (by decide +kernel)) ggL_sampledAt_X4_sampledAt
theorem dL_sampledAt_0 : decode cL_sampledAt 0 = .ok (.aload_n 3, 1) := by decide +kernel
theorem dL_sampledAt_1 : decode cL_sampledAt 1 = .ok (.iconst 0, 1) := by decide +kernel
theorem dL_sampledAt_2 : decode cL_sampledAt 2 = .ok (.aload_n 0, 1) := by decide +kernel
theorem dL_sampledAt_3 : decode cL_sampledAt 3 = .ok (.iload_n 1, 1) := by decide +kernel
theorem dL_sampledAt_4 : decode cL_sampledAt 4 = .ok (.iload_n 2, 1) := by decide +kernel
theorem dL_sampledAt_5 : decode cL_sampledAt 5 = .ok (.invokevirtual 79, 3) := by decide +kernel
theorem dL_sampledAt_8 : decode cL_sampledAt 8 = .ok (.i2l, 1) := by decide +kernel
theorem dL_sampledAt_9 : decode cL_sampledAt 9 = .ok (.lastore, 1) := by decide +kernel
theorem dL_sampledAt_10 : decode cL_sampledAt 10 = .ok (.goto 7, 3) := by decide +kernel
theorem dL_sampledAt_13 : decode cL_sampledAt 13 = .ok (.astore 4, 2) := by decide +kernel
theorem dL_sampledAt_15 : decode cL_sampledAt 15 = .ok (.iconst 1, 1) := by decide +kernel
theorem dL_sampledAt_16 : decode cL_sampledAt 16 = .ok (.ireturn, 1) := by decide +kernel
theorem dL_sampledAt_17 : decode cL_sampledAt 17 = .ok (.iconst 0, 1) := by decide +kernel
theorem dL_sampledAt_18 : decode cL_sampledAt 18 = .ok (.ireturn, 1) := by decide +kernel
set_option maxRecDepth 20000 in
theorem ggL_bySample_X4_bySample : GoodIn wsL_bySample wsX4_bySample := goodIn_ca (goodIn_r _ [6, 7, 8, 9, 10, 11, 12, 5, 13, 14, 15, 16, 17, 18, 19, 20, 21, 22, 23, 24, 25, 26, 27, 28, 29, 30, 31, 32, 33, 34, 35, 36, 37, 38, 39, 40, 41, 42, 43, 44, 45, 46, 47, 48, 49, 50, 51, 52, 53, 54, 55, 56, 57, 58, 59, 60, 61, 62, 63, 64, 65, 66] (by decide +kernel) (by decide +kernel)) (goodIn_sub (fun _ h => List.mem_cons_of_mem _ (List.mem_append_right _ h)) (by decide +kernel))
set_option maxRecDepth 20000 in
theorem gL_bySample_X4_bySample : GoodIn wsL_bySample (wsV RL 82 RX4 yX4_bySample wsX4_bySample) := goodIn_app (goodIn_of _ (by decide +kernel)) ggL_bySample_X4_bySample
theorem dL_bySample_0 : decode cL_bySample 0 = .ok (.aload_n 2, 1) := by decide +kernel
theorem dL_bySample_1 : decode cL_bySample 1 = .ok (.iconst 0, 1) := by decide +kernel
theorem dL_bySample_2 : decode cL_bySample 2 = .ok (.aload_n 0, 1) := by decide +kernel
theorem dL_bySample_3 : decode cL_bySample 3 = .ok (.iload_n 1, 1) := by decide +kernel
theorem dL_bySample_4 : decode cL_bySample 4 = .ok (.invokevirtual 82, 3) := by decide +kernel
theorem dL_bySample_7 : decode cL_bySample 7 = .ok (.i2l, 1) := by decide +kernel
theorem dL_bySample_8 : decode cL_bySample 8 = .ok (.lastore, 1) := by decide +kernel
theorem dL_bySample_9 : decode cL_bySample 9 = .ok (.goto 6, 3) := by decide +kernel
theorem dL_bySample_12 : decode cL_bySample 12 = .ok (.astore_n 3, 1) := by decide +kernel
theorem dL_bySample_13 : decode cL_bySample 13 = .ok (.iconst 1, 1) := by decide +kernel
theorem dL_bySample_14 : decode cL_bySample 14 = .ok (.ireturn, 1) := by decide +kernel
theorem dL_bySample_15 : decode cL_bySample 15 = .ok (.iconst 0, 1) := by decide +kernel
theorem dL_bySample_16 : decode cL_bySample 16 = .ok (.ireturn, 1) := by decide +kernel
