theorem dL_cell_0 : decode cL_cell 0 = .ok (.iload_n 1, 1) := by decide +kernel
theorem dL_cell_1 : decode cL_cell 1 = .ok (.aload_n 0, 1) := by decide +kernel
theorem dL_cell_2 : decode cL_cell 2 = .ok (.arraylength, 1) := by decide +kernel
theorem dL_cell_3 : decode cL_cell 3 = .ok (.if_icmp .ge 9, 3) := by decide +kernel
theorem dL_cell_6 : decode cL_cell 6 = .ok (.aload_n 0, 1) := by decide +kernel
theorem dL_cell_7 : decode cL_cell 7 = .ok (.iload_n 1, 1) := by decide +kernel
theorem dL_cell_8 : decode cL_cell 8 = .ok (.iaload, 1) := by decide +kernel
theorem dL_cell_9 : decode cL_cell 9 = .ok (.goto 18, 3) := by decide +kernel
theorem dL_cell_12 : decode cL_cell 12 = .ok (.sipush 7919, 3) := by decide +kernel
theorem dL_cell_15 : decode cL_cell 15 = .ok (.iload_n 1, 1) := by decide +kernel
theorem dL_cell_16 : decode cL_cell 16 = .ok (.sipush 211, 3) := by decide +kernel
theorem dL_cell_19 : decode cL_cell 19 = .ok (.iadd, 1) := by decide +kernel
theorem dL_cell_20 : decode cL_cell 20 = .ok (.imul, 1) := by decide +kernel
theorem dL_cell_21 : decode cL_cell 21 = .ok (.iload_n 1, 1) := by decide +kernel
theorem dL_cell_22 : decode cL_cell 22 = .ok (.sipush 1709, 3) := by decide +kernel
theorem dL_cell_25 : decode cL_cell 25 = .ok (.iadd, 1) := by decide +kernel
theorem dL_cell_26 : decode cL_cell 26 = .ok (.imul, 1) := by decide +kernel
theorem dL_cell_27 : decode cL_cell 27 = .ok (.ireturn, 1) := by decide +kernel
theorem dL_low_0 : decode cL_low 0 = .ok (.iload_n 0, 1) := by decide +kernel
theorem dL_low_1 : decode cL_low 1 = .ok (.ldc 7, 2) := by decide +kernel
theorem dL_low_3 : decode cL_low 3 = .ok (.iand, 1) := by decide +kernel
theorem dL_low_4 : decode cL_low 4 = .ok (.iload_n 1, 1) := by decide +kernel
theorem dL_low_5 : decode cL_low 5 = .ok (.irem, 1) := by decide +kernel
theorem dL_low_6 : decode cL_low 6 = .ok (.ireturn, 1) := by decide +kernel
set_option maxRecDepth 20000 in
theorem ggL_add_X4_add : GoodIn wsL_add wsX4_add := goodIn_ca (goodIn_ca (goodIn_r _ [8, 9, 10, 11, 7, 12, 13, 14, 15, 16, 17, 18, 19, 20, 21, 22, 23, 24, 25, 26, 27, 28, 29, 30, 31, 32, 33, 34, 35, 36, 37, 38, 39, 40, 41, 42, 43, 44, 45, 46, 47, 48, 49, 50, 51, 52, 53, 54, 55, 56, 57, 58, 59, 60, 61, 62, 63, 64, 65, 66, 67, 68, 69, 70, 71, 72, 73, 74, 75, 76, 77, 78, 79, 80, 81, 82, 83, 84, 85, 86, 87, 88, 89] (by decide +kernel) (by decide +kernel)) (goodIn_sub (fun _ h => List.mem_cons_of_mem _ (List.mem_append_left _ (List.mem_append_right _ h))) (by decide +kernel))) (goodIn_sub (fun _ h => List.mem_cons_of_mem _ (List.mem_append_right _ h)) (by decide +kernel))
set_option maxRecDepth 20000 in
theorem gL_add_X4_add : GoodIn wsL_add (wsV RL 8 RX4 yX4_add wsX4_add) := goodIn_app (goodIn_of _ (by decide +kernel)) ggL_add_X4_add
theorem dL_add_0 : decode cL_add 0 = .ok (.aload_n 0, 1) := by decide +kernel
theorem dL_add_1 : decode cL_add 1 = .ok (.iload_n 1, 1) := by decide +kernel
theorem dL_add_2 : decode cL_add 2 = .ok (.iload_n 2, 1) := by decide +kernel
theorem dL_add_3 : decode cL_add 3 = .ok (.invokevirtual 8, 3) := by decide +kernel
theorem dL_add_6 : decode cL_add 6 = .ok (.ifCond .eq 7, 3) := by decide +kernel
theorem dL_add_9 : decode cL_add 9 = .ok (.iconst 1, 1) := by decide +kernel
theorem dL_add_10 : decode cL_add 10 = .ok (.goto 4, 3) := by decide +kernel
theorem dL_add_13 : decode cL_add 13 = .ok (.iconst 0, 1) := by decide +kernel
theorem dL_add_14 : decode cL_add 14 = .ok (.ireturn, 1) := by decide +kernel
theorem dL_add_15 : decode cL_add 15 = .ok (.astore_n 3, 1) := by decide +kernel
theorem dL_add_16 : decode cL_add 16 = .ok (.ldc 16, 2) := by decide +kernel
theorem dL_add_18 : decode cL_add 18 = .ok (.ireturn, 1) := by decide +kernel
theorem dL_add_19 : decode cL_add 19 = .ok (.astore_n 3, 1) := by decide +kernel
theorem dL_add_20 : decode cL_add 20 = .ok (.ldc 16, 2) := by decide +kernel
theorem dL_add_22 : decode cL_add 22 = .ok (.ireturn, 1) := by decide +kernel
set_option maxRecDepth 20000 in
theorem ggL_addLine_X4_addLine : GoodIn wsL_addLine wsX4_addLine := goodIn_ca (goodIn_ca (goodIn_r _ [8, 9, 10, 11, 7, 12, 13, 14, 15, 16, 17, 18, 19, 20, 21, 22, 23, 24, 25, 26, 27, 28, 29, 30, 31, 32, 33, 34, 35, 36, 37, 38, 39, 40, 41, 42, 43, 44, 45, 46, 47, 48, 49, 50, 51, 52, 53, 54, 55, 56, 57, 58, 59, 60, 61, 62, 63, 64, 65, 66, 67, 68, 69, 70, 71, 72, 73, 74, 75, 76, 77, 78, 79, 80, 81, 82, 83, 84, 85, 86, 87, 88, 89] (by decide +kernel) (by decide +kernel)) (goodIn_sub (fun _ h => List.mem_cons_of_mem _ (List.mem_append_left _ (List.mem_append_right _ h))) (by decide +kernel))) (goodIn_sub (fun _ h => List.mem_cons_of_mem _ (List.mem_append_right _ h)) (by decide +kernel))
set_option maxRecDepth 20000 in
theorem gL_addLine_X4_addLine : GoodIn wsL_addLine (wsV RL 19 RX4 yX4_addLine wsX4_addLine) := goodIn_app (goodIn_of _ (by decide +kernel)) ggL_addLine_X4_addLine
theorem dL_addLine_0 : decode cL_addLine 0 = .ok (.aload_n 0, 1) := by decide +kernel
theorem dL_addLine_1 : decode cL_addLine 1 = .ok (.iload_n 1, 1) := by decide +kernel
theorem dL_addLine_2 : decode cL_addLine 2 = .ok (.iload_n 2, 1) := by decide +kernel
theorem dL_addLine_3 : decode cL_addLine 3 = .ok (.iload_n 3, 1) := by decide +kernel
theorem dL_addLine_4 : decode cL_addLine 4 = .ok (.iload 4, 2) := by decide +kernel
theorem dL_addLine_6 : decode cL_addLine 6 = .ok (.invokevirtual 19, 3) := by decide +kernel
theorem dL_addLine_9 : decode cL_addLine 9 = .ok (.ireturn, 1) := by decide +kernel
theorem dL_addLine_10 : decode cL_addLine 10 = .ok (.astore 5, 2) := by decide +kernel
theorem dL_addLine_12 : decode cL_addLine 12 = .ok (.ldc 16, 2) := by decide +kernel
theorem dL_addLine_14 : decode cL_addLine 14 = .ok (.ireturn, 1) := by decide +kernel
theorem dL_addLine_15 : decode cL_addLine 15 = .ok (.astore 5, 2) := by decide +kernel
theorem dL_addLine_17 : decode cL_addLine 17 = .ok (.ldc 16, 2) := by decide +kernel
theorem dL_addLine_19 : decode cL_addLine 19 = .ok (.ireturn, 1) := by decide +kernel
set_option maxRecDepth 20000 in
theorem ggL_empty_X4_empty : GoodIn wsL_empty wsX4_empty := goodIn_ca (goodIn_r _ [7, 8, 9, 10, 6, 11, 12, 13, 14, 15, 16, 17, 18, 19, 20, 21, 22, 23, 24, 25, 26, 27, 28, 29, 30, 31, 32, 33] (by decide +kernel) (by decide +kernel)) (goodIn_sub (fun _ h => List.mem_cons_of_mem _ (List.mem_append_right _ h)) (by decide +kernel))
set_option maxRecDepth 20000 in
theorem gL_empty_X4_empty : GoodIn wsL_empty (wsV RL 23 RX4 yX4_empty wsX4_empty) := goodIn_app (goodIn_of _ (by decide +kernel)) ggL_empty_X4_empty
theorem dL_empty_0 : decode cL_empty 0 = .ok (.aload_n 0, 1) := by decide +kernel
theorem dL_empty_1 : decode cL_empty 1 = .ok (.iload_n 1, 1) := by decide +kernel
theorem dL_empty_2 : decode cL_empty 2 = .ok (.invokevirtual 23, 3) := by decide +kernel
theorem dL_empty_5 : decode cL_empty 5 = .ok (.ireturn, 1) := by decide +kernel
theorem dL_empty_6 : decode cL_empty 6 = .ok (.astore_n 2, 1) := by decide +kernel
theorem dL_empty_7 : decode cL_empty 7 = .ok (.ldc 16, 2) := by decide +kernel
theorem dL_empty_9 : decode cL_empty 9 = .ok (.ireturn, 1) := by decide +kernel
set_option maxRecDepth 20000 in
theorem ggL_merge_X4_merge : GoodIn wsL_merge wsX4_merge := goodIn_ca (goodIn_r _ [7, 8, 9, 10, 11, 12, 13, 6, 14, 15, 16, 17, 18, 19, 20, 21, 22, 23, 24, 25, 26, 27, 28, 29, 30, 31, 32, 33, 34, 35, 36, 37, 38, 39, 40, 41, 42, 43, 44, 45, 46, 47, 48, 49, 50, 51, 52, 53, 54, 55, 56, 57, 58, 59, 60, 61, 62, 63, 64, 65, 66, 67, 68, 69, 70, 71, 72, 73, 74] (by decide +kernel) (by decide +kernel)) (goodIn_sub (fun _ h => List.mem_cons_of_mem _ (List.mem_append_right _ h)) (by decide +kernel))
set_option maxRecDepth 20000 in
theorem gL_merge_X4_merge : GoodIn wsL_merge (wsV RL 27 RX4 yX4_merge wsX4_merge) := goodIn_app (goodIn_of _ (by decide +kernel)) ggL_merge_X4_merge
theorem dL_merge_0 : decode cL_merge 0 = .ok (.aload_n 0, 1) := by decide +kernel
theorem dL_merge_1 : decode cL_merge 1 = .ok (.iload_n 1, 1) := by decide +kernel
theorem dL_merge_2 : decode cL_merge 2 = .ok (.iload_n 2, 1) := by decide +kernel
theorem dL_merge_3 : decode cL_merge 3 = .ok (.invokevirtual 27, 3) := by decide +kernel
theorem dL_merge_6 : decode cL_merge 6 = .ok (.ireturn, 1) := by decide +kernel
theorem dL_merge_7 : decode cL_merge 7 = .ok (.astore_n 3, 1) := by decide +kernel
theorem dL_merge_8 : decode cL_merge 8 = .ok (.ldc 16, 2) := by decide +kernel
theorem dL_merge_10 : decode cL_merge 10 = .ok (.ireturn, 1) := by decide +kernel
set_option maxRecDepth 20000 in
theorem ggL_pass_X4_pass : GoodIn wsL_pass wsX4_pass := goodIn_ca (goodIn_r _ [7, 8, 9, 10, 6, 11, 12, 13, 14, 15, 16, 17, 18, 19, 20, 21, 22, 23] (by decide +kernel) (by decide +kernel)) (goodIn_sub (fun _ h => List.mem_cons_of_mem _ (List.mem_append_right _ h)) (by decide +kernel))
set_option maxRecDepth 20000 in
theorem gL_pass_X4_pass : GoodIn wsL_pass (wsV RL 31 RX4 yX4_pass wsX4_pass) := goodIn_app (goodIn_of _ (by decide +kernel)) ggL_pass_X4_pass
theorem dL_pass_0 : decode cL_pass 0 = .ok (.aload_n 0, 1) := by decide +kernel
theorem dL_pass_1 : decode cL_pass 1 = .ok (.iload_n 1, 1) := by decide +kernel
theorem dL_pass_2 : decode cL_pass 2 = .ok (.invokevirtual 31, 3) := by decide +kernel
theorem dL_pass_5 : decode cL_pass 5 = .ok (.ireturn, 1) := by decide +kernel
theorem dL_pass_6 : decode cL_pass 6 = .ok (.astore_n 2, 1) := by decide +kernel
theorem dL_pass_7 : decode cL_pass 7 = .ok (.ldc 16, 2) := by decide +kernel
theorem dL_pass_9 : decode cL_pass 9 = .ok (.ireturn, 1) := by decide +kernel
set_option maxRecDepth 20000 in
theorem ggL_keptAt_X4_keptAt : GoodIn wsL_keptAt wsX4_keptAt := goodIn_ca (goodIn_r _ [6, 7, 8, 9, 10, 11, 12, 13, 14, 5, 15, 16, 17, 18, 19, 20, 21, 22, 23, 24, 25, 26, 27, 28, 29, 30, 31, 32, 33, 34, 35, 36, 37, 38, 39, 40, 41, 42, 43, 44, 45, 46, 47, 48, 49, 50, 51, 52, 53, 54, 55, 56, 57, 58, 59, 60, 61] (by decide +kernel) (by decide +kernel)) (goodIn_sub (fun _ h => List.mem_cons_of_mem _ (List.mem_append_right _ h)) (by decide +kernel))
set_option maxRecDepth 20000 in
theorem gL_keptAt_X4_keptAt : GoodIn wsL_keptAt (wsV RL 34 RX4 yX4_keptAt wsX4_keptAt) := goodIn_app (goodIn_of _ (by decide +kernel)) ggL_keptAt_X4_keptAt
theorem dL_keptAt_0 : decode cL_keptAt 0 = .ok (.aload_n 0, 1) := by decide +kernel
theorem dL_keptAt_1 : decode cL_keptAt 1 = .ok (.iload_n 1, 1) := by decide +kernel
theorem dL_keptAt_2 : decode cL_keptAt 2 = .ok (.iload_n 2, 1) := by decide +kernel
theorem dL_keptAt_3 : decode cL_keptAt 3 = .ok (.invokevirtual 34, 3) := by decide +kernel
theorem dL_keptAt_6 : decode cL_keptAt 6 = .ok (.ireturn, 1) := by decide +kernel
theorem dL_keptAt_7 : decode cL_keptAt 7 = .ok (.astore_n 3, 1) := by decide +kernel
theorem dL_keptAt_8 : decode cL_keptAt 8 = .ok (.iconst (-1), 1) := by decide +kernel
theorem dL_keptAt_9 : decode cL_keptAt 9 = .ok (.ireturn, 1) := by decide +kernel
set_option maxRecDepth 20000 in
theorem ggL_act_L_low : GoodIn wsL_act wsL_low := goodIn_r _ [5, 6] (by decide +kernel) (by decide +kernel)
set_option maxRecDepth 20000 in
theorem gL_act_L_low : GoodIn wsL_act (va_wsS RL 37 yL_low wsL_low) := goodIn_app (goodIn_of _ (by decide +kernel)) ggL_act_L_low
set_option maxRecDepth 20000 in
theorem ggL_act_L_add : GoodIn wsL_act wsL_add := goodIn_ca (goodIn_ca (goodIn_r _ [9, 10, 11, 12, 13, 14, 15, 16, 17, 18, 19, 20, 21, 22, 23, 24, 25, 26, 27, 28, 29, 30, 31, 32, 33, 34, 35, 36, 37, 38, 39, 40, 41, 42, 43, 44, 45, 46, 47, 48, 49, 50, 51, 52, 53, 54, 55, 56, 57, 58, 59, 60, 61, 62, 63, 64, 65, 66, 67, 68, 69, 70, 71, 72, 73, 74, 75, 76, 77, 78, 79, 80, 81, 82, 83, 84, 85, 121, 122, 123, 124, 125, 126, 127, 128, 129, 130, 131, 132, 133] (by decide +kernel) (by decide +kernel)) (goodIn_sub (fun _ h => List.mem_cons_of_mem _ (List.mem_append_left _ (List.mem_append_right _ h))) (by decide +kernel))) (goodIn_sub (fun _ h => List.mem_cons_of_mem _ (List.mem_append_right _ h)) (by decide +kernel))
set_option maxRecDepth 20000 in
theorem gL_act_L_add : GoodIn wsL_act (va_wsS RL 43 yL_add wsL_add) := goodIn_app (goodIn_of _ (by decide +kernel)) ggL_act_L_add
set_option maxRecDepth 20000 in
theorem ggL_act_L_empty : GoodIn wsL_act wsL_empty := goodIn_ca (goodIn_r _ [88, 10, 12, 89, 90, 91, 16, 92, 18, 19, 20, 21, 22, 23, 24, 93, 94, 95, 47, 96, 49, 121, 122, 123, 124, 125, 126, 127, 128, 129, 130, 131, 132, 133] (by decide +kernel) (by decide +kernel)) (goodIn_sub (fun _ h => List.mem_cons_of_mem _ (List.mem_append_left _ (List.mem_append_right _ h))) (by decide +kernel))
set_option maxRecDepth 20000 in
theorem gL_act_L_empty : GoodIn wsL_act (va_wsS RL 46 yL_empty wsL_empty) := goodIn_app (goodIn_of _ (by decide +kernel)) ggL_act_L_empty
set_option maxRecDepth 20000 in
theorem ggL_act_L_merge : GoodIn wsL_act wsL_merge := goodIn_ca (goodIn_r _ [99, 10, 12, 100, 101, 102, 16, 103, 104, 105, 106, 18, 19, 20, 21, 22, 23, 24, 44, 45, 46, 47, 48, 49, 50, 51, 52, 53, 54, 55, 56, 57, 58, 59, 60, 61, 62, 63, 64, 65, 66, 67, 68, 69, 70, 71, 72, 73, 74, 75, 76, 77, 78, 79, 80, 81, 82, 83, 84, 85, 42, 43, 131, 132, 133, 121, 122, 123, 124, 125, 126, 127, 128, 129, 130] (by decide +kernel) (by decide +kernel)) (goodIn_sub (fun _ h => List.mem_cons_of_mem _ (List.mem_append_left _ (List.mem_append_right _ h))) (by decide +kernel))
set_option maxRecDepth 20000 in
theorem gL_act_L_merge : GoodIn wsL_act (va_wsS RL 49 yL_merge wsL_merge) := goodIn_app (goodIn_of _ (by decide +kernel)) ggL_act_L_merge
set_option maxRecDepth 20000 in
theorem ggL_act_L_pass : GoodIn wsL_act wsL_pass := goodIn_ca (goodIn_r _ [109, 11, 12, 110, 111, 112, 16, 113, 40, 29, 30, 31, 32, 33, 121, 122, 123, 124, 125, 126, 127, 128, 129, 130] (by decide +kernel) (by decide +kernel)) (goodIn_sub (fun _ h => List.mem_cons_of_mem _ (List.mem_append_right _ h)) (by decide +kernel))
set_option maxRecDepth 20000 in
theorem gL_act_L_pass : GoodIn wsL_act (va_wsS RL 51 yL_pass wsL_pass) := goodIn_app (goodIn_of _ (by decide +kernel)) ggL_act_L_pass
set_option maxRecDepth 20000 in
theorem ggL_act_L_addLine : GoodIn wsL_act wsL_addLine := goodIn_ca (goodIn_ca (goodIn_r _ [116, 10, 11, 12, 117, 118, 119, 16, 120, 18, 19, 20, 21, 22, 23, 24, 25, 26, 27, 28, 29, 30, 31, 32, 33, 34, 35, 36, 37, 38, 39, 40, 41, 42, 43, 44, 45, 46, 47, 48, 49, 50, 51, 52, 53, 54, 55, 56, 57, 58, 59, 60, 61, 62, 63, 64, 65, 66, 67, 68, 69, 70, 71, 72, 73, 74, 75, 76, 77, 78, 79, 80, 81, 82, 83, 84, 85, 121, 122, 123, 124, 125, 126, 127, 128, 129, 130, 131, 132, 133] (by decide +kernel) (by decide +kernel)) (goodIn_sub (fun _ h => List.mem_cons_of_mem _ (List.mem_append_left _ (List.mem_append_right _ h))) (by decide +kernel))) (goodIn_sub (fun _ h => List.mem_cons_of_mem _ (List.mem_append_right _ h)) (by decide +kernel))
set_option maxRecDepth 20000 in
theorem gL_act_L_addLine : GoodIn wsL_act (va_wsS RL 53 yL_addLine wsL_addLine) := goodIn_app (goodIn_of _ (by decide +kernel)) ggL_act_L_addLine
theorem dL_act_0 : decode cL_act 0 = .ok (.iload_n 1, 1) := by decide +kernel
theorem dL_act_1 : decode cL_act 1 = .ok (.bipush 24, 2) := by decide +kernel
theorem dL_act_3 : decode cL_act 3 = .ok (.ishr, 1) := by decide +kernel
theorem dL_act_4 : decode cL_act 4 = .ok (.bipush 9, 2) := by decide +kernel
theorem dL_act_6 : decode cL_act 6 = .ok (.invokestatic 37, 3) := by decide +kernel
theorem dL_act_9 : decode cL_act 9 = .ok (.ifCond .ne 7, 3) := by decide +kernel
theorem dL_act_12 : decode cL_act 12 = .ok (.iconst 1, 1) := by decide +kernel
theorem dL_act_13 : decode cL_act 13 = .ok (.goto 4, 3) := by decide +kernel
theorem dL_act_16 : decode cL_act 16 = .ok (.iconst 0, 1) := by decide +kernel
theorem dL_act_17 : decode cL_act 17 = .ok (.istore_n 2, 1) := by decide +kernel
theorem dL_act_18 : decode cL_act 18 = .ok (.iload_n 2, 1) := by decide +kernel
theorem dL_act_19 : decode cL_act 19 = .ok (.ifCond .eq 16, 3) := by decide +kernel
theorem dL_act_22 : decode cL_act 22 = .ok (.iload_n 1, 1) := by decide +kernel
theorem dL_act_23 : decode cL_act 23 = .ok (.iconst 3, 1) := by decide +kernel
theorem dL_act_24 : decode cL_act 24 = .ok (.ishr, 1) := by decide +kernel
theorem dL_act_25 : decode cL_act 25 = .ok (.bipush 8, 2) := by decide +kernel
theorem dL_act_27 : decode cL_act 27 = .ok (.invokestatic 37, 3) := by decide +kernel
theorem dL_act_30 : decode cL_act 30 = .ok (.iconst 1, 1) := by decide +kernel
theorem dL_act_31 : decode cL_act 31 = .ok (.isub, 1) := by decide +kernel
theorem dL_act_32 : decode cL_act 32 = .ok (.goto 10, 3) := by decide +kernel
theorem dL_act_35 : decode cL_act 35 = .ok (.iload_n 1, 1) := by decide +kernel
theorem dL_act_36 : decode cL_act 36 = .ok (.iconst 3, 1) := by decide +kernel
theorem dL_act_37 : decode cL_act 37 = .ok (.ishr, 1) := by decide +kernel
theorem dL_act_38 : decode cL_act 38 = .ok (.iconst 3, 1) := by decide +kernel
theorem dL_act_39 : decode cL_act 39 = .ok (.invokestatic 37, 3) := by decide +kernel
theorem dL_act_42 : decode cL_act 42 = .ok (.istore_n 3, 1) := by decide +kernel
theorem dL_act_43 : decode cL_act 43 = .ok (.iload_n 2, 1) := by decide +kernel
theorem dL_act_44 : decode cL_act 44 = .ok (.ifCond .eq 18, 3) := by decide +kernel
theorem dL_act_47 : decode cL_act 47 = .ok (.iload_n 1, 1) := by decide +kernel
theorem dL_act_48 : decode cL_act 48 = .ok (.bipush 6, 2) := by decide +kernel
theorem dL_act_50 : decode cL_act 50 = .ok (.ishr, 1) := by decide +kernel
theorem dL_act_51 : decode cL_act 51 = .ok (.ldc 42, 2) := by decide +kernel
theorem dL_act_53 : decode cL_act 53 = .ok (.invokestatic 37, 3) := by decide +kernel
theorem dL_act_56 : decode cL_act 56 = .ok (.bipush 10, 2) := by decide +kernel
theorem dL_act_58 : decode cL_act 58 = .ok (.isub, 1) := by decide +kernel
theorem dL_act_59 : decode cL_act 59 = .ok (.goto 13, 3) := by decide +kernel
theorem dL_act_62 : decode cL_act 62 = .ok (.iload_n 1, 1) := by decide +kernel
theorem dL_act_63 : decode cL_act 63 = .ok (.bipush 6, 2) := by decide +kernel
theorem dL_act_65 : decode cL_act 65 = .ok (.ishr, 1) := by decide +kernel
theorem dL_act_66 : decode cL_act 66 = .ok (.sipush 300, 3) := by decide +kernel
theorem dL_act_69 : decode cL_act 69 = .ok (.invokestatic 37, 3) := by decide +kernel
theorem dL_act_72 : decode cL_act 72 = .ok (.istore 4, 2) := by decide +kernel
theorem dL_act_74 : decode cL_act 74 = .ok (.iload_n 1, 1) := by decide +kernel
theorem dL_act_75 : decode cL_act 75 = .ok (.bipush 9, 2) := by decide +kernel
theorem dL_act_77 : decode cL_act 77 = .ok (.invokestatic 37, 3) := by decide +kernel
theorem dL_act_80 : decode cL_act 80 = .ok (.tableswitch 116 0 3 #[32, 32, 40, 83], 32) := by decide +kernel
theorem dL_act_112 : decode cL_act 112 = .ok (.aload_n 0, 1) := by decide +kernel
theorem dL_act_113 : decode cL_act 113 = .ok (.iload_n 3, 1) := by decide +kernel
theorem dL_act_114 : decode cL_act 114 = .ok (.iload 4, 2) := by decide +kernel
theorem dL_act_116 : decode cL_act 116 = .ok (.invokestatic 43, 3) := by decide +kernel
theorem dL_act_119 : decode cL_act 119 = .ok (.ireturn, 1) := by decide +kernel
theorem dL_act_120 : decode cL_act 120 = .ok (.iload_n 1, 1) := by decide +kernel
theorem dL_act_121 : decode cL_act 121 = .ok (.bipush 9, 2) := by decide +kernel
theorem dL_act_123 : decode cL_act 123 = .ok (.ishr, 1) := by decide +kernel
theorem dL_act_124 : decode cL_act 124 = .ok (.bipush 6, 2) := by decide +kernel
theorem dL_act_126 : decode cL_act 126 = .ok (.invokestatic 37, 3) := by decide +kernel
theorem dL_act_129 : decode cL_act 129 = .ok (.ifCond .ne 11, 3) := by decide +kernel
theorem dL_act_132 : decode cL_act 132 = .ok (.aload_n 0, 1) := by decide +kernel
theorem dL_act_133 : decode cL_act 133 = .ok (.iload_n 3, 1) := by decide +kernel
theorem dL_act_134 : decode cL_act 134 = .ok (.invokestatic 46, 3) := by decide +kernel
theorem dL_act_137 : decode cL_act 137 = .ok (.goto 25, 3) := by decide +kernel
theorem dL_act_140 : decode cL_act 140 = .ok (.aload_n 0, 1) := by decide +kernel
theorem dL_act_141 : decode cL_act 141 = .ok (.iload_n 3, 1) := by decide +kernel
theorem dL_act_142 : decode cL_act 142 = .ok (.iload_n 1, 1) := by decide +kernel
theorem dL_act_143 : decode cL_act 143 = .ok (.bipush 12, 2) := by decide +kernel
theorem dL_act_145 : decode cL_act 145 = .ok (.ishr, 1) := by decide +kernel
theorem dL_act_146 : decode cL_act 146 = .ok (.iload_n 2, 1) := by decide +kernel
theorem dL_act_147 : decode cL_act 147 = .ok (.ifCond .eq 8, 3) := by decide +kernel
theorem dL_act_150 : decode cL_act 150 = .ok (.bipush 7, 2) := by decide +kernel
theorem dL_act_152 : decode cL_act 152 = .ok (.goto 4, 3) := by decide +kernel
theorem dL_act_155 : decode cL_act 155 = .ok (.iconst 3, 1) := by decide +kernel
theorem dL_act_156 : decode cL_act 156 = .ok (.invokestatic 37, 3) := by decide +kernel
theorem dL_act_159 : decode cL_act 159 = .ok (.invokestatic 49, 3) := by decide +kernel
theorem dL_act_162 : decode cL_act 162 = .ok (.ireturn, 1) := by decide +kernel
theorem dL_act_163 : decode cL_act 163 = .ok (.aload_n 0, 1) := by decide +kernel
theorem dL_act_164 : decode cL_act 164 = .ok (.iload_n 2, 1) := by decide +kernel
theorem dL_act_165 : decode cL_act 165 = .ok (.ifCond .eq 16, 3) := by decide +kernel
theorem dL_act_168 : decode cL_act 168 = .ok (.iload_n 1, 1) := by decide +kernel
theorem dL_act_169 : decode cL_act 169 = .ok (.bipush 9, 2) := by decide +kernel
theorem dL_act_171 : decode cL_act 171 = .ok (.ishr, 1) := by decide +kernel
theorem dL_act_172 : decode cL_act 172 = .ok (.sipush 1100, 3) := by decide +kernel
theorem dL_act_175 : decode cL_act 175 = .ok (.invokestatic 37, 3) := by decide +kernel
theorem dL_act_178 : decode cL_act 178 = .ok (.goto 14, 3) := by decide +kernel
theorem dL_act_181 : decode cL_act 181 = .ok (.iconst 1, 1) := by decide +kernel
theorem dL_act_182 : decode cL_act 182 = .ok (.iload_n 1, 1) := by decide +kernel
theorem dL_act_183 : decode cL_act 183 = .ok (.bipush 9, 2) := by decide +kernel
theorem dL_act_185 : decode cL_act 185 = .ok (.ishr, 1) := by decide +kernel
theorem dL_act_186 : decode cL_act 186 = .ok (.bipush 9, 2) := by decide +kernel
theorem dL_act_188 : decode cL_act 188 = .ok (.invokestatic 37, 3) := by decide +kernel
theorem dL_act_191 : decode cL_act 191 = .ok (.iadd, 1) := by decide +kernel
theorem dL_act_192 : decode cL_act 192 = .ok (.invokestatic 51, 3) := by decide +kernel
theorem dL_act_195 : decode cL_act 195 = .ok (.ireturn, 1) := by decide +kernel
theorem dL_act_196 : decode cL_act 196 = .ok (.aload_n 0, 1) := by decide +kernel
theorem dL_act_197 : decode cL_act 197 = .ok (.iload_n 3, 1) := by decide +kernel
theorem dL_act_198 : decode cL_act 198 = .ok (.iload 4, 2) := by decide +kernel
theorem dL_act_200 : decode cL_act 200 = .ok (.iload_n 2, 1) := by decide +kernel
theorem dL_act_201 : decode cL_act 201 = .ok (.ifCond .eq 16, 3) := by decide +kernel
theorem dL_act_204 : decode cL_act 204 = .ok (.iload_n 1, 1) := by decide +kernel
theorem dL_act_205 : decode cL_act 205 = .ok (.bipush 11, 2) := by decide +kernel
theorem dL_act_207 : decode cL_act 207 = .ok (.ishr, 1) := by decide +kernel
theorem dL_act_208 : decode cL_act 208 = .ok (.sipush 1100, 3) := by decide +kernel
theorem dL_act_211 : decode cL_act 211 = .ok (.invokestatic 37, 3) := by decide +kernel
theorem dL_act_214 : decode cL_act 214 = .ok (.goto 14, 3) := by decide +kernel
theorem dL_act_217 : decode cL_act 217 = .ok (.iconst 1, 1) := by decide +kernel
theorem dL_act_218 : decode cL_act 218 = .ok (.iload_n 1, 1) := by decide +kernel
theorem dL_act_219 : decode cL_act 219 = .ok (.bipush 11, 2) := by decide +kernel
theorem dL_act_221 : decode cL_act 221 = .ok (.ishr, 1) := by decide +kernel
theorem dL_act_222 : decode cL_act 222 = .ok (.bipush 120, 2) := by decide +kernel
theorem dL_act_224 : decode cL_act 224 = .ok (.invokestatic 37, 3) := by decide +kernel
theorem dL_act_227 : decode cL_act 227 = .ok (.iadd, 1) := by decide +kernel
theorem dL_act_228 : decode cL_act 228 = .ok (.iload_n 2, 1) := by decide +kernel
theorem dL_act_229 : decode cL_act 229 = .ok (.ifCond .eq 15, 3) := by decide +kernel
theorem dL_act_232 : decode cL_act 232 = .ok (.iload_n 1, 1) := by decide +kernel
theorem dL_act_233 : decode cL_act 233 = .ok (.bipush 15, 2) := by decide +kernel
theorem dL_act_235 : decode cL_act 235 = .ok (.ishr, 1) := by decide +kernel
theorem dL_act_236 : decode cL_act 236 = .ok (.bipush 70, 2) := by decide +kernel
theorem dL_act_238 : decode cL_act 238 = .ok (.invokestatic 37, 3) := by decide +kernel
theorem dL_act_241 : decode cL_act 241 = .ok (.goto 14, 3) := by decide +kernel
theorem dL_act_244 : decode cL_act 244 = .ok (.iconst 1, 1) := by decide +kernel
theorem dL_act_245 : decode cL_act 245 = .ok (.iload_n 1, 1) := by decide +kernel
theorem dL_act_246 : decode cL_act 246 = .ok (.bipush 15, 2) := by decide +kernel
theorem dL_act_248 : decode cL_act 248 = .ok (.ishr, 1) := by decide +kernel
theorem dL_act_249 : decode cL_act 249 = .ok (.bipush 12, 2) := by decide +kernel
theorem dL_act_251 : decode cL_act 251 = .ok (.invokestatic 37, 3) := by decide +kernel
theorem dL_act_254 : decode cL_act 254 = .ok (.iadd, 1) := by decide +kernel
theorem dL_act_255 : decode cL_act 255 = .ok (.invokestatic 53, 3) := by decide +kernel
theorem dL_act_258 : decode cL_act 258 = .ok (.ireturn, 1) := by decide +kernel
set_option maxRecDepth 20000 in
theorem ggL_areAlike_X4_clock : GoodIn wsL_areAlike wsX4_clock := goodIn_r _ [5, 6, 129, 130, 131, 132, 133, 134, 135, 136, 137, 138] (by decide +kernel) (by decide +kernel)
set_option maxRecDepth 20000 in
theorem gL_areAlike_X4_clock : GoodIn wsL_areAlike (wsV RL 56 RX4 yX4_clock wsX4_clock) := goodIn_app (goodIn_of _ (by decide +kernel)) ggL_areAlike_X4_clock
set_option maxRecDepth 20000 in
theorem ggL_areAlike_X4_plain : GoodIn wsL_areAlike wsX4_plain := goodIn_ca (goodIn_r _ [10, 11, 12, 13, 14, 4, 15, 16, 17, 18, 139, 140, 141, 129, 130, 131, 132, 133, 134, 135, 136, 137, 138] (by decide +kernel) (by decide +kernel)) (goodIn_sub (fun _ h => List.mem_cons_of_mem _ (List.mem_append_left _ (List.mem_append_right _ h))) (by decide +kernel))
set_option maxRecDepth 20000 in
theorem gL_areAlike_X4_plain : GoodIn wsL_areAlike (wsV RL 60 RX4 yX4_plain wsX4_plain) := goodIn_app (goodIn_of _ (by decide +kernel)) ggL_areAlike_X4_plain
set_option maxRecDepth 20000 in
theorem ggL_areAlike_X4_byLeast : GoodIn wsL_areAlike wsX4_byLeast := goodIn_ca (goodIn_r _ [22, 23, 12, 13, 14, 4, 15, 16, 17, 18, 24, 25, 26, 27, 28, 29, 30, 31, 32, 33, 34, 35, 36, 37, 38, 39, 40, 41, 42, 43, 44, 45, 46, 47, 48, 49, 50, 51, 52, 53, 54, 55, 56, 129, 130, 131, 132, 133, 134, 135, 136, 137, 138, 139, 140, 141, 142, 143, 144] (by decide +kernel) (by decide +kernel)) (goodIn_sub (fun _ h => List.mem_cons_of_mem _ (List.mem_append_left _ (List.mem_append_right _ h))) (by decide +kernel))
set_option maxRecDepth 20000 in
theorem gL_areAlike_X4_byLeast : GoodIn wsL_areAlike (wsV RL 63 RX4 yX4_byLeast wsX4_byLeast) := goodIn_app (goodIn_of _ (by decide +kernel)) ggL_areAlike_X4_byLeast
set_option maxRecDepth 20000 in
theorem ggL_areAlike_X4_byRegisters : GoodIn wsL_areAlike wsX4_byRegisters := goodIn_ca (goodIn_r _ [60, 61, 12, 13, 14, 4, 15, 16, 17, 18, 62, 63, 64, 65, 66, 67, 68, 69, 70, 71, 72, 73, 74, 50, 51, 36, 37, 38, 39, 40, 41, 42, 43, 75, 76, 77, 78, 79, 80, 81, 82, 83, 84, 85, 86, 87, 88, 129, 130, 131, 132, 133, 134, 135, 136, 137, 138, 145, 139, 140, 141] (by decide +kernel) (by decide +kernel)) (goodIn_sub (fun _ h => List.mem_cons_of_mem _ (List.mem_append_left _ (List.mem_append_right _ h))) (by decide +kernel))
set_option maxRecDepth 20000 in
theorem gL_areAlike_X4_byRegisters : GoodIn wsL_areAlike (wsV RL 66 RX4 yX4_byRegisters wsX4_byRegisters) := goodIn_app (goodIn_of _ (by decide +kernel)) ggL_areAlike_X4_byRegisters
set_option maxRecDepth 20000 in
theorem ggL_areAlike_X4_bySample : GoodIn wsL_areAlike wsX4_bySample := goodIn_ca (goodIn_r _ [92, 93, 94, 95, 12, 13, 14, 4, 15, 16, 17, 18, 96, 97, 98, 99, 100, 101, 102, 103, 104, 105, 106, 107, 108, 50, 51, 36, 37, 38, 39, 40, 41, 42, 43, 109, 110, 111, 112, 79, 80, 113, 114, 115, 116, 117, 129, 130, 131, 132, 133, 134, 135, 136, 137, 138, 146, 147, 148, 139, 140, 141] (by decide +kernel) (by decide +kernel)) (goodIn_sub (fun _ h => List.mem_cons_of_mem _ (List.mem_append_left _ (List.mem_append_right _ h))) (by decide +kernel))
set_option maxRecDepth 20000 in
theorem gL_areAlike_X4_bySample : GoodIn wsL_areAlike (wsV RL 70 RX4 yX4_bySample wsX4_bySample) := goodIn_app (goodIn_of _ (by decide +kernel)) ggL_areAlike_X4_bySample
set_option maxRecDepth 20000 in
theorem ggL_areAlike_X4_recent : GoodIn wsL_areAlike wsX4_recent := goodIn_ca (goodIn_ca (goodIn_r _ [121, 122, 61, 6, 12, 13, 14, 4, 15, 16, 17, 18, 123, 124, 125, 126, 127, 128, 68, 69, 65, 70, 71, 72, 73, 74, 50, 51, 36, 37, 38, 39, 40, 41, 42, 43, 75, 76, 77, 78, 79, 80, 81, 82, 83, 84, 85, 86, 87, 88, 129, 130, 131, 132, 133, 134, 135, 136, 137, 138, 145, 139, 140, 141] (by decide +kernel) (by decide +kernel)) (goodIn_sub (fun _ h => List.mem_cons_of_mem _ (List.mem_append_left _ (List.mem_append_right _ h))) (by decide +kernel))) (goodIn_sub (fun _ h => List.mem_cons_of_mem _ (List.mem_append_right _ h)) (by decide +kernel))
set_option maxRecDepth 20000 in
theorem gL_areAlike_X4_recent : GoodIn wsL_areAlike (wsV RL 73 RX4 yX4_recent wsX4_recent) := goodIn_app (goodIn_of _ (by decide +kernel)) ggL_areAlike_X4_recent
theorem dL_areAlike_0 : decode cL_areAlike 0 = .ok (.aload_n 0, 1) := by decide +kernel
theorem dL_areAlike_1 : decode cL_areAlike 1 = .ok (.invokevirtual 56, 3) := by decide +kernel
theorem dL_areAlike_4 : decode cL_areAlike 4 = .ok (.aload_n 1, 1) := by decide +kernel
theorem dL_areAlike_5 : decode cL_areAlike 5 = .ok (.invokevirtual 56, 3) := by decide +kernel
theorem dL_areAlike_8 : decode cL_areAlike 8 = .ok (.if_icmp .ne 7, 3) := by decide +kernel
theorem dL_areAlike_11 : decode cL_areAlike 11 = .ok (.iconst 1, 1) := by decide +kernel
theorem dL_areAlike_12 : decode cL_areAlike 12 = .ok (.goto 4, 3) := by decide +kernel
theorem dL_areAlike_15 : decode cL_areAlike 15 = .ok (.iconst 0, 1) := by decide +kernel
theorem dL_areAlike_16 : decode cL_areAlike 16 = .ok (.istore_n 2, 1) := by decide +kernel
theorem dL_areAlike_17 : decode cL_areAlike 17 = .ok (.iconst 0, 1) := by decide +kernel
theorem dL_areAlike_18 : decode cL_areAlike 18 = .ok (.istore_n 3, 1) := by decide +kernel
theorem dL_areAlike_19 : decode cL_areAlike 19 = .ok (.iload_n 3, 1) := by decide +kernel
theorem dL_areAlike_20 : decode cL_areAlike 20 = .ok (.iconst 3, 1) := by decide +kernel
theorem dL_areAlike_21 : decode cL_areAlike 21 = .ok (.if_icmp .ge 88, 3) := by decide +kernel
theorem dL_areAlike_24 : decode cL_areAlike 24 = .ok (.iload_n 2, 1) := by decide +kernel
theorem dL_areAlike_25 : decode cL_areAlike 25 = .ok (.ifCond .eq 76, 3) := by decide +kernel
theorem dL_areAlike_28 : decode cL_areAlike 28 = .ok (.aload_n 0, 1) := by decide +kernel
theorem dL_areAlike_29 : decode cL_areAlike 29 = .ok (.iload_n 3, 1) := by decide +kernel
theorem dL_areAlike_30 : decode cL_areAlike 30 = .ok (.invokevirtual 60, 3) := by decide +kernel
theorem dL_areAlike_33 : decode cL_areAlike 33 = .ok (.aload_n 1, 1) := by decide +kernel
theorem dL_areAlike_34 : decode cL_areAlike 34 = .ok (.iload_n 3, 1) := by decide +kernel
theorem dL_areAlike_35 : decode cL_areAlike 35 = .ok (.invokevirtual 60, 3) := by decide +kernel
theorem dL_areAlike_38 : decode cL_areAlike 38 = .ok (.if_icmp .ne 63, 3) := by decide +kernel
theorem dL_areAlike_41 : decode cL_areAlike 41 = .ok (.aload_n 0, 1) := by decide +kernel
theorem dL_areAlike_42 : decode cL_areAlike 42 = .ok (.iload_n 3, 1) := by decide +kernel
theorem dL_areAlike_43 : decode cL_areAlike 43 = .ok (.invokevirtual 63, 3) := by decide +kernel
theorem dL_areAlike_46 : decode cL_areAlike 46 = .ok (.aload_n 1, 1) := by decide +kernel
theorem dL_areAlike_47 : decode cL_areAlike 47 = .ok (.iload_n 3, 1) := by decide +kernel
theorem dL_areAlike_48 : decode cL_areAlike 48 = .ok (.invokevirtual 63, 3) := by decide +kernel
theorem dL_areAlike_51 : decode cL_areAlike 51 = .ok (.if_icmp .ne 50, 3) := by decide +kernel
theorem dL_areAlike_54 : decode cL_areAlike 54 = .ok (.aload_n 0, 1) := by decide +kernel
theorem dL_areAlike_55 : decode cL_areAlike 55 = .ok (.iload_n 3, 1) := by decide +kernel
theorem dL_areAlike_56 : decode cL_areAlike 56 = .ok (.invokevirtual 66, 3) := by decide +kernel
theorem dL_areAlike_59 : decode cL_areAlike 59 = .ok (.aload_n 1, 1) := by decide +kernel
theorem dL_areAlike_60 : decode cL_areAlike 60 = .ok (.iload_n 3, 1) := by decide +kernel
theorem dL_areAlike_61 : decode cL_areAlike 61 = .ok (.invokevirtual 66, 3) := by decide +kernel
theorem dL_areAlike_64 : decode cL_areAlike 64 = .ok (.lcmp, 1) := by decide +kernel
theorem dL_areAlike_65 : decode cL_areAlike 65 = .ok (.ifCond .ne 36, 3) := by decide +kernel
theorem dL_areAlike_68 : decode cL_areAlike 68 = .ok (.aload_n 0, 1) := by decide +kernel
theorem dL_areAlike_69 : decode cL_areAlike 69 = .ok (.iload_n 3, 1) := by decide +kernel
theorem dL_areAlike_70 : decode cL_areAlike 70 = .ok (.invokevirtual 70, 3) := by decide +kernel
theorem dL_areAlike_73 : decode cL_areAlike 73 = .ok (.aload_n 1, 1) := by decide +kernel
theorem dL_areAlike_74 : decode cL_areAlike 74 = .ok (.iload_n 3, 1) := by decide +kernel
theorem dL_areAlike_75 : decode cL_areAlike 75 = .ok (.invokevirtual 70, 3) := by decide +kernel
theorem dL_areAlike_78 : decode cL_areAlike 78 = .ok (.if_icmp .ne 23, 3) := by decide +kernel
theorem dL_areAlike_81 : decode cL_areAlike 81 = .ok (.aload_n 0, 1) := by decide +kernel
theorem dL_areAlike_82 : decode cL_areAlike 82 = .ok (.iload_n 3, 1) := by decide +kernel
theorem dL_areAlike_83 : decode cL_areAlike 83 = .ok (.iconst 5, 1) := by decide +kernel
theorem dL_areAlike_84 : decode cL_areAlike 84 = .ok (.invokevirtual 73, 3) := by decide +kernel
theorem dL_areAlike_87 : decode cL_areAlike 87 = .ok (.aload_n 1, 1) := by decide +kernel
theorem dL_areAlike_88 : decode cL_areAlike 88 = .ok (.iload_n 3, 1) := by decide +kernel
theorem dL_areAlike_89 : decode cL_areAlike 89 = .ok (.iconst 5, 1) := by decide +kernel
theorem dL_areAlike_90 : decode cL_areAlike 90 = .ok (.invokevirtual 73, 3) := by decide +kernel
theorem dL_areAlike_93 : decode cL_areAlike 93 = .ok (.lcmp, 1) := by decide +kernel
theorem dL_areAlike_94 : decode cL_areAlike 94 = .ok (.ifCond .ne 7, 3) := by decide +kernel
theorem dL_areAlike_97 : decode cL_areAlike 97 = .ok (.iconst 1, 1) := by decide +kernel
theorem dL_areAlike_98 : decode cL_areAlike 98 = .ok (.goto 4, 3) := by decide +kernel
theorem dL_areAlike_101 : decode cL_areAlike 101 = .ok (.iconst 0, 1) := by decide +kernel
theorem dL_areAlike_102 : decode cL_areAlike 102 = .ok (.istore_n 2, 1) := by decide +kernel
theorem dL_areAlike_103 : decode cL_areAlike 103 = .ok (.iinc 3 1, 3) := by decide +kernel
theorem dL_areAlike_106 : decode cL_areAlike 106 = .ok (.goto (-87), 3) := by decide +kernel
theorem dL_areAlike_109 : decode cL_areAlike 109 = .ok (.iload_n 2, 1) := by decide +kernel
theorem dL_areAlike_110 : decode cL_areAlike 110 = .ok (.ireturn, 1) := by decide +kernel
set_option maxRecDepth 20000 in
theorem ggL_isBasketSo_X4_kept : GoodIn wsL_isBasketSo wsX4_kept := goodIn_ca (goodIn_r _ [8, 9, 10, 11, 12, 13, 7, 14, 15, 16, 17, 18, 19, 20, 21, 22, 23, 24, 25, 26, 27, 28, 29, 30, 31, 32, 33, 34, 35, 36, 37, 38, 39, 40, 41, 42, 43, 44, 45, 191, 192, 193, 194, 195, 196, 197, 198, 199, 200, 201, 202, 203, 204, 205, 206] (by decide +kernel) (by decide +kernel)) (goodIn_sub (fun _ h => List.mem_cons_of_mem _ (List.mem_append_left _ (List.mem_append_right _ h))) (by decide +kernel))
set_option maxRecDepth 20000 in
theorem gL_isBasketSo_X4_kept : GoodIn wsL_isBasketSo (wsV RL 77 RX4 yX4_kept wsX4_kept) := goodIn_app (goodIn_of _ (by decide +kernel)) ggL_isBasketSo_X4_kept
set_option maxRecDepth 20000 in
theorem ggL_isBasketSo_X4_keptAt : GoodIn wsL_isBasketSo wsX4_keptAt := goodIn_ca (goodIn_r _ [49, 15, 16, 9, 10, 50, 11, 12, 13, 7, 14, 17, 18, 19, 20, 21, 22, 23, 24, 25, 26, 27, 28, 29, 30, 31, 32, 33, 34, 35, 36, 37, 38, 39, 40, 41, 42, 43, 44, 45, 51, 191, 192, 193, 194, 195, 196, 197, 198, 199, 200, 201, 202, 203, 204, 205, 206] (by decide +kernel) (by decide +kernel)) (goodIn_sub (fun _ h => List.mem_cons_of_mem _ (List.mem_append_left _ (List.mem_append_right _ h))) (by decide +kernel))
set_option maxRecDepth 20000 in
theorem gL_isBasketSo_X4_keptAt : GoodIn wsL_isBasketSo (wsV RL 34 RX4 yX4_keptAt wsX4_keptAt) := goodIn_app (goodIn_of _ (by decide +kernel)) ggL_isBasketSo_X4_keptAt
set_option maxRecDepth 20000 in
theorem ggL_isBasketSo_X4_most : GoodIn wsL_isBasketSo wsX4_most := goodIn_r _ [55, 56, 191, 192, 193, 194, 195, 196, 197, 198, 199, 200] (by decide +kernel) (by decide +kernel)
set_option maxRecDepth 20000 in
theorem gL_isBasketSo_X4_most : GoodIn wsL_isBasketSo (wsV RL 81 RX4 yX4_most wsX4_most) := goodIn_app (goodIn_of _ (by decide +kernel)) ggL_isBasketSo_X4_most
set_option maxRecDepth 20000 in
theorem ggL_isBasketSo_X4_plain : GoodIn wsL_isBasketSo wsX4_plain := goodIn_ca (goodIn_r _ [60, 61, 11, 12, 13, 7, 14, 15, 16, 17, 204, 205, 206, 191, 192, 193, 194, 195, 196, 197, 198, 199, 200] (by decide +kernel) (by decide +kernel)) (goodIn_sub (fun _ h => List.mem_cons_of_mem _ (List.mem_append_left _ (List.mem_append_right _ h))) (by decide +kernel))
set_option maxRecDepth 20000 in
theorem gL_isBasketSo_X4_plain : GoodIn wsL_isBasketSo (wsV RL 60 RX4 yX4_plain wsX4_plain) := goodIn_app (goodIn_of _ (by decide +kernel)) ggL_isBasketSo_X4_plain
set_option maxRecDepth 20000 in
theorem ggL_isBasketSo_L_keptAt : GoodIn wsL_isBasketSo wsL_keptAt := goodIn_ca (goodIn_r _ [65, 66, 46, 47, 48, 7, 49, 15, 16, 9, 10, 50, 11, 12, 13, 14, 17, 18, 19, 20, 21, 22, 23, 24, 25, 26, 27, 28, 29, 30, 31, 32, 33, 34, 35, 36, 37, 38, 39, 40, 41, 42, 43, 44, 45, 51, 191, 192, 193, 194, 195, 196, 197, 198, 199, 200, 201, 202, 203, 204, 205, 206] (by decide +kernel) (by decide +kernel)) (goodIn_sub (fun _ h => List.mem_cons_of_mem _ (List.mem_append_left _ (List.mem_append_right _ h))) (by decide +kernel))
set_option maxRecDepth 20000 in
theorem gL_isBasketSo_L_keptAt : GoodIn wsL_isBasketSo (va_wsS RL 84 yL_keptAt wsL_keptAt) := goodIn_app (goodIn_of _ (by decide +kernel)) ggL_isBasketSo_L_keptAt
set_option maxRecDepth 20000 in
theorem ggL_isBasketSo_X4_byLeast : GoodIn wsL_isBasketSo wsX4_byLeast := goodIn_ca (goodIn_r _ [70, 9, 11, 12, 13, 7, 14, 15, 16, 17, 18, 19, 20, 21, 22, 23, 24, 25, 26, 27, 28, 29, 30, 31, 32, 33, 34, 35, 36, 37, 38, 39, 40, 41, 42, 43, 44, 45, 71, 72, 73, 74, 75, 191, 192, 193, 194, 195, 196, 197, 198, 199, 200, 204, 205, 206, 201, 202, 203] (by decide +kernel) (by decide +kernel)) (goodIn_sub (fun _ h => List.mem_cons_of_mem _ (List.mem_append_left _ (List.mem_append_right _ h))) (by decide +kernel))
set_option maxRecDepth 20000 in
theorem gL_isBasketSo_X4_byLeast : GoodIn wsL_isBasketSo (wsV RL 63 RX4 yX4_byLeast wsX4_byLeast) := goodIn_app (goodIn_of _ (by decide +kernel)) ggL_isBasketSo_X4_byLeast
set_option maxRecDepth 20000 in
theorem ggL_isBasketSo_X4_register : GoodIn wsL_isBasketSo wsX4_register := goodIn_ca (goodIn_r _ [79, 15, 16, 80, 81, 11, 12, 13, 7, 14, 17, 82, 83, 84, 85, 86, 87, 88, 89, 90, 91, 92, 93, 94, 44, 45, 30, 31, 32, 33, 34, 35, 36, 37, 95, 96, 97, 98, 99, 100, 51, 191, 192, 193, 194, 195, 196, 197, 198, 199, 200, 207, 204, 205, 206] (by decide +kernel) (by decide +kernel)) (goodIn_sub (fun _ h => List.mem_cons_of_mem _ (List.mem_append_left _ (List.mem_append_right _ h))) (by decide +kernel))
set_option maxRecDepth 20000 in
theorem gL_isBasketSo_X4_register : GoodIn wsL_isBasketSo (wsV RL 88 RX4 yX4_register wsX4_register) := goodIn_app (goodIn_of _ (by decide +kernel)) ggL_isBasketSo_X4_register
set_option maxRecDepth 20000 in
theorem ggL_isBasketSo_X4_byRegisters : GoodIn wsL_isBasketSo wsX4_byRegisters := goodIn_ca (goodIn_r _ [104, 80, 11, 12, 13, 7, 14, 15, 16, 17, 82, 83, 84, 85, 86, 87, 88, 89, 90, 91, 92, 93, 94, 44, 45, 30, 31, 32, 33, 34, 35, 36, 37, 95, 96, 97, 98, 99, 100, 105, 106, 107, 108, 109, 110, 111, 112, 191, 192, 193, 194, 195, 196, 197, 198, 199, 200, 207, 204, 205, 206] (by decide +kernel) (by decide +kernel)) (goodIn_sub (fun _ h => List.mem_cons_of_mem _ (List.mem_append_left _ (List.mem_append_right _ h))) (by decide +kernel))
set_option maxRecDepth 20000 in
theorem gL_isBasketSo_X4_byRegisters : GoodIn wsL_isBasketSo (wsV RL 66 RX4 yX4_byRegisters wsX4_byRegisters) := goodIn_app (goodIn_of _ (by decide +kernel)) ggL_isBasketSo_X4_byRegisters
set_option maxRecDepth 20000 in
theorem ggL_isBasketSo_X4_level : GoodIn wsL_isBasketSo wsX4_level := goodIn_ca (goodIn_r _ [116, 117, 118, 11, 12, 13, 7, 14, 15, 16, 17, 119, 120, 121, 122, 123, 124, 125, 126, 127, 128, 129, 130, 131, 44, 45, 30, 31, 32, 33, 34, 35, 36, 37, 132, 133, 134, 135, 99, 100, 136, 137, 138, 139, 140, 191, 192, 193, 194, 195, 196, 197, 198, 199, 200, 208, 209, 210, 204, 205, 206] (by decide +kernel) (by decide +kernel)) (goodIn_sub (fun _ h => List.mem_cons_of_mem _ (List.mem_append_left _ (List.mem_append_right _ h))) (by decide +kernel))
set_option maxRecDepth 20000 in
theorem gL_isBasketSo_X4_level : GoodIn wsL_isBasketSo (wsV RL 91 RX4 yX4_level wsX4_level) := goodIn_app (goodIn_of _ (by decide +kernel)) ggL_isBasketSo_X4_level
set_option maxRecDepth 20000 in
theorem ggL_isBasketSo_X4_sampled : GoodIn wsL_isBasketSo wsX4_sampled := goodIn_ca (goodIn_r _ [144, 117, 145, 11, 12, 13, 7, 14, 15, 16, 17, 119, 120, 121, 122, 123, 124, 125, 126, 127, 128, 129, 130, 131, 44, 45, 30, 31, 32, 33, 34, 35, 36, 37, 132, 133, 134, 135, 99, 100, 136, 137, 138, 139, 140, 191, 192, 193, 194, 195, 196, 197, 198, 199, 200, 208, 209, 210, 204, 205, 206] (by decide +kernel) (by decide +kernel)) (goodIn_sub (fun _ h => List.mem_cons_of_mem _ (List.mem_append_left _ (List.mem_append_right _ h))) (by decide +kernel))
set_option maxRecDepth 20000 in
theorem gL_isBasketSo_X4_sampled : GoodIn wsL_isBasketSo (wsV RL 94 RX4 yX4_sampled wsX4_sampled) := goodIn_app (goodIn_of _ (by decide +kernel)) ggL_isBasketSo_X4_sampled
set_option maxRecDepth 20000 in
theorem ggL_isBasketSo_X4_sampledAt : GoodIn wsL_isBasketSo wsX4_sampledAt := goodIn_ca (goodIn_r _ [149, 15, 16, 117, 145, 11, 12, 13, 7, 14, 17, 119, 120, 121, 122, 123, 124, 125, 126, 127, 128, 129, 130, 131, 44, 45, 30, 31, 32, 33, 34, 35, 36, 37, 132, 133, 134, 135, 99, 100, 136, 137, 138, 139, 140, 150, 151, 152, 153, 191, 192, 193, 194, 195, 196, 197, 198, 199, 200, 208, 209, 210, 204, 205, 206] (by decide +kernel) (by decide +kernel)) (goodIn_sub (fun _ h => List.mem_cons_of_mem _ (List.mem_append_left _ (List.mem_append_right _ h))) (by decide +kernel))
set_option maxRecDepth 20000 in
theorem gL_isBasketSo_X4_sampledAt : GoodIn wsL_isBasketSo (wsV RL 97 RX4 yX4_sampledAt wsX4_sampledAt) := goodIn_app (goodIn_of _ (by decide +kernel)) ggL_isBasketSo_X4_sampledAt
set_option maxRecDepth 20000 in
theorem ggL_isBasketSo_X4_hash : GoodIn wsL_isBasketSo wsX4_hash := goodIn_ca (goodIn_r _ [157, 158, 159, 7, 160, 161, 162, 163, 164, 165, 166, 167, 32, 33, 34, 35, 36, 37] (by decide +kernel) (by decide +kernel)) (goodIn_sub (fun _ h => List.mem_cons_of_mem _ (List.mem_append_right _ h)) (by decide +kernel))
set_option maxRecDepth 20000 in
theorem gL_isBasketSo_X4_hash : GoodIn wsL_isBasketSo (wsV RL 100 RX4 yX4_hash wsX4_hash) := goodIn_app (goodIn_of _ (by decide +kernel)) ggL_isBasketSo_X4_hash
set_option maxRecDepth 20000 in
theorem ggL_isBasketSo_X4_dateOf : GoodIn wsL_isBasketSo wsX4_dateOf := goodIn_ca (goodIn_ca (goodIn_r _ [171, 11, 12, 13, 7, 14, 15, 16, 17, 158, 159, 160, 161, 162, 163, 164, 165, 166, 172, 173, 174, 175, 176, 177, 178, 179, 180, 30, 31, 191, 192, 193, 194, 195, 196, 197, 198, 199, 200, 204, 205, 206] (by decide +kernel) (by decide +kernel)) (goodIn_sub (fun _ h => List.mem_cons_of_mem _ (List.mem_append_left _ (List.mem_append_right _ h))) (by decide +kernel))) (goodIn_sub (fun _ h => List.mem_cons_of_mem _ (List.mem_append_right _ h)) (by decide +kernel))
set_option maxRecDepth 20000 in
theorem gL_isBasketSo_X4_dateOf : GoodIn wsL_isBasketSo (wsV RL 103 RX4 yX4_dateOf wsX4_dateOf) := goodIn_app (goodIn_of _ (by decide +kernel)) ggL_isBasketSo_X4_dateOf
set_option maxRecDepth 20000 in
theorem ggL_isBasketSo_X4_bySample : GoodIn wsL_isBasketSo wsX4_bySample := goodIn_ca (goodIn_r _ [184, 117, 145, 118, 11, 12, 13, 7, 14, 15, 16, 17, 119, 120, 121, 122, 123, 124, 125, 126, 127, 128, 129, 130, 131, 44, 45, 30, 31, 32, 33, 34, 35, 36, 37, 132, 133, 134, 135, 99, 100, 136, 137, 138, 139, 140, 191, 192, 193, 194, 195, 196, 197, 198, 199, 200, 208, 209, 210, 204, 205, 206] (by decide +kernel) (by decide +kernel)) (goodIn_sub (fun _ h => List.mem_cons_of_mem _ (List.mem_append_left _ (List.mem_append_right _ h))) (by decide +kernel))
set_option maxRecDepth 20000 in
theorem gL_isBasketSo_X4_bySample : GoodIn wsL_isBasketSo (wsV RL 70 RX4 yX4_bySample wsX4_bySample) := goodIn_app (goodIn_of _ (by decide +kernel)) ggL_isBasketSo_X4_bySample
set_option maxRecDepth 20000 in
theorem ggL_isBasketSo_X4_recent : GoodIn wsL_isBasketSo wsX4_recent := goodIn_ca (goodIn_ca (goodIn_r _ [188, 161, 80, 189, 11, 12, 13, 7, 14, 15, 16, 17, 162, 163, 164, 165, 166, 190, 88, 89, 85, 90, 91, 92, 93, 94, 44, 45, 30, 31, 32, 33, 34, 35, 36, 37, 95, 96, 97, 98, 99, 100, 105, 106, 107, 108, 109, 110, 111, 112, 191, 192, 193, 194, 195, 196, 197, 198, 199, 200, 207, 204, 205, 206] (by decide +kernel) (by decide +kernel)) (goodIn_sub (fun _ h => List.mem_cons_of_mem _ (List.mem_append_left _ (List.mem_append_right _ h))) (by decide +kernel))) (goodIn_sub (fun _ h => List.mem_cons_of_mem _ (List.mem_append_right _ h)) (by decide +kernel))
set_option maxRecDepth 20000 in
theorem gL_isBasketSo_X4_recent : GoodIn wsL_isBasketSo (wsV RL 73 RX4 yX4_recent wsX4_recent) := goodIn_app (goodIn_of _ (by decide +kernel)) ggL_isBasketSo_X4_recent
theorem dL_isBasketSo_0 : decode cL_isBasketSo 0 = .ok (.iconst (-1), 1) := by decide +kernel
theorem dL_isBasketSo_1 : decode cL_isBasketSo 1 = .ok (.istore_n 2, 1) := by decide +kernel
theorem dL_isBasketSo_2 : decode cL_isBasketSo 2 = .ok (.aload_n 0, 1) := by decide +kernel
theorem dL_isBasketSo_3 : decode cL_isBasketSo 3 = .ok (.iload_n 1, 1) := by decide +kernel
theorem dL_isBasketSo_4 : decode cL_isBasketSo 4 = .ok (.invokevirtual 77, 3) := by decide +kernel
theorem dL_isBasketSo_7 : decode cL_isBasketSo 7 = .ok (.istore_n 3, 1) := by decide +kernel
theorem dL_isBasketSo_8 : decode cL_isBasketSo 8 = .ok (.iconst 0, 1) := by decide +kernel
theorem dL_isBasketSo_9 : decode cL_isBasketSo 9 = .ok (.istore 4, 2) := by decide +kernel
theorem dL_isBasketSo_11 : decode cL_isBasketSo 11 = .ok (.iload 4, 2) := by decide +kernel
theorem dL_isBasketSo_13 : decode cL_isBasketSo 13 = .ok (.iload_n 3, 1) := by decide +kernel
theorem dL_isBasketSo_14 : decode cL_isBasketSo 14 = .ok (.if_icmp .ge 36, 3) := by decide +kernel
theorem dL_isBasketSo_17 : decode cL_isBasketSo 17 = .ok (.aload_n 0, 1) := by decide +kernel
theorem dL_isBasketSo_18 : decode cL_isBasketSo 18 = .ok (.iload_n 1, 1) := by decide +kernel
theorem dL_isBasketSo_19 : decode cL_isBasketSo 19 = .ok (.iload 4, 2) := by decide +kernel
theorem dL_isBasketSo_21 : decode cL_isBasketSo 21 = .ok (.invokevirtual 34, 3) := by decide +kernel
theorem dL_isBasketSo_24 : decode cL_isBasketSo 24 = .ok (.istore 5, 2) := by decide +kernel
theorem dL_isBasketSo_26 : decode cL_isBasketSo 26 = .ok (.iload 5, 2) := by decide +kernel
theorem dL_isBasketSo_28 : decode cL_isBasketSo 28 = .ok (.iload_n 2, 1) := by decide +kernel
theorem dL_isBasketSo_29 : decode cL_isBasketSo 29 = .ok (.if_icmp .le 10, 3) := by decide +kernel
theorem dL_isBasketSo_32 : decode cL_isBasketSo 32 = .ok (.iload 5, 2) := by decide +kernel
theorem dL_isBasketSo_34 : decode cL_isBasketSo 34 = .ok (.ldc 80, 2) := by decide +kernel
theorem dL_isBasketSo_36 : decode cL_isBasketSo 36 = .ok (.if_icmp .lt 5, 3) := by decide +kernel
theorem dL_isBasketSo_39 : decode cL_isBasketSo 39 = .ok (.iconst 0, 1) := by decide +kernel
theorem dL_isBasketSo_40 : decode cL_isBasketSo 40 = .ok (.ireturn, 1) := by decide +kernel
theorem dL_isBasketSo_41 : decode cL_isBasketSo 41 = .ok (.iload 5, 2) := by decide +kernel
theorem dL_isBasketSo_43 : decode cL_isBasketSo 43 = .ok (.istore_n 2, 1) := by decide +kernel
theorem dL_isBasketSo_44 : decode cL_isBasketSo 44 = .ok (.iinc 4 1, 3) := by decide +kernel
theorem dL_isBasketSo_47 : decode cL_isBasketSo 47 = .ok (.goto (-36), 3) := by decide +kernel
theorem dL_isBasketSo_50 : decode cL_isBasketSo 50 = .ok (.aload_n 0, 1) := by decide +kernel
theorem dL_isBasketSo_51 : decode cL_isBasketSo 51 = .ok (.invokevirtual 81, 3) := by decide +kernel
theorem dL_isBasketSo_54 : decode cL_isBasketSo 54 = .ok (.istore 4, 2) := by decide +kernel
theorem dL_isBasketSo_56 : decode cL_isBasketSo 56 = .ok (.aload_n 0, 1) := by decide +kernel
theorem dL_isBasketSo_57 : decode cL_isBasketSo 57 = .ok (.iload_n 1, 1) := by decide +kernel
theorem dL_isBasketSo_58 : decode cL_isBasketSo 58 = .ok (.invokevirtual 60, 3) := by decide +kernel
theorem dL_isBasketSo_61 : decode cL_isBasketSo 61 = .ok (.istore 5, 2) := by decide +kernel
theorem dL_isBasketSo_63 : decode cL_isBasketSo 63 = .ok (.aload_n 0, 1) := by decide +kernel
theorem dL_isBasketSo_64 : decode cL_isBasketSo 64 = .ok (.iload_n 1, 1) := by decide +kernel
theorem dL_isBasketSo_65 : decode cL_isBasketSo 65 = .ok (.iload_n 3, 1) := by decide +kernel
theorem dL_isBasketSo_66 : decode cL_isBasketSo 66 = .ok (.invokestatic 84, 3) := by decide +kernel
theorem dL_isBasketSo_69 : decode cL_isBasketSo 69 = .ok (.iconst (-1), 1) := by decide +kernel
theorem dL_isBasketSo_70 : decode cL_isBasketSo 70 = .ok (.if_icmp .ne 84, 3) := by decide +kernel
theorem dL_isBasketSo_73 : decode cL_isBasketSo 73 = .ok (.iload_n 3, 1) := by decide +kernel
theorem dL_isBasketSo_74 : decode cL_isBasketSo 74 = .ok (.iload 4, 2) := by decide +kernel
theorem dL_isBasketSo_76 : decode cL_isBasketSo 76 = .ok (.if_icmp .gt 78, 3) := by decide +kernel
theorem dL_isBasketSo_79 : decode cL_isBasketSo 79 = .ok (.iload_n 3, 1) := by decide +kernel
theorem dL_isBasketSo_80 : decode cL_isBasketSo 80 = .ok (.iload 5, 2) := by decide +kernel
theorem dL_isBasketSo_82 : decode cL_isBasketSo 82 = .ok (.if_icmp .gt 72, 3) := by decide +kernel
theorem dL_isBasketSo_85 : decode cL_isBasketSo 85 = .ok (.iload_n 3, 1) := by decide +kernel
theorem dL_isBasketSo_86 : decode cL_isBasketSo 86 = .ok (.iload 4, 2) := by decide +kernel
theorem dL_isBasketSo_88 : decode cL_isBasketSo 88 = .ok (.if_icmp .eq 12, 3) := by decide +kernel
theorem dL_isBasketSo_91 : decode cL_isBasketSo 91 = .ok (.aload_n 0, 1) := by decide +kernel
theorem dL_isBasketSo_92 : decode cL_isBasketSo 92 = .ok (.iload_n 1, 1) := by decide +kernel
theorem dL_isBasketSo_93 : decode cL_isBasketSo 93 = .ok (.invokevirtual 63, 3) := by decide +kernel
theorem dL_isBasketSo_96 : decode cL_isBasketSo 96 = .ok (.iload_n 3, 1) := by decide +kernel
theorem dL_isBasketSo_97 : decode cL_isBasketSo 97 = .ok (.if_icmp .ne 57, 3) := by decide +kernel
theorem dL_isBasketSo_100 : decode cL_isBasketSo 100 = .ok (.iload_n 3, 1) := by decide +kernel
theorem dL_isBasketSo_101 : decode cL_isBasketSo 101 = .ok (.iload 4, 2) := by decide +kernel
theorem dL_isBasketSo_103 : decode cL_isBasketSo 103 = .ok (.if_icmp .lt 25, 3) := by decide +kernel
theorem dL_isBasketSo_106 : decode cL_isBasketSo 106 = .ok (.aload_n 0, 1) := by decide +kernel
theorem dL_isBasketSo_107 : decode cL_isBasketSo 107 = .ok (.iload_n 1, 1) := by decide +kernel
theorem dL_isBasketSo_108 : decode cL_isBasketSo 108 = .ok (.invokevirtual 63, 3) := by decide +kernel
theorem dL_isBasketSo_111 : decode cL_isBasketSo 111 = .ok (.i2l, 1) := by decide +kernel
theorem dL_isBasketSo_112 : decode cL_isBasketSo 112 = .ok (.iload 4, 2) := by decide +kernel
theorem dL_isBasketSo_114 : decode cL_isBasketSo 114 = .ok (.i2l, 1) := by decide +kernel
theorem dL_isBasketSo_115 : decode cL_isBasketSo 115 = .ok (.lconst 1, 1) := by decide +kernel
theorem dL_isBasketSo_116 : decode cL_isBasketSo 116 = .ok (.lsub, 1) := by decide +kernel
theorem dL_isBasketSo_117 : decode cL_isBasketSo 117 = .ok (.ldc2_w 86, 3) := by decide +kernel
theorem dL_isBasketSo_120 : decode cL_isBasketSo 120 = .ok (.lmul, 1) := by decide +kernel
theorem dL_isBasketSo_121 : decode cL_isBasketSo 121 = .ok (.iload_n 2, 1) := by decide +kernel
theorem dL_isBasketSo_122 : decode cL_isBasketSo 122 = .ok (.i2l, 1) := by decide +kernel
theorem dL_isBasketSo_123 : decode cL_isBasketSo 123 = .ok (.ldiv, 1) := by decide +kernel
theorem dL_isBasketSo_124 : decode cL_isBasketSo 124 = .ok (.lcmp, 1) := by decide +kernel
theorem dL_isBasketSo_125 : decode cL_isBasketSo 125 = .ok (.ifCond .ne 29, 3) := by decide +kernel
theorem dL_isBasketSo_128 : decode cL_isBasketSo 128 = .ok (.iload 5, 2) := by decide +kernel
theorem dL_isBasketSo_130 : decode cL_isBasketSo 130 = .ok (.ifCond .ne 7, 3) := by decide +kernel
theorem dL_isBasketSo_133 : decode cL_isBasketSo 133 = .ok (.iconst 1, 1) := by decide +kernel
theorem dL_isBasketSo_134 : decode cL_isBasketSo 134 = .ok (.goto 4, 3) := by decide +kernel
theorem dL_isBasketSo_137 : decode cL_isBasketSo 137 = .ok (.iconst 0, 1) := by decide +kernel
theorem dL_isBasketSo_138 : decode cL_isBasketSo 138 = .ok (.iload_n 3, 1) := by decide +kernel
theorem dL_isBasketSo_139 : decode cL_isBasketSo 139 = .ok (.ifCond .ne 7, 3) := by decide +kernel
theorem dL_isBasketSo_142 : decode cL_isBasketSo 142 = .ok (.iconst 1, 1) := by decide +kernel
theorem dL_isBasketSo_143 : decode cL_isBasketSo 143 = .ok (.goto 4, 3) := by decide +kernel
theorem dL_isBasketSo_146 : decode cL_isBasketSo 146 = .ok (.iconst 0, 1) := by decide +kernel
theorem dL_isBasketSo_147 : decode cL_isBasketSo 147 = .ok (.if_icmp .ne 7, 3) := by decide +kernel
theorem dL_isBasketSo_150 : decode cL_isBasketSo 150 = .ok (.iconst 1, 1) := by decide +kernel
theorem dL_isBasketSo_151 : decode cL_isBasketSo 151 = .ok (.goto 4, 3) := by decide +kernel
theorem dL_isBasketSo_154 : decode cL_isBasketSo 154 = .ok (.iconst 0, 1) := by decide +kernel
theorem dL_isBasketSo_155 : decode cL_isBasketSo 155 = .ok (.istore 6, 2) := by decide +kernel
theorem dL_isBasketSo_157 : decode cL_isBasketSo 157 = .ok (.iconst 0, 1) := by decide +kernel
theorem dL_isBasketSo_158 : decode cL_isBasketSo 158 = .ok (.istore 7, 2) := by decide +kernel
theorem dL_isBasketSo_160 : decode cL_isBasketSo 160 = .ok (.iconst 0, 1) := by decide +kernel
theorem dL_isBasketSo_161 : decode cL_isBasketSo 161 = .ok (.istore 8, 2) := by decide +kernel
theorem dL_isBasketSo_163 : decode cL_isBasketSo 163 = .ok (.iload 8, 2) := by decide +kernel
theorem dL_isBasketSo_165 : decode cL_isBasketSo 165 = .ok (.bipush 16, 2) := by decide +kernel
theorem dL_isBasketSo_167 : decode cL_isBasketSo 167 = .ok (.if_icmp .ge 57, 3) := by decide +kernel
theorem dL_isBasketSo_170 : decode cL_isBasketSo 170 = .ok (.aload_n 0, 1) := by decide +kernel
theorem dL_isBasketSo_171 : decode cL_isBasketSo 171 = .ok (.iload_n 1, 1) := by decide +kernel
theorem dL_isBasketSo_172 : decode cL_isBasketSo 172 = .ok (.iload 8, 2) := by decide +kernel
theorem dL_isBasketSo_174 : decode cL_isBasketSo 174 = .ok (.invokevirtual 88, 3) := by decide +kernel
theorem dL_isBasketSo_177 : decode cL_isBasketSo 177 = .ok (.istore 9, 2) := by decide +kernel
theorem dL_isBasketSo_179 : decode cL_isBasketSo 179 = .ok (.iload 7, 2) := by decide +kernel
theorem dL_isBasketSo_181 : decode cL_isBasketSo 181 = .ok (.iload 9, 2) := by decide +kernel
theorem dL_isBasketSo_183 : decode cL_isBasketSo 183 = .ok (.ifCond .ne 7, 3) := by decide +kernel
theorem dL_isBasketSo_186 : decode cL_isBasketSo 186 = .ok (.iconst 1, 1) := by decide +kernel
theorem dL_isBasketSo_187 : decode cL_isBasketSo 187 = .ok (.goto 4, 3) := by decide +kernel
theorem dL_isBasketSo_190 : decode cL_isBasketSo 190 = .ok (.iconst 0, 1) := by decide +kernel
theorem dL_isBasketSo_191 : decode cL_isBasketSo 191 = .ok (.iadd, 1) := by decide +kernel
theorem dL_isBasketSo_192 : decode cL_isBasketSo 192 = .ok (.istore 7, 2) := by decide +kernel
theorem dL_isBasketSo_194 : decode cL_isBasketSo 194 = .ok (.iload 6, 2) := by decide +kernel
theorem dL_isBasketSo_196 : decode cL_isBasketSo 196 = .ok (.ifCond .eq 19, 3) := by decide +kernel
theorem dL_isBasketSo_199 : decode cL_isBasketSo 199 = .ok (.iload 9, 2) := by decide +kernel
theorem dL_isBasketSo_201 : decode cL_isBasketSo 201 = .ok (.ifCond .lt 14, 3) := by decide +kernel
theorem dL_isBasketSo_204 : decode cL_isBasketSo 204 = .ok (.iload 9, 2) := by decide +kernel
theorem dL_isBasketSo_206 : decode cL_isBasketSo 206 = .ok (.bipush 21, 2) := by decide +kernel
theorem dL_isBasketSo_208 : decode cL_isBasketSo 208 = .ok (.if_icmp .gt 7, 3) := by decide +kernel
theorem dL_isBasketSo_211 : decode cL_isBasketSo 211 = .ok (.iconst 1, 1) := by decide +kernel
theorem dL_isBasketSo_212 : decode cL_isBasketSo 212 = .ok (.goto 4, 3) := by decide +kernel
theorem dL_isBasketSo_215 : decode cL_isBasketSo 215 = .ok (.iconst 0, 1) := by decide +kernel
theorem dL_isBasketSo_216 : decode cL_isBasketSo 216 = .ok (.istore 6, 2) := by decide +kernel
theorem dL_isBasketSo_218 : decode cL_isBasketSo 218 = .ok (.iinc 8 1, 3) := by decide +kernel
theorem dL_isBasketSo_221 : decode cL_isBasketSo 221 = .ok (.goto (-58), 3) := by decide +kernel
theorem dL_isBasketSo_224 : decode cL_isBasketSo 224 = .ok (.iload 6, 2) := by decide +kernel
theorem dL_isBasketSo_226 : decode cL_isBasketSo 226 = .ok (.ifCond .eq 59, 3) := by decide +kernel
theorem dL_isBasketSo_229 : decode cL_isBasketSo 229 = .ok (.iload 7, 2) := by decide +kernel
theorem dL_isBasketSo_231 : decode cL_isBasketSo 231 = .ok (.bipush 16, 2) := by decide +kernel
theorem dL_isBasketSo_233 : decode cL_isBasketSo 233 = .ok (.if_icmp .ne 7, 3) := by decide +kernel
theorem dL_isBasketSo_236 : decode cL_isBasketSo 236 = .ok (.iconst 1, 1) := by decide +kernel
theorem dL_isBasketSo_237 : decode cL_isBasketSo 237 = .ok (.goto 4, 3) := by decide +kernel
theorem dL_isBasketSo_240 : decode cL_isBasketSo 240 = .ok (.iconst 0, 1) := by decide +kernel
theorem dL_isBasketSo_241 : decode cL_isBasketSo 241 = .ok (.iload 5, 2) := by decide +kernel
theorem dL_isBasketSo_243 : decode cL_isBasketSo 243 = .ok (.ifCond .ne 7, 3) := by decide +kernel
theorem dL_isBasketSo_246 : decode cL_isBasketSo 246 = .ok (.iconst 1, 1) := by decide +kernel
theorem dL_isBasketSo_247 : decode cL_isBasketSo 247 = .ok (.goto 4, 3) := by decide +kernel
theorem dL_isBasketSo_250 : decode cL_isBasketSo 250 = .ok (.iconst 0, 1) := by decide +kernel
theorem dL_isBasketSo_251 : decode cL_isBasketSo 251 = .ok (.if_icmp .ne 34, 3) := by decide +kernel
theorem dL_isBasketSo_254 : decode cL_isBasketSo 254 = .ok (.iload 7, 2) := by decide +kernel
theorem dL_isBasketSo_256 : decode cL_isBasketSo 256 = .ok (.bipush 16, 2) := by decide +kernel
theorem dL_isBasketSo_258 : decode cL_isBasketSo 258 = .ok (.if_icmp .ne 13, 3) := by decide +kernel
theorem dL_isBasketSo_261 : decode cL_isBasketSo 261 = .ok (.aload_n 0, 1) := by decide +kernel
theorem dL_isBasketSo_262 : decode cL_isBasketSo 262 = .ok (.iload_n 1, 1) := by decide +kernel
theorem dL_isBasketSo_263 : decode cL_isBasketSo 263 = .ok (.invokevirtual 66, 3) := by decide +kernel
theorem dL_isBasketSo_266 : decode cL_isBasketSo 266 = .ok (.lconst 0, 1) := by decide +kernel
theorem dL_isBasketSo_267 : decode cL_isBasketSo 267 = .ok (.lcmp, 1) := by decide +kernel
theorem dL_isBasketSo_268 : decode cL_isBasketSo 268 = .ok (.ifCond .ne 17, 3) := by decide +kernel
theorem dL_isBasketSo_271 : decode cL_isBasketSo 271 = .ok (.bipush 16, 2) := by decide +kernel
theorem dL_isBasketSo_273 : decode cL_isBasketSo 273 = .ok (.iload 7, 2) := by decide +kernel
theorem dL_isBasketSo_275 : decode cL_isBasketSo 275 = .ok (.isub, 1) := by decide +kernel
theorem dL_isBasketSo_276 : decode cL_isBasketSo 276 = .ok (.iload 5, 2) := by decide +kernel
theorem dL_isBasketSo_278 : decode cL_isBasketSo 278 = .ok (.if_icmp .gt 7, 3) := by decide +kernel
theorem dL_isBasketSo_281 : decode cL_isBasketSo 281 = .ok (.iconst 1, 1) := by decide +kernel
theorem dL_isBasketSo_282 : decode cL_isBasketSo 282 = .ok (.goto 4, 3) := by decide +kernel
theorem dL_isBasketSo_285 : decode cL_isBasketSo 285 = .ok (.iconst 0, 1) := by decide +kernel
theorem dL_isBasketSo_286 : decode cL_isBasketSo 286 = .ok (.istore 6, 2) := by decide +kernel
theorem dL_isBasketSo_288 : decode cL_isBasketSo 288 = .ok (.iconst (-1), 1) := by decide +kernel
theorem dL_isBasketSo_289 : decode cL_isBasketSo 289 = .ok (.istore 8, 2) := by decide +kernel
theorem dL_isBasketSo_291 : decode cL_isBasketSo 291 = .ok (.aload_n 0, 1) := by decide +kernel
theorem dL_isBasketSo_292 : decode cL_isBasketSo 292 = .ok (.iload_n 1, 1) := by decide +kernel
theorem dL_isBasketSo_293 : decode cL_isBasketSo 293 = .ok (.invokevirtual 91, 3) := by decide +kernel
theorem dL_isBasketSo_296 : decode cL_isBasketSo 296 = .ok (.istore 9, 2) := by decide +kernel
theorem dL_isBasketSo_298 : decode cL_isBasketSo 298 = .ok (.aload_n 0, 1) := by decide +kernel
theorem dL_isBasketSo_299 : decode cL_isBasketSo 299 = .ok (.iload_n 1, 1) := by decide +kernel
theorem dL_isBasketSo_300 : decode cL_isBasketSo 300 = .ok (.invokevirtual 94, 3) := by decide +kernel
theorem dL_isBasketSo_303 : decode cL_isBasketSo 303 = .ok (.istore 10, 2) := by decide +kernel
theorem dL_isBasketSo_305 : decode cL_isBasketSo 305 = .ok (.iconst 0, 1) := by decide +kernel
theorem dL_isBasketSo_306 : decode cL_isBasketSo 306 = .ok (.istore 11, 2) := by decide +kernel
theorem dL_isBasketSo_308 : decode cL_isBasketSo 308 = .ok (.iload 11, 2) := by decide +kernel
theorem dL_isBasketSo_310 : decode cL_isBasketSo 310 = .ok (.iload 10, 2) := by decide +kernel
theorem dL_isBasketSo_312 : decode cL_isBasketSo 312 = .ok (.if_icmp .ge 65, 3) := by decide +kernel
theorem dL_isBasketSo_315 : decode cL_isBasketSo 315 = .ok (.iload 6, 2) := by decide +kernel
theorem dL_isBasketSo_317 : decode cL_isBasketSo 317 = .ok (.ifCond .eq 60, 3) := by decide +kernel
theorem dL_isBasketSo_320 : decode cL_isBasketSo 320 = .ok (.aload_n 0, 1) := by decide +kernel
theorem dL_isBasketSo_321 : decode cL_isBasketSo 321 = .ok (.iload_n 1, 1) := by decide +kernel
theorem dL_isBasketSo_322 : decode cL_isBasketSo 322 = .ok (.iload 11, 2) := by decide +kernel
theorem dL_isBasketSo_324 : decode cL_isBasketSo 324 = .ok (.invokevirtual 97, 3) := by decide +kernel
theorem dL_isBasketSo_327 : decode cL_isBasketSo 327 = .ok (.istore 12, 2) := by decide +kernel
theorem dL_isBasketSo_329 : decode cL_isBasketSo 329 = .ok (.iload 12, 2) := by decide +kernel
theorem dL_isBasketSo_331 : decode cL_isBasketSo 331 = .ok (.iload 8, 2) := by decide +kernel
theorem dL_isBasketSo_333 : decode cL_isBasketSo 333 = .ok (.if_icmp .le 31, 3) := by decide +kernel
theorem dL_isBasketSo_336 : decode cL_isBasketSo 336 = .ok (.aload_n 0, 1) := by decide +kernel
theorem dL_isBasketSo_337 : decode cL_isBasketSo 337 = .ok (.iload 12, 2) := by decide +kernel
theorem dL_isBasketSo_339 : decode cL_isBasketSo 339 = .ok (.invokevirtual 100, 3) := by decide +kernel
theorem dL_isBasketSo_342 : decode cL_isBasketSo 342 = .ok (.iconst 1, 1) := by decide +kernel
theorem dL_isBasketSo_343 : decode cL_isBasketSo 343 = .ok (.iload 9, 2) := by decide +kernel
theorem dL_isBasketSo_345 : decode cL_isBasketSo 345 = .ok (.ishl, 1) := by decide +kernel
theorem dL_isBasketSo_346 : decode cL_isBasketSo 346 = .ok (.irem, 1) := by decide +kernel
theorem dL_isBasketSo_347 : decode cL_isBasketSo 347 = .ok (.ifCond .ne 17, 3) := by decide +kernel
theorem dL_isBasketSo_350 : decode cL_isBasketSo 350 = .ok (.aload_n 0, 1) := by decide +kernel
theorem dL_isBasketSo_351 : decode cL_isBasketSo 351 = .ok (.iload_n 1, 1) := by decide +kernel
theorem dL_isBasketSo_352 : decode cL_isBasketSo 352 = .ok (.iload 12, 2) := by decide +kernel
theorem dL_isBasketSo_354 : decode cL_isBasketSo 354 = .ok (.invokevirtual 103, 3) := by decide +kernel
theorem dL_isBasketSo_357 : decode cL_isBasketSo 357 = .ok (.ifCond .lt 7, 3) := by decide +kernel
theorem dL_isBasketSo_360 : decode cL_isBasketSo 360 = .ok (.iconst 1, 1) := by decide +kernel
theorem dL_isBasketSo_361 : decode cL_isBasketSo 361 = .ok (.goto 4, 3) := by decide +kernel
theorem dL_isBasketSo_364 : decode cL_isBasketSo 364 = .ok (.iconst 0, 1) := by decide +kernel
theorem dL_isBasketSo_365 : decode cL_isBasketSo 365 = .ok (.istore 6, 2) := by decide +kernel
theorem dL_isBasketSo_367 : decode cL_isBasketSo 367 = .ok (.iload 12, 2) := by decide +kernel
theorem dL_isBasketSo_369 : decode cL_isBasketSo 369 = .ok (.istore 8, 2) := by decide +kernel
theorem dL_isBasketSo_371 : decode cL_isBasketSo 371 = .ok (.iinc 11 1, 3) := by decide +kernel
theorem dL_isBasketSo_374 : decode cL_isBasketSo 374 = .ok (.goto (-66), 3) := by decide +kernel
theorem dL_isBasketSo_377 : decode cL_isBasketSo 377 = .ok (.iload 6, 2) := by decide +kernel
theorem dL_isBasketSo_379 : decode cL_isBasketSo 379 = .ok (.ifCond .eq 55, 3) := by decide +kernel
theorem dL_isBasketSo_382 : decode cL_isBasketSo 382 = .ok (.iload 10, 2) := by decide +kernel
theorem dL_isBasketSo_384 : decode cL_isBasketSo 384 = .ok (.bipush 16, 2) := by decide +kernel
theorem dL_isBasketSo_386 : decode cL_isBasketSo 386 = .ok (.if_icmp .gt 48, 3) := by decide +kernel
theorem dL_isBasketSo_389 : decode cL_isBasketSo 389 = .ok (.aload_n 0, 1) := by decide +kernel
theorem dL_isBasketSo_390 : decode cL_isBasketSo 390 = .ok (.iload_n 1, 1) := by decide +kernel
theorem dL_isBasketSo_391 : decode cL_isBasketSo 391 = .ok (.invokevirtual 70, 3) := by decide +kernel
theorem dL_isBasketSo_394 : decode cL_isBasketSo 394 = .ok (.iload 10, 2) := by decide +kernel
theorem dL_isBasketSo_396 : decode cL_isBasketSo 396 = .ok (.iload 9, 2) := by decide +kernel
theorem dL_isBasketSo_398 : decode cL_isBasketSo 398 = .ok (.ishl, 1) := by decide +kernel
theorem dL_isBasketSo_399 : decode cL_isBasketSo 399 = .ok (.if_icmp .ne 35, 3) := by decide +kernel
theorem dL_isBasketSo_402 : decode cL_isBasketSo 402 = .ok (.iload 9, 2) := by decide +kernel
theorem dL_isBasketSo_404 : decode cL_isBasketSo 404 = .ok (.ifCond .gt 10, 3) := by decide +kernel
theorem dL_isBasketSo_407 : decode cL_isBasketSo 407 = .ok (.iload 10, 2) := by decide +kernel
theorem dL_isBasketSo_409 : decode cL_isBasketSo 409 = .ok (.iload 5, 2) := by decide +kernel
theorem dL_isBasketSo_411 : decode cL_isBasketSo 411 = .ok (.if_icmp .ne 23, 3) := by decide +kernel
theorem dL_isBasketSo_414 : decode cL_isBasketSo 414 = .ok (.aload_n 0, 1) := by decide +kernel
theorem dL_isBasketSo_415 : decode cL_isBasketSo 415 = .ok (.iload_n 1, 1) := by decide +kernel
theorem dL_isBasketSo_416 : decode cL_isBasketSo 416 = .ok (.ldc 106, 2) := by decide +kernel
theorem dL_isBasketSo_418 : decode cL_isBasketSo 418 = .ok (.invokevirtual 73, 3) := by decide +kernel
theorem dL_isBasketSo_421 : decode cL_isBasketSo 421 = .ok (.aload_n 0, 1) := by decide +kernel
theorem dL_isBasketSo_422 : decode cL_isBasketSo 422 = .ok (.iload_n 1, 1) := by decide +kernel
theorem dL_isBasketSo_423 : decode cL_isBasketSo 423 = .ok (.invokevirtual 66, 3) := by decide +kernel
theorem dL_isBasketSo_426 : decode cL_isBasketSo 426 = .ok (.lcmp, 1) := by decide +kernel
theorem dL_isBasketSo_427 : decode cL_isBasketSo 427 = .ok (.ifCond .ne 7, 3) := by decide +kernel
theorem dL_isBasketSo_430 : decode cL_isBasketSo 430 = .ok (.iconst 1, 1) := by decide +kernel
theorem dL_isBasketSo_431 : decode cL_isBasketSo 431 = .ok (.goto 4, 3) := by decide +kernel
theorem dL_isBasketSo_434 : decode cL_isBasketSo 434 = .ok (.iconst 0, 1) := by decide +kernel
theorem dL_isBasketSo_435 : decode cL_isBasketSo 435 = .ok (.ireturn, 1) := by decide +kernel
set_option maxRecDepth 20000 in
theorem ggL_arePairsSo_X4_together : GoodIn wsL_arePairsSo wsX4_together := goodIn_ca (goodIn_r _ [5, 6, 7, 8, 9, 4, 10, 11, 12, 13, 14, 15, 16, 17, 18, 19, 20, 21, 22, 23, 24, 25, 26, 27, 28, 29, 30, 31, 32, 33, 34, 35, 36, 37, 38, 39, 40, 41, 42, 43, 44, 45, 46, 47, 48, 49, 50, 51, 52, 53, 54, 55, 56, 57, 99, 100, 101, 102, 103, 104, 105, 106, 107, 108, 109, 110, 111, 112, 113, 114] (by decide +kernel) (by decide +kernel)) (goodIn_sub (fun _ h => List.mem_cons_of_mem _ (List.mem_append_right _ h)) (by decide +kernel))
set_option maxRecDepth 20000 in
theorem gL_arePairsSo_X4_together : GoodIn wsL_arePairsSo (wsV RL 107 RX4 yX4_together wsX4_together) := goodIn_app (goodIn_of _ (by decide +kernel)) ggL_arePairsSo_X4_together
set_option maxRecDepth 20000 in
theorem ggL_arePairsSo_X4_common : GoodIn wsL_arePairsSo wsX4_common := goodIn_ca (goodIn_r _ [61, 6, 62, 63, 18, 19, 7, 8, 9, 4, 10, 11, 12, 13, 14, 15, 16, 17, 20, 21, 22, 23, 24, 25, 26, 27, 28, 29, 30, 31, 32, 33, 34, 35, 36, 37, 38, 39, 40, 41, 42, 43, 44, 45, 46, 47, 48, 49, 50, 51, 52, 64, 65, 66, 67, 68, 69, 70, 71, 72, 73, 54, 55, 56, 57, 99, 100, 101, 102, 103, 104, 105, 106, 107, 108, 112, 113, 114, 109, 110, 111] (by decide +kernel) (by decide +kernel)) (goodIn_sub (fun _ h => List.mem_cons_of_mem _ (List.mem_append_right _ h)) (by decide +kernel))
set_option maxRecDepth 20000 in
theorem gL_arePairsSo_X4_common : GoodIn wsL_arePairsSo (wsV RL 110 RX4 yX4_common wsX4_common) := goodIn_app (goodIn_of _ (by decide +kernel)) ggL_arePairsSo_X4_common
set_option maxRecDepth 20000 in
theorem ggL_arePairsSo_X4_without : GoodIn wsL_arePairsSo wsX4_without := goodIn_ca (goodIn_r _ [77, 6, 62, 19, 63, 7, 8, 9, 4, 10, 11, 12, 13, 14, 15, 16, 17, 18, 20, 21, 22, 23, 24, 25, 26, 27, 28, 29, 30, 31, 32, 33, 34, 35, 36, 37, 38, 39, 40, 41, 42, 43, 44, 45, 46, 47, 48, 49, 50, 51, 52, 64, 65, 66, 67, 68, 69, 70, 71, 72, 73, 54, 55, 56, 57, 99, 100, 101, 102, 103, 104, 105, 106, 107, 108, 112, 113, 114, 109, 110, 111] (by decide +kernel) (by decide +kernel)) (goodIn_sub (fun _ h => List.mem_cons_of_mem _ (List.mem_append_right _ h)) (by decide +kernel))
set_option maxRecDepth 20000 in
theorem gL_arePairsSo_X4_without : GoodIn wsL_arePairsSo (wsV RL 113 RX4 yX4_without wsX4_without) := goodIn_app (goodIn_of _ (by decide +kernel)) ggL_arePairsSo_X4_without
set_option maxRecDepth 20000 in
theorem ggL_arePairsSo_X4_plainCommon : GoodIn wsL_arePairsSo wsX4_plainCommon := goodIn_ca (goodIn_r _ [81, 82, 83, 7, 8, 9, 4, 10, 11, 12, 13, 84, 85, 86, 87, 88, 89, 90, 32, 33, 109, 110, 111, 99, 100, 101, 102, 103, 104, 105, 106, 107, 108] (by decide +kernel) (by decide +kernel)) (goodIn_sub (fun _ h => List.mem_cons_of_mem _ (List.mem_append_right _ h)) (by decide +kernel))
set_option maxRecDepth 20000 in
theorem gL_arePairsSo_X4_plainCommon : GoodIn wsL_arePairsSo (wsV RL 116 RX4 yX4_plainCommon wsX4_plainCommon) := goodIn_app (goodIn_of _ (by decide +kernel)) ggL_arePairsSo_X4_plainCommon
set_option maxRecDepth 20000 in
theorem ggL_arePairsSo_X4_plain : GoodIn wsL_arePairsSo wsX4_plain := goodIn_ca (goodIn_r _ [94, 83, 7, 8, 9, 4, 10, 11, 12, 13, 109, 110, 111, 99, 100, 101, 102, 103, 104, 105, 106, 107, 108] (by decide +kernel) (by decide +kernel)) (goodIn_sub (fun _ h => List.mem_cons_of_mem _ (List.mem_append_right _ h)) (by decide +kernel))
set_option maxRecDepth 20000 in
theorem gL_arePairsSo_X4_plain : GoodIn wsL_arePairsSo (wsV RL 60 RX4 yX4_plain wsX4_plain) := goodIn_app (goodIn_of _ (by decide +kernel)) ggL_arePairsSo_X4_plain
set_option maxRecDepth 20000 in
theorem ggL_arePairsSo_X4_byLeast : GoodIn wsL_arePairsSo wsX4_byLeast := goodIn_ca (goodIn_r _ [98, 18, 7, 8, 9, 4, 10, 11, 12, 13, 20, 21, 22, 23, 24, 25, 26, 27, 28, 29, 30, 31, 32, 33, 34, 35, 36, 37, 38, 39, 40, 41, 42, 43, 44, 45, 46, 47, 53, 54, 55, 56, 57, 99, 100, 101, 102, 103, 104, 105, 106, 107, 108, 109, 110, 111, 112, 113, 114] (by decide +kernel) (by decide +kernel)) (goodIn_sub (fun _ h => List.mem_cons_of_mem _ (List.mem_append_right _ h)) (by decide +kernel))
set_option maxRecDepth 20000 in
theorem gL_arePairsSo_X4_byLeast : GoodIn wsL_arePairsSo (wsV RL 63 RX4 yX4_byLeast wsX4_byLeast) := goodIn_app (goodIn_of _ (by decide +kernel)) ggL_arePairsSo_X4_byLeast
theorem dL_arePairsSo_0 : decode cL_arePairsSo 0 = .ok (.aload_n 0, 1) := by decide +kernel
theorem dL_arePairsSo_1 : decode cL_arePairsSo 1 = .ok (.iload_n 1, 1) := by decide +kernel
theorem dL_arePairsSo_2 : decode cL_arePairsSo 2 = .ok (.iload_n 2, 1) := by decide +kernel
theorem dL_arePairsSo_3 : decode cL_arePairsSo 3 = .ok (.invokevirtual 107, 3) := by decide +kernel
theorem dL_arePairsSo_6 : decode cL_arePairsSo 6 = .ok (.istore_n 3, 1) := by decide +kernel
theorem dL_arePairsSo_7 : decode cL_arePairsSo 7 = .ok (.aload_n 0, 1) := by decide +kernel
theorem dL_arePairsSo_8 : decode cL_arePairsSo 8 = .ok (.iload_n 1, 1) := by decide +kernel
theorem dL_arePairsSo_9 : decode cL_arePairsSo 9 = .ok (.iload_n 2, 1) := by decide +kernel
theorem dL_arePairsSo_10 : decode cL_arePairsSo 10 = .ok (.invokevirtual 110, 3) := by decide +kernel
theorem dL_arePairsSo_13 : decode cL_arePairsSo 13 = .ok (.istore 4, 2) := by decide +kernel
theorem dL_arePairsSo_15 : decode cL_arePairsSo 15 = .ok (.aload_n 0, 1) := by decide +kernel
theorem dL_arePairsSo_16 : decode cL_arePairsSo 16 = .ok (.iload_n 2, 1) := by decide +kernel
theorem dL_arePairsSo_17 : decode cL_arePairsSo 17 = .ok (.iload_n 1, 1) := by decide +kernel
theorem dL_arePairsSo_18 : decode cL_arePairsSo 18 = .ok (.invokevirtual 107, 3) := by decide +kernel
theorem dL_arePairsSo_21 : decode cL_arePairsSo 21 = .ok (.iload_n 3, 1) := by decide +kernel
theorem dL_arePairsSo_22 : decode cL_arePairsSo 22 = .ok (.if_icmp .ne 63, 3) := by decide +kernel
theorem dL_arePairsSo_25 : decode cL_arePairsSo 25 = .ok (.aload_n 0, 1) := by decide +kernel
theorem dL_arePairsSo_26 : decode cL_arePairsSo 26 = .ok (.iload_n 2, 1) := by decide +kernel
theorem dL_arePairsSo_27 : decode cL_arePairsSo 27 = .ok (.iload_n 1, 1) := by decide +kernel
theorem dL_arePairsSo_28 : decode cL_arePairsSo 28 = .ok (.invokevirtual 110, 3) := by decide +kernel
theorem dL_arePairsSo_31 : decode cL_arePairsSo 31 = .ok (.iload 4, 2) := by decide +kernel
theorem dL_arePairsSo_33 : decode cL_arePairsSo 33 = .ok (.if_icmp .ne 52, 3) := by decide +kernel
theorem dL_arePairsSo_36 : decode cL_arePairsSo 36 = .ok (.iload 4, 2) := by decide +kernel
theorem dL_arePairsSo_38 : decode cL_arePairsSo 38 = .ok (.iload_n 3, 1) := by decide +kernel
theorem dL_arePairsSo_39 : decode cL_arePairsSo 39 = .ok (.if_icmp .gt 46, 3) := by decide +kernel
theorem dL_arePairsSo_42 : decode cL_arePairsSo 42 = .ok (.aload_n 0, 1) := by decide +kernel
theorem dL_arePairsSo_43 : decode cL_arePairsSo 43 = .ok (.iload_n 1, 1) := by decide +kernel
theorem dL_arePairsSo_44 : decode cL_arePairsSo 44 = .ok (.iload_n 2, 1) := by decide +kernel
theorem dL_arePairsSo_45 : decode cL_arePairsSo 45 = .ok (.invokevirtual 113, 3) := by decide +kernel
theorem dL_arePairsSo_48 : decode cL_arePairsSo 48 = .ok (.iload_n 3, 1) := by decide +kernel
theorem dL_arePairsSo_49 : decode cL_arePairsSo 49 = .ok (.if_icmp .gt 36, 3) := by decide +kernel
theorem dL_arePairsSo_52 : decode cL_arePairsSo 52 = .ok (.aload_n 0, 1) := by decide +kernel
theorem dL_arePairsSo_53 : decode cL_arePairsSo 53 = .ok (.iload_n 1, 1) := by decide +kernel
theorem dL_arePairsSo_54 : decode cL_arePairsSo 54 = .ok (.iload_n 2, 1) := by decide +kernel
theorem dL_arePairsSo_55 : decode cL_arePairsSo 55 = .ok (.invokevirtual 116, 3) := by decide +kernel
theorem dL_arePairsSo_58 : decode cL_arePairsSo 58 = .ok (.aload_n 0, 1) := by decide +kernel
theorem dL_arePairsSo_59 : decode cL_arePairsSo 59 = .ok (.iload_n 2, 1) := by decide +kernel
theorem dL_arePairsSo_60 : decode cL_arePairsSo 60 = .ok (.iload_n 1, 1) := by decide +kernel
theorem dL_arePairsSo_61 : decode cL_arePairsSo 61 = .ok (.invokevirtual 116, 3) := by decide +kernel
theorem dL_arePairsSo_64 : decode cL_arePairsSo 64 = .ok (.if_icmp .ne 21, 3) := by decide +kernel
theorem dL_arePairsSo_67 : decode cL_arePairsSo 67 = .ok (.aload_n 0, 1) := by decide +kernel
theorem dL_arePairsSo_68 : decode cL_arePairsSo 68 = .ok (.iload_n 1, 1) := by decide +kernel
theorem dL_arePairsSo_69 : decode cL_arePairsSo 69 = .ok (.iload_n 2, 1) := by decide +kernel
theorem dL_arePairsSo_70 : decode cL_arePairsSo 70 = .ok (.invokevirtual 116, 3) := by decide +kernel
theorem dL_arePairsSo_73 : decode cL_arePairsSo 73 = .ok (.aload_n 0, 1) := by decide +kernel
theorem dL_arePairsSo_74 : decode cL_arePairsSo 74 = .ok (.iload_n 1, 1) := by decide +kernel
theorem dL_arePairsSo_75 : decode cL_arePairsSo 75 = .ok (.invokevirtual 60, 3) := by decide +kernel
theorem dL_arePairsSo_78 : decode cL_arePairsSo 78 = .ok (.if_icmp .gt 7, 3) := by decide +kernel
theorem dL_arePairsSo_81 : decode cL_arePairsSo 81 = .ok (.iconst 1, 1) := by decide +kernel
theorem dL_arePairsSo_82 : decode cL_arePairsSo 82 = .ok (.goto 4, 3) := by decide +kernel
theorem dL_arePairsSo_85 : decode cL_arePairsSo 85 = .ok (.iconst 0, 1) := by decide +kernel
theorem dL_arePairsSo_86 : decode cL_arePairsSo 86 = .ok (.istore 5, 2) := by decide +kernel
theorem dL_arePairsSo_88 : decode cL_arePairsSo 88 = .ok (.iload 5, 2) := by decide +kernel
theorem dL_arePairsSo_90 : decode cL_arePairsSo 90 = .ok (.ifCond .eq 58, 3) := by decide +kernel
theorem dL_arePairsSo_93 : decode cL_arePairsSo 93 = .ok (.aload_n 0, 1) := by decide +kernel
theorem dL_arePairsSo_94 : decode cL_arePairsSo 94 = .ok (.iload_n 1, 1) := by decide +kernel
theorem dL_arePairsSo_95 : decode cL_arePairsSo 95 = .ok (.iload_n 1, 1) := by decide +kernel
theorem dL_arePairsSo_96 : decode cL_arePairsSo 96 = .ok (.invokevirtual 107, 3) := by decide +kernel
theorem dL_arePairsSo_99 : decode cL_arePairsSo 99 = .ok (.aload_n 0, 1) := by decide +kernel
theorem dL_arePairsSo_100 : decode cL_arePairsSo 100 = .ok (.iload_n 1, 1) := by decide +kernel
theorem dL_arePairsSo_101 : decode cL_arePairsSo 101 = .ok (.invokevirtual 63, 3) := by decide +kernel
theorem dL_arePairsSo_104 : decode cL_arePairsSo 104 = .ok (.if_icmp .ne 44, 3) := by decide +kernel
theorem dL_arePairsSo_107 : decode cL_arePairsSo 107 = .ok (.aload_n 0, 1) := by decide +kernel
theorem dL_arePairsSo_108 : decode cL_arePairsSo 108 = .ok (.iload_n 1, 1) := by decide +kernel
theorem dL_arePairsSo_109 : decode cL_arePairsSo 109 = .ok (.iload_n 1, 1) := by decide +kernel
theorem dL_arePairsSo_110 : decode cL_arePairsSo 110 = .ok (.invokevirtual 110, 3) := by decide +kernel
theorem dL_arePairsSo_113 : decode cL_arePairsSo 113 = .ok (.aload_n 0, 1) := by decide +kernel
theorem dL_arePairsSo_114 : decode cL_arePairsSo 114 = .ok (.iload_n 1, 1) := by decide +kernel
theorem dL_arePairsSo_115 : decode cL_arePairsSo 115 = .ok (.invokevirtual 63, 3) := by decide +kernel
theorem dL_arePairsSo_118 : decode cL_arePairsSo 118 = .ok (.if_icmp .ne 30, 3) := by decide +kernel
theorem dL_arePairsSo_121 : decode cL_arePairsSo 121 = .ok (.aload_n 0, 1) := by decide +kernel
theorem dL_arePairsSo_122 : decode cL_arePairsSo 122 = .ok (.iload_n 1, 1) := by decide +kernel
theorem dL_arePairsSo_123 : decode cL_arePairsSo 123 = .ok (.iload_n 1, 1) := by decide +kernel
theorem dL_arePairsSo_124 : decode cL_arePairsSo 124 = .ok (.invokevirtual 113, 3) := by decide +kernel
theorem dL_arePairsSo_127 : decode cL_arePairsSo 127 = .ok (.ifCond .ne 21, 3) := by decide +kernel
theorem dL_arePairsSo_130 : decode cL_arePairsSo 130 = .ok (.aload_n 0, 1) := by decide +kernel
theorem dL_arePairsSo_131 : decode cL_arePairsSo 131 = .ok (.iload_n 1, 1) := by decide +kernel
theorem dL_arePairsSo_132 : decode cL_arePairsSo 132 = .ok (.iload_n 1, 1) := by decide +kernel
theorem dL_arePairsSo_133 : decode cL_arePairsSo 133 = .ok (.invokevirtual 116, 3) := by decide +kernel
theorem dL_arePairsSo_136 : decode cL_arePairsSo 136 = .ok (.aload_n 0, 1) := by decide +kernel
theorem dL_arePairsSo_137 : decode cL_arePairsSo 137 = .ok (.iload_n 1, 1) := by decide +kernel
theorem dL_arePairsSo_138 : decode cL_arePairsSo 138 = .ok (.invokevirtual 60, 3) := by decide +kernel
theorem dL_arePairsSo_141 : decode cL_arePairsSo 141 = .ok (.if_icmp .ne 7, 3) := by decide +kernel
theorem dL_arePairsSo_144 : decode cL_arePairsSo 144 = .ok (.iconst 1, 1) := by decide +kernel
theorem dL_arePairsSo_145 : decode cL_arePairsSo 145 = .ok (.goto 4, 3) := by decide +kernel
theorem dL_arePairsSo_148 : decode cL_arePairsSo 148 = .ok (.iconst 0, 1) := by decide +kernel
theorem dL_arePairsSo_149 : decode cL_arePairsSo 149 = .ok (.istore 5, 2) := by decide +kernel
theorem dL_arePairsSo_151 : decode cL_arePairsSo 151 = .ok (.iload 5, 2) := by decide +kernel
theorem dL_arePairsSo_153 : decode cL_arePairsSo 153 = .ok (.ifCond .eq 49, 3) := by decide +kernel
theorem dL_arePairsSo_156 : decode cL_arePairsSo 156 = .ok (.iload 4, 2) := by decide +kernel
theorem dL_arePairsSo_158 : decode cL_arePairsSo 158 = .ok (.aload_n 0, 1) := by decide +kernel
theorem dL_arePairsSo_159 : decode cL_arePairsSo 159 = .ok (.iload_n 1, 1) := by decide +kernel
theorem dL_arePairsSo_160 : decode cL_arePairsSo 160 = .ok (.iload_n 2, 1) := by decide +kernel
theorem dL_arePairsSo_161 : decode cL_arePairsSo 161 = .ok (.invokevirtual 113, 3) := by decide +kernel
theorem dL_arePairsSo_164 : decode cL_arePairsSo 164 = .ok (.iadd, 1) := by decide +kernel
theorem dL_arePairsSo_165 : decode cL_arePairsSo 165 = .ok (.aload_n 0, 1) := by decide +kernel
theorem dL_arePairsSo_166 : decode cL_arePairsSo 166 = .ok (.iload_n 2, 1) := by decide +kernel
theorem dL_arePairsSo_167 : decode cL_arePairsSo 167 = .ok (.iload_n 1, 1) := by decide +kernel
theorem dL_arePairsSo_168 : decode cL_arePairsSo 168 = .ok (.invokevirtual 113, 3) := by decide +kernel
theorem dL_arePairsSo_171 : decode cL_arePairsSo 171 = .ok (.iadd, 1) := by decide +kernel
theorem dL_arePairsSo_172 : decode cL_arePairsSo 172 = .ok (.iload_n 3, 1) := by decide +kernel
theorem dL_arePairsSo_173 : decode cL_arePairsSo 173 = .ok (.if_icmp .gt 29, 3) := by decide +kernel
theorem dL_arePairsSo_176 : decode cL_arePairsSo 176 = .ok (.iload 4, 2) := by decide +kernel
theorem dL_arePairsSo_178 : decode cL_arePairsSo 178 = .ok (.aload_n 0, 1) := by decide +kernel
theorem dL_arePairsSo_179 : decode cL_arePairsSo 179 = .ok (.iload_n 1, 1) := by decide +kernel
theorem dL_arePairsSo_180 : decode cL_arePairsSo 180 = .ok (.iload_n 2, 1) := by decide +kernel
theorem dL_arePairsSo_181 : decode cL_arePairsSo 181 = .ok (.invokevirtual 113, 3) := by decide +kernel
theorem dL_arePairsSo_184 : decode cL_arePairsSo 184 = .ok (.iadd, 1) := by decide +kernel
theorem dL_arePairsSo_185 : decode cL_arePairsSo 185 = .ok (.aload_n 0, 1) := by decide +kernel
theorem dL_arePairsSo_186 : decode cL_arePairsSo 186 = .ok (.iload_n 2, 1) := by decide +kernel
theorem dL_arePairsSo_187 : decode cL_arePairsSo 187 = .ok (.iload_n 1, 1) := by decide +kernel
theorem dL_arePairsSo_188 : decode cL_arePairsSo 188 = .ok (.invokevirtual 113, 3) := by decide +kernel
theorem dL_arePairsSo_191 : decode cL_arePairsSo 191 = .ok (.iadd, 1) := by decide +kernel
theorem dL_arePairsSo_192 : decode cL_arePairsSo 192 = .ok (.iload_n 3, 1) := by decide +kernel
theorem dL_arePairsSo_193 : decode cL_arePairsSo 193 = .ok (.iconst 2, 1) := by decide +kernel
theorem dL_arePairsSo_194 : decode cL_arePairsSo 194 = .ok (.isub, 1) := by decide +kernel
theorem dL_arePairsSo_195 : decode cL_arePairsSo 195 = .ok (.if_icmp .lt 7, 3) := by decide +kernel
theorem dL_arePairsSo_198 : decode cL_arePairsSo 198 = .ok (.iconst 1, 1) := by decide +kernel
theorem dL_arePairsSo_199 : decode cL_arePairsSo 199 = .ok (.goto 4, 3) := by decide +kernel
theorem dL_arePairsSo_202 : decode cL_arePairsSo 202 = .ok (.iconst 0, 1) := by decide +kernel
theorem dL_arePairsSo_203 : decode cL_arePairsSo 203 = .ok (.ireturn, 1) := by decide +kernel
