/-! rows of the law: cell, up, pushOr, popOr, dropOr, mark, row -/
theorem dL_cell_0 : decode cL_cell 0 = .ok (.iload_n 1, 1) := by decide +kernel
theorem dL_cell_1 : decode cL_cell 1 = .ok (.aload_n 0, 1) := by decide +kernel
theorem dL_cell_2 : decode cL_cell 2 = .ok (.arraylength, 1) := by decide +kernel
theorem dL_cell_3 : decode cL_cell 3 = .ok (.if_icmp .ge 9, 3) := by decide +kernel
theorem dL_cell_6 : decode cL_cell 6 = .ok (.aload_n 0, 1) := by decide +kernel
theorem dL_cell_7 : decode cL_cell 7 = .ok (.iload_n 1, 1) := by decide +kernel
theorem dL_cell_8 : decode cL_cell 8 = .ok (.iaload, 1) := by decide +kernel
theorem dL_cell_9 : decode cL_cell 9 = .ok (.goto 9, 3) := by decide +kernel
theorem dL_cell_12 : decode cL_cell 12 = .ok (.ldc 7, 2) := by decide +kernel
theorem dL_cell_14 : decode cL_cell 14 = .ok (.iload_n 1, 1) := by decide +kernel
theorem dL_cell_15 : decode cL_cell 15 = .ok (.iconst 3, 1) := by decide +kernel
theorem dL_cell_16 : decode cL_cell 16 = .ok (.iadd, 1) := by decide +kernel
theorem dL_cell_17 : decode cL_cell 17 = .ok (.imul, 1) := by decide +kernel
theorem dL_cell_18 : decode cL_cell 18 = .ok (.ireturn, 1) := by decide +kernel
theorem dL_up_0 : decode cL_up 0 = .ok (.iload_n 0, 1) := by decide +kernel
theorem dL_up_1 : decode cL_up 1 = .ok (.ldc 8, 2) := by decide +kernel
theorem dL_up_3 : decode cL_up 3 = .ok (.iand, 1) := by decide +kernel
theorem dL_up_4 : decode cL_up 4 = .ok (.iload_n 1, 1) := by decide +kernel
theorem dL_up_5 : decode cL_up 5 = .ok (.irem, 1) := by decide +kernel
theorem dL_up_6 : decode cL_up 6 = .ok (.ireturn, 1) := by decide +kernel
set_option maxRecDepth 20000 in
theorem ggL_pushOr_X4_push : GoodIn wsL_pushOr wsX4_push := goodIn_ca (goodIn_ca (goodIn_ca (goodIn_r _ [6, 7, 8, 9, 10, 11, 12, 13, 14, 5, 15, 16, 17, 18, 19, 20, 21, 22, 23, 24, 25, 26, 27, 28, 29, 30, 31, 32, 33, 34, 35, 36, 37, 38, 39, 40, 41, 42, 43, 44, 45, 46, 47, 48, 49, 50, 51, 52, 53, 54, 55, 56, 57, 58, 59, 60, 61, 62, 63, 64, 65, 66, 67, 68, 69, 70, 71, 72, 73, 74, 75, 76, 77, 78, 79, 80, 81, 82, 83, 84, 85, 86, 87, 88, 89, 90, 91, 92, 93, 94, 95, 96, 97, 98, 99, 100, 101, 102, 103, 104, 105, 106, 107, 108, 109, 110, 111, 112, 113, 114, 115, 116, 117, 118, 119, 120, 121, 122, 123, 124, 125, 126, 127, 128, 129, 130, 131, 132, 133, 134, 135, 136, 137, 138, 139, 140, 141, 142, 143, 144, 145, 146, 147, 148, 149, 150, 151, 152, 153, 154, 155, 156, 157, 158, 159, 160, 161, 162, 163, 164, 165, 166, 167, 168, 169, 170, 171, 172, 173, 174, 175, 176, 177] (by decide +kernel) (by decide +kernel)) (goodIn_sub (fun _ h => List.mem_cons_of_mem _ (List.mem_append_left _ (List.mem_append_left _ (List.mem_append_right _ h)))) (by decide +kernel))) (goodIn_sub (fun _ h => List.mem_cons_of_mem _ (List.mem_append_left _ (List.mem_append_right _ h))) (by decide +kernel))) (goodIn_sub (fun _ h => List.mem_cons_of_mem _ (List.mem_append_right _ h)) (by decide +kernel))
set_option maxRecDepth 20000 in
theorem gL_pushOr_X4_push : GoodIn wsL_pushOr (wsV RL 9 RX4 yX4_push wsX4_push) := goodIn_app (goodIn_of _ (by decide +kernel)) ggL_pushOr_X4_push
theorem dL_pushOr_0 : decode cL_pushOr 0 = .ok (.aload_n 0, 1) := by decide +kernel
theorem dL_pushOr_1 : decode cL_pushOr 1 = .ok (.iload_n 1, 1) := by decide +kernel
theorem dL_pushOr_2 : decode cL_pushOr 2 = .ok (.iload_n 2, 1) := by decide +kernel
theorem dL_pushOr_3 : decode cL_pushOr 3 = .ok (.iload_n 3, 1) := by decide +kernel
theorem dL_pushOr_4 : decode cL_pushOr 4 = .ok (.invokevirtual 9, 3) := by decide +kernel
theorem dL_pushOr_7 : decode cL_pushOr 7 = .ok (.ireturn, 1) := by decide +kernel
theorem dL_pushOr_8 : decode cL_pushOr 8 = .ok (.astore 4, 2) := by decide +kernel
theorem dL_pushOr_10 : decode cL_pushOr 10 = .ok (.iconst (-1), 1) := by decide +kernel
theorem dL_pushOr_11 : decode cL_pushOr 11 = .ok (.ireturn, 1) := by decide +kernel
set_option maxRecDepth 20000 in
theorem ggL_popOr_X4_pop : GoodIn wsL_popOr wsX4_pop := goodIn_ca (goodIn_ca (goodIn_ca (goodIn_r _ [7, 8, 9, 10, 11, 12, 13, 14, 15, 6, 16, 17, 18, 19, 20, 21, 22, 23, 24, 25, 26, 27, 28, 29, 30, 31, 32, 33, 34, 35, 36, 37, 38, 39, 40, 41, 42, 43, 44, 45, 46, 47, 48, 49, 50, 51, 52, 53, 54, 55, 56, 57, 58, 59, 60, 61, 62, 63, 64, 65, 66, 67, 68, 69, 70, 71, 72, 73, 74, 75, 76, 77, 78, 79, 80, 81, 82, 83, 84, 85, 86, 87, 88, 89, 90, 91, 92, 93, 94, 95, 96, 97, 98, 99, 100, 101, 102, 103, 104, 105, 106, 107, 108, 109, 110, 111, 112, 113, 114, 115, 116, 117, 118, 119, 120, 121, 122, 123, 124, 125, 126, 127, 128, 129, 130, 131, 132, 133, 134, 135, 136, 137, 138, 139, 140, 141, 142, 143, 144, 145, 146, 147, 148, 149, 150, 151, 152, 153, 154, 155, 156, 157, 158, 159, 160, 161, 162, 163, 164, 165, 166, 167, 168, 169, 170, 171, 172, 173, 174, 175, 176, 177, 178, 179, 180] (by decide +kernel) (by decide +kernel)) (goodIn_sub (fun _ h => List.mem_cons_of_mem _ (List.mem_append_left _ (List.mem_append_left _ (List.mem_append_right _ h)))) (by decide +kernel))) (goodIn_sub (fun _ h => List.mem_cons_of_mem _ (List.mem_append_left _ (List.mem_append_right _ h))) (by decide +kernel))) (goodIn_sub (fun _ h => List.mem_cons_of_mem _ (List.mem_append_right _ h)) (by decide +kernel))
set_option maxRecDepth 20000 in
theorem gL_popOr_X4_pop : GoodIn wsL_popOr (wsV RL 17 RX4 yX4_pop wsX4_pop) := goodIn_app (goodIn_of _ (by decide +kernel)) ggL_popOr_X4_pop
theorem dL_popOr_0 : decode cL_popOr 0 = .ok (.aload_n 0, 1) := by decide +kernel
theorem dL_popOr_1 : decode cL_popOr 1 = .ok (.iload_n 1, 1) := by decide +kernel
theorem dL_popOr_2 : decode cL_popOr 2 = .ok (.iload_n 2, 1) := by decide +kernel
theorem dL_popOr_3 : decode cL_popOr 3 = .ok (.invokevirtual 17, 3) := by decide +kernel
theorem dL_popOr_6 : decode cL_popOr 6 = .ok (.ireturn, 1) := by decide +kernel
theorem dL_popOr_7 : decode cL_popOr 7 = .ok (.astore_n 3, 1) := by decide +kernel
theorem dL_popOr_8 : decode cL_popOr 8 = .ok (.bipush (-2), 2) := by decide +kernel
theorem dL_popOr_10 : decode cL_popOr 10 = .ok (.ireturn, 1) := by decide +kernel
theorem dL_popOr_11 : decode cL_popOr 11 = .ok (.astore_n 3, 1) := by decide +kernel
theorem dL_popOr_12 : decode cL_popOr 12 = .ok (.iconst (-1), 1) := by decide +kernel
theorem dL_popOr_13 : decode cL_popOr 13 = .ok (.ireturn, 1) := by decide +kernel
set_option maxRecDepth 20000 in
theorem ggL_dropOr_X4_drop : GoodIn wsL_dropOr wsX4_drop := goodIn_ca (goodIn_r _ [6, 7, 8, 9, 10, 11, 12, 13, 5, 14, 15, 16, 17, 18, 19, 20, 21, 22, 23, 24, 25, 26, 27, 28, 29, 30, 31, 32, 33, 34, 35, 36, 37, 38, 39, 40, 41, 42, 43, 44, 45, 46, 47, 48, 49, 50, 51, 52, 53, 54, 55, 56, 57, 58, 59, 60, 61, 62, 63, 64, 65, 66, 67, 68, 69, 70, 71, 72, 73, 74, 75, 76, 77, 78, 79, 80, 81, 82, 83, 84, 85, 86, 87, 88, 89, 90, 91, 92, 93, 94] (by decide +kernel) (by decide +kernel)) (goodIn_sub (fun _ h => List.mem_cons_of_mem _ (List.mem_append_right _ h)) (by decide +kernel))
set_option maxRecDepth 20000 in
theorem gL_dropOr_X4_drop : GoodIn wsL_dropOr (wsV RL 23 RX4 yX4_drop wsX4_drop) := goodIn_app (goodIn_of _ (by decide +kernel)) ggL_dropOr_X4_drop
theorem dL_dropOr_0 : decode cL_dropOr 0 = .ok (.aload_n 0, 1) := by decide +kernel
theorem dL_dropOr_1 : decode cL_dropOr 1 = .ok (.invokevirtual 23, 3) := by decide +kernel
theorem dL_dropOr_4 : decode cL_dropOr 4 = .ok (.ireturn, 1) := by decide +kernel
theorem dL_dropOr_5 : decode cL_dropOr 5 = .ok (.astore_n 1, 1) := by decide +kernel
theorem dL_dropOr_6 : decode cL_dropOr 6 = .ok (.iconst (-1), 1) := by decide +kernel
theorem dL_dropOr_7 : decode cL_dropOr 7 = .ok (.ireturn, 1) := by decide +kernel
set_option maxRecDepth 20000 in
theorem ggL_mark_X4_setting : GoodIn wsL_mark wsX4_setting := goodIn_ca (goodIn_r _ [6, 7, 8, 9, 10, 11, 12, 13, 14, 15, 16, 129, 130, 131, 132, 133, 134, 135, 136, 137, 138] (by decide +kernel) (by decide +kernel)) (goodIn_sub (fun _ h => List.mem_cons_of_mem _ (List.mem_append_left _ (List.mem_append_right _ h))) (by decide +kernel))
set_option maxRecDepth 20000 in
theorem gL_mark_X4_setting : GoodIn wsL_mark (wsV RL 29 RX4 yX4_setting wsX4_setting) := goodIn_app (goodIn_of _ (by decide +kernel)) ggL_mark_X4_setting
set_option maxRecDepth 20000 in
theorem ggL_mark_X4_count : GoodIn wsL_mark wsX4_count := goodIn_ca (goodIn_r _ [20, 7, 8, 9, 21, 22, 23, 13, 24, 25, 26, 27, 28, 29, 30, 31, 32, 5, 33, 34, 35, 36, 37, 38, 39, 40, 41, 42, 43, 44, 45, 46, 47, 48, 49, 50, 51, 52, 53, 54, 55, 56, 57, 58, 59, 60, 61, 62, 63, 64, 65, 66, 67, 68, 69, 70, 71, 72, 73, 74, 75, 76, 77, 78, 79, 80, 81, 82, 83, 84, 85, 86, 87, 88, 89, 90, 91, 92, 93, 94, 129, 130, 131, 132, 133, 134, 135, 136, 137, 138, 139, 140, 141, 142, 143, 144, 145, 146, 147, 148, 149] (by decide +kernel) (by decide +kernel)) (goodIn_sub (fun _ h => List.mem_cons_of_mem _ (List.mem_append_left _ (List.mem_append_right _ h))) (by decide +kernel))
set_option maxRecDepth 20000 in
theorem gL_mark_X4_count : GoodIn wsL_mark (wsV RL 33 RX4 yX4_count wsX4_count) := goodIn_app (goodIn_of _ (by decide +kernel)) ggL_mark_X4_count
set_option maxRecDepth 20000 in
theorem ggL_mark_X4_version : GoodIn wsL_mark wsX4_version := goodIn_ca (goodIn_ca (goodIn_r _ [98, 7, 8, 9, 99, 100, 101, 5, 102, 103, 104, 105, 106, 107, 13, 108, 25, 109, 35, 36, 37, 38, 39, 40, 41, 42, 43, 44, 45, 46, 47, 48, 49, 50, 51, 52, 53, 54, 55, 56, 57, 58, 59, 110, 71, 72, 73, 74, 75, 76, 77, 129, 130, 131, 132, 133, 134, 135, 136, 137, 138, 139, 140, 141, 142, 143, 144, 145, 146, 147, 148, 149] (by decide +kernel) (by decide +kernel)) (goodIn_sub (fun _ h => List.mem_cons_of_mem _ (List.mem_append_left _ (List.mem_append_right _ h))) (by decide +kernel))) (goodIn_sub (fun _ h => List.mem_cons_of_mem _ (List.mem_append_right _ h)) (by decide +kernel))
set_option maxRecDepth 20000 in
theorem gL_mark_X4_version : GoodIn wsL_mark (wsV RL 36 RX4 yX4_version wsX4_version) := goodIn_app (goodIn_of _ (by decide +kernel)) ggL_mark_X4_version
set_option maxRecDepth 20000 in
theorem ggL_mark_X4_at : GoodIn wsL_mark wsX4_at := goodIn_ca (goodIn_r _ [114, 9, 115, 116, 117, 5, 118, 103, 104, 119, 120, 121, 13, 122, 123, 106, 107, 108, 25, 34, 35, 36, 37, 38, 39, 40, 41, 42, 43, 44, 45, 46, 47, 48, 49, 50, 51, 52, 53, 54, 55, 56, 57, 58, 59, 124, 75, 76, 77, 109, 125, 126, 127, 128, 60, 61, 129, 130, 131, 132, 133, 134, 135, 136, 137, 138, 139, 140, 141, 142, 143, 144, 145, 146, 147, 148, 149] (by decide +kernel) (by decide +kernel)) (goodIn_sub (fun _ h => List.mem_cons_of_mem _ (List.mem_append_right _ h)) (by decide +kernel))
set_option maxRecDepth 20000 in
theorem gL_mark_X4_at : GoodIn wsL_mark (wsV RL 40 RX4 yX4_at wsX4_at) := goodIn_app (goodIn_of _ (by decide +kernel)) ggL_mark_X4_at
theorem dL_mark_0 : decode cL_mark 0 = .ok (.ldc2_w 27, 3) := by decide +kernel
theorem dL_mark_3 : decode cL_mark 3 = .ok (.aload_n 0, 1) := by decide +kernel
theorem dL_mark_4 : decode cL_mark 4 = .ok (.iconst 0, 1) := by decide +kernel
theorem dL_mark_5 : decode cL_mark 5 = .ok (.invokevirtual 29, 3) := by decide +kernel
theorem dL_mark_8 : decode cL_mark 8 = .ok (.i2l, 1) := by decide +kernel
theorem dL_mark_9 : decode cL_mark 9 = .ok (.lmul, 1) := by decide +kernel
theorem dL_mark_10 : decode cL_mark 10 = .ok (.aload_n 0, 1) := by decide +kernel
theorem dL_mark_11 : decode cL_mark 11 = .ok (.iconst 1, 1) := by decide +kernel
theorem dL_mark_12 : decode cL_mark 12 = .ok (.invokevirtual 29, 3) := by decide +kernel
theorem dL_mark_15 : decode cL_mark 15 = .ok (.i2l, 1) := by decide +kernel
theorem dL_mark_16 : decode cL_mark 16 = .ok (.ladd, 1) := by decide +kernel
theorem dL_mark_17 : decode cL_mark 17 = .ok (.lstore_n 1, 1) := by decide +kernel
theorem dL_mark_18 : decode cL_mark 18 = .ok (.iconst 0, 1) := by decide +kernel
theorem dL_mark_19 : decode cL_mark 19 = .ok (.istore_n 3, 1) := by decide +kernel
theorem dL_mark_20 : decode cL_mark 20 = .ok (.iload_n 3, 1) := by decide +kernel
theorem dL_mark_21 : decode cL_mark 21 = .ok (.aload_n 0, 1) := by decide +kernel
theorem dL_mark_22 : decode cL_mark 22 = .ok (.iconst 0, 1) := by decide +kernel
theorem dL_mark_23 : decode cL_mark 23 = .ok (.invokevirtual 33, 3) := by decide +kernel
theorem dL_mark_26 : decode cL_mark 26 = .ok (.if_icmp .ge 75, 3) := by decide +kernel
theorem dL_mark_29 : decode cL_mark 29 = .ok (.iconst 0, 1) := by decide +kernel
theorem dL_mark_30 : decode cL_mark 30 = .ok (.istore 4, 2) := by decide +kernel
theorem dL_mark_32 : decode cL_mark 32 = .ok (.iload 4, 2) := by decide +kernel
theorem dL_mark_34 : decode cL_mark 34 = .ok (.bipush 10, 2) := by decide +kernel
theorem dL_mark_36 : decode cL_mark 36 = .ok (.if_icmp .ge 24, 3) := by decide +kernel
theorem dL_mark_39 : decode cL_mark 39 = .ok (.ldc2_w 27, 3) := by decide +kernel
theorem dL_mark_42 : decode cL_mark 42 = .ok (.lload_n 1, 1) := by decide +kernel
theorem dL_mark_43 : decode cL_mark 43 = .ok (.lmul, 1) := by decide +kernel
theorem dL_mark_44 : decode cL_mark 44 = .ok (.aload_n 0, 1) := by decide +kernel
theorem dL_mark_45 : decode cL_mark 45 = .ok (.iload_n 3, 1) := by decide +kernel
theorem dL_mark_46 : decode cL_mark 46 = .ok (.iload 4, 2) := by decide +kernel
theorem dL_mark_48 : decode cL_mark 48 = .ok (.invokevirtual 36, 3) := by decide +kernel
theorem dL_mark_51 : decode cL_mark 51 = .ok (.i2l, 1) := by decide +kernel
theorem dL_mark_52 : decode cL_mark 52 = .ok (.ladd, 1) := by decide +kernel
theorem dL_mark_53 : decode cL_mark 53 = .ok (.lstore_n 1, 1) := by decide +kernel
theorem dL_mark_54 : decode cL_mark 54 = .ok (.iinc 4 1, 3) := by decide +kernel
theorem dL_mark_57 : decode cL_mark 57 = .ok (.goto (-25), 3) := by decide +kernel
theorem dL_mark_60 : decode cL_mark 60 = .ok (.iconst 0, 1) := by decide +kernel
theorem dL_mark_61 : decode cL_mark 61 = .ok (.istore 4, 2) := by decide +kernel
theorem dL_mark_63 : decode cL_mark 63 = .ok (.iload 4, 2) := by decide +kernel
theorem dL_mark_65 : decode cL_mark 65 = .ok (.aload_n 0, 1) := by decide +kernel
theorem dL_mark_66 : decode cL_mark 66 = .ok (.iload_n 3, 1) := by decide +kernel
theorem dL_mark_67 : decode cL_mark 67 = .ok (.iconst 1, 1) := by decide +kernel
theorem dL_mark_68 : decode cL_mark 68 = .ok (.invokevirtual 36, 3) := by decide +kernel
theorem dL_mark_71 : decode cL_mark 71 = .ok (.if_icmp .ge 24, 3) := by decide +kernel
theorem dL_mark_74 : decode cL_mark 74 = .ok (.ldc2_w 27, 3) := by decide +kernel
theorem dL_mark_77 : decode cL_mark 77 = .ok (.lload_n 1, 1) := by decide +kernel
theorem dL_mark_78 : decode cL_mark 78 = .ok (.lmul, 1) := by decide +kernel
theorem dL_mark_79 : decode cL_mark 79 = .ok (.aload_n 0, 1) := by decide +kernel
theorem dL_mark_80 : decode cL_mark 80 = .ok (.iload_n 3, 1) := by decide +kernel
theorem dL_mark_81 : decode cL_mark 81 = .ok (.iload 4, 2) := by decide +kernel
theorem dL_mark_83 : decode cL_mark 83 = .ok (.invokevirtual 40, 3) := by decide +kernel
theorem dL_mark_86 : decode cL_mark 86 = .ok (.i2l, 1) := by decide +kernel
theorem dL_mark_87 : decode cL_mark 87 = .ok (.ladd, 1) := by decide +kernel
theorem dL_mark_88 : decode cL_mark 88 = .ok (.lstore_n 1, 1) := by decide +kernel
theorem dL_mark_89 : decode cL_mark 89 = .ok (.iinc 4 1, 3) := by decide +kernel
theorem dL_mark_92 : decode cL_mark 92 = .ok (.goto (-29), 3) := by decide +kernel
theorem dL_mark_95 : decode cL_mark 95 = .ok (.iinc 3 1, 3) := by decide +kernel
theorem dL_mark_98 : decode cL_mark 98 = .ok (.goto (-78), 3) := by decide +kernel
theorem dL_mark_101 : decode cL_mark 101 = .ok (.lload_n 1, 1) := by decide +kernel
theorem dL_mark_102 : decode cL_mark 102 = .ok (.lreturn, 1) := by decide +kernel
set_option maxRecDepth 20000 in
theorem ggL_row_X4_version : GoodIn wsL_row wsX4_version := goodIn_ca (goodIn_ca (goodIn_r _ [5, 6, 7, 8, 9, 10, 11, 4, 12, 13, 14, 15, 16, 17, 18, 19, 20, 21, 22, 23, 24, 25, 26, 27, 28, 29, 30, 31, 32, 33, 34, 35, 36, 37, 38, 39, 40, 41, 42, 43, 44, 45, 46, 47, 48, 49, 50, 51, 52, 53, 54, 83, 84, 85, 86, 87, 88, 89, 90, 91, 92, 93, 94, 95, 96, 97, 98, 99, 100, 101, 102, 103] (by decide +kernel) (by decide +kernel)) (goodIn_sub (fun _ h => List.mem_cons_of_mem _ (List.mem_append_left _ (List.mem_append_left _ (List.mem_append_right _ h)))) (by decide +kernel))) (goodIn_sub (fun _ h => List.mem_cons_of_mem _ (List.mem_append_left _ (List.mem_append_right _ h))) (by decide +kernel))
set_option maxRecDepth 20000 in
theorem gL_row_X4_version : GoodIn wsL_row (wsV RL 36 RX4 yX4_version wsX4_version) := goodIn_app (goodIn_of _ (by decide +kernel)) ggL_row_X4_version
set_option maxRecDepth 20000 in
theorem ggL_row_X4_value : GoodIn wsL_row wsX4_value := goodIn_ca (goodIn_ca (goodIn_r _ [58, 59, 60, 8, 61, 9, 10, 11, 4, 12, 13, 14, 15, 16, 17, 18, 19, 20, 21, 22, 23, 24, 25, 26, 27, 28, 29, 30, 31, 32, 33, 34, 35, 36, 37, 38, 39, 40, 41, 42, 43, 44, 45, 46, 83, 84, 85, 86, 87, 93, 94, 95, 96, 97, 98, 99, 100, 101, 102, 103, 88, 89, 90, 91, 92] (by decide +kernel) (by decide +kernel)) (goodIn_sub (fun _ h => List.mem_cons_of_mem _ (List.mem_append_right _ h)) (by decide +kernel))) (goodIn_sub (fun _ h => List.mem_cons_of_mem _ (List.mem_append_left _ (List.mem_append_right _ h))) (by decide +kernel))
set_option maxRecDepth 20000 in
theorem gL_row_X4_value : GoodIn wsL_row (wsV RL 43 RX4 yX4_value wsX4_value) := goodIn_app (goodIn_of _ (by decide +kernel)) ggL_row_X4_value
set_option maxRecDepth 20000 in
theorem ggL_row_X4_at : GoodIn wsL_row wsX4_at := goodIn_ca (goodIn_r _ [65, 8, 66, 67, 68, 4, 69, 13, 14, 70, 71, 72, 18, 73, 74, 16, 17, 19, 20, 75, 22, 23, 24, 25, 26, 27, 28, 29, 30, 31, 32, 33, 34, 35, 36, 37, 38, 39, 40, 41, 42, 43, 44, 45, 46, 76, 52, 53, 54, 21, 77, 78, 79, 80, 81, 82, 83, 84, 85, 86, 87, 88, 89, 90, 91, 92, 93, 94, 95, 96, 97, 98, 99, 100, 101, 102, 103] (by decide +kernel) (by decide +kernel)) (goodIn_sub (fun _ h => List.mem_cons_of_mem _ (List.mem_append_left _ (List.mem_append_right _ h))) (by decide +kernel))
set_option maxRecDepth 20000 in
theorem gL_row_X4_at : GoodIn wsL_row (wsV RL 40 RX4 yX4_at wsX4_at) := goodIn_app (goodIn_of _ (by decide +kernel)) ggL_row_X4_at
theorem dL_row_0 : decode cL_row 0 = .ok (.aload_n 0, 1) := by decide +kernel
theorem dL_row_1 : decode cL_row 1 = .ok (.iload_n 1, 1) := by decide +kernel
theorem dL_row_2 : decode cL_row 2 = .ok (.iconst 0, 1) := by decide +kernel
theorem dL_row_3 : decode cL_row 3 = .ok (.invokevirtual 36, 3) := by decide +kernel
theorem dL_row_6 : decode cL_row 6 = .ok (.istore_n 2, 1) := by decide +kernel
theorem dL_row_7 : decode cL_row 7 = .ok (.aload_n 0, 1) := by decide +kernel
theorem dL_row_8 : decode cL_row 8 = .ok (.iload_n 1, 1) := by decide +kernel
theorem dL_row_9 : decode cL_row 9 = .ok (.bipush 8, 2) := by decide +kernel
theorem dL_row_11 : decode cL_row 11 = .ok (.invokevirtual 36, 3) := by decide +kernel
theorem dL_row_14 : decode cL_row 14 = .ok (.istore_n 3, 1) := by decide +kernel
theorem dL_row_15 : decode cL_row 15 = .ok (.aload_n 0, 1) := by decide +kernel
theorem dL_row_16 : decode cL_row 16 = .ok (.iload_n 1, 1) := by decide +kernel
theorem dL_row_17 : decode cL_row 17 = .ok (.iconst 1, 1) := by decide +kernel
theorem dL_row_18 : decode cL_row 18 = .ok (.invokevirtual 36, 3) := by decide +kernel
theorem dL_row_21 : decode cL_row 21 = .ok (.istore 4, 2) := by decide +kernel
theorem dL_row_23 : decode cL_row 23 = .ok (.aload_n 0, 1) := by decide +kernel
theorem dL_row_24 : decode cL_row 24 = .ok (.iload_n 2, 1) := by decide +kernel
theorem dL_row_25 : decode cL_row 25 = .ok (.iconst 1, 1) := by decide +kernel
theorem dL_row_26 : decode cL_row 26 = .ok (.invokevirtual 36, 3) := by decide +kernel
theorem dL_row_29 : decode cL_row 29 = .ok (.istore 5, 2) := by decide +kernel
theorem dL_row_31 : decode cL_row 31 = .ok (.iload_n 2, 1) := by decide +kernel
theorem dL_row_32 : decode cL_row 32 = .ok (.ifCond .lt 57, 3) := by decide +kernel
theorem dL_row_35 : decode cL_row 35 = .ok (.iload_n 2, 1) := by decide +kernel
theorem dL_row_36 : decode cL_row 36 = .ok (.iload_n 1, 1) := by decide +kernel
theorem dL_row_37 : decode cL_row 37 = .ok (.if_icmp .ge 52, 3) := by decide +kernel
theorem dL_row_40 : decode cL_row 40 = .ok (.iload_n 3, 1) := by decide +kernel
theorem dL_row_41 : decode cL_row 41 = .ok (.ifCond .lt 48, 3) := by decide +kernel
theorem dL_row_44 : decode cL_row 44 = .ok (.iload_n 3, 1) := by decide +kernel
theorem dL_row_45 : decode cL_row 45 = .ok (.iconst 3, 1) := by decide +kernel
theorem dL_row_46 : decode cL_row 46 = .ok (.if_icmp .gt 43, 3) := by decide +kernel
theorem dL_row_49 : decode cL_row 49 = .ok (.iload 4, 2) := by decide +kernel
theorem dL_row_51 : decode cL_row 51 = .ok (.iload_n 3, 1) := by decide +kernel
theorem dL_row_52 : decode cL_row 52 = .ok (.iconst 2, 1) := by decide +kernel
theorem dL_row_53 : decode cL_row 53 = .ok (.if_icmp .ge 10, 3) := by decide +kernel
theorem dL_row_56 : decode cL_row 56 = .ok (.iload 5, 2) := by decide +kernel
theorem dL_row_58 : decode cL_row 58 = .ok (.iconst 1, 1) := by decide +kernel
theorem dL_row_59 : decode cL_row 59 = .ok (.iadd, 1) := by decide +kernel
theorem dL_row_60 : decode cL_row 60 = .ok (.goto 7, 3) := by decide +kernel
theorem dL_row_63 : decode cL_row 63 = .ok (.iload 5, 2) := by decide +kernel
theorem dL_row_65 : decode cL_row 65 = .ok (.iconst 1, 1) := by decide +kernel
theorem dL_row_66 : decode cL_row 66 = .ok (.isub, 1) := by decide +kernel
theorem dL_row_67 : decode cL_row 67 = .ok (.if_icmp .ne 22, 3) := by decide +kernel
theorem dL_row_70 : decode cL_row 70 = .ok (.aload_n 0, 1) := by decide +kernel
theorem dL_row_71 : decode cL_row 71 = .ok (.iload_n 1, 1) := by decide +kernel
theorem dL_row_72 : decode cL_row 72 = .ok (.bipush 9, 2) := by decide +kernel
theorem dL_row_74 : decode cL_row 74 = .ok (.invokevirtual 36, 3) := by decide +kernel
theorem dL_row_77 : decode cL_row 77 = .ok (.aload_n 0, 1) := by decide +kernel
theorem dL_row_78 : decode cL_row 78 = .ok (.iload_n 2, 1) := by decide +kernel
theorem dL_row_79 : decode cL_row 79 = .ok (.bipush 9, 2) := by decide +kernel
theorem dL_row_81 : decode cL_row 81 = .ok (.invokevirtual 36, 3) := by decide +kernel
theorem dL_row_84 : decode cL_row 84 = .ok (.iconst 1, 1) := by decide +kernel
theorem dL_row_85 : decode cL_row 85 = .ok (.iadd, 1) := by decide +kernel
theorem dL_row_86 : decode cL_row 86 = .ok (.if_icmp .eq 5, 3) := by decide +kernel
theorem dL_row_89 : decode cL_row 89 = .ok (.iconst 0, 1) := by decide +kernel
theorem dL_row_90 : decode cL_row 90 = .ok (.ireturn, 1) := by decide +kernel
theorem dL_row_91 : decode cL_row 91 = .ok (.aload_n 0, 1) := by decide +kernel
theorem dL_row_92 : decode cL_row 92 = .ok (.iload_n 1, 1) := by decide +kernel
theorem dL_row_93 : decode cL_row 93 = .ok (.invokevirtual 43, 3) := by decide +kernel
theorem dL_row_96 : decode cL_row 96 = .ok (.istore 6, 2) := by decide +kernel
theorem dL_row_98 : decode cL_row 98 = .ok (.iload_n 3, 1) := by decide +kernel
theorem dL_row_99 : decode cL_row 99 = .ok (.ifCond .ne 14, 3) := by decide +kernel
theorem dL_row_102 : decode cL_row 102 = .ok (.aload_n 0, 1) := by decide +kernel
theorem dL_row_103 : decode cL_row 103 = .ok (.iload_n 1, 1) := by decide +kernel
theorem dL_row_104 : decode cL_row 104 = .ok (.iconst 0, 1) := by decide +kernel
theorem dL_row_105 : decode cL_row 105 = .ok (.invokevirtual 40, 3) := by decide +kernel
theorem dL_row_108 : decode cL_row 108 = .ok (.iload 6, 2) := by decide +kernel
theorem dL_row_110 : decode cL_row 110 = .ok (.if_icmp .ne 57, 3) := by decide +kernel
theorem dL_row_113 : decode cL_row 113 = .ok (.iload_n 3, 1) := by decide +kernel
theorem dL_row_114 : decode cL_row 114 = .ok (.iconst 1, 1) := by decide +kernel
theorem dL_row_115 : decode cL_row 115 = .ok (.if_icmp .ne 17, 3) := by decide +kernel
theorem dL_row_118 : decode cL_row 118 = .ok (.aload_n 0, 1) := by decide +kernel
theorem dL_row_119 : decode cL_row 119 = .ok (.iload_n 1, 1) := by decide +kernel
theorem dL_row_120 : decode cL_row 120 = .ok (.iload 4, 2) := by decide +kernel
theorem dL_row_122 : decode cL_row 122 = .ok (.iconst 1, 1) := by decide +kernel
theorem dL_row_123 : decode cL_row 123 = .ok (.isub, 1) := by decide +kernel
theorem dL_row_124 : decode cL_row 124 = .ok (.invokevirtual 40, 3) := by decide +kernel
theorem dL_row_127 : decode cL_row 127 = .ok (.iload 6, 2) := by decide +kernel
theorem dL_row_129 : decode cL_row 129 = .ok (.if_icmp .ne 38, 3) := by decide +kernel
theorem dL_row_132 : decode cL_row 132 = .ok (.iload_n 3, 1) := by decide +kernel
theorem dL_row_133 : decode cL_row 133 = .ok (.iconst 2, 1) := by decide +kernel
theorem dL_row_134 : decode cL_row 134 = .ok (.if_icmp .ne 14, 3) := by decide +kernel
theorem dL_row_137 : decode cL_row 137 = .ok (.aload_n 0, 1) := by decide +kernel
theorem dL_row_138 : decode cL_row 138 = .ok (.iload_n 2, 1) := by decide +kernel
theorem dL_row_139 : decode cL_row 139 = .ok (.iconst 0, 1) := by decide +kernel
theorem dL_row_140 : decode cL_row 140 = .ok (.invokevirtual 40, 3) := by decide +kernel
theorem dL_row_143 : decode cL_row 143 = .ok (.iload 6, 2) := by decide +kernel
theorem dL_row_145 : decode cL_row 145 = .ok (.if_icmp .ne 22, 3) := by decide +kernel
theorem dL_row_148 : decode cL_row 148 = .ok (.iload_n 3, 1) := by decide +kernel
theorem dL_row_149 : decode cL_row 149 = .ok (.iconst 3, 1) := by decide +kernel
theorem dL_row_150 : decode cL_row 150 = .ok (.if_icmp .ne 19, 3) := by decide +kernel
theorem dL_row_153 : decode cL_row 153 = .ok (.aload_n 0, 1) := by decide +kernel
theorem dL_row_154 : decode cL_row 154 = .ok (.iload_n 2, 1) := by decide +kernel
theorem dL_row_155 : decode cL_row 155 = .ok (.iload 5, 2) := by decide +kernel
theorem dL_row_157 : decode cL_row 157 = .ok (.iconst 1, 1) := by decide +kernel
theorem dL_row_158 : decode cL_row 158 = .ok (.isub, 1) := by decide +kernel
theorem dL_row_159 : decode cL_row 159 = .ok (.invokevirtual 40, 3) := by decide +kernel
theorem dL_row_162 : decode cL_row 162 = .ok (.iload 6, 2) := by decide +kernel
theorem dL_row_164 : decode cL_row 164 = .ok (.if_icmp .eq 5, 3) := by decide +kernel
theorem dL_row_167 : decode cL_row 167 = .ok (.iconst 0, 1) := by decide +kernel
theorem dL_row_168 : decode cL_row 168 = .ok (.ireturn, 1) := by decide +kernel
theorem dL_row_169 : decode cL_row 169 = .ok (.iload 4, 2) := by decide +kernel
theorem dL_row_171 : decode cL_row 171 = .ok (.iload 5, 2) := by decide +kernel
theorem dL_row_173 : decode cL_row 173 = .ok (.if_icmp .ge 8, 3) := by decide +kernel
theorem dL_row_176 : decode cL_row 176 = .ok (.iload 4, 2) := by decide +kernel
theorem dL_row_178 : decode cL_row 178 = .ok (.goto 5, 3) := by decide +kernel
theorem dL_row_181 : decode cL_row 181 = .ok (.iload 5, 2) := by decide +kernel
theorem dL_row_183 : decode cL_row 183 = .ok (.istore 7, 2) := by decide +kernel
theorem dL_row_185 : decode cL_row 185 = .ok (.iconst 0, 1) := by decide +kernel
theorem dL_row_186 : decode cL_row 186 = .ok (.istore 8, 2) := by decide +kernel
theorem dL_row_188 : decode cL_row 188 = .ok (.iload 8, 2) := by decide +kernel
theorem dL_row_190 : decode cL_row 190 = .ok (.iload 7, 2) := by decide +kernel
theorem dL_row_192 : decode cL_row 192 = .ok (.if_icmp .ge 51, 3) := by decide +kernel
theorem dL_row_195 : decode cL_row 195 = .ok (.aload_n 0, 1) := by decide +kernel
theorem dL_row_196 : decode cL_row 196 = .ok (.iload_n 1, 1) := by decide +kernel
theorem dL_row_197 : decode cL_row 197 = .ok (.iload_n 3, 1) := by decide +kernel
theorem dL_row_198 : decode cL_row 198 = .ok (.ifCond .ne 10, 3) := by decide +kernel
theorem dL_row_201 : decode cL_row 201 = .ok (.iload 8, 2) := by decide +kernel
theorem dL_row_203 : decode cL_row 203 = .ok (.iconst 1, 1) := by decide +kernel
theorem dL_row_204 : decode cL_row 204 = .ok (.iadd, 1) := by decide +kernel
theorem dL_row_205 : decode cL_row 205 = .ok (.goto 5, 3) := by decide +kernel
theorem dL_row_208 : decode cL_row 208 = .ok (.iload 8, 2) := by decide +kernel
theorem dL_row_210 : decode cL_row 210 = .ok (.invokevirtual 40, 3) := by decide +kernel
theorem dL_row_213 : decode cL_row 213 = .ok (.aload_n 0, 1) := by decide +kernel
theorem dL_row_214 : decode cL_row 214 = .ok (.iload_n 2, 1) := by decide +kernel
theorem dL_row_215 : decode cL_row 215 = .ok (.iload_n 3, 1) := by decide +kernel
theorem dL_row_216 : decode cL_row 216 = .ok (.iconst 2, 1) := by decide +kernel
theorem dL_row_217 : decode cL_row 217 = .ok (.if_icmp .ne 10, 3) := by decide +kernel
theorem dL_row_220 : decode cL_row 220 = .ok (.iload 8, 2) := by decide +kernel
theorem dL_row_222 : decode cL_row 222 = .ok (.iconst 1, 1) := by decide +kernel
theorem dL_row_223 : decode cL_row 223 = .ok (.iadd, 1) := by decide +kernel
theorem dL_row_224 : decode cL_row 224 = .ok (.goto 5, 3) := by decide +kernel
theorem dL_row_227 : decode cL_row 227 = .ok (.iload 8, 2) := by decide +kernel
theorem dL_row_229 : decode cL_row 229 = .ok (.invokevirtual 40, 3) := by decide +kernel
theorem dL_row_232 : decode cL_row 232 = .ok (.if_icmp .eq 5, 3) := by decide +kernel
theorem dL_row_235 : decode cL_row 235 = .ok (.iconst 0, 1) := by decide +kernel
theorem dL_row_236 : decode cL_row 236 = .ok (.ireturn, 1) := by decide +kernel
theorem dL_row_237 : decode cL_row 237 = .ok (.iinc 8 1, 3) := by decide +kernel
theorem dL_row_240 : decode cL_row 240 = .ok (.goto (-52), 3) := by decide +kernel
theorem dL_row_243 : decode cL_row 243 = .ok (.iconst 1, 1) := by decide +kernel
theorem dL_row_244 : decode cL_row 244 = .ok (.ireturn, 1) := by decide +kernel
