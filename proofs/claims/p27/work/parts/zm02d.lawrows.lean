/-! rows of the law: runs -/
set_option maxRecDepth 20000 in
theorem ggL_runs_X4_count : GoodIn wsL_runs wsX4_count := goodIn_ca (goodIn_r _ [5, 6, 7, 8, 9, 10, 11, 12, 13, 14, 15, 16, 17, 18, 19, 20, 21, 4, 22, 23, 24, 25, 26, 27, 28, 29, 30, 31, 32, 33, 34, 35, 36, 37, 38, 39, 40, 41, 42, 43, 44, 45, 46, 47, 48, 49, 50, 51, 52, 53, 54, 55, 56, 57, 58, 59, 60, 61, 62, 63, 64, 65, 66, 67, 68, 69, 70, 71, 72, 73, 74, 75, 76, 77, 78, 79, 80, 81, 82, 83, 326, 327, 328, 329, 330, 331, 332, 333, 334, 335, 336, 337, 338, 339, 340, 341, 342, 343, 344, 345, 346] (by decide +kernel) (by decide +kernel)) (goodIn_sub (fun _ h => List.mem_cons_of_mem _ (List.mem_append_left _ (List.mem_append_left _ (List.mem_append_right _ h)))) (by decide +kernel))
set_option maxRecDepth 20000 in
theorem gL_runs_X4_count : GoodIn wsL_runs (wsV RL 33 RX4 yX4_count wsX4_count) := goodIn_app (goodIn_of _ (by decide +kernel)) ggL_runs_X4_count
set_option maxRecDepth 20000 in
theorem ggL_runs_L_types : GoodIn wsL_runs wsL_types := goodIn_ca (goodIn_ca (goodIn_r _ [87, 88, 89, 90, 91, 4, 92, 93, 94, 95, 96, 86, 97, 98, 99, 100, 101, 102, 6, 7, 103, 104, 105, 106, 107, 108, 109, 110, 111, 21, 22, 326, 327, 328, 329, 330, 347, 348, 349, 350, 351, 352, 353, 354] (by decide +kernel) (by decide +kernel)) (goodIn_sub (fun _ h => List.mem_cons_of_mem _ (List.mem_append_left _ (List.mem_append_left _ (List.mem_append_right _ h)))) (by decide +kernel))) (goodIn_sub (fun _ h => List.mem_cons_of_mem _ (List.mem_append_left _ (List.mem_append_right _ h))) (by decide +kernel))
set_option maxRecDepth 20000 in
theorem gL_runs_L_types : GoodIn wsL_runs (va_wsS RL 89 yL_types wsL_types) := goodIn_app (goodIn_of _ (by decide +kernel)) ggL_runs_L_types
set_option maxRecDepth 20000 in
theorem ggL_runs_L_up : GoodIn wsL_runs wsL_up := goodIn_r _ [97, 98] (by decide +kernel) (by decide +kernel)
set_option maxRecDepth 20000 in
theorem gL_runs_L_up : GoodIn wsL_runs (va_wsS RL 75 yL_up wsL_up) := goodIn_app (goodIn_of _ (by decide +kernel)) ggL_runs_L_up
set_option maxRecDepth 20000 in
theorem ggL_runs_X4_leastRate : GoodIn wsL_runs wsX4_leastRate := goodIn_ca (goodIn_ca (goodIn_r _ [115, 116, 93, 8, 117, 118, 119, 120, 4, 121, 122, 123, 124, 125, 126, 12, 127, 14, 128, 129, 130, 131, 103, 104, 132, 133, 134, 108, 135, 136, 111, 110, 49, 50, 137, 138, 139, 140, 141, 142, 143, 144, 145, 146, 147, 148, 149, 150, 151, 152, 153, 21, 22, 154, 155, 156, 157, 158, 159, 160, 161, 162, 163, 164, 57, 165, 166, 167, 168, 169, 56, 58, 170, 24, 25, 26, 27, 28, 29, 30, 31, 32, 33, 34, 35, 36, 37, 38, 39, 40, 41, 42, 43, 44, 45, 46, 47, 48, 171, 172, 173, 174, 175, 176, 177, 178, 63, 64, 65, 66, 179, 180, 181, 182, 183, 184, 185, 186, 187, 188, 189, 190, 191, 192, 193, 194, 195, 196, 197, 198, 199, 200, 201, 202, 203, 204, 205, 206, 207, 208, 209, 210, 211, 212, 213, 214, 215, 216, 217, 81, 82, 83, 218, 219, 220, 221, 222, 223, 224, 225, 226, 227, 228, 229, 230, 231, 232, 233, 234, 235, 236, 237, 326, 327, 328, 329, 330, 355, 356, 357, 331, 332, 333, 334, 335, 347, 348, 349, 350, 351, 352, 353, 354, 336, 337, 338, 339, 340, 341, 342, 343, 344, 345, 346] (by decide +kernel) (by decide +kernel)) (goodIn_sub (fun _ h => List.mem_cons_of_mem _ (List.mem_append_right _ h)) (by decide +kernel))) (goodIn_sub (fun _ h => List.mem_cons_of_mem _ (List.mem_append_left _ (List.mem_append_right _ h))) (by decide +kernel))
set_option maxRecDepth 20000 in
theorem gL_runs_X4_leastRate : GoodIn wsL_runs (wsV RL 93 RX4 yX4_leastRate wsX4_leastRate) := goodIn_app (goodIn_of _ (by decide +kernel)) ggL_runs_X4_leastRate
set_option maxRecDepth 20000 in
theorem ggL_runs_X4_stalls : GoodIn wsL_runs wsX4_stalls := goodIn_ca (goodIn_ca (goodIn_ca (goodIn_r _ [241, 116, 93, 8, 117, 118, 119, 120, 4, 121, 122, 123, 124, 125, 126, 12, 127, 14, 242, 243, 244, 6, 7, 245, 246, 247, 128, 129, 130, 131, 103, 104, 132, 133, 134, 108, 135, 136, 111, 110, 49, 50, 137, 138, 139, 140, 141, 142, 143, 144, 145, 146, 147, 148, 149, 150, 151, 152, 153, 21, 22, 154, 155, 156, 157, 158, 159, 160, 161, 162, 163, 164, 57, 165, 166, 167, 168, 169, 56, 58, 170, 24, 25, 26, 27, 28, 29, 30, 31, 32, 33, 34, 35, 36, 37, 38, 39, 40, 41, 42, 43, 44, 45, 46, 47, 48, 171, 172, 173, 174, 175, 176, 177, 178, 63, 64, 65, 66, 179, 180, 181, 182, 183, 184, 185, 186, 187, 188, 189, 190, 191, 192, 193, 194, 195, 196, 197, 198, 199, 200, 201, 202, 203, 204, 205, 206, 207, 208, 209, 210, 211, 212, 213, 214, 215, 216, 217, 81, 82, 83, 218, 219, 220, 221, 222, 223, 224, 225, 226, 227, 228, 229, 230, 231, 232, 233, 234, 235, 236, 237, 326, 327, 328, 329, 330, 355, 356, 357, 331, 332, 333, 334, 335, 347, 348, 349, 350, 351, 352, 353, 354, 336, 337, 338, 339, 340, 341, 342, 343, 344, 345, 346] (by decide +kernel) (by decide +kernel)) (goodIn_sub (fun _ h => List.mem_cons_of_mem _ (List.mem_append_right _ h)) (by decide +kernel))) (goodIn_sub (fun _ h => List.mem_cons_of_mem _ (List.mem_append_left _ (List.mem_append_left _ (List.mem_append_right _ h)))) (by decide +kernel))) (goodIn_sub (fun _ h => List.mem_cons_of_mem _ (List.mem_append_left _ (List.mem_append_right _ h))) (by decide +kernel))
set_option maxRecDepth 20000 in
theorem gL_runs_X4_stalls : GoodIn wsL_runs (wsV RL 96 RX4 yX4_stalls wsX4_stalls) := goodIn_app (goodIn_of _ (by decide +kernel)) ggL_runs_X4_stalls
set_option maxRecDepth 20000 in
theorem ggL_runs_X4_worstWith : GoodIn wsL_runs wsX4_worstWith := goodIn_ca (goodIn_ca (goodIn_ca (goodIn_r _ [251, 116, 93, 8, 252, 118, 119, 120, 4, 121, 122, 123, 124, 125, 126, 12, 127, 14, 242, 243, 244, 6, 7, 245, 246, 247, 128, 129, 130, 131, 103, 104, 132, 133, 134, 108, 135, 136, 111, 110, 49, 50, 137, 138, 139, 140, 141, 142, 143, 144, 145, 146, 147, 148, 149, 150, 151, 152, 153, 21, 22, 154, 155, 156, 157, 158, 159, 160, 161, 162, 163, 164, 57, 165, 166, 167, 168, 169, 56, 58, 170, 24, 25, 26, 27, 28, 29, 30, 31, 32, 33, 34, 35, 36, 37, 38, 39, 40, 41, 42, 43, 44, 45, 46, 47, 48, 171, 172, 173, 174, 175, 176, 177, 178, 63, 64, 65, 66, 179, 180, 181, 182, 183, 184, 185, 186, 187, 188, 189, 190, 191, 192, 193, 194, 195, 196, 197, 198, 199, 200, 201, 202, 203, 204, 205, 206, 207, 208, 209, 210, 211, 212, 213, 214, 215, 216, 217, 81, 82, 83, 218, 219, 220, 221, 222, 223, 224, 225, 226, 227, 228, 229, 230, 231, 232, 233, 234, 235, 236, 237, 326, 327, 328, 329, 330, 355, 356, 357, 331, 332, 333, 334, 335, 347, 348, 349, 350, 351, 352, 353, 354, 336, 337, 338, 339, 340, 341, 342, 343, 344, 345, 346] (by decide +kernel) (by decide +kernel)) (goodIn_sub (fun _ h => List.mem_cons_of_mem _ (List.mem_append_right _ h)) (by decide +kernel))) (goodIn_sub (fun _ h => List.mem_cons_of_mem _ (List.mem_append_left _ (List.mem_append_left _ (List.mem_append_right _ h)))) (by decide +kernel))) (goodIn_sub (fun _ h => List.mem_cons_of_mem _ (List.mem_append_left _ (List.mem_append_right _ h))) (by decide +kernel))
set_option maxRecDepth 20000 in
theorem gL_runs_X4_worstWith : GoodIn wsL_runs (wsV RL 99 RX4 yX4_worstWith wsX4_worstWith) := goodIn_app (goodIn_of _ (by decide +kernel)) ggL_runs_X4_worstWith
set_option maxRecDepth 20000 in
theorem ggL_runs_X4_set : GoodIn wsL_runs wsX4_set := goodIn_ca (goodIn_r _ [256, 6, 7, 8, 257, 258, 4, 259, 245, 246, 247, 260, 261, 262, 263, 264, 265, 266, 267, 268, 269, 270, 12, 271, 272, 273, 274, 275, 276, 277, 278, 35, 36, 14, 279, 280, 28, 27, 47, 19, 281, 282, 283, 284, 23, 24, 25, 26, 29, 30, 31, 32, 33, 34, 37, 38, 39, 40, 41, 42, 43, 44, 45, 46, 48, 285, 172, 173, 174, 175, 176, 177, 178, 63, 64, 65, 66, 286, 287, 288, 289, 290, 291, 292, 293, 326, 327, 328, 329, 330, 331, 332, 333, 334, 335, 336, 337, 338, 339, 340, 341, 342, 343, 344, 345, 346] (by decide +kernel) (by decide +kernel)) (goodIn_sub (fun _ h => List.mem_cons_of_mem _ (List.mem_append_left _ (List.mem_append_left _ (List.mem_append_right _ h)))) (by decide +kernel))
set_option maxRecDepth 20000 in
theorem gL_runs_X4_set : GoodIn wsL_runs (wsV RL 102 RX4 yX4_set wsX4_set) := goodIn_app (goodIn_of _ (by decide +kernel)) ggL_runs_X4_set
set_option maxRecDepth 20000 in
theorem ggL_runs_X4_setting : GoodIn wsL_runs wsX4_setting := goodIn_ca (goodIn_r _ [297, 6, 7, 8, 286, 287, 288, 12, 289, 279, 280, 326, 327, 328, 329, 330, 331, 332, 333, 334, 335] (by decide +kernel) (by decide +kernel)) (goodIn_sub (fun _ h => List.mem_cons_of_mem _ (List.mem_append_left _ (List.mem_append_left _ (List.mem_append_right _ h)))) (by decide +kernel))
set_option maxRecDepth 20000 in
theorem gL_runs_X4_setting : GoodIn wsL_runs (wsV RL 29 RX4 yX4_setting wsX4_setting) := goodIn_app (goodIn_of _ (by decide +kernel)) ggL_runs_X4_setting
set_option maxRecDepth 20000 in
theorem ggL_runs_X4_run : GoodIn wsL_runs wsX4_run := goodIn_ca (goodIn_r _ [301, 93, 8, 118, 119, 120, 4, 121, 122, 123, 124, 125, 126, 12, 127, 14, 132, 133, 134, 108, 135, 136, 111, 110, 49, 50, 137, 138, 139, 140, 141, 142, 143, 144, 145, 146, 147, 148, 149, 150, 151, 152, 153, 21, 22, 263, 264, 265, 266, 267, 268, 269, 270, 271, 272, 273, 274, 275, 276, 277, 278, 35, 36, 279, 280, 28, 27, 47, 19, 281, 282, 283, 284, 23, 24, 25, 26, 29, 30, 31, 32, 33, 34, 37, 38, 39, 40, 41, 42, 43, 44, 45, 46, 48, 285, 172, 173, 174, 175, 176, 177, 178, 63, 64, 65, 66, 302, 303, 304, 305, 306, 307, 184, 185, 186, 308, 309, 310, 311, 312, 180, 181, 182, 313, 188, 189, 190, 191, 192, 314, 194, 195, 196, 315, 316, 317, 318, 20, 319, 198, 199, 200, 201, 202, 203, 204, 205, 206, 207, 208, 209, 210, 211, 212, 213, 214, 215, 56, 57, 58, 216, 164, 165, 217, 81, 82, 83, 218, 219, 220, 221, 222, 223, 224, 225, 226, 227, 228, 229, 230, 231, 232, 233, 234, 235, 236, 237, 326, 327, 328, 329, 330, 331, 332, 333, 334, 335, 347, 348, 349, 350, 351, 352, 353, 354, 336, 337, 338, 339, 340, 341, 342, 343, 344, 345, 346] (by decide +kernel) (by decide +kernel)) (goodIn_sub (fun _ h => List.mem_cons_of_mem _ (List.mem_append_right _ h)) (by decide +kernel))
set_option maxRecDepth 20000 in
theorem gL_runs_X4_run : GoodIn wsL_runs (wsV RL 105 RX4 yX4_run wsX4_run) := goodIn_app (goodIn_of _ (by decide +kernel)) ggL_runs_X4_run
set_option maxRecDepth 20000 in
theorem ggL_runs_X4_version : GoodIn wsL_runs wsX4_version := goodIn_ca (goodIn_ca (goodIn_r _ [323, 6, 7, 8, 118, 119, 120, 4, 121, 122, 123, 124, 125, 126, 12, 127, 14, 324, 24, 25, 26, 27, 28, 29, 30, 31, 32, 33, 34, 35, 36, 37, 38, 39, 40, 41, 42, 43, 44, 45, 46, 47, 48, 325, 60, 61, 62, 63, 64, 65, 66, 326, 327, 328, 329, 330, 331, 332, 333, 334, 335, 336, 337, 338, 339, 340, 341, 342, 343, 344, 345, 346] (by decide +kernel) (by decide +kernel)) (goodIn_sub (fun _ h => List.mem_cons_of_mem _ (List.mem_append_left _ (List.mem_append_left _ (List.mem_append_right _ h)))) (by decide +kernel))) (goodIn_sub (fun _ h => List.mem_cons_of_mem _ (List.mem_append_right _ h)) (by decide +kernel))
set_option maxRecDepth 20000 in
theorem gL_runs_X4_version : GoodIn wsL_runs (wsV RL 36 RX4 yX4_version wsX4_version) := goodIn_app (goodIn_of _ (by decide +kernel)) ggL_runs_X4_version
theorem dL_runs_0 : decode cL_runs 0 = .ok (.aload_n 0, 1) := by decide +kernel
theorem dL_runs_1 : decode cL_runs 1 = .ok (.iconst 0, 1) := by decide +kernel
theorem dL_runs_2 : decode cL_runs 2 = .ok (.invokevirtual 33, 3) := by decide +kernel
theorem dL_runs_5 : decode cL_runs 5 = .ok (.istore_n 3, 1) := by decide +kernel
theorem dL_runs_6 : decode cL_runs 6 = .ok (.aload_n 0, 1) := by decide +kernel
theorem dL_runs_7 : decode cL_runs 7 = .ok (.iload_n 1, 1) := by decide +kernel
theorem dL_runs_8 : decode cL_runs 8 = .ok (.invokestatic 89, 3) := by decide +kernel
theorem dL_runs_11 : decode cL_runs 11 = .ok (.istore 4, 2) := by decide +kernel
theorem dL_runs_13 : decode cL_runs 13 = .ok (.iload_n 2, 1) := by decide +kernel
theorem dL_runs_14 : decode cL_runs 14 = .ok (.iload_n 3, 1) := by decide +kernel
theorem dL_runs_15 : decode cL_runs 15 = .ok (.invokestatic 75, 3) := by decide +kernel
theorem dL_runs_18 : decode cL_runs 18 = .ok (.istore 5, 2) := by decide +kernel
theorem dL_runs_20 : decode cL_runs 20 = .ok (.iconst 1, 1) := by decide +kernel
theorem dL_runs_21 : decode cL_runs 21 = .ok (.iload_n 2, 1) := by decide +kernel
theorem dL_runs_22 : decode cL_runs 22 = .ok (.bipush 8, 2) := by decide +kernel
theorem dL_runs_24 : decode cL_runs 24 = .ok (.ishr, 1) := by decide +kernel
theorem dL_runs_25 : decode cL_runs 25 = .ok (.bipush 9, 2) := by decide +kernel
theorem dL_runs_27 : decode cL_runs 27 = .ok (.invokestatic 75, 3) := by decide +kernel
theorem dL_runs_30 : decode cL_runs 30 = .ok (.iadd, 1) := by decide +kernel
theorem dL_runs_31 : decode cL_runs 31 = .ok (.istore 6, 2) := by decide +kernel
theorem dL_runs_33 : decode cL_runs 33 = .ok (.aload_n 0, 1) := by decide +kernel
theorem dL_runs_34 : decode cL_runs 34 = .ok (.iload 5, 2) := by decide +kernel
theorem dL_runs_36 : decode cL_runs 36 = .ok (.invokevirtual 93, 3) := by decide +kernel
theorem dL_runs_39 : decode cL_runs 39 = .ok (.istore 7, 2) := by decide +kernel
theorem dL_runs_41 : decode cL_runs 41 = .ok (.iconst 1, 1) := by decide +kernel
theorem dL_runs_42 : decode cL_runs 42 = .ok (.istore 8, 2) := by decide +kernel
theorem dL_runs_44 : decode cL_runs 44 = .ok (.iload 8, 2) := by decide +kernel
theorem dL_runs_46 : decode cL_runs 46 = .ok (.iload 7, 2) := by decide +kernel
theorem dL_runs_48 : decode cL_runs 48 = .ok (.ifCond .ge 8, 3) := by decide +kernel
theorem dL_runs_51 : decode cL_runs 51 = .ok (.bipush 10, 2) := by decide +kernel
theorem dL_runs_53 : decode cL_runs 53 = .ok (.goto 5, 3) := by decide +kernel
theorem dL_runs_56 : decode cL_runs 56 = .ok (.iload 7, 2) := by decide +kernel
theorem dL_runs_58 : decode cL_runs 58 = .ok (.if_icmp .ge 23, 3) := by decide +kernel
theorem dL_runs_61 : decode cL_runs 61 = .ok (.aload_n 0, 1) := by decide +kernel
theorem dL_runs_62 : decode cL_runs 62 = .ok (.iload 5, 2) := by decide +kernel
theorem dL_runs_64 : decode cL_runs 64 = .ok (.iload 8, 2) := by decide +kernel
theorem dL_runs_66 : decode cL_runs 66 = .ok (.invokevirtual 96, 3) := by decide +kernel
theorem dL_runs_69 : decode cL_runs 69 = .ok (.iconst 1, 1) := by decide +kernel
theorem dL_runs_70 : decode cL_runs 70 = .ok (.if_icmp .ge 5, 3) := by decide +kernel
theorem dL_runs_73 : decode cL_runs 73 = .ok (.iconst 0, 1) := by decide +kernel
theorem dL_runs_74 : decode cL_runs 74 = .ok (.ireturn, 1) := by decide +kernel
theorem dL_runs_75 : decode cL_runs 75 = .ok (.iinc 8 1, 3) := by decide +kernel
theorem dL_runs_78 : decode cL_runs 78 = .ok (.goto (-34), 3) := by decide +kernel
theorem dL_runs_81 : decode cL_runs 81 = .ok (.iload 7, 2) := by decide +kernel
theorem dL_runs_83 : decode cL_runs 83 = .ok (.ifCond .le 14, 3) := by decide +kernel
theorem dL_runs_86 : decode cL_runs 86 = .ok (.aload_n 0, 1) := by decide +kernel
theorem dL_runs_87 : decode cL_runs 87 = .ok (.iload 5, 2) := by decide +kernel
theorem dL_runs_89 : decode cL_runs 89 = .ok (.iload 7, 2) := by decide +kernel
theorem dL_runs_91 : decode cL_runs 91 = .ok (.invokevirtual 96, 3) := by decide +kernel
theorem dL_runs_94 : decode cL_runs 94 = .ok (.ifCond .ne 12, 3) := by decide +kernel
theorem dL_runs_97 : decode cL_runs 97 = .ok (.aload_n 0, 1) := by decide +kernel
theorem dL_runs_98 : decode cL_runs 98 = .ok (.iconst 0, 1) := by decide +kernel
theorem dL_runs_99 : decode cL_runs 99 = .ok (.invokevirtual 33, 3) := by decide +kernel
theorem dL_runs_102 : decode cL_runs 102 = .ok (.iload_n 3, 1) := by decide +kernel
theorem dL_runs_103 : decode cL_runs 103 = .ok (.if_icmp .eq 5, 3) := by decide +kernel
theorem dL_runs_106 : decode cL_runs 106 = .ok (.iconst 0, 1) := by decide +kernel
theorem dL_runs_107 : decode cL_runs 107 = .ok (.ireturn, 1) := by decide +kernel
theorem dL_runs_108 : decode cL_runs 108 = .ok (.aload_n 0, 1) := by decide +kernel
theorem dL_runs_109 : decode cL_runs 109 = .ok (.iload 5, 2) := by decide +kernel
theorem dL_runs_111 : decode cL_runs 111 = .ok (.iload 6, 2) := by decide +kernel
theorem dL_runs_113 : decode cL_runs 113 = .ok (.invokevirtual 96, 3) := by decide +kernel
theorem dL_runs_116 : decode cL_runs 116 = .ok (.istore 8, 2) := by decide +kernel
theorem dL_runs_118 : decode cL_runs 118 = .ok (.aload_n 0, 1) := by decide +kernel
theorem dL_runs_119 : decode cL_runs 119 = .ok (.iload 5, 2) := by decide +kernel
theorem dL_runs_121 : decode cL_runs 121 = .ok (.iload 6, 2) := by decide +kernel
theorem dL_runs_123 : decode cL_runs 123 = .ok (.invokevirtual 99, 3) := by decide +kernel
theorem dL_runs_126 : decode cL_runs 126 = .ok (.istore 9, 2) := by decide +kernel
theorem dL_runs_128 : decode cL_runs 128 = .ok (.aload_n 0, 1) := by decide +kernel
theorem dL_runs_129 : decode cL_runs 129 = .ok (.iconst 0, 1) := by decide +kernel
theorem dL_runs_130 : decode cL_runs 130 = .ok (.iload 6, 2) := by decide +kernel
theorem dL_runs_132 : decode cL_runs 132 = .ok (.invokevirtual 102, 3) := by decide +kernel
theorem dL_runs_135 : decode cL_runs 135 = .ok (.iconst 1, 1) := by decide +kernel
theorem dL_runs_136 : decode cL_runs 136 = .ok (.if_icmp .lt 13, 3) := by decide +kernel
theorem dL_runs_139 : decode cL_runs 139 = .ok (.aload_n 0, 1) := by decide +kernel
theorem dL_runs_140 : decode cL_runs 140 = .ok (.iconst 0, 1) := by decide +kernel
theorem dL_runs_141 : decode cL_runs 141 = .ok (.invokevirtual 29, 3) := by decide +kernel
theorem dL_runs_144 : decode cL_runs 144 = .ok (.iload 6, 2) := by decide +kernel
theorem dL_runs_146 : decode cL_runs 146 = .ok (.if_icmp .eq 5, 3) := by decide +kernel
theorem dL_runs_149 : decode cL_runs 149 = .ok (.iconst 0, 1) := by decide +kernel
theorem dL_runs_150 : decode cL_runs 150 = .ok (.ireturn, 1) := by decide +kernel
theorem dL_runs_151 : decode cL_runs 151 = .ok (.aload_n 0, 1) := by decide +kernel
theorem dL_runs_152 : decode cL_runs 152 = .ok (.iload 5, 2) := by decide +kernel
theorem dL_runs_154 : decode cL_runs 154 = .ok (.invokevirtual 105, 3) := by decide +kernel
theorem dL_runs_157 : decode cL_runs 157 = .ok (.istore 10, 2) := by decide +kernel
theorem dL_runs_159 : decode cL_runs 159 = .ok (.iconst 0, 1) := by decide +kernel
theorem dL_runs_160 : decode cL_runs 160 = .ok (.istore 11, 2) := by decide +kernel
theorem dL_runs_162 : decode cL_runs 162 = .ok (.iconst 0, 1) := by decide +kernel
theorem dL_runs_163 : decode cL_runs 163 = .ok (.istore 12, 2) := by decide +kernel
theorem dL_runs_165 : decode cL_runs 165 = .ok (.iload_n 3, 1) := by decide +kernel
theorem dL_runs_166 : decode cL_runs 166 = .ok (.istore 13, 2) := by decide +kernel
theorem dL_runs_168 : decode cL_runs 168 = .ok (.iload 13, 2) := by decide +kernel
theorem dL_runs_170 : decode cL_runs 170 = .ok (.iload_n 3, 1) := by decide +kernel
theorem dL_runs_171 : decode cL_runs 171 = .ok (.iload 10, 2) := by decide +kernel
theorem dL_runs_173 : decode cL_runs 173 = .ok (.iadd, 1) := by decide +kernel
theorem dL_runs_174 : decode cL_runs 174 = .ok (.if_icmp .ge 85, 3) := by decide +kernel
theorem dL_runs_177 : decode cL_runs 177 = .ok (.iload 11, 2) := by decide +kernel
theorem dL_runs_179 : decode cL_runs 179 = .ok (.aload_n 0, 1) := by decide +kernel
theorem dL_runs_180 : decode cL_runs 180 = .ok (.iload 13, 2) := by decide +kernel
theorem dL_runs_182 : decode cL_runs 182 = .ok (.bipush 7, 2) := by decide +kernel
theorem dL_runs_184 : decode cL_runs 184 = .ok (.invokevirtual 36, 3) := by decide +kernel
theorem dL_runs_187 : decode cL_runs 187 = .ok (.ifCond .le 7, 3) := by decide +kernel
theorem dL_runs_190 : decode cL_runs 190 = .ok (.iconst 1, 1) := by decide +kernel
theorem dL_runs_191 : decode cL_runs 191 = .ok (.goto 4, 3) := by decide +kernel
theorem dL_runs_194 : decode cL_runs 194 = .ok (.iconst 0, 1) := by decide +kernel
theorem dL_runs_195 : decode cL_runs 195 = .ok (.iadd, 1) := by decide +kernel
theorem dL_runs_196 : decode cL_runs 196 = .ok (.istore 11, 2) := by decide +kernel
theorem dL_runs_198 : decode cL_runs 198 = .ok (.aload_n 0, 1) := by decide +kernel
theorem dL_runs_199 : decode cL_runs 199 = .ok (.iload 13, 2) := by decide +kernel
theorem dL_runs_201 : decode cL_runs 201 = .ok (.bipush 6, 2) := by decide +kernel
theorem dL_runs_203 : decode cL_runs 203 = .ok (.invokevirtual 36, 3) := by decide +kernel
theorem dL_runs_206 : decode cL_runs 206 = .ok (.iload 12, 2) := by decide +kernel
theorem dL_runs_208 : decode cL_runs 208 = .ok (.if_icmp .le 14, 3) := by decide +kernel
theorem dL_runs_211 : decode cL_runs 211 = .ok (.aload_n 0, 1) := by decide +kernel
theorem dL_runs_212 : decode cL_runs 212 = .ok (.iload 13, 2) := by decide +kernel
theorem dL_runs_214 : decode cL_runs 214 = .ok (.bipush 6, 2) := by decide +kernel
theorem dL_runs_216 : decode cL_runs 216 = .ok (.invokevirtual 36, 3) := by decide +kernel
theorem dL_runs_219 : decode cL_runs 219 = .ok (.goto 5, 3) := by decide +kernel
theorem dL_runs_222 : decode cL_runs 222 = .ok (.iload 12, 2) := by decide +kernel
theorem dL_runs_224 : decode cL_runs 224 = .ok (.istore 12, 2) := by decide +kernel
theorem dL_runs_226 : decode cL_runs 226 = .ok (.aload_n 0, 1) := by decide +kernel
theorem dL_runs_227 : decode cL_runs 227 = .ok (.iload 13, 2) := by decide +kernel
theorem dL_runs_229 : decode cL_runs 229 = .ok (.iconst 0, 1) := by decide +kernel
theorem dL_runs_230 : decode cL_runs 230 = .ok (.invokevirtual 36, 3) := by decide +kernel
theorem dL_runs_233 : decode cL_runs 233 = .ok (.iload 13, 2) := by decide +kernel
theorem dL_runs_235 : decode cL_runs 235 = .ok (.iload_n 3, 1) := by decide +kernel
theorem dL_runs_236 : decode cL_runs 236 = .ok (.if_icmp .ne 8, 3) := by decide +kernel
theorem dL_runs_239 : decode cL_runs 239 = .ok (.iload 5, 2) := by decide +kernel
theorem dL_runs_241 : decode cL_runs 241 = .ok (.goto 7, 3) := by decide +kernel
theorem dL_runs_244 : decode cL_runs 244 = .ok (.iload 13, 2) := by decide +kernel
theorem dL_runs_246 : decode cL_runs 246 = .ok (.iconst 1, 1) := by decide +kernel
theorem dL_runs_247 : decode cL_runs 247 = .ok (.isub, 1) := by decide +kernel
theorem dL_runs_248 : decode cL_runs 248 = .ok (.if_icmp .eq 5, 3) := by decide +kernel
theorem dL_runs_251 : decode cL_runs 251 = .ok (.iconst 0, 1) := by decide +kernel
theorem dL_runs_252 : decode cL_runs 252 = .ok (.ireturn, 1) := by decide +kernel
theorem dL_runs_253 : decode cL_runs 253 = .ok (.iinc 13 1, 3) := by decide +kernel
theorem dL_runs_256 : decode cL_runs 256 = .ok (.goto (-88), 3) := by decide +kernel
theorem dL_runs_259 : decode cL_runs 259 = .ok (.iload 10, 2) := by decide +kernel
theorem dL_runs_261 : decode cL_runs 261 = .ok (.ifCond .lt 40, 3) := by decide +kernel
theorem dL_runs_264 : decode cL_runs 264 = .ok (.iload 10, 2) := by decide +kernel
theorem dL_runs_266 : decode cL_runs 266 = .ok (.iload 4, 2) := by decide +kernel
theorem dL_runs_268 : decode cL_runs 268 = .ok (.if_icmp .gt 33, 3) := by decide +kernel
theorem dL_runs_271 : decode cL_runs 271 = .ok (.aload_n 0, 1) := by decide +kernel
theorem dL_runs_272 : decode cL_runs 272 = .ok (.iconst 0, 1) := by decide +kernel
theorem dL_runs_273 : decode cL_runs 273 = .ok (.invokevirtual 33, 3) := by decide +kernel
theorem dL_runs_276 : decode cL_runs 276 = .ok (.iload_n 3, 1) := by decide +kernel
theorem dL_runs_277 : decode cL_runs 277 = .ok (.iload 10, 2) := by decide +kernel
theorem dL_runs_279 : decode cL_runs 279 = .ok (.iadd, 1) := by decide +kernel
theorem dL_runs_280 : decode cL_runs 280 = .ok (.if_icmp .ne 21, 3) := by decide +kernel
theorem dL_runs_283 : decode cL_runs 283 = .ok (.iload 11, 2) := by decide +kernel
theorem dL_runs_285 : decode cL_runs 285 = .ok (.iload 8, 2) := by decide +kernel
theorem dL_runs_287 : decode cL_runs 287 = .ok (.if_icmp .ne 14, 3) := by decide +kernel
theorem dL_runs_290 : decode cL_runs 290 = .ok (.iload 12, 2) := by decide +kernel
theorem dL_runs_292 : decode cL_runs 292 = .ok (.iload 9, 2) := by decide +kernel
theorem dL_runs_294 : decode cL_runs 294 = .ok (.if_icmp .ne 7, 3) := by decide +kernel
theorem dL_runs_297 : decode cL_runs 297 = .ok (.iconst 1, 1) := by decide +kernel
theorem dL_runs_298 : decode cL_runs 298 = .ok (.goto 4, 3) := by decide +kernel
theorem dL_runs_301 : decode cL_runs 301 = .ok (.iconst 0, 1) := by decide +kernel
theorem dL_runs_302 : decode cL_runs 302 = .ok (.ireturn, 1) := by decide +kernel
