/-! rows of the law: acts -/
set_option maxRecDepth 20000 in
theorem ggL_acts_X4_digest : GoodIn wsL_acts wsX4_digest := goodIn_r _ [5, 6, 7, 8, 9, 10, 11, 12, 13, 4, 14, 15, 16, 17, 18, 19, 20, 21, 22, 23, 24, 25, 26, 27, 28, 29, 30, 31, 32, 33, 34, 35, 36, 37, 38, 39, 40, 41, 42, 43, 44, 45, 46, 47, 48, 49, 50, 51, 52, 53, 54, 55, 56, 57, 58, 59, 60, 61, 62, 63, 64, 65, 66, 67, 68, 69, 70, 71, 72, 73, 74, 75, 76, 77, 78, 79, 80, 81, 82, 83, 84, 85, 86, 87, 88, 89, 90, 91, 92, 93, 94, 95, 96, 97, 98, 99, 100, 101, 102, 103, 104, 105, 106, 292, 293, 294, 295, 296, 297, 298, 299, 300, 301, 302, 303, 304, 305, 306, 307, 308, 309, 310, 311, 312, 313, 314, 315, 316, 317, 318, 319, 320] (by decide +kernel) (by decide +kernel)
set_option maxRecDepth 20000 in
theorem gL_acts_X4_digest : GoodIn wsL_acts (wsV RL 108 RX4 yX4_digest wsX4_digest) := goodIn_app (goodIn_of _ (by decide +kernel)) ggL_acts_X4_digest
set_option maxRecDepth 20000 in
theorem ggL_acts_L_mark : GoodIn wsL_acts wsL_mark := goodIn_ca (goodIn_ca (goodIn_r _ [110, 111, 112, 113, 114, 4, 115, 116, 117, 9, 91, 92, 93, 19, 94, 95, 96, 118, 119, 120, 121, 16, 17, 18, 20, 21, 22, 23, 24, 25, 26, 27, 28, 29, 30, 31, 32, 33, 34, 35, 36, 37, 38, 39, 40, 41, 42, 43, 44, 45, 46, 47, 48, 49, 50, 51, 52, 53, 54, 55, 56, 57, 58, 59, 60, 61, 62, 63, 64, 65, 66, 67, 68, 69, 70, 71, 72, 73, 74, 75, 76, 77, 78, 79, 80, 81, 82, 83, 84, 85, 86, 87, 88, 89, 90, 122, 123, 124, 125, 126, 127, 128, 129, 130, 131, 132, 133, 134, 135, 97, 101, 136, 137, 138, 139, 140, 141, 142, 143, 144, 145, 146, 147, 148, 149, 103, 104, 105, 106, 292, 293, 294, 295, 296, 305, 306, 307, 308, 309, 310, 311, 312, 313, 314, 315, 316, 317, 318, 319, 320] (by decide +kernel) (by decide +kernel)) (goodIn_sub (fun _ h => List.mem_cons_of_mem _ (List.mem_append_left _ (List.mem_append_left _ (List.mem_append_left _ (List.mem_append_right _ h))))) (by decide +kernel))) (goodIn_sub (fun _ h => List.mem_cons_of_mem _ (List.mem_append_left _ (List.mem_append_left _ (List.mem_append_right _ h)))) (by decide +kernel))
set_option maxRecDepth 20000 in
theorem gL_acts_L_mark : GoodIn wsL_acts (va_wsS RL 112 yL_mark wsL_mark) := goodIn_app (goodIn_of _ (by decide +kernel)) ggL_acts_L_mark
set_option maxRecDepth 20000 in
theorem ggL_acts_X4_count : GoodIn wsL_acts wsX4_count := goodIn_ca (goodIn_r _ [121, 116, 117, 9, 16, 17, 18, 19, 20, 21, 22, 23, 24, 25, 26, 27, 28, 4, 29, 30, 31, 32, 33, 34, 35, 36, 37, 38, 39, 40, 41, 42, 43, 44, 45, 46, 47, 48, 49, 50, 51, 52, 53, 54, 55, 56, 57, 58, 59, 60, 61, 62, 63, 64, 65, 66, 67, 68, 69, 70, 71, 72, 73, 74, 75, 76, 77, 78, 79, 80, 81, 82, 83, 84, 85, 86, 87, 88, 89, 90, 292, 293, 294, 295, 296, 305, 306, 307, 308, 309, 310, 311, 312, 313, 314, 315, 316, 317, 318, 319, 320] (by decide +kernel) (by decide +kernel)) (goodIn_sub (fun _ h => List.mem_cons_of_mem _ (List.mem_append_left _ (List.mem_append_left _ (List.mem_append_left _ (List.mem_append_right _ h))))) (by decide +kernel))
set_option maxRecDepth 20000 in
theorem gL_acts_X4_count : GoodIn wsL_acts (wsV RL 33 RX4 yX4_count wsX4_count) := goodIn_app (goodIn_of _ (by decide +kernel)) ggL_acts_X4_count
set_option maxRecDepth 20000 in
theorem ggL_acts_L_up : GoodIn wsL_acts wsL_up := goodIn_r _ [152, 153] (by decide +kernel) (by decide +kernel)
set_option maxRecDepth 20000 in
theorem gL_acts_L_up : GoodIn wsL_acts (va_wsS RL 75 yL_up wsL_up) := goodIn_app (goodIn_of _ (by decide +kernel)) ggL_acts_L_up
set_option maxRecDepth 20000 in
theorem ggL_acts_X4_version : GoodIn wsL_acts wsX4_version := goodIn_ca (goodIn_ca (goodIn_r _ [125, 116, 117, 9, 126, 127, 128, 4, 129, 130, 131, 132, 133, 134, 19, 135, 21, 97, 31, 32, 33, 34, 35, 36, 37, 38, 39, 40, 41, 42, 43, 44, 45, 46, 47, 48, 49, 50, 51, 52, 53, 54, 55, 101, 67, 68, 69, 70, 71, 72, 73, 292, 293, 294, 295, 296, 305, 306, 307, 308, 309, 310, 311, 312, 313, 314, 315, 316, 317, 318, 319, 320] (by decide +kernel) (by decide +kernel)) (goodIn_sub (fun _ h => List.mem_cons_of_mem _ (List.mem_append_left _ (List.mem_append_left _ (List.mem_append_left _ (List.mem_append_right _ h))))) (by decide +kernel))) (goodIn_sub (fun _ h => List.mem_cons_of_mem _ (List.mem_append_left _ (List.mem_append_left _ (List.mem_append_right _ h)))) (by decide +kernel))
set_option maxRecDepth 20000 in
theorem gL_acts_X4_version : GoodIn wsL_acts (wsV RL 36 RX4 yX4_version wsX4_version) := goodIn_app (goodIn_of _ (by decide +kernel)) ggL_acts_X4_version
set_option maxRecDepth 20000 in
theorem ggL_acts_X4_set : GoodIn wsL_acts wsX4_set := goodIn_ca (goodIn_r _ [157, 116, 117, 9, 158, 159, 4, 160, 161, 162, 163, 164, 165, 166, 167, 168, 169, 170, 11, 171, 172, 173, 19, 174, 175, 176, 177, 178, 179, 180, 181, 42, 43, 21, 95, 96, 35, 34, 54, 26, 182, 183, 184, 185, 30, 31, 32, 33, 36, 37, 38, 39, 40, 41, 44, 45, 46, 47, 48, 49, 50, 51, 52, 53, 55, 186, 187, 188, 189, 190, 191, 192, 193, 70, 71, 72, 73, 91, 92, 93, 94, 194, 195, 196, 197, 292, 293, 294, 295, 296, 305, 306, 307, 308, 309, 310, 311, 312, 313, 314, 315, 316, 317, 318, 319, 320] (by decide +kernel) (by decide +kernel)) (goodIn_sub (fun _ h => List.mem_cons_of_mem _ (List.mem_append_left _ (List.mem_append_left _ (List.mem_append_left _ (List.mem_append_right _ h))))) (by decide +kernel))
set_option maxRecDepth 20000 in
theorem gL_acts_X4_set : GoodIn wsL_acts (wsV RL 102 RX4 yX4_set wsX4_set) := goodIn_app (goodIn_of _ (by decide +kernel)) ggL_acts_X4_set
set_option maxRecDepth 20000 in
theorem ggL_acts_X4_undo : GoodIn wsL_acts wsX4_undo := goodIn_ca (goodIn_r _ [201, 202, 203, 11, 171, 9, 292, 293, 294, 295, 296] (by decide +kernel) (by decide +kernel)) (goodIn_sub (fun _ h => List.mem_cons_of_mem _ (List.mem_append_left _ (List.mem_append_right _ h))) (by decide +kernel))
set_option maxRecDepth 20000 in
theorem gL_acts_X4_undo : GoodIn wsL_acts (wsV RL 116 RX4 yX4_undo wsX4_undo) := goodIn_app (goodIn_of _ (by decide +kernel)) ggL_acts_X4_undo
set_option maxRecDepth 20000 in
theorem ggL_acts_L_dropOr : GoodIn wsL_acts wsL_dropOr := goodIn_ca (goodIn_r _ [206, 207, 208, 209, 210, 4, 211, 202, 203, 9, 10, 167, 168, 169, 170, 11, 171, 172, 173, 19, 174, 175, 176, 177, 178, 179, 180, 181, 42, 43, 21, 95, 96, 35, 34, 54, 26, 182, 183, 184, 185, 30, 31, 32, 33, 36, 37, 38, 39, 40, 41, 44, 45, 46, 47, 48, 49, 50, 51, 52, 53, 55, 186, 187, 188, 189, 190, 191, 192, 193, 70, 71, 72, 73, 292, 293, 294, 295, 296, 305, 306, 307, 308, 309, 310, 311, 312, 313, 314, 315, 316, 317, 318, 319, 320] (by decide +kernel) (by decide +kernel)) (goodIn_sub (fun _ h => List.mem_cons_of_mem _ (List.mem_append_left _ (List.mem_append_right _ h))) (by decide +kernel))
set_option maxRecDepth 20000 in
theorem gL_acts_L_dropOr : GoodIn wsL_acts (va_wsS RL 119 yL_dropOr wsL_dropOr) := goodIn_app (goodIn_of _ (by decide +kernel)) ggL_acts_L_dropOr
set_option maxRecDepth 20000 in
theorem ggL_acts_L_popOr : GoodIn wsL_acts wsL_popOr := goodIn_ca (goodIn_ca (goodIn_ca (goodIn_r _ [214, 215, 207, 216, 217, 218, 4, 219, 220, 221, 202, 203, 9, 126, 127, 128, 129, 130, 131, 132, 133, 134, 19, 135, 21, 97, 31, 32, 33, 34, 35, 36, 37, 38, 39, 40, 41, 42, 43, 44, 45, 46, 47, 48, 49, 50, 51, 52, 53, 54, 55, 102, 71, 72, 73, 222, 223, 224, 225, 226, 227, 228, 229, 30, 230, 231, 232, 233, 234, 235, 70, 167, 168, 169, 170, 11, 171, 172, 173, 174, 175, 176, 177, 178, 179, 180, 181, 95, 96, 26, 182, 183, 184, 185, 186, 187, 188, 189, 190, 191, 192, 193, 236, 237, 238, 239, 27, 240, 241, 242, 243, 244, 245, 246, 247, 248, 249, 250, 104, 105, 106, 56, 57, 28, 29, 251, 252, 253, 254, 255, 63, 64, 65, 256, 257, 258, 259, 88, 89, 90, 260, 261, 262, 263, 264, 265, 266, 267, 268, 269, 270, 271, 272, 273, 274, 275, 276, 277, 278, 279, 292, 293, 294, 295, 296, 305, 306, 307, 308, 309, 310, 311, 312, 313, 314, 315, 316, 317, 318, 319, 320] (by decide +kernel) (by decide +kernel)) (goodIn_sub (fun _ h => List.mem_cons_of_mem _ (List.mem_append_right _ h)) (by decide +kernel))) (goodIn_sub (fun _ h => List.mem_cons_of_mem _ (List.mem_append_left _ (List.mem_append_right _ h))) (by decide +kernel))) (goodIn_sub (fun _ h => List.mem_cons_of_mem _ (List.mem_append_left _ (List.mem_append_left _ (List.mem_append_right _ h)))) (by decide +kernel))
set_option maxRecDepth 20000 in
theorem gL_acts_L_popOr : GoodIn wsL_acts (va_wsS RL 123 yL_popOr wsL_popOr) := goodIn_app (goodIn_of _ (by decide +kernel)) ggL_acts_L_popOr
set_option maxRecDepth 20000 in
theorem ggL_acts_L_pushOr : GoodIn wsL_acts wsL_pushOr := goodIn_ca (goodIn_ca (goodIn_ca (goodIn_r _ [282, 207, 283, 284, 285, 4, 286, 116, 117, 202, 203, 9, 126, 127, 128, 129, 130, 131, 132, 133, 134, 19, 135, 21, 222, 223, 224, 225, 226, 227, 228, 229, 30, 31, 32, 33, 34, 35, 36, 37, 38, 39, 40, 41, 42, 43, 44, 45, 46, 47, 48, 49, 50, 51, 52, 53, 54, 55, 230, 231, 232, 233, 234, 235, 70, 71, 72, 73, 167, 168, 169, 170, 11, 171, 172, 173, 174, 175, 176, 177, 178, 179, 180, 181, 95, 96, 26, 182, 183, 184, 185, 186, 187, 188, 189, 190, 191, 192, 193, 236, 237, 238, 239, 27, 240, 241, 242, 243, 244, 245, 246, 247, 248, 249, 250, 104, 105, 106, 56, 57, 28, 29, 251, 252, 253, 254, 255, 63, 64, 65, 256, 257, 258, 259, 88, 89, 90, 260, 261, 262, 263, 264, 265, 266, 267, 268, 269, 270, 271, 272, 273, 274, 275, 276, 277, 278, 279, 292, 293, 294, 295, 296, 305, 306, 307, 308, 309, 310, 311, 312, 313, 314, 315, 316, 317, 318, 319, 320] (by decide +kernel) (by decide +kernel)) (goodIn_sub (fun _ h => List.mem_cons_of_mem _ (List.mem_append_left _ (List.mem_append_left _ (List.mem_append_left _ (List.mem_append_right _ h))))) (by decide +kernel))) (goodIn_sub (fun _ h => List.mem_cons_of_mem _ (List.mem_append_left _ (List.mem_append_right _ h))) (by decide +kernel))) (goodIn_sub (fun _ h => List.mem_cons_of_mem _ (List.mem_append_left _ (List.mem_append_left _ (List.mem_append_right _ h)))) (by decide +kernel))
set_option maxRecDepth 20000 in
theorem gL_acts_L_pushOr : GoodIn wsL_acts (va_wsS RL 127 yL_pushOr wsL_pushOr) := goodIn_app (goodIn_of _ (by decide +kernel)) ggL_acts_L_pushOr
set_option maxRecDepth 20000 in
theorem ggL_acts_X4_value : GoodIn wsL_acts wsX4_value := goodIn_ca (goodIn_ca (goodIn_r _ [290, 202, 203, 9, 291, 126, 127, 128, 4, 129, 130, 131, 132, 133, 134, 19, 135, 21, 97, 31, 32, 33, 34, 35, 36, 37, 38, 39, 40, 41, 42, 43, 44, 45, 46, 47, 48, 49, 50, 51, 52, 53, 54, 55, 292, 293, 294, 295, 296, 310, 311, 312, 313, 314, 315, 316, 317, 318, 319, 320, 305, 306, 307, 308, 309] (by decide +kernel) (by decide +kernel)) (goodIn_sub (fun _ h => List.mem_cons_of_mem _ (List.mem_append_left _ (List.mem_append_right _ h))) (by decide +kernel))) (goodIn_sub (fun _ h => List.mem_cons_of_mem _ (List.mem_append_left _ (List.mem_append_left _ (List.mem_append_right _ h)))) (by decide +kernel))
set_option maxRecDepth 20000 in
theorem gL_acts_X4_value : GoodIn wsL_acts (wsV RL 43 RX4 yX4_value wsX4_value) := goodIn_app (goodIn_of _ (by decide +kernel)) ggL_acts_X4_value
theorem dL_acts_0 : decode cL_acts 0 = .ok (.aload_n 0, 1) := by decide +kernel
theorem dL_acts_1 : decode cL_acts 1 = .ok (.invokevirtual 108, 3) := by decide +kernel
theorem dL_acts_4 : decode cL_acts 4 = .ok (.lstore_n 2, 1) := by decide +kernel
theorem dL_acts_5 : decode cL_acts 5 = .ok (.aload_n 0, 1) := by decide +kernel
theorem dL_acts_6 : decode cL_acts 6 = .ok (.invokestatic 112, 3) := by decide +kernel
theorem dL_acts_9 : decode cL_acts 9 = .ok (.lstore 4, 2) := by decide +kernel
theorem dL_acts_11 : decode cL_acts 11 = .ok (.aload_n 0, 1) := by decide +kernel
theorem dL_acts_12 : decode cL_acts 12 = .ok (.iconst 0, 1) := by decide +kernel
theorem dL_acts_13 : decode cL_acts 13 = .ok (.invokevirtual 33, 3) := by decide +kernel
theorem dL_acts_16 : decode cL_acts 16 = .ok (.istore 6, 2) := by decide +kernel
theorem dL_acts_18 : decode cL_acts 18 = .ok (.iload_n 1, 1) := by decide +kernel
theorem dL_acts_19 : decode cL_acts 19 = .ok (.iconst 3, 1) := by decide +kernel
theorem dL_acts_20 : decode cL_acts 20 = .ok (.iand, 1) := by decide +kernel
theorem dL_acts_21 : decode cL_acts 21 = .ok (.ifCond .le 10, 3) := by decide +kernel
theorem dL_acts_24 : decode cL_acts 24 = .ok (.iload 6, 2) := by decide +kernel
theorem dL_acts_26 : decode cL_acts 26 = .ok (.iconst 1, 1) := by decide +kernel
theorem dL_acts_27 : decode cL_acts 27 = .ok (.isub, 1) := by decide +kernel
theorem dL_acts_28 : decode cL_acts 28 = .ok (.goto 11, 3) := by decide +kernel
theorem dL_acts_31 : decode cL_acts 31 = .ok (.iload_n 1, 1) := by decide +kernel
theorem dL_acts_32 : decode cL_acts 32 = .ok (.iconst 2, 1) := by decide +kernel
theorem dL_acts_33 : decode cL_acts 33 = .ok (.ishr, 1) := by decide +kernel
theorem dL_acts_34 : decode cL_acts 34 = .ok (.iload 6, 2) := by decide +kernel
theorem dL_acts_36 : decode cL_acts 36 = .ok (.invokestatic 75, 3) := by decide +kernel
theorem dL_acts_39 : decode cL_acts 39 = .ok (.istore 7, 2) := by decide +kernel
theorem dL_acts_41 : decode cL_acts 41 = .ok (.aload_n 0, 1) := by decide +kernel
theorem dL_acts_42 : decode cL_acts 42 = .ok (.iload 7, 2) := by decide +kernel
theorem dL_acts_44 : decode cL_acts 44 = .ok (.iconst 1, 1) := by decide +kernel
theorem dL_acts_45 : decode cL_acts 45 = .ok (.invokevirtual 36, 3) := by decide +kernel
theorem dL_acts_48 : decode cL_acts 48 = .ok (.istore 8, 2) := by decide +kernel
theorem dL_acts_50 : decode cL_acts 50 = .ok (.iload_n 1, 1) := by decide +kernel
theorem dL_acts_51 : decode cL_acts 51 = .ok (.bipush 10, 2) := by decide +kernel
theorem dL_acts_53 : decode cL_acts 53 = .ok (.ishr, 1) := by decide +kernel
theorem dL_acts_54 : decode cL_acts 54 = .ok (.iconst 1, 1) := by decide +kernel
theorem dL_acts_55 : decode cL_acts 55 = .ok (.iand, 1) := by decide +kernel
theorem dL_acts_56 : decode cL_acts 56 = .ok (.iconst 1, 1) := by decide +kernel
theorem dL_acts_57 : decode cL_acts 57 = .ok (.if_icmp .ne 7, 3) := by decide +kernel
theorem dL_acts_60 : decode cL_acts 60 = .ok (.iconst 1, 1) := by decide +kernel
theorem dL_acts_61 : decode cL_acts 61 = .ok (.goto 4, 3) := by decide +kernel
theorem dL_acts_64 : decode cL_acts 64 = .ok (.iconst 0, 1) := by decide +kernel
theorem dL_acts_65 : decode cL_acts 65 = .ok (.istore 9, 2) := by decide +kernel
theorem dL_acts_67 : decode cL_acts 67 = .ok (.iload_n 1, 1) := by decide +kernel
theorem dL_acts_68 : decode cL_acts 68 = .ok (.bipush 11, 2) := by decide +kernel
theorem dL_acts_70 : decode cL_acts 70 = .ok (.ishr, 1) := by decide +kernel
theorem dL_acts_71 : decode cL_acts 71 = .ok (.bipush 16, 2) := by decide +kernel
theorem dL_acts_73 : decode cL_acts 73 = .ok (.invokestatic 75, 3) := by decide +kernel
theorem dL_acts_76 : decode cL_acts 76 = .ok (.tableswitch 206 0 6 #[44, 95, 148, 148, 148, 148, 148], 44) := by decide +kernel
theorem dL_acts_120 : decode cL_acts 120 = .ok (.aload_n 0, 1) := by decide +kernel
theorem dL_acts_121 : decode cL_acts 121 = .ok (.iconst 1, 1) := by decide +kernel
theorem dL_acts_122 : decode cL_acts 122 = .ok (.iconst 2, 1) := by decide +kernel
theorem dL_acts_123 : decode cL_acts 123 = .ok (.iload_n 1, 1) := by decide +kernel
theorem dL_acts_124 : decode cL_acts 124 = .ok (.iconst 2, 1) := by decide +kernel
theorem dL_acts_125 : decode cL_acts 125 = .ok (.ishr, 1) := by decide +kernel
theorem dL_acts_126 : decode cL_acts 126 = .ok (.iconst 4, 1) := by decide +kernel
theorem dL_acts_127 : decode cL_acts 127 = .ok (.invokestatic 75, 3) := by decide +kernel
theorem dL_acts_130 : decode cL_acts 130 = .ok (.iadd, 1) := by decide +kernel
theorem dL_acts_131 : decode cL_acts 131 = .ok (.invokevirtual 102, 3) := by decide +kernel
theorem dL_acts_134 : decode cL_acts 134 = .ok (.istore 10, 2) := by decide +kernel
theorem dL_acts_136 : decode cL_acts 136 = .ok (.iload 10, 2) := by decide +kernel
theorem dL_acts_138 : decode cL_acts 138 = .ok (.iconst 2, 1) := by decide +kernel
theorem dL_acts_139 : decode cL_acts 139 = .ok (.if_icmp .lt 30, 3) := by decide +kernel
theorem dL_acts_142 : decode cL_acts 142 = .ok (.iload 10, 2) := by decide +kernel
theorem dL_acts_144 : decode cL_acts 144 = .ok (.iconst 5, 1) := by decide +kernel
theorem dL_acts_145 : decode cL_acts 145 = .ok (.if_icmp .gt 24, 3) := by decide +kernel
theorem dL_acts_148 : decode cL_acts 148 = .ok (.aload_n 0, 1) := by decide +kernel
theorem dL_acts_149 : decode cL_acts 149 = .ok (.invokevirtual 116, 3) := by decide +kernel
theorem dL_acts_152 : decode cL_acts 152 = .ok (.ifCond .lt 17, 3) := by decide +kernel
theorem dL_acts_155 : decode cL_acts 155 = .ok (.aload_n 0, 1) := by decide +kernel
theorem dL_acts_156 : decode cL_acts 156 = .ok (.invokestatic 112, 3) := by decide +kernel
theorem dL_acts_159 : decode cL_acts 159 = .ok (.lload 4, 2) := by decide +kernel
theorem dL_acts_161 : decode cL_acts 161 = .ok (.lcmp, 1) := by decide +kernel
theorem dL_acts_162 : decode cL_acts 162 = .ok (.ifCond .ne 7, 3) := by decide +kernel
theorem dL_acts_165 : decode cL_acts 165 = .ok (.iconst 1, 1) := by decide +kernel
theorem dL_acts_166 : decode cL_acts 166 = .ok (.goto 4, 3) := by decide +kernel
theorem dL_acts_169 : decode cL_acts 169 = .ok (.iconst 0, 1) := by decide +kernel
theorem dL_acts_170 : decode cL_acts 170 = .ok (.ireturn, 1) := by decide +kernel
theorem dL_acts_171 : decode cL_acts 171 = .ok (.aload_n 0, 1) := by decide +kernel
theorem dL_acts_172 : decode cL_acts 172 = .ok (.invokestatic 119, 3) := by decide +kernel
theorem dL_acts_175 : decode cL_acts 175 = .ok (.istore 10, 2) := by decide +kernel
theorem dL_acts_177 : decode cL_acts 177 = .ok (.iload 10, 2) := by decide +kernel
theorem dL_acts_179 : decode cL_acts 179 = .ok (.iload 6, 2) := by decide +kernel
theorem dL_acts_181 : decode cL_acts 181 = .ok (.iconst 1, 1) := by decide +kernel
theorem dL_acts_182 : decode cL_acts 182 = .ok (.if_icmp .ne 7, 3) := by decide +kernel
theorem dL_acts_185 : decode cL_acts 185 = .ok (.iconst (-1), 1) := by decide +kernel
theorem dL_acts_186 : decode cL_acts 186 = .ok (.goto 7, 3) := by decide +kernel
theorem dL_acts_189 : decode cL_acts 189 = .ok (.iload 6, 2) := by decide +kernel
theorem dL_acts_191 : decode cL_acts 191 = .ok (.iconst 1, 1) := by decide +kernel
theorem dL_acts_192 : decode cL_acts 192 = .ok (.isub, 1) := by decide +kernel
theorem dL_acts_193 : decode cL_acts 193 = .ok (.if_icmp .ne 29, 3) := by decide +kernel
theorem dL_acts_196 : decode cL_acts 196 = .ok (.aload_n 0, 1) := by decide +kernel
theorem dL_acts_197 : decode cL_acts 197 = .ok (.iconst 0, 1) := by decide +kernel
theorem dL_acts_198 : decode cL_acts 198 = .ok (.invokevirtual 33, 3) := by decide +kernel
theorem dL_acts_201 : decode cL_acts 201 = .ok (.iload 6, 2) := by decide +kernel
theorem dL_acts_203 : decode cL_acts 203 = .ok (.iconst 1, 1) := by decide +kernel
theorem dL_acts_204 : decode cL_acts 204 = .ok (.if_icmp .ne 7, 3) := by decide +kernel
theorem dL_acts_207 : decode cL_acts 207 = .ok (.iconst 1, 1) := by decide +kernel
theorem dL_acts_208 : decode cL_acts 208 = .ok (.goto 7, 3) := by decide +kernel
theorem dL_acts_211 : decode cL_acts 211 = .ok (.iload 6, 2) := by decide +kernel
theorem dL_acts_213 : decode cL_acts 213 = .ok (.iconst 1, 1) := by decide +kernel
theorem dL_acts_214 : decode cL_acts 214 = .ok (.isub, 1) := by decide +kernel
theorem dL_acts_215 : decode cL_acts 215 = .ok (.if_icmp .ne 7, 3) := by decide +kernel
theorem dL_acts_218 : decode cL_acts 218 = .ok (.iconst 1, 1) := by decide +kernel
theorem dL_acts_219 : decode cL_acts 219 = .ok (.goto 4, 3) := by decide +kernel
theorem dL_acts_222 : decode cL_acts 222 = .ok (.iconst 0, 1) := by decide +kernel
theorem dL_acts_223 : decode cL_acts 223 = .ok (.ireturn, 1) := by decide +kernel
theorem dL_acts_224 : decode cL_acts 224 = .ok (.aload_n 0, 1) := by decide +kernel
theorem dL_acts_225 : decode cL_acts 225 = .ok (.iload 7, 2) := by decide +kernel
theorem dL_acts_227 : decode cL_acts 227 = .ok (.iload 9, 2) := by decide +kernel
theorem dL_acts_229 : decode cL_acts 229 = .ok (.invokestatic 123, 3) := by decide +kernel
theorem dL_acts_232 : decode cL_acts 232 = .ok (.istore 10, 2) := by decide +kernel
theorem dL_acts_234 : decode cL_acts 234 = .ok (.iload 10, 2) := by decide +kernel
theorem dL_acts_236 : decode cL_acts 236 = .ok (.iload 8, 2) := by decide +kernel
theorem dL_acts_238 : decode cL_acts 238 = .ok (.ifCond .ne 8, 3) := by decide +kernel
theorem dL_acts_241 : decode cL_acts 241 = .ok (.bipush (-2), 2) := by decide +kernel
theorem dL_acts_243 : decode cL_acts 243 = .ok (.goto 16, 3) := by decide +kernel
theorem dL_acts_246 : decode cL_acts 246 = .ok (.iload 6, 2) := by decide +kernel
theorem dL_acts_248 : decode cL_acts 248 = .ok (.bipush 100, 2) := by decide +kernel
theorem dL_acts_250 : decode cL_acts 250 = .ok (.if_icmp .ne 7, 3) := by decide +kernel
theorem dL_acts_253 : decode cL_acts 253 = .ok (.iconst (-1), 1) := by decide +kernel
theorem dL_acts_254 : decode cL_acts 254 = .ok (.goto 5, 3) := by decide +kernel
theorem dL_acts_257 : decode cL_acts 257 = .ok (.iload 6, 2) := by decide +kernel
theorem dL_acts_259 : decode cL_acts 259 = .ok (.if_icmp .ne 21, 3) := by decide +kernel
theorem dL_acts_262 : decode cL_acts 262 = .ok (.iload 10, 2) := by decide +kernel
theorem dL_acts_264 : decode cL_acts 264 = .ok (.ifCond .ge 12, 3) := by decide +kernel
theorem dL_acts_267 : decode cL_acts 267 = .ok (.aload_n 0, 1) := by decide +kernel
theorem dL_acts_268 : decode cL_acts 268 = .ok (.invokevirtual 108, 3) := by decide +kernel
theorem dL_acts_271 : decode cL_acts 271 = .ok (.lload_n 2, 1) := by decide +kernel
theorem dL_acts_272 : decode cL_acts 272 = .ok (.lcmp, 1) := by decide +kernel
theorem dL_acts_273 : decode cL_acts 273 = .ok (.ifCond .ne 7, 3) := by decide +kernel
theorem dL_acts_276 : decode cL_acts 276 = .ok (.iconst 1, 1) := by decide +kernel
theorem dL_acts_277 : decode cL_acts 277 = .ok (.goto 4, 3) := by decide +kernel
theorem dL_acts_280 : decode cL_acts 280 = .ok (.iconst 0, 1) := by decide +kernel
theorem dL_acts_281 : decode cL_acts 281 = .ok (.ireturn, 1) := by decide +kernel
theorem dL_acts_282 : decode cL_acts 282 = .ok (.iload_n 1, 1) := by decide +kernel
theorem dL_acts_283 : decode cL_acts 283 = .ok (.bipush 15, 2) := by decide +kernel
theorem dL_acts_285 : decode cL_acts 285 = .ok (.ishr, 1) := by decide +kernel
theorem dL_acts_286 : decode cL_acts 286 = .ok (.sipush 1999, 3) := by decide +kernel
theorem dL_acts_289 : decode cL_acts 289 = .ok (.invokestatic 75, 3) := by decide +kernel
theorem dL_acts_292 : decode cL_acts 292 = .ok (.sipush 999, 3) := by decide +kernel
theorem dL_acts_295 : decode cL_acts 295 = .ok (.isub, 1) := by decide +kernel
theorem dL_acts_296 : decode cL_acts 296 = .ok (.istore 11, 2) := by decide +kernel
theorem dL_acts_298 : decode cL_acts 298 = .ok (.aload_n 0, 1) := by decide +kernel
theorem dL_acts_299 : decode cL_acts 299 = .ok (.iload 7, 2) := by decide +kernel
theorem dL_acts_301 : decode cL_acts 301 = .ok (.iload 11, 2) := by decide +kernel
theorem dL_acts_303 : decode cL_acts 303 = .ok (.iload 9, 2) := by decide +kernel
theorem dL_acts_305 : decode cL_acts 305 = .ok (.invokestatic 127, 3) := by decide +kernel
theorem dL_acts_308 : decode cL_acts 308 = .ok (.istore 10, 2) := by decide +kernel
theorem dL_acts_310 : decode cL_acts 310 = .ok (.iload 10, 2) := by decide +kernel
theorem dL_acts_312 : decode cL_acts 312 = .ok (.iload 8, 2) := by decide +kernel
theorem dL_acts_314 : decode cL_acts 314 = .ok (.bipush 40, 2) := by decide +kernel
theorem dL_acts_316 : decode cL_acts 316 = .ok (.if_icmp .eq 10, 3) := by decide +kernel
theorem dL_acts_319 : decode cL_acts 319 = .ok (.iload 6, 2) := by decide +kernel
theorem dL_acts_321 : decode cL_acts 321 = .ok (.bipush 100, 2) := by decide +kernel
theorem dL_acts_323 : decode cL_acts 323 = .ok (.if_icmp .ne 7, 3) := by decide +kernel
theorem dL_acts_326 : decode cL_acts 326 = .ok (.iconst (-1), 1) := by decide +kernel
theorem dL_acts_327 : decode cL_acts 327 = .ok (.goto 5, 3) := by decide +kernel
theorem dL_acts_330 : decode cL_acts 330 = .ok (.iload 6, 2) := by decide +kernel
theorem dL_acts_332 : decode cL_acts 332 = .ok (.if_icmp .ne 61, 3) := by decide +kernel
theorem dL_acts_335 : decode cL_acts 335 = .ok (.iload 10, 2) := by decide +kernel
theorem dL_acts_337 : decode cL_acts 337 = .ok (.ifCond .ge 15, 3) := by decide +kernel
theorem dL_acts_340 : decode cL_acts 340 = .ok (.aload_n 0, 1) := by decide +kernel
theorem dL_acts_341 : decode cL_acts 341 = .ok (.invokevirtual 108, 3) := by decide +kernel
theorem dL_acts_344 : decode cL_acts 344 = .ok (.lload_n 2, 1) := by decide +kernel
theorem dL_acts_345 : decode cL_acts 345 = .ok (.lcmp, 1) := by decide +kernel
theorem dL_acts_346 : decode cL_acts 346 = .ok (.ifCond .ne 47, 3) := by decide +kernel
theorem dL_acts_349 : decode cL_acts 349 = .ok (.goto 40, 3) := by decide +kernel
theorem dL_acts_352 : decode cL_acts 352 = .ok (.aload_n 0, 1) := by decide +kernel
theorem dL_acts_353 : decode cL_acts 353 = .ok (.iload 10, 2) := by decide +kernel
theorem dL_acts_355 : decode cL_acts 355 = .ok (.invokevirtual 43, 3) := by decide +kernel
theorem dL_acts_358 : decode cL_acts 358 = .ok (.iload 11, 2) := by decide +kernel
theorem dL_acts_360 : decode cL_acts 360 = .ok (.if_icmp .ne 33, 3) := by decide +kernel
theorem dL_acts_363 : decode cL_acts 363 = .ok (.iload_n 1, 1) := by decide +kernel
theorem dL_acts_364 : decode cL_acts 364 = .ok (.iconst 4, 1) := by decide +kernel
theorem dL_acts_365 : decode cL_acts 365 = .ok (.ishr, 1) := by decide +kernel
theorem dL_acts_366 : decode cL_acts 366 = .ok (.bipush 7, 2) := by decide +kernel
theorem dL_acts_368 : decode cL_acts 368 = .ok (.iand, 1) := by decide +kernel
theorem dL_acts_369 : decode cL_acts 369 = .ok (.ifCond .gt 20, 3) := by decide +kernel
theorem dL_acts_372 : decode cL_acts 372 = .ok (.aload_n 0, 1) := by decide +kernel
theorem dL_acts_373 : decode cL_acts 373 = .ok (.invokevirtual 116, 3) := by decide +kernel
theorem dL_acts_376 : decode cL_acts 376 = .ok (.ifCond .lt 17, 3) := by decide +kernel
theorem dL_acts_379 : decode cL_acts 379 = .ok (.aload_n 0, 1) := by decide +kernel
theorem dL_acts_380 : decode cL_acts 380 = .ok (.invokestatic 112, 3) := by decide +kernel
theorem dL_acts_383 : decode cL_acts 383 = .ok (.lload 4, 2) := by decide +kernel
theorem dL_acts_385 : decode cL_acts 385 = .ok (.lcmp, 1) := by decide +kernel
theorem dL_acts_386 : decode cL_acts 386 = .ok (.ifCond .ne 7, 3) := by decide +kernel
theorem dL_acts_389 : decode cL_acts 389 = .ok (.iconst 1, 1) := by decide +kernel
theorem dL_acts_390 : decode cL_acts 390 = .ok (.goto 4, 3) := by decide +kernel
theorem dL_acts_393 : decode cL_acts 393 = .ok (.iconst 0, 1) := by decide +kernel
theorem dL_acts_394 : decode cL_acts 394 = .ok (.ireturn, 1) := by decide +kernel
