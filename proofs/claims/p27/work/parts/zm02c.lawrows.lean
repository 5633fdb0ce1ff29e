/-! rows of the law: sound, types -/
set_option maxRecDepth 20000 in
theorem ggL_sound_X4_count : GoodIn wsL_sound wsX4_count := goodIn_ca (goodIn_r _ [5, 6, 7, 8, 9, 10, 11, 12, 13, 14, 15, 16, 17, 18, 19, 20, 21, 4, 22, 23, 24, 25, 26, 27, 28, 29, 30, 31, 32, 33, 34, 35, 36, 37, 38, 39, 40, 41, 42, 43, 44, 45, 46, 47, 48, 49, 50, 51, 52, 53, 54, 55, 56, 57, 58, 59, 60, 61, 62, 63, 64, 65, 66, 67, 68, 69, 70, 71, 72, 73, 74, 75, 76, 77, 78, 79, 80, 81, 82, 83, 189, 190, 191, 192, 193, 194, 195, 196, 197, 198, 199, 200, 201, 202, 203, 204, 205, 206, 207, 208, 209] (by decide +kernel) (by decide +kernel)) (goodIn_sub (fun _ h => List.mem_cons_of_mem _ (List.mem_append_left _ (List.mem_append_left _ (List.mem_append_right _ h)))) (by decide +kernel))
set_option maxRecDepth 20000 in
theorem gL_sound_X4_count : GoodIn wsL_sound (wsV RL 33 RX4 yX4_count wsX4_count) := goodIn_app (goodIn_of _ (by decide +kernel)) ggL_sound_X4_count
set_option maxRecDepth 20000 in
theorem ggL_sound_L_parts : GoodIn wsL_sound wsL_parts := goodIn_ca (goodIn_ca (goodIn_r _ [87, 88, 89, 90, 4, 91, 6, 7, 8, 92, 93, 94, 95, 96, 97, 98, 99, 100, 12, 101, 14, 102, 24, 25, 26, 27, 28, 29, 30, 31, 32, 33, 34, 35, 36, 37, 38, 39, 40, 41, 42, 43, 44, 45, 46, 47, 48, 103, 60, 61, 62, 63, 64, 65, 66, 104, 105, 106, 107, 108, 109, 110, 111, 112, 113, 114, 115, 116, 117, 23, 118, 119, 189, 190, 191, 192, 193, 194, 195, 196, 197, 198, 199, 200, 201, 202, 203, 204, 205, 206, 207, 208, 209] (by decide +kernel) (by decide +kernel)) (goodIn_sub (fun _ h => List.mem_cons_of_mem _ (List.mem_append_left _ (List.mem_append_left _ (List.mem_append_right _ h)))) (by decide +kernel))) (goodIn_sub (fun _ h => List.mem_cons_of_mem _ (List.mem_append_left _ (List.mem_append_right _ h))) (by decide +kernel))
set_option maxRecDepth 20000 in
theorem gL_sound_L_parts : GoodIn wsL_sound (va_wsS RL 66 yL_parts wsL_parts) := goodIn_app (goodIn_of _ (by decide +kernel)) ggL_sound_L_parts
set_option maxRecDepth 20000 in
theorem ggL_sound_L_row : GoodIn wsL_sound wsL_row := goodIn_ca (goodIn_ca (goodIn_ca (goodIn_r _ [122, 88, 89, 90, 4, 91, 6, 7, 8, 92, 93, 94, 95, 96, 97, 98, 99, 100, 12, 101, 14, 102, 24, 25, 26, 27, 28, 29, 30, 31, 32, 33, 34, 35, 36, 37, 38, 39, 40, 41, 42, 43, 44, 45, 46, 47, 48, 103, 60, 61, 62, 63, 64, 65, 66, 123, 124, 125, 126, 127, 128, 129, 130, 131, 132, 133, 109, 110, 111, 112, 113, 114, 115, 116, 117, 23, 118, 134, 135, 136, 137, 49, 50, 189, 190, 191, 192, 193, 194, 195, 196, 197, 198, 199, 200, 201, 202, 203, 204, 205, 206, 207, 208, 209] (by decide +kernel) (by decide +kernel)) (goodIn_sub (fun _ h => List.mem_cons_of_mem _ (List.mem_append_left _ (List.mem_append_left _ (List.mem_append_right _ h)))) (by decide +kernel))) (goodIn_sub (fun _ h => List.mem_cons_of_mem _ (List.mem_append_left _ (List.mem_append_right _ h))) (by decide +kernel))) (goodIn_sub (fun _ h => List.mem_cons_of_mem _ (List.mem_append_right _ h)) (by decide +kernel))
set_option maxRecDepth 20000 in
theorem gL_sound_L_row : GoodIn wsL_sound (va_wsS RL 72 yL_row wsL_row) := goodIn_app (goodIn_of _ (by decide +kernel)) ggL_sound_L_row
set_option maxRecDepth 20000 in
theorem ggL_sound_X4_version : GoodIn wsL_sound wsX4_version := goodIn_ca (goodIn_ca (goodIn_r _ [91, 6, 7, 8, 92, 93, 94, 4, 95, 96, 97, 98, 99, 100, 12, 101, 14, 102, 24, 25, 26, 27, 28, 29, 30, 31, 32, 33, 34, 35, 36, 37, 38, 39, 40, 41, 42, 43, 44, 45, 46, 47, 48, 103, 60, 61, 62, 63, 64, 65, 66, 189, 190, 191, 192, 193, 194, 195, 196, 197, 198, 199, 200, 201, 202, 203, 204, 205, 206, 207, 208, 209] (by decide +kernel) (by decide +kernel)) (goodIn_sub (fun _ h => List.mem_cons_of_mem _ (List.mem_append_left _ (List.mem_append_left _ (List.mem_append_right _ h)))) (by decide +kernel))) (goodIn_sub (fun _ h => List.mem_cons_of_mem _ (List.mem_append_left _ (List.mem_append_right _ h))) (by decide +kernel))
set_option maxRecDepth 20000 in
theorem gL_sound_X4_version : GoodIn wsL_sound (wsV RL 36 RX4 yX4_version wsX4_version) := goodIn_app (goodIn_of _ (by decide +kernel)) ggL_sound_X4_version
set_option maxRecDepth 20000 in
theorem ggL_sound_L_up : GoodIn wsL_sound wsL_up := goodIn_r _ [140, 141] (by decide +kernel) (by decide +kernel)
set_option maxRecDepth 20000 in
theorem gL_sound_L_up : GoodIn wsL_sound (va_wsS RL 75 yL_up wsL_up) := goodIn_app (goodIn_of _ (by decide +kernel)) ggL_sound_L_up
set_option maxRecDepth 20000 in
theorem ggL_sound_L_ways : GoodIn wsL_sound wsL_ways := goodIn_ca (goodIn_ca (goodIn_r _ [144, 88, 89, 90, 4, 91, 6, 7, 8, 92, 93, 94, 95, 96, 97, 98, 99, 100, 12, 101, 14, 102, 24, 25, 26, 27, 28, 29, 30, 31, 32, 33, 34, 35, 36, 37, 38, 39, 40, 41, 42, 43, 44, 45, 46, 47, 48, 103, 60, 61, 62, 63, 64, 65, 66, 145, 146, 147, 148, 149, 150, 151, 152, 23, 153, 154, 155, 156, 157, 135, 136, 137, 49, 50, 130, 131, 132, 133, 109, 110, 111, 112, 113, 114, 115, 116, 117, 118, 134, 158, 159, 160, 161, 162, 163, 164, 165, 166, 55, 56, 57, 58, 20, 167, 168, 169, 170, 171, 172, 173, 174, 175, 176, 177, 178, 179, 180, 181, 182, 183, 184, 185, 186, 187, 188, 189, 190, 191, 192, 193, 194, 195, 196, 197, 198, 199, 200, 201, 202, 203, 204, 205, 206, 207, 208, 209] (by decide +kernel) (by decide +kernel)) (goodIn_sub (fun _ h => List.mem_cons_of_mem _ (List.mem_append_left _ (List.mem_append_left _ (List.mem_append_right _ h)))) (by decide +kernel))) (goodIn_sub (fun _ h => List.mem_cons_of_mem _ (List.mem_append_left _ (List.mem_append_right _ h))) (by decide +kernel))
set_option maxRecDepth 20000 in
theorem gL_sound_L_ways : GoodIn wsL_sound (va_wsS RL 78 yL_ways wsL_ways) := goodIn_app (goodIn_of _ (by decide +kernel)) ggL_sound_L_ways
theorem dL_sound_0 : decode cL_sound 0 = .ok (.aload_n 0, 1) := by decide +kernel
theorem dL_sound_1 : decode cL_sound 1 = .ok (.iconst 0, 1) := by decide +kernel
theorem dL_sound_2 : decode cL_sound 2 = .ok (.invokevirtual 33, 3) := by decide +kernel
theorem dL_sound_5 : decode cL_sound 5 = .ok (.istore_n 2, 1) := by decide +kernel
theorem dL_sound_6 : decode cL_sound 6 = .ok (.iconst 0, 1) := by decide +kernel
theorem dL_sound_7 : decode cL_sound 7 = .ok (.istore_n 3, 1) := by decide +kernel
theorem dL_sound_8 : decode cL_sound 8 = .ok (.iconst 0, 1) := by decide +kernel
theorem dL_sound_9 : decode cL_sound 9 = .ok (.istore 4, 2) := by decide +kernel
theorem dL_sound_11 : decode cL_sound 11 = .ok (.iconst 0, 1) := by decide +kernel
theorem dL_sound_12 : decode cL_sound 12 = .ok (.istore 5, 2) := by decide +kernel
theorem dL_sound_14 : decode cL_sound 14 = .ok (.iconst 0, 1) := by decide +kernel
theorem dL_sound_15 : decode cL_sound 15 = .ok (.istore 6, 2) := by decide +kernel
theorem dL_sound_17 : decode cL_sound 17 = .ok (.iconst 0, 1) := by decide +kernel
theorem dL_sound_18 : decode cL_sound 18 = .ok (.istore 7, 2) := by decide +kernel
theorem dL_sound_20 : decode cL_sound 20 = .ok (.iconst 0, 1) := by decide +kernel
theorem dL_sound_21 : decode cL_sound 21 = .ok (.istore 8, 2) := by decide +kernel
theorem dL_sound_23 : decode cL_sound 23 = .ok (.iconst 0, 1) := by decide +kernel
theorem dL_sound_24 : decode cL_sound 24 = .ok (.istore 9, 2) := by decide +kernel
theorem dL_sound_26 : decode cL_sound 26 = .ok (.iconst 0, 1) := by decide +kernel
theorem dL_sound_27 : decode cL_sound 27 = .ok (.istore 10, 2) := by decide +kernel
theorem dL_sound_29 : decode cL_sound 29 = .ok (.iload 10, 2) := by decide +kernel
theorem dL_sound_31 : decode cL_sound 31 = .ok (.iload_n 2, 1) := by decide +kernel
theorem dL_sound_32 : decode cL_sound 32 = .ok (.if_icmp .ge 207, 3) := by decide +kernel
theorem dL_sound_35 : decode cL_sound 35 = .ok (.aload_n 0, 1) := by decide +kernel
theorem dL_sound_36 : decode cL_sound 36 = .ok (.iload 10, 2) := by decide +kernel
theorem dL_sound_38 : decode cL_sound 38 = .ok (.invokestatic 66, 3) := by decide +kernel
theorem dL_sound_41 : decode cL_sound 41 = .ok (.ifCond .eq 17, 3) := by decide +kernel
theorem dL_sound_44 : decode cL_sound 44 = .ok (.iload 10, 2) := by decide +kernel
theorem dL_sound_46 : decode cL_sound 46 = .ok (.ifCond .le 14, 3) := by decide +kernel
theorem dL_sound_49 : decode cL_sound 49 = .ok (.aload_n 0, 1) := by decide +kernel
theorem dL_sound_50 : decode cL_sound 50 = .ok (.iload 10, 2) := by decide +kernel
theorem dL_sound_52 : decode cL_sound 52 = .ok (.invokestatic 72, 3) := by decide +kernel
theorem dL_sound_55 : decode cL_sound 55 = .ok (.ifCond .ne 5, 3) := by decide +kernel
theorem dL_sound_58 : decode cL_sound 58 = .ok (.iconst 0, 1) := by decide +kernel
theorem dL_sound_59 : decode cL_sound 59 = .ok (.ireturn, 1) := by decide +kernel
theorem dL_sound_60 : decode cL_sound 60 = .ok (.iconst 0, 1) := by decide +kernel
theorem dL_sound_61 : decode cL_sound 61 = .ok (.istore 11, 2) := by decide +kernel
theorem dL_sound_63 : decode cL_sound 63 = .ok (.iload 10, 2) := by decide +kernel
theorem dL_sound_65 : decode cL_sound 65 = .ok (.iconst 1, 1) := by decide +kernel
theorem dL_sound_66 : decode cL_sound 66 = .ok (.iadd, 1) := by decide +kernel
theorem dL_sound_67 : decode cL_sound 67 = .ok (.istore 12, 2) := by decide +kernel
theorem dL_sound_69 : decode cL_sound 69 = .ok (.iload 12, 2) := by decide +kernel
theorem dL_sound_71 : decode cL_sound 71 = .ok (.iload_n 2, 1) := by decide +kernel
theorem dL_sound_72 : decode cL_sound 72 = .ok (.if_icmp .ge 33, 3) := by decide +kernel
theorem dL_sound_75 : decode cL_sound 75 = .ok (.iload 11, 2) := by decide +kernel
theorem dL_sound_77 : decode cL_sound 77 = .ok (.ifCond .ne 15, 3) := by decide +kernel
theorem dL_sound_80 : decode cL_sound 80 = .ok (.aload_n 0, 1) := by decide +kernel
theorem dL_sound_81 : decode cL_sound 81 = .ok (.iload 12, 2) := by decide +kernel
theorem dL_sound_83 : decode cL_sound 83 = .ok (.iconst 0, 1) := by decide +kernel
theorem dL_sound_84 : decode cL_sound 84 = .ok (.invokevirtual 36, 3) := by decide +kernel
theorem dL_sound_87 : decode cL_sound 87 = .ok (.iload 10, 2) := by decide +kernel
theorem dL_sound_89 : decode cL_sound 89 = .ok (.if_icmp .ne 7, 3) := by decide +kernel
theorem dL_sound_92 : decode cL_sound 92 = .ok (.iconst 1, 1) := by decide +kernel
theorem dL_sound_93 : decode cL_sound 93 = .ok (.goto 4, 3) := by decide +kernel
theorem dL_sound_96 : decode cL_sound 96 = .ok (.iconst 0, 1) := by decide +kernel
theorem dL_sound_97 : decode cL_sound 97 = .ok (.istore 11, 2) := by decide +kernel
theorem dL_sound_99 : decode cL_sound 99 = .ok (.iinc 12 1, 3) := by decide +kernel
theorem dL_sound_102 : decode cL_sound 102 = .ok (.goto (-33), 3) := by decide +kernel
theorem dL_sound_105 : decode cL_sound 105 = .ok (.iload_n 3, 1) := by decide +kernel
theorem dL_sound_106 : decode cL_sound 106 = .ok (.iload 11, 2) := by decide +kernel
theorem dL_sound_108 : decode cL_sound 108 = .ok (.ifCond .eq 7, 3) := by decide +kernel
theorem dL_sound_111 : decode cL_sound 111 = .ok (.iconst 0, 1) := by decide +kernel
theorem dL_sound_112 : decode cL_sound 112 = .ok (.goto 4, 3) := by decide +kernel
theorem dL_sound_115 : decode cL_sound 115 = .ok (.iconst 1, 1) := by decide +kernel
theorem dL_sound_116 : decode cL_sound 116 = .ok (.iadd, 1) := by decide +kernel
theorem dL_sound_117 : decode cL_sound 117 = .ok (.istore_n 3, 1) := by decide +kernel
theorem dL_sound_118 : decode cL_sound 118 = .ok (.aload_n 0, 1) := by decide +kernel
theorem dL_sound_119 : decode cL_sound 119 = .ok (.iload 10, 2) := by decide +kernel
theorem dL_sound_121 : decode cL_sound 121 = .ok (.bipush 6, 2) := by decide +kernel
theorem dL_sound_123 : decode cL_sound 123 = .ok (.invokevirtual 36, 3) := by decide +kernel
theorem dL_sound_126 : decode cL_sound 126 = .ok (.istore 12, 2) := by decide +kernel
theorem dL_sound_128 : decode cL_sound 128 = .ok (.iload 12, 2) := by decide +kernel
theorem dL_sound_130 : decode cL_sound 130 = .ok (.iload 4, 2) := by decide +kernel
theorem dL_sound_132 : decode cL_sound 132 = .ok (.if_icmp .le 8, 3) := by decide +kernel
theorem dL_sound_135 : decode cL_sound 135 = .ok (.iload 12, 2) := by decide +kernel
theorem dL_sound_137 : decode cL_sound 137 = .ok (.goto 5, 3) := by decide +kernel
theorem dL_sound_140 : decode cL_sound 140 = .ok (.iload 4, 2) := by decide +kernel
theorem dL_sound_142 : decode cL_sound 142 = .ok (.istore 4, 2) := by decide +kernel
theorem dL_sound_144 : decode cL_sound 144 = .ok (.iload 5, 2) := by decide +kernel
theorem dL_sound_146 : decode cL_sound 146 = .ok (.iload 12, 2) := by decide +kernel
theorem dL_sound_148 : decode cL_sound 148 = .ok (.iadd, 1) := by decide +kernel
theorem dL_sound_149 : decode cL_sound 149 = .ok (.istore 5, 2) := by decide +kernel
theorem dL_sound_151 : decode cL_sound 151 = .ok (.iload 6, 2) := by decide +kernel
theorem dL_sound_153 : decode cL_sound 153 = .ok (.aload_n 0, 1) := by decide +kernel
theorem dL_sound_154 : decode cL_sound 154 = .ok (.iload 10, 2) := by decide +kernel
theorem dL_sound_156 : decode cL_sound 156 = .ok (.bipush 7, 2) := by decide +kernel
theorem dL_sound_158 : decode cL_sound 158 = .ok (.invokevirtual 36, 3) := by decide +kernel
theorem dL_sound_161 : decode cL_sound 161 = .ok (.ifCond .le 7, 3) := by decide +kernel
theorem dL_sound_164 : decode cL_sound 164 = .ok (.iconst 1, 1) := by decide +kernel
theorem dL_sound_165 : decode cL_sound 165 = .ok (.goto 4, 3) := by decide +kernel
theorem dL_sound_168 : decode cL_sound 168 = .ok (.iconst 0, 1) := by decide +kernel
theorem dL_sound_169 : decode cL_sound 169 = .ok (.iadd, 1) := by decide +kernel
theorem dL_sound_170 : decode cL_sound 170 = .ok (.istore 6, 2) := by decide +kernel
theorem dL_sound_172 : decode cL_sound 172 = .ok (.iload 7, 2) := by decide +kernel
theorem dL_sound_174 : decode cL_sound 174 = .ok (.aload_n 0, 1) := by decide +kernel
theorem dL_sound_175 : decode cL_sound 175 = .ok (.iload 10, 2) := by decide +kernel
theorem dL_sound_177 : decode cL_sound 177 = .ok (.bipush 7, 2) := by decide +kernel
theorem dL_sound_179 : decode cL_sound 179 = .ok (.invokevirtual 36, 3) := by decide +kernel
theorem dL_sound_182 : decode cL_sound 182 = .ok (.iadd, 1) := by decide +kernel
theorem dL_sound_183 : decode cL_sound 183 = .ok (.istore 7, 2) := by decide +kernel
theorem dL_sound_185 : decode cL_sound 185 = .ok (.iload 8, 2) := by decide +kernel
theorem dL_sound_187 : decode cL_sound 187 = .ok (.aload_n 0, 1) := by decide +kernel
theorem dL_sound_188 : decode cL_sound 188 = .ok (.iload 10, 2) := by decide +kernel
theorem dL_sound_190 : decode cL_sound 190 = .ok (.iconst 5, 1) := by decide +kernel
theorem dL_sound_191 : decode cL_sound 191 = .ok (.invokevirtual 36, 3) := by decide +kernel
theorem dL_sound_194 : decode cL_sound 194 = .ok (.ifCond .lt 7, 3) := by decide +kernel
theorem dL_sound_197 : decode cL_sound 197 = .ok (.iconst 1, 1) := by decide +kernel
theorem dL_sound_198 : decode cL_sound 198 = .ok (.goto 4, 3) := by decide +kernel
theorem dL_sound_201 : decode cL_sound 201 = .ok (.iconst 0, 1) := by decide +kernel
theorem dL_sound_202 : decode cL_sound 202 = .ok (.iadd, 1) := by decide +kernel
theorem dL_sound_203 : decode cL_sound 203 = .ok (.istore 8, 2) := by decide +kernel
theorem dL_sound_205 : decode cL_sound 205 = .ok (.aload_n 0, 1) := by decide +kernel
theorem dL_sound_206 : decode cL_sound 206 = .ok (.iload 10, 2) := by decide +kernel
theorem dL_sound_208 : decode cL_sound 208 = .ok (.bipush 9, 2) := by decide +kernel
theorem dL_sound_210 : decode cL_sound 210 = .ok (.invokevirtual 36, 3) := by decide +kernel
theorem dL_sound_213 : decode cL_sound 213 = .ok (.iload 9, 2) := by decide +kernel
theorem dL_sound_215 : decode cL_sound 215 = .ok (.if_icmp .le 14, 3) := by decide +kernel
theorem dL_sound_218 : decode cL_sound 218 = .ok (.aload_n 0, 1) := by decide +kernel
theorem dL_sound_219 : decode cL_sound 219 = .ok (.iload 10, 2) := by decide +kernel
theorem dL_sound_221 : decode cL_sound 221 = .ok (.bipush 9, 2) := by decide +kernel
theorem dL_sound_223 : decode cL_sound 223 = .ok (.invokevirtual 36, 3) := by decide +kernel
theorem dL_sound_226 : decode cL_sound 226 = .ok (.goto 5, 3) := by decide +kernel
theorem dL_sound_229 : decode cL_sound 229 = .ok (.iload 9, 2) := by decide +kernel
theorem dL_sound_231 : decode cL_sound 231 = .ok (.istore 9, 2) := by decide +kernel
theorem dL_sound_233 : decode cL_sound 233 = .ok (.iinc 10 1, 3) := by decide +kernel
theorem dL_sound_236 : decode cL_sound 236 = .ok (.goto (-207), 3) := by decide +kernel
theorem dL_sound_239 : decode cL_sound 239 = .ok (.aload_n 0, 1) := by decide +kernel
theorem dL_sound_240 : decode cL_sound 240 = .ok (.iconst 1, 1) := by decide +kernel
theorem dL_sound_241 : decode cL_sound 241 = .ok (.invokevirtual 33, 3) := by decide +kernel
theorem dL_sound_244 : decode cL_sound 244 = .ok (.iload_n 3, 1) := by decide +kernel
theorem dL_sound_245 : decode cL_sound 245 = .ok (.if_icmp .ne 107, 3) := by decide +kernel
theorem dL_sound_248 : decode cL_sound 248 = .ok (.aload_n 0, 1) := by decide +kernel
theorem dL_sound_249 : decode cL_sound 249 = .ok (.iconst 2, 1) := by decide +kernel
theorem dL_sound_250 : decode cL_sound 250 = .ok (.invokevirtual 33, 3) := by decide +kernel
theorem dL_sound_253 : decode cL_sound 253 = .ok (.iload 4, 2) := by decide +kernel
theorem dL_sound_255 : decode cL_sound 255 = .ok (.if_icmp .ne 97, 3) := by decide +kernel
theorem dL_sound_258 : decode cL_sound 258 = .ok (.aload_n 0, 1) := by decide +kernel
theorem dL_sound_259 : decode cL_sound 259 = .ok (.iconst 3, 1) := by decide +kernel
theorem dL_sound_260 : decode cL_sound 260 = .ok (.invokevirtual 33, 3) := by decide +kernel
theorem dL_sound_263 : decode cL_sound 263 = .ok (.iload 5, 2) := by decide +kernel
theorem dL_sound_265 : decode cL_sound 265 = .ok (.if_icmp .ne 87, 3) := by decide +kernel
theorem dL_sound_268 : decode cL_sound 268 = .ok (.aload_n 0, 1) := by decide +kernel
theorem dL_sound_269 : decode cL_sound 269 = .ok (.iconst 4, 1) := by decide +kernel
theorem dL_sound_270 : decode cL_sound 270 = .ok (.invokevirtual 33, 3) := by decide +kernel
theorem dL_sound_273 : decode cL_sound 273 = .ok (.iload 6, 2) := by decide +kernel
theorem dL_sound_275 : decode cL_sound 275 = .ok (.if_icmp .ne 77, 3) := by decide +kernel
theorem dL_sound_278 : decode cL_sound 278 = .ok (.aload_n 0, 1) := by decide +kernel
theorem dL_sound_279 : decode cL_sound 279 = .ok (.iconst 5, 1) := by decide +kernel
theorem dL_sound_280 : decode cL_sound 280 = .ok (.invokevirtual 33, 3) := by decide +kernel
theorem dL_sound_283 : decode cL_sound 283 = .ok (.iload 7, 2) := by decide +kernel
theorem dL_sound_285 : decode cL_sound 285 = .ok (.if_icmp .ne 67, 3) := by decide +kernel
theorem dL_sound_288 : decode cL_sound 288 = .ok (.aload_n 0, 1) := by decide +kernel
theorem dL_sound_289 : decode cL_sound 289 = .ok (.bipush 6, 2) := by decide +kernel
theorem dL_sound_291 : decode cL_sound 291 = .ok (.invokevirtual 33, 3) := by decide +kernel
theorem dL_sound_294 : decode cL_sound 294 = .ok (.iload 8, 2) := by decide +kernel
theorem dL_sound_296 : decode cL_sound 296 = .ok (.if_icmp .ne 56, 3) := by decide +kernel
theorem dL_sound_299 : decode cL_sound 299 = .ok (.aload_n 0, 1) := by decide +kernel
theorem dL_sound_300 : decode cL_sound 300 = .ok (.bipush 7, 2) := by decide +kernel
theorem dL_sound_302 : decode cL_sound 302 = .ok (.invokevirtual 33, 3) := by decide +kernel
theorem dL_sound_305 : decode cL_sound 305 = .ok (.iload 9, 2) := by decide +kernel
theorem dL_sound_307 : decode cL_sound 307 = .ok (.if_icmp .ne 45, 3) := by decide +kernel
theorem dL_sound_310 : decode cL_sound 310 = .ok (.aload_n 0, 1) := by decide +kernel
theorem dL_sound_311 : decode cL_sound 311 = .ok (.iload_n 1, 1) := by decide +kernel
theorem dL_sound_312 : decode cL_sound 312 = .ok (.iload_n 2, 1) := by decide +kernel
theorem dL_sound_313 : decode cL_sound 313 = .ok (.invokestatic 75, 3) := by decide +kernel
theorem dL_sound_316 : decode cL_sound 316 = .ok (.iload_n 1, 1) := by decide +kernel
theorem dL_sound_317 : decode cL_sound 317 = .ok (.bipush 8, 2) := by decide +kernel
theorem dL_sound_319 : decode cL_sound 319 = .ok (.ishr, 1) := by decide +kernel
theorem dL_sound_320 : decode cL_sound 320 = .ok (.iload_n 2, 1) := by decide +kernel
theorem dL_sound_321 : decode cL_sound 321 = .ok (.invokestatic 75, 3) := by decide +kernel
theorem dL_sound_324 : decode cL_sound 324 = .ok (.invokestatic 78, 3) := by decide +kernel
theorem dL_sound_327 : decode cL_sound 327 = .ok (.ifCond .eq 25, 3) := by decide +kernel
theorem dL_sound_330 : decode cL_sound 330 = .ok (.aload_n 0, 1) := by decide +kernel
theorem dL_sound_331 : decode cL_sound 331 = .ok (.iload_n 2, 1) := by decide +kernel
theorem dL_sound_332 : decode cL_sound 332 = .ok (.iconst 1, 1) := by decide +kernel
theorem dL_sound_333 : decode cL_sound 333 = .ok (.isub, 1) := by decide +kernel
theorem dL_sound_334 : decode cL_sound 334 = .ok (.iload_n 1, 1) := by decide +kernel
theorem dL_sound_335 : decode cL_sound 335 = .ok (.bipush 16, 2) := by decide +kernel
theorem dL_sound_337 : decode cL_sound 337 = .ok (.ishr, 1) := by decide +kernel
theorem dL_sound_338 : decode cL_sound 338 = .ok (.iload_n 2, 1) := by decide +kernel
theorem dL_sound_339 : decode cL_sound 339 = .ok (.invokestatic 75, 3) := by decide +kernel
theorem dL_sound_342 : decode cL_sound 342 = .ok (.invokestatic 78, 3) := by decide +kernel
theorem dL_sound_345 : decode cL_sound 345 = .ok (.ifCond .eq 7, 3) := by decide +kernel
theorem dL_sound_348 : decode cL_sound 348 = .ok (.iconst 1, 1) := by decide +kernel
theorem dL_sound_349 : decode cL_sound 349 = .ok (.goto 4, 3) := by decide +kernel
theorem dL_sound_352 : decode cL_sound 352 = .ok (.iconst 0, 1) := by decide +kernel
theorem dL_sound_353 : decode cL_sound 353 = .ok (.ireturn, 1) := by decide +kernel
set_option maxRecDepth 20000 in
theorem ggL_types_X4_clearText : GoodIn wsL_types wsX4_clearText := goodIn_r _ [6, 7, 8, 31, 32, 33, 34, 35, 36, 37, 38, 39, 40, 41, 42, 43] (by decide +kernel) (by decide +kernel)
set_option maxRecDepth 20000 in
theorem gL_types_X4_clearText : GoodIn wsL_types (wsV RL 82 RX4 yX4_clearText wsX4_clearText) := goodIn_app (goodIn_of _ (by decide +kernel)) ggL_types_X4_clearText
set_option maxRecDepth 20000 in
theorem ggL_types_L_up : GoodIn wsL_types wsL_up := goodIn_r _ [12, 13] (by decide +kernel) (by decide +kernel)
set_option maxRecDepth 20000 in
theorem gL_types_L_up : GoodIn wsL_types (va_wsS RL 75 yL_up wsL_up) := goodIn_app (goodIn_of _ (by decide +kernel)) ggL_types_L_up
set_option maxRecDepth 20000 in
theorem ggL_types_X4_append : GoodIn wsL_types wsX4_append := goodIn_ca (goodIn_ca (goodIn_r _ [17, 18, 19, 20, 21, 7, 8, 22, 23, 24, 25, 26, 27, 28, 29, 5, 30, 31, 32, 33, 34, 35, 36, 37, 38, 39, 40, 41, 42, 43] (by decide +kernel) (by decide +kernel)) (goodIn_sub (fun _ h => List.mem_cons_of_mem _ (List.mem_append_left _ (List.mem_append_right _ h))) (by decide +kernel))) (goodIn_sub (fun _ h => List.mem_cons_of_mem _ (List.mem_append_right _ h)) (by decide +kernel))
set_option maxRecDepth 20000 in
theorem gL_types_X4_append : GoodIn wsL_types (wsV RL 86 RX4 yX4_append wsX4_append) := goodIn_app (goodIn_of _ (by decide +kernel)) ggL_types_X4_append
theorem dL_types_0 : decode cL_types 0 = .ok (.aload_n 0, 1) := by decide +kernel
theorem dL_types_1 : decode cL_types 1 = .ok (.invokevirtual 82, 3) := by decide +kernel
theorem dL_types_4 : decode cL_types 4 = .ok (.istore_n 2, 1) := by decide +kernel
theorem dL_types_5 : decode cL_types 5 = .ok (.iload_n 1, 1) := by decide +kernel
theorem dL_types_6 : decode cL_types 6 = .ok (.bipush 12, 2) := by decide +kernel
theorem dL_types_8 : decode cL_types 8 = .ok (.invokestatic 75, 3) := by decide +kernel
theorem dL_types_11 : decode cL_types 11 = .ok (.istore_n 3, 1) := by decide +kernel
theorem dL_types_12 : decode cL_types 12 = .ok (.iload_n 1, 1) := by decide +kernel
theorem dL_types_13 : decode cL_types 13 = .ok (.istore 4, 2) := by decide +kernel
theorem dL_types_15 : decode cL_types 15 = .ok (.iconst 0, 1) := by decide +kernel
theorem dL_types_16 : decode cL_types 16 = .ok (.istore 5, 2) := by decide +kernel
theorem dL_types_18 : decode cL_types 18 = .ok (.iload 5, 2) := by decide +kernel
theorem dL_types_20 : decode cL_types 20 = .ok (.iload_n 3, 1) := by decide +kernel
theorem dL_types_21 : decode cL_types 21 = .ok (.if_icmp .ge 122, 3) := by decide +kernel
theorem dL_types_24 : decode cL_types 24 = .ok (.ldc 85, 2) := by decide +kernel
theorem dL_types_26 : decode cL_types 26 = .ok (.iload 4, 2) := by decide +kernel
theorem dL_types_28 : decode cL_types 28 = .ok (.imul, 1) := by decide +kernel
theorem dL_types_29 : decode cL_types 29 = .ok (.sipush 12345, 3) := by decide +kernel
theorem dL_types_32 : decode cL_types 32 = .ok (.iadd, 1) := by decide +kernel
theorem dL_types_33 : decode cL_types 33 = .ok (.istore 4, 2) := by decide +kernel
theorem dL_types_35 : decode cL_types 35 = .ok (.iload 4, 2) := by decide +kernel
theorem dL_types_37 : decode cL_types 37 = .ok (.bipush 16, 2) := by decide +kernel
theorem dL_types_39 : decode cL_types 39 = .ok (.ishr, 1) := by decide +kernel
theorem dL_types_40 : decode cL_types 40 = .ok (.bipush 7, 2) := by decide +kernel
theorem dL_types_42 : decode cL_types 42 = .ok (.iand, 1) := by decide +kernel
theorem dL_types_43 : decode cL_types 43 = .ok (.istore 6, 2) := by decide +kernel
theorem dL_types_45 : decode cL_types 45 = .ok (.iload 6, 2) := by decide +kernel
theorem dL_types_47 : decode cL_types 47 = .ok (.iconst 5, 1) := by decide +kernel
theorem dL_types_48 : decode cL_types 48 = .ok (.if_icmp .ge 64, 3) := by decide +kernel
theorem dL_types_51 : decode cL_types 51 = .ok (.aload_n 0, 1) := by decide +kernel
theorem dL_types_52 : decode cL_types 52 = .ok (.iload 6, 2) := by decide +kernel
theorem dL_types_54 : decode cL_types 54 = .ok (.iconst 3, 1) := by decide +kernel
theorem dL_types_55 : decode cL_types 55 = .ok (.if_icmp .ge 8, 3) := by decide +kernel
theorem dL_types_58 : decode cL_types 58 = .ok (.bipush 102, 2) := by decide +kernel
theorem dL_types_60 : decode cL_types 60 = .ok (.goto 5, 3) := by decide +kernel
theorem dL_types_63 : decode cL_types 63 = .ok (.bipush 98, 2) := by decide +kernel
theorem dL_types_65 : decode cL_types 65 = .ok (.invokevirtual 86, 3) := by decide +kernel
theorem dL_types_68 : decode cL_types 68 = .ok (.iload 4, 2) := by decide +kernel
theorem dL_types_70 : decode cL_types 70 = .ok (.bipush 20, 2) := by decide +kernel
theorem dL_types_72 : decode cL_types 72 = .ok (.ishr, 1) := by decide +kernel
theorem dL_types_73 : decode cL_types 73 = .ok (.iconst 1, 1) := by decide +kernel
theorem dL_types_74 : decode cL_types 74 = .ok (.iand, 1) := by decide +kernel
theorem dL_types_75 : decode cL_types 75 = .ok (.iconst 1, 1) := by decide +kernel
theorem dL_types_76 : decode cL_types 76 = .ok (.if_icmp .ne 12, 3) := by decide +kernel
theorem dL_types_79 : decode cL_types 79 = .ok (.aload_n 0, 1) := by decide +kernel
theorem dL_types_80 : decode cL_types 80 = .ok (.bipush 45, 2) := by decide +kernel
theorem dL_types_82 : decode cL_types 82 = .ok (.invokevirtual 86, 3) := by decide +kernel
theorem dL_types_85 : decode cL_types 85 = .ok (.goto 4, 3) := by decide +kernel
theorem dL_types_88 : decode cL_types 88 = .ok (.iconst 0, 1) := by decide +kernel
theorem dL_types_89 : decode cL_types 89 = .ok (.iadd, 1) := by decide +kernel
theorem dL_types_90 : decode cL_types 90 = .ok (.aload_n 0, 1) := by decide +kernel
theorem dL_types_91 : decode cL_types 91 = .ok (.bipush 48, 2) := by decide +kernel
theorem dL_types_93 : decode cL_types 93 = .ok (.iload 4, 2) := by decide +kernel
theorem dL_types_95 : decode cL_types 95 = .ok (.bipush 21, 2) := by decide +kernel
theorem dL_types_97 : decode cL_types 97 = .ok (.ishr, 1) := by decide +kernel
theorem dL_types_98 : decode cL_types 98 = .ok (.bipush 10, 2) := by decide +kernel
theorem dL_types_100 : decode cL_types 100 = .ok (.invokestatic 75, 3) := by decide +kernel
theorem dL_types_103 : decode cL_types 103 = .ok (.iadd, 1) := by decide +kernel
theorem dL_types_104 : decode cL_types 104 = .ok (.invokevirtual 86, 3) := by decide +kernel
theorem dL_types_107 : decode cL_types 107 = .ok (.iadd, 1) := by decide +kernel
theorem dL_types_108 : decode cL_types 108 = .ok (.istore_n 2, 1) := by decide +kernel
theorem dL_types_109 : decode cL_types 109 = .ok (.goto 21, 3) := by decide +kernel
theorem dL_types_112 : decode cL_types 112 = .ok (.aload_n 0, 1) := by decide +kernel
theorem dL_types_113 : decode cL_types 113 = .ok (.iload 6, 2) := by decide +kernel
theorem dL_types_115 : decode cL_types 115 = .ok (.iconst 5, 1) := by decide +kernel
theorem dL_types_116 : decode cL_types 116 = .ok (.if_icmp .ne 8, 3) := by decide +kernel
theorem dL_types_119 : decode cL_types 119 = .ok (.bipush 120, 2) := by decide +kernel
theorem dL_types_121 : decode cL_types 121 = .ok (.goto 5, 3) := by decide +kernel
theorem dL_types_124 : decode cL_types 124 = .ok (.bipush 121, 2) := by decide +kernel
theorem dL_types_126 : decode cL_types 126 = .ok (.invokevirtual 86, 3) := by decide +kernel
theorem dL_types_129 : decode cL_types 129 = .ok (.istore_n 2, 1) := by decide +kernel
theorem dL_types_130 : decode cL_types 130 = .ok (.aload_n 0, 1) := by decide +kernel
theorem dL_types_131 : decode cL_types 131 = .ok (.bipush 59, 2) := by decide +kernel
theorem dL_types_133 : decode cL_types 133 = .ok (.invokevirtual 86, 3) := by decide +kernel
theorem dL_types_136 : decode cL_types 136 = .ok (.istore_n 2, 1) := by decide +kernel
theorem dL_types_137 : decode cL_types 137 = .ok (.iinc 5 1, 3) := by decide +kernel
theorem dL_types_140 : decode cL_types 140 = .ok (.goto (-122), 3) := by decide +kernel
theorem dL_types_143 : decode cL_types 143 = .ok (.iload_n 3, 1) := by decide +kernel
theorem dL_types_144 : decode cL_types 144 = .ok (.ireturn, 1) := by decide +kernel
