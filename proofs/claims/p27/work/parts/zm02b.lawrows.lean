/-! rows of the law: parts, ways -/
set_option maxRecDepth 20000 in
theorem ggL_parts_X4_version : GoodIn wsL_parts wsX4_version := goodIn_ca (goodIn_ca (goodIn_r _ [5, 6, 7, 8, 9, 10, 11, 4, 12, 13, 14, 15, 16, 17, 18, 19, 20, 21, 22, 23, 24, 25, 26, 27, 28, 29, 30, 31, 32, 33, 34, 35, 36, 37, 38, 39, 40, 41, 42, 43, 44, 45, 46, 47, 48, 49, 50, 51, 52, 53, 54, 72, 73, 74, 75, 76, 77, 78, 79, 80, 81, 82, 83, 84, 85, 86, 87, 88, 89, 90, 91, 92] (by decide +kernel) (by decide +kernel)) (goodIn_sub (fun _ h => List.mem_cons_of_mem _ (List.mem_append_left _ (List.mem_append_right _ h))) (by decide +kernel))) (goodIn_sub (fun _ h => List.mem_cons_of_mem _ (List.mem_append_right _ h)) (by decide +kernel))
set_option maxRecDepth 20000 in
theorem gL_parts_X4_version : GoodIn wsL_parts (wsV RL 36 RX4 yX4_version wsX4_version) := goodIn_app (goodIn_of _ (by decide +kernel)) ggL_parts_X4_version
set_option maxRecDepth 20000 in
theorem ggL_parts_X4_steps : GoodIn wsL_parts wsX4_steps := goodIn_ca (goodIn_r _ [58, 8, 59, 60, 61, 62, 4, 63, 13, 14, 64, 65, 66, 18, 67, 68, 16, 17, 19, 20, 69, 22, 23, 24, 25, 26, 27, 28, 29, 30, 31, 32, 33, 34, 35, 36, 37, 38, 39, 40, 41, 42, 43, 44, 45, 46, 70, 52, 53, 54, 21, 71, 72, 73, 74, 75, 76, 82, 83, 84, 85, 86, 87, 88, 89, 90, 91, 92, 77, 78, 79, 80, 81] (by decide +kernel) (by decide +kernel)) (goodIn_sub (fun _ h => List.mem_cons_of_mem _ (List.mem_append_right _ h)) (by decide +kernel))
set_option maxRecDepth 20000 in
theorem gL_parts_X4_steps : GoodIn wsL_parts (wsV RL 46 RX4 yX4_steps wsX4_steps) := goodIn_app (goodIn_of _ (by decide +kernel)) ggL_parts_X4_steps
theorem dL_parts_0 : decode cL_parts 0 = .ok (.aload_n 0, 1) := by decide +kernel
theorem dL_parts_1 : decode cL_parts 1 = .ok (.iload_n 1, 1) := by decide +kernel
theorem dL_parts_2 : decode cL_parts 2 = .ok (.iconst 1, 1) := by decide +kernel
theorem dL_parts_3 : decode cL_parts 3 = .ok (.invokevirtual 36, 3) := by decide +kernel
theorem dL_parts_6 : decode cL_parts 6 = .ok (.istore_n 2, 1) := by decide +kernel
theorem dL_parts_7 : decode cL_parts 7 = .ok (.aload_n 0, 1) := by decide +kernel
theorem dL_parts_8 : decode cL_parts 8 = .ok (.iload_n 1, 1) := by decide +kernel
theorem dL_parts_9 : decode cL_parts 9 = .ok (.iconst 2, 1) := by decide +kernel
theorem dL_parts_10 : decode cL_parts 10 = .ok (.invokevirtual 36, 3) := by decide +kernel
theorem dL_parts_13 : decode cL_parts 13 = .ok (.istore_n 3, 1) := by decide +kernel
theorem dL_parts_14 : decode cL_parts 14 = .ok (.aload_n 0, 1) := by decide +kernel
theorem dL_parts_15 : decode cL_parts 15 = .ok (.iload_n 1, 1) := by decide +kernel
theorem dL_parts_16 : decode cL_parts 16 = .ok (.iconst 3, 1) := by decide +kernel
theorem dL_parts_17 : decode cL_parts 17 = .ok (.invokevirtual 36, 3) := by decide +kernel
theorem dL_parts_20 : decode cL_parts 20 = .ok (.istore 4, 2) := by decide +kernel
theorem dL_parts_22 : decode cL_parts 22 = .ok (.aload_n 0, 1) := by decide +kernel
theorem dL_parts_23 : decode cL_parts 23 = .ok (.iload_n 1, 1) := by decide +kernel
theorem dL_parts_24 : decode cL_parts 24 = .ok (.iconst 4, 1) := by decide +kernel
theorem dL_parts_25 : decode cL_parts 25 = .ok (.invokevirtual 36, 3) := by decide +kernel
theorem dL_parts_28 : decode cL_parts 28 = .ok (.istore 5, 2) := by decide +kernel
theorem dL_parts_30 : decode cL_parts 30 = .ok (.aload_n 0, 1) := by decide +kernel
theorem dL_parts_31 : decode cL_parts 31 = .ok (.iload_n 1, 1) := by decide +kernel
theorem dL_parts_32 : decode cL_parts 32 = .ok (.iconst 5, 1) := by decide +kernel
theorem dL_parts_33 : decode cL_parts 33 = .ok (.invokevirtual 36, 3) := by decide +kernel
theorem dL_parts_36 : decode cL_parts 36 = .ok (.istore 6, 2) := by decide +kernel
theorem dL_parts_38 : decode cL_parts 38 = .ok (.aload_n 0, 1) := by decide +kernel
theorem dL_parts_39 : decode cL_parts 39 = .ok (.iload_n 1, 1) := by decide +kernel
theorem dL_parts_40 : decode cL_parts 40 = .ok (.bipush 6, 2) := by decide +kernel
theorem dL_parts_42 : decode cL_parts 42 = .ok (.invokevirtual 36, 3) := by decide +kernel
theorem dL_parts_45 : decode cL_parts 45 = .ok (.istore 7, 2) := by decide +kernel
theorem dL_parts_47 : decode cL_parts 47 = .ok (.aload_n 0, 1) := by decide +kernel
theorem dL_parts_48 : decode cL_parts 48 = .ok (.iload_n 1, 1) := by decide +kernel
theorem dL_parts_49 : decode cL_parts 49 = .ok (.bipush 7, 2) := by decide +kernel
theorem dL_parts_51 : decode cL_parts 51 = .ok (.invokevirtual 36, 3) := by decide +kernel
theorem dL_parts_54 : decode cL_parts 54 = .ok (.istore 8, 2) := by decide +kernel
theorem dL_parts_56 : decode cL_parts 56 = .ok (.iload_n 3, 1) := by decide +kernel
theorem dL_parts_57 : decode cL_parts 57 = .ok (.iload 4, 2) := by decide +kernel
theorem dL_parts_59 : decode cL_parts 59 = .ok (.if_icmp .le 7, 3) := by decide +kernel
theorem dL_parts_62 : decode cL_parts 62 = .ok (.iload_n 3, 1) := by decide +kernel
theorem dL_parts_63 : decode cL_parts 63 = .ok (.goto 5, 3) := by decide +kernel
theorem dL_parts_66 : decode cL_parts 66 = .ok (.iload 4, 2) := by decide +kernel
theorem dL_parts_68 : decode cL_parts 68 = .ok (.istore 9, 2) := by decide +kernel
theorem dL_parts_70 : decode cL_parts 70 = .ok (.iload_n 3, 1) := by decide +kernel
theorem dL_parts_71 : decode cL_parts 71 = .ok (.iload 4, 2) := by decide +kernel
theorem dL_parts_73 : decode cL_parts 73 = .ok (.if_icmp .le 8, 3) := by decide +kernel
theorem dL_parts_76 : decode cL_parts 76 = .ok (.iload 4, 2) := by decide +kernel
theorem dL_parts_78 : decode cL_parts 78 = .ok (.goto 4, 3) := by decide +kernel
theorem dL_parts_81 : decode cL_parts 81 = .ok (.iload_n 3, 1) := by decide +kernel
theorem dL_parts_82 : decode cL_parts 82 = .ok (.istore 10, 2) := by decide +kernel
theorem dL_parts_84 : decode cL_parts 84 = .ok (.iload_n 3, 1) := by decide +kernel
theorem dL_parts_85 : decode cL_parts 85 = .ok (.ifCond .lt 83, 3) := by decide +kernel
theorem dL_parts_88 : decode cL_parts 88 = .ok (.iload 4, 2) := by decide +kernel
theorem dL_parts_90 : decode cL_parts 90 = .ok (.ifCond .lt 78, 3) := by decide +kernel
theorem dL_parts_93 : decode cL_parts 93 = .ok (.iload_n 3, 1) := by decide +kernel
theorem dL_parts_94 : decode cL_parts 94 = .ok (.iload 4, 2) := by decide +kernel
theorem dL_parts_96 : decode cL_parts 96 = .ok (.iadd, 1) := by decide +kernel
theorem dL_parts_97 : decode cL_parts 97 = .ok (.iload_n 2, 1) := by decide +kernel
theorem dL_parts_98 : decode cL_parts 98 = .ok (.if_icmp .ne 70, 3) := by decide +kernel
theorem dL_parts_101 : decode cL_parts 101 = .ok (.iload_n 2, 1) := by decide +kernel
theorem dL_parts_102 : decode cL_parts 102 = .ok (.bipush 40, 2) := by decide +kernel
theorem dL_parts_104 : decode cL_parts 104 = .ok (.if_icmp .gt 64, 3) := by decide +kernel
theorem dL_parts_107 : decode cL_parts 107 = .ok (.iload 5, 2) := by decide +kernel
theorem dL_parts_109 : decode cL_parts 109 = .ok (.ifCond .le 7, 3) := by decide +kernel
theorem dL_parts_112 : decode cL_parts 112 = .ok (.iconst 1, 1) := by decide +kernel
theorem dL_parts_113 : decode cL_parts 113 = .ok (.goto 4, 3) := by decide +kernel
theorem dL_parts_116 : decode cL_parts 116 = .ok (.iconst 0, 1) := by decide +kernel
theorem dL_parts_117 : decode cL_parts 117 = .ok (.iload 6, 2) := by decide +kernel
theorem dL_parts_119 : decode cL_parts 119 = .ok (.ifCond .lt 7, 3) := by decide +kernel
theorem dL_parts_122 : decode cL_parts 122 = .ok (.iconst 1, 1) := by decide +kernel
theorem dL_parts_123 : decode cL_parts 123 = .ok (.goto 4, 3) := by decide +kernel
theorem dL_parts_126 : decode cL_parts 126 = .ok (.iconst 0, 1) := by decide +kernel
theorem dL_parts_127 : decode cL_parts 127 = .ok (.if_icmp .ne 41, 3) := by decide +kernel
theorem dL_parts_130 : decode cL_parts 130 = .ok (.iload 5, 2) := by decide +kernel
theorem dL_parts_132 : decode cL_parts 132 = .ok (.ifCond .lt 36, 3) := by decide +kernel
theorem dL_parts_135 : decode cL_parts 135 = .ok (.iload 6, 2) := by decide +kernel
theorem dL_parts_137 : decode cL_parts 137 = .ok (.iconst (-1), 1) := by decide +kernel
theorem dL_parts_138 : decode cL_parts 138 = .ok (.if_icmp .lt 30, 3) := by decide +kernel
theorem dL_parts_141 : decode cL_parts 141 = .ok (.iload 6, 2) := by decide +kernel
theorem dL_parts_143 : decode cL_parts 143 = .ok (.iload_n 2, 1) := by decide +kernel
theorem dL_parts_144 : decode cL_parts 144 = .ok (.if_icmp .gt 24, 3) := by decide +kernel
theorem dL_parts_147 : decode cL_parts 147 = .ok (.iload 6, 2) := by decide +kernel
theorem dL_parts_149 : decode cL_parts 149 = .ok (.ifCond .ge 14, 3) := by decide +kernel
theorem dL_parts_152 : decode cL_parts 152 = .ok (.iload 9, 2) := by decide +kernel
theorem dL_parts_154 : decode cL_parts 154 = .ok (.iconst 5, 1) := by decide +kernel
theorem dL_parts_155 : decode cL_parts 155 = .ok (.iload 10, 2) := by decide +kernel
theorem dL_parts_157 : decode cL_parts 157 = .ok (.imul, 1) := by decide +kernel
theorem dL_parts_158 : decode cL_parts 158 = .ok (.iconst 1, 1) := by decide +kernel
theorem dL_parts_159 : decode cL_parts 159 = .ok (.iadd, 1) := by decide +kernel
theorem dL_parts_160 : decode cL_parts 160 = .ok (.if_icmp .gt 8, 3) := by decide +kernel
theorem dL_parts_163 : decode cL_parts 163 = .ok (.iload 8, 2) := by decide +kernel
theorem dL_parts_165 : decode cL_parts 165 = .ok (.ifCond .ge 5, 3) := by decide +kernel
theorem dL_parts_168 : decode cL_parts 168 = .ok (.iconst 0, 1) := by decide +kernel
theorem dL_parts_169 : decode cL_parts 169 = .ok (.ireturn, 1) := by decide +kernel
theorem dL_parts_170 : decode cL_parts 170 = .ok (.aload_n 0, 1) := by decide +kernel
theorem dL_parts_171 : decode cL_parts 171 = .ok (.iload_n 1, 1) := by decide +kernel
theorem dL_parts_172 : decode cL_parts 172 = .ok (.bipush 8, 2) := by decide +kernel
theorem dL_parts_174 : decode cL_parts 174 = .ok (.invokevirtual 36, 3) := by decide +kernel
theorem dL_parts_177 : decode cL_parts 177 = .ok (.istore 11, 2) := by decide +kernel
theorem dL_parts_179 : decode cL_parts 179 = .ok (.iload_n 1, 1) := by decide +kernel
theorem dL_parts_180 : decode cL_parts 180 = .ok (.ifCond .le 127, 3) := by decide +kernel
theorem dL_parts_183 : decode cL_parts 183 = .ok (.aload_n 0, 1) := by decide +kernel
theorem dL_parts_184 : decode cL_parts 184 = .ok (.iload_n 1, 1) := by decide +kernel
theorem dL_parts_185 : decode cL_parts 185 = .ok (.iconst 0, 1) := by decide +kernel
theorem dL_parts_186 : decode cL_parts 186 = .ok (.invokevirtual 36, 3) := by decide +kernel
theorem dL_parts_189 : decode cL_parts 189 = .ok (.istore 12, 2) := by decide +kernel
theorem dL_parts_191 : decode cL_parts 191 = .ok (.iload 7, 2) := by decide +kernel
theorem dL_parts_193 : decode cL_parts 193 = .ok (.iload 8, 2) := by decide +kernel
theorem dL_parts_195 : decode cL_parts 195 = .ok (.isub, 1) := by decide +kernel
theorem dL_parts_196 : decode cL_parts 196 = .ok (.iconst 1, 1) := by decide +kernel
theorem dL_parts_197 : decode cL_parts 197 = .ok (.isub, 1) := by decide +kernel
theorem dL_parts_198 : decode cL_parts 198 = .ok (.istore 13, 2) := by decide +kernel
theorem dL_parts_200 : decode cL_parts 200 = .ok (.iload 8, 2) := by decide +kernel
theorem dL_parts_202 : decode cL_parts 202 = .ok (.ifCond .le 7, 3) := by decide +kernel
theorem dL_parts_205 : decode cL_parts 205 = .ok (.iconst 0, 1) := by decide +kernel
theorem dL_parts_206 : decode cL_parts 206 = .ok (.goto 10, 3) := by decide +kernel
theorem dL_parts_209 : decode cL_parts 209 = .ok (.aload_n 0, 1) := by decide +kernel
theorem dL_parts_210 : decode cL_parts 210 = .ok (.iload 12, 2) := by decide +kernel
theorem dL_parts_212 : decode cL_parts 212 = .ok (.iconst 4, 1) := by decide +kernel
theorem dL_parts_213 : decode cL_parts 213 = .ok (.invokevirtual 36, 3) := by decide +kernel
theorem dL_parts_216 : decode cL_parts 216 = .ok (.istore 14, 2) := by decide +kernel
theorem dL_parts_218 : decode cL_parts 218 = .ok (.aload_n 0, 1) := by decide +kernel
theorem dL_parts_219 : decode cL_parts 219 = .ok (.iload 12, 2) := by decide +kernel
theorem dL_parts_221 : decode cL_parts 221 = .ok (.iload 11, 2) := by decide +kernel
theorem dL_parts_223 : decode cL_parts 223 = .ok (.iconst 2, 1) := by decide +kernel
theorem dL_parts_224 : decode cL_parts 224 = .ok (.irem, 1) := by decide +kernel
theorem dL_parts_225 : decode cL_parts 225 = .ok (.ifCond .ne 7, 3) := by decide +kernel
theorem dL_parts_228 : decode cL_parts 228 = .ok (.iconst 2, 1) := by decide +kernel
theorem dL_parts_229 : decode cL_parts 229 = .ok (.goto 4, 3) := by decide +kernel
theorem dL_parts_232 : decode cL_parts 232 = .ok (.iconst 3, 1) := by decide +kernel
theorem dL_parts_233 : decode cL_parts 233 = .ok (.invokevirtual 36, 3) := by decide +kernel
theorem dL_parts_236 : decode cL_parts 236 = .ok (.istore 15, 2) := by decide +kernel
theorem dL_parts_238 : decode cL_parts 238 = .ok (.iload 13, 2) := by decide +kernel
theorem dL_parts_240 : decode cL_parts 240 = .ok (.ifCond .lt 65, 3) := by decide +kernel
theorem dL_parts_243 : decode cL_parts 243 = .ok (.iload 13, 2) := by decide +kernel
theorem dL_parts_245 : decode cL_parts 245 = .ok (.bipush 9, 2) := by decide +kernel
theorem dL_parts_247 : decode cL_parts 247 = .ok (.if_icmp .gt 58, 3) := by decide +kernel
theorem dL_parts_250 : decode cL_parts 250 = .ok (.iload 13, 2) := by decide +kernel
theorem dL_parts_252 : decode cL_parts 252 = .ok (.iload 14, 2) := by decide +kernel
theorem dL_parts_254 : decode cL_parts 254 = .ok (.if_icmp .gt 51, 3) := by decide +kernel
theorem dL_parts_257 : decode cL_parts 257 = .ok (.iload 8, 2) := by decide +kernel
theorem dL_parts_259 : decode cL_parts 259 = .ok (.ifCond .le 14, 3) := by decide +kernel
theorem dL_parts_262 : decode cL_parts 262 = .ok (.iload 11, 2) := by decide +kernel
theorem dL_parts_264 : decode cL_parts 264 = .ok (.iconst 2, 1) := by decide +kernel
theorem dL_parts_265 : decode cL_parts 265 = .ok (.if_icmp .lt 40, 3) := by decide +kernel
theorem dL_parts_268 : decode cL_parts 268 = .ok (.iload 15, 2) := by decide +kernel
theorem dL_parts_270 : decode cL_parts 270 = .ok (.ifCond .gt 35, 3) := by decide +kernel
theorem dL_parts_273 : decode cL_parts 273 = .ok (.iload 14, 2) := by decide +kernel
theorem dL_parts_275 : decode cL_parts 275 = .ok (.ifCond .le 32, 3) := by decide +kernel
theorem dL_parts_278 : decode cL_parts 278 = .ok (.iload 5, 2) := by decide +kernel
theorem dL_parts_280 : decode cL_parts 280 = .ok (.ifCond .le 20, 3) := by decide +kernel
theorem dL_parts_283 : decode cL_parts 283 = .ok (.iload 13, 2) := by decide +kernel
theorem dL_parts_285 : decode cL_parts 285 = .ok (.iload 14, 2) := by decide +kernel
theorem dL_parts_287 : decode cL_parts 287 = .ok (.if_icmp .ge 13, 3) := by decide +kernel
theorem dL_parts_290 : decode cL_parts 290 = .ok (.iload 5, 2) := by decide +kernel
theorem dL_parts_292 : decode cL_parts 292 = .ok (.iload 14, 2) := by decide +kernel
theorem dL_parts_294 : decode cL_parts 294 = .ok (.iload 13, 2) := by decide +kernel
theorem dL_parts_296 : decode cL_parts 296 = .ok (.isub, 1) := by decide +kernel
theorem dL_parts_297 : decode cL_parts 297 = .ok (.if_icmp .ne 8, 3) := by decide +kernel
theorem dL_parts_300 : decode cL_parts 300 = .ok (.iload 13, 2) := by decide +kernel
theorem dL_parts_302 : decode cL_parts 302 = .ok (.ifCond .ne 5, 3) := by decide +kernel
theorem dL_parts_305 : decode cL_parts 305 = .ok (.iconst 0, 1) := by decide +kernel
theorem dL_parts_306 : decode cL_parts 306 = .ok (.ireturn, 1) := by decide +kernel
theorem dL_parts_307 : decode cL_parts 307 = .ok (.iconst 0, 1) := by decide +kernel
theorem dL_parts_308 : decode cL_parts 308 = .ok (.istore 12, 2) := by decide +kernel
theorem dL_parts_310 : decode cL_parts 310 = .ok (.iload 12, 2) := by decide +kernel
theorem dL_parts_312 : decode cL_parts 312 = .ok (.iload_n 2, 1) := by decide +kernel
theorem dL_parts_313 : decode cL_parts 313 = .ok (.if_icmp .ge 38, 3) := by decide +kernel
theorem dL_parts_316 : decode cL_parts 316 = .ok (.aload_n 0, 1) := by decide +kernel
theorem dL_parts_317 : decode cL_parts 317 = .ok (.iload_n 1, 1) := by decide +kernel
theorem dL_parts_318 : decode cL_parts 318 = .ok (.iload 12, 2) := by decide +kernel
theorem dL_parts_320 : decode cL_parts 320 = .ok (.invokevirtual 46, 3) := by decide +kernel
theorem dL_parts_323 : decode cL_parts 323 = .ok (.iload 12, 2) := by decide +kernel
theorem dL_parts_325 : decode cL_parts 325 = .ok (.iload_n 3, 1) := by decide +kernel
theorem dL_parts_326 : decode cL_parts 326 = .ok (.if_icmp .ge 10, 3) := by decide +kernel
theorem dL_parts_329 : decode cL_parts 329 = .ok (.iload 12, 2) := by decide +kernel
theorem dL_parts_331 : decode cL_parts 331 = .ok (.iconst 1, 1) := by decide +kernel
theorem dL_parts_332 : decode cL_parts 332 = .ok (.iadd, 1) := by decide +kernel
theorem dL_parts_333 : decode cL_parts 333 = .ok (.goto 7, 3) := by decide +kernel
theorem dL_parts_336 : decode cL_parts 336 = .ok (.iload_n 2, 1) := by decide +kernel
theorem dL_parts_337 : decode cL_parts 337 = .ok (.iload 12, 2) := by decide +kernel
theorem dL_parts_339 : decode cL_parts 339 = .ok (.isub, 1) := by decide +kernel
theorem dL_parts_340 : decode cL_parts 340 = .ok (.if_icmp .eq 5, 3) := by decide +kernel
theorem dL_parts_343 : decode cL_parts 343 = .ok (.iconst 0, 1) := by decide +kernel
theorem dL_parts_344 : decode cL_parts 344 = .ok (.ireturn, 1) := by decide +kernel
theorem dL_parts_345 : decode cL_parts 345 = .ok (.iinc 12 1, 3) := by decide +kernel
theorem dL_parts_348 : decode cL_parts 348 = .ok (.goto (-38), 3) := by decide +kernel
theorem dL_parts_351 : decode cL_parts 351 = .ok (.iload_n 1, 1) := by decide +kernel
theorem dL_parts_352 : decode cL_parts 352 = .ok (.ifCond .gt 43, 3) := by decide +kernel
theorem dL_parts_355 : decode cL_parts 355 = .ok (.iload_n 2, 1) := by decide +kernel
theorem dL_parts_356 : decode cL_parts 356 = .ok (.ifCond .ne 43, 3) := by decide +kernel
theorem dL_parts_359 : decode cL_parts 359 = .ok (.iload 7, 2) := by decide +kernel
theorem dL_parts_361 : decode cL_parts 361 = .ok (.ifCond .ne 38, 3) := by decide +kernel
theorem dL_parts_364 : decode cL_parts 364 = .ok (.iload 8, 2) := by decide +kernel
theorem dL_parts_366 : decode cL_parts 366 = .ok (.ifCond .ne 33, 3) := by decide +kernel
theorem dL_parts_369 : decode cL_parts 369 = .ok (.iload 11, 2) := by decide +kernel
theorem dL_parts_371 : decode cL_parts 371 = .ok (.iconst (-1), 1) := by decide +kernel
theorem dL_parts_372 : decode cL_parts 372 = .ok (.if_icmp .ne 27, 3) := by decide +kernel
theorem dL_parts_375 : decode cL_parts 375 = .ok (.aload_n 0, 1) := by decide +kernel
theorem dL_parts_376 : decode cL_parts 376 = .ok (.iconst 0, 1) := by decide +kernel
theorem dL_parts_377 : decode cL_parts 377 = .ok (.iconst 0, 1) := by decide +kernel
theorem dL_parts_378 : decode cL_parts 378 = .ok (.invokevirtual 36, 3) := by decide +kernel
theorem dL_parts_381 : decode cL_parts 381 = .ok (.iconst (-1), 1) := by decide +kernel
theorem dL_parts_382 : decode cL_parts 382 = .ok (.if_icmp .ne 17, 3) := by decide +kernel
theorem dL_parts_385 : decode cL_parts 385 = .ok (.aload_n 0, 1) := by decide +kernel
theorem dL_parts_386 : decode cL_parts 386 = .ok (.iconst 0, 1) := by decide +kernel
theorem dL_parts_387 : decode cL_parts 387 = .ok (.bipush 9, 2) := by decide +kernel
theorem dL_parts_389 : decode cL_parts 389 = .ok (.invokevirtual 36, 3) := by decide +kernel
theorem dL_parts_392 : decode cL_parts 392 = .ok (.ifCond .ne 7, 3) := by decide +kernel
theorem dL_parts_395 : decode cL_parts 395 = .ok (.iconst 1, 1) := by decide +kernel
theorem dL_parts_396 : decode cL_parts 396 = .ok (.goto 4, 3) := by decide +kernel
theorem dL_parts_399 : decode cL_parts 399 = .ok (.iconst 0, 1) := by decide +kernel
theorem dL_parts_400 : decode cL_parts 400 = .ok (.ireturn, 1) := by decide +kernel
set_option maxRecDepth 20000 in
theorem ggL_ways_X4_version : GoodIn wsL_ways wsX4_version := goodIn_ca (goodIn_ca (goodIn_r _ [5, 6, 7, 8, 9, 10, 11, 4, 12, 13, 14, 15, 16, 17, 18, 19, 20, 21, 22, 23, 24, 25, 26, 27, 28, 29, 30, 31, 32, 33, 34, 35, 36, 37, 38, 39, 40, 41, 42, 43, 44, 45, 46, 47, 48, 49, 50, 51, 52, 53, 54, 125, 126, 127, 128, 129, 130, 131, 132, 133, 134, 135, 136, 137, 138, 139, 140, 141, 142, 143, 144, 145] (by decide +kernel) (by decide +kernel)) (goodIn_sub (fun _ h => List.mem_cons_of_mem _ (List.mem_append_left _ (List.mem_append_right _ h))) (by decide +kernel))) (goodIn_sub (fun _ h => List.mem_cons_of_mem _ (List.mem_append_right _ h)) (by decide +kernel))
set_option maxRecDepth 20000 in
theorem gL_ways_X4_version : GoodIn wsL_ways (wsV RL 36 RX4 yX4_version wsX4_version) := goodIn_app (goodIn_of _ (by decide +kernel)) ggL_ways_X4_version
set_option maxRecDepth 20000 in
theorem ggL_ways_X4_firstLike : GoodIn wsL_ways wsX4_firstLike := goodIn_ca (goodIn_r _ [58, 8, 9, 10, 11, 4, 12, 13, 14, 15, 16, 17, 18, 19, 20, 59, 60, 61, 62, 63, 22, 23, 24, 25, 26, 27, 28, 29, 30, 31, 32, 33, 34, 35, 36, 37, 38, 39, 40, 41, 42, 43, 44, 45, 46, 64, 65, 66, 67, 51, 52, 53, 54, 68, 69, 70, 71, 72, 73, 125, 126, 127, 128, 129, 130, 131, 132, 133, 134, 135, 136, 137, 138, 139, 140, 141, 142, 143, 144, 145] (by decide +kernel) (by decide +kernel)) (goodIn_sub (fun _ h => List.mem_cons_of_mem _ (List.mem_append_right _ h)) (by decide +kernel))
set_option maxRecDepth 20000 in
theorem gL_ways_X4_firstLike : GoodIn wsL_ways (wsV RL 49 RX4 yX4_firstLike wsX4_firstLike) := goodIn_app (goodIn_of _ (by decide +kernel)) ggL_ways_X4_firstLike
set_option maxRecDepth 20000 in
theorem ggL_ways_X4_at : GoodIn wsL_ways wsX4_at := goodIn_ca (goodIn_r _ [77, 8, 78, 79, 80, 4, 81, 13, 14, 82, 83, 84, 18, 85, 86, 16, 17, 19, 20, 63, 22, 23, 24, 25, 26, 27, 28, 29, 30, 31, 32, 33, 34, 35, 36, 37, 38, 39, 40, 41, 42, 43, 44, 45, 46, 87, 52, 53, 54, 21, 88, 69, 70, 71, 72, 73, 125, 126, 127, 128, 129, 130, 131, 132, 133, 134, 135, 136, 137, 138, 139, 140, 141, 142, 143, 144, 145] (by decide +kernel) (by decide +kernel)) (goodIn_sub (fun _ h => List.mem_cons_of_mem _ (List.mem_append_right _ h)) (by decide +kernel))
set_option maxRecDepth 20000 in
theorem gL_ways_X4_at : GoodIn wsL_ways (wsV RL 40 RX4 yX4_at wsX4_at) := goodIn_app (goodIn_of _ (by decide +kernel)) ggL_ways_X4_at
set_option maxRecDepth 20000 in
theorem ggL_ways_X4_worst : GoodIn wsL_ways wsX4_worst := goodIn_ca (goodIn_r _ [92, 8, 9, 10, 11, 4, 12, 13, 14, 15, 16, 17, 18, 19, 20, 93, 94, 95, 96, 97, 98, 99, 100, 101, 102, 63, 22, 23, 24, 25, 26, 27, 28, 29, 30, 31, 32, 33, 34, 35, 36, 37, 38, 39, 40, 41, 42, 43, 44, 45, 46, 125, 126, 127, 128, 129, 130, 131, 132, 133, 134, 135, 136, 137, 138, 139, 140, 141, 142, 143, 144, 145] (by decide +kernel) (by decide +kernel)) (goodIn_sub (fun _ h => List.mem_cons_of_mem _ (List.mem_append_right _ h)) (by decide +kernel))
set_option maxRecDepth 20000 in
theorem gL_ways_X4_worst : GoodIn wsL_ways (wsV RL 52 RX4 yX4_worst wsX4_worst) := goodIn_app (goodIn_of _ (by decide +kernel)) ggL_ways_X4_worst
set_option maxRecDepth 20000 in
theorem ggL_ways_X4_mean : GoodIn wsL_ways wsX4_mean := goodIn_ca (goodIn_r _ [106, 8, 107, 9, 10, 11, 4, 12, 13, 14, 15, 16, 17, 18, 19, 20, 21, 22, 23, 24, 25, 26, 27, 28, 29, 30, 31, 32, 33, 34, 35, 36, 37, 38, 39, 40, 41, 42, 43, 44, 45, 46, 108, 109, 110, 111, 97, 102, 63, 125, 126, 127, 128, 129, 135, 136, 137, 138, 139, 140, 141, 142, 143, 144, 145, 130, 131, 132, 133, 134] (by decide +kernel) (by decide +kernel)) (goodIn_sub (fun _ h => List.mem_cons_of_mem _ (List.mem_append_right _ h)) (by decide +kernel))
set_option maxRecDepth 20000 in
theorem gL_ways_X4_mean : GoodIn wsL_ways (wsV RL 55 RX4 yX4_mean wsX4_mean) := goodIn_app (goodIn_of _ (by decide +kernel)) ggL_ways_X4_mean
set_option maxRecDepth 20000 in
theorem ggL_ways_X4_common : GoodIn wsL_ways wsX4_common := goodIn_ca (goodIn_r _ [115, 8, 9, 10, 11, 4, 12, 13, 14, 15, 16, 17, 18, 19, 20, 116, 117, 118, 119, 102, 63, 22, 23, 24, 25, 26, 27, 28, 29, 30, 31, 32, 33, 34, 35, 36, 37, 38, 39, 40, 41, 42, 43, 44, 45, 46, 125, 126, 127, 128, 129, 130, 131, 132, 133, 134, 135, 136, 137, 138, 139, 140, 141, 142, 143, 144, 145] (by decide +kernel) (by decide +kernel)) (goodIn_sub (fun _ h => List.mem_cons_of_mem _ (List.mem_append_right _ h)) (by decide +kernel))
set_option maxRecDepth 20000 in
theorem gL_ways_X4_common : GoodIn wsL_ways (wsV RL 59 RX4 yX4_common wsX4_common) := goodIn_app (goodIn_of _ (by decide +kernel)) ggL_ways_X4_common
set_option maxRecDepth 20000 in
theorem ggL_ways_X4_same : GoodIn wsL_ways wsX4_same := goodIn_ca (goodIn_r _ [123, 8, 9, 10, 11, 4, 12, 13, 14, 15, 16, 17, 18, 19, 20, 21, 22, 23, 24, 25, 26, 27, 28, 29, 30, 31, 32, 33, 34, 35, 36, 37, 38, 39, 40, 41, 42, 43, 44, 45, 46, 124, 65, 66, 67, 51, 52, 53, 54, 68, 69, 70, 71, 72, 73, 125, 126, 127, 128, 129, 130, 131, 132, 133, 134, 135, 136, 137, 138, 139, 140, 141, 142, 143, 144, 145] (by decide +kernel) (by decide +kernel)) (goodIn_sub (fun _ h => List.mem_cons_of_mem _ (List.mem_append_right _ h)) (by decide +kernel))
set_option maxRecDepth 20000 in
theorem gL_ways_X4_same : GoodIn wsL_ways (wsV RL 62 RX4 yX4_same wsX4_same) := goodIn_app (goodIn_of _ (by decide +kernel)) ggL_ways_X4_same
theorem dL_ways_0 : decode cL_ways 0 = .ok (.iconst 0, 1) := by decide +kernel
theorem dL_ways_1 : decode cL_ways 1 = .ok (.istore_n 3, 1) := by decide +kernel
theorem dL_ways_2 : decode cL_ways 2 = .ok (.iconst 0, 1) := by decide +kernel
theorem dL_ways_3 : decode cL_ways 3 = .ok (.istore 4, 2) := by decide +kernel
theorem dL_ways_5 : decode cL_ways 5 = .ok (.iconst 0, 1) := by decide +kernel
theorem dL_ways_6 : decode cL_ways 6 = .ok (.istore 5, 2) := by decide +kernel
theorem dL_ways_8 : decode cL_ways 8 = .ok (.iload_n 1, 1) := by decide +kernel
theorem dL_ways_9 : decode cL_ways 9 = .ok (.istore 6, 2) := by decide +kernel
theorem dL_ways_11 : decode cL_ways 11 = .ok (.iload 6, 2) := by decide +kernel
theorem dL_ways_13 : decode cL_ways 13 = .ok (.ifCond .le 49, 3) := by decide +kernel
theorem dL_ways_16 : decode cL_ways 16 = .ok (.aload_n 0, 1) := by decide +kernel
theorem dL_ways_17 : decode cL_ways 17 = .ok (.iload 6, 2) := by decide +kernel
theorem dL_ways_19 : decode cL_ways 19 = .ok (.bipush 6, 2) := by decide +kernel
theorem dL_ways_21 : decode cL_ways 21 = .ok (.invokevirtual 36, 3) := by decide +kernel
theorem dL_ways_24 : decode cL_ways 24 = .ok (.istore 7, 2) := by decide +kernel
theorem dL_ways_26 : decode cL_ways 26 = .ok (.iload_n 3, 1) := by decide +kernel
theorem dL_ways_27 : decode cL_ways 27 = .ok (.iload 7, 2) := by decide +kernel
theorem dL_ways_29 : decode cL_ways 29 = .ok (.iadd, 1) := by decide +kernel
theorem dL_ways_30 : decode cL_ways 30 = .ok (.istore_n 3, 1) := by decide +kernel
theorem dL_ways_31 : decode cL_ways 31 = .ok (.iload 7, 2) := by decide +kernel
theorem dL_ways_33 : decode cL_ways 33 = .ok (.iload 4, 2) := by decide +kernel
theorem dL_ways_35 : decode cL_ways 35 = .ok (.if_icmp .le 8, 3) := by decide +kernel
theorem dL_ways_38 : decode cL_ways 38 = .ok (.iload 7, 2) := by decide +kernel
theorem dL_ways_40 : decode cL_ways 40 = .ok (.goto 5, 3) := by decide +kernel
theorem dL_ways_43 : decode cL_ways 43 = .ok (.iload 4, 2) := by decide +kernel
theorem dL_ways_45 : decode cL_ways 45 = .ok (.istore 4, 2) := by decide +kernel
theorem dL_ways_47 : decode cL_ways 47 = .ok (.iinc 5 1, 3) := by decide +kernel
theorem dL_ways_50 : decode cL_ways 50 = .ok (.aload_n 0, 1) := by decide +kernel
theorem dL_ways_51 : decode cL_ways 51 = .ok (.iload 6, 2) := by decide +kernel
theorem dL_ways_53 : decode cL_ways 53 = .ok (.iconst 0, 1) := by decide +kernel
theorem dL_ways_54 : decode cL_ways 54 = .ok (.invokevirtual 36, 3) := by decide +kernel
theorem dL_ways_57 : decode cL_ways 57 = .ok (.istore 6, 2) := by decide +kernel
theorem dL_ways_59 : decode cL_ways 59 = .ok (.goto (-48), 3) := by decide +kernel
theorem dL_ways_62 : decode cL_ways 62 = .ok (.iload_n 1, 1) := by decide +kernel
theorem dL_ways_63 : decode cL_ways 63 = .ok (.istore 6, 2) := by decide +kernel
theorem dL_ways_65 : decode cL_ways 65 = .ok (.iload_n 2, 1) := by decide +kernel
theorem dL_ways_66 : decode cL_ways 66 = .ok (.istore 7, 2) := by decide +kernel
theorem dL_ways_68 : decode cL_ways 68 = .ok (.iload 6, 2) := by decide +kernel
theorem dL_ways_70 : decode cL_ways 70 = .ok (.iload 7, 2) := by decide +kernel
theorem dL_ways_72 : decode cL_ways 72 = .ok (.if_icmp .eq 46, 3) := by decide +kernel
theorem dL_ways_75 : decode cL_ways 75 = .ok (.aload_n 0, 1) := by decide +kernel
theorem dL_ways_76 : decode cL_ways 76 = .ok (.iload 6, 2) := by decide +kernel
theorem dL_ways_78 : decode cL_ways 78 = .ok (.bipush 9, 2) := by decide +kernel
theorem dL_ways_80 : decode cL_ways 80 = .ok (.invokevirtual 36, 3) := by decide +kernel
theorem dL_ways_83 : decode cL_ways 83 = .ok (.aload_n 0, 1) := by decide +kernel
theorem dL_ways_84 : decode cL_ways 84 = .ok (.iload 7, 2) := by decide +kernel
theorem dL_ways_86 : decode cL_ways 86 = .ok (.bipush 9, 2) := by decide +kernel
theorem dL_ways_88 : decode cL_ways 88 = .ok (.invokevirtual 36, 3) := by decide +kernel
theorem dL_ways_91 : decode cL_ways 91 = .ok (.if_icmp .lt 15, 3) := by decide +kernel
theorem dL_ways_94 : decode cL_ways 94 = .ok (.aload_n 0, 1) := by decide +kernel
theorem dL_ways_95 : decode cL_ways 95 = .ok (.iload 6, 2) := by decide +kernel
theorem dL_ways_97 : decode cL_ways 97 = .ok (.iconst 0, 1) := by decide +kernel
theorem dL_ways_98 : decode cL_ways 98 = .ok (.invokevirtual 36, 3) := by decide +kernel
theorem dL_ways_101 : decode cL_ways 101 = .ok (.istore 6, 2) := by decide +kernel
theorem dL_ways_103 : decode cL_ways 103 = .ok (.goto (-35), 3) := by decide +kernel
theorem dL_ways_106 : decode cL_ways 106 = .ok (.aload_n 0, 1) := by decide +kernel
theorem dL_ways_107 : decode cL_ways 107 = .ok (.iload 7, 2) := by decide +kernel
theorem dL_ways_109 : decode cL_ways 109 = .ok (.iconst 0, 1) := by decide +kernel
theorem dL_ways_110 : decode cL_ways 110 = .ok (.invokevirtual 36, 3) := by decide +kernel
theorem dL_ways_113 : decode cL_ways 113 = .ok (.istore 7, 2) := by decide +kernel
theorem dL_ways_115 : decode cL_ways 115 = .ok (.goto (-47), 3) := by decide +kernel
theorem dL_ways_118 : decode cL_ways 118 = .ok (.aload_n 0, 1) := by decide +kernel
theorem dL_ways_119 : decode cL_ways 119 = .ok (.iload_n 1, 1) := by decide +kernel
theorem dL_ways_120 : decode cL_ways 120 = .ok (.invokevirtual 49, 3) := by decide +kernel
theorem dL_ways_123 : decode cL_ways 123 = .ok (.istore 8, 2) := by decide +kernel
theorem dL_ways_125 : decode cL_ways 125 = .ok (.aload_n 0, 1) := by decide +kernel
theorem dL_ways_126 : decode cL_ways 126 = .ok (.iload_n 1, 1) := by decide +kernel
theorem dL_ways_127 : decode cL_ways 127 = .ok (.iconst 1, 1) := by decide +kernel
theorem dL_ways_128 : decode cL_ways 128 = .ok (.invokevirtual 36, 3) := by decide +kernel
theorem dL_ways_131 : decode cL_ways 131 = .ok (.aload_n 0, 1) := by decide +kernel
theorem dL_ways_132 : decode cL_ways 132 = .ok (.iload_n 2, 1) := by decide +kernel
theorem dL_ways_133 : decode cL_ways 133 = .ok (.iconst 1, 1) := by decide +kernel
theorem dL_ways_134 : decode cL_ways 134 = .ok (.invokevirtual 36, 3) := by decide +kernel
theorem dL_ways_137 : decode cL_ways 137 = .ok (.if_icmp .ne 7, 3) := by decide +kernel
theorem dL_ways_140 : decode cL_ways 140 = .ok (.iconst 1, 1) := by decide +kernel
theorem dL_ways_141 : decode cL_ways 141 = .ok (.goto 4, 3) := by decide +kernel
theorem dL_ways_144 : decode cL_ways 144 = .ok (.iconst 0, 1) := by decide +kernel
theorem dL_ways_145 : decode cL_ways 145 = .ok (.istore 9, 2) := by decide +kernel
theorem dL_ways_147 : decode cL_ways 147 = .ok (.iconst 0, 1) := by decide +kernel
theorem dL_ways_148 : decode cL_ways 148 = .ok (.istore 10, 2) := by decide +kernel
theorem dL_ways_150 : decode cL_ways 150 = .ok (.iload 9, 2) := by decide +kernel
theorem dL_ways_152 : decode cL_ways 152 = .ok (.ifCond .eq 44, 3) := by decide +kernel
theorem dL_ways_155 : decode cL_ways 155 = .ok (.iload 10, 2) := by decide +kernel
theorem dL_ways_157 : decode cL_ways 157 = .ok (.aload_n 0, 1) := by decide +kernel
theorem dL_ways_158 : decode cL_ways 158 = .ok (.iload_n 1, 1) := by decide +kernel
theorem dL_ways_159 : decode cL_ways 159 = .ok (.iconst 1, 1) := by decide +kernel
theorem dL_ways_160 : decode cL_ways 160 = .ok (.invokevirtual 36, 3) := by decide +kernel
theorem dL_ways_163 : decode cL_ways 163 = .ok (.if_icmp .ge 33, 3) := by decide +kernel
theorem dL_ways_166 : decode cL_ways 166 = .ok (.aload_n 0, 1) := by decide +kernel
theorem dL_ways_167 : decode cL_ways 167 = .ok (.iload_n 1, 1) := by decide +kernel
theorem dL_ways_168 : decode cL_ways 168 = .ok (.iload 10, 2) := by decide +kernel
theorem dL_ways_170 : decode cL_ways 170 = .ok (.invokevirtual 40, 3) := by decide +kernel
theorem dL_ways_173 : decode cL_ways 173 = .ok (.aload_n 0, 1) := by decide +kernel
theorem dL_ways_174 : decode cL_ways 174 = .ok (.iload_n 2, 1) := by decide +kernel
theorem dL_ways_175 : decode cL_ways 175 = .ok (.iload 10, 2) := by decide +kernel
theorem dL_ways_177 : decode cL_ways 177 = .ok (.invokevirtual 40, 3) := by decide +kernel
theorem dL_ways_180 : decode cL_ways 180 = .ok (.if_icmp .ne 7, 3) := by decide +kernel
theorem dL_ways_183 : decode cL_ways 183 = .ok (.iconst 1, 1) := by decide +kernel
theorem dL_ways_184 : decode cL_ways 184 = .ok (.goto 4, 3) := by decide +kernel
theorem dL_ways_187 : decode cL_ways 187 = .ok (.iconst 0, 1) := by decide +kernel
theorem dL_ways_188 : decode cL_ways 188 = .ok (.istore 9, 2) := by decide +kernel
theorem dL_ways_190 : decode cL_ways 190 = .ok (.iinc 10 1, 3) := by decide +kernel
theorem dL_ways_193 : decode cL_ways 193 = .ok (.goto (-43), 3) := by decide +kernel
theorem dL_ways_196 : decode cL_ways 196 = .ok (.aload_n 0, 1) := by decide +kernel
theorem dL_ways_197 : decode cL_ways 197 = .ok (.iload_n 1, 1) := by decide +kernel
theorem dL_ways_198 : decode cL_ways 198 = .ok (.bipush 9, 2) := by decide +kernel
theorem dL_ways_200 : decode cL_ways 200 = .ok (.invokevirtual 36, 3) := by decide +kernel
theorem dL_ways_203 : decode cL_ways 203 = .ok (.iload 5, 2) := by decide +kernel
theorem dL_ways_205 : decode cL_ways 205 = .ok (.if_icmp .ne 133, 3) := by decide +kernel
theorem dL_ways_208 : decode cL_ways 208 = .ok (.aload_n 0, 1) := by decide +kernel
theorem dL_ways_209 : decode cL_ways 209 = .ok (.iload_n 1, 1) := by decide +kernel
theorem dL_ways_210 : decode cL_ways 210 = .ok (.invokevirtual 52, 3) := by decide +kernel
theorem dL_ways_213 : decode cL_ways 213 = .ok (.iload 4, 2) := by decide +kernel
theorem dL_ways_215 : decode cL_ways 215 = .ok (.if_icmp .ne 123, 3) := by decide +kernel
theorem dL_ways_218 : decode cL_ways 218 = .ok (.aload_n 0, 1) := by decide +kernel
theorem dL_ways_219 : decode cL_ways 219 = .ok (.iload_n 1, 1) := by decide +kernel
theorem dL_ways_220 : decode cL_ways 220 = .ok (.invokevirtual 55, 3) := by decide +kernel
theorem dL_ways_223 : decode cL_ways 223 = .ok (.iload 5, 2) := by decide +kernel
theorem dL_ways_225 : decode cL_ways 225 = .ok (.ifCond .ne 7, 3) := by decide +kernel
theorem dL_ways_228 : decode cL_ways 228 = .ok (.dconst 0, 1) := by decide +kernel
theorem dL_ways_229 : decode cL_ways 229 = .ok (.goto 9, 3) := by decide +kernel
theorem dL_ways_232 : decode cL_ways 232 = .ok (.iload_n 3, 1) := by decide +kernel
theorem dL_ways_233 : decode cL_ways 233 = .ok (.i2d, 1) := by decide +kernel
theorem dL_ways_234 : decode cL_ways 234 = .ok (.iload 5, 2) := by decide +kernel
theorem dL_ways_236 : decode cL_ways 236 = .ok (.i2d, 1) := by decide +kernel
theorem dL_ways_237 : decode cL_ways 237 = .ok (.ddiv, 1) := by decide +kernel
theorem dL_ways_238 : decode cL_ways 238 = .ok (.dcmp .l, 1) := by decide +kernel
theorem dL_ways_239 : decode cL_ways 239 = .ok (.ifCond .ne 99, 3) := by decide +kernel
theorem dL_ways_242 : decode cL_ways 242 = .ok (.aload_n 0, 1) := by decide +kernel
theorem dL_ways_243 : decode cL_ways 243 = .ok (.iload_n 1, 1) := by decide +kernel
theorem dL_ways_244 : decode cL_ways 244 = .ok (.iload_n 2, 1) := by decide +kernel
theorem dL_ways_245 : decode cL_ways 245 = .ok (.invokevirtual 59, 3) := by decide +kernel
theorem dL_ways_248 : decode cL_ways 248 = .ok (.iload 6, 2) := by decide +kernel
theorem dL_ways_250 : decode cL_ways 250 = .ok (.if_icmp .ne 88, 3) := by decide +kernel
theorem dL_ways_253 : decode cL_ways 253 = .ok (.aload_n 0, 1) := by decide +kernel
theorem dL_ways_254 : decode cL_ways 254 = .ok (.iload_n 2, 1) := by decide +kernel
theorem dL_ways_255 : decode cL_ways 255 = .ok (.iload_n 1, 1) := by decide +kernel
theorem dL_ways_256 : decode cL_ways 256 = .ok (.invokevirtual 59, 3) := by decide +kernel
theorem dL_ways_259 : decode cL_ways 259 = .ok (.iload 6, 2) := by decide +kernel
theorem dL_ways_261 : decode cL_ways 261 = .ok (.if_icmp .ne 77, 3) := by decide +kernel
theorem dL_ways_264 : decode cL_ways 264 = .ok (.aload_n 0, 1) := by decide +kernel
theorem dL_ways_265 : decode cL_ways 265 = .ok (.iload_n 1, 1) := by decide +kernel
theorem dL_ways_266 : decode cL_ways 266 = .ok (.iload_n 1, 1) := by decide +kernel
theorem dL_ways_267 : decode cL_ways 267 = .ok (.invokevirtual 59, 3) := by decide +kernel
theorem dL_ways_270 : decode cL_ways 270 = .ok (.iload_n 1, 1) := by decide +kernel
theorem dL_ways_271 : decode cL_ways 271 = .ok (.if_icmp .ne 67, 3) := by decide +kernel
theorem dL_ways_274 : decode cL_ways 274 = .ok (.aload_n 0, 1) := by decide +kernel
theorem dL_ways_275 : decode cL_ways 275 = .ok (.iload_n 1, 1) := by decide +kernel
theorem dL_ways_276 : decode cL_ways 276 = .ok (.iload_n 2, 1) := by decide +kernel
theorem dL_ways_277 : decode cL_ways 277 = .ok (.invokevirtual 62, 3) := by decide +kernel
theorem dL_ways_280 : decode cL_ways 280 = .ok (.iload 9, 2) := by decide +kernel
theorem dL_ways_282 : decode cL_ways 282 = .ok (.if_icmp .ne 56, 3) := by decide +kernel
theorem dL_ways_285 : decode cL_ways 285 = .ok (.aload_n 0, 1) := by decide +kernel
theorem dL_ways_286 : decode cL_ways 286 = .ok (.iload_n 2, 1) := by decide +kernel
theorem dL_ways_287 : decode cL_ways 287 = .ok (.iload_n 1, 1) := by decide +kernel
theorem dL_ways_288 : decode cL_ways 288 = .ok (.invokevirtual 62, 3) := by decide +kernel
theorem dL_ways_291 : decode cL_ways 291 = .ok (.iload 9, 2) := by decide +kernel
theorem dL_ways_293 : decode cL_ways 293 = .ok (.if_icmp .ne 45, 3) := by decide +kernel
theorem dL_ways_296 : decode cL_ways 296 = .ok (.iload 8, 2) := by decide +kernel
theorem dL_ways_298 : decode cL_ways 298 = .ok (.iload_n 1, 1) := by decide +kernel
theorem dL_ways_299 : decode cL_ways 299 = .ok (.if_icmp .gt 39, 3) := by decide +kernel
theorem dL_ways_302 : decode cL_ways 302 = .ok (.aload_n 0, 1) := by decide +kernel
theorem dL_ways_303 : decode cL_ways 303 = .ok (.iload_n 1, 1) := by decide +kernel
theorem dL_ways_304 : decode cL_ways 304 = .ok (.iload 8, 2) := by decide +kernel
theorem dL_ways_306 : decode cL_ways 306 = .ok (.invokevirtual 62, 3) := by decide +kernel
theorem dL_ways_309 : decode cL_ways 309 = .ok (.ifCond .eq 29, 3) := by decide +kernel
theorem dL_ways_312 : decode cL_ways 312 = .ok (.iload 9, 2) := by decide +kernel
theorem dL_ways_314 : decode cL_ways 314 = .ok (.ifCond .eq 9, 3) := by decide +kernel
theorem dL_ways_317 : decode cL_ways 317 = .ok (.iload 8, 2) := by decide +kernel
theorem dL_ways_319 : decode cL_ways 319 = .ok (.iload_n 2, 1) := by decide +kernel
theorem dL_ways_320 : decode cL_ways 320 = .ok (.if_icmp .gt 18, 3) := by decide +kernel
theorem dL_ways_323 : decode cL_ways 323 = .ok (.aload_n 0, 1) := by decide +kernel
theorem dL_ways_324 : decode cL_ways 324 = .ok (.iload 8, 2) := by decide +kernel
theorem dL_ways_326 : decode cL_ways 326 = .ok (.invokevirtual 49, 3) := by decide +kernel
theorem dL_ways_329 : decode cL_ways 329 = .ok (.iload 8, 2) := by decide +kernel
theorem dL_ways_331 : decode cL_ways 331 = .ok (.if_icmp .ne 7, 3) := by decide +kernel
theorem dL_ways_334 : decode cL_ways 334 = .ok (.iconst 1, 1) := by decide +kernel
theorem dL_ways_335 : decode cL_ways 335 = .ok (.goto 4, 3) := by decide +kernel
theorem dL_ways_338 : decode cL_ways 338 = .ok (.iconst 0, 1) := by decide +kernel
theorem dL_ways_339 : decode cL_ways 339 = .ok (.ireturn, 1) := by decide +kernel
