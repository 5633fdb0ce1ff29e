/-! rows of the law: law -/
theorem goodIn_cons {big a : List Cond} {c : Cond} (hc : GoodIn big [c]) (ha : GoodIn big a) : GoodIn big (c :: a) := fun w h => (List.mem_cons.mp h).elim (fun e => hc w (by rw [e]; exact List.mem_singleton.mpr rfl)) (ha w)
set_option maxRecDepth 20000 in
theorem ggL_law_X4_init : GoodIn wsL_law wsX4_init := goodIn_r _ [5, 6, 7, 8, 9, 10, 11, 12, 13, 14, 15, 16, 17, 18, 19, 20, 21, 22, 23, 24, 25, 26, 27, 28, 29, 30, 31, 32, 33, 34, 35, 36, 37, 38, 39, 40, 41, 42, 43, 44, 45, 46, 47, 48, 49, 50, 51, 52, 53, 54, 55, 56, 57, 58, 59, 60, 61, 62, 63, 64, 65, 66, 67, 68, 69, 70, 493, 494, 495, 496, 497, 498, 499, 500, 488, 489, 490, 491, 492, 501, 502, 503, 504, 505, 506, 507, 508, 509, 510, 511, 512, 513, 514, 515, 516, 517, 518, 519] (by decide +kernel) (by decide +kernel)
set_option maxRecDepth 20000 in
theorem gL_law_X4_init : GoodIn wsL_law (wsX4_init) := ggL_law_X4_init
set_option maxRecDepth 20000 in
theorem ggL_law_X4_count : GoodIn wsL_law wsX4_count := goodIn_ca (goodIn_r _ [74, 75, 76, 21, 77, 78, 79, 20, 80, 65, 81, 82, 83, 84, 70, 85, 86, 2, 87, 88, 89, 90, 91, 69, 68, 43, 44, 92, 47, 48, 49, 7, 8, 50, 51, 52, 53, 54, 55, 56, 57, 58, 59, 29, 60, 93, 94, 95, 96, 97, 98, 99, 100, 101, 102, 103, 104, 105, 106, 107, 108, 109, 110, 111, 112, 113, 114, 115, 116, 117, 118, 119, 120, 121, 122, 123, 124, 125, 126, 127, 488, 489, 490, 491, 492, 504, 505, 506, 507, 508, 509, 510, 511, 512, 513, 514, 515, 516, 517, 518, 519] (by decide +kernel) (by decide +kernel)) (goodIn_sub (fun _ h => List.mem_append_left _ (List.mem_append_left _ (List.mem_append_left _ (List.mem_append_right _ h)))) (by decide +kernel))
set_option maxRecDepth 20000 in
theorem gL_law_X4_count : GoodIn wsL_law (wsV RL 33 RX4 yX4_count wsX4_count) := goodIn_app (goodIn_of _ (by decide +kernel)) ggL_law_X4_count
set_option maxRecDepth 20000 in
theorem ggL_law_X4_setting : GoodIn wsL_law wsX4_setting := goodIn_ca (goodIn_r _ [131, 75, 76, 21, 132, 133, 134, 20, 135, 66, 67, 488, 489, 490, 491, 492, 504, 505, 506, 507, 508] (by decide +kernel) (by decide +kernel)) (goodIn_sub (fun _ h => List.mem_append_left _ (List.mem_append_left _ (List.mem_append_left _ (List.mem_append_right _ h)))) (by decide +kernel))
set_option maxRecDepth 20000 in
theorem gL_law_X4_setting : GoodIn wsL_law (wsV RL 29 RX4 yX4_setting wsX4_setting) := goodIn_app (goodIn_of _ (by decide +kernel)) ggL_law_X4_setting
set_option maxRecDepth 20000 in
theorem ggL_law_X4_run : GoodIn wsL_law wsX4_run := goodIn_ca (goodIn_r _ [139, 12, 21, 140, 141, 142, 2, 143, 144, 145, 146, 147, 148, 20, 149, 65, 150, 151, 152, 11, 153, 28, 27, 30, 93, 94, 154, 155, 156, 157, 34, 35, 158, 159, 160, 161, 33, 162, 163, 164, 165, 31, 32, 86, 87, 166, 167, 168, 169, 22, 18, 17, 19, 170, 171, 172, 173, 61, 62, 63, 64, 7, 8, 66, 67, 68, 69, 29, 70, 174, 175, 176, 177, 88, 89, 90, 91, 43, 44, 92, 47, 48, 49, 50, 51, 52, 53, 54, 55, 56, 57, 58, 59, 60, 178, 179, 180, 181, 182, 183, 184, 185, 107, 108, 109, 110, 186, 187, 188, 189, 190, 191, 192, 193, 194, 195, 196, 197, 198, 199, 200, 201, 202, 203, 204, 205, 206, 207, 208, 209, 210, 211, 212, 213, 214, 215, 216, 85, 217, 218, 219, 220, 221, 222, 223, 224, 225, 226, 227, 228, 229, 230, 231, 232, 233, 234, 235, 100, 101, 102, 236, 237, 238, 239, 125, 126, 127, 240, 241, 242, 243, 244, 245, 246, 247, 248, 249, 250, 251, 252, 253, 254, 255, 256, 257, 258, 259, 488, 489, 490, 491, 492, 504, 505, 506, 507, 508, 493, 494, 495, 496, 497, 498, 499, 500, 509, 510, 511, 512, 513, 514, 515, 516, 517, 518, 519] (by decide +kernel) (by decide +kernel)) (goodIn_sub (fun _ h => List.mem_append_left _ (List.mem_append_left _ (List.mem_append_right _ h))) (by decide +kernel))
set_option maxRecDepth 20000 in
theorem gL_law_X4_run : GoodIn wsL_law (wsV RL 105 RX4 yX4_run wsX4_run) := goodIn_app (goodIn_of _ (by decide +kernel)) ggL_law_X4_run
set_option maxRecDepth 20000 in
theorem ggL_law_X4_undo : GoodIn wsL_law wsX4_undo := goodIn_ca (goodIn_r _ [263, 264, 265, 22, 18, 21, 488, 489, 490, 491, 492] (by decide +kernel) (by decide +kernel)) (goodIn_sub (fun _ h => List.mem_append_left _ (List.mem_append_right _ h)) (by decide +kernel))
set_option maxRecDepth 20000 in
theorem gL_law_X4_undo : GoodIn wsL_law (wsV RL 116 RX4 yX4_undo wsX4_undo) := goodIn_app (goodIn_of _ (by decide +kernel)) ggL_law_X4_undo
set_option maxRecDepth 20000 in
theorem ggL_law_X4_leastRate : GoodIn wsL_law wsX4_leastRate := goodIn_ca (goodIn_ca (goodIn_r _ [269, 16, 12, 21, 270, 140, 141, 142, 2, 143, 144, 145, 146, 147, 148, 20, 149, 65, 271, 272, 273, 274, 264, 265, 150, 151, 152, 11, 153, 28, 27, 30, 93, 94, 154, 155, 156, 157, 34, 35, 158, 159, 160, 161, 33, 162, 163, 164, 165, 31, 32, 86, 87, 275, 276, 277, 15, 278, 40, 41, 45, 279, 280, 237, 101, 238, 281, 282, 283, 284, 100, 102, 285, 89, 90, 91, 69, 68, 43, 44, 92, 47, 48, 49, 7, 8, 50, 51, 52, 53, 54, 55, 56, 57, 58, 59, 29, 60, 286, 179, 180, 181, 182, 183, 184, 185, 107, 108, 109, 110, 287, 200, 201, 202, 288, 192, 193, 194, 289, 204, 205, 206, 207, 208, 290, 210, 211, 212, 291, 218, 219, 220, 221, 222, 223, 224, 225, 226, 227, 228, 229, 230, 231, 232, 233, 234, 235, 236, 239, 125, 126, 127, 240, 241, 242, 243, 244, 245, 246, 247, 248, 249, 250, 251, 252, 253, 254, 255, 256, 257, 258, 259, 488, 489, 490, 491, 492, 501, 502, 503, 504, 505, 506, 507, 508, 493, 494, 495, 496, 497, 498, 499, 500, 509, 510, 511, 512, 513, 514, 515, 516, 517, 518, 519] (by decide +kernel) (by decide +kernel)) (goodIn_sub (fun _ h => List.mem_append_left _ (List.mem_append_left _ (List.mem_append_right _ h))) (by decide +kernel))) (goodIn_sub (fun _ h => List.mem_append_left _ (List.mem_append_right _ h)) (by decide +kernel))
set_option maxRecDepth 20000 in
theorem gL_law_X4_leastRate : GoodIn wsL_law (wsV RL 93 RX4 yX4_leastRate wsX4_leastRate) := goodIn_app (goodIn_of _ (by decide +kernel)) ggL_law_X4_leastRate
set_option maxRecDepth 20000 in
theorem ggL_law_X4_worstWith : GoodIn wsL_law wsX4_worstWith := goodIn_ca (goodIn_ca (goodIn_ca (goodIn_r _ [295, 16, 12, 21, 296, 140, 141, 142, 2, 143, 144, 145, 146, 147, 148, 20, 149, 65, 297, 298, 299, 75, 76, 300, 301, 302, 271, 272, 273, 274, 264, 265, 150, 151, 152, 11, 153, 28, 27, 30, 93, 94, 154, 155, 156, 157, 34, 35, 158, 159, 160, 161, 33, 162, 163, 164, 165, 31, 32, 86, 87, 275, 276, 277, 15, 278, 40, 41, 45, 279, 280, 237, 101, 238, 281, 282, 283, 284, 100, 102, 285, 89, 90, 91, 69, 68, 43, 44, 92, 47, 48, 49, 7, 8, 50, 51, 52, 53, 54, 55, 56, 57, 58, 59, 29, 60, 286, 179, 180, 181, 182, 183, 184, 185, 107, 108, 109, 110, 287, 200, 201, 202, 288, 192, 193, 194, 289, 204, 205, 206, 207, 208, 290, 210, 211, 212, 291, 218, 219, 220, 221, 222, 223, 224, 225, 226, 227, 228, 229, 230, 231, 232, 233, 234, 235, 236, 239, 125, 126, 127, 240, 241, 242, 243, 244, 245, 246, 247, 248, 249, 250, 251, 252, 253, 254, 255, 256, 257, 258, 259, 488, 489, 490, 491, 492, 501, 502, 503, 504, 505, 506, 507, 508, 493, 494, 495, 496, 497, 498, 499, 500, 509, 510, 511, 512, 513, 514, 515, 516, 517, 518, 519] (by decide +kernel) (by decide +kernel)) (goodIn_sub (fun _ h => List.mem_append_left _ (List.mem_append_left _ (List.mem_append_right _ h))) (by decide +kernel))) (goodIn_sub (fun _ h => List.mem_append_left _ (List.mem_append_left _ (List.mem_append_left _ (List.mem_append_right _ h)))) (by decide +kernel))) (goodIn_sub (fun _ h => List.mem_append_left _ (List.mem_append_right _ h)) (by decide +kernel))
set_option maxRecDepth 20000 in
theorem gL_law_X4_worstWith : GoodIn wsL_law (wsV RL 99 RX4 yX4_worstWith wsX4_worstWith) := goodIn_app (goodIn_of _ (by decide +kernel)) ggL_law_X4_worstWith
set_option maxRecDepth 20000 in
theorem ggL_law_L_cell : GoodIn wsL_law wsL_cell := goodIn_r _ [306, 307] (by decide +kernel) (by decide +kernel)
set_option maxRecDepth 20000 in
theorem gL_law_L_cell : GoodIn wsL_law (va_wsS RL 132 yL_cell wsL_cell) := goodIn_app (goodIn_of _ (by decide +kernel)) ggL_law_L_cell
set_option maxRecDepth 20000 in
theorem ggL_law_L_up : GoodIn wsL_law wsL_up := goodIn_r _ [310, 311] (by decide +kernel) (by decide +kernel)
set_option maxRecDepth 20000 in
theorem gL_law_L_up : GoodIn wsL_law (va_wsS RL 75 yL_up wsL_up) := goodIn_app (goodIn_of _ (by decide +kernel)) ggL_law_L_up
set_option maxRecDepth 20000 in
theorem ggL_law_X4_set : GoodIn wsL_law wsX4_set := goodIn_ca (goodIn_r _ [315, 75, 76, 21, 316, 317, 2, 318, 300, 301, 302, 319, 320, 321, 166, 167, 168, 169, 22, 18, 17, 19, 20, 170, 171, 172, 173, 61, 62, 63, 64, 7, 8, 65, 66, 67, 68, 69, 29, 70, 174, 175, 176, 177, 88, 89, 90, 91, 43, 44, 92, 47, 48, 49, 50, 51, 52, 53, 54, 55, 56, 57, 58, 59, 60, 178, 179, 180, 181, 182, 183, 184, 185, 107, 108, 109, 110, 132, 133, 134, 135, 322, 323, 324, 325, 488, 489, 490, 491, 492, 504, 505, 506, 507, 508, 509, 510, 511, 512, 513, 514, 515, 516, 517, 518, 519] (by decide +kernel) (by decide +kernel)) (goodIn_sub (fun _ h => List.mem_append_left _ (List.mem_append_left _ (List.mem_append_left _ (List.mem_append_right _ h)))) (by decide +kernel))
set_option maxRecDepth 20000 in
theorem gL_law_X4_set : GoodIn wsL_law (wsV RL 102 RX4 yX4_set wsX4_set) := goodIn_app (goodIn_of _ (by decide +kernel)) ggL_law_X4_set
set_option maxRecDepth 20000 in
theorem gc_acts_c : GoodIn wsL_law [.code yL_acts cL_acts 12 (some .boolean)] := goodIn_r _ [328] (by decide +kernel) (by decide +kernel)
set_option maxRecDepth 20000 in
theorem gc_wsL_acts_r1 : GoodIn wsL_law wsL_acts_r1 := goodIn_r _ [329, 330, 331, 2, 332, 333, 12, 334, 21, 335, 22, 336, 337, 338, 339, 77, 78, 79, 20, 80, 65, 81, 82, 83] (by decide +kernel) (by decide +kernel)
set_option maxRecDepth 20000 in
theorem gc_wsL_acts_r2 : GoodIn wsL_law wsL_acts_r2 := goodIn_r _ [84, 70, 85, 86, 87, 88, 89, 90, 91, 69, 68, 43, 44, 92, 47, 48, 49, 7, 8, 50, 51, 52, 53, 54] (by decide +kernel) (by decide +kernel)
set_option maxRecDepth 20000 in
theorem gc_wsL_acts_r3 : GoodIn wsL_law wsL_acts_r3 := goodIn_r _ [55, 56, 57, 58, 59, 29, 60, 93, 94, 95, 96, 97, 98, 99, 100, 101, 102, 103, 104, 105, 106, 107, 108, 109] (by decide +kernel) (by decide +kernel)
set_option maxRecDepth 20000 in
theorem gc_wsL_acts_r4 : GoodIn wsL_law wsL_acts_r4 := goodIn_r _ [110, 111, 112, 113, 114, 115, 116, 117, 118, 119, 120, 121, 122, 123, 124, 125, 126, 127, 132, 133, 134, 135, 66, 67] (by decide +kernel) (by decide +kernel)
set_option maxRecDepth 20000 in
theorem gc_wsL_acts_r5 : GoodIn wsL_law wsL_acts_r5 := goodIn_r _ [340, 341, 342, 343, 344, 345, 346, 228, 229, 230, 347, 348, 305, 349, 350, 128, 129, 130, 131, 75, 76, 71, 72, 73] (by decide +kernel) (by decide +kernel)
set_option maxRecDepth 20000 in
theorem gc_wsL_acts_r6 : GoodIn wsL_law wsL_acts_r6 := goodIn_r _ [74, 351, 352, 353, 354, 140, 141, 142, 143, 144, 145, 146, 147, 148, 149, 355, 356, 357, 358, 359, 360, 361, 362, 363] (by decide +kernel) (by decide +kernel)
set_option maxRecDepth 20000 in
theorem gc_wsL_acts_r7 : GoodIn wsL_law wsL_acts_r7 := goodIn_r _ [364, 365, 366, 367, 368, 308, 309, 310, 311, 312, 313, 314, 315, 316, 317, 318, 300, 301, 302, 319, 320, 321, 166, 167] (by decide +kernel) (by decide +kernel)
set_option maxRecDepth 20000 in
theorem gc_wsL_acts_r8 : GoodIn wsL_law wsL_acts_r8 := goodIn_r _ [168, 169, 18, 17, 19, 170, 171, 172, 173, 61, 62, 63, 64, 174, 175, 176, 177, 178, 179, 180, 181, 182, 183, 184] (by decide +kernel) (by decide +kernel)
set_option maxRecDepth 20000 in
theorem gc_wsL_acts_r9 : GoodIn wsL_law wsL_acts_r9 := goodIn_r _ [185, 322, 323, 324, 325, 260, 261, 262, 263, 264, 265, 369, 370, 371, 372, 373, 374, 375, 376, 377, 378, 379, 380, 381] (by decide +kernel) (by decide +kernel)
set_option maxRecDepth 20000 in
theorem gc_wsL_acts_r10 : GoodIn wsL_law wsL_acts_r10 := goodIn_r _ [382, 383, 384, 385, 386, 387, 196, 197, 198, 199, 200, 201, 202, 203, 204, 205, 206, 207, 208, 388, 214, 215, 216, 217] (by decide +kernel) (by decide +kernel)
set_option maxRecDepth 20000 in
theorem gc_wsL_acts_r11 : GoodIn wsL_law wsL_acts_r11 := goodIn_r _ [218, 219, 220, 221, 222, 223, 224, 225, 226, 227, 231, 232, 233, 234, 235, 236, 237, 238, 239, 240, 241, 242, 243, 244] (by decide +kernel) (by decide +kernel)
set_option maxRecDepth 20000 in
theorem gc_wsL_acts_r12 : GoodIn wsL_law wsL_acts_r12 := goodIn_r _ [245, 246, 247, 248, 249, 250, 251, 252, 253, 254, 255, 256, 257, 258, 259, 389, 390, 391, 392, 393, 394, 395, 396, 397] (by decide +kernel) (by decide +kernel)
set_option maxRecDepth 20000 in
theorem gc_wsL_acts_r13 : GoodIn wsL_law wsL_acts_r13 := goodIn_r _ [398, 399, 400] (by decide +kernel) (by decide +kernel)
set_option maxRecDepth 20000 in
theorem gx_acts_wsX40 : GoodIn wsL_law wsX40 := goodIn_sub inlX4 (by decide +kernel)
set_option maxRecDepth 20000 in
theorem gx_acts_wsX00 : GoodIn wsL_law wsX00 := goodIn_sub inlX0 (by decide +kernel)
set_option maxRecDepth 20000 in
theorem gx_acts_wsX10 : GoodIn wsL_law wsX10 := goodIn_sub inlX1 (by decide +kernel)
set_option maxRecDepth 20000 in
theorem gx_acts_wsX30 : GoodIn wsL_law wsX30 := goodIn_sub inlX3 (by decide +kernel)
set_option maxRecDepth 20000 in
theorem ggL_law_L_acts : GoodIn wsL_law wsL_acts := goodIn_ca (goodIn_ca (goodIn_ca (goodIn_ca (goodIn_cons gc_acts_c (goodIn_app (goodIn_app (goodIn_app (goodIn_app (goodIn_app gc_wsL_acts_r1 (goodIn_app gc_wsL_acts_r2 (goodIn_app gc_wsL_acts_r3 (goodIn_app gc_wsL_acts_r4 (goodIn_app gc_wsL_acts_r5 (goodIn_app gc_wsL_acts_r6 (goodIn_app gc_wsL_acts_r7 (goodIn_app gc_wsL_acts_r8 (goodIn_app gc_wsL_acts_r9 (goodIn_app gc_wsL_acts_r10 (goodIn_app gc_wsL_acts_r11 (goodIn_app gc_wsL_acts_r12 gc_wsL_acts_r13)))))))))))) gx_acts_wsX40) gx_acts_wsX00) gx_acts_wsX10) gx_acts_wsX30)) (goodIn_sub (fun _ h => List.mem_append_left _ (List.mem_append_left _ (List.mem_append_left _ (List.mem_append_right _ h)))) (by decide +kernel))) (goodIn_sub (fun _ h => List.mem_append_left _ (List.mem_append_left _ (List.mem_append_right _ h))) (by decide +kernel))) (goodIn_sub (fun _ h => List.mem_append_left _ (List.mem_append_right _ h)) (by decide +kernel))) (goodIn_sub (fun _ h => List.mem_append_right _ h) (by decide +kernel))
set_option maxRecDepth 20000 in
theorem gL_law_L_acts : GoodIn wsL_law (va_wsS RL 136 yL_acts wsL_acts) := goodIn_app (goodIn_of _ (by decide +kernel)) ggL_law_L_acts
set_option maxRecDepth 20000 in
theorem gc_sound_c : GoodIn wsL_law [.code yL_sound cL_sound 13 (some .boolean)] := goodIn_r _ [403] (by decide +kernel) (by decide +kernel)
set_option maxRecDepth 20000 in
theorem gc_wsL_sound_r1 : GoodIn wsL_law wsL_sound_r1 := goodIn_r _ [71, 72, 73, 2, 74, 75, 76, 21, 77, 78, 79, 20, 80, 65, 81, 82, 83, 84, 70, 85, 86, 87, 88, 89] (by decide +kernel) (by decide +kernel)
set_option maxRecDepth 20000 in
theorem gc_wsL_sound_r2 : GoodIn wsL_law wsL_sound_r2 := goodIn_r _ [90, 91, 69, 68, 43, 44, 92, 47, 48, 49, 7, 8, 50, 51, 52, 53, 54, 55, 56, 57, 58, 59, 29, 60] (by decide +kernel) (by decide +kernel)
set_option maxRecDepth 20000 in
theorem gc_wsL_sound_r3 : GoodIn wsL_law wsL_sound_r3 := goodIn_r _ [93, 94, 95, 96, 97, 98, 99, 100, 101, 102, 103, 104, 105, 106, 107, 108, 109, 110, 111, 112, 113, 114, 115, 116] (by decide +kernel) (by decide +kernel)
set_option maxRecDepth 20000 in
theorem gc_wsL_sound_r4 : GoodIn wsL_law wsL_sound_r4 := goodIn_r _ [117, 118, 119, 120, 121, 122, 123, 124, 125, 126, 127, 404, 405, 305, 406, 351, 352, 353, 354, 140, 141, 142, 143, 144] (by decide +kernel) (by decide +kernel)
set_option maxRecDepth 20000 in
theorem gc_wsL_sound_r5 : GoodIn wsL_law wsL_sound_r5 := goodIn_r _ [145, 146, 147, 148, 149, 340, 344, 407, 408, 409, 410, 411, 359, 360, 361, 362, 363, 364, 365, 366, 367, 368, 345, 412] (by decide +kernel) (by decide +kernel)
set_option maxRecDepth 20000 in
theorem gc_wsL_sound_r6 : GoodIn wsL_law wsL_sound_r6 := goodIn_r _ [413, 414, 396, 397, 398, 399, 264, 265, 400, 355, 356, 357, 358, 346, 228, 229, 230, 308, 309, 310, 311, 415, 416, 417] (by decide +kernel) (by decide +kernel)
set_option maxRecDepth 20000 in
theorem gc_wsL_sound_r7 : GoodIn wsL_law wsL_sound_r7 := goodIn_r _ [418, 419, 420, 421, 422, 423, 424, 425, 426, 427, 428, 429, 227, 430, 431, 432, 433, 434, 435, 436, 437, 438, 439, 440] (by decide +kernel) (by decide +kernel)
set_option maxRecDepth 20000 in
theorem gc_wsL_sound_r8 : GoodIn wsL_law wsL_sound_r8 := goodIn_r _ [441, 442, 443, 444, 445, 446, 447, 448, 449, 450, 451, 452, 453, 454, 455, 456, 457, 458, 459, 460] (by decide +kernel) (by decide +kernel)
set_option maxRecDepth 20000 in
theorem gx_sound_wsX40 : GoodIn wsL_law wsX40 := goodIn_sub inlX4 (by decide +kernel)
set_option maxRecDepth 20000 in
theorem gx_sound_wsX10 : GoodIn wsL_law wsX10 := goodIn_sub inlX1 (by decide +kernel)
set_option maxRecDepth 20000 in
theorem gx_sound_wsX30 : GoodIn wsL_law wsX30 := goodIn_sub inlX3 (by decide +kernel)
set_option maxRecDepth 20000 in
theorem ggL_law_L_sound : GoodIn wsL_law wsL_sound := goodIn_ca (goodIn_ca (goodIn_ca (goodIn_cons gc_sound_c (goodIn_app (goodIn_app (goodIn_app (goodIn_app gc_wsL_sound_r1 (goodIn_app gc_wsL_sound_r2 (goodIn_app gc_wsL_sound_r3 (goodIn_app gc_wsL_sound_r4 (goodIn_app gc_wsL_sound_r5 (goodIn_app gc_wsL_sound_r6 (goodIn_app gc_wsL_sound_r7 gc_wsL_sound_r8))))))) gx_sound_wsX40) gx_sound_wsX10) gx_sound_wsX30)) (goodIn_sub (fun _ h => List.mem_append_left _ (List.mem_append_left _ (List.mem_append_left _ (List.mem_append_right _ h)))) (by decide +kernel))) (goodIn_sub (fun _ h => List.mem_append_left _ (List.mem_append_left _ (List.mem_append_right _ h))) (by decide +kernel))) (goodIn_sub (fun _ h => List.mem_append_left _ (List.mem_append_right _ h)) (by decide +kernel))
set_option maxRecDepth 20000 in
theorem gL_law_L_sound : GoodIn wsL_law (va_wsS RL 139 yL_sound wsL_sound) := goodIn_app (goodIn_of _ (by decide +kernel)) ggL_law_L_sound
set_option maxRecDepth 20000 in
theorem gc_runs_c : GoodIn wsL_law [.code yL_runs cL_runs 14 (some .boolean)] := goodIn_r _ [463] (by decide +kernel) (by decide +kernel)
set_option maxRecDepth 20000 in
theorem gc_wsL_runs_r1 : GoodIn wsL_law wsL_runs_r1 := goodIn_r _ [71, 72, 73, 2, 74, 75, 76, 21, 77, 78, 79, 20, 80, 65, 81, 82, 83, 84, 70, 85, 86, 87, 88, 89] (by decide +kernel) (by decide +kernel)
set_option maxRecDepth 20000 in
theorem gc_wsL_runs_r2 : GoodIn wsL_law wsL_runs_r2 := goodIn_r _ [90, 91, 69, 68, 43, 44, 92, 47, 48, 49, 7, 8, 50, 51, 52, 53, 54, 55, 56, 57, 58, 59, 29, 60] (by decide +kernel) (by decide +kernel)
set_option maxRecDepth 20000 in
theorem gc_wsL_runs_r3 : GoodIn wsL_law wsL_runs_r3 := goodIn_r _ [93, 94, 95, 96, 97, 98, 99, 100, 101, 102, 103, 104, 105, 106, 107, 108, 109, 110, 111, 112, 113, 114, 115, 116] (by decide +kernel) (by decide +kernel)
set_option maxRecDepth 20000 in
theorem gc_wsL_runs_r4 : GoodIn wsL_law wsL_runs_r4 := goodIn_r _ [117, 118, 119, 120, 121, 122, 123, 124, 125, 126, 127, 464, 465, 305, 466, 467, 468, 469, 470, 471, 12, 334, 308, 309] (by decide +kernel) (by decide +kernel)
set_option maxRecDepth 20000 in
theorem gc_wsL_runs_r5 : GoodIn wsL_law wsL_runs_r5 := goodIn_r _ [310, 311, 472, 473, 474, 475, 264, 265, 476, 477, 478, 11, 479, 30, 27, 266, 267, 268, 269, 16, 270, 140, 141, 142] (by decide +kernel) (by decide +kernel)
set_option maxRecDepth 20000 in
theorem gc_wsL_runs_r6 : GoodIn wsL_law wsL_runs_r6 := goodIn_r _ [143, 144, 145, 146, 147, 148, 149, 271, 272, 273, 274, 150, 151, 152, 153, 28, 154, 155, 156, 157, 34, 35, 158, 159] (by decide +kernel) (by decide +kernel)
set_option maxRecDepth 20000 in
theorem gc_wsL_runs_r7 : GoodIn wsL_law wsL_runs_r7 := goodIn_r _ [160, 161, 33, 162, 163, 164, 165, 31, 32, 275, 276, 277, 15, 278, 40, 41, 45, 279, 280, 237, 238, 281, 282, 283] (by decide +kernel) (by decide +kernel)
set_option maxRecDepth 20000 in
theorem gc_wsL_runs_r8 : GoodIn wsL_law wsL_runs_r8 := goodIn_r _ [284, 285, 286, 179, 180, 181, 182, 183, 184, 185, 287, 200, 201, 202, 288, 192, 193, 194, 289, 204, 205, 206, 207, 208] (by decide +kernel) (by decide +kernel)
set_option maxRecDepth 20000 in
theorem gc_wsL_runs_r9 : GoodIn wsL_law wsL_runs_r9 := goodIn_r _ [290, 210, 211, 212, 291, 218, 219, 220, 221, 222, 223, 224, 225, 226, 227, 228, 229, 230, 231, 232, 233, 234, 235, 236] (by decide +kernel) (by decide +kernel)
set_option maxRecDepth 20000 in
theorem gc_wsL_runs_r10 : GoodIn wsL_law wsL_runs_r10 := goodIn_r _ [239, 240, 241, 242, 243, 244, 245, 246, 247, 248, 249, 250, 251, 252, 253, 254, 255, 256, 257, 258, 259, 480, 481, 482] (by decide +kernel) (by decide +kernel)
set_option maxRecDepth 20000 in
theorem gc_wsL_runs_r11 : GoodIn wsL_law wsL_runs_r11 := goodIn_r _ [483, 297, 298, 299, 300, 301, 302, 292, 293, 294, 295, 296, 312, 313, 314, 315, 316, 317, 318, 319, 320, 321, 166, 167] (by decide +kernel) (by decide +kernel)
set_option maxRecDepth 20000 in
theorem gc_wsL_runs_r12 : GoodIn wsL_law wsL_runs_r12 := goodIn_r _ [168, 169, 22, 18, 17, 19, 170, 171, 172, 173, 61, 62, 63, 64, 66, 67, 174, 175, 176, 177, 178, 132, 133, 134] (by decide +kernel) (by decide +kernel)
set_option maxRecDepth 20000 in
theorem gc_wsL_runs_r13 : GoodIn wsL_law wsL_runs_r13 := goodIn_r _ [135, 322, 323, 324, 325, 128, 129, 130, 131, 136, 137, 138, 139, 186, 187, 188, 189, 190, 191, 195, 196, 197, 198, 199] (by decide +kernel) (by decide +kernel)
set_option maxRecDepth 20000 in
theorem gc_wsL_runs_r14 : GoodIn wsL_law wsL_runs_r14 := goodIn_r _ [203, 209, 213, 214, 215, 216, 217, 351, 352, 353, 354, 340, 344] (by decide +kernel) (by decide +kernel)
set_option maxRecDepth 20000 in
theorem gx_runs_wsX40 : GoodIn wsL_law wsX40 := goodIn_sub inlX4 (by decide +kernel)
set_option maxRecDepth 20000 in
theorem gx_runs_wsX10 : GoodIn wsL_law wsX10 := goodIn_sub inlX1 (by decide +kernel)
set_option maxRecDepth 20000 in
theorem gx_runs_wsX30 : GoodIn wsL_law wsX30 := goodIn_sub inlX3 (by decide +kernel)
set_option maxRecDepth 20000 in
theorem gx_runs_wsX00 : GoodIn wsL_law wsX00 := goodIn_sub inlX0 (by decide +kernel)
set_option maxRecDepth 20000 in
theorem gx_runs_wsX20 : GoodIn wsL_law wsX20 := goodIn_sub inlX2 (by decide +kernel)
set_option maxRecDepth 20000 in
theorem ggL_law_L_runs : GoodIn wsL_law wsL_runs := goodIn_ca (goodIn_ca (goodIn_ca (goodIn_cons gc_runs_c (goodIn_app (goodIn_app (goodIn_app (goodIn_app (goodIn_app (goodIn_app gc_wsL_runs_r1 (goodIn_app gc_wsL_runs_r2 (goodIn_app gc_wsL_runs_r3 (goodIn_app gc_wsL_runs_r4 (goodIn_app gc_wsL_runs_r5 (goodIn_app gc_wsL_runs_r6 (goodIn_app gc_wsL_runs_r7 (goodIn_app gc_wsL_runs_r8 (goodIn_app gc_wsL_runs_r9 (goodIn_app gc_wsL_runs_r10 (goodIn_app gc_wsL_runs_r11 (goodIn_app gc_wsL_runs_r12 (goodIn_app gc_wsL_runs_r13 gc_wsL_runs_r14))))))))))))) gx_runs_wsX40) gx_runs_wsX10) gx_runs_wsX30) gx_runs_wsX00) gx_runs_wsX20)) (goodIn_sub (fun _ h => List.mem_append_left _ (List.mem_append_left _ (List.mem_append_left _ (List.mem_append_right _ h)))) (by decide +kernel))) (goodIn_sub (fun _ h => List.mem_append_left _ (List.mem_append_right _ h)) (by decide +kernel))) (goodIn_sub (fun _ h => List.mem_append_left _ (List.mem_append_left _ (List.mem_append_right _ h))) (by decide +kernel))
set_option maxRecDepth 20000 in
theorem gL_law_L_runs : GoodIn wsL_law (va_wsS RL 142 yL_runs wsL_runs) := goodIn_app (goodIn_of _ (by decide +kernel)) ggL_law_L_runs
set_option maxRecDepth 20000 in
theorem ggL_law_L_mark : GoodIn wsL_law wsL_mark := goodIn_ca (goodIn_ca (goodIn_r _ [349, 350, 128, 129, 130, 2, 131, 75, 76, 21, 132, 133, 134, 20, 135, 66, 67, 71, 72, 73, 74, 77, 78, 79, 80, 65, 81, 82, 83, 84, 70, 85, 86, 87, 88, 89, 90, 91, 69, 68, 43, 44, 92, 47, 48, 49, 7, 8, 50, 51, 52, 53, 54, 55, 56, 57, 58, 59, 29, 60, 93, 94, 95, 96, 97, 98, 99, 100, 101, 102, 103, 104, 105, 106, 107, 108, 109, 110, 111, 112, 113, 114, 115, 116, 117, 118, 119, 120, 121, 122, 123, 124, 125, 126, 127, 351, 352, 353, 354, 140, 141, 142, 143, 144, 145, 146, 147, 148, 149, 340, 344, 355, 356, 357, 358, 359, 360, 361, 362, 363, 364, 365, 366, 367, 368, 346, 228, 229, 230, 488, 489, 490, 491, 492, 504, 505, 506, 507, 508, 509, 510, 511, 512, 513, 514, 515, 516, 517, 518, 519] (by decide +kernel) (by decide +kernel)) (goodIn_sub (fun _ h => List.mem_append_left _ (List.mem_append_left _ (List.mem_append_left _ (List.mem_append_right _ h)))) (by decide +kernel))) (goodIn_sub (fun _ h => List.mem_append_left _ (List.mem_append_left _ (List.mem_append_right _ h))) (by decide +kernel))
set_option maxRecDepth 20000 in
theorem gL_law_L_mark : GoodIn wsL_law (va_wsS RL 112 yL_mark wsL_mark) := goodIn_app (goodIn_of _ (by decide +kernel)) ggL_law_L_mark
set_option maxRecDepth 20000 in
theorem ggL_law_X4_clear : GoodIn wsL_law wsX4_clear := goodIn_r _ [487, 21, 335, 166, 167, 168, 2, 169, 22, 18, 17, 19, 20, 170, 171, 172, 173, 61, 62, 63, 64, 7, 8, 65, 66, 67, 68, 69, 29, 70, 174, 175, 176, 177, 88, 89, 90, 91, 43, 44, 92, 47, 48, 49, 50, 51, 52, 53, 54, 55, 56, 57, 58, 59, 60, 178, 179, 180, 181, 182, 183, 184, 185, 107, 108, 109, 110, 488, 489, 490, 491, 492, 504, 505, 506, 507, 508, 509, 510, 511, 512, 513, 514, 515, 516, 517, 518, 519] (by decide +kernel) (by decide +kernel)
set_option maxRecDepth 20000 in
theorem gL_law_X4_clear : GoodIn wsL_law (wsV RL 145 RX4 yX4_clear wsX4_clear) := goodIn_app (goodIn_of _ (by decide +kernel)) ggL_law_X4_clear
theorem dL_law_0 : decode cL_law 0 = .ok (.new 10, 3) := by decide +kernel
theorem dL_law_3 : decode cL_law 3 = .ok (.dup, 1) := by decide +kernel
theorem dL_law_4 : decode cL_law 4 = .ok (.invokespecial 131, 3) := by decide +kernel
theorem dL_law_7 : decode cL_law 7 = .ok (.astore_n 1, 1) := by decide +kernel
theorem dL_law_8 : decode cL_law 8 = .ok (.aload_n 1, 1) := by decide +kernel
theorem dL_law_9 : decode cL_law 9 = .ok (.iconst 0, 1) := by decide +kernel
theorem dL_law_10 : decode cL_law 10 = .ok (.invokevirtual 33, 3) := by decide +kernel
theorem dL_law_13 : decode cL_law 13 = .ok (.iconst 1, 1) := by decide +kernel
theorem dL_law_14 : decode cL_law 14 = .ok (.if_icmp .ne 64, 3) := by decide +kernel
theorem dL_law_17 : decode cL_law 17 = .ok (.aload_n 1, 1) := by decide +kernel
theorem dL_law_18 : decode cL_law 18 = .ok (.iconst 1, 1) := by decide +kernel
theorem dL_law_19 : decode cL_law 19 = .ok (.invokevirtual 33, 3) := by decide +kernel
theorem dL_law_22 : decode cL_law 22 = .ok (.iconst 1, 1) := by decide +kernel
theorem dL_law_23 : decode cL_law 23 = .ok (.if_icmp .ne 55, 3) := by decide +kernel
theorem dL_law_26 : decode cL_law 26 = .ok (.aload_n 1, 1) := by decide +kernel
theorem dL_law_27 : decode cL_law 27 = .ok (.iconst 0, 1) := by decide +kernel
theorem dL_law_28 : decode cL_law 28 = .ok (.invokevirtual 29, 3) := by decide +kernel
theorem dL_law_31 : decode cL_law 31 = .ok (.iconst 3, 1) := by decide +kernel
theorem dL_law_32 : decode cL_law 32 = .ok (.if_icmp .ne 46, 3) := by decide +kernel
theorem dL_law_35 : decode cL_law 35 = .ok (.aload_n 1, 1) := by decide +kernel
theorem dL_law_36 : decode cL_law 36 = .ok (.iconst 1, 1) := by decide +kernel
theorem dL_law_37 : decode cL_law 37 = .ok (.invokevirtual 29, 3) := by decide +kernel
theorem dL_law_40 : decode cL_law 40 = .ok (.iconst 3, 1) := by decide +kernel
theorem dL_law_41 : decode cL_law 41 = .ok (.if_icmp .ne 37, 3) := by decide +kernel
theorem dL_law_44 : decode cL_law 44 = .ok (.aload_n 1, 1) := by decide +kernel
theorem dL_law_45 : decode cL_law 45 = .ok (.iconst 0, 1) := by decide +kernel
theorem dL_law_46 : decode cL_law 46 = .ok (.invokevirtual 105, 3) := by decide +kernel
theorem dL_law_49 : decode cL_law 49 = .ok (.ifCond .ne 29, 3) := by decide +kernel
theorem dL_law_52 : decode cL_law 52 = .ok (.aload_n 1, 1) := by decide +kernel
theorem dL_law_53 : decode cL_law 53 = .ok (.invokevirtual 116, 3) := by decide +kernel
theorem dL_law_56 : decode cL_law 56 = .ok (.ifCond .ne 22, 3) := by decide +kernel
theorem dL_law_59 : decode cL_law 59 = .ok (.aload_n 1, 1) := by decide +kernel
theorem dL_law_60 : decode cL_law 60 = .ok (.iconst 0, 1) := by decide +kernel
theorem dL_law_61 : decode cL_law 61 = .ok (.invokevirtual 93, 3) := by decide +kernel
theorem dL_law_64 : decode cL_law 64 = .ok (.iconst 1, 1) := by decide +kernel
theorem dL_law_65 : decode cL_law 65 = .ok (.if_icmp .ne 13, 3) := by decide +kernel
theorem dL_law_68 : decode cL_law 68 = .ok (.aload_n 1, 1) := by decide +kernel
theorem dL_law_69 : decode cL_law 69 = .ok (.iconst 0, 1) := by decide +kernel
theorem dL_law_70 : decode cL_law 70 = .ok (.bipush 9, 2) := by decide +kernel
theorem dL_law_72 : decode cL_law 72 = .ok (.invokevirtual 99, 3) := by decide +kernel
theorem dL_law_75 : decode cL_law 75 = .ok (.ifCond .eq 5, 3) := by decide +kernel
theorem dL_law_78 : decode cL_law 78 = .ok (.iconst 0, 1) := by decide +kernel
theorem dL_law_79 : decode cL_law 79 = .ok (.ireturn, 1) := by decide +kernel
theorem dL_law_80 : decode cL_law 80 = .ok (.aload_n 1, 1) := by decide +kernel
theorem dL_law_81 : decode cL_law 81 = .ok (.iconst 1, 1) := by decide +kernel
theorem dL_law_82 : decode cL_law 82 = .ok (.iconst 2, 1) := by decide +kernel
theorem dL_law_83 : decode cL_law 83 = .ok (.aload_n 0, 1) := by decide +kernel
theorem dL_law_84 : decode cL_law 84 = .ok (.iconst 0, 1) := by decide +kernel
theorem dL_law_85 : decode cL_law 85 = .ok (.invokestatic 132, 3) := by decide +kernel
theorem dL_law_88 : decode cL_law 88 = .ok (.iconst 4, 1) := by decide +kernel
theorem dL_law_89 : decode cL_law 89 = .ok (.invokestatic 75, 3) := by decide +kernel
theorem dL_law_92 : decode cL_law 92 = .ok (.iadd, 1) := by decide +kernel
theorem dL_law_93 : decode cL_law 93 = .ok (.invokevirtual 102, 3) := by decide +kernel
theorem dL_law_96 : decode cL_law 96 = .ok (.istore_n 2, 1) := by decide +kernel
theorem dL_law_97 : decode cL_law 97 = .ok (.aload_n 1, 1) := by decide +kernel
theorem dL_law_98 : decode cL_law 98 = .ok (.iconst 0, 1) := by decide +kernel
theorem dL_law_99 : decode cL_law 99 = .ok (.iconst 1, 1) := by decide +kernel
theorem dL_law_100 : decode cL_law 100 = .ok (.aload_n 0, 1) := by decide +kernel
theorem dL_law_101 : decode cL_law 101 = .ok (.iconst 0, 1) := by decide +kernel
theorem dL_law_102 : decode cL_law 102 = .ok (.invokestatic 132, 3) := by decide +kernel
theorem dL_law_105 : decode cL_law 105 = .ok (.iconst 3, 1) := by decide +kernel
theorem dL_law_106 : decode cL_law 106 = .ok (.ishr, 1) := by decide +kernel
theorem dL_law_107 : decode cL_law 107 = .ok (.bipush 9, 2) := by decide +kernel
theorem dL_law_109 : decode cL_law 109 = .ok (.invokestatic 75, 3) := by decide +kernel
theorem dL_law_112 : decode cL_law 112 = .ok (.iadd, 1) := by decide +kernel
theorem dL_law_113 : decode cL_law 113 = .ok (.invokevirtual 102, 3) := by decide +kernel
theorem dL_law_116 : decode cL_law 116 = .ok (.istore_n 3, 1) := by decide +kernel
theorem dL_law_117 : decode cL_law 117 = .ok (.iconst 0, 1) := by decide +kernel
theorem dL_law_118 : decode cL_law 118 = .ok (.istore 4, 2) := by decide +kernel
theorem dL_law_120 : decode cL_law 120 = .ok (.iload 4, 2) := by decide +kernel
theorem dL_law_122 : decode cL_law 122 = .ok (.bipush 34, 2) := by decide +kernel
theorem dL_law_124 : decode cL_law 124 = .ok (.if_icmp .ge 26, 3) := by decide +kernel
theorem dL_law_127 : decode cL_law 127 = .ok (.aload_n 1, 1) := by decide +kernel
theorem dL_law_128 : decode cL_law 128 = .ok (.aload_n 0, 1) := by decide +kernel
theorem dL_law_129 : decode cL_law 129 = .ok (.iconst 1, 1) := by decide +kernel
theorem dL_law_130 : decode cL_law 130 = .ok (.iload 4, 2) := by decide +kernel
theorem dL_law_132 : decode cL_law 132 = .ok (.iadd, 1) := by decide +kernel
theorem dL_law_133 : decode cL_law 133 = .ok (.invokestatic 132, 3) := by decide +kernel
theorem dL_law_136 : decode cL_law 136 = .ok (.invokestatic 136, 3) := by decide +kernel
theorem dL_law_139 : decode cL_law 139 = .ok (.ifCond .ne 5, 3) := by decide +kernel
theorem dL_law_142 : decode cL_law 142 = .ok (.iconst 0, 1) := by decide +kernel
theorem dL_law_143 : decode cL_law 143 = .ok (.ireturn, 1) := by decide +kernel
theorem dL_law_144 : decode cL_law 144 = .ok (.iinc 4 1, 3) := by decide +kernel
theorem dL_law_147 : decode cL_law 147 = .ok (.goto (-27), 3) := by decide +kernel
theorem dL_law_150 : decode cL_law 150 = .ok (.iload_n 2, 1) := by decide +kernel
theorem dL_law_151 : decode cL_law 151 = .ok (.iconst 3, 1) := by decide +kernel
theorem dL_law_152 : decode cL_law 152 = .ok (.if_icmp .ne 53, 3) := by decide +kernel
theorem dL_law_155 : decode cL_law 155 = .ok (.iload_n 3, 1) := by decide +kernel
theorem dL_law_156 : decode cL_law 156 = .ok (.iconst 3, 1) := by decide +kernel
theorem dL_law_157 : decode cL_law 157 = .ok (.if_icmp .ne 48, 3) := by decide +kernel
theorem dL_law_160 : decode cL_law 160 = .ok (.aload_n 1, 1) := by decide +kernel
theorem dL_law_161 : decode cL_law 161 = .ok (.aload_n 0, 1) := by decide +kernel
theorem dL_law_162 : decode cL_law 162 = .ok (.bipush 35, 2) := by decide +kernel
theorem dL_law_164 : decode cL_law 164 = .ok (.invokestatic 132, 3) := by decide +kernel
theorem dL_law_167 : decode cL_law 167 = .ok (.invokestatic 139, 3) := by decide +kernel
theorem dL_law_170 : decode cL_law 170 = .ok (.ifCond .eq 35, 3) := by decide +kernel
theorem dL_law_173 : decode cL_law 173 = .ok (.aload_n 1, 1) := by decide +kernel
theorem dL_law_174 : decode cL_law 174 = .ok (.aload_n 0, 1) := by decide +kernel
theorem dL_law_175 : decode cL_law 175 = .ok (.bipush 36, 2) := by decide +kernel
theorem dL_law_177 : decode cL_law 177 = .ok (.invokestatic 132, 3) := by decide +kernel
theorem dL_law_180 : decode cL_law 180 = .ok (.aload_n 0, 1) := by decide +kernel
theorem dL_law_181 : decode cL_law 181 = .ok (.bipush 37, 2) := by decide +kernel
theorem dL_law_183 : decode cL_law 183 = .ok (.invokestatic 132, 3) := by decide +kernel
theorem dL_law_186 : decode cL_law 186 = .ok (.invokestatic 142, 3) := by decide +kernel
theorem dL_law_189 : decode cL_law 189 = .ok (.ifCond .eq 16, 3) := by decide +kernel
theorem dL_law_192 : decode cL_law 192 = .ok (.aload_n 1, 1) := by decide +kernel
theorem dL_law_193 : decode cL_law 193 = .ok (.aload_n 0, 1) := by decide +kernel
theorem dL_law_194 : decode cL_law 194 = .ok (.bipush 38, 2) := by decide +kernel
theorem dL_law_196 : decode cL_law 196 = .ok (.invokestatic 132, 3) := by decide +kernel
theorem dL_law_199 : decode cL_law 199 = .ok (.invokestatic 139, 3) := by decide +kernel
theorem dL_law_202 : decode cL_law 202 = .ok (.ifCond .ne 5, 3) := by decide +kernel
theorem dL_law_205 : decode cL_law 205 = .ok (.iconst 0, 1) := by decide +kernel
theorem dL_law_206 : decode cL_law 206 = .ok (.ireturn, 1) := by decide +kernel
theorem dL_law_207 : decode cL_law 207 = .ok (.aload_n 1, 1) := by decide +kernel
theorem dL_law_208 : decode cL_law 208 = .ok (.invokestatic 112, 3) := by decide +kernel
theorem dL_law_211 : decode cL_law 211 = .ok (.lstore 4, 2) := by decide +kernel
theorem dL_law_213 : decode cL_law 213 = .ok (.aload_n 1, 1) := by decide +kernel
theorem dL_law_214 : decode cL_law 214 = .ok (.iconst 0, 1) := by decide +kernel
theorem dL_law_215 : decode cL_law 215 = .ok (.invokevirtual 33, 3) := by decide +kernel
theorem dL_law_218 : decode cL_law 218 = .ok (.istore 6, 2) := by decide +kernel
theorem dL_law_220 : decode cL_law 220 = .ok (.aload_n 1, 1) := by decide +kernel
theorem dL_law_221 : decode cL_law 221 = .ok (.invokevirtual 145, 3) := by decide +kernel
theorem dL_law_224 : decode cL_law 224 = .ok (.iload 6, 2) := by decide +kernel
theorem dL_law_226 : decode cL_law 226 = .ok (.iconst 1, 1) := by decide +kernel
theorem dL_law_227 : decode cL_law 227 = .ok (.isub, 1) := by decide +kernel
theorem dL_law_228 : decode cL_law 228 = .ok (.if_icmp .ne 51, 3) := by decide +kernel
theorem dL_law_231 : decode cL_law 231 = .ok (.aload_n 1, 1) := by decide +kernel
theorem dL_law_232 : decode cL_law 232 = .ok (.iconst 0, 1) := by decide +kernel
theorem dL_law_233 : decode cL_law 233 = .ok (.invokevirtual 33, 3) := by decide +kernel
theorem dL_law_236 : decode cL_law 236 = .ok (.iconst 1, 1) := by decide +kernel
theorem dL_law_237 : decode cL_law 237 = .ok (.if_icmp .ne 42, 3) := by decide +kernel
theorem dL_law_240 : decode cL_law 240 = .ok (.aload_n 1, 1) := by decide +kernel
theorem dL_law_241 : decode cL_law 241 = .ok (.iconst 0, 1) := by decide +kernel
theorem dL_law_242 : decode cL_law 242 = .ok (.invokestatic 139, 3) := by decide +kernel
theorem dL_law_245 : decode cL_law 245 = .ok (.ifCond .eq 34, 3) := by decide +kernel
theorem dL_law_248 : decode cL_law 248 = .ok (.aload_n 1, 1) := by decide +kernel
theorem dL_law_249 : decode cL_law 249 = .ok (.invokevirtual 116, 3) := by decide +kernel
theorem dL_law_252 : decode cL_law 252 = .ok (.ifCond .lt 27, 3) := by decide +kernel
theorem dL_law_255 : decode cL_law 255 = .ok (.aload_n 1, 1) := by decide +kernel
theorem dL_law_256 : decode cL_law 256 = .ok (.iconst 0, 1) := by decide +kernel
theorem dL_law_257 : decode cL_law 257 = .ok (.invokevirtual 33, 3) := by decide +kernel
theorem dL_law_260 : decode cL_law 260 = .ok (.iload 6, 2) := by decide +kernel
theorem dL_law_262 : decode cL_law 262 = .ok (.if_icmp .ne 17, 3) := by decide +kernel
theorem dL_law_265 : decode cL_law 265 = .ok (.aload_n 1, 1) := by decide +kernel
theorem dL_law_266 : decode cL_law 266 = .ok (.invokestatic 112, 3) := by decide +kernel
theorem dL_law_269 : decode cL_law 269 = .ok (.lload 4, 2) := by decide +kernel
theorem dL_law_271 : decode cL_law 271 = .ok (.lcmp, 1) := by decide +kernel
theorem dL_law_272 : decode cL_law 272 = .ok (.ifCond .ne 7, 3) := by decide +kernel
theorem dL_law_275 : decode cL_law 275 = .ok (.iconst 1, 1) := by decide +kernel
theorem dL_law_276 : decode cL_law 276 = .ok (.goto 4, 3) := by decide +kernel
theorem dL_law_279 : decode cL_law 279 = .ok (.iconst 0, 1) := by decide +kernel
theorem dL_law_280 : decode cL_law 280 = .ok (.ireturn, 1) := by decide +kernel
