/-! walk of the law's sound (printed by wip/p27/all.py) -/
set_option maxRecDepth 100000 in
set_option maxHeartbeats 4000000 in
theorem e_L_sound_202 {X : VX} {B : VB} {z : (String ⊕ Int32)} {Gf : GH} {k29 : Nat → Int32 → Int32 → Int32 → Int32 → Int32 → Int32 → Int32 → Int32 → Int32 → Int32 → MX Int32} {k69 : Nat → Int32 → Int32 → Int32 → Int32 → Int32 → Int32 → Int32 → Int32 → Int32 → Int32 → Int32 → Int32 → MX Int32} (hfx : (xl X).stackTraces = false) (hn : ∀ x ∈ (xc X).exceptionTable.toList, False) (hr : (xme X).sig.returnType = (some .boolean)) (hE : VE B (z, Gf)) (hk29 : ∀ (y0 : Nat) (y1 : Int32) (y2 : Int32) (y3 : Int32) (y4 : Int32) (y5 : Int32) (y6 : Int32) (y7 : Int32) (y8 : Int32) (y9 : Int32) (y10 : Int32) (G : GH), (k29 y0 y1 y2 y3 y4 y5 y6 y7 y8 y9 y10).1 G = some (z, Gf) → V X RL cL_sound 13 9 170 wsL_sound B (XQ X (xmap vI z) Gf B) G 29 [(0, .ref y0), (1, .int y1), (2, .int y2), (3, .int y3), (4, .int y4), (5, .int y5), (6, .int y6), (7, .int y7), (8, .int y8), (9, .int y9), (10, .int y10)] []) (hk69 : ∀ (y0 : Nat) (y1 : Int32) (y2 : Int32) (y3 : Int32) (y4 : Int32) (y5 : Int32) (y6 : Int32) (y7 : Int32) (y8 : Int32) (y9 : Int32) (y10 : Int32) (y11 : Int32) (y12 : Int32) (G : GH), (k69 y0 y1 y2 y3 y4 y5 y6 y7 y8 y9 y10 y11 y12).1 G = some (z, Gf) → V X RL cL_sound 13 9 170 wsL_sound B (XQ X (xmap vI z) Gf B) G 69 [(0, .ref y0), (1, .int y1), (2, .int y2), (3, .int y3), (4, .int y4), (5, .int y5), (6, .int y6), (7, .int y7), (8, .int y8), (9, .int y9), (10, .int y10), (11, .int y11), (12, .int y12)] []) (p1 : Nat) (p2 : Int32) (l2 : Int32) (l3 : Int32) (l4 : Int32) (l5 : Int32) (l6 : Int32) (l7 : Int32) (l9 : Int32) (l10 : Int32) (s0 : Int32) (s1 : Int32) (G : GH) (hf : (f_L_sound_202 k29 k69 p1 p2 l2 l3 l4 l5 l6 l7 l9 l10 s0 s1).1 G = some (z, Gf)) : V X RL cL_sound 13 9 170 wsL_sound B (XQ X (xmap vI z) Gf B) G 202 [(0, .ref p1), (1, .int p2), (2, .int l2), (3, .int l3), (4, .int l4), (5, .int l5), (6, .int l6), (7, .int l7), (9, .int l9), (10, .int l10)] [.int s0, .int s1] := by
  unfold f_L_sound_202 at hf
  refine v_iadd dL_sound_202 ?_
  refine v_istore [(8, .int (s1 + s0)), (0, .ref p1), (1, .int p2), (2, .int l2), (3, .int l3), (4, .int l4), (5, .int l5), (6, .int l6), (7, .int l7), (9, .int l9), (10, .int l10)] dL_sound_203 (by decide) rfl ?_
  refine v_aload_n 1 dL_sound_205 rfl rfl ?_
  refine v_iload 10 dL_sound_206 rfl ?_
  refine v_bipush 9 dL_sound_208 (by decide) ?_
  refine v_xcallVi hn 4 2 [.int l10, .int 9] (c_X4_version (xl X) hfx p1 l10 9) gL_sound_X4_version rfl dv_X4_version (by decide) (by decide) rfl rfl dL_sound_210 (Nat.le_of_ble_eq_true rfl) rfl hE hf (fun x19 G hf => ?_)
  refine v_iload 9 dL_sound_213 rfl ?_
  refine v_icmp_le 229 dL_sound_215 (by decide) hf (fun _ hf => ?_) (fun _ hf => ?_)
  · refine v_iload 9 dL_sound_229 rfl ?_
    refine v_istore [(9, .int l9), (8, .int (s1 + s0)), (0, .ref p1), (1, .int p2), (2, .int l2), (3, .int l3), (4, .int l4), (5, .int l5), (6, .int l6), (7, .int l7), (10, .int l10)] dL_sound_231 (by decide) rfl ?_
    refine v_iinc 10 (l10 + 1) [(10, .int (l10 + 1)), (9, .int l9), (8, .int (s1 + s0)), (0, .ref p1), (1, .int p2), (2, .int l2), (3, .int l3), (4, .int l4), (5, .int l5), (6, .int l6), (7, .int l7)] dL_sound_233 rfl (by rfl) (by decide) rfl ?_
    refine v_goto 29 dL_sound_236 (by decide) ?_
    refine v_sub [3, 4, 5, 6, 7, 8, 9, 10, 2, 1, 0] rfl ?_
    exact hk29 p1 p2 l2 l3 l4 l5 l6 l7 (s1 + s0) l9 (l10 + 1) G hf
  · refine v_aload_n 1 dL_sound_218 rfl rfl ?_
    refine v_iload 10 dL_sound_219 rfl ?_
    refine v_bipush 9 dL_sound_221 (by decide) ?_
    refine v_xcallVi hn 4 2 [.int l10, .int 9] (c_X4_version (xl X) hfx p1 l10 9) gL_sound_X4_version rfl dv_X4_version (by decide) (by decide) rfl rfl dL_sound_223 (Nat.le_of_ble_eq_true rfl) rfl hE hf (fun x20 G hf => ?_)
    refine v_goto 231 dL_sound_226 (by decide) ?_
    refine v_istore [(9, .int x20), (8, .int (s1 + s0)), (0, .ref p1), (1, .int p2), (2, .int l2), (3, .int l3), (4, .int l4), (5, .int l5), (6, .int l6), (7, .int l7), (10, .int l10)] dL_sound_231 (by decide) rfl ?_
    refine v_iinc 10 (l10 + 1) [(10, .int (l10 + 1)), (9, .int x20), (8, .int (s1 + s0)), (0, .ref p1), (1, .int p2), (2, .int l2), (3, .int l3), (4, .int l4), (5, .int l5), (6, .int l6), (7, .int l7)] dL_sound_233 rfl (by rfl) (by decide) rfl ?_
    refine v_goto 29 dL_sound_236 (by decide) ?_
    refine v_sub [3, 4, 5, 6, 7, 8, 9, 10, 2, 1, 0] rfl ?_
    exact hk29 p1 p2 l2 l3 l4 l5 l6 l7 (s1 + s0) x20 (l10 + 1) G hf
set_option maxRecDepth 100000 in
set_option maxHeartbeats 4000000 in
theorem e_L_sound_169 {X : VX} {B : VB} {z : (String ⊕ Int32)} {Gf : GH} {k29 : Nat → Int32 → Int32 → Int32 → Int32 → Int32 → Int32 → Int32 → Int32 → Int32 → Int32 → MX Int32} {k69 : Nat → Int32 → Int32 → Int32 → Int32 → Int32 → Int32 → Int32 → Int32 → Int32 → Int32 → Int32 → Int32 → MX Int32} (hfx : (xl X).stackTraces = false) (hn : ∀ x ∈ (xc X).exceptionTable.toList, False) (hr : (xme X).sig.returnType = (some .boolean)) (hE : VE B (z, Gf)) (hk29 : ∀ (y0 : Nat) (y1 : Int32) (y2 : Int32) (y3 : Int32) (y4 : Int32) (y5 : Int32) (y6 : Int32) (y7 : Int32) (y8 : Int32) (y9 : Int32) (y10 : Int32) (G : GH), (k29 y0 y1 y2 y3 y4 y5 y6 y7 y8 y9 y10).1 G = some (z, Gf) → V X RL cL_sound 13 9 170 wsL_sound B (XQ X (xmap vI z) Gf B) G 29 [(0, .ref y0), (1, .int y1), (2, .int y2), (3, .int y3), (4, .int y4), (5, .int y5), (6, .int y6), (7, .int y7), (8, .int y8), (9, .int y9), (10, .int y10)] []) (hk69 : ∀ (y0 : Nat) (y1 : Int32) (y2 : Int32) (y3 : Int32) (y4 : Int32) (y5 : Int32) (y6 : Int32) (y7 : Int32) (y8 : Int32) (y9 : Int32) (y10 : Int32) (y11 : Int32) (y12 : Int32) (G : GH), (k69 y0 y1 y2 y3 y4 y5 y6 y7 y8 y9 y10 y11 y12).1 G = some (z, Gf) → V X RL cL_sound 13 9 170 wsL_sound B (XQ X (xmap vI z) Gf B) G 69 [(0, .ref y0), (1, .int y1), (2, .int y2), (3, .int y3), (4, .int y4), (5, .int y5), (6, .int y6), (7, .int y7), (8, .int y8), (9, .int y9), (10, .int y10), (11, .int y11), (12, .int y12)] []) (p1 : Nat) (p2 : Int32) (l2 : Int32) (l3 : Int32) (l4 : Int32) (l5 : Int32) (l7 : Int32) (l8 : Int32) (l9 : Int32) (l10 : Int32) (s0 : Int32) (s1 : Int32) (G : GH) (hf : (f_L_sound_169 k29 k69 p1 p2 l2 l3 l4 l5 l7 l8 l9 l10 s0 s1).1 G = some (z, Gf)) : V X RL cL_sound 13 9 170 wsL_sound B (XQ X (xmap vI z) Gf B) G 169 [(0, .ref p1), (1, .int p2), (2, .int l2), (3, .int l3), (4, .int l4), (5, .int l5), (7, .int l7), (8, .int l8), (9, .int l9), (10, .int l10)] [.int s0, .int s1] := by
  unfold f_L_sound_169 at hf
  refine v_iadd dL_sound_169 ?_
  refine v_istore [(6, .int (s1 + s0)), (0, .ref p1), (1, .int p2), (2, .int l2), (3, .int l3), (4, .int l4), (5, .int l5), (7, .int l7), (8, .int l8), (9, .int l9), (10, .int l10)] dL_sound_170 (by decide) rfl ?_
  refine v_iload 7 dL_sound_172 rfl ?_
  refine v_aload_n 1 dL_sound_174 rfl rfl ?_
  refine v_iload 10 dL_sound_175 rfl ?_
  refine v_bipush 7 dL_sound_177 (by decide) ?_
  refine v_xcallVi hn 4 2 [.int l10, .int 7] (c_X4_version (xl X) hfx p1 l10 7) gL_sound_X4_version rfl dv_X4_version (by decide) (by decide) rfl rfl dL_sound_179 (Nat.le_of_ble_eq_true rfl) rfl hE hf (fun x17 G hf => ?_)
  refine v_iadd dL_sound_182 ?_
  refine v_istore [(7, .int (l7 + x17)), (6, .int (s1 + s0)), (0, .ref p1), (1, .int p2), (2, .int l2), (3, .int l3), (4, .int l4), (5, .int l5), (8, .int l8), (9, .int l9), (10, .int l10)] dL_sound_183 (by decide) rfl ?_
  refine v_iload 8 dL_sound_185 rfl ?_
  refine v_aload_n 2 dL_sound_187 rfl rfl ?_
  refine v_iload 10 dL_sound_188 rfl ?_
  refine v_iconst 5 dL_sound_190 (by decide) ?_
  refine v_xcallVi hn 4 2 [.int l10, .int 5] (c_X4_version (xl X) hfx p1 l10 5) gL_sound_X4_version rfl dv_X4_version (by decide) (by decide) rfl rfl dL_sound_191 (Nat.le_of_ble_eq_true rfl) rfl hE hf (fun x18 G hf => ?_)
  refine v_if_lt 201 dL_sound_194 (by decide) hf (fun _ hf => ?_) (fun _ hf => ?_)
  · refine v_iconst 0 dL_sound_201 (by decide) ?_
    refine v_sub [2, 3, 4, 5, 6, 7, 1, 0, 9, 10] rfl ?_
    exact e_L_sound_202 (k29 := k29) (k69 := k69) hfx hn hr hE hk29 hk69 p1 p2 l2 l3 l4 l5 (s1 + s0) (l7 + x17) l9 l10 0 l8 G hf
  · refine v_iconst 1 dL_sound_197 (by decide) ?_
    refine v_goto 202 dL_sound_198 (by decide) ?_
    refine v_sub [2, 3, 4, 5, 6, 7, 1, 0, 9, 10] rfl ?_
    exact e_L_sound_202 (k29 := k29) (k69 := k69) hfx hn hr hE hk29 hk69 p1 p2 l2 l3 l4 l5 (s1 + s0) (l7 + x17) l9 l10 1 l8 G hf
set_option maxRecDepth 100000 in
set_option maxHeartbeats 4000000 in
theorem e_L_sound_142 {X : VX} {B : VB} {z : (String ⊕ Int32)} {Gf : GH} {k29 : Nat → Int32 → Int32 → Int32 → Int32 → Int32 → Int32 → Int32 → Int32 → Int32 → Int32 → MX Int32} {k69 : Nat → Int32 → Int32 → Int32 → Int32 → Int32 → Int32 → Int32 → Int32 → Int32 → Int32 → Int32 → Int32 → MX Int32} (hfx : (xl X).stackTraces = false) (hn : ∀ x ∈ (xc X).exceptionTable.toList, False) (hr : (xme X).sig.returnType = (some .boolean)) (hE : VE B (z, Gf)) (hk29 : ∀ (y0 : Nat) (y1 : Int32) (y2 : Int32) (y3 : Int32) (y4 : Int32) (y5 : Int32) (y6 : Int32) (y7 : Int32) (y8 : Int32) (y9 : Int32) (y10 : Int32) (G : GH), (k29 y0 y1 y2 y3 y4 y5 y6 y7 y8 y9 y10).1 G = some (z, Gf) → V X RL cL_sound 13 9 170 wsL_sound B (XQ X (xmap vI z) Gf B) G 29 [(0, .ref y0), (1, .int y1), (2, .int y2), (3, .int y3), (4, .int y4), (5, .int y5), (6, .int y6), (7, .int y7), (8, .int y8), (9, .int y9), (10, .int y10)] []) (hk69 : ∀ (y0 : Nat) (y1 : Int32) (y2 : Int32) (y3 : Int32) (y4 : Int32) (y5 : Int32) (y6 : Int32) (y7 : Int32) (y8 : Int32) (y9 : Int32) (y10 : Int32) (y11 : Int32) (y12 : Int32) (G : GH), (k69 y0 y1 y2 y3 y4 y5 y6 y7 y8 y9 y10 y11 y12).1 G = some (z, Gf) → V X RL cL_sound 13 9 170 wsL_sound B (XQ X (xmap vI z) Gf B) G 69 [(0, .ref y0), (1, .int y1), (2, .int y2), (3, .int y3), (4, .int y4), (5, .int y5), (6, .int y6), (7, .int y7), (8, .int y8), (9, .int y9), (10, .int y10), (11, .int y11), (12, .int y12)] []) (p1 : Nat) (p2 : Int32) (l2 : Int32) (l3 : Int32) (l5 : Int32) (l6 : Int32) (l7 : Int32) (l8 : Int32) (l9 : Int32) (l10 : Int32) (l12 : Int32) (s0 : Int32) (G : GH) (hf : (f_L_sound_142 k29 k69 p1 p2 l2 l3 l5 l6 l7 l8 l9 l10 l12 s0).1 G = some (z, Gf)) : V X RL cL_sound 13 9 170 wsL_sound B (XQ X (xmap vI z) Gf B) G 142 [(0, .ref p1), (1, .int p2), (2, .int l2), (3, .int l3), (5, .int l5), (6, .int l6), (7, .int l7), (8, .int l8), (9, .int l9), (10, .int l10), (12, .int l12)] [.int s0] := by
  unfold f_L_sound_142 at hf
  refine v_istore [(4, .int s0), (0, .ref p1), (1, .int p2), (2, .int l2), (3, .int l3), (5, .int l5), (6, .int l6), (7, .int l7), (8, .int l8), (9, .int l9), (10, .int l10), (12, .int l12)] dL_sound_142 (by decide) rfl ?_
  refine v_iload 5 dL_sound_144 rfl ?_
  refine v_iload 11 dL_sound_146 rfl ?_
  refine v_iadd dL_sound_148 ?_
  refine v_istore [(5, .int (l5 + l12)), (4, .int s0), (0, .ref p1), (1, .int p2), (2, .int l2), (3, .int l3), (6, .int l6), (7, .int l7), (8, .int l8), (9, .int l9), (10, .int l10), (12, .int l12)] dL_sound_149 (by decide) rfl ?_
  refine v_iload 6 dL_sound_151 rfl ?_
  refine v_aload_n 2 dL_sound_153 rfl rfl ?_
  refine v_iload 10 dL_sound_154 rfl ?_
  refine v_bipush 7 dL_sound_156 (by decide) ?_
  refine v_xcallVi hn 4 2 [.int l10, .int 7] (c_X4_version (xl X) hfx p1 l10 7) gL_sound_X4_version rfl dv_X4_version (by decide) (by decide) rfl rfl dL_sound_158 (Nat.le_of_ble_eq_true rfl) rfl hE hf (fun x16 G hf => ?_)
  refine v_if_le 168 dL_sound_161 (by decide) hf (fun _ hf => ?_) (fun _ hf => ?_)
  · refine v_iconst 0 dL_sound_168 (by decide) ?_
    refine v_sub [2, 3, 4, 5, 1, 0, 7, 8, 9, 10] rfl ?_
    exact e_L_sound_169 (k29 := k29) (k69 := k69) hfx hn hr hE hk29 hk69 p1 p2 l2 l3 s0 (l5 + l12) l7 l8 l9 l10 0 l6 G hf
  · refine v_iconst 1 dL_sound_164 (by decide) ?_
    refine v_goto 169 dL_sound_165 (by decide) ?_
    refine v_sub [2, 3, 4, 5, 1, 0, 7, 8, 9, 10] rfl ?_
    exact e_L_sound_169 (k29 := k29) (k69 := k69) hfx hn hr hE hk29 hk69 p1 p2 l2 l3 s0 (l5 + l12) l7 l8 l9 l10 1 l6 G hf
set_option maxRecDepth 100000 in
set_option maxHeartbeats 4000000 in
theorem e_L_sound_116 {X : VX} {B : VB} {z : (String ⊕ Int32)} {Gf : GH} {k29 : Nat → Int32 → Int32 → Int32 → Int32 → Int32 → Int32 → Int32 → Int32 → Int32 → Int32 → MX Int32} {k69 : Nat → Int32 → Int32 → Int32 → Int32 → Int32 → Int32 → Int32 → Int32 → Int32 → Int32 → Int32 → Int32 → MX Int32} (hfx : (xl X).stackTraces = false) (hn : ∀ x ∈ (xc X).exceptionTable.toList, False) (hr : (xme X).sig.returnType = (some .boolean)) (hE : VE B (z, Gf)) (hk29 : ∀ (y0 : Nat) (y1 : Int32) (y2 : Int32) (y3 : Int32) (y4 : Int32) (y5 : Int32) (y6 : Int32) (y7 : Int32) (y8 : Int32) (y9 : Int32) (y10 : Int32) (G : GH), (k29 y0 y1 y2 y3 y4 y5 y6 y7 y8 y9 y10).1 G = some (z, Gf) → V X RL cL_sound 13 9 170 wsL_sound B (XQ X (xmap vI z) Gf B) G 29 [(0, .ref y0), (1, .int y1), (2, .int y2), (3, .int y3), (4, .int y4), (5, .int y5), (6, .int y6), (7, .int y7), (8, .int y8), (9, .int y9), (10, .int y10)] []) (hk69 : ∀ (y0 : Nat) (y1 : Int32) (y2 : Int32) (y3 : Int32) (y4 : Int32) (y5 : Int32) (y6 : Int32) (y7 : Int32) (y8 : Int32) (y9 : Int32) (y10 : Int32) (y11 : Int32) (y12 : Int32) (G : GH), (k69 y0 y1 y2 y3 y4 y5 y6 y7 y8 y9 y10 y11 y12).1 G = some (z, Gf) → V X RL cL_sound 13 9 170 wsL_sound B (XQ X (xmap vI z) Gf B) G 69 [(0, .ref y0), (1, .int y1), (2, .int y2), (3, .int y3), (4, .int y4), (5, .int y5), (6, .int y6), (7, .int y7), (8, .int y8), (9, .int y9), (10, .int y10), (11, .int y11), (12, .int y12)] []) (p1 : Nat) (p2 : Int32) (l2 : Int32) (l4 : Int32) (l5 : Int32) (l6 : Int32) (l7 : Int32) (l8 : Int32) (l9 : Int32) (l10 : Int32) (s0 : Int32) (s1 : Int32) (G : GH) (hf : (f_L_sound_116 k29 k69 p1 p2 l2 l4 l5 l6 l7 l8 l9 l10 s0 s1).1 G = some (z, Gf)) : V X RL cL_sound 13 9 170 wsL_sound B (XQ X (xmap vI z) Gf B) G 116 [(0, .ref p1), (1, .int p2), (2, .int l2), (4, .int l4), (5, .int l5), (6, .int l6), (7, .int l7), (8, .int l8), (9, .int l9), (10, .int l10)] [.int s0, .int s1] := by
  unfold f_L_sound_116 at hf
  refine v_iadd dL_sound_116 ?_
  refine v_istore_n [(3, .int (s1 + s0)), (0, .ref p1), (1, .int p2), (2, .int l2), (4, .int l4), (5, .int l5), (6, .int l6), (7, .int l7), (8, .int l8), (9, .int l9), (10, .int l10)] dL_sound_117 rfl (by decide) rfl ?_
  refine v_aload_n 1 dL_sound_118 rfl rfl ?_
  refine v_iload 10 dL_sound_119 rfl ?_
  refine v_bipush 6 dL_sound_121 (by decide) ?_
  refine v_xcallVi hn 4 2 [.int l10, .int 6] (c_X4_version (xl X) hfx p1 l10 6) gL_sound_X4_version rfl dv_X4_version (by decide) (by decide) rfl rfl dL_sound_123 (Nat.le_of_ble_eq_true rfl) rfl hE hf (fun x15 G hf => ?_)
  refine v_istore [(12, .int x15), (3, .int (s1 + s0)), (0, .ref p1), (1, .int p2), (2, .int l2), (4, .int l4), (5, .int l5), (6, .int l6), (7, .int l7), (8, .int l8), (9, .int l9), (10, .int l10)] dL_sound_126 (by decide) rfl ?_
  refine v_iload 0 dL_sound_128 rfl ?_
  refine v_iload 5 dL_sound_130 rfl ?_
  refine v_icmp_le 140 dL_sound_132 (by decide) hf (fun _ hf => ?_) (fun _ hf => ?_)
  · refine v_iload 5 dL_sound_140 rfl ?_
    refine v_sub [2, 3, 4, 1, 6, 7, 8, 9, 10, 11, 0] rfl ?_
    exact e_L_sound_142 (k29 := k29) (k69 := k69) hfx hn hr hE hk29 hk69 p1 p2 l2 (s1 + s0) l5 l6 l7 l8 l9 l10 x15 l4 G hf
  · refine v_iload 0 dL_sound_135 rfl ?_
    refine v_goto 142 dL_sound_137 (by decide) ?_
    refine v_sub [2, 3, 4, 1, 6, 7, 8, 9, 10, 11, 0] rfl ?_
    exact e_L_sound_142 (k29 := k29) (k69 := k69) hfx hn hr hE hk29 hk69 p1 p2 l2 (s1 + s0) l5 l6 l7 l8 l9 l10 x15 x15 G hf
set_option maxRecDepth 100000 in
set_option maxHeartbeats 4000000 in
theorem e_L_sound_69 {X : VX} {B : VB} {z : (String ⊕ Int32)} {Gf : GH} {k29 : Nat → Int32 → Int32 → Int32 → Int32 → Int32 → Int32 → Int32 → Int32 → Int32 → Int32 → MX Int32} (hfx : (xl X).stackTraces = false) (hn : ∀ x ∈ (xc X).exceptionTable.toList, False) (hr : (xme X).sig.returnType = (some .boolean)) (hE : VE B (z, Gf)) (hk29 : ∀ (y0 : Nat) (y1 : Int32) (y2 : Int32) (y3 : Int32) (y4 : Int32) (y5 : Int32) (y6 : Int32) (y7 : Int32) (y8 : Int32) (y9 : Int32) (y10 : Int32) (G : GH), (k29 y0 y1 y2 y3 y4 y5 y6 y7 y8 y9 y10).1 G = some (z, Gf) → V X RL cL_sound 13 9 170 wsL_sound B (XQ X (xmap vI z) Gf B) G 29 [(0, .ref y0), (1, .int y1), (2, .int y2), (3, .int y3), (4, .int y4), (5, .int y5), (6, .int y6), (7, .int y7), (8, .int y8), (9, .int y9), (10, .int y10)] []) : ∀ (n : Nat) (p1 : Nat) (p2 : Int32) (l2 : Int32) (l3 : Int32) (l4 : Int32) (l5 : Int32) (l6 : Int32) (l7 : Int32) (l8 : Int32) (l9 : Int32) (l10 : Int32) (l11 : Int32) (l12 : Int32) (G : GH), (f_L_sound_69 k29 n p1 p2 l2 l3 l4 l5 l6 l7 l8 l9 l10 l11 l12).1 G = some (z, Gf) → V X RL cL_sound 13 9 170 wsL_sound B (XQ X (xmap vI z) Gf B) G 69 [(0, .ref p1), (1, .int p2), (2, .int l2), (3, .int l3), (4, .int l4), (5, .int l5), (6, .int l6), (7, .int l7), (8, .int l8), (9, .int l9), (10, .int l10), (11, .int l11), (12, .int l12)] [] := by
  intro n
  induction n with
  | zero =>
    intro p1 p2 l2 l3 l4 l5 l6 l7 l8 l9 l10 l11 l12 G hf
    have h0 : (none : Option ((String ⊕ Int32) × GH)) = some (z, Gf) := hf
    cases h0
  | succ n ih =>
    intro p1 p2 l2 l3 l4 l5 l6 l7 l8 l9 l10 l11 l12 G hf
    rw [f_L_sound_69.eq_2] at hf
    refine v_iload 12 dL_sound_69 rfl ?_
    refine v_iload_n 2 dL_sound_71 rfl rfl ?_
    refine v_icmp_ge 105 dL_sound_72 (by decide) hf (fun _ hf => ?_) (fun _ hf => ?_)
    · refine v_iload_n 3 dL_sound_105 rfl rfl ?_
      refine v_iload 11 dL_sound_106 rfl ?_
      refine v_if_eq 115 dL_sound_108 (by decide) hf (fun _ hf => ?_) (fun _ hf => ?_)
      · refine v_iconst 1 dL_sound_115 (by decide) ?_
        refine v_sub [0, 1, 2, 4, 5, 6, 7, 8, 9, 10] rfl ?_
        exact e_L_sound_116 (k29 := k29) (k69 := (fun y0 y1 y2 y3 y4 y5 y6 y7 y8 y9 y10 y11 y12 => f_L_sound_69 k29 n y0 y1 y2 y3 y4 y5 y6 y7 y8 y9 y10 y11 y12)) hfx hn hr hE hk29 (fun y0 y1 y2 y3 y4 y5 y6 y7 y8 y9 y10 y11 y12 G hf => ih y0 y1 y2 y3 y4 y5 y6 y7 y8 y9 y10 y11 y12 G hf) p1 p2 l2 l4 l5 l6 l7 l8 l9 l10 1 l3 G hf
      · refine v_iconst 0 dL_sound_111 (by decide) ?_
        refine v_goto 116 dL_sound_112 (by decide) ?_
        refine v_sub [0, 1, 2, 4, 5, 6, 7, 8, 9, 10] rfl ?_
        exact e_L_sound_116 (k29 := k29) (k69 := (fun y0 y1 y2 y3 y4 y5 y6 y7 y8 y9 y10 y11 y12 => f_L_sound_69 k29 n y0 y1 y2 y3 y4 y5 y6 y7 y8 y9 y10 y11 y12)) hfx hn hr hE hk29 (fun y0 y1 y2 y3 y4 y5 y6 y7 y8 y9 y10 y11 y12 G hf => ih y0 y1 y2 y3 y4 y5 y6 y7 y8 y9 y10 y11 y12 G hf) p1 p2 l2 l4 l5 l6 l7 l8 l9 l10 0 l3 G hf
    · refine v_iload 11 dL_sound_75 rfl ?_
      refine v_if_ne 92 dL_sound_77 (by decide) hf (fun _ hf => ?_) (fun _ hf => ?_)
      · refine v_iconst 1 dL_sound_92 (by decide) ?_
        refine v_goto 97 dL_sound_93 (by decide) ?_
        refine v_istore [(11, .int 1), (0, .ref p1), (1, .int p2), (2, .int l2), (3, .int l3), (4, .int l4), (5, .int l5), (6, .int l6), (7, .int l7), (8, .int l8), (9, .int l9), (10, .int l10), (12, .int l12)] dL_sound_97 (by decide) rfl ?_
        refine v_iinc 12 (l12 + 1) [(12, .int (l12 + 1)), (11, .int 1), (0, .ref p1), (1, .int p2), (2, .int l2), (3, .int l3), (4, .int l4), (5, .int l5), (6, .int l6), (7, .int l7), (8, .int l8), (9, .int l9), (10, .int l10)] dL_sound_99 rfl (by rfl) (by decide) rfl ?_
        refine v_goto 69 dL_sound_102 (by decide) ?_
        refine v_sub [2, 3, 4, 5, 6, 7, 8, 9, 10, 11, 12, 1, 0] rfl ?_
        exact ih p1 p2 l2 l3 l4 l5 l6 l7 l8 l9 l10 1 (l12 + 1) G hf
      · refine v_aload_n 0 dL_sound_80 rfl rfl ?_
        refine v_iload 12 dL_sound_81 rfl ?_
        refine v_iconst 0 dL_sound_83 (by decide) ?_
        refine v_xcallVi hn 4 2 [.int l12, .int 0] (c_X4_version (xl X) hfx p1 l12 0) gL_sound_X4_version rfl dv_X4_version (by decide) (by decide) rfl rfl dL_sound_84 (Nat.le_of_ble_eq_true rfl) rfl hE hf (fun x21 G hf => ?_)
        refine v_iload 10 dL_sound_87 rfl ?_
        refine v_icmp_ne 96 dL_sound_89 (by decide) hf (fun _ hf => ?_) (fun _ hf => ?_)
        · refine v_iconst 0 dL_sound_96 (by decide) ?_
          refine v_istore [(11, .int 0), (0, .ref p1), (1, .int p2), (2, .int l2), (3, .int l3), (4, .int l4), (5, .int l5), (6, .int l6), (7, .int l7), (8, .int l8), (9, .int l9), (10, .int l10), (12, .int l12)] dL_sound_97 (by decide) rfl ?_
          refine v_iinc 12 (l12 + 1) [(12, .int (l12 + 1)), (11, .int 0), (0, .ref p1), (1, .int p2), (2, .int l2), (3, .int l3), (4, .int l4), (5, .int l5), (6, .int l6), (7, .int l7), (8, .int l8), (9, .int l9), (10, .int l10)] dL_sound_99 rfl (by rfl) (by decide) rfl ?_
          refine v_goto 69 dL_sound_102 (by decide) ?_
          refine v_sub [2, 3, 4, 5, 6, 7, 8, 9, 10, 11, 12, 1, 0] rfl ?_
          exact ih p1 p2 l2 l3 l4 l5 l6 l7 l8 l9 l10 0 (l12 + 1) G hf
        · refine v_iconst 1 dL_sound_92 (by decide) ?_
          refine v_goto 97 dL_sound_93 (by decide) ?_
          refine v_istore [(11, .int 1), (0, .ref p1), (1, .int p2), (2, .int l2), (3, .int l3), (4, .int l4), (5, .int l5), (6, .int l6), (7, .int l7), (8, .int l8), (9, .int l9), (10, .int l10), (12, .int l12)] dL_sound_97 (by decide) rfl ?_
          refine v_iinc 12 (l12 + 1) [(12, .int (l12 + 1)), (11, .int 1), (0, .ref p1), (1, .int p2), (2, .int l2), (3, .int l3), (4, .int l4), (5, .int l5), (6, .int l6), (7, .int l7), (8, .int l8), (9, .int l9), (10, .int l10)] dL_sound_99 rfl (by rfl) (by decide) rfl ?_
          refine v_goto 69 dL_sound_102 (by decide) ?_
          refine v_sub [2, 3, 4, 5, 6, 7, 8, 9, 10, 11, 12, 1, 0] rfl ?_
          exact ih p1 p2 l2 l3 l4 l5 l6 l7 l8 l9 l10 1 (l12 + 1) G hf
set_option maxRecDepth 100000 in
set_option maxHeartbeats 4000000 in
theorem e_L_sound_60 {X : VX} {B : VB} {z : (String ⊕ Int32)} {Gf : GH} {k29 : Nat → Int32 → Int32 → Int32 → Int32 → Int32 → Int32 → Int32 → Int32 → Int32 → Int32 → MX Int32} (hfx : (xl X).stackTraces = false) (hn : ∀ x ∈ (xc X).exceptionTable.toList, False) (hr : (xme X).sig.returnType = (some .boolean)) (hE : VE B (z, Gf)) (hk29 : ∀ (y0 : Nat) (y1 : Int32) (y2 : Int32) (y3 : Int32) (y4 : Int32) (y5 : Int32) (y6 : Int32) (y7 : Int32) (y8 : Int32) (y9 : Int32) (y10 : Int32) (G : GH), (k29 y0 y1 y2 y3 y4 y5 y6 y7 y8 y9 y10).1 G = some (z, Gf) → V X RL cL_sound 13 9 170 wsL_sound B (XQ X (xmap vI z) Gf B) G 29 [(0, .ref y0), (1, .int y1), (2, .int y2), (3, .int y3), (4, .int y4), (5, .int y5), (6, .int y6), (7, .int y7), (8, .int y8), (9, .int y9), (10, .int y10)] []) (p1 : Nat) (p2 : Int32) (l2 : Int32) (l3 : Int32) (l4 : Int32) (l5 : Int32) (l6 : Int32) (l7 : Int32) (l8 : Int32) (l9 : Int32) (l10 : Int32) (G : GH) (hf : (f_L_sound_60 k29 p1 p2 l2 l3 l4 l5 l6 l7 l8 l9 l10).1 G = some (z, Gf)) : V X RL cL_sound 13 9 170 wsL_sound B (XQ X (xmap vI z) Gf B) G 60 [(0, .ref p1), (1, .int p2), (2, .int l2), (3, .int l3), (4, .int l4), (5, .int l5), (6, .int l6), (7, .int l7), (8, .int l8), (9, .int l9), (10, .int l10)] [] := by
  unfold f_L_sound_60 at hf
  refine v_iconst 0 dL_sound_60 (by decide) ?_
  refine v_istore [(11, .int 0), (0, .ref p1), (1, .int p2), (2, .int l2), (3, .int l3), (4, .int l4), (5, .int l5), (6, .int l6), (7, .int l7), (8, .int l8), (9, .int l9), (10, .int l10)] dL_sound_61 (by decide) rfl ?_
  refine v_iload 11 dL_sound_63 rfl ?_
  refine v_iconst 1 dL_sound_65 (by decide) ?_
  refine v_iadd dL_sound_66 ?_
  refine v_istore [(12, .int (l10 + 1)), (11, .int 0), (0, .ref p1), (1, .int p2), (2, .int l2), (3, .int l3), (4, .int l4), (5, .int l5), (6, .int l6), (7, .int l7), (8, .int l8), (9, .int l9), (10, .int l10)] dL_sound_67 (by decide) rfl ?_
  refine v_sub [2, 3, 4, 5, 6, 7, 8, 9, 10, 11, 12, 1, 0] rfl ?_
  generalize FU = fu at hf
  exact e_L_sound_69 (k29 := k29) hfx hn hr hE hk29 fu p1 p2 l2 l3 l4 l5 l6 l7 l8 l9 l10 0 (l10 + 1) G hf
set_option maxRecDepth 100000 in
set_option maxHeartbeats 4000000 in
theorem e_L_sound_29 {X : VX} {B : VB} {z : (String ⊕ Int32)} {Gf : GH}  (hfx : (xl X).stackTraces = false) (hn : ∀ x ∈ (xc X).exceptionTable.toList, False) (hr : (xme X).sig.returnType = (some .boolean)) (hE : VE B (z, Gf))  : ∀ (n : Nat) (p1 : Nat) (p2 : Int32) (l2 : Int32) (l3 : Int32) (l4 : Int32) (l5 : Int32) (l6 : Int32) (l7 : Int32) (l8 : Int32) (l9 : Int32) (l10 : Int32) (G : GH), (f_L_sound_29 n p1 p2 l2 l3 l4 l5 l6 l7 l8 l9 l10).1 G = some (z, Gf) → V X RL cL_sound 13 9 170 wsL_sound B (XQ X (xmap vI z) Gf B) G 29 [(0, .ref p1), (1, .int p2), (2, .int l2), (3, .int l3), (4, .int l4), (5, .int l5), (6, .int l6), (7, .int l7), (8, .int l8), (9, .int l9), (10, .int l10)] [] := by
  intro n
  induction n with
  | zero =>
    intro p1 p2 l2 l3 l4 l5 l6 l7 l8 l9 l10 G hf
    have h0 : (none : Option ((String ⊕ Int32) × GH)) = some (z, Gf) := hf
    cases h0
  | succ n ih =>
    intro p1 p2 l2 l3 l4 l5 l6 l7 l8 l9 l10 G hf
    rw [f_L_sound_29.eq_2] at hf
    refine v_iload 10 dL_sound_29 rfl ?_
    refine v_iload_n 2 dL_sound_31 rfl rfl ?_
    refine v_icmp_ge 239 dL_sound_32 (by decide) hf (fun _ hf => ?_) (fun _ hf => ?_)
    · refine v_aload_n 0 dL_sound_239 rfl rfl ?_
      refine v_iconst 1 dL_sound_240 (by decide) ?_
      refine v_xcallVi hn 4 1 [.int 1] (c_X4_count (xl X) hfx p1 1) gL_sound_X4_count rfl dv_X4_count (by decide) (by decide) rfl rfl dL_sound_241 (Nat.le_of_ble_eq_true rfl) rfl hE hf (fun x2 G hf => ?_)
      refine v_iload_n 3 dL_sound_244 rfl rfl ?_
      refine v_icmp_ne 352 dL_sound_245 (by decide) hf (fun _ hf => ?_) (fun _ hf => ?_)
      · refine v_iconst 0 dL_sound_352 (by decide) ?_
        exact v_xzret hr dL_sound_353 hE hf
      · refine v_aload_n 0 dL_sound_248 rfl rfl ?_
        refine v_iconst 2 dL_sound_249 (by decide) ?_
        refine v_xcallVi hn 4 1 [.int 2] (c_X4_count (xl X) hfx p1 2) gL_sound_X4_count rfl dv_X4_count (by decide) (by decide) rfl rfl dL_sound_250 (Nat.le_of_ble_eq_true rfl) rfl hE hf (fun x3 G hf => ?_)
        refine v_iload 4 dL_sound_253 rfl ?_
        refine v_icmp_ne 352 dL_sound_255 (by decide) hf (fun _ hf => ?_) (fun _ hf => ?_)
        · refine v_iconst 0 dL_sound_352 (by decide) ?_
          exact v_xzret hr dL_sound_353 hE hf
        · refine v_aload_n 0 dL_sound_258 rfl rfl ?_
          refine v_iconst 3 dL_sound_259 (by decide) ?_
          refine v_xcallVi hn 4 1 [.int 3] (c_X4_count (xl X) hfx p1 3) gL_sound_X4_count rfl dv_X4_count (by decide) (by decide) rfl rfl dL_sound_260 (Nat.le_of_ble_eq_true rfl) rfl hE hf (fun x4 G hf => ?_)
          refine v_iload 5 dL_sound_263 rfl ?_
          refine v_icmp_ne 352 dL_sound_265 (by decide) hf (fun _ hf => ?_) (fun _ hf => ?_)
          · refine v_iconst 0 dL_sound_352 (by decide) ?_
            exact v_xzret hr dL_sound_353 hE hf
          · refine v_aload_n 0 dL_sound_268 rfl rfl ?_
            refine v_iconst 4 dL_sound_269 (by decide) ?_
            refine v_xcallVi hn 4 1 [.int 4] (c_X4_count (xl X) hfx p1 4) gL_sound_X4_count rfl dv_X4_count (by decide) (by decide) rfl rfl dL_sound_270 (Nat.le_of_ble_eq_true rfl) rfl hE hf (fun x5 G hf => ?_)
            refine v_iload 6 dL_sound_273 rfl ?_
            refine v_icmp_ne 352 dL_sound_275 (by decide) hf (fun _ hf => ?_) (fun _ hf => ?_)
            · refine v_iconst 0 dL_sound_352 (by decide) ?_
              exact v_xzret hr dL_sound_353 hE hf
            · refine v_aload_n 0 dL_sound_278 rfl rfl ?_
              refine v_iconst 5 dL_sound_279 (by decide) ?_
              refine v_xcallVi hn 4 1 [.int 5] (c_X4_count (xl X) hfx p1 5) gL_sound_X4_count rfl dv_X4_count (by decide) (by decide) rfl rfl dL_sound_280 (Nat.le_of_ble_eq_true rfl) rfl hE hf (fun x6 G hf => ?_)
              refine v_iload 7 dL_sound_283 rfl ?_
              refine v_icmp_ne 352 dL_sound_285 (by decide) hf (fun _ hf => ?_) (fun _ hf => ?_)
              · refine v_iconst 0 dL_sound_352 (by decide) ?_
                exact v_xzret hr dL_sound_353 hE hf
              · refine v_aload_n 0 dL_sound_288 rfl rfl ?_
                refine v_bipush 6 dL_sound_289 (by decide) ?_
                refine v_xcallVi hn 4 1 [.int 6] (c_X4_count (xl X) hfx p1 6) gL_sound_X4_count rfl dv_X4_count (by decide) (by decide) rfl rfl dL_sound_291 (Nat.le_of_ble_eq_true rfl) rfl hE hf (fun x7 G hf => ?_)
                refine v_iload 8 dL_sound_294 rfl ?_
                refine v_icmp_ne 352 dL_sound_296 (by decide) hf (fun _ hf => ?_) (fun _ hf => ?_)
                · refine v_iconst 0 dL_sound_352 (by decide) ?_
                  exact v_xzret hr dL_sound_353 hE hf
                · refine v_aload_n 0 dL_sound_299 rfl rfl ?_
                  refine v_bipush 7 dL_sound_300 (by decide) ?_
                  refine v_xcallVi hn 4 1 [.int 7] (c_X4_count (xl X) hfx p1 7) gL_sound_X4_count rfl dv_X4_count (by decide) (by decide) rfl rfl dL_sound_302 (Nat.le_of_ble_eq_true rfl) rfl hE hf (fun x8 G hf => ?_)
                  refine v_iload 9 dL_sound_305 rfl ?_
                  refine v_icmp_ne 352 dL_sound_307 (by decide) hf (fun _ hf => ?_) (fun _ hf => ?_)
                  · refine v_iconst 0 dL_sound_352 (by decide) ?_
                    exact v_xzret hr dL_sound_353 hE hf
                  · refine v_aload_n 0 dL_sound_310 rfl rfl ?_
                    refine v_iload_n 1 dL_sound_311 rfl rfl ?_
                    refine v_iload_n 2 dL_sound_312 rfl rfl ?_
                    refine v_callSi 2 [.int p2, .int l2] (c_L_up (xl X) hfx p2 l2) gL_sound_L_up rfl dn_L_up (by decide) (by decide) rfl dL_sound_313 (Nat.le_of_ble_eq_true rfl) rfl hE hf (fun x9 G hf => ?_)
                    refine v_iload_n 1 dL_sound_316 rfl rfl ?_
                    refine v_bipush 8 dL_sound_317 (by decide) ?_
                    refine v_ishr dL_sound_319 ?_
                    refine v_iload_n 2 dL_sound_320 rfl rfl ?_
                    refine v_callSi 2 [.int (p2 >>> (8 &&& 31)), .int l2] (c_L_up (xl X) hfx (p2 >>> (8 &&& 31)) l2) gL_sound_L_up rfl dn_L_up (by decide) (by decide) rfl dL_sound_321 (Nat.le_of_ble_eq_true rfl) rfl hE hf (fun x10 G hf => ?_)
                    refine v_xcallSi hn 3 [.ref p1, .int x9, .int x10] (c_L_ways (xl X) hfx p1 x9 x10) gL_sound_L_ways rfl dn_L_ways (by decide) (by decide) rfl dL_sound_324 (Nat.le_of_ble_eq_true rfl) rfl hE hf (fun x11 G hf => ?_)
                    refine v_if_eq 352 dL_sound_327 (by decide) hf (fun _ hf => ?_) (fun _ hf => ?_)
                    · refine v_iconst 0 dL_sound_352 (by decide) ?_
                      exact v_xzret hr dL_sound_353 hE hf
                    · refine v_aload_n 0 dL_sound_330 rfl rfl ?_
                      refine v_iload_n 2 dL_sound_331 rfl rfl ?_
                      refine v_iconst 1 dL_sound_332 (by decide) ?_
                      refine v_isub dL_sound_333 ?_
                      refine v_iload_n 1 dL_sound_334 rfl rfl ?_
                      refine v_bipush 16 dL_sound_335 (by decide) ?_
                      refine v_ishr dL_sound_337 ?_
                      refine v_iload_n 2 dL_sound_338 rfl rfl ?_
                      refine v_callSi 2 [.int (p2 >>> (16 &&& 31)), .int l2] (c_L_up (xl X) hfx (p2 >>> (16 &&& 31)) l2) gL_sound_L_up rfl dn_L_up (by decide) (by decide) rfl dL_sound_339 (Nat.le_of_ble_eq_true rfl) rfl hE hf (fun x12 G hf => ?_)
                      refine v_xcallSi hn 3 [.ref p1, .int (l2 - 1), .int x12] (c_L_ways (xl X) hfx p1 (l2 - 1) x12) gL_sound_L_ways rfl dn_L_ways (by decide) (by decide) rfl dL_sound_342 (Nat.le_of_ble_eq_true rfl) rfl hE hf (fun x13 G hf => ?_)
                      refine v_if_eq 352 dL_sound_345 (by decide) hf (fun _ hf => ?_) (fun _ hf => ?_)
                      · refine v_iconst 0 dL_sound_352 (by decide) ?_
                        exact v_xzret hr dL_sound_353 hE hf
                      · refine v_iconst 1 dL_sound_348 (by decide) ?_
                        refine v_goto 353 dL_sound_349 (by decide) ?_
                        exact v_xzret hr dL_sound_353 hE hf
    · refine v_aload_n 0 dL_sound_35 rfl rfl ?_
      refine v_iload 10 dL_sound_36 rfl ?_
      refine v_xcallSi hn 2 [.ref p1, .int l10] (c_L_parts (xl X) hfx p1 l10) gL_sound_L_parts rfl dn_L_parts (by decide) (by decide) rfl dL_sound_38 (Nat.le_of_ble_eq_true rfl) rfl hE hf (fun x14 G hf => ?_)
      refine v_if_eq 58 dL_sound_41 (by decide) hf (fun _ hf => ?_) (fun _ hf => ?_)
      · refine v_iconst 0 dL_sound_58 (by decide) ?_
        exact v_xzret hr dL_sound_59 hE hf
      · refine v_iload 10 dL_sound_44 rfl ?_
        refine v_if_le 60 dL_sound_46 (by decide) hf (fun _ hf => ?_) (fun _ hf => ?_)
        · refine v_sub [0, 1, 2, 3, 4, 5, 6, 7, 8, 9, 10] rfl ?_
          exact e_L_sound_60 (k29 := (fun y0 y1 y2 y3 y4 y5 y6 y7 y8 y9 y10 => f_L_sound_29 n y0 y1 y2 y3 y4 y5 y6 y7 y8 y9 y10)) hfx hn hr hE (fun y0 y1 y2 y3 y4 y5 y6 y7 y8 y9 y10 G hf => ih y0 y1 y2 y3 y4 y5 y6 y7 y8 y9 y10 G hf) p1 p2 l2 l3 l4 l5 l6 l7 l8 l9 l10 G hf
        · refine v_aload_n 0 dL_sound_49 rfl rfl ?_
          refine v_iload 10 dL_sound_50 rfl ?_
          refine v_xcallSi hn 2 [.ref p1, .int l10] (c_L_row (xl X) hfx p1 l10) gL_sound_L_row rfl dn_L_row (by decide) (by decide) rfl dL_sound_52 (Nat.le_of_ble_eq_true rfl) rfl hE hf (fun x22 G hf => ?_)
          refine v_if_ne 60 dL_sound_55 (by decide) hf (fun _ hf => ?_) (fun _ hf => ?_)
          · refine v_sub [0, 1, 2, 3, 4, 5, 6, 7, 8, 9, 10] rfl ?_
            exact e_L_sound_60 (k29 := (fun y0 y1 y2 y3 y4 y5 y6 y7 y8 y9 y10 => f_L_sound_29 n y0 y1 y2 y3 y4 y5 y6 y7 y8 y9 y10)) hfx hn hr hE (fun y0 y1 y2 y3 y4 y5 y6 y7 y8 y9 y10 G hf => ih y0 y1 y2 y3 y4 y5 y6 y7 y8 y9 y10 G hf) p1 p2 l2 l3 l4 l5 l6 l7 l8 l9 l10 G hf
          · refine v_iconst 0 dL_sound_58 (by decide) ?_
            exact v_xzret hr dL_sound_59 hE hf
set_option maxRecDepth 100000 in
set_option maxHeartbeats 4000000 in
theorem e_L_sound_0 {X : VX} {B : VB} {z : (String ⊕ Int32)} {Gf : GH}  (hfx : (xl X).stackTraces = false) (hn : ∀ x ∈ (xc X).exceptionTable.toList, False) (hr : (xme X).sig.returnType = (some .boolean)) (hE : VE B (z, Gf))  (p1 : Nat) (p2 : Int32) (G : GH) (hf : (f_L_sound p1 p2).1 G = some (z, Gf)) : V X RL cL_sound 13 9 170 wsL_sound B (XQ X (xmap vI z) Gf B) G 0 [(0, .ref p1), (1, .int p2)] [] := by
  unfold f_L_sound at hf
  refine v_aload_n 0 dL_sound_0 rfl rfl ?_
  refine v_iconst 0 dL_sound_1 (by decide) ?_
  refine v_xcallVi hn 4 1 [.int 0] (c_X4_count (xl X) hfx p1 0) gL_sound_X4_count rfl dv_X4_count (by decide) (by decide) rfl rfl dL_sound_2 (Nat.le_of_ble_eq_true rfl) rfl hE hf (fun x1 G hf => ?_)
  refine v_istore_n [(2, .int x1), (0, .ref p1), (1, .int p2)] dL_sound_5 rfl (by decide) rfl ?_
  refine v_iconst 0 dL_sound_6 (by decide) ?_
  refine v_istore_n [(3, .int 0), (2, .int x1), (0, .ref p1), (1, .int p2)] dL_sound_7 rfl (by decide) rfl ?_
  refine v_iconst 0 dL_sound_8 (by decide) ?_
  refine v_istore [(4, .int 0), (3, .int 0), (2, .int x1), (0, .ref p1), (1, .int p2)] dL_sound_9 (by decide) rfl ?_
  refine v_iconst 0 dL_sound_11 (by decide) ?_
  refine v_istore [(5, .int 0), (4, .int 0), (3, .int 0), (2, .int x1), (0, .ref p1), (1, .int p2)] dL_sound_12 (by decide) rfl ?_
  refine v_iconst 0 dL_sound_14 (by decide) ?_
  refine v_istore [(6, .int 0), (5, .int 0), (4, .int 0), (3, .int 0), (2, .int x1), (0, .ref p1), (1, .int p2)] dL_sound_15 (by decide) rfl ?_
  refine v_iconst 0 dL_sound_17 (by decide) ?_
  refine v_istore [(7, .int 0), (6, .int 0), (5, .int 0), (4, .int 0), (3, .int 0), (2, .int x1), (0, .ref p1), (1, .int p2)] dL_sound_18 (by decide) rfl ?_
  refine v_iconst 0 dL_sound_20 (by decide) ?_
  refine v_istore [(8, .int 0), (7, .int 0), (6, .int 0), (5, .int 0), (4, .int 0), (3, .int 0), (2, .int x1), (0, .ref p1), (1, .int p2)] dL_sound_21 (by decide) rfl ?_
  refine v_iconst 0 dL_sound_23 (by decide) ?_
  refine v_istore [(9, .int 0), (8, .int 0), (7, .int 0), (6, .int 0), (5, .int 0), (4, .int 0), (3, .int 0), (2, .int x1), (0, .ref p1), (1, .int p2)] dL_sound_24 (by decide) rfl ?_
  refine v_iconst 0 dL_sound_26 (by decide) ?_
  refine v_istore [(10, .int 0), (9, .int 0), (8, .int 0), (7, .int 0), (6, .int 0), (5, .int 0), (4, .int 0), (3, .int 0), (2, .int x1), (0, .ref p1), (1, .int p2)] dL_sound_27 (by decide) rfl ?_
  refine v_sub [9, 10, 8, 7, 6, 5, 4, 3, 2, 1, 0] rfl ?_
  generalize FU = fu at hf
  exact e_L_sound_29  hfx hn hr hE fu p1 p2 x1 0 0 0 0 0 0 0 0 G hf
theorem c_L_sound (l : Launch) (hfl : l.stackTraces = false) (p1 : Nat) (p2 : Int32) : CX l yL_sound wsL_sound 9 170 [.ref p1, .int p2] vI (f_L_sound p1 p2) := CX.start hfl RL rfl (by decide +kernel) rfl (Nat.le_of_ble_eq_true rfl) (fun X G z Gf hl hn hr hf => e_L_sound_0 (by rw [hl]; exact hfl) hn hr ⟨rfl, rfl⟩ p1 p2 G hf)
theorem dn_L_sound : yL_sound.cls ≠ "java/lang/invoke/MethodHandle" ∧ yL_sound.cls ≠ "java/lang/invoke/VarHandle" ∧ (parseMethodDescriptor yL_sound.desc).map (fun d => d.parameters.length) = some 2 := by decide +kernel
