/-! walk of the law's runs (printed by wip/p27/all.py) -/
set_option maxRecDepth 100000 in
set_option maxHeartbeats 4000000 in
theorem e_L_runs_224 {X : VX} {B : VB} {z : (String ⊕ Int32)} {Gf : GH} {k168 : Nat → Int32 → Int32 → Int32 → Int32 → Int32 → Int32 → Int32 → Int32 → Int32 → MX Int32} (hfx : (xl X).stackTraces = false) (hn : ∀ x ∈ (xc X).exceptionTable.toList, False) (hr : (xme X).sig.returnType = (some .boolean)) (hE : VE B (z, Gf)) (hk168 : ∀ (y0 : Nat) (y1 : Int32) (y2 : Int32) (y3 : Int32) (y4 : Int32) (y5 : Int32) (y6 : Int32) (y7 : Int32) (y8 : Int32) (y9 : Int32) (G : GH), (k168 y0 y1 y2 y3 y4 y5 y6 y7 y8 y9).1 G = some (z, Gf) → V X RL cL_runs 14 8 166 wsL_runs B (XQ X (xmap vI z) Gf B) G 168 [(0, .ref y0), (3, .int y1), (4, .int y2), (5, .int y3), (8, .int y4), (9, .int y5), (10, .int y6), (11, .int y7), (12, .int y8), (13, .int y9)] []) (p1 : Nat) (l3 : Int32) (l4 : Int32) (l5 : Int32) (l8 : Int32) (l9 : Int32) (l10 : Int32) (l11 : Int32) (l13 : Int32) (s0 : Int32) (G : GH) (hf : (f_L_runs_224 k168 p1 l3 l4 l5 l8 l9 l10 l11 l13 s0).1 G = some (z, Gf)) : V X RL cL_runs 14 8 166 wsL_runs B (XQ X (xmap vI z) Gf B) G 224 [(0, .ref p1), (3, .int l3), (4, .int l4), (5, .int l5), (8, .int l8), (9, .int l9), (10, .int l10), (11, .int l11), (13, .int l13)] [.int s0] := by
  unfold f_L_runs_224 at hf
  refine v_istore [(12, .int s0), (0, .ref p1), (3, .int l3), (4, .int l4), (5, .int l5), (8, .int l8), (9, .int l9), (10, .int l10), (11, .int l11), (13, .int l13)] dL_runs_224 (by decide) rfl ?_
  refine v_aload_n 1 dL_runs_226 rfl rfl ?_
  refine v_iload 9 dL_runs_227 rfl ?_
  refine v_iconst 0 dL_runs_229 (by decide) ?_
  refine v_xcallVi hn 4 2 [.int l13, .int 0] (c_X4_version (xl X) hfx p1 l13 0) gL_runs_X4_version rfl dv_X4_version (by decide) (by decide) rfl rfl dL_runs_230 (Nat.le_of_ble_eq_true rfl) rfl hE hf (fun x15 G hf => ?_)
  refine v_iload 9 dL_runs_233 rfl ?_
  refine v_iload_n 2 dL_runs_235 rfl rfl ?_
  refine v_icmp_ne 244 dL_runs_236 (by decide) hf (fun _ hf => ?_) (fun _ hf => ?_)
  · refine v_iload 9 dL_runs_244 rfl ?_
    refine v_iconst 1 dL_runs_246 (by decide) ?_
    refine v_isub dL_runs_247 ?_
    refine v_icmp_eq 253 dL_runs_248 (by decide) hf (fun _ hf => ?_) (fun _ hf => ?_)
    · refine v_iinc 9 (l13 + 1) [(13, .int (l13 + 1)), (12, .int s0), (0, .ref p1), (3, .int l3), (4, .int l4), (5, .int l5), (8, .int l8), (9, .int l9), (10, .int l10), (11, .int l11)] dL_runs_253 rfl (by rfl) (by decide) rfl ?_
      refine v_goto 168 dL_runs_256 (by decide) ?_
      refine v_sub [2, 3, 4, 5, 6, 7, 8, 9, 1, 0] rfl ?_
      exact hk168 p1 l3 l4 l5 l8 l9 l10 l11 s0 (l13 + 1) G hf
    · refine v_iconst 0 dL_runs_251 (by decide) ?_
      exact v_xzret hr dL_runs_252 hE hf
  · refine v_iload 4 dL_runs_239 rfl ?_
    refine v_goto 248 dL_runs_241 (by decide) ?_
    refine v_icmp_eq 253 dL_runs_248 (by decide) hf (fun _ hf => ?_) (fun _ hf => ?_)
    · refine v_iinc 9 (l13 + 1) [(13, .int (l13 + 1)), (12, .int s0), (0, .ref p1), (3, .int l3), (4, .int l4), (5, .int l5), (8, .int l8), (9, .int l9), (10, .int l10), (11, .int l11)] dL_runs_253 rfl (by rfl) (by decide) rfl ?_
      refine v_goto 168 dL_runs_256 (by decide) ?_
      refine v_sub [2, 3, 4, 5, 6, 7, 8, 9, 1, 0] rfl ?_
      exact hk168 p1 l3 l4 l5 l8 l9 l10 l11 s0 (l13 + 1) G hf
    · refine v_iconst 0 dL_runs_251 (by decide) ?_
      exact v_xzret hr dL_runs_252 hE hf
set_option maxRecDepth 100000 in
set_option maxHeartbeats 4000000 in
theorem e_L_runs_195 {X : VX} {B : VB} {z : (String ⊕ Int32)} {Gf : GH} {k168 : Nat → Int32 → Int32 → Int32 → Int32 → Int32 → Int32 → Int32 → Int32 → Int32 → MX Int32} (hfx : (xl X).stackTraces = false) (hn : ∀ x ∈ (xc X).exceptionTable.toList, False) (hr : (xme X).sig.returnType = (some .boolean)) (hE : VE B (z, Gf)) (hk168 : ∀ (y0 : Nat) (y1 : Int32) (y2 : Int32) (y3 : Int32) (y4 : Int32) (y5 : Int32) (y6 : Int32) (y7 : Int32) (y8 : Int32) (y9 : Int32) (G : GH), (k168 y0 y1 y2 y3 y4 y5 y6 y7 y8 y9).1 G = some (z, Gf) → V X RL cL_runs 14 8 166 wsL_runs B (XQ X (xmap vI z) Gf B) G 168 [(0, .ref y0), (3, .int y1), (4, .int y2), (5, .int y3), (8, .int y4), (9, .int y5), (10, .int y6), (11, .int y7), (12, .int y8), (13, .int y9)] []) (p1 : Nat) (l3 : Int32) (l4 : Int32) (l5 : Int32) (l8 : Int32) (l9 : Int32) (l10 : Int32) (l12 : Int32) (l13 : Int32) (s0 : Int32) (s1 : Int32) (G : GH) (hf : (f_L_runs_195 k168 p1 l3 l4 l5 l8 l9 l10 l12 l13 s0 s1).1 G = some (z, Gf)) : V X RL cL_runs 14 8 166 wsL_runs B (XQ X (xmap vI z) Gf B) G 195 [(0, .ref p1), (3, .int l3), (4, .int l4), (5, .int l5), (8, .int l8), (9, .int l9), (10, .int l10), (12, .int l12), (13, .int l13)] [.int s0, .int s1] := by
  unfold f_L_runs_195 at hf
  refine v_iadd dL_runs_195 ?_
  refine v_istore [(11, .int (s1 + s0)), (0, .ref p1), (3, .int l3), (4, .int l4), (5, .int l5), (8, .int l8), (9, .int l9), (10, .int l10), (12, .int l12), (13, .int l13)] dL_runs_196 (by decide) rfl ?_
  refine v_aload_n 1 dL_runs_198 rfl rfl ?_
  refine v_iload 9 dL_runs_199 rfl ?_
  refine v_bipush 6 dL_runs_201 (by decide) ?_
  refine v_xcallVi hn 4 2 [.int l13, .int 6] (c_X4_version (xl X) hfx p1 l13 6) gL_runs_X4_version rfl dv_X4_version (by decide) (by decide) rfl rfl dL_runs_203 (Nat.le_of_ble_eq_true rfl) rfl hE hf (fun x14 G hf => ?_)
  refine v_iload 8 dL_runs_206 rfl ?_
  refine v_icmp_le 222 dL_runs_208 (by decide) hf (fun _ hf => ?_) (fun _ hf => ?_)
  · refine v_iload 8 dL_runs_222 rfl ?_
    refine v_sub [1, 2, 3, 4, 5, 6, 7, 0, 9] rfl ?_
    exact e_L_runs_224 (k168 := k168) hfx hn hr hE hk168 p1 l3 l4 l5 l8 l9 l10 (s1 + s0) l13 l12 G hf
  · refine v_aload_n 1 dL_runs_211 rfl rfl ?_
    refine v_iload 9 dL_runs_212 rfl ?_
    refine v_bipush 6 dL_runs_214 (by decide) ?_
    refine v_xcallVi hn 4 2 [.int l13, .int 6] (c_X4_version (xl X) hfx p1 l13 6) gL_runs_X4_version rfl dv_X4_version (by decide) (by decide) rfl rfl dL_runs_216 (Nat.le_of_ble_eq_true rfl) rfl hE hf (fun x16 G hf => ?_)
    refine v_goto 224 dL_runs_219 (by decide) ?_
    refine v_sub [1, 2, 3, 4, 5, 6, 7, 0, 9] rfl ?_
    exact e_L_runs_224 (k168 := k168) hfx hn hr hE hk168 p1 l3 l4 l5 l8 l9 l10 (s1 + s0) l13 x16 G hf
set_option maxRecDepth 100000 in
set_option maxHeartbeats 4000000 in
theorem e_L_runs_168 {X : VX} {B : VB} {z : (String ⊕ Int32)} {Gf : GH}  (hfx : (xl X).stackTraces = false) (hn : ∀ x ∈ (xc X).exceptionTable.toList, False) (hr : (xme X).sig.returnType = (some .boolean)) (hE : VE B (z, Gf))  : ∀ (n : Nat) (p1 : Nat) (l3 : Int32) (l4 : Int32) (l5 : Int32) (l8 : Int32) (l9 : Int32) (l10 : Int32) (l11 : Int32) (l12 : Int32) (l13 : Int32) (G : GH), (f_L_runs_168 n p1 l3 l4 l5 l8 l9 l10 l11 l12 l13).1 G = some (z, Gf) → V X RL cL_runs 14 8 166 wsL_runs B (XQ X (xmap vI z) Gf B) G 168 [(0, .ref p1), (3, .int l3), (4, .int l4), (5, .int l5), (8, .int l8), (9, .int l9), (10, .int l10), (11, .int l11), (12, .int l12), (13, .int l13)] [] := by
  intro n
  induction n with
  | zero =>
    intro p1 l3 l4 l5 l8 l9 l10 l11 l12 l13 G hf
    have h0 : (none : Option ((String ⊕ Int32) × GH)) = some (z, Gf) := hf
    cases h0
  | succ n ih =>
    intro p1 l3 l4 l5 l8 l9 l10 l11 l12 l13 G hf
    rw [f_L_runs_168.eq_2] at hf
    refine v_iload 9 dL_runs_168 rfl ?_
    refine v_iload_n 1 dL_runs_170 rfl rfl ?_
    refine v_iload 6 dL_runs_171 rfl ?_
    refine v_iadd dL_runs_173 ?_
    refine v_icmp_ge 259 dL_runs_174 (by decide) hf (fun _ hf => ?_) (fun _ hf => ?_)
    · refine v_iload 6 dL_runs_259 rfl ?_
      refine v_if_lt 301 dL_runs_261 (by decide) hf (fun _ hf => ?_) (fun _ hf => ?_)
      · refine v_iconst 0 dL_runs_301 (by decide) ?_
        exact v_xzret hr dL_runs_302 hE hf
      · refine v_iload 6 dL_runs_264 rfl ?_
        refine v_iload 2 dL_runs_266 rfl ?_
        refine v_icmp_gt 301 dL_runs_268 (by decide) hf (fun _ hf => ?_) (fun _ hf => ?_)
        · refine v_iconst 0 dL_runs_301 (by decide) ?_
          exact v_xzret hr dL_runs_302 hE hf
        · refine v_aload_n 0 dL_runs_271 rfl rfl ?_
          refine v_iconst 0 dL_runs_272 (by decide) ?_
          refine v_xcallVi hn 4 1 [.int 0] (c_X4_count (xl X) hfx p1 0) gL_runs_X4_count rfl dv_X4_count (by decide) (by decide) rfl rfl dL_runs_273 (Nat.le_of_ble_eq_true rfl) rfl hE hf (fun x12 G hf => ?_)
          refine v_iload_n 1 dL_runs_276 rfl rfl ?_
          refine v_iload 6 dL_runs_277 rfl ?_
          refine v_iadd dL_runs_279 ?_
          refine v_icmp_ne 301 dL_runs_280 (by decide) hf (fun _ hf => ?_) (fun _ hf => ?_)
          · refine v_iconst 0 dL_runs_301 (by decide) ?_
            exact v_xzret hr dL_runs_302 hE hf
          · refine v_iload 7 dL_runs_283 rfl ?_
            refine v_iload 4 dL_runs_285 rfl ?_
            refine v_icmp_ne 301 dL_runs_287 (by decide) hf (fun _ hf => ?_) (fun _ hf => ?_)
            · refine v_iconst 0 dL_runs_301 (by decide) ?_
              exact v_xzret hr dL_runs_302 hE hf
            · refine v_iload 8 dL_runs_290 rfl ?_
              refine v_iload 5 dL_runs_292 rfl ?_
              refine v_icmp_ne 301 dL_runs_294 (by decide) hf (fun _ hf => ?_) (fun _ hf => ?_)
              · refine v_iconst 0 dL_runs_301 (by decide) ?_
                exact v_xzret hr dL_runs_302 hE hf
              · refine v_iconst 1 dL_runs_297 (by decide) ?_
                refine v_goto 302 dL_runs_298 (by decide) ?_
                exact v_xzret hr dL_runs_302 hE hf
    · refine v_iload 7 dL_runs_177 rfl ?_
      refine v_aload_n 0 dL_runs_179 rfl rfl ?_
      refine v_iload 9 dL_runs_180 rfl ?_
      refine v_bipush 7 dL_runs_182 (by decide) ?_
      refine v_xcallVi hn 4 2 [.int l13, .int 7] (c_X4_version (xl X) hfx p1 l13 7) gL_runs_X4_version rfl dv_X4_version (by decide) (by decide) rfl rfl dL_runs_184 (Nat.le_of_ble_eq_true rfl) rfl hE hf (fun x13 G hf => ?_)
      refine v_if_le 194 dL_runs_187 (by decide) hf (fun _ hf => ?_) (fun _ hf => ?_)
      · refine v_iconst 0 dL_runs_194 (by decide) ?_
        refine v_sub [0, 1, 2, 3, 4, 5, 6, 8, 9] rfl ?_
        exact e_L_runs_195 (k168 := (fun y0 y1 y2 y3 y4 y5 y6 y7 y8 y9 => f_L_runs_168 n y0 y1 y2 y3 y4 y5 y6 y7 y8 y9)) hfx hn hr hE (fun y0 y1 y2 y3 y4 y5 y6 y7 y8 y9 G hf => ih y0 y1 y2 y3 y4 y5 y6 y7 y8 y9 G hf) p1 l3 l4 l5 l8 l9 l10 l12 l13 0 l11 G hf
      · refine v_iconst 1 dL_runs_190 (by decide) ?_
        refine v_goto 195 dL_runs_191 (by decide) ?_
        refine v_sub [0, 1, 2, 3, 4, 5, 6, 8, 9] rfl ?_
        exact e_L_runs_195 (k168 := (fun y0 y1 y2 y3 y4 y5 y6 y7 y8 y9 => f_L_runs_168 n y0 y1 y2 y3 y4 y5 y6 y7 y8 y9)) hfx hn hr hE (fun y0 y1 y2 y3 y4 y5 y6 y7 y8 y9 G hf => ih y0 y1 y2 y3 y4 y5 y6 y7 y8 y9 G hf) p1 l3 l4 l5 l8 l9 l10 l12 l13 1 l11 G hf
set_option maxRecDepth 100000 in
set_option maxHeartbeats 4000000 in
theorem e_L_runs_97 {X : VX} {B : VB} {z : (String ⊕ Int32)} {Gf : GH}  (hfx : (xl X).stackTraces = false) (hn : ∀ x ∈ (xc X).exceptionTable.toList, False) (hr : (xme X).sig.returnType = (some .boolean)) (hE : VE B (z, Gf))  (p1 : Nat) (l3 : Int32) (l4 : Int32) (l5 : Int32) (l6 : Int32) (G : GH) (hf : (f_L_runs_97 p1 l3 l4 l5 l6).1 G = some (z, Gf)) : V X RL cL_runs 14 8 166 wsL_runs B (XQ X (xmap vI z) Gf B) G 97 [(0, .ref p1), (3, .int l3), (4, .int l4), (5, .int l5), (6, .int l6)] [] := by
  unfold f_L_runs_97 at hf
  refine v_aload_n 0 dL_runs_97 rfl rfl ?_
  refine v_iconst 0 dL_runs_98 (by decide) ?_
  refine v_xcallVi hn 4 1 [.int 0] (c_X4_count (xl X) hfx p1 0) gL_runs_X4_count rfl dv_X4_count (by decide) (by decide) rfl rfl dL_runs_99 (Nat.le_of_ble_eq_true rfl) rfl hE hf (fun x6 G hf => ?_)
  refine v_iload_n 1 dL_runs_102 rfl rfl ?_
  refine v_icmp_eq 108 dL_runs_103 (by decide) hf (fun _ hf => ?_) (fun _ hf => ?_)
  · refine v_aload_n 0 dL_runs_108 rfl rfl ?_
    refine v_iload 3 dL_runs_109 rfl ?_
    refine v_iload 4 dL_runs_111 rfl ?_
    refine v_xcallVi hn 4 2 [.int l5, .int l6] (c_X4_stalls (xl X) hfx p1 l5 l6) gL_runs_X4_stalls rfl dv_X4_stalls (by decide) (by decide) rfl rfl dL_runs_113 (Nat.le_of_ble_eq_true rfl) rfl hE hf (fun x7 G hf => ?_)
    refine v_istore [(8, .int x7), (0, .ref p1), (3, .int l3), (4, .int l4), (5, .int l5), (6, .int l6)] dL_runs_116 (by decide) rfl ?_
    refine v_aload_n 1 dL_runs_118 rfl rfl ?_
    refine v_iload 4 dL_runs_119 rfl ?_
    refine v_iload 5 dL_runs_121 rfl ?_
    refine v_xcallVi hn 4 2 [.int l5, .int l6] (c_X4_worstWith (xl X) hfx p1 l5 l6) gL_runs_X4_worstWith rfl dv_X4_worstWith (by decide) (by decide) rfl rfl dL_runs_123 (Nat.le_of_ble_eq_true rfl) rfl hE hf (fun x8 G hf => ?_)
    refine v_istore [(9, .int x8), (8, .int x7), (0, .ref p1), (3, .int l3), (4, .int l4), (5, .int l5), (6, .int l6)] dL_runs_126 (by decide) rfl ?_
    refine v_aload_n 2 dL_runs_128 rfl rfl ?_
    refine v_iconst 0 dL_runs_129 (by decide) ?_
    refine v_iload 6 dL_runs_130 rfl ?_
    refine v_xcallVi hn 4 2 [.int 0, .int l6] (c_X4_set (xl X) hfx p1 0 l6) gL_runs_X4_set rfl dv_X4_set (by decide) (by decide) rfl rfl dL_runs_132 (Nat.le_of_ble_eq_true rfl) rfl hE hf (fun x9 G hf => ?_)
    refine v_iconst 1 dL_runs_135 (by decide) ?_
    refine v_icmp_lt 149 dL_runs_136 (by decide) hf (fun _ hf => ?_) (fun _ hf => ?_)
    · refine v_iconst 0 dL_runs_149 (by decide) ?_
      exact v_xzret hr dL_runs_150 hE hf
    · refine v_aload_n 2 dL_runs_139 rfl rfl ?_
      refine v_iconst 0 dL_runs_140 (by decide) ?_
      refine v_xcallVi hn 4 1 [.int 0] (c_X4_setting (xl X) hfx p1 0) gL_runs_X4_setting rfl dv_X4_setting (by decide) (by decide) rfl rfl dL_runs_141 (Nat.le_of_ble_eq_true rfl) rfl hE hf (fun x10 G hf => ?_)
      refine v_iload 6 dL_runs_144 rfl ?_
      refine v_icmp_eq 151 dL_runs_146 (by decide) hf (fun _ hf => ?_) (fun _ hf => ?_)
      · refine v_aload_n 2 dL_runs_151 rfl rfl ?_
        refine v_iload 5 dL_runs_152 rfl ?_
        refine v_xcallVi hn 4 1 [.int l5] (c_X4_run (xl X) hfx p1 l5) gL_runs_X4_run rfl dv_X4_run (by decide) (by decide) rfl rfl dL_runs_154 (Nat.le_of_ble_eq_true rfl) rfl hE hf (fun x11 G hf => ?_)
        refine v_istore [(10, .int x11), (9, .int x8), (8, .int x7), (0, .ref p1), (3, .int l3), (4, .int l4), (5, .int l5), (6, .int l6)] dL_runs_157 (by decide) rfl ?_
        refine v_iconst 0 dL_runs_159 (by decide) ?_
        refine v_istore [(11, .int 0), (10, .int x11), (9, .int x8), (8, .int x7), (0, .ref p1), (3, .int l3), (4, .int l4), (5, .int l5), (6, .int l6)] dL_runs_160 (by decide) rfl ?_
        refine v_iconst 0 dL_runs_162 (by decide) ?_
        refine v_istore [(12, .int 0), (11, .int 0), (10, .int x11), (9, .int x8), (8, .int x7), (0, .ref p1), (3, .int l3), (4, .int l4), (5, .int l5), (6, .int l6)] dL_runs_163 (by decide) rfl ?_
        refine v_iload_n 6 dL_runs_165 rfl rfl ?_
        refine v_istore [(13, .int l3), (12, .int 0), (11, .int 0), (10, .int x11), (9, .int x8), (8, .int x7), (0, .ref p1), (3, .int l3), (4, .int l4), (5, .int l5), (6, .int l6)] dL_runs_166 (by decide) rfl ?_
        refine v_sub [6, 7, 8, 9, 5, 4, 3, 2, 1, 0] rfl ?_
        generalize FU = fu at hf
        exact e_L_runs_168  hfx hn hr hE fu p1 l3 l4 l5 x7 x8 x11 0 0 l3 G hf
      · refine v_iconst 0 dL_runs_149 (by decide) ?_
        exact v_xzret hr dL_runs_150 hE hf
  · refine v_iconst 0 dL_runs_106 (by decide) ?_
    exact v_xzret hr dL_runs_107 hE hf
set_option maxRecDepth 100000 in
set_option maxHeartbeats 4000000 in
theorem e_L_runs_58 {X : VX} {B : VB} {z : (String ⊕ Int32)} {Gf : GH} {k44 : Nat → Int32 → Int32 → Int32 → Int32 → Int32 → Int32 → MX Int32} (hfx : (xl X).stackTraces = false) (hn : ∀ x ∈ (xc X).exceptionTable.toList, False) (hr : (xme X).sig.returnType = (some .boolean)) (hE : VE B (z, Gf)) (hk44 : ∀ (y0 : Nat) (y1 : Int32) (y2 : Int32) (y3 : Int32) (y4 : Int32) (y5 : Int32) (y6 : Int32) (G : GH), (k44 y0 y1 y2 y3 y4 y5 y6).1 G = some (z, Gf) → V X RL cL_runs 14 8 166 wsL_runs B (XQ X (xmap vI z) Gf B) G 44 [(0, .ref y0), (3, .int y1), (4, .int y2), (5, .int y3), (6, .int y4), (7, .int y5), (8, .int y6)] []) (p1 : Nat) (l3 : Int32) (l4 : Int32) (l5 : Int32) (l6 : Int32) (l7 : Int32) (l8 : Int32) (s0 : Int32) (s1 : Int32) (G : GH) (hf : (f_L_runs_58 k44 p1 l3 l4 l5 l6 l7 l8 s0 s1).1 G = some (z, Gf)) : V X RL cL_runs 14 8 166 wsL_runs B (XQ X (xmap vI z) Gf B) G 58 [(0, .ref p1), (3, .int l3), (4, .int l4), (5, .int l5), (6, .int l6), (7, .int l7), (8, .int l8)] [.int s0, .int s1] := by
  unfold f_L_runs_58 at hf
  refine v_icmp_ge 81 dL_runs_58 (by decide) hf (fun _ hf => ?_) (fun _ hf => ?_)
  · refine v_iload 5 dL_runs_81 rfl ?_
    refine v_if_le 97 dL_runs_83 (by decide) hf (fun _ hf => ?_) (fun _ hf => ?_)
    · refine v_sub [0, 1, 2, 3, 4] rfl ?_
      exact e_L_runs_97 hfx hn hr hE p1 l3 l4 l5 l6 G hf
    · refine v_aload_n 0 dL_runs_86 rfl rfl ?_
      refine v_iload 3 dL_runs_87 rfl ?_
      refine v_iload 5 dL_runs_89 rfl ?_
      refine v_xcallVi hn 4 2 [.int l5, .int l7] (c_X4_stalls (xl X) hfx p1 l5 l7) gL_runs_X4_stalls rfl dv_X4_stalls (by decide) (by decide) rfl rfl dL_runs_91 (Nat.le_of_ble_eq_true rfl) rfl hE hf (fun x17 G hf => ?_)
      refine v_if_ne 106 dL_runs_94 (by decide) hf (fun _ hf => ?_) (fun _ hf => ?_)
      · refine v_iconst 0 dL_runs_106 (by decide) ?_
        exact v_xzret hr dL_runs_107 hE hf
      · refine v_sub [0, 1, 2, 3, 4] rfl ?_
        exact e_L_runs_97 hfx hn hr hE p1 l3 l4 l5 l6 G hf
  · refine v_aload_n 0 dL_runs_61 rfl rfl ?_
    refine v_iload 3 dL_runs_62 rfl ?_
    refine v_iload 6 dL_runs_64 rfl ?_
    refine v_xcallVi hn 4 2 [.int l5, .int l8] (c_X4_stalls (xl X) hfx p1 l5 l8) gL_runs_X4_stalls rfl dv_X4_stalls (by decide) (by decide) rfl rfl dL_runs_66 (Nat.le_of_ble_eq_true rfl) rfl hE hf (fun x18 G hf => ?_)
    refine v_iconst 1 dL_runs_69 (by decide) ?_
    refine v_icmp_ge 75 dL_runs_70 (by decide) hf (fun _ hf => ?_) (fun _ hf => ?_)
    · refine v_iinc 6 (l8 + 1) [(8, .int (l8 + 1)), (0, .ref p1), (3, .int l3), (4, .int l4), (5, .int l5), (6, .int l6), (7, .int l7)] dL_runs_75 rfl (by rfl) (by decide) rfl ?_
      refine v_goto 44 dL_runs_78 (by decide) ?_
      refine v_sub [1, 2, 3, 4, 5, 6, 0] rfl ?_
      exact hk44 p1 l3 l4 l5 l6 l7 (l8 + 1) G hf
    · refine v_iconst 0 dL_runs_73 (by decide) ?_
      exact v_xzret hr dL_runs_74 hE hf
set_option maxRecDepth 100000 in
set_option maxHeartbeats 4000000 in
theorem e_L_runs_44 {X : VX} {B : VB} {z : (String ⊕ Int32)} {Gf : GH}  (hfx : (xl X).stackTraces = false) (hn : ∀ x ∈ (xc X).exceptionTable.toList, False) (hr : (xme X).sig.returnType = (some .boolean)) (hE : VE B (z, Gf))  : ∀ (n : Nat) (p1 : Nat) (l3 : Int32) (l4 : Int32) (l5 : Int32) (l6 : Int32) (l7 : Int32) (l8 : Int32) (G : GH), (f_L_runs_44 n p1 l3 l4 l5 l6 l7 l8).1 G = some (z, Gf) → V X RL cL_runs 14 8 166 wsL_runs B (XQ X (xmap vI z) Gf B) G 44 [(0, .ref p1), (3, .int l3), (4, .int l4), (5, .int l5), (6, .int l6), (7, .int l7), (8, .int l8)] [] := by
  intro n
  induction n with
  | zero =>
    intro p1 l3 l4 l5 l6 l7 l8 G hf
    have h0 : (none : Option ((String ⊕ Int32) × GH)) = some (z, Gf) := hf
    cases h0
  | succ n ih =>
    intro p1 l3 l4 l5 l6 l7 l8 G hf
    rw [f_L_runs_44.eq_2] at hf
    refine v_iload 6 dL_runs_44 rfl ?_
    refine v_iload 5 dL_runs_46 rfl ?_
    refine v_if_ge 56 dL_runs_48 (by decide) hf (fun _ hf => ?_) (fun _ hf => ?_)
    · refine v_iload 5 dL_runs_56 rfl ?_
      refine v_sub [0, 1, 2, 3, 4, 5, 6] rfl ?_
      exact e_L_runs_58 (k44 := (fun y0 y1 y2 y3 y4 y5 y6 => f_L_runs_44 n y0 y1 y2 y3 y4 y5 y6)) hfx hn hr hE (fun y0 y1 y2 y3 y4 y5 y6 G hf => ih y0 y1 y2 y3 y4 y5 y6 G hf) p1 l3 l4 l5 l6 l7 l8 l7 l8 G hf
    · refine v_bipush 10 dL_runs_51 (by decide) ?_
      refine v_goto 58 dL_runs_53 (by decide) ?_
      refine v_sub [0, 1, 2, 3, 4, 5, 6] rfl ?_
      exact e_L_runs_58 (k44 := (fun y0 y1 y2 y3 y4 y5 y6 => f_L_runs_44 n y0 y1 y2 y3 y4 y5 y6)) hfx hn hr hE (fun y0 y1 y2 y3 y4 y5 y6 G hf => ih y0 y1 y2 y3 y4 y5 y6 G hf) p1 l3 l4 l5 l6 l7 l8 10 l8 G hf
set_option maxRecDepth 100000 in
set_option maxHeartbeats 4000000 in
theorem e_L_runs_0 {X : VX} {B : VB} {z : (String ⊕ Int32)} {Gf : GH}  (hfx : (xl X).stackTraces = false) (hn : ∀ x ∈ (xc X).exceptionTable.toList, False) (hr : (xme X).sig.returnType = (some .boolean)) (hE : VE B (z, Gf))  (p1 : Nat) (p2 : Int32) (p3 : Int32) (G : GH) (hf : (f_L_runs p1 p2 p3).1 G = some (z, Gf)) : V X RL cL_runs 14 8 166 wsL_runs B (XQ X (xmap vI z) Gf B) G 0 [(0, .ref p1), (1, .int p2), (2, .int p3)] [] := by
  unfold f_L_runs at hf
  refine v_aload_n 0 dL_runs_0 rfl rfl ?_
  refine v_iconst 0 dL_runs_1 (by decide) ?_
  refine v_xcallVi hn 4 1 [.int 0] (c_X4_count (xl X) hfx p1 0) gL_runs_X4_count rfl dv_X4_count (by decide) (by decide) rfl rfl dL_runs_2 (Nat.le_of_ble_eq_true rfl) rfl hE hf (fun x1 G hf => ?_)
  refine v_istore_n [(3, .int x1), (0, .ref p1), (1, .int p2), (2, .int p3)] dL_runs_5 rfl (by decide) rfl ?_
  refine v_aload_n 1 dL_runs_6 rfl rfl ?_
  refine v_iload_n 2 dL_runs_7 rfl rfl ?_
  refine v_xcallSi hn 2 [.ref p1, .int p2] (c_L_types (xl X) hfx p1 p2) gL_runs_L_types rfl dn_L_types (by decide) (by decide) rfl dL_runs_8 (Nat.le_of_ble_eq_true rfl) rfl hE hf (fun x2 G hf => ?_)
  refine v_istore [(4, .int x2), (3, .int x1), (0, .ref p1), (1, .int p2), (2, .int p3)] dL_runs_11 (by decide) rfl ?_
  refine v_iload_n 4 dL_runs_13 rfl rfl ?_
  refine v_iload_n 1 dL_runs_14 rfl rfl ?_
  refine v_callSi 2 [.int p3, .int x1] (c_L_up (xl X) hfx p3 x1) gL_runs_L_up rfl dn_L_up (by decide) (by decide) rfl dL_runs_15 (Nat.le_of_ble_eq_true rfl) rfl hE hf (fun x3 G hf => ?_)
  refine v_istore [(5, .int x3), (4, .int x2), (3, .int x1), (0, .ref p1), (1, .int p2), (2, .int p3)] dL_runs_18 (by decide) rfl ?_
  refine v_iconst 1 dL_runs_20 (by decide) ?_
  refine v_iload_n 5 dL_runs_21 rfl rfl ?_
  refine v_bipush 8 dL_runs_22 (by decide) ?_
  refine v_ishr dL_runs_24 ?_
  refine v_bipush 9 dL_runs_25 (by decide) ?_
  refine v_callSi 2 [.int (p3 >>> (8 &&& 31)), .int 9] (c_L_up (xl X) hfx (p3 >>> (8 &&& 31)) 9) gL_runs_L_up rfl dn_L_up (by decide) (by decide) rfl dL_runs_27 (Nat.le_of_ble_eq_true rfl) rfl hE hf (fun x4 G hf => ?_)
  refine v_iadd dL_runs_30 ?_
  refine v_istore [(6, .int (1 + x4)), (5, .int x3), (4, .int x2), (3, .int x1), (0, .ref p1), (1, .int p2), (2, .int p3)] dL_runs_31 (by decide) rfl ?_
  refine v_aload_n 4 dL_runs_33 rfl rfl ?_
  refine v_iload 1 dL_runs_34 rfl ?_
  refine v_xcallVi hn 4 1 [.int x3] (c_X4_leastRate (xl X) hfx p1 x3) gL_runs_X4_leastRate rfl dv_X4_leastRate (by decide) (by decide) rfl rfl dL_runs_36 (Nat.le_of_ble_eq_true rfl) rfl hE hf (fun x5 G hf => ?_)
  refine v_istore [(7, .int x5), (6, .int (1 + x4)), (5, .int x3), (4, .int x2), (3, .int x1), (0, .ref p1), (1, .int p2), (2, .int p3)] dL_runs_39 (by decide) rfl ?_
  refine v_iconst 1 dL_runs_41 (by decide) ?_
  refine v_istore [(8, .int 1), (7, .int x5), (6, .int (1 + x4)), (5, .int x3), (4, .int x2), (3, .int x1), (0, .ref p1), (1, .int p2), (2, .int p3)] dL_runs_42 (by decide) rfl ?_
  refine v_sub [6, 5, 4, 3, 2, 1, 0] rfl ?_
  generalize FU = fu at hf
  exact e_L_runs_44  hfx hn hr hE fu p1 x1 x2 x3 (1 + x4) x5 1 G hf
theorem c_L_runs (l : Launch) (hfl : l.stackTraces = false) (p1 : Nat) (p2 : Int32) (p3 : Int32) : CX l yL_runs wsL_runs 8 166 [.ref p1, .int p2, .int p3] vI (f_L_runs p1 p2 p3) := CX.start hfl RL rfl (by decide +kernel) rfl (Nat.le_of_ble_eq_true rfl) (fun X G z Gf hl hn hr hf => e_L_runs_0 (by rw [hl]; exact hfl) hn hr ⟨rfl, rfl⟩ p1 p2 p3 G hf)
theorem dn_L_runs : yL_runs.cls ≠ "java/lang/invoke/MethodHandle" ∧ yL_runs.cls ≠ "java/lang/invoke/VarHandle" ∧ (parseMethodDescriptor yL_runs.desc).map (fun d => d.parameters.length) = some 3 := by decide +kernel
