/-! walk of the law's ways (printed by wip/p27/all.py) -/
set_option maxRecDepth 100000 in
set_option maxHeartbeats 4000000 in
theorem e_L_ways_238 {X : VX} {B : VB} {z : (String ⊕ Int32)} {Gf : GH}  (hfx : (xl X).stackTraces = false) (hn : ∀ x ∈ (xc X).exceptionTable.toList, False) (hr : (xme X).sig.returnType = (some .boolean)) (hE : VE B (z, Gf))  (p1 : Nat) (p2 : Int32) (p3 : Int32) (l6 : Int32) (l8 : Int32) (l9 : Int32) (s0 : UInt64) (s1 : UInt64) (G : GH) (hf : (f_L_ways_238 p1 p2 p3 l6 l8 l9 s0 s1).1 G = some (z, Gf)) : V X RL cL_ways 11 8 134 wsL_ways B (XQ X (xmap vI z) Gf B) G 238 [(0, .ref p1), (1, .int p2), (2, .int p3), (6, .int l6), (8, .int l8), (9, .int l9)] [.double s0, .double s1] := by
  unfold f_L_ways_238 at hf
  refine v_dcmp dL_ways_238 ?_
  refine v_if_ne 338 dL_ways_239 (by decide) hf (fun _ hf => ?_) (fun _ hf => ?_)
  · refine v_iconst 0 dL_ways_338 (by decide) ?_
    exact v_xzret hr dL_ways_339 hE hf
  · refine v_aload_n 0 dL_ways_242 rfl rfl ?_
    refine v_iload_n 1 dL_ways_243 rfl rfl ?_
    refine v_iload_n 2 dL_ways_244 rfl rfl ?_
    refine v_xcallVi hn 4 2 [.int p2, .int p3] (c_X4_common (xl X) hfx p1 p2 p3) gL_ways_X4_common rfl dv_X4_common (by decide) (by decide) rfl rfl dL_ways_245 (Nat.le_of_ble_eq_true rfl) rfl hE hf (fun x8 G hf => ?_)
    refine v_iload 3 dL_ways_248 rfl ?_
    refine v_icmp_ne 338 dL_ways_250 (by decide) hf (fun _ hf => ?_) (fun _ hf => ?_)
    · refine v_iconst 0 dL_ways_338 (by decide) ?_
      exact v_xzret hr dL_ways_339 hE hf
    · refine v_aload_n 0 dL_ways_253 rfl rfl ?_
      refine v_iload_n 2 dL_ways_254 rfl rfl ?_
      refine v_iload_n 1 dL_ways_255 rfl rfl ?_
      refine v_xcallVi hn 4 2 [.int p3, .int p2] (c_X4_common (xl X) hfx p1 p3 p2) gL_ways_X4_common rfl dv_X4_common (by decide) (by decide) rfl rfl dL_ways_256 (Nat.le_of_ble_eq_true rfl) rfl hE hf (fun x9 G hf => ?_)
      refine v_iload 3 dL_ways_259 rfl ?_
      refine v_icmp_ne 338 dL_ways_261 (by decide) hf (fun _ hf => ?_) (fun _ hf => ?_)
      · refine v_iconst 0 dL_ways_338 (by decide) ?_
        exact v_xzret hr dL_ways_339 hE hf
      · refine v_aload_n 0 dL_ways_264 rfl rfl ?_
        refine v_iload_n 1 dL_ways_265 rfl rfl ?_
        refine v_iload_n 1 dL_ways_266 rfl rfl ?_
        refine v_xcallVi hn 4 2 [.int p2, .int p2] (c_X4_common (xl X) hfx p1 p2 p2) gL_ways_X4_common rfl dv_X4_common (by decide) (by decide) rfl rfl dL_ways_267 (Nat.le_of_ble_eq_true rfl) rfl hE hf (fun x10 G hf => ?_)
        refine v_iload_n 1 dL_ways_270 rfl rfl ?_
        refine v_icmp_ne 338 dL_ways_271 (by decide) hf (fun _ hf => ?_) (fun _ hf => ?_)
        · refine v_iconst 0 dL_ways_338 (by decide) ?_
          exact v_xzret hr dL_ways_339 hE hf
        · refine v_aload_n 0 dL_ways_274 rfl rfl ?_
          refine v_iload_n 1 dL_ways_275 rfl rfl ?_
          refine v_iload_n 2 dL_ways_276 rfl rfl ?_
          refine v_xcallVi hn 4 2 [.int p2, .int p3] (c_X4_same (xl X) hfx p1 p2 p3) gL_ways_X4_same rfl dv_X4_same (by decide) (by decide) rfl rfl dL_ways_277 (Nat.le_of_ble_eq_true rfl) rfl hE hf (fun x11 G hf => ?_)
          refine v_iload 5 dL_ways_280 rfl ?_
          refine v_icmp_ne 338 dL_ways_282 (by decide) hf (fun _ hf => ?_) (fun _ hf => ?_)
          · refine v_iconst 0 dL_ways_338 (by decide) ?_
            exact v_xzret hr dL_ways_339 hE hf
          · refine v_aload_n 0 dL_ways_285 rfl rfl ?_
            refine v_iload_n 2 dL_ways_286 rfl rfl ?_
            refine v_iload_n 1 dL_ways_287 rfl rfl ?_
            refine v_xcallVi hn 4 2 [.int p3, .int p2] (c_X4_same (xl X) hfx p1 p3 p2) gL_ways_X4_same rfl dv_X4_same (by decide) (by decide) rfl rfl dL_ways_288 (Nat.le_of_ble_eq_true rfl) rfl hE hf (fun x12 G hf => ?_)
            refine v_iload 5 dL_ways_291 rfl ?_
            refine v_icmp_ne 338 dL_ways_293 (by decide) hf (fun _ hf => ?_) (fun _ hf => ?_)
            · refine v_iconst 0 dL_ways_338 (by decide) ?_
              exact v_xzret hr dL_ways_339 hE hf
            · refine v_iload 4 dL_ways_296 rfl ?_
              refine v_iload_n 1 dL_ways_298 rfl rfl ?_
              refine v_icmp_gt 338 dL_ways_299 (by decide) hf (fun _ hf => ?_) (fun _ hf => ?_)
              · refine v_iconst 0 dL_ways_338 (by decide) ?_
                exact v_xzret hr dL_ways_339 hE hf
              · refine v_aload_n 0 dL_ways_302 rfl rfl ?_
                refine v_iload_n 1 dL_ways_303 rfl rfl ?_
                refine v_iload 4 dL_ways_304 rfl ?_
                refine v_xcallVi hn 4 2 [.int p2, .int l8] (c_X4_same (xl X) hfx p1 p2 l8) gL_ways_X4_same rfl dv_X4_same (by decide) (by decide) rfl rfl dL_ways_306 (Nat.le_of_ble_eq_true rfl) rfl hE hf (fun x13 G hf => ?_)
                refine v_if_eq 338 dL_ways_309 (by decide) hf (fun _ hf => ?_) (fun _ hf => ?_)
                · refine v_iconst 0 dL_ways_338 (by decide) ?_
                  exact v_xzret hr dL_ways_339 hE hf
                · refine v_iload 5 dL_ways_312 rfl ?_
                  refine v_if_eq 323 dL_ways_314 (by decide) hf (fun _ hf => ?_) (fun _ hf => ?_)
                  · refine v_aload_n 0 dL_ways_323 rfl rfl ?_
                    refine v_iload 4 dL_ways_324 rfl ?_
                    refine v_xcallVi hn 4 1 [.int l8] (c_X4_firstLike (xl X) hfx p1 l8) gL_ways_X4_firstLike rfl dv_X4_firstLike (by decide) (by decide) rfl rfl dL_ways_326 (Nat.le_of_ble_eq_true rfl) rfl hE hf (fun x14 G hf => ?_)
                    refine v_iload 4 dL_ways_329 rfl ?_
                    refine v_icmp_ne 338 dL_ways_331 (by decide) hf (fun _ hf => ?_) (fun _ hf => ?_)
                    · refine v_iconst 0 dL_ways_338 (by decide) ?_
                      exact v_xzret hr dL_ways_339 hE hf
                    · refine v_iconst 1 dL_ways_334 (by decide) ?_
                      refine v_goto 339 dL_ways_335 (by decide) ?_
                      exact v_xzret hr dL_ways_339 hE hf
                  · refine v_iload 4 dL_ways_317 rfl ?_
                    refine v_iload_n 2 dL_ways_319 rfl rfl ?_
                    refine v_icmp_gt 338 dL_ways_320 (by decide) hf (fun _ hf => ?_) (fun _ hf => ?_)
                    · refine v_iconst 0 dL_ways_338 (by decide) ?_
                      exact v_xzret hr dL_ways_339 hE hf
                    · refine v_aload_n 0 dL_ways_323 rfl rfl ?_
                      refine v_iload 4 dL_ways_324 rfl ?_
                      refine v_xcallVi hn 4 1 [.int l8] (c_X4_firstLike (xl X) hfx p1 l8) gL_ways_X4_firstLike rfl dv_X4_firstLike (by decide) (by decide) rfl rfl dL_ways_326 (Nat.le_of_ble_eq_true rfl) rfl hE hf (fun x15 G hf => ?_)
                      refine v_iload 4 dL_ways_329 rfl ?_
                      refine v_icmp_ne 338 dL_ways_331 (by decide) hf (fun _ hf => ?_) (fun _ hf => ?_)
                      · refine v_iconst 0 dL_ways_338 (by decide) ?_
                        exact v_xzret hr dL_ways_339 hE hf
                      · refine v_iconst 1 dL_ways_334 (by decide) ?_
                        refine v_goto 339 dL_ways_335 (by decide) ?_
                        exact v_xzret hr dL_ways_339 hE hf
set_option maxRecDepth 100000 in
set_option maxHeartbeats 4000000 in
theorem e_L_ways_196 {X : VX} {B : VB} {z : (String ⊕ Int32)} {Gf : GH}  (hfx : (xl X).stackTraces = false) (hn : ∀ x ∈ (xc X).exceptionTable.toList, False) (hr : (xme X).sig.returnType = (some .boolean)) (hE : VE B (z, Gf))  (p1 : Nat) (p2 : Int32) (p3 : Int32) (l3 : Int32) (l4 : Int32) (l5 : Int32) (l6 : Int32) (l8 : Int32) (l9 : Int32) (G : GH) (hf : (f_L_ways_196 p1 p2 p3 l3 l4 l5 l6 l8 l9).1 G = some (z, Gf)) : V X RL cL_ways 11 8 134 wsL_ways B (XQ X (xmap vI z) Gf B) G 196 [(0, .ref p1), (1, .int p2), (2, .int p3), (3, .int l3), (4, .int l4), (5, .int l5), (6, .int l6), (8, .int l8), (9, .int l9)] [] := by
  unfold f_L_ways_196 at hf
  refine v_aload_n 0 dL_ways_196 rfl rfl ?_
  refine v_iload_n 1 dL_ways_197 rfl rfl ?_
  refine v_bipush 9 dL_ways_198 (by decide) ?_
  refine v_xcallVi hn 4 2 [.int p2, .int 9] (c_X4_version (xl X) hfx p1 p2 9) gL_ways_X4_version rfl dv_X4_version (by decide) (by decide) rfl rfl dL_ways_200 (Nat.le_of_ble_eq_true rfl) rfl hE hf (fun x4 G hf => ?_)
  refine v_iload 5 dL_ways_203 rfl ?_
  refine v_icmp_ne 338 dL_ways_205 (by decide) hf (fun _ hf => ?_) (fun _ hf => ?_)
  · refine v_iconst 0 dL_ways_338 (by decide) ?_
    exact v_xzret hr dL_ways_339 hE hf
  · refine v_aload_n 0 dL_ways_208 rfl rfl ?_
    refine v_iload_n 1 dL_ways_209 rfl rfl ?_
    refine v_xcallVi hn 4 1 [.int p2] (c_X4_worst (xl X) hfx p1 p2) gL_ways_X4_worst rfl dv_X4_worst (by decide) (by decide) rfl rfl dL_ways_210 (Nat.le_of_ble_eq_true rfl) rfl hE hf (fun x5 G hf => ?_)
    refine v_iload 4 dL_ways_213 rfl ?_
    refine v_icmp_ne 338 dL_ways_215 (by decide) hf (fun _ hf => ?_) (fun _ hf => ?_)
    · refine v_iconst 0 dL_ways_338 (by decide) ?_
      exact v_xzret hr dL_ways_339 hE hf
    · refine v_aload_n 0 dL_ways_218 rfl rfl ?_
      refine v_iload_n 1 dL_ways_219 rfl rfl ?_
      refine v_xcallVd hn 4 1 [.int p2] (c_X4_mean (xl X) hfx p1 p2) gL_ways_X4_mean rfl dv_X4_mean (by decide) (by decide) rfl rfl dL_ways_220 (Nat.le_of_ble_eq_true rfl) rfl hE hf (fun r6 G hf => ?_)
      refine v_iload 5 dL_ways_223 rfl ?_
      refine v_if_ne 232 dL_ways_225 (by decide) hf (fun _ hf => ?_) (fun _ hf => ?_)
      · refine v_iload_n 3 dL_ways_232 rfl rfl ?_
        refine v_i2d dL_ways_233 ?_
        refine v_iload 5 dL_ways_234 rfl ?_
        refine v_i2d dL_ways_236 ?_
        refine v_ddiv dL_ways_237 hf (fun d7 hf => ?_)
        refine v_sub [0, 1, 2, 6, 7, 8] rfl ?_
        exact e_L_ways_238 hfx hn hr hE p1 p2 p3 l6 l8 l9 d7 r6 G hf
      · refine v_dconst0 dL_ways_228 ?_
        refine v_goto 238 dL_ways_229 (by decide) ?_
        refine v_sub [0, 1, 2, 6, 7, 8] rfl ?_
        exact e_L_ways_238 hfx hn hr hE p1 p2 p3 l6 l8 l9 (0 : UInt64) r6 G hf
set_option maxRecDepth 100000 in
set_option maxHeartbeats 4000000 in
theorem e_L_ways_150 {X : VX} {B : VB} {z : (String ⊕ Int32)} {Gf : GH}  (hfx : (xl X).stackTraces = false) (hn : ∀ x ∈ (xc X).exceptionTable.toList, False) (hr : (xme X).sig.returnType = (some .boolean)) (hE : VE B (z, Gf))  : ∀ (n : Nat) (p1 : Nat) (p2 : Int32) (p3 : Int32) (l3 : Int32) (l4 : Int32) (l5 : Int32) (l6 : Int32) (l8 : Int32) (l9 : Int32) (l10 : Int32) (G : GH), (f_L_ways_150 n p1 p2 p3 l3 l4 l5 l6 l8 l9 l10).1 G = some (z, Gf) → V X RL cL_ways 11 8 134 wsL_ways B (XQ X (xmap vI z) Gf B) G 150 [(0, .ref p1), (1, .int p2), (2, .int p3), (3, .int l3), (4, .int l4), (5, .int l5), (6, .int l6), (8, .int l8), (9, .int l9), (10, .int l10)] [] := by
  intro n
  induction n with
  | zero =>
    intro p1 p2 p3 l3 l4 l5 l6 l8 l9 l10 G hf
    have h0 : (none : Option ((String ⊕ Int32) × GH)) = some (z, Gf) := hf
    cases h0
  | succ n ih =>
    intro p1 p2 p3 l3 l4 l5 l6 l8 l9 l10 G hf
    rw [f_L_ways_150.eq_2] at hf
    refine v_iload 8 dL_ways_150 rfl ?_
    refine v_if_eq 196 dL_ways_152 (by decide) hf (fun _ hf => ?_) (fun _ hf => ?_)
    · refine v_sub [0, 1, 2, 3, 4, 5, 6, 7, 8] rfl ?_
      exact e_L_ways_196 hfx hn hr hE p1 p2 p3 l3 l4 l5 l6 l8 l9 G hf
    · refine v_iload 9 dL_ways_155 rfl ?_
      refine v_aload_n 0 dL_ways_157 rfl rfl ?_
      refine v_iload_n 1 dL_ways_158 rfl rfl ?_
      refine v_iconst 1 dL_ways_159 (by decide) ?_
      refine v_xcallVi hn 4 2 [.int p2, .int 1] (c_X4_version (xl X) hfx p1 p2 1) gL_ways_X4_version rfl dv_X4_version (by decide) (by decide) rfl rfl dL_ways_160 (Nat.le_of_ble_eq_true rfl) rfl hE hf (fun x16 G hf => ?_)
      refine v_icmp_ge 196 dL_ways_163 (by decide) hf (fun _ hf => ?_) (fun _ hf => ?_)
      · refine v_sub [0, 1, 2, 3, 4, 5, 6, 7, 8] rfl ?_
        exact e_L_ways_196 hfx hn hr hE p1 p2 p3 l3 l4 l5 l6 l8 l9 G hf
      · refine v_aload_n 0 dL_ways_166 rfl rfl ?_
        refine v_iload_n 1 dL_ways_167 rfl rfl ?_
        refine v_iload 9 dL_ways_168 rfl ?_
        refine v_xcallVi hn 4 2 [.int p2, .int l10] (c_X4_at (xl X) hfx p1 p2 l10) gL_ways_X4_at rfl dv_X4_at (by decide) (by decide) rfl rfl dL_ways_170 (Nat.le_of_ble_eq_true rfl) rfl hE hf (fun x17 G hf => ?_)
        refine v_aload_n 0 dL_ways_173 rfl rfl ?_
        refine v_iload_n 2 dL_ways_174 rfl rfl ?_
        refine v_iload 9 dL_ways_175 rfl ?_
        refine v_xcallVi hn 4 2 [.int p3, .int l10] (c_X4_at (xl X) hfx p1 p3 l10) gL_ways_X4_at rfl dv_X4_at (by decide) (by decide) rfl rfl dL_ways_177 (Nat.le_of_ble_eq_true rfl) rfl hE hf (fun x18 G hf => ?_)
        refine v_icmp_ne 187 dL_ways_180 (by decide) hf (fun _ hf => ?_) (fun _ hf => ?_)
        · refine v_iconst 0 dL_ways_187 (by decide) ?_
          refine v_istore [(9, .int 0), (0, .ref p1), (1, .int p2), (2, .int p3), (3, .int l3), (4, .int l4), (5, .int l5), (6, .int l6), (8, .int l8), (10, .int l10)] dL_ways_188 (by decide) rfl ?_
          refine v_iinc 9 (l10 + 1) [(10, .int (l10 + 1)), (9, .int 0), (0, .ref p1), (1, .int p2), (2, .int p3), (3, .int l3), (4, .int l4), (5, .int l5), (6, .int l6), (8, .int l8)] dL_ways_190 rfl (by rfl) (by decide) rfl ?_
          refine v_goto 150 dL_ways_193 (by decide) ?_
          refine v_sub [2, 3, 4, 5, 6, 7, 8, 9, 1, 0] rfl ?_
          exact ih p1 p2 p3 l3 l4 l5 l6 l8 0 (l10 + 1) G hf
        · refine v_iconst 1 dL_ways_183 (by decide) ?_
          refine v_goto 188 dL_ways_184 (by decide) ?_
          refine v_istore [(9, .int 1), (0, .ref p1), (1, .int p2), (2, .int p3), (3, .int l3), (4, .int l4), (5, .int l5), (6, .int l6), (8, .int l8), (10, .int l10)] dL_ways_188 (by decide) rfl ?_
          refine v_iinc 9 (l10 + 1) [(10, .int (l10 + 1)), (9, .int 1), (0, .ref p1), (1, .int p2), (2, .int p3), (3, .int l3), (4, .int l4), (5, .int l5), (6, .int l6), (8, .int l8)] dL_ways_190 rfl (by rfl) (by decide) rfl ?_
          refine v_goto 150 dL_ways_193 (by decide) ?_
          refine v_sub [2, 3, 4, 5, 6, 7, 8, 9, 1, 0] rfl ?_
          exact ih p1 p2 p3 l3 l4 l5 l6 l8 1 (l10 + 1) G hf
set_option maxRecDepth 100000 in
set_option maxHeartbeats 4000000 in
theorem e_L_ways_145 {X : VX} {B : VB} {z : (String ⊕ Int32)} {Gf : GH}  (hfx : (xl X).stackTraces = false) (hn : ∀ x ∈ (xc X).exceptionTable.toList, False) (hr : (xme X).sig.returnType = (some .boolean)) (hE : VE B (z, Gf))  (p1 : Nat) (p2 : Int32) (p3 : Int32) (l3 : Int32) (l4 : Int32) (l5 : Int32) (l6 : Int32) (l8 : Int32) (s0 : Int32) (G : GH) (hf : (f_L_ways_145 p1 p2 p3 l3 l4 l5 l6 l8 s0).1 G = some (z, Gf)) : V X RL cL_ways 11 8 134 wsL_ways B (XQ X (xmap vI z) Gf B) G 145 [(0, .ref p1), (1, .int p2), (2, .int p3), (3, .int l3), (4, .int l4), (5, .int l5), (6, .int l6), (8, .int l8)] [.int s0] := by
  unfold f_L_ways_145 at hf
  refine v_istore [(9, .int s0), (0, .ref p1), (1, .int p2), (2, .int p3), (3, .int l3), (4, .int l4), (5, .int l5), (6, .int l6), (8, .int l8)] dL_ways_145 (by decide) rfl ?_
  refine v_iconst 0 dL_ways_147 (by decide) ?_
  refine v_istore [(10, .int 0), (9, .int s0), (0, .ref p1), (1, .int p2), (2, .int p3), (3, .int l3), (4, .int l4), (5, .int l5), (6, .int l6), (8, .int l8)] dL_ways_148 (by decide) rfl ?_
  refine v_sub [2, 3, 4, 5, 6, 7, 8, 9, 1, 0] rfl ?_
  generalize FU = fu at hf
  exact e_L_ways_150  hfx hn hr hE fu p1 p2 p3 l3 l4 l5 l6 l8 s0 0 G hf
set_option maxRecDepth 100000 in
set_option maxHeartbeats 4000000 in
theorem e_L_ways_68 {X : VX} {B : VB} {z : (String ⊕ Int32)} {Gf : GH}  (hfx : (xl X).stackTraces = false) (hn : ∀ x ∈ (xc X).exceptionTable.toList, False) (hr : (xme X).sig.returnType = (some .boolean)) (hE : VE B (z, Gf))  : ∀ (n : Nat) (p1 : Nat) (p2 : Int32) (p3 : Int32) (l3 : Int32) (l4 : Int32) (l5 : Int32) (l6 : Int32) (l7 : Int32) (G : GH), (f_L_ways_68 n p1 p2 p3 l3 l4 l5 l6 l7).1 G = some (z, Gf) → V X RL cL_ways 11 8 134 wsL_ways B (XQ X (xmap vI z) Gf B) G 68 [(0, .ref p1), (1, .int p2), (2, .int p3), (3, .int l3), (4, .int l4), (5, .int l5), (6, .int l6), (7, .int l7)] [] := by
  intro n
  induction n with
  | zero =>
    intro p1 p2 p3 l3 l4 l5 l6 l7 G hf
    have h0 : (none : Option ((String ⊕ Int32) × GH)) = some (z, Gf) := hf
    cases h0
  | succ n ih =>
    intro p1 p2 p3 l3 l4 l5 l6 l7 G hf
    rw [f_L_ways_68.eq_2] at hf
    refine v_iload 6 dL_ways_68 rfl ?_
    refine v_iload 7 dL_ways_70 rfl ?_
    refine v_icmp_eq 118 dL_ways_72 (by decide) hf (fun _ hf => ?_) (fun _ hf => ?_)
    · refine v_aload_n 0 dL_ways_118 rfl rfl ?_
      refine v_iload_n 1 dL_ways_119 rfl rfl ?_
      refine v_xcallVi hn 4 1 [.int p2] (c_X4_firstLike (xl X) hfx p1 p2) gL_ways_X4_firstLike rfl dv_X4_firstLike (by decide) (by decide) rfl rfl dL_ways_120 (Nat.le_of_ble_eq_true rfl) rfl hE hf (fun x1 G hf => ?_)
      refine v_istore [(8, .int x1), (0, .ref p1), (1, .int p2), (2, .int p3), (3, .int l3), (4, .int l4), (5, .int l5), (6, .int l6), (7, .int l7)] dL_ways_123 (by decide) rfl ?_
      refine v_aload_n 1 dL_ways_125 rfl rfl ?_
      refine v_iload_n 2 dL_ways_126 rfl rfl ?_
      refine v_iconst 1 dL_ways_127 (by decide) ?_
      refine v_xcallVi hn 4 2 [.int p2, .int 1] (c_X4_version (xl X) hfx p1 p2 1) gL_ways_X4_version rfl dv_X4_version (by decide) (by decide) rfl rfl dL_ways_128 (Nat.le_of_ble_eq_true rfl) rfl hE hf (fun x2 G hf => ?_)
      refine v_aload_n 1 dL_ways_131 rfl rfl ?_
      refine v_iload_n 3 dL_ways_132 rfl rfl ?_
      refine v_iconst 1 dL_ways_133 (by decide) ?_
      refine v_xcallVi hn 4 2 [.int p3, .int 1] (c_X4_version (xl X) hfx p1 p3 1) gL_ways_X4_version rfl dv_X4_version (by decide) (by decide) rfl rfl dL_ways_134 (Nat.le_of_ble_eq_true rfl) rfl hE hf (fun x3 G hf => ?_)
      refine v_icmp_ne 144 dL_ways_137 (by decide) hf (fun _ hf => ?_) (fun _ hf => ?_)
      · refine v_iconst 0 dL_ways_144 (by decide) ?_
        refine v_sub [1, 2, 3, 4, 5, 6, 7, 0] rfl ?_
        exact e_L_ways_145 hfx hn hr hE p1 p2 p3 l3 l4 l5 l6 x1 0 G hf
      · refine v_iconst 1 dL_ways_140 (by decide) ?_
        refine v_goto 145 dL_ways_141 (by decide) ?_
        refine v_sub [1, 2, 3, 4, 5, 6, 7, 0] rfl ?_
        exact e_L_ways_145 hfx hn hr hE p1 p2 p3 l3 l4 l5 l6 x1 1 G hf
    · refine v_aload_n 0 dL_ways_75 rfl rfl ?_
      refine v_iload 6 dL_ways_76 rfl ?_
      refine v_bipush 9 dL_ways_78 (by decide) ?_
      refine v_xcallVi hn 4 2 [.int l6, .int 9] (c_X4_version (xl X) hfx p1 l6 9) gL_ways_X4_version rfl dv_X4_version (by decide) (by decide) rfl rfl dL_ways_80 (Nat.le_of_ble_eq_true rfl) rfl hE hf (fun x19 G hf => ?_)
      refine v_aload_n 0 dL_ways_83 rfl rfl ?_
      refine v_iload 7 dL_ways_84 rfl ?_
      refine v_bipush 9 dL_ways_86 (by decide) ?_
      refine v_xcallVi hn 4 2 [.int l7, .int 9] (c_X4_version (xl X) hfx p1 l7 9) gL_ways_X4_version rfl dv_X4_version (by decide) (by decide) rfl rfl dL_ways_88 (Nat.le_of_ble_eq_true rfl) rfl hE hf (fun x20 G hf => ?_)
      refine v_icmp_lt 106 dL_ways_91 (by decide) hf (fun _ hf => ?_) (fun _ hf => ?_)
      · refine v_aload_n 0 dL_ways_106 rfl rfl ?_
        refine v_iload 7 dL_ways_107 rfl ?_
        refine v_iconst 0 dL_ways_109 (by decide) ?_
        refine v_xcallVi hn 4 2 [.int l7, .int 0] (c_X4_version (xl X) hfx p1 l7 0) gL_ways_X4_version rfl dv_X4_version (by decide) (by decide) rfl rfl dL_ways_110 (Nat.le_of_ble_eq_true rfl) rfl hE hf (fun x21 G hf => ?_)
        refine v_istore [(7, .int x21), (0, .ref p1), (1, .int p2), (2, .int p3), (3, .int l3), (4, .int l4), (5, .int l5), (6, .int l6)] dL_ways_113 (by decide) rfl ?_
        refine v_goto 68 dL_ways_115 (by decide) ?_
        refine v_sub [1, 2, 3, 4, 5, 6, 7, 0] rfl ?_
        exact ih p1 p2 p3 l3 l4 l5 l6 x21 G hf
      · refine v_aload_n 0 dL_ways_94 rfl rfl ?_
        refine v_iload 6 dL_ways_95 rfl ?_
        refine v_iconst 0 dL_ways_97 (by decide) ?_
        refine v_xcallVi hn 4 2 [.int l6, .int 0] (c_X4_version (xl X) hfx p1 l6 0) gL_ways_X4_version rfl dv_X4_version (by decide) (by decide) rfl rfl dL_ways_98 (Nat.le_of_ble_eq_true rfl) rfl hE hf (fun x22 G hf => ?_)
        refine v_istore [(6, .int x22), (0, .ref p1), (1, .int p2), (2, .int p3), (3, .int l3), (4, .int l4), (5, .int l5), (7, .int l7)] dL_ways_101 (by decide) rfl ?_
        refine v_goto 68 dL_ways_103 (by decide) ?_
        refine v_sub [1, 2, 3, 4, 5, 6, 0, 7] rfl ?_
        exact ih p1 p2 p3 l3 l4 l5 x22 l7 G hf
set_option maxRecDepth 100000 in
set_option maxHeartbeats 4000000 in
theorem e_L_ways_11 {X : VX} {B : VB} {z : (String ⊕ Int32)} {Gf : GH}  (hfx : (xl X).stackTraces = false) (hn : ∀ x ∈ (xc X).exceptionTable.toList, False) (hr : (xme X).sig.returnType = (some .boolean)) (hE : VE B (z, Gf))  : ∀ (n : Nat) (p1 : Nat) (p2 : Int32) (p3 : Int32) (l3 : Int32) (l4 : Int32) (l5 : Int32) (l6 : Int32) (G : GH), (f_L_ways_11 n p1 p2 p3 l3 l4 l5 l6).1 G = some (z, Gf) → V X RL cL_ways 11 8 134 wsL_ways B (XQ X (xmap vI z) Gf B) G 11 [(0, .ref p1), (1, .int p2), (2, .int p3), (3, .int l3), (4, .int l4), (5, .int l5), (6, .int l6)] [] := by
  intro n
  induction n with
  | zero =>
    intro p1 p2 p3 l3 l4 l5 l6 G hf
    have h0 : (none : Option ((String ⊕ Int32) × GH)) = some (z, Gf) := hf
    cases h0
  | succ n ih =>
    intro p1 p2 p3 l3 l4 l5 l6 G hf
    rw [f_L_ways_11.eq_2] at hf
    refine v_iload 6 dL_ways_11 rfl ?_
    refine v_if_le 62 dL_ways_13 (by decide) hf (fun _ hf => ?_) (fun _ hf => ?_)
    · refine v_iload_n 1 dL_ways_62 rfl rfl ?_
      refine v_istore [(6, .int p2), (0, .ref p1), (1, .int p2), (2, .int p3), (3, .int l3), (4, .int l4), (5, .int l5)] dL_ways_63 (by decide) rfl ?_
      refine v_iload_n 3 dL_ways_65 rfl rfl ?_
      refine v_istore [(7, .int p3), (6, .int p2), (0, .ref p1), (1, .int p2), (2, .int p3), (3, .int l3), (4, .int l4), (5, .int l5)] dL_ways_66 (by decide) rfl ?_
      refine v_sub [2, 3, 4, 5, 6, 7, 1, 0] rfl ?_
      generalize FU = fu at hf
      exact e_L_ways_68  hfx hn hr hE fu p1 p2 p3 l3 l4 l5 p2 p3 G hf
    · refine v_aload_n 0 dL_ways_16 rfl rfl ?_
      refine v_iload 6 dL_ways_17 rfl ?_
      refine v_bipush 6 dL_ways_19 (by decide) ?_
      refine v_xcallVi hn 4 2 [.int l6, .int 6] (c_X4_version (xl X) hfx p1 l6 6) gL_ways_X4_version rfl dv_X4_version (by decide) (by decide) rfl rfl dL_ways_21 (Nat.le_of_ble_eq_true rfl) rfl hE hf (fun x23 G hf => ?_)
      refine v_istore [(7, .int x23), (0, .ref p1), (1, .int p2), (2, .int p3), (3, .int l3), (4, .int l4), (5, .int l5), (6, .int l6)] dL_ways_24 (by decide) rfl ?_
      refine v_iload_n 4 dL_ways_26 rfl rfl ?_
      refine v_iload 0 dL_ways_27 rfl ?_
      refine v_iadd dL_ways_29 ?_
      refine v_istore_n [(3, .int (l3 + x23)), (7, .int x23), (0, .ref p1), (1, .int p2), (2, .int p3), (4, .int l4), (5, .int l5), (6, .int l6)] dL_ways_30 rfl (by decide) rfl ?_
      refine v_iload 1 dL_ways_31 rfl ?_
      refine v_iload 5 dL_ways_33 rfl ?_
      refine v_icmp_le 43 dL_ways_35 (by decide) hf (fun _ hf => ?_) (fun _ hf => ?_)
      · refine v_iload 5 dL_ways_43 rfl ?_
        refine v_istore [(4, .int l4), (3, .int (l3 + x23)), (7, .int x23), (0, .ref p1), (1, .int p2), (2, .int p3), (5, .int l5), (6, .int l6)] dL_ways_45 (by decide) rfl ?_
        refine v_iinc 6 (l5 + 1) [(5, .int (l5 + 1)), (4, .int l4), (3, .int (l3 + x23)), (7, .int x23), (0, .ref p1), (1, .int p2), (2, .int p3), (6, .int l6)] dL_ways_47 rfl (by rfl) (by decide) rfl ?_
        refine v_aload_n 4 dL_ways_50 rfl rfl ?_
        refine v_iload 7 dL_ways_51 rfl ?_
        refine v_iconst 0 dL_ways_53 (by decide) ?_
        refine v_xcallVi hn 4 2 [.int l6, .int 0] (c_X4_version (xl X) hfx p1 l6 0) gL_ways_X4_version rfl dv_X4_version (by decide) (by decide) rfl rfl dL_ways_54 (Nat.le_of_ble_eq_true rfl) rfl hE hf (fun x24 G hf => ?_)
        refine v_istore [(6, .int x24), (5, .int (l5 + 1)), (4, .int l4), (3, .int (l3 + x23)), (7, .int x23), (0, .ref p1), (1, .int p2), (2, .int p3)] dL_ways_57 (by decide) rfl ?_
        refine v_goto 11 dL_ways_59 (by decide) ?_
        refine v_sub [5, 6, 7, 3, 2, 1, 0] rfl ?_
        exact ih p1 p2 p3 (l3 + x23) l4 (l5 + 1) x24 G hf
      · refine v_iload 1 dL_ways_38 rfl ?_
        refine v_goto 45 dL_ways_40 (by decide) ?_
        refine v_istore [(4, .int x23), (3, .int (l3 + x23)), (7, .int x23), (0, .ref p1), (1, .int p2), (2, .int p3), (5, .int l5), (6, .int l6)] dL_ways_45 (by decide) rfl ?_
        refine v_iinc 6 (l5 + 1) [(5, .int (l5 + 1)), (4, .int x23), (3, .int (l3 + x23)), (7, .int x23), (0, .ref p1), (1, .int p2), (2, .int p3), (6, .int l6)] dL_ways_47 rfl (by rfl) (by decide) rfl ?_
        refine v_aload_n 4 dL_ways_50 rfl rfl ?_
        refine v_iload 7 dL_ways_51 rfl ?_
        refine v_iconst 0 dL_ways_53 (by decide) ?_
        refine v_xcallVi hn 4 2 [.int l6, .int 0] (c_X4_version (xl X) hfx p1 l6 0) gL_ways_X4_version rfl dv_X4_version (by decide) (by decide) rfl rfl dL_ways_54 (Nat.le_of_ble_eq_true rfl) rfl hE hf (fun x25 G hf => ?_)
        refine v_istore [(6, .int x25), (5, .int (l5 + 1)), (4, .int x23), (3, .int (l3 + x23)), (7, .int x23), (0, .ref p1), (1, .int p2), (2, .int p3)] dL_ways_57 (by decide) rfl ?_
        refine v_goto 11 dL_ways_59 (by decide) ?_
        refine v_sub [5, 6, 7, 3, 2, 1, 0] rfl ?_
        exact ih p1 p2 p3 (l3 + x23) x23 (l5 + 1) x25 G hf
set_option maxRecDepth 100000 in
set_option maxHeartbeats 4000000 in
theorem e_L_ways_0 {X : VX} {B : VB} {z : (String ⊕ Int32)} {Gf : GH}  (hfx : (xl X).stackTraces = false) (hn : ∀ x ∈ (xc X).exceptionTable.toList, False) (hr : (xme X).sig.returnType = (some .boolean)) (hE : VE B (z, Gf))  (p1 : Nat) (p2 : Int32) (p3 : Int32) (G : GH) (hf : (f_L_ways p1 p2 p3).1 G = some (z, Gf)) : V X RL cL_ways 11 8 134 wsL_ways B (XQ X (xmap vI z) Gf B) G 0 [(0, .ref p1), (1, .int p2), (2, .int p3)] [] := by
  unfold f_L_ways at hf
  refine v_iconst 0 dL_ways_0 (by decide) ?_
  refine v_istore_n [(3, .int 0), (0, .ref p1), (1, .int p2), (2, .int p3)] dL_ways_1 rfl (by decide) rfl ?_
  refine v_iconst 0 dL_ways_2 (by decide) ?_
  refine v_istore [(4, .int 0), (3, .int 0), (0, .ref p1), (1, .int p2), (2, .int p3)] dL_ways_3 (by decide) rfl ?_
  refine v_iconst 0 dL_ways_5 (by decide) ?_
  refine v_istore [(5, .int 0), (4, .int 0), (3, .int 0), (0, .ref p1), (1, .int p2), (2, .int p3)] dL_ways_6 (by decide) rfl ?_
  refine v_iload_n 4 dL_ways_8 rfl rfl ?_
  refine v_istore [(6, .int p2), (5, .int 0), (4, .int 0), (3, .int 0), (0, .ref p1), (1, .int p2), (2, .int p3)] dL_ways_9 (by decide) rfl ?_
  refine v_sub [4, 5, 6, 3, 2, 1, 0] rfl ?_
  generalize FU = fu at hf
  exact e_L_ways_11  hfx hn hr hE fu p1 p2 p3 0 0 0 p2 G hf
theorem c_L_ways (l : Launch) (hfl : l.stackTraces = false) (p1 : Nat) (p2 : Int32) (p3 : Int32) : CX l yL_ways wsL_ways 8 134 [.ref p1, .int p2, .int p3] vI (f_L_ways p1 p2 p3) := CX.start hfl RL rfl (by decide +kernel) rfl (Nat.le_of_ble_eq_true rfl) (fun X G z Gf hl hn hr hf => e_L_ways_0 (by rw [hl]; exact hfl) hn hr ⟨rfl, rfl⟩ p1 p2 p3 G hf)
theorem dn_L_ways : yL_ways.cls ≠ "java/lang/invoke/MethodHandle" ∧ yL_ways.cls ≠ "java/lang/invoke/VarHandle" ∧ (parseMethodDescriptor yL_ways.desc).map (fun d => d.parameters.length) = some 3 := by decide +kernel
