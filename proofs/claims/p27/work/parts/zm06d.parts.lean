/-! walk of the law's parts (printed by wip/p27/all.py) -/
set_option maxRecDepth 100000 in
set_option maxHeartbeats 4000000 in
theorem e_L_parts_310 {X : VX} {B : VB} {z : (String ⊕ Int32)} {Gf : GH}  (hfx : (xl X).stackTraces = false) (hn : ∀ x ∈ (xc X).exceptionTable.toList, False) (hr : (xme X).sig.returnType = (some .boolean)) (hE : VE B (z, Gf))  : ∀ (n : Nat) (p1 : Nat) (p2 : Int32) (l2 : Int32) (l3 : Int32) (l7 : Int32) (l8 : Int32) (l11 : Int32) (l12 : Int32) (G : GH), (f_L_parts_310 n p1 p2 l2 l3 l7 l8 l11 l12).1 G = some (z, Gf) → V X RL cL_parts 16 8 135 wsL_parts B (XQ X (xmap vI z) Gf B) G 310 [(0, .ref p1), (1, .int p2), (2, .int l2), (3, .int l3), (7, .int l7), (8, .int l8), (11, .int l11), (12, .int l12)] [] := by
  intro n
  induction n with
  | zero =>
    intro p1 p2 l2 l3 l7 l8 l11 l12 G hf
    have h0 : (none : Option ((String ⊕ Int32) × GH)) = some (z, Gf) := hf
    cases h0
  | succ n ih =>
    intro p1 p2 l2 l3 l7 l8 l11 l12 G hf
    rw [f_L_parts_310.eq_2] at hf
    refine v_iload 7 dL_parts_310 rfl ?_
    refine v_iload_n 2 dL_parts_312 rfl rfl ?_
    refine v_icmp_ge 351 dL_parts_313 (by decide) hf (fun _ hf => ?_) (fun _ hf => ?_)
    · refine v_iload_n 1 dL_parts_351 rfl rfl ?_
      refine v_if_gt 395 dL_parts_352 (by decide) hf (fun _ hf => ?_) (fun _ hf => ?_)
      · refine v_iconst 1 dL_parts_395 (by decide) ?_
        refine v_goto 400 dL_parts_396 (by decide) ?_
        exact v_xzret hr dL_parts_400 hE hf
      · refine v_iload_n 2 dL_parts_355 rfl rfl ?_
        refine v_if_ne 399 dL_parts_356 (by decide) hf (fun _ hf => ?_) (fun _ hf => ?_)
        · refine v_iconst 0 dL_parts_399 (by decide) ?_
          exact v_xzret hr dL_parts_400 hE hf
        · refine v_iload 4 dL_parts_359 rfl ?_
          refine v_if_ne 399 dL_parts_361 (by decide) hf (fun _ hf => ?_) (fun _ hf => ?_)
          · refine v_iconst 0 dL_parts_399 (by decide) ?_
            exact v_xzret hr dL_parts_400 hE hf
          · refine v_iload 5 dL_parts_364 rfl ?_
            refine v_if_ne 399 dL_parts_366 (by decide) hf (fun _ hf => ?_) (fun _ hf => ?_)
            · refine v_iconst 0 dL_parts_399 (by decide) ?_
              exact v_xzret hr dL_parts_400 hE hf
            · refine v_iload 6 dL_parts_369 rfl ?_
              refine v_iconst (-1) dL_parts_371 (by decide) ?_
              refine v_icmp_ne 399 dL_parts_372 (by decide) hf (fun _ hf => ?_) (fun _ hf => ?_)
              · refine v_iconst 0 dL_parts_399 (by decide) ?_
                exact v_xzret hr dL_parts_400 hE hf
              · refine v_aload_n 0 dL_parts_375 rfl rfl ?_
                refine v_iconst 0 dL_parts_376 (by decide) ?_
                refine v_iconst 0 dL_parts_377 (by decide) ?_
                refine v_xcallVi hn 4 2 [.int 0, .int 0] (c_X4_version (xl X) hfx p1 0 0) gL_parts_X4_version rfl dv_X4_version (by decide) (by decide) rfl rfl dL_parts_378 (Nat.le_of_ble_eq_true rfl) rfl hE hf (fun x9 G hf => ?_)
                refine v_iconst (-1) dL_parts_381 (by decide) ?_
                refine v_icmp_ne 399 dL_parts_382 (by decide) hf (fun _ hf => ?_) (fun _ hf => ?_)
                · refine v_iconst 0 dL_parts_399 (by decide) ?_
                  exact v_xzret hr dL_parts_400 hE hf
                · refine v_aload_n 0 dL_parts_385 rfl rfl ?_
                  refine v_iconst 0 dL_parts_386 (by decide) ?_
                  refine v_bipush 9 dL_parts_387 (by decide) ?_
                  refine v_xcallVi hn 4 2 [.int 0, .int 9] (c_X4_version (xl X) hfx p1 0 9) gL_parts_X4_version rfl dv_X4_version (by decide) (by decide) rfl rfl dL_parts_389 (Nat.le_of_ble_eq_true rfl) rfl hE hf (fun x10 G hf => ?_)
                  refine v_if_ne 399 dL_parts_392 (by decide) hf (fun _ hf => ?_) (fun _ hf => ?_)
                  · refine v_iconst 0 dL_parts_399 (by decide) ?_
                    exact v_xzret hr dL_parts_400 hE hf
                  · refine v_iconst 1 dL_parts_395 (by decide) ?_
                    refine v_goto 400 dL_parts_396 (by decide) ?_
                    exact v_xzret hr dL_parts_400 hE hf
    · refine v_aload_n 0 dL_parts_316 rfl rfl ?_
      refine v_iload_n 1 dL_parts_317 rfl rfl ?_
      refine v_iload 7 dL_parts_318 rfl ?_
      refine v_xcallVi hn 4 2 [.int p2, .int l12] (c_X4_steps (xl X) hfx p1 p2 l12) gL_parts_X4_steps rfl dv_X4_steps (by decide) (by decide) rfl rfl dL_parts_320 (Nat.le_of_ble_eq_true rfl) rfl hE hf (fun x11 G hf => ?_)
      refine v_iload 7 dL_parts_323 rfl ?_
      refine v_iload_n 3 dL_parts_325 rfl rfl ?_
      refine v_icmp_ge 336 dL_parts_326 (by decide) hf (fun _ hf => ?_) (fun _ hf => ?_)
      · refine v_iload_n 2 dL_parts_336 rfl rfl ?_
        refine v_iload 7 dL_parts_337 rfl ?_
        refine v_isub dL_parts_339 ?_
        refine v_icmp_eq 345 dL_parts_340 (by decide) hf (fun _ hf => ?_) (fun _ hf => ?_)
        · refine v_iinc 7 (l12 + 1) [(12, .int (l12 + 1)), (0, .ref p1), (1, .int p2), (2, .int l2), (3, .int l3), (7, .int l7), (8, .int l8), (11, .int l11)] dL_parts_345 rfl (by rfl) (by decide) rfl ?_
          refine v_goto 310 dL_parts_348 (by decide) ?_
          refine v_sub [1, 2, 3, 4, 5, 6, 7, 0] rfl ?_
          exact ih p1 p2 l2 l3 l7 l8 l11 (l12 + 1) G hf
        · refine v_iconst 0 dL_parts_343 (by decide) ?_
          exact v_xzret hr dL_parts_344 hE hf
      · refine v_iload 7 dL_parts_329 rfl ?_
        refine v_iconst 1 dL_parts_331 (by decide) ?_
        refine v_iadd dL_parts_332 ?_
        refine v_goto 340 dL_parts_333 (by decide) ?_
        refine v_icmp_eq 345 dL_parts_340 (by decide) hf (fun _ hf => ?_) (fun _ hf => ?_)
        · refine v_iinc 7 (l12 + 1) [(12, .int (l12 + 1)), (0, .ref p1), (1, .int p2), (2, .int l2), (3, .int l3), (7, .int l7), (8, .int l8), (11, .int l11)] dL_parts_345 rfl (by rfl) (by decide) rfl ?_
          refine v_goto 310 dL_parts_348 (by decide) ?_
          refine v_sub [1, 2, 3, 4, 5, 6, 7, 0] rfl ?_
          exact ih p1 p2 l2 l3 l7 l8 l11 (l12 + 1) G hf
        · refine v_iconst 0 dL_parts_343 (by decide) ?_
          exact v_xzret hr dL_parts_344 hE hf
set_option maxRecDepth 100000 in
set_option maxHeartbeats 4000000 in
theorem e_L_parts_307 {X : VX} {B : VB} {z : (String ⊕ Int32)} {Gf : GH}  (hfx : (xl X).stackTraces = false) (hn : ∀ x ∈ (xc X).exceptionTable.toList, False) (hr : (xme X).sig.returnType = (some .boolean)) (hE : VE B (z, Gf))  (p1 : Nat) (p2 : Int32) (l2 : Int32) (l3 : Int32) (l7 : Int32) (l8 : Int32) (l11 : Int32) (G : GH) (hf : (f_L_parts_307 p1 p2 l2 l3 l7 l8 l11).1 G = some (z, Gf)) : V X RL cL_parts 16 8 135 wsL_parts B (XQ X (xmap vI z) Gf B) G 307 [(0, .ref p1), (1, .int p2), (2, .int l2), (3, .int l3), (7, .int l7), (8, .int l8), (11, .int l11)] [] := by
  unfold f_L_parts_307 at hf
  refine v_iconst 0 dL_parts_307 (by decide) ?_
  refine v_istore [(12, .int 0), (0, .ref p1), (1, .int p2), (2, .int l2), (3, .int l3), (7, .int l7), (8, .int l8), (11, .int l11)] dL_parts_308 (by decide) rfl ?_
  refine v_sub [1, 2, 3, 4, 5, 6, 7, 0] rfl ?_
  generalize FU = fu at hf
  exact e_L_parts_310  hfx hn hr hE fu p1 p2 l2 l3 l7 l8 l11 0 G hf
set_option maxRecDepth 100000 in
set_option maxHeartbeats 4000000 in
theorem e_L_parts_300 {X : VX} {B : VB} {z : (String ⊕ Int32)} {Gf : GH}  (hfx : (xl X).stackTraces = false) (hn : ∀ x ∈ (xc X).exceptionTable.toList, False) (hr : (xme X).sig.returnType = (some .boolean)) (hE : VE B (z, Gf))  (p1 : Nat) (p2 : Int32) (l2 : Int32) (l3 : Int32) (l7 : Int32) (l8 : Int32) (l11 : Int32) (l13 : Int32) (G : GH) (hf : (f_L_parts_300 p1 p2 l2 l3 l7 l8 l11 l13).1 G = some (z, Gf)) : V X RL cL_parts 16 8 135 wsL_parts B (XQ X (xmap vI z) Gf B) G 300 [(0, .ref p1), (1, .int p2), (2, .int l2), (3, .int l3), (7, .int l7), (8, .int l8), (11, .int l11), (13, .int l13)] [] := by
  unfold f_L_parts_300 at hf
  refine v_iload 7 dL_parts_300 rfl ?_
  refine v_if_ne 307 dL_parts_302 (by decide) hf (fun _ hf => ?_) (fun _ hf => ?_)
  · refine v_sub [0, 1, 2, 3, 4, 5, 6] rfl ?_
    exact e_L_parts_307 hfx hn hr hE p1 p2 l2 l3 l7 l8 l11 G hf
  · refine v_iconst 0 dL_parts_305 (by decide) ?_
    exact v_xzret hr dL_parts_306 hE hf
set_option maxRecDepth 100000 in
set_option maxHeartbeats 4000000 in
theorem e_L_parts_273 {X : VX} {B : VB} {z : (String ⊕ Int32)} {Gf : GH}  (hfx : (xl X).stackTraces = false) (hn : ∀ x ∈ (xc X).exceptionTable.toList, False) (hr : (xme X).sig.returnType = (some .boolean)) (hE : VE B (z, Gf))  (p1 : Nat) (p2 : Int32) (l2 : Int32) (l3 : Int32) (l5 : Int32) (l7 : Int32) (l8 : Int32) (l11 : Int32) (l13 : Int32) (l14 : Int32) (G : GH) (hf : (f_L_parts_273 p1 p2 l2 l3 l5 l7 l8 l11 l13 l14).1 G = some (z, Gf)) : V X RL cL_parts 16 8 135 wsL_parts B (XQ X (xmap vI z) Gf B) G 273 [(0, .ref p1), (1, .int p2), (2, .int l2), (3, .int l3), (5, .int l5), (7, .int l7), (8, .int l8), (11, .int l11), (13, .int l13), (14, .int l14)] [] := by
  unfold f_L_parts_273 at hf
  refine v_iload 9 dL_parts_273 rfl ?_
  refine v_if_le 307 dL_parts_275 (by decide) hf (fun _ hf => ?_) (fun _ hf => ?_)
  · refine v_sub [0, 1, 2, 3, 5, 6, 7] rfl ?_
    exact e_L_parts_307 hfx hn hr hE p1 p2 l2 l3 l7 l8 l11 G hf
  · refine v_iload 4 dL_parts_278 rfl ?_
    refine v_if_le 300 dL_parts_280 (by decide) hf (fun _ hf => ?_) (fun _ hf => ?_)
    · refine v_sub [0, 1, 2, 3, 5, 6, 7, 8] rfl ?_
      exact e_L_parts_300 hfx hn hr hE p1 p2 l2 l3 l7 l8 l11 l13 G hf
    · refine v_iload 8 dL_parts_283 rfl ?_
      refine v_iload 9 dL_parts_285 rfl ?_
      refine v_icmp_ge 300 dL_parts_287 (by decide) hf (fun _ hf => ?_) (fun _ hf => ?_)
      · refine v_sub [0, 1, 2, 3, 5, 6, 7, 8] rfl ?_
        exact e_L_parts_300 hfx hn hr hE p1 p2 l2 l3 l7 l8 l11 l13 G hf
      · refine v_iload 4 dL_parts_290 rfl ?_
        refine v_iload 9 dL_parts_292 rfl ?_
        refine v_iload 8 dL_parts_294 rfl ?_
        refine v_isub dL_parts_296 ?_
        refine v_icmp_ne 305 dL_parts_297 (by decide) hf (fun _ hf => ?_) (fun _ hf => ?_)
        · refine v_iconst 0 dL_parts_305 (by decide) ?_
          exact v_xzret hr dL_parts_306 hE hf
        · refine v_sub [0, 1, 2, 3, 5, 6, 7, 8] rfl ?_
          exact e_L_parts_300 hfx hn hr hE p1 p2 l2 l3 l7 l8 l11 l13 G hf
set_option maxRecDepth 100000 in
set_option maxHeartbeats 4000000 in
theorem e_L_parts_233 {X : VX} {B : VB} {z : (String ⊕ Int32)} {Gf : GH}  (hfx : (xl X).stackTraces = false) (hn : ∀ x ∈ (xc X).exceptionTable.toList, False) (hr : (xme X).sig.returnType = (some .boolean)) (hE : VE B (z, Gf))  (p1 : Nat) (p2 : Int32) (l2 : Int32) (l3 : Int32) (l5 : Int32) (l7 : Int32) (l8 : Int32) (l11 : Int32) (l13 : Int32) (l14 : Int32) (s0 : Int32) (s1 : Int32) (s2 : Nat) (G : GH) (hf : (f_L_parts_233 p1 p2 l2 l3 l5 l7 l8 l11 l13 l14 s0 s1 s2).1 G = some (z, Gf)) : V X RL cL_parts 16 8 135 wsL_parts B (XQ X (xmap vI z) Gf B) G 233 [(0, .ref p1), (1, .int p2), (2, .int l2), (3, .int l3), (5, .int l5), (7, .int l7), (8, .int l8), (11, .int l11), (13, .int l13), (14, .int l14)] [.int s0, .int s1, .ref s2] := by
  unfold f_L_parts_233 at hf
  refine v_xcallVi hn 4 2 [.int s1, .int s0] (c_X4_version (xl X) hfx s2 s1 s0) gL_parts_X4_version rfl dv_X4_version (by decide) (by decide) rfl rfl dL_parts_233 (Nat.le_of_ble_eq_true rfl) rfl hE hf (fun x15 G hf => ?_)
  refine v_istore [(15, .int x15), (0, .ref p1), (1, .int p2), (2, .int l2), (3, .int l3), (5, .int l5), (7, .int l7), (8, .int l8), (11, .int l11), (13, .int l13), (14, .int l14)] dL_parts_236 (by decide) rfl ?_
  refine v_iload 9 dL_parts_238 rfl ?_
  refine v_if_lt 305 dL_parts_240 (by decide) hf (fun _ hf => ?_) (fun _ hf => ?_)
  · refine v_iconst 0 dL_parts_305 (by decide) ?_
    exact v_xzret hr dL_parts_306 hE hf
  · refine v_iload 9 dL_parts_243 rfl ?_
    refine v_bipush 9 dL_parts_245 (by decide) ?_
    refine v_icmp_gt 305 dL_parts_247 (by decide) hf (fun _ hf => ?_) (fun _ hf => ?_)
    · refine v_iconst 0 dL_parts_305 (by decide) ?_
      exact v_xzret hr dL_parts_306 hE hf
    · refine v_iload 9 dL_parts_250 rfl ?_
      refine v_iload 10 dL_parts_252 rfl ?_
      refine v_icmp_gt 305 dL_parts_254 (by decide) hf (fun _ hf => ?_) (fun _ hf => ?_)
      · refine v_iconst 0 dL_parts_305 (by decide) ?_
        exact v_xzret hr dL_parts_306 hE hf
      · refine v_iload 7 dL_parts_257 rfl ?_
        refine v_if_le 273 dL_parts_259 (by decide) hf (fun _ hf => ?_) (fun _ hf => ?_)
        · refine v_sub [1, 2, 3, 4, 5, 6, 7, 8, 9, 10] rfl ?_
          exact e_L_parts_273 hfx hn hr hE p1 p2 l2 l3 l5 l7 l8 l11 l13 l14 G hf
        · refine v_iload 8 dL_parts_262 rfl ?_
          refine v_iconst 2 dL_parts_264 (by decide) ?_
          refine v_icmp_lt 305 dL_parts_265 (by decide) hf (fun _ hf => ?_) (fun _ hf => ?_)
          · refine v_iconst 0 dL_parts_305 (by decide) ?_
            exact v_xzret hr dL_parts_306 hE hf
          · refine v_iload 0 dL_parts_268 rfl ?_
            refine v_if_gt 305 dL_parts_270 (by decide) hf (fun _ hf => ?_) (fun _ hf => ?_)
            · refine v_iconst 0 dL_parts_305 (by decide) ?_
              exact v_xzret hr dL_parts_306 hE hf
            · refine v_sub [1, 2, 3, 4, 5, 6, 7, 8, 9, 10] rfl ?_
              exact e_L_parts_273 hfx hn hr hE p1 p2 l2 l3 l5 l7 l8 l11 l13 l14 G hf
set_option maxRecDepth 100000 in
set_option maxHeartbeats 4000000 in
theorem e_L_parts_216 {X : VX} {B : VB} {z : (String ⊕ Int32)} {Gf : GH}  (hfx : (xl X).stackTraces = false) (hn : ∀ x ∈ (xc X).exceptionTable.toList, False) (hr : (xme X).sig.returnType = (some .boolean)) (hE : VE B (z, Gf))  (p1 : Nat) (p2 : Int32) (l2 : Int32) (l3 : Int32) (l5 : Int32) (l7 : Int32) (l8 : Int32) (l11 : Int32) (l12 : Int32) (l13 : Int32) (s0 : Int32) (G : GH) (hf : (f_L_parts_216 p1 p2 l2 l3 l5 l7 l8 l11 l12 l13 s0).1 G = some (z, Gf)) : V X RL cL_parts 16 8 135 wsL_parts B (XQ X (xmap vI z) Gf B) G 216 [(0, .ref p1), (1, .int p2), (2, .int l2), (3, .int l3), (5, .int l5), (7, .int l7), (8, .int l8), (11, .int l11), (12, .int l12), (13, .int l13)] [.int s0] := by
  unfold f_L_parts_216 at hf
  refine v_istore [(14, .int s0), (0, .ref p1), (1, .int p2), (2, .int l2), (3, .int l3), (5, .int l5), (7, .int l7), (8, .int l8), (11, .int l11), (12, .int l12), (13, .int l13)] dL_parts_216 (by decide) rfl ?_
  refine v_aload_n 1 dL_parts_218 rfl rfl ?_
  refine v_iload 9 dL_parts_219 rfl ?_
  refine v_iload 8 dL_parts_221 rfl ?_
  refine v_iconst 2 dL_parts_223 (by decide) ?_
  refine v_irem dL_parts_224 hf (fun x14 hf => ?_)
  refine v_if_ne 232 dL_parts_225 (by decide) hf (fun _ hf => ?_) (fun _ hf => ?_)
  · refine v_iconst 3 dL_parts_232 (by decide) ?_
    refine v_sub [1, 2, 3, 4, 5, 6, 7, 8, 10, 0] rfl ?_
    exact e_L_parts_233 hfx hn hr hE p1 p2 l2 l3 l5 l7 l8 l11 l13 s0 3 l12 p1 G hf
  · refine v_iconst 2 dL_parts_228 (by decide) ?_
    refine v_goto 233 dL_parts_229 (by decide) ?_
    refine v_sub [1, 2, 3, 4, 5, 6, 7, 8, 10, 0] rfl ?_
    exact e_L_parts_233 hfx hn hr hE p1 p2 l2 l3 l5 l7 l8 l11 l13 s0 2 l12 p1 G hf
set_option maxRecDepth 100000 in
set_option maxHeartbeats 4000000 in
theorem e_L_parts_163 {X : VX} {B : VB} {z : (String ⊕ Int32)} {Gf : GH}  (hfx : (xl X).stackTraces = false) (hn : ∀ x ∈ (xc X).exceptionTable.toList, False) (hr : (xme X).sig.returnType = (some .boolean)) (hE : VE B (z, Gf))  (p1 : Nat) (p2 : Int32) (l2 : Int32) (l3 : Int32) (l5 : Int32) (l7 : Int32) (l8 : Int32) (G : GH) (hf : (f_L_parts_163 p1 p2 l2 l3 l5 l7 l8).1 G = some (z, Gf)) : V X RL cL_parts 16 8 135 wsL_parts B (XQ X (xmap vI z) Gf B) G 163 [(0, .ref p1), (1, .int p2), (2, .int l2), (3, .int l3), (5, .int l5), (7, .int l7), (8, .int l8)] [] := by
  unfold f_L_parts_163 at hf
  refine v_iload 6 dL_parts_163 rfl ?_
  refine v_if_ge 170 dL_parts_165 (by decide) hf (fun _ hf => ?_) (fun _ hf => ?_)
  · refine v_aload_n 0 dL_parts_170 rfl rfl ?_
    refine v_iload_n 1 dL_parts_171 rfl rfl ?_
    refine v_bipush 8 dL_parts_172 (by decide) ?_
    refine v_xcallVi hn 4 2 [.int p2, .int 8] (c_X4_version (xl X) hfx p1 p2 8) gL_parts_X4_version rfl dv_X4_version (by decide) (by decide) rfl rfl dL_parts_174 (Nat.le_of_ble_eq_true rfl) rfl hE hf (fun x8 G hf => ?_)
    refine v_istore [(11, .int x8), (0, .ref p1), (1, .int p2), (2, .int l2), (3, .int l3), (5, .int l5), (7, .int l7), (8, .int l8)] dL_parts_177 (by decide) rfl ?_
    refine v_iload_n 2 dL_parts_179 rfl rfl ?_
    refine v_if_le 307 dL_parts_180 (by decide) hf (fun _ hf => ?_) (fun _ hf => ?_)
    · refine v_sub [1, 2, 3, 4, 6, 7, 0] rfl ?_
      exact e_L_parts_307 hfx hn hr hE p1 p2 l2 l3 l7 l8 x8 G hf
    · refine v_aload_n 1 dL_parts_183 rfl rfl ?_
      refine v_iload_n 2 dL_parts_184 rfl rfl ?_
      refine v_iconst 0 dL_parts_185 (by decide) ?_
      refine v_xcallVi hn 4 2 [.int p2, .int 0] (c_X4_version (xl X) hfx p1 p2 0) gL_parts_X4_version rfl dv_X4_version (by decide) (by decide) rfl rfl dL_parts_186 (Nat.le_of_ble_eq_true rfl) rfl hE hf (fun x12 G hf => ?_)
      refine v_istore [(12, .int x12), (11, .int x8), (0, .ref p1), (1, .int p2), (2, .int l2), (3, .int l3), (5, .int l5), (7, .int l7), (8, .int l8)] dL_parts_189 (by decide) rfl ?_
      refine v_iload 7 dL_parts_191 rfl ?_
      refine v_iload 8 dL_parts_193 rfl ?_
      refine v_isub dL_parts_195 ?_
      refine v_iconst 1 dL_parts_196 (by decide) ?_
      refine v_isub dL_parts_197 ?_
      refine v_istore [(13, .int ((l7 - l8) - 1)), (12, .int x12), (11, .int x8), (0, .ref p1), (1, .int p2), (2, .int l2), (3, .int l3), (5, .int l5), (7, .int l7), (8, .int l8)] dL_parts_198 (by decide) rfl ?_
      refine v_iload 9 dL_parts_200 rfl ?_
      refine v_if_le 209 dL_parts_202 (by decide) hf (fun _ hf => ?_) (fun _ hf => ?_)
      · refine v_aload_n 3 dL_parts_209 rfl rfl ?_
        refine v_iload 1 dL_parts_210 rfl ?_
        refine v_iconst 4 dL_parts_212 (by decide) ?_
        refine v_xcallVi hn 4 2 [.int x12, .int 4] (c_X4_version (xl X) hfx p1 x12 4) gL_parts_X4_version rfl dv_X4_version (by decide) (by decide) rfl rfl dL_parts_213 (Nat.le_of_ble_eq_true rfl) rfl hE hf (fun x13 G hf => ?_)
        refine v_sub [3, 4, 5, 6, 7, 8, 9, 2, 1, 0] rfl ?_
        exact e_L_parts_216 hfx hn hr hE p1 p2 l2 l3 l5 l7 l8 x8 x12 ((l7 - l8) - 1) x13 G hf
      · refine v_iconst 0 dL_parts_205 (by decide) ?_
        refine v_goto 216 dL_parts_206 (by decide) ?_
        refine v_sub [3, 4, 5, 6, 7, 8, 9, 2, 1, 0] rfl ?_
        exact e_L_parts_216 hfx hn hr hE p1 p2 l2 l3 l5 l7 l8 x8 x12 ((l7 - l8) - 1) 0 G hf
  · refine v_iconst 0 dL_parts_168 (by decide) ?_
    exact v_xzret hr dL_parts_169 hE hf
set_option maxRecDepth 100000 in
set_option maxHeartbeats 4000000 in
theorem e_L_parts_127 {X : VX} {B : VB} {z : (String ⊕ Int32)} {Gf : GH}  (hfx : (xl X).stackTraces = false) (hn : ∀ x ∈ (xc X).exceptionTable.toList, False) (hr : (xme X).sig.returnType = (some .boolean)) (hE : VE B (z, Gf))  (p1 : Nat) (p2 : Int32) (l2 : Int32) (l3 : Int32) (l5 : Int32) (l6 : Int32) (l7 : Int32) (l8 : Int32) (l9 : Int32) (l10 : Int32) (s0 : Int32) (s1 : Int32) (G : GH) (hf : (f_L_parts_127 p1 p2 l2 l3 l5 l6 l7 l8 l9 l10 s0 s1).1 G = some (z, Gf)) : V X RL cL_parts 16 8 135 wsL_parts B (XQ X (xmap vI z) Gf B) G 127 [(0, .ref p1), (1, .int p2), (2, .int l2), (3, .int l3), (5, .int l5), (6, .int l6), (7, .int l7), (8, .int l8), (9, .int l9), (10, .int l10)] [.int s0, .int s1] := by
  unfold f_L_parts_127 at hf
  refine v_icmp_ne 168 dL_parts_127 (by decide) hf (fun _ hf => ?_) (fun _ hf => ?_)
  · refine v_iconst 0 dL_parts_168 (by decide) ?_
    exact v_xzret hr dL_parts_169 hE hf
  · refine v_iload 4 dL_parts_130 rfl ?_
    refine v_if_lt 168 dL_parts_132 (by decide) hf (fun _ hf => ?_) (fun _ hf => ?_)
    · refine v_iconst 0 dL_parts_168 (by decide) ?_
      exact v_xzret hr dL_parts_169 hE hf
    · refine v_iload 5 dL_parts_135 rfl ?_
      refine v_iconst (-1) dL_parts_137 (by decide) ?_
      refine v_icmp_lt 168 dL_parts_138 (by decide) hf (fun _ hf => ?_) (fun _ hf => ?_)
      · refine v_iconst 0 dL_parts_168 (by decide) ?_
        exact v_xzret hr dL_parts_169 hE hf
      · refine v_iload 5 dL_parts_141 rfl ?_
        refine v_iload_n 2 dL_parts_143 rfl rfl ?_
        refine v_icmp_gt 168 dL_parts_144 (by decide) hf (fun _ hf => ?_) (fun _ hf => ?_)
        · refine v_iconst 0 dL_parts_168 (by decide) ?_
          exact v_xzret hr dL_parts_169 hE hf
        · refine v_iload 5 dL_parts_147 rfl ?_
          refine v_if_ge 163 dL_parts_149 (by decide) hf (fun _ hf => ?_) (fun _ hf => ?_)
          · refine v_sub [0, 1, 2, 3, 4, 6, 7] rfl ?_
            exact e_L_parts_163 hfx hn hr hE p1 p2 l2 l3 l5 l7 l8 G hf
          · refine v_iload 8 dL_parts_152 rfl ?_
            refine v_iconst 5 dL_parts_154 (by decide) ?_
            refine v_iload 9 dL_parts_155 rfl ?_
            refine v_imul dL_parts_157 ?_
            refine v_iconst 1 dL_parts_158 (by decide) ?_
            refine v_iadd dL_parts_159 ?_
            refine v_icmp_gt 168 dL_parts_160 (by decide) hf (fun _ hf => ?_) (fun _ hf => ?_)
            · refine v_iconst 0 dL_parts_168 (by decide) ?_
              exact v_xzret hr dL_parts_169 hE hf
            · refine v_sub [0, 1, 2, 3, 4, 6, 7] rfl ?_
              exact e_L_parts_163 hfx hn hr hE p1 p2 l2 l3 l5 l7 l8 G hf
set_option maxRecDepth 100000 in
set_option maxHeartbeats 4000000 in
theorem e_L_parts_117 {X : VX} {B : VB} {z : (String ⊕ Int32)} {Gf : GH}  (hfx : (xl X).stackTraces = false) (hn : ∀ x ∈ (xc X).exceptionTable.toList, False) (hr : (xme X).sig.returnType = (some .boolean)) (hE : VE B (z, Gf))  (p1 : Nat) (p2 : Int32) (l2 : Int32) (l3 : Int32) (l5 : Int32) (l6 : Int32) (l7 : Int32) (l8 : Int32) (l9 : Int32) (l10 : Int32) (s0 : Int32) (G : GH) (hf : (f_L_parts_117 p1 p2 l2 l3 l5 l6 l7 l8 l9 l10 s0).1 G = some (z, Gf)) : V X RL cL_parts 16 8 135 wsL_parts B (XQ X (xmap vI z) Gf B) G 117 [(0, .ref p1), (1, .int p2), (2, .int l2), (3, .int l3), (5, .int l5), (6, .int l6), (7, .int l7), (8, .int l8), (9, .int l9), (10, .int l10)] [.int s0] := by
  unfold f_L_parts_117 at hf
  refine v_iload 5 dL_parts_117 rfl ?_
  refine v_if_lt 126 dL_parts_119 (by decide) hf (fun _ hf => ?_) (fun _ hf => ?_)
  · refine v_iconst 0 dL_parts_126 (by decide) ?_
    refine v_sub [0, 1, 2, 3, 4, 5, 6, 7, 8, 9] rfl ?_
    exact e_L_parts_127 hfx hn hr hE p1 p2 l2 l3 l5 l6 l7 l8 l9 l10 0 s0 G hf
  · refine v_iconst 1 dL_parts_122 (by decide) ?_
    refine v_goto 127 dL_parts_123 (by decide) ?_
    refine v_sub [0, 1, 2, 3, 4, 5, 6, 7, 8, 9] rfl ?_
    exact e_L_parts_127 hfx hn hr hE p1 p2 l2 l3 l5 l6 l7 l8 l9 l10 1 s0 G hf
set_option maxRecDepth 100000 in
set_option maxHeartbeats 4000000 in
theorem e_L_parts_82 {X : VX} {B : VB} {z : (String ⊕ Int32)} {Gf : GH}  (hfx : (xl X).stackTraces = false) (hn : ∀ x ∈ (xc X).exceptionTable.toList, False) (hr : (xme X).sig.returnType = (some .boolean)) (hE : VE B (z, Gf))  (p1 : Nat) (p2 : Int32) (l2 : Int32) (l3 : Int32) (l4 : Int32) (l5 : Int32) (l6 : Int32) (l7 : Int32) (l8 : Int32) (l9 : Int32) (s0 : Int32) (G : GH) (hf : (f_L_parts_82 p1 p2 l2 l3 l4 l5 l6 l7 l8 l9 s0).1 G = some (z, Gf)) : V X RL cL_parts 16 8 135 wsL_parts B (XQ X (xmap vI z) Gf B) G 82 [(0, .ref p1), (1, .int p2), (2, .int l2), (3, .int l3), (4, .int l4), (5, .int l5), (6, .int l6), (7, .int l7), (8, .int l8), (9, .int l9)] [.int s0] := by
  unfold f_L_parts_82 at hf
  refine v_istore [(10, .int s0), (0, .ref p1), (1, .int p2), (2, .int l2), (3, .int l3), (4, .int l4), (5, .int l5), (6, .int l6), (7, .int l7), (8, .int l8), (9, .int l9)] dL_parts_82 (by decide) rfl ?_
  refine v_iload_n 4 dL_parts_84 rfl rfl ?_
  refine v_if_lt 168 dL_parts_85 (by decide) hf (fun _ hf => ?_) (fun _ hf => ?_)
  · refine v_iconst 0 dL_parts_168 (by decide) ?_
    exact v_xzret hr dL_parts_169 hE hf
  · refine v_iload 5 dL_parts_88 rfl ?_
    refine v_if_lt 168 dL_parts_90 (by decide) hf (fun _ hf => ?_) (fun _ hf => ?_)
    · refine v_iconst 0 dL_parts_168 (by decide) ?_
      exact v_xzret hr dL_parts_169 hE hf
    · refine v_iload_n 4 dL_parts_93 rfl rfl ?_
      refine v_iload 5 dL_parts_94 rfl ?_
      refine v_iadd dL_parts_96 ?_
      refine v_iload_n 3 dL_parts_97 rfl rfl ?_
      refine v_icmp_ne 168 dL_parts_98 (by decide) hf (fun _ hf => ?_) (fun _ hf => ?_)
      · refine v_iconst 0 dL_parts_168 (by decide) ?_
        exact v_xzret hr dL_parts_169 hE hf
      · refine v_iload_n 3 dL_parts_101 rfl rfl ?_
        refine v_bipush 40 dL_parts_102 (by decide) ?_
        refine v_icmp_gt 168 dL_parts_104 (by decide) hf (fun _ hf => ?_) (fun _ hf => ?_)
        · refine v_iconst 0 dL_parts_168 (by decide) ?_
          exact v_xzret hr dL_parts_169 hE hf
        · refine v_iload 6 dL_parts_107 rfl ?_
          refine v_if_le 116 dL_parts_109 (by decide) hf (fun _ hf => ?_) (fun _ hf => ?_)
          · refine v_iconst 0 dL_parts_116 (by decide) ?_
            refine v_sub [1, 2, 3, 4, 6, 7, 8, 9, 10, 0] rfl ?_
            exact e_L_parts_117 hfx hn hr hE p1 p2 l2 l3 l5 l6 l7 l8 l9 s0 0 G hf
          · refine v_iconst 1 dL_parts_112 (by decide) ?_
            refine v_goto 117 dL_parts_113 (by decide) ?_
            refine v_sub [1, 2, 3, 4, 6, 7, 8, 9, 10, 0] rfl ?_
            exact e_L_parts_117 hfx hn hr hE p1 p2 l2 l3 l5 l6 l7 l8 l9 s0 1 G hf
set_option maxRecDepth 100000 in
set_option maxHeartbeats 4000000 in
theorem e_L_parts_68 {X : VX} {B : VB} {z : (String ⊕ Int32)} {Gf : GH}  (hfx : (xl X).stackTraces = false) (hn : ∀ x ∈ (xc X).exceptionTable.toList, False) (hr : (xme X).sig.returnType = (some .boolean)) (hE : VE B (z, Gf))  (p1 : Nat) (p2 : Int32) (l2 : Int32) (l3 : Int32) (l4 : Int32) (l5 : Int32) (l6 : Int32) (l7 : Int32) (l8 : Int32) (s0 : Int32) (G : GH) (hf : (f_L_parts_68 p1 p2 l2 l3 l4 l5 l6 l7 l8 s0).1 G = some (z, Gf)) : V X RL cL_parts 16 8 135 wsL_parts B (XQ X (xmap vI z) Gf B) G 68 [(0, .ref p1), (1, .int p2), (2, .int l2), (3, .int l3), (4, .int l4), (5, .int l5), (6, .int l6), (7, .int l7), (8, .int l8)] [.int s0] := by
  unfold f_L_parts_68 at hf
  refine v_istore [(9, .int s0), (0, .ref p1), (1, .int p2), (2, .int l2), (3, .int l3), (4, .int l4), (5, .int l5), (6, .int l6), (7, .int l7), (8, .int l8)] dL_parts_68 (by decide) rfl ?_
  refine v_iload_n 4 dL_parts_70 rfl rfl ?_
  refine v_iload 5 dL_parts_71 rfl ?_
  refine v_icmp_le 81 dL_parts_73 (by decide) hf (fun _ hf => ?_) (fun _ hf => ?_)
  · refine v_iload_n 4 dL_parts_81 rfl rfl ?_
    refine v_sub [1, 2, 3, 4, 5, 6, 7, 8, 9, 0] rfl ?_
    exact e_L_parts_82 hfx hn hr hE p1 p2 l2 l3 l4 l5 l6 l7 l8 s0 l3 G hf
  · refine v_iload 5 dL_parts_76 rfl ?_
    refine v_goto 82 dL_parts_78 (by decide) ?_
    refine v_sub [1, 2, 3, 4, 5, 6, 7, 8, 9, 0] rfl ?_
    exact e_L_parts_82 hfx hn hr hE p1 p2 l2 l3 l4 l5 l6 l7 l8 s0 l4 G hf
set_option maxRecDepth 100000 in
set_option maxHeartbeats 4000000 in
theorem e_L_parts_0 {X : VX} {B : VB} {z : (String ⊕ Int32)} {Gf : GH}  (hfx : (xl X).stackTraces = false) (hn : ∀ x ∈ (xc X).exceptionTable.toList, False) (hr : (xme X).sig.returnType = (some .boolean)) (hE : VE B (z, Gf))  (p1 : Nat) (p2 : Int32) (G : GH) (hf : (f_L_parts p1 p2).1 G = some (z, Gf)) : V X RL cL_parts 16 8 135 wsL_parts B (XQ X (xmap vI z) Gf B) G 0 [(0, .ref p1), (1, .int p2)] [] := by
  unfold f_L_parts at hf
  refine v_aload_n 0 dL_parts_0 rfl rfl ?_
  refine v_iload_n 1 dL_parts_1 rfl rfl ?_
  refine v_iconst 1 dL_parts_2 (by decide) ?_
  refine v_xcallVi hn 4 2 [.int p2, .int 1] (c_X4_version (xl X) hfx p1 p2 1) gL_parts_X4_version rfl dv_X4_version (by decide) (by decide) rfl rfl dL_parts_3 (Nat.le_of_ble_eq_true rfl) rfl hE hf (fun x1 G hf => ?_)
  refine v_istore_n [(2, .int x1), (0, .ref p1), (1, .int p2)] dL_parts_6 rfl (by decide) rfl ?_
  refine v_aload_n 1 dL_parts_7 rfl rfl ?_
  refine v_iload_n 2 dL_parts_8 rfl rfl ?_
  refine v_iconst 2 dL_parts_9 (by decide) ?_
  refine v_xcallVi hn 4 2 [.int p2, .int 2] (c_X4_version (xl X) hfx p1 p2 2) gL_parts_X4_version rfl dv_X4_version (by decide) (by decide) rfl rfl dL_parts_10 (Nat.le_of_ble_eq_true rfl) rfl hE hf (fun x2 G hf => ?_)
  refine v_istore_n [(3, .int x2), (2, .int x1), (0, .ref p1), (1, .int p2)] dL_parts_13 rfl (by decide) rfl ?_
  refine v_aload_n 2 dL_parts_14 rfl rfl ?_
  refine v_iload_n 3 dL_parts_15 rfl rfl ?_
  refine v_iconst 3 dL_parts_16 (by decide) ?_
  refine v_xcallVi hn 4 2 [.int p2, .int 3] (c_X4_version (xl X) hfx p1 p2 3) gL_parts_X4_version rfl dv_X4_version (by decide) (by decide) rfl rfl dL_parts_17 (Nat.le_of_ble_eq_true rfl) rfl hE hf (fun x3 G hf => ?_)
  refine v_istore [(4, .int x3), (3, .int x2), (2, .int x1), (0, .ref p1), (1, .int p2)] dL_parts_20 (by decide) rfl ?_
  refine v_aload_n 3 dL_parts_22 rfl rfl ?_
  refine v_iload_n 4 dL_parts_23 rfl rfl ?_
  refine v_iconst 4 dL_parts_24 (by decide) ?_
  refine v_xcallVi hn 4 2 [.int p2, .int 4] (c_X4_version (xl X) hfx p1 p2 4) gL_parts_X4_version rfl dv_X4_version (by decide) (by decide) rfl rfl dL_parts_25 (Nat.le_of_ble_eq_true rfl) rfl hE hf (fun x4 G hf => ?_)
  refine v_istore [(5, .int x4), (4, .int x3), (3, .int x2), (2, .int x1), (0, .ref p1), (1, .int p2)] dL_parts_28 (by decide) rfl ?_
  refine v_aload_n 4 dL_parts_30 rfl rfl ?_
  refine v_iload_n 5 dL_parts_31 rfl rfl ?_
  refine v_iconst 5 dL_parts_32 (by decide) ?_
  refine v_xcallVi hn 4 2 [.int p2, .int 5] (c_X4_version (xl X) hfx p1 p2 5) gL_parts_X4_version rfl dv_X4_version (by decide) (by decide) rfl rfl dL_parts_33 (Nat.le_of_ble_eq_true rfl) rfl hE hf (fun x5 G hf => ?_)
  refine v_istore [(6, .int x5), (5, .int x4), (4, .int x3), (3, .int x2), (2, .int x1), (0, .ref p1), (1, .int p2)] dL_parts_36 (by decide) rfl ?_
  refine v_aload_n 5 dL_parts_38 rfl rfl ?_
  refine v_iload_n 6 dL_parts_39 rfl rfl ?_
  refine v_bipush 6 dL_parts_40 (by decide) ?_
  refine v_xcallVi hn 4 2 [.int p2, .int 6] (c_X4_version (xl X) hfx p1 p2 6) gL_parts_X4_version rfl dv_X4_version (by decide) (by decide) rfl rfl dL_parts_42 (Nat.le_of_ble_eq_true rfl) rfl hE hf (fun x6 G hf => ?_)
  refine v_istore [(7, .int x6), (6, .int x5), (5, .int x4), (4, .int x3), (3, .int x2), (2, .int x1), (0, .ref p1), (1, .int p2)] dL_parts_45 (by decide) rfl ?_
  refine v_aload_n 6 dL_parts_47 rfl rfl ?_
  refine v_iload_n 7 dL_parts_48 rfl rfl ?_
  refine v_bipush 7 dL_parts_49 (by decide) ?_
  refine v_xcallVi hn 4 2 [.int p2, .int 7] (c_X4_version (xl X) hfx p1 p2 7) gL_parts_X4_version rfl dv_X4_version (by decide) (by decide) rfl rfl dL_parts_51 (Nat.le_of_ble_eq_true rfl) rfl hE hf (fun x7 G hf => ?_)
  refine v_istore [(8, .int x7), (7, .int x6), (6, .int x5), (5, .int x4), (4, .int x3), (3, .int x2), (2, .int x1), (0, .ref p1), (1, .int p2)] dL_parts_54 (by decide) rfl ?_
  refine v_iload_n 5 dL_parts_56 rfl rfl ?_
  refine v_iload 4 dL_parts_57 rfl ?_
  refine v_icmp_le 66 dL_parts_59 (by decide) hf (fun _ hf => ?_) (fun _ hf => ?_)
  · refine v_iload 4 dL_parts_66 rfl ?_
    refine v_sub [7, 8, 6, 5, 4, 3, 2, 1, 0] rfl ?_
    exact e_L_parts_68 hfx hn hr hE p1 p2 x1 x2 x3 x4 x5 x6 x7 x3 G hf
  · refine v_iload_n 5 dL_parts_62 rfl rfl ?_
    refine v_goto 68 dL_parts_63 (by decide) ?_
    refine v_sub [7, 8, 6, 5, 4, 3, 2, 1, 0] rfl ?_
    exact e_L_parts_68 hfx hn hr hE p1 p2 x1 x2 x3 x4 x5 x6 x7 x2 G hf
theorem c_L_parts (l : Launch) (hfl : l.stackTraces = false) (p1 : Nat) (p2 : Int32) : CX l yL_parts wsL_parts 8 135 [.ref p1, .int p2] vI (f_L_parts p1 p2) := CX.start hfl RL rfl (by decide +kernel) rfl (Nat.le_of_ble_eq_true rfl) (fun X G z Gf hl hn hr hf => e_L_parts_0 (by rw [hl]; exact hfl) hn hr ⟨rfl, rfl⟩ p1 p2 G hf)
theorem dn_L_parts : yL_parts.cls ≠ "java/lang/invoke/MethodHandle" ∧ yL_parts.cls ≠ "java/lang/invoke/VarHandle" ∧ (parseMethodDescriptor yL_parts.desc).map (fun d => d.parameters.length) = some 2 := by decide +kernel
