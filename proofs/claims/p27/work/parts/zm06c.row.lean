/-! walk of the law's row (printed by wip/p27/all.py) -/
set_option maxRecDepth 100000 in
set_option maxHeartbeats 4000000 in
theorem e_L_row_210 {X : VX} {B : VB} {z : (String ⊕ Int32)} {Gf : GH} {k188 : Nat → Int32 → Int32 → Int32 → Int32 → Int32 → MX Int32} (hfx : (xl X).stackTraces = false) (hn : ∀ x ∈ (xc X).exceptionTable.toList, False) (hr : (xme X).sig.returnType = (some .boolean)) (hE : VE B (z, Gf)) (hk188 : ∀ (y0 : Nat) (y1 : Int32) (y2 : Int32) (y3 : Int32) (y4 : Int32) (y5 : Int32) (G : GH), (k188 y0 y1 y2 y3 y4 y5).1 G = some (z, Gf) → V X RL cL_row 9 8 134 wsL_row B (XQ X (xmap vI z) Gf B) G 188 [(0, .ref y0), (1, .int y1), (2, .int y2), (3, .int y3), (7, .int y4), (8, .int y5)] []) (p1 : Nat) (p2 : Int32) (l2 : Int32) (l3 : Int32) (l7 : Int32) (l8 : Int32) (s0 : Int32) (s1 : Int32) (s2 : Nat) (G : GH) (hf : (f_L_row_210 k188 p1 p2 l2 l3 l7 l8 s0 s1 s2).1 G = some (z, Gf)) : V X RL cL_row 9 8 134 wsL_row B (XQ X (xmap vI z) Gf B) G 210 [(0, .ref p1), (1, .int p2), (2, .int l2), (3, .int l3), (7, .int l7), (8, .int l8)] [.int s0, .int s1, .ref s2] := by
  unfold f_L_row_210 at hf
  refine v_xcallVi hn 4 2 [.int s1, .int s0] (c_X4_at (xl X) hfx s2 s1 s0) gL_row_X4_at rfl dv_X4_at (by decide) (by decide) rfl rfl dL_row_210 (Nat.le_of_ble_eq_true rfl) rfl hE hf (fun x8 G hf => ?_)
  refine v_aload_n 0 dL_row_213 rfl rfl ?_
  refine v_iload_n 2 dL_row_214 rfl rfl ?_
  refine v_iload_n 3 dL_row_215 rfl rfl ?_
  refine v_iconst 2 dL_row_216 (by decide) ?_
  refine v_icmp_ne 227 dL_row_217 (by decide) hf (fun _ hf => ?_) (fun _ hf => ?_)
  · refine v_iload 5 dL_row_227 rfl ?_
    refine v_xcallVi hn 4 2 [.int l2, .int l8] (c_X4_at (xl X) hfx p1 l2 l8) gL_row_X4_at rfl dv_X4_at (by decide) (by decide) rfl rfl dL_row_229 (Nat.le_of_ble_eq_true rfl) rfl hE hf (fun x9 G hf => ?_)
    refine v_icmp_eq 237 dL_row_232 (by decide) hf (fun _ hf => ?_) (fun _ hf => ?_)
    · refine v_iinc 5 (l8 + 1) [(8, .int (l8 + 1)), (0, .ref p1), (1, .int p2), (2, .int l2), (3, .int l3), (7, .int l7)] dL_row_237 rfl (by rfl) (by decide) rfl ?_
      refine v_goto 188 dL_row_240 (by decide) ?_
      refine v_sub [1, 2, 3, 4, 5, 0] rfl ?_
      exact hk188 p1 p2 l2 l3 l7 (l8 + 1) G hf
    · refine v_iconst 0 dL_row_235 (by decide) ?_
      exact v_xzret hr dL_row_236 hE hf
  · refine v_iload 5 dL_row_220 rfl ?_
    refine v_iconst 1 dL_row_222 (by decide) ?_
    refine v_iadd dL_row_223 ?_
    refine v_goto 229 dL_row_224 (by decide) ?_
    refine v_xcallVi hn 4 2 [.int l2, .int (l8 + 1)] (c_X4_at (xl X) hfx p1 l2 (l8 + 1)) gL_row_X4_at rfl dv_X4_at (by decide) (by decide) rfl rfl dL_row_229 (Nat.le_of_ble_eq_true rfl) rfl hE hf (fun x10 G hf => ?_)
    refine v_icmp_eq 237 dL_row_232 (by decide) hf (fun _ hf => ?_) (fun _ hf => ?_)
    · refine v_iinc 5 (l8 + 1) [(8, .int (l8 + 1)), (0, .ref p1), (1, .int p2), (2, .int l2), (3, .int l3), (7, .int l7)] dL_row_237 rfl (by rfl) (by decide) rfl ?_
      refine v_goto 188 dL_row_240 (by decide) ?_
      refine v_sub [1, 2, 3, 4, 5, 0] rfl ?_
      exact hk188 p1 p2 l2 l3 l7 (l8 + 1) G hf
    · refine v_iconst 0 dL_row_235 (by decide) ?_
      exact v_xzret hr dL_row_236 hE hf
set_option maxRecDepth 100000 in
set_option maxHeartbeats 4000000 in
theorem e_L_row_188 {X : VX} {B : VB} {z : (String ⊕ Int32)} {Gf : GH}  (hfx : (xl X).stackTraces = false) (hn : ∀ x ∈ (xc X).exceptionTable.toList, False) (hr : (xme X).sig.returnType = (some .boolean)) (hE : VE B (z, Gf))  : ∀ (n : Nat) (p1 : Nat) (p2 : Int32) (l2 : Int32) (l3 : Int32) (l7 : Int32) (l8 : Int32) (G : GH), (f_L_row_188 n p1 p2 l2 l3 l7 l8).1 G = some (z, Gf) → V X RL cL_row 9 8 134 wsL_row B (XQ X (xmap vI z) Gf B) G 188 [(0, .ref p1), (1, .int p2), (2, .int l2), (3, .int l3), (7, .int l7), (8, .int l8)] [] := by
  intro n
  induction n with
  | zero =>
    intro p1 p2 l2 l3 l7 l8 G hf
    have h0 : (none : Option ((String ⊕ Int32) × GH)) = some (z, Gf) := hf
    cases h0
  | succ n ih =>
    intro p1 p2 l2 l3 l7 l8 G hf
    rw [f_L_row_188.eq_2] at hf
    refine v_iload 5 dL_row_188 rfl ?_
    refine v_iload 4 dL_row_190 rfl ?_
    refine v_icmp_ge 243 dL_row_192 (by decide) hf (fun _ hf => ?_) (fun _ hf => ?_)
    · refine v_iconst 1 dL_row_243 (by decide) ?_
      exact v_xzret hr dL_row_244 hE hf
    · refine v_aload_n 0 dL_row_195 rfl rfl ?_
      refine v_iload_n 1 dL_row_196 rfl rfl ?_
      refine v_iload_n 3 dL_row_197 rfl rfl ?_
      refine v_if_ne 208 dL_row_198 (by decide) hf (fun _ hf => ?_) (fun _ hf => ?_)
      · refine v_iload 5 dL_row_208 rfl ?_
        refine v_sub [0, 1, 2, 3, 4, 5] rfl ?_
        exact e_L_row_210 (k188 := (fun y0 y1 y2 y3 y4 y5 => f_L_row_188 n y0 y1 y2 y3 y4 y5)) hfx hn hr hE (fun y0 y1 y2 y3 y4 y5 G hf => ih y0 y1 y2 y3 y4 y5 G hf) p1 p2 l2 l3 l7 l8 l8 p2 p1 G hf
      · refine v_iload 5 dL_row_201 rfl ?_
        refine v_iconst 1 dL_row_203 (by decide) ?_
        refine v_iadd dL_row_204 ?_
        refine v_goto 210 dL_row_205 (by decide) ?_
        refine v_sub [0, 1, 2, 3, 4, 5] rfl ?_
        exact e_L_row_210 (k188 := (fun y0 y1 y2 y3 y4 y5 => f_L_row_188 n y0 y1 y2 y3 y4 y5)) hfx hn hr hE (fun y0 y1 y2 y3 y4 y5 G hf => ih y0 y1 y2 y3 y4 y5 G hf) p1 p2 l2 l3 l7 l8 (l8 + 1) p2 p1 G hf
set_option maxRecDepth 100000 in
set_option maxHeartbeats 4000000 in
theorem e_L_row_183 {X : VX} {B : VB} {z : (String ⊕ Int32)} {Gf : GH}  (hfx : (xl X).stackTraces = false) (hn : ∀ x ∈ (xc X).exceptionTable.toList, False) (hr : (xme X).sig.returnType = (some .boolean)) (hE : VE B (z, Gf))  (p1 : Nat) (p2 : Int32) (l2 : Int32) (l3 : Int32) (s0 : Int32) (G : GH) (hf : (f_L_row_183 p1 p2 l2 l3 s0).1 G = some (z, Gf)) : V X RL cL_row 9 8 134 wsL_row B (XQ X (xmap vI z) Gf B) G 183 [(0, .ref p1), (1, .int p2), (2, .int l2), (3, .int l3)] [.int s0] := by
  unfold f_L_row_183 at hf
  refine v_istore [(7, .int s0), (0, .ref p1), (1, .int p2), (2, .int l2), (3, .int l3)] dL_row_183 (by decide) rfl ?_
  refine v_iconst 0 dL_row_185 (by decide) ?_
  refine v_istore [(8, .int 0), (7, .int s0), (0, .ref p1), (1, .int p2), (2, .int l2), (3, .int l3)] dL_row_186 (by decide) rfl ?_
  refine v_sub [2, 3, 4, 5, 1, 0] rfl ?_
  generalize FU = fu at hf
  exact e_L_row_188  hfx hn hr hE fu p1 p2 l2 l3 s0 0 G hf
set_option maxRecDepth 100000 in
set_option maxHeartbeats 4000000 in
theorem e_L_row_169 {X : VX} {B : VB} {z : (String ⊕ Int32)} {Gf : GH}  (hfx : (xl X).stackTraces = false) (hn : ∀ x ∈ (xc X).exceptionTable.toList, False) (hr : (xme X).sig.returnType = (some .boolean)) (hE : VE B (z, Gf))  (p1 : Nat) (p2 : Int32) (l2 : Int32) (l3 : Int32) (l4 : Int32) (l5 : Int32) (G : GH) (hf : (f_L_row_169 p1 p2 l2 l3 l4 l5).1 G = some (z, Gf)) : V X RL cL_row 9 8 134 wsL_row B (XQ X (xmap vI z) Gf B) G 169 [(0, .ref p1), (1, .int p2), (2, .int l2), (3, .int l3), (4, .int l4), (5, .int l5)] [] := by
  unfold f_L_row_169 at hf
  refine v_iload 4 dL_row_169 rfl ?_
  refine v_iload 5 dL_row_171 rfl ?_
  refine v_icmp_ge 181 dL_row_173 (by decide) hf (fun _ hf => ?_) (fun _ hf => ?_)
  · refine v_iload 5 dL_row_181 rfl ?_
    refine v_sub [0, 1, 2, 3] rfl ?_
    exact e_L_row_183 hfx hn hr hE p1 p2 l2 l3 l5 G hf
  · refine v_iload 4 dL_row_176 rfl ?_
    refine v_goto 183 dL_row_178 (by decide) ?_
    refine v_sub [0, 1, 2, 3] rfl ?_
    exact e_L_row_183 hfx hn hr hE p1 p2 l2 l3 l4 G hf
set_option maxRecDepth 100000 in
set_option maxHeartbeats 4000000 in
theorem e_L_row_148 {X : VX} {B : VB} {z : (String ⊕ Int32)} {Gf : GH}  (hfx : (xl X).stackTraces = false) (hn : ∀ x ∈ (xc X).exceptionTable.toList, False) (hr : (xme X).sig.returnType = (some .boolean)) (hE : VE B (z, Gf))  (p1 : Nat) (p2 : Int32) (l2 : Int32) (l3 : Int32) (l4 : Int32) (l5 : Int32) (l6 : Int32) (G : GH) (hf : (f_L_row_148 p1 p2 l2 l3 l4 l5 l6).1 G = some (z, Gf)) : V X RL cL_row 9 8 134 wsL_row B (XQ X (xmap vI z) Gf B) G 148 [(0, .ref p1), (1, .int p2), (2, .int l2), (3, .int l3), (4, .int l4), (5, .int l5), (6, .int l6)] [] := by
  unfold f_L_row_148 at hf
  refine v_iload_n 3 dL_row_148 rfl rfl ?_
  refine v_iconst 3 dL_row_149 (by decide) ?_
  refine v_icmp_ne 169 dL_row_150 (by decide) hf (fun _ hf => ?_) (fun _ hf => ?_)
  · refine v_sub [0, 1, 2, 3, 4, 5] rfl ?_
    exact e_L_row_169 hfx hn hr hE p1 p2 l2 l3 l4 l5 G hf
  · refine v_aload_n 0 dL_row_153 rfl rfl ?_
    refine v_iload_n 2 dL_row_154 rfl rfl ?_
    refine v_iload 5 dL_row_155 rfl ?_
    refine v_iconst 1 dL_row_157 (by decide) ?_
    refine v_isub dL_row_158 ?_
    refine v_xcallVi hn 4 2 [.int l2, .int (l5 - 1)] (c_X4_at (xl X) hfx p1 l2 (l5 - 1)) gL_row_X4_at rfl dv_X4_at (by decide) (by decide) rfl rfl dL_row_159 (Nat.le_of_ble_eq_true rfl) rfl hE hf (fun x11 G hf => ?_)
    refine v_iload 6 dL_row_162 rfl ?_
    refine v_icmp_eq 169 dL_row_164 (by decide) hf (fun _ hf => ?_) (fun _ hf => ?_)
    · refine v_sub [0, 1, 2, 3, 4, 5] rfl ?_
      exact e_L_row_169 hfx hn hr hE p1 p2 l2 l3 l4 l5 G hf
    · refine v_iconst 0 dL_row_167 (by decide) ?_
      exact v_xzret hr dL_row_168 hE hf
set_option maxRecDepth 100000 in
set_option maxHeartbeats 4000000 in
theorem e_L_row_132 {X : VX} {B : VB} {z : (String ⊕ Int32)} {Gf : GH}  (hfx : (xl X).stackTraces = false) (hn : ∀ x ∈ (xc X).exceptionTable.toList, False) (hr : (xme X).sig.returnType = (some .boolean)) (hE : VE B (z, Gf))  (p1 : Nat) (p2 : Int32) (l2 : Int32) (l3 : Int32) (l4 : Int32) (l5 : Int32) (l6 : Int32) (G : GH) (hf : (f_L_row_132 p1 p2 l2 l3 l4 l5 l6).1 G = some (z, Gf)) : V X RL cL_row 9 8 134 wsL_row B (XQ X (xmap vI z) Gf B) G 132 [(0, .ref p1), (1, .int p2), (2, .int l2), (3, .int l3), (4, .int l4), (5, .int l5), (6, .int l6)] [] := by
  unfold f_L_row_132 at hf
  refine v_iload_n 3 dL_row_132 rfl rfl ?_
  refine v_iconst 2 dL_row_133 (by decide) ?_
  refine v_icmp_ne 148 dL_row_134 (by decide) hf (fun _ hf => ?_) (fun _ hf => ?_)
  · refine v_sub [0, 1, 2, 3, 4, 5, 6] rfl ?_
    exact e_L_row_148 hfx hn hr hE p1 p2 l2 l3 l4 l5 l6 G hf
  · refine v_aload_n 0 dL_row_137 rfl rfl ?_
    refine v_iload_n 2 dL_row_138 rfl rfl ?_
    refine v_iconst 0 dL_row_139 (by decide) ?_
    refine v_xcallVi hn 4 2 [.int l2, .int 0] (c_X4_at (xl X) hfx p1 l2 0) gL_row_X4_at rfl dv_X4_at (by decide) (by decide) rfl rfl dL_row_140 (Nat.le_of_ble_eq_true rfl) rfl hE hf (fun x12 G hf => ?_)
    refine v_iload 6 dL_row_143 rfl ?_
    refine v_icmp_ne 167 dL_row_145 (by decide) hf (fun _ hf => ?_) (fun _ hf => ?_)
    · refine v_iconst 0 dL_row_167 (by decide) ?_
      exact v_xzret hr dL_row_168 hE hf
    · refine v_sub [0, 1, 2, 3, 4, 5, 6] rfl ?_
      exact e_L_row_148 hfx hn hr hE p1 p2 l2 l3 l4 l5 l6 G hf
set_option maxRecDepth 100000 in
set_option maxHeartbeats 4000000 in
theorem e_L_row_113 {X : VX} {B : VB} {z : (String ⊕ Int32)} {Gf : GH}  (hfx : (xl X).stackTraces = false) (hn : ∀ x ∈ (xc X).exceptionTable.toList, False) (hr : (xme X).sig.returnType = (some .boolean)) (hE : VE B (z, Gf))  (p1 : Nat) (p2 : Int32) (l2 : Int32) (l3 : Int32) (l4 : Int32) (l5 : Int32) (l6 : Int32) (G : GH) (hf : (f_L_row_113 p1 p2 l2 l3 l4 l5 l6).1 G = some (z, Gf)) : V X RL cL_row 9 8 134 wsL_row B (XQ X (xmap vI z) Gf B) G 113 [(0, .ref p1), (1, .int p2), (2, .int l2), (3, .int l3), (4, .int l4), (5, .int l5), (6, .int l6)] [] := by
  unfold f_L_row_113 at hf
  refine v_iload_n 3 dL_row_113 rfl rfl ?_
  refine v_iconst 1 dL_row_114 (by decide) ?_
  refine v_icmp_ne 132 dL_row_115 (by decide) hf (fun _ hf => ?_) (fun _ hf => ?_)
  · refine v_sub [0, 1, 2, 3, 4, 5, 6] rfl ?_
    exact e_L_row_132 hfx hn hr hE p1 p2 l2 l3 l4 l5 l6 G hf
  · refine v_aload_n 0 dL_row_118 rfl rfl ?_
    refine v_iload_n 1 dL_row_119 rfl rfl ?_
    refine v_iload 4 dL_row_120 rfl ?_
    refine v_iconst 1 dL_row_122 (by decide) ?_
    refine v_isub dL_row_123 ?_
    refine v_xcallVi hn 4 2 [.int p2, .int (l4 - 1)] (c_X4_at (xl X) hfx p1 p2 (l4 - 1)) gL_row_X4_at rfl dv_X4_at (by decide) (by decide) rfl rfl dL_row_124 (Nat.le_of_ble_eq_true rfl) rfl hE hf (fun x13 G hf => ?_)
    refine v_iload 6 dL_row_127 rfl ?_
    refine v_icmp_ne 167 dL_row_129 (by decide) hf (fun _ hf => ?_) (fun _ hf => ?_)
    · refine v_iconst 0 dL_row_167 (by decide) ?_
      exact v_xzret hr dL_row_168 hE hf
    · refine v_sub [0, 1, 2, 3, 4, 5, 6] rfl ?_
      exact e_L_row_132 hfx hn hr hE p1 p2 l2 l3 l4 l5 l6 G hf
set_option maxRecDepth 100000 in
set_option maxHeartbeats 4000000 in
theorem e_L_row_67 {X : VX} {B : VB} {z : (String ⊕ Int32)} {Gf : GH}  (hfx : (xl X).stackTraces = false) (hn : ∀ x ∈ (xc X).exceptionTable.toList, False) (hr : (xme X).sig.returnType = (some .boolean)) (hE : VE B (z, Gf))  (p1 : Nat) (p2 : Int32) (l2 : Int32) (l3 : Int32) (l4 : Int32) (l5 : Int32) (s0 : Int32) (s1 : Int32) (G : GH) (hf : (f_L_row_67 p1 p2 l2 l3 l4 l5 s0 s1).1 G = some (z, Gf)) : V X RL cL_row 9 8 134 wsL_row B (XQ X (xmap vI z) Gf B) G 67 [(0, .ref p1), (1, .int p2), (2, .int l2), (3, .int l3), (4, .int l4), (5, .int l5)] [.int s0, .int s1] := by
  unfold f_L_row_67 at hf
  refine v_icmp_ne 89 dL_row_67 (by decide) hf (fun _ hf => ?_) (fun _ hf => ?_)
  · refine v_iconst 0 dL_row_89 (by decide) ?_
    exact v_xzret hr dL_row_90 hE hf
  · refine v_aload_n 0 dL_row_70 rfl rfl ?_
    refine v_iload_n 1 dL_row_71 rfl rfl ?_
    refine v_bipush 9 dL_row_72 (by decide) ?_
    refine v_xcallVi hn 4 2 [.int p2, .int 9] (c_X4_version (xl X) hfx p1 p2 9) gL_row_X4_version rfl dv_X4_version (by decide) (by decide) rfl rfl dL_row_74 (Nat.le_of_ble_eq_true rfl) rfl hE hf (fun x5 G hf => ?_)
    refine v_aload_n 0 dL_row_77 rfl rfl ?_
    refine v_iload_n 2 dL_row_78 rfl rfl ?_
    refine v_bipush 9 dL_row_79 (by decide) ?_
    refine v_xcallVi hn 4 2 [.int l2, .int 9] (c_X4_version (xl X) hfx p1 l2 9) gL_row_X4_version rfl dv_X4_version (by decide) (by decide) rfl rfl dL_row_81 (Nat.le_of_ble_eq_true rfl) rfl hE hf (fun x6 G hf => ?_)
    refine v_iconst 1 dL_row_84 (by decide) ?_
    refine v_iadd dL_row_85 ?_
    refine v_icmp_eq 91 dL_row_86 (by decide) hf (fun _ hf => ?_) (fun _ hf => ?_)
    · refine v_aload_n 0 dL_row_91 rfl rfl ?_
      refine v_iload_n 1 dL_row_92 rfl rfl ?_
      refine v_xcallVi hn 4 1 [.int p2] (c_X4_value (xl X) hfx p1 p2) gL_row_X4_value rfl dv_X4_value (by decide) (by decide) rfl rfl dL_row_93 (Nat.le_of_ble_eq_true rfl) rfl hE hf (fun x7 G hf => ?_)
      refine v_istore [(6, .int x7), (0, .ref p1), (1, .int p2), (2, .int l2), (3, .int l3), (4, .int l4), (5, .int l5)] dL_row_96 (by decide) rfl ?_
      refine v_iload_n 4 dL_row_98 rfl rfl ?_
      refine v_if_ne 113 dL_row_99 (by decide) hf (fun _ hf => ?_) (fun _ hf => ?_)
      · refine v_sub [1, 2, 3, 4, 5, 6, 0] rfl ?_
        exact e_L_row_113 hfx hn hr hE p1 p2 l2 l3 l4 l5 x7 G hf
      · refine v_aload_n 1 dL_row_102 rfl rfl ?_
        refine v_iload_n 2 dL_row_103 rfl rfl ?_
        refine v_iconst 0 dL_row_104 (by decide) ?_
        refine v_xcallVi hn 4 2 [.int p2, .int 0] (c_X4_at (xl X) hfx p1 p2 0) gL_row_X4_at rfl dv_X4_at (by decide) (by decide) rfl rfl dL_row_105 (Nat.le_of_ble_eq_true rfl) rfl hE hf (fun x14 G hf => ?_)
        refine v_iload 0 dL_row_108 rfl ?_
        refine v_icmp_ne 167 dL_row_110 (by decide) hf (fun _ hf => ?_) (fun _ hf => ?_)
        · refine v_iconst 0 dL_row_167 (by decide) ?_
          exact v_xzret hr dL_row_168 hE hf
        · refine v_sub [1, 2, 3, 4, 5, 6, 0] rfl ?_
          exact e_L_row_113 hfx hn hr hE p1 p2 l2 l3 l4 l5 x7 G hf
    · refine v_iconst 0 dL_row_89 (by decide) ?_
      exact v_xzret hr dL_row_90 hE hf
set_option maxRecDepth 100000 in
set_option maxHeartbeats 4000000 in
theorem e_L_row_0 {X : VX} {B : VB} {z : (String ⊕ Int32)} {Gf : GH}  (hfx : (xl X).stackTraces = false) (hn : ∀ x ∈ (xc X).exceptionTable.toList, False) (hr : (xme X).sig.returnType = (some .boolean)) (hE : VE B (z, Gf))  (p1 : Nat) (p2 : Int32) (G : GH) (hf : (f_L_row p1 p2).1 G = some (z, Gf)) : V X RL cL_row 9 8 134 wsL_row B (XQ X (xmap vI z) Gf B) G 0 [(0, .ref p1), (1, .int p2)] [] := by
  unfold f_L_row at hf
  refine v_aload_n 0 dL_row_0 rfl rfl ?_
  refine v_iload_n 1 dL_row_1 rfl rfl ?_
  refine v_iconst 0 dL_row_2 (by decide) ?_
  refine v_xcallVi hn 4 2 [.int p2, .int 0] (c_X4_version (xl X) hfx p1 p2 0) gL_row_X4_version rfl dv_X4_version (by decide) (by decide) rfl rfl dL_row_3 (Nat.le_of_ble_eq_true rfl) rfl hE hf (fun x1 G hf => ?_)
  refine v_istore_n [(2, .int x1), (0, .ref p1), (1, .int p2)] dL_row_6 rfl (by decide) rfl ?_
  refine v_aload_n 1 dL_row_7 rfl rfl ?_
  refine v_iload_n 2 dL_row_8 rfl rfl ?_
  refine v_bipush 8 dL_row_9 (by decide) ?_
  refine v_xcallVi hn 4 2 [.int p2, .int 8] (c_X4_version (xl X) hfx p1 p2 8) gL_row_X4_version rfl dv_X4_version (by decide) (by decide) rfl rfl dL_row_11 (Nat.le_of_ble_eq_true rfl) rfl hE hf (fun x2 G hf => ?_)
  refine v_istore_n [(3, .int x2), (2, .int x1), (0, .ref p1), (1, .int p2)] dL_row_14 rfl (by decide) rfl ?_
  refine v_aload_n 2 dL_row_15 rfl rfl ?_
  refine v_iload_n 3 dL_row_16 rfl rfl ?_
  refine v_iconst 1 dL_row_17 (by decide) ?_
  refine v_xcallVi hn 4 2 [.int p2, .int 1] (c_X4_version (xl X) hfx p1 p2 1) gL_row_X4_version rfl dv_X4_version (by decide) (by decide) rfl rfl dL_row_18 (Nat.le_of_ble_eq_true rfl) rfl hE hf (fun x3 G hf => ?_)
  refine v_istore [(4, .int x3), (3, .int x2), (2, .int x1), (0, .ref p1), (1, .int p2)] dL_row_21 (by decide) rfl ?_
  refine v_aload_n 3 dL_row_23 rfl rfl ?_
  refine v_iload_n 2 dL_row_24 rfl rfl ?_
  refine v_iconst 1 dL_row_25 (by decide) ?_
  refine v_xcallVi hn 4 2 [.int x1, .int 1] (c_X4_version (xl X) hfx p1 x1 1) gL_row_X4_version rfl dv_X4_version (by decide) (by decide) rfl rfl dL_row_26 (Nat.le_of_ble_eq_true rfl) rfl hE hf (fun x4 G hf => ?_)
  refine v_istore [(5, .int x4), (4, .int x3), (3, .int x2), (2, .int x1), (0, .ref p1), (1, .int p2)] dL_row_29 (by decide) rfl ?_
  refine v_iload_n 3 dL_row_31 rfl rfl ?_
  refine v_if_lt 89 dL_row_32 (by decide) hf (fun _ hf => ?_) (fun _ hf => ?_)
  · refine v_iconst 0 dL_row_89 (by decide) ?_
    exact v_xzret hr dL_row_90 hE hf
  · refine v_iload_n 3 dL_row_35 rfl rfl ?_
    refine v_iload_n 5 dL_row_36 rfl rfl ?_
    refine v_icmp_ge 89 dL_row_37 (by decide) hf (fun _ hf => ?_) (fun _ hf => ?_)
    · refine v_iconst 0 dL_row_89 (by decide) ?_
      exact v_xzret hr dL_row_90 hE hf
    · refine v_iload_n 2 dL_row_40 rfl rfl ?_
      refine v_if_lt 89 dL_row_41 (by decide) hf (fun _ hf => ?_) (fun _ hf => ?_)
      · refine v_iconst 0 dL_row_89 (by decide) ?_
        exact v_xzret hr dL_row_90 hE hf
      · refine v_iload_n 2 dL_row_44 rfl rfl ?_
        refine v_iconst 3 dL_row_45 (by decide) ?_
        refine v_icmp_gt 89 dL_row_46 (by decide) hf (fun _ hf => ?_) (fun _ hf => ?_)
        · refine v_iconst 0 dL_row_89 (by decide) ?_
          exact v_xzret hr dL_row_90 hE hf
        · refine v_iload 1 dL_row_49 rfl ?_
          refine v_iload_n 2 dL_row_51 rfl rfl ?_
          refine v_iconst 2 dL_row_52 (by decide) ?_
          refine v_icmp_ge 63 dL_row_53 (by decide) hf (fun _ hf => ?_) (fun _ hf => ?_)
          · refine v_iload 0 dL_row_63 rfl ?_
            refine v_iconst 1 dL_row_65 (by decide) ?_
            refine v_isub dL_row_66 ?_
            refine v_sub [4, 5, 3, 2, 1, 0] rfl ?_
            exact e_L_row_67 hfx hn hr hE p1 p2 x1 x2 x3 x4 (x4 - 1) x3 G hf
          · refine v_iload 0 dL_row_56 rfl ?_
            refine v_iconst 1 dL_row_58 (by decide) ?_
            refine v_iadd dL_row_59 ?_
            refine v_goto 67 dL_row_60 (by decide) ?_
            refine v_sub [4, 5, 3, 2, 1, 0] rfl ?_
            exact e_L_row_67 hfx hn hr hE p1 p2 x1 x2 x3 x4 (x4 + 1) x3 G hf
theorem c_L_row (l : Launch) (hfl : l.stackTraces = false) (p1 : Nat) (p2 : Int32) : CX l yL_row wsL_row 8 134 [.ref p1, .int p2] vI (f_L_row p1 p2) := CX.start hfl RL rfl (by decide +kernel) rfl (Nat.le_of_ble_eq_true rfl) (fun X G z Gf hl hn hr hf => e_L_row_0 (by rw [hl]; exact hfl) hn hr ⟨rfl, rfl⟩ p1 p2 G hf)
theorem dn_L_row : yL_row.cls ≠ "java/lang/invoke/MethodHandle" ∧ yL_row.cls ≠ "java/lang/invoke/VarHandle" ∧ (parseMethodDescriptor yL_row.desc).map (fun d => d.parameters.length) = some 2 := by decide +kernel
