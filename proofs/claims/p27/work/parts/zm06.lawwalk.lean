/-! walks of the law's methods (printed by wip/p27/all.py) -/
theorem m_L_up_k8 : Cond.constant RL 8 2147483647 ∈ wsL_up := by decide +kernel
set_option maxRecDepth 100000 in
set_option maxHeartbeats 4000000 in
theorem e_L_up_0 {X : VX} {B : VB} {z : Int32} {Gf : GH}  (hfx : (xl X).stackTraces = false) (hn : (xme X).name = "up") (hr : (xme X).sig.returnType = (some .int)) (hE : VE B (z, Gf))  (p1 : Int32) (p2 : Int32) (G : GH) (hf : (f_L_up p1 p2).1 G = some (z, Gf)) : V X RL cL_up 2 0 0 wsL_up B (QE X (vI z) Gf B) G 0 [(0, .int p1), (1, .int p2)] [] := by
  unfold f_L_up at hf
  refine v_iload_n 0 dL_up_0 rfl rfl ?_
  refine v_ldci m_L_up_k8 dL_up_1 ?_
  refine v_iand dL_up_3 ?_
  refine v_iload_n 1 dL_up_4 rfl rfl ?_
  refine v_irem dL_up_5 hf (fun x1 hf => ?_)
  exact v_iret hr dL_up_6 hE hf
theorem c_L_up (l : Launch) (hfl : l.stackTraces = false) (p1 : Int32) (p2 : Int32) : CM l yL_up wsL_up 0 0 [.int p1, .int p2] vI (f_L_up p1 p2) := CM.start hfl RL rfl (by decide +kernel) rfl (Nat.le_of_ble_eq_true rfl) (fun X G z Gf hl hn hr hf => e_L_up_0 (by rw [hl]; exact hfl) hn hr ⟨rfl, rfl⟩ p1 p2 G hf)
theorem dn_L_up : yL_up.cls ≠ "java/lang/invoke/MethodHandle" ∧ yL_up.cls ≠ "java/lang/invoke/VarHandle" ∧ (parseMethodDescriptor yL_up.desc).map (fun d => d.parameters.length) = some 2 := by decide +kernel
theorem m_L_mark_k27 : Cond.constantLong RL 27 (31) ∈ wsL_mark := by decide +kernel
set_option maxRecDepth 100000 in
set_option maxHeartbeats 4000000 in
theorem e_L_mark_63 {X : VX} {B : VB} {z : (String ⊕ Int64)} {Gf : GH} {k20 : Nat → Int64 → Int32 → MX Int64} {k32 : Nat → Int64 → Int32 → Int32 → MX Int64} (hfx : (xl X).stackTraces = false) (hn : ∀ x ∈ (xc X).exceptionTable.toList, False) (hr : (xme X).sig.returnType = (some .long)) (hE : VE B (z, Gf)) (hk20 : ∀ (y0 : Nat) (y1 : Int64) (y2 : Int32) (G : GH), (k20 y0 y1 y2).1 G = some (z, Gf) → V X RL cL_mark 5 8 134 wsL_mark B (XQ X (xmap vL z) Gf B) G 20 [(0, .ref y0), (1, .long y1), (3, .int y2)] []) (hk32 : ∀ (y0 : Nat) (y1 : Int64) (y2 : Int32) (y3 : Int32) (G : GH), (k32 y0 y1 y2 y3).1 G = some (z, Gf) → V X RL cL_mark 5 8 134 wsL_mark B (XQ X (xmap vL z) Gf B) G 32 [(0, .ref y0), (1, .long y1), (3, .int y2), (4, .int y3)] []) : ∀ (n : Nat) (p1 : Nat) (l1 : Int64) (l3 : Int32) (l4 : Int32) (G : GH), (f_L_mark_63 k20 k32 n p1 l1 l3 l4).1 G = some (z, Gf) → V X RL cL_mark 5 8 134 wsL_mark B (XQ X (xmap vL z) Gf B) G 63 [(0, .ref p1), (1, .long l1), (3, .int l3), (4, .int l4)] [] := by
  intro n
  induction n with
  | zero =>
    intro p1 l1 l3 l4 G hf
    have h0 : (none : Option ((String ⊕ Int64) × GH)) = some (z, Gf) := hf
    cases h0
  | succ n ih =>
    intro p1 l1 l3 l4 G hf
    rw [f_L_mark_63.eq_2] at hf
    refine v_iload 3 dL_mark_63 rfl ?_
    refine v_aload_n 0 dL_mark_65 rfl rfl ?_
    refine v_iload_n 2 dL_mark_66 rfl rfl ?_
    refine v_iconst 1 dL_mark_67 (by decide) ?_
    refine v_xcallVi hn 4 2 [.int l3, .int 1] (c_X4_version (xl X) hfx p1 l3 1) gL_mark_X4_version rfl dv_X4_version (by decide) (by decide) rfl rfl dL_mark_68 (Nat.le_of_ble_eq_true rfl) rfl hE hf (fun x4 G hf => ?_)
    refine v_icmp_ge 95 dL_mark_71 (by decide) hf (fun _ hf => ?_) (fun _ hf => ?_)
    · refine v_iinc 2 (l3 + 1) [(3, .int (l3 + 1)), (0, .ref p1), (1, .long l1), (4, .int l4)] dL_mark_95 rfl (by rfl) (by decide) rfl ?_
      refine v_goto 20 dL_mark_98 (by decide) ?_
      refine v_sub [1, 2, 0] rfl ?_
      exact hk20 p1 l1 (l3 + 1) G hf
    · refine v_ldc2 m_L_mark_k27 dL_mark_74 ?_
      refine v_lload_n 1 dL_mark_77 rfl rfl ?_
      refine v_lmul dL_mark_78 ?_
      refine v_aload_n 0 dL_mark_79 rfl rfl ?_
      refine v_iload_n 2 dL_mark_80 rfl rfl ?_
      refine v_iload 3 dL_mark_81 rfl ?_
      refine v_xcallVi hn 4 2 [.int l3, .int l4] (c_X4_at (xl X) hfx p1 l3 l4) gL_mark_X4_at rfl dv_X4_at (by decide) (by decide) rfl rfl dL_mark_83 (Nat.le_of_ble_eq_true rfl) rfl hE hf (fun x5 G hf => ?_)
      refine v_i2l dL_mark_86 ?_
      refine v_ladd dL_mark_87 ?_
      refine v_lstore_n [(1, .long (((31 : Int64) * l1) + (x5.toInt64))), (0, .ref p1), (3, .int l3), (4, .int l4)] dL_mark_88 rfl (by decide) rfl ?_
      refine v_iinc 3 (l4 + 1) [(4, .int (l4 + 1)), (1, .long (((31 : Int64) * l1) + (x5.toInt64))), (0, .ref p1), (3, .int l3)] dL_mark_89 rfl (by rfl) (by decide) rfl ?_
      refine v_goto 63 dL_mark_92 (by decide) ?_
      refine v_sub [2, 1, 3, 0] rfl ?_
      exact ih p1 (((31 : Int64) * l1) + (x5.toInt64)) l3 (l4 + 1) G hf
set_option maxRecDepth 100000 in
set_option maxHeartbeats 4000000 in
theorem e_L_mark_32 {X : VX} {B : VB} {z : (String ⊕ Int64)} {Gf : GH} {k20 : Nat → Int64 → Int32 → MX Int64} (hfx : (xl X).stackTraces = false) (hn : ∀ x ∈ (xc X).exceptionTable.toList, False) (hr : (xme X).sig.returnType = (some .long)) (hE : VE B (z, Gf)) (hk20 : ∀ (y0 : Nat) (y1 : Int64) (y2 : Int32) (G : GH), (k20 y0 y1 y2).1 G = some (z, Gf) → V X RL cL_mark 5 8 134 wsL_mark B (XQ X (xmap vL z) Gf B) G 20 [(0, .ref y0), (1, .long y1), (3, .int y2)] []) : ∀ (n : Nat) (p1 : Nat) (l1 : Int64) (l3 : Int32) (l4 : Int32) (G : GH), (f_L_mark_32 k20 n p1 l1 l3 l4).1 G = some (z, Gf) → V X RL cL_mark 5 8 134 wsL_mark B (XQ X (xmap vL z) Gf B) G 32 [(0, .ref p1), (1, .long l1), (3, .int l3), (4, .int l4)] [] := by
  intro n
  induction n with
  | zero =>
    intro p1 l1 l3 l4 G hf
    have h0 : (none : Option ((String ⊕ Int64) × GH)) = some (z, Gf) := hf
    cases h0
  | succ n ih =>
    intro p1 l1 l3 l4 G hf
    rw [f_L_mark_32.eq_2] at hf
    refine v_iload 3 dL_mark_32 rfl ?_
    refine v_bipush 10 dL_mark_34 (by decide) ?_
    refine v_icmp_ge 60 dL_mark_36 (by decide) hf (fun _ hf => ?_) (fun _ hf => ?_)
    · refine v_iconst 0 dL_mark_60 (by decide) ?_
      refine v_istore [(4, .int 0), (0, .ref p1), (1, .long l1), (3, .int l3)] dL_mark_61 (by decide) rfl ?_
      refine v_sub [1, 2, 3, 0] rfl ?_
      exact e_L_mark_63 hfx hn hr hE hk20 (fun y0 y1 y2 y3 G hf => ih y0 y1 y2 y3 G hf) FU p1 l1 l3 0 G hf
    · refine v_ldc2 m_L_mark_k27 dL_mark_39 ?_
      refine v_lload_n 1 dL_mark_42 rfl rfl ?_
      refine v_lmul dL_mark_43 ?_
      refine v_aload_n 0 dL_mark_44 rfl rfl ?_
      refine v_iload_n 2 dL_mark_45 rfl rfl ?_
      refine v_iload 3 dL_mark_46 rfl ?_
      refine v_xcallVi hn 4 2 [.int l3, .int l4] (c_X4_version (xl X) hfx p1 l3 l4) gL_mark_X4_version rfl dv_X4_version (by decide) (by decide) rfl rfl dL_mark_48 (Nat.le_of_ble_eq_true rfl) rfl hE hf (fun x6 G hf => ?_)
      refine v_i2l dL_mark_51 ?_
      refine v_ladd dL_mark_52 ?_
      refine v_lstore_n [(1, .long (((31 : Int64) * l1) + (x6.toInt64))), (0, .ref p1), (3, .int l3), (4, .int l4)] dL_mark_53 rfl (by decide) rfl ?_
      refine v_iinc 3 (l4 + 1) [(4, .int (l4 + 1)), (1, .long (((31 : Int64) * l1) + (x6.toInt64))), (0, .ref p1), (3, .int l3)] dL_mark_54 rfl (by rfl) (by decide) rfl ?_
      refine v_goto 32 dL_mark_57 (by decide) ?_
      refine v_sub [2, 1, 3, 0] rfl ?_
      exact ih p1 (((31 : Int64) * l1) + (x6.toInt64)) l3 (l4 + 1) G hf
set_option maxRecDepth 100000 in
set_option maxHeartbeats 4000000 in
theorem e_L_mark_20 {X : VX} {B : VB} {z : (String ⊕ Int64)} {Gf : GH}  (hfx : (xl X).stackTraces = false) (hn : ∀ x ∈ (xc X).exceptionTable.toList, False) (hr : (xme X).sig.returnType = (some .long)) (hE : VE B (z, Gf))  : ∀ (n : Nat) (p1 : Nat) (l1 : Int64) (l3 : Int32) (G : GH), (f_L_mark_20 n p1 l1 l3).1 G = some (z, Gf) → V X RL cL_mark 5 8 134 wsL_mark B (XQ X (xmap vL z) Gf B) G 20 [(0, .ref p1), (1, .long l1), (3, .int l3)] [] := by
  intro n
  induction n with
  | zero =>
    intro p1 l1 l3 G hf
    have h0 : (none : Option ((String ⊕ Int64) × GH)) = some (z, Gf) := hf
    cases h0
  | succ n ih =>
    intro p1 l1 l3 G hf
    rw [f_L_mark_20.eq_2] at hf
    refine v_iload_n 2 dL_mark_20 rfl rfl ?_
    refine v_aload_n 0 dL_mark_21 rfl rfl ?_
    refine v_iconst 0 dL_mark_22 (by decide) ?_
    refine v_xcallVi hn 4 1 [.int 0] (c_X4_count (xl X) hfx p1 0) gL_mark_X4_count rfl dv_X4_count (by decide) (by decide) rfl rfl dL_mark_23 (Nat.le_of_ble_eq_true rfl) rfl hE hf (fun x3 G hf => ?_)
    refine v_icmp_ge 101 dL_mark_26 (by decide) hf (fun _ hf => ?_) (fun _ hf => ?_)
    · refine v_lload_n 1 dL_mark_101 rfl rfl ?_
      exact v_xlret hr dL_mark_102 hE hf
    · refine v_iconst 0 dL_mark_29 (by decide) ?_
      refine v_istore [(4, .int 0), (0, .ref p1), (1, .long l1), (3, .int l3)] dL_mark_30 (by decide) rfl ?_
      refine v_sub [1, 2, 3, 0] rfl ?_
      exact e_L_mark_32 hfx hn hr hE (fun y0 y1 y2 G hf => ih y0 y1 y2 G hf) FU p1 l1 l3 0 G hf
set_option maxRecDepth 100000 in
set_option maxHeartbeats 4000000 in
theorem e_L_mark_0 {X : VX} {B : VB} {z : (String ⊕ Int64)} {Gf : GH}  (hfx : (xl X).stackTraces = false) (hn : ∀ x ∈ (xc X).exceptionTable.toList, False) (hr : (xme X).sig.returnType = (some .long)) (hE : VE B (z, Gf))  (p1 : Nat) (G : GH) (hf : (f_L_mark p1).1 G = some (z, Gf)) : V X RL cL_mark 5 8 134 wsL_mark B (XQ X (xmap vL z) Gf B) G 0 [(0, .ref p1)] [] := by
  unfold f_L_mark at hf
  refine v_ldc2 m_L_mark_k27 dL_mark_0 ?_
  refine v_aload_n 0 dL_mark_3 rfl rfl ?_
  refine v_iconst 0 dL_mark_4 (by decide) ?_
  refine v_xcallVi hn 4 1 [.int 0] (c_X4_setting (xl X) hfx p1 0) gL_mark_X4_setting rfl dv_X4_setting (by decide) (by decide) rfl rfl dL_mark_5 (Nat.le_of_ble_eq_true rfl) rfl hE hf (fun x1 G hf => ?_)
  refine v_i2l dL_mark_8 ?_
  refine v_lmul dL_mark_9 ?_
  refine v_aload_n 0 dL_mark_10 rfl rfl ?_
  refine v_iconst 1 dL_mark_11 (by decide) ?_
  refine v_xcallVi hn 4 1 [.int 1] (c_X4_setting (xl X) hfx p1 1) gL_mark_X4_setting rfl dv_X4_setting (by decide) (by decide) rfl rfl dL_mark_12 (Nat.le_of_ble_eq_true rfl) rfl hE hf (fun x2 G hf => ?_)
  refine v_i2l dL_mark_15 ?_
  refine v_ladd dL_mark_16 ?_
  refine v_lstore_n [(1, .long (((31 : Int64) * (x1.toInt64)) + (x2.toInt64))), (0, .ref p1)] dL_mark_17 rfl (by decide) rfl ?_
  refine v_iconst 0 dL_mark_18 (by decide) ?_
  refine v_istore_n [(3, .int 0), (1, .long (((31 : Int64) * (x1.toInt64)) + (x2.toInt64))), (0, .ref p1)] dL_mark_19 rfl (by decide) rfl ?_
  refine v_sub [2, 1, 0] rfl ?_
  exact e_L_mark_20 hfx hn hr hE FU p1 (((31 : Int64) * (x1.toInt64)) + (x2.toInt64)) 0 G hf
theorem c_L_mark (l : Launch) (hfl : l.stackTraces = false) (p1 : Nat) : CX l yL_mark wsL_mark 8 134 [.ref p1] vL (f_L_mark p1) := CX.start hfl RL rfl (by decide +kernel) rfl (Nat.le_of_ble_eq_true rfl) (fun X G z Gf hl hn hr hf => e_L_mark_0 (by rw [hl]; exact hfl) hn hr ⟨rfl, rfl⟩ p1 G hf)
theorem dn_L_mark : yL_mark.cls ≠ "java/lang/invoke/MethodHandle" ∧ yL_mark.cls ≠ "java/lang/invoke/VarHandle" ∧ (parseMethodDescriptor yL_mark.desc).map (fun d => d.parameters.length) = some 1 := by decide +kernel
set_option maxRecDepth 100000 in
set_option maxHeartbeats 4000000 in
theorem e_L_row_210 {X : VX} {B : VB} {z : (String ⊕ Int32)} {Gf : GH} {k188 : Nat → Int32 → Int32 → Int32 → Int32 → Int32 → MX Int32} (hfx : (xl X).stackTraces = false) (hn : ∀ x ∈ (xc X).exceptionTable.toList, False) (hr : (xme X).sig.returnType = (some .boolean)) (hE : VE B (z, Gf)) (hk188 : ∀ (y0 : Nat) (y1 : Int32) (y2 : Int32) (y3 : Int32) (y4 : Int32) (y5 : Int32) (G : GH), (k188 y0 y1 y2 y3 y4 y5).1 G = some (z, Gf) → V X RL cL_row 9 8 134 wsL_row B (XQ X (xmap vI z) Gf B) G 188 [(0, .ref y0), (1, .int y1), (2, .int y2), (3, .int y3), (7, .int y4), (8, .int y5)] []) (p1 : Nat) (p2 : Int32) (l2 : Int32) (l3 : Int32) (l7 : Int32) (l8 : Int32) (s0 : Int32) (s1 : Int32) (s2 : Nat) (G : GH) (hf : (f_L_row_210 k188 p1 p2 l2 l3 l7 l8 s0 s1 s2).1 G = some (z, Gf)) : V X RL cL_row 9 8 134 wsL_row B (XQ X (xmap vI z) Gf B) G 210 [(0, .ref p1), (1, .int p2), (2, .int l2), (3, .int l3), (7, .int l7), (8, .int l8)] [.int s0, .int s1, .ref s2] := by
  unfold f_L_row_210 at hf
  refine v_xcallVi hn 4 2 [.int s1, .int s0] (c_X4_at (xl X) hfx s2 s1 s0) gL_row_X4_at rfl dv_X4_at (by decide) (by decide) rfl rfl dL_row_210 (Nat.le_of_ble_eq_true rfl) rfl hE hf (fun x8 G hf => ?_)
  refine v_aload_n 0 dL_row_213 rfl rfl ?_
  refine v_iload_n 2 dL_row_214 rfl rfl ?_
  refine v_iload_n 3 dL_row_215 rfl rfl ?_
  refine v_iconst 2 dL_row_216 (by decide) ?_
  refine v_icmp_ne 227 dL_row_217 (by decide) hf (fun _ hf => ?_) (fun _ hf => ?_)
  · refine v_iload 5 dL_row_227 rfl ?_
    refine v_xcallVi hn 4 2 [.int l2, .int l8] (c_X4_at (xl X) hfx p1 l2 l8) gL_row_X4_at rfl dv_X4_at (by decide) (by decide) rfl rfl dL_row_229 (Nat.le_of_ble_eq_true rfl) rfl hE hf (fun x9 G hf => ?_)
    refine v_icmp_eq 237 dL_row_232 (by decide) hf (fun _ hf => ?_) (fun _ hf => ?_)
    · refine v_iinc 5 (l8 + 1) [(8, .int (l8 + 1)), (0, .ref p1), (1, .int p2), (2, .int l2), (3, .int l3), (7, .int l7)] dL_row_237 rfl (by rfl) (by decide) rfl ?_
      refine v_goto 188 dL_row_240 (by decide) ?_
      refine v_sub [1, 2, 3, 4, 5, 0] rfl ?_
      exact hk188 p1 p2 l2 l3 l7 (l8 + 1) G hf
    · refine v_iconst 0 dL_row_235 (by decide) ?_
      exact v_xzret hr dL_row_236 hE hf
  · refine v_iload 5 dL_row_220 rfl ?_
    refine v_iconst 1 dL_row_222 (by decide) ?_
    refine v_iadd dL_row_223 ?_
    refine v_goto 229 dL_row_224 (by decide) ?_
    refine v_xcallVi hn 4 2 [.int l2, .int (l8 + 1)] (c_X4_at (xl X) hfx p1 l2 (l8 + 1)) gL_row_X4_at rfl dv_X4_at (by decide) (by decide) rfl rfl dL_row_229 (Nat.le_of_ble_eq_true rfl) rfl hE hf (fun x10 G hf => ?_)
    refine v_icmp_eq 237 dL_row_232 (by decide) hf (fun _ hf => ?_) (fun _ hf => ?_)
    · refine v_iinc 5 (l8 + 1) [(8, .int (l8 + 1)), (0, .ref p1), (1, .int p2), (2, .int l2), (3, .int l3), (7, .int l7)] dL_row_237 rfl (by rfl) (by decide) rfl ?_
      refine v_goto 188 dL_row_240 (by decide) ?_
      refine v_sub [1, 2, 3, 4, 5, 0] rfl ?_
      exact hk188 p1 p2 l2 l3 l7 (l8 + 1) G hf
    · refine v_iconst 0 dL_row_235 (by decide) ?_
      exact v_xzret hr dL_row_236 hE hf
set_option maxRecDepth 100000 in
set_option maxHeartbeats 4000000 in
theorem e_L_row_188 {X : VX} {B : VB} {z : (String ⊕ Int32)} {Gf : GH}  (hfx : (xl X).stackTraces = false) (hn : ∀ x ∈ (xc X).exceptionTable.toList, False) (hr : (xme X).sig.returnType = (some .boolean)) (hE : VE B (z, Gf))  : ∀ (n : Nat) (p1 : Nat) (p2 : Int32) (l2 : Int32) (l3 : Int32) (l7 : Int32) (l8 : Int32) (G : GH), (f_L_row_188 n p1 p2 l2 l3 l7 l8).1 G = some (z, Gf) → V X RL cL_row 9 8 134 wsL_row B (XQ X (xmap vI z) Gf B) G 188 [(0, .ref p1), (1, .int p2), (2, .int l2), (3, .int l3), (7, .int l7), (8, .int l8)] [] := by
  intro n
  induction n with
  | zero =>
    intro p1 p2 l2 l3 l7 l8 G hf
    have h0 : (none : Option ((String ⊕ Int32) × GH)) = some (z, Gf) := hf
    cases h0
  | succ n ih =>
    intro p1 p2 l2 l3 l7 l8 G hf
    rw [f_L_row_188.eq_2] at hf
    refine v_iload 5 dL_row_188 rfl ?_
    refine v_iload 4 dL_row_190 rfl ?_
    refine v_icmp_ge 243 dL_row_192 (by decide) hf (fun _ hf => ?_) (fun _ hf => ?_)
    · refine v_iconst 1 dL_row_243 (by decide) ?_
      exact v_xzret hr dL_row_244 hE hf
    · refine v_aload_n 0 dL_row_195 rfl rfl ?_
      refine v_iload_n 1 dL_row_196 rfl rfl ?_
      refine v_iload_n 3 dL_row_197 rfl rfl ?_
      refine v_if_ne 208 dL_row_198 (by decide) hf (fun _ hf => ?_) (fun _ hf => ?_)
      · refine v_iload 5 dL_row_208 rfl ?_
        refine v_sub [0, 1, 2, 3, 4, 5] rfl ?_
        exact e_L_row_210 hfx hn hr hE (fun y0 y1 y2 y3 y4 y5 G hf => ih y0 y1 y2 y3 y4 y5 G hf) p1 p2 l2 l3 l7 l8 l8 p2 p1 G hf
      · refine v_iload 5 dL_row_201 rfl ?_
        refine v_iconst 1 dL_row_203 (by decide) ?_
        refine v_iadd dL_row_204 ?_
        refine v_goto 210 dL_row_205 (by decide) ?_
        refine v_sub [0, 1, 2, 3, 4, 5] rfl ?_
        exact e_L_row_210 hfx hn hr hE (fun y0 y1 y2 y3 y4 y5 G hf => ih y0 y1 y2 y3 y4 y5 G hf) p1 p2 l2 l3 l7 l8 (l8 + 1) p2 p1 G hf
set_option maxRecDepth 100000 in
set_option maxHeartbeats 4000000 in
theorem e_L_row_183 {X : VX} {B : VB} {z : (String ⊕ Int32)} {Gf : GH}  (hfx : (xl X).stackTraces = false) (hn : ∀ x ∈ (xc X).exceptionTable.toList, False) (hr : (xme X).sig.returnType = (some .boolean)) (hE : VE B (z, Gf))  (p1 : Nat) (p2 : Int32) (l2 : Int32) (l3 : Int32) (s0 : Int32) (G : GH) (hf : (f_L_row_183 p1 p2 l2 l3 s0).1 G = some (z, Gf)) : V X RL cL_row 9 8 134 wsL_row B (XQ X (xmap vI z) Gf B) G 183 [(0, .ref p1), (1, .int p2), (2, .int l2), (3, .int l3)] [.int s0] := by
  unfold f_L_row_183 at hf
  refine v_istore [(7, .int s0), (0, .ref p1), (1, .int p2), (2, .int l2), (3, .int l3)] dL_row_183 (by decide) rfl ?_
  refine v_iconst 0 dL_row_185 (by decide) ?_
  refine v_istore [(8, .int 0), (7, .int s0), (0, .ref p1), (1, .int p2), (2, .int l2), (3, .int l3)] dL_row_186 (by decide) rfl ?_
  refine v_sub [2, 3, 4, 5, 1, 0] rfl ?_
  exact e_L_row_188 hfx hn hr hE FU p1 p2 l2 l3 s0 0 G hf
set_option maxRecDepth 100000 in
set_option maxHeartbeats 4000000 in
theorem e_L_row_169 {X : VX} {B : VB} {z : (String ⊕ Int32)} {Gf : GH}  (hfx : (xl X).stackTraces = false) (hn : ∀ x ∈ (xc X).exceptionTable.toList, False) (hr : (xme X).sig.returnType = (some .boolean)) (hE : VE B (z, Gf))  (p1 : Nat) (p2 : Int32) (l2 : Int32) (l3 : Int32) (l4 : Int32) (l5 : Int32) (G : GH) (hf : (f_L_row_169 p1 p2 l2 l3 l4 l5).1 G = some (z, Gf)) : V X RL cL_row 9 8 134 wsL_row B (XQ X (xmap vI z) Gf B) G 169 [(0, .ref p1), (1, .int p2), (2, .int l2), (3, .int l3), (4, .int l4), (5, .int l5)] [] := by
  unfold f_L_row_169 at hf
  refine v_iload 4 dL_row_169 rfl ?_
  refine v_iload 5 dL_row_171 rfl ?_
  refine v_icmp_ge 181 dL_row_173 (by decide) hf (fun _ hf => ?_) (fun _ hf => ?_)
  · refine v_iload 5 dL_row_181 rfl ?_
    refine v_sub [0, 1, 2, 3] rfl ?_
    exact e_L_row_183 hfx hn hr hE p1 p2 l2 l3 l5 G hf
  · refine v_iload 4 dL_row_176 rfl ?_
    refine v_goto 183 dL_row_178 (by decide) ?_
    refine v_sub [0, 1, 2, 3] rfl ?_
    exact e_L_row_183 hfx hn hr hE p1 p2 l2 l3 l4 G hf
set_option maxRecDepth 100000 in
set_option maxHeartbeats 4000000 in
theorem e_L_row_148 {X : VX} {B : VB} {z : (String ⊕ Int32)} {Gf : GH}  (hfx : (xl X).stackTraces = false) (hn : ∀ x ∈ (xc X).exceptionTable.toList, False) (hr : (xme X).sig.returnType = (some .boolean)) (hE : VE B (z, Gf))  (p1 : Nat) (p2 : Int32) (l2 : Int32) (l3 : Int32) (l4 : Int32) (l5 : Int32) (l6 : Int32) (G : GH) (hf : (f_L_row_148 p1 p2 l2 l3 l4 l5 l6).1 G = some (z, Gf)) : V X RL cL_row 9 8 134 wsL_row B (XQ X (xmap vI z) Gf B) G 148 [(0, .ref p1), (1, .int p2), (2, .int l2), (3, .int l3), (4, .int l4), (5, .int l5), (6, .int l6)] [] := by
  unfold f_L_row_148 at hf
  refine v_iload_n 3 dL_row_148 rfl rfl ?_
  refine v_iconst 3 dL_row_149 (by decide) ?_
  refine v_icmp_ne 169 dL_row_150 (by decide) hf (fun _ hf => ?_) (fun _ hf => ?_)
  · refine v_sub [0, 1, 2, 3, 4, 5] rfl ?_
    exact e_L_row_169 hfx hn hr hE p1 p2 l2 l3 l4 l5 G hf
  · refine v_aload_n 0 dL_row_153 rfl rfl ?_
    refine v_iload_n 2 dL_row_154 rfl rfl ?_
    refine v_iload 5 dL_row_155 rfl ?_
    refine v_iconst 1 dL_row_157 (by decide) ?_
    refine v_isub dL_row_158 ?_
    refine v_xcallVi hn 4 2 [.int l2, .int (l5 - 1)] (c_X4_at (xl X) hfx p1 l2 (l5 - 1)) gL_row_X4_at rfl dv_X4_at (by decide) (by decide) rfl rfl dL_row_159 (Nat.le_of_ble_eq_true rfl) rfl hE hf (fun x11 G hf => ?_)
    refine v_iload 6 dL_row_162 rfl ?_
    refine v_icmp_eq 169 dL_row_164 (by decide) hf (fun _ hf => ?_) (fun _ hf => ?_)
    · refine v_sub [0, 1, 2, 3, 4, 5] rfl ?_
      exact e_L_row_169 hfx hn hr hE p1 p2 l2 l3 l4 l5 G hf
    · refine v_iconst 0 dL_row_167 (by decide) ?_
      exact v_xzret hr dL_row_168 hE hf
set_option maxRecDepth 100000 in
set_option maxHeartbeats 4000000 in
theorem e_L_row_132 {X : VX} {B : VB} {z : (String ⊕ Int32)} {Gf : GH}  (hfx : (xl X).stackTraces = false) (hn : ∀ x ∈ (xc X).exceptionTable.toList, False) (hr : (xme X).sig.returnType = (some .boolean)) (hE : VE B (z, Gf))  (p1 : Nat) (p2 : Int32) (l2 : Int32) (l3 : Int32) (l4 : Int32) (l5 : Int32) (l6 : Int32) (G : GH) (hf : (f_L_row_132 p1 p2 l2 l3 l4 l5 l6).1 G = some (z, Gf)) : V X RL cL_row 9 8 134 wsL_row B (XQ X (xmap vI z) Gf B) G 132 [(0, .ref p1), (1, .int p2), (2, .int l2), (3, .int l3), (4, .int l4), (5, .int l5), (6, .int l6)] [] := by
  unfold f_L_row_132 at hf
  refine v_iload_n 3 dL_row_132 rfl rfl ?_
  refine v_iconst 2 dL_row_133 (by decide) ?_
  refine v_icmp_ne 148 dL_row_134 (by decide) hf (fun _ hf => ?_) (fun _ hf => ?_)
  · refine v_sub [0, 1, 2, 3, 4, 5, 6] rfl ?_
    exact e_L_row_148 hfx hn hr hE p1 p2 l2 l3 l4 l5 l6 G hf
  · refine v_aload_n 0 dL_row_137 rfl rfl ?_
    refine v_iload_n 2 dL_row_138 rfl rfl ?_
    refine v_iconst 0 dL_row_139 (by decide) ?_
    refine v_xcallVi hn 4 2 [.int l2, .int 0] (c_X4_at (xl X) hfx p1 l2 0) gL_row_X4_at rfl dv_X4_at (by decide) (by decide) rfl rfl dL_row_140 (Nat.le_of_ble_eq_true rfl) rfl hE hf (fun x12 G hf => ?_)
    refine v_iload 6 dL_row_143 rfl ?_
    refine v_icmp_ne 167 dL_row_145 (by decide) hf (fun _ hf => ?_) (fun _ hf => ?_)
    · refine v_iconst 0 dL_row_167 (by decide) ?_
      exact v_xzret hr dL_row_168 hE hf
    · refine v_sub [0, 1, 2, 3, 4, 5, 6] rfl ?_
      exact e_L_row_148 hfx hn hr hE p1 p2 l2 l3 l4 l5 l6 G hf
set_option maxRecDepth 100000 in
set_option maxHeartbeats 4000000 in
theorem e_L_row_113 {X : VX} {B : VB} {z : (String ⊕ Int32)} {Gf : GH}  (hfx : (xl X).stackTraces = false) (hn : ∀ x ∈ (xc X).exceptionTable.toList, False) (hr : (xme X).sig.returnType = (some .boolean)) (hE : VE B (z, Gf))  (p1 : Nat) (p2 : Int32) (l2 : Int32) (l3 : Int32) (l4 : Int32) (l5 : Int32) (l6 : Int32) (G : GH) (hf : (f_L_row_113 p1 p2 l2 l3 l4 l5 l6).1 G = some (z, Gf)) : V X RL cL_row 9 8 134 wsL_row B (XQ X (xmap vI z) Gf B) G 113 [(0, .ref p1), (1, .int p2), (2, .int l2), (3, .int l3), (4, .int l4), (5, .int l5), (6, .int l6)] [] := by
  unfold f_L_row_113 at hf
  refine v_iload_n 3 dL_row_113 rfl rfl ?_
  refine v_iconst 1 dL_row_114 (by decide) ?_
  refine v_icmp_ne 132 dL_row_115 (by decide) hf (fun _ hf => ?_) (fun _ hf => ?_)
  · refine v_sub [0, 1, 2, 3, 4, 5, 6] rfl ?_
    exact e_L_row_132 hfx hn hr hE p1 p2 l2 l3 l4 l5 l6 G hf
  · refine v_aload_n 0 dL_row_118 rfl rfl ?_
    refine v_iload_n 1 dL_row_119 rfl rfl ?_
    refine v_iload 4 dL_row_120 rfl ?_
    refine v_iconst 1 dL_row_122 (by decide) ?_
    refine v_isub dL_row_123 ?_
    refine v_xcallVi hn 4 2 [.int p2, .int (l4 - 1)] (c_X4_at (xl X) hfx p1 p2 (l4 - 1)) gL_row_X4_at rfl dv_X4_at (by decide) (by decide) rfl rfl dL_row_124 (Nat.le_of_ble_eq_true rfl) rfl hE hf (fun x13 G hf => ?_)
    refine v_iload 6 dL_row_127 rfl ?_
    refine v_icmp_ne 167 dL_row_129 (by decide) hf (fun _ hf => ?_) (fun _ hf => ?_)
    · refine v_iconst 0 dL_row_167 (by decide) ?_
      exact v_xzret hr dL_row_168 hE hf
    · refine v_sub [0, 1, 2, 3, 4, 5, 6] rfl ?_
      exact e_L_row_132 hfx hn hr hE p1 p2 l2 l3 l4 l5 l6 G hf
set_option maxRecDepth 100000 in
set_option maxHeartbeats 4000000 in
theorem e_L_row_67 {X : VX} {B : VB} {z : (String ⊕ Int32)} {Gf : GH}  (hfx : (xl X).stackTraces = false) (hn : ∀ x ∈ (xc X).exceptionTable.toList, False) (hr : (xme X).sig.returnType = (some .boolean)) (hE : VE B (z, Gf))  (p1 : Nat) (p2 : Int32) (l2 : Int32) (l3 : Int32) (l4 : Int32) (l5 : Int32) (s0 : Int32) (s1 : Int32) (G : GH) (hf : (f_L_row_67 p1 p2 l2 l3 l4 l5 s0 s1).1 G = some (z, Gf)) : V X RL cL_row 9 8 134 wsL_row B (XQ X (xmap vI z) Gf B) G 67 [(0, .ref p1), (1, .int p2), (2, .int l2), (3, .int l3), (4, .int l4), (5, .int l5)] [.int s0, .int s1] := by
  unfold f_L_row_67 at hf
  refine v_icmp_ne 89 dL_row_67 (by decide) hf (fun _ hf => ?_) (fun _ hf => ?_)
  · refine v_iconst 0 dL_row_89 (by decide) ?_
    exact v_xzret hr dL_row_90 hE hf
  · refine v_aload_n 0 dL_row_70 rfl rfl ?_
    refine v_iload_n 1 dL_row_71 rfl rfl ?_
    refine v_bipush 9 dL_row_72 (by decide) ?_
    refine v_xcallVi hn 4 2 [.int p2, .int 9] (c_X4_version (xl X) hfx p1 p2 9) gL_row_X4_version rfl dv_X4_version (by decide) (by decide) rfl rfl dL_row_74 (Nat.le_of_ble_eq_true rfl) rfl hE hf (fun x5 G hf => ?_)
    refine v_aload_n 0 dL_row_77 rfl rfl ?_
    refine v_iload_n 2 dL_row_78 rfl rfl ?_
    refine v_bipush 9 dL_row_79 (by decide) ?_
    refine v_xcallVi hn 4 2 [.int l2, .int 9] (c_X4_version (xl X) hfx p1 l2 9) gL_row_X4_version rfl dv_X4_version (by decide) (by decide) rfl rfl dL_row_81 (Nat.le_of_ble_eq_true rfl) rfl hE hf (fun x6 G hf => ?_)
    refine v_iconst 1 dL_row_84 (by decide) ?_
    refine v_iadd dL_row_85 ?_
    refine v_icmp_eq 91 dL_row_86 (by decide) hf (fun _ hf => ?_) (fun _ hf => ?_)
    · refine v_aload_n 0 dL_row_91 rfl rfl ?_
      refine v_iload_n 1 dL_row_92 rfl rfl ?_
      refine v_xcallVi hn 4 1 [.int p2] (c_X4_value (xl X) hfx p1 p2) gL_row_X4_value rfl dv_X4_value (by decide) (by decide) rfl rfl dL_row_93 (Nat.le_of_ble_eq_true rfl) rfl hE hf (fun x7 G hf => ?_)
      refine v_istore [(6, .int x7), (0, .ref p1), (1, .int p2), (2, .int l2), (3, .int l3), (4, .int l4), (5, .int l5)] dL_row_96 (by decide) rfl ?_
      refine v_iload_n 4 dL_row_98 rfl rfl ?_
      refine v_if_ne 113 dL_row_99 (by decide) hf (fun _ hf => ?_) (fun _ hf => ?_)
      · refine v_sub [1, 2, 3, 4, 5, 6, 0] rfl ?_
        exact e_L_row_113 hfx hn hr hE p1 p2 l2 l3 l4 l5 x7 G hf
      · refine v_aload_n 1 dL_row_102 rfl rfl ?_
        refine v_iload_n 2 dL_row_103 rfl rfl ?_
        refine v_iconst 0 dL_row_104 (by decide) ?_
        refine v_xcallVi hn 4 2 [.int p2, .int 0] (c_X4_at (xl X) hfx p1 p2 0) gL_row_X4_at rfl dv_X4_at (by decide) (by decide) rfl rfl dL_row_105 (Nat.le_of_ble_eq_true rfl) rfl hE hf (fun x14 G hf => ?_)
        refine v_iload 0 dL_row_108 rfl ?_
        refine v_icmp_ne 167 dL_row_110 (by decide) hf (fun _ hf => ?_) (fun _ hf => ?_)
        · refine v_iconst 0 dL_row_167 (by decide) ?_
          exact v_xzret hr dL_row_168 hE hf
        · refine v_sub [1, 2, 3, 4, 5, 6, 0] rfl ?_
          exact e_L_row_113 hfx hn hr hE p1 p2 l2 l3 l4 l5 x7 G hf
    · refine v_iconst 0 dL_row_89 (by decide) ?_
      exact v_xzret hr dL_row_90 hE hf
set_option maxRecDepth 100000 in
set_option maxHeartbeats 4000000 in
theorem e_L_row_0 {X : VX} {B : VB} {z : (String ⊕ Int32)} {Gf : GH}  (hfx : (xl X).stackTraces = false) (hn : ∀ x ∈ (xc X).exceptionTable.toList, False) (hr : (xme X).sig.returnType = (some .boolean)) (hE : VE B (z, Gf))  (p1 : Nat) (p2 : Int32) (G : GH) (hf : (f_L_row p1 p2).1 G = some (z, Gf)) : V X RL cL_row 9 8 134 wsL_row B (XQ X (xmap vI z) Gf B) G 0 [(0, .ref p1), (1, .int p2)] [] := by
  unfold f_L_row at hf
  refine v_aload_n 0 dL_row_0 rfl rfl ?_
  refine v_iload_n 1 dL_row_1 rfl rfl ?_
  refine v_iconst 0 dL_row_2 (by decide) ?_
  refine v_xcallVi hn 4 2 [.int p2, .int 0] (c_X4_version (xl X) hfx p1 p2 0) gL_row_X4_version rfl dv_X4_version (by decide) (by decide) rfl rfl dL_row_3 (Nat.le_of_ble_eq_true rfl) rfl hE hf (fun x1 G hf => ?_)
  refine v_istore_n [(2, .int x1), (0, .ref p1), (1, .int p2)] dL_row_6 rfl (by decide) rfl ?_
  refine v_aload_n 1 dL_row_7 rfl rfl ?_
  refine v_iload_n 2 dL_row_8 rfl rfl ?_
  refine v_bipush 8 dL_row_9 (by decide) ?_
  refine v_xcallVi hn 4 2 [.int p2, .int 8] (c_X4_version (xl X) hfx p1 p2 8) gL_row_X4_version rfl dv_X4_version (by decide) (by decide) rfl rfl dL_row_11 (Nat.le_of_ble_eq_true rfl) rfl hE hf (fun x2 G hf => ?_)
  refine v_istore_n [(3, .int x2), (2, .int x1), (0, .ref p1), (1, .int p2)] dL_row_14 rfl (by decide) rfl ?_
  refine v_aload_n 2 dL_row_15 rfl rfl ?_
  refine v_iload_n 3 dL_row_16 rfl rfl ?_
  refine v_iconst 1 dL_row_17 (by decide) ?_
  refine v_xcallVi hn 4 2 [.int p2, .int 1] (c_X4_version (xl X) hfx p1 p2 1) gL_row_X4_version rfl dv_X4_version (by decide) (by decide) rfl rfl dL_row_18 (Nat.le_of_ble_eq_true rfl) rfl hE hf (fun x3 G hf => ?_)
  refine v_istore [(4, .int x3), (3, .int x2), (2, .int x1), (0, .ref p1), (1, .int p2)] dL_row_21 (by decide) rfl ?_
  refine v_aload_n 3 dL_row_23 rfl rfl ?_
  refine v_iload_n 2 dL_row_24 rfl rfl ?_
  refine v_iconst 1 dL_row_25 (by decide) ?_
  refine v_xcallVi hn 4 2 [.int x1, .int 1] (c_X4_version (xl X) hfx p1 x1 1) gL_row_X4_version rfl dv_X4_version (by decide) (by decide) rfl rfl dL_row_26 (Nat.le_of_ble_eq_true rfl) rfl hE hf (fun x4 G hf => ?_)
  refine v_istore [(5, .int x4), (4, .int x3), (3, .int x2), (2, .int x1), (0, .ref p1), (1, .int p2)] dL_row_29 (by decide) rfl ?_
  refine v_iload_n 3 dL_row_31 rfl rfl ?_
  refine v_if_lt 89 dL_row_32 (by decide) hf (fun _ hf => ?_) (fun _ hf => ?_)
  · refine v_iconst 0 dL_row_89 (by decide) ?_
    exact v_xzret hr dL_row_90 hE hf
  · refine v_iload_n 3 dL_row_35 rfl rfl ?_
    refine v_iload_n 5 dL_row_36 rfl rfl ?_
    refine v_icmp_ge 89 dL_row_37 (by decide) hf (fun _ hf => ?_) (fun _ hf => ?_)
    · refine v_iconst 0 dL_row_89 (by decide) ?_
      exact v_xzret hr dL_row_90 hE hf
    · refine v_iload_n 2 dL_row_40 rfl rfl ?_
      refine v_if_lt 89 dL_row_41 (by decide) hf (fun _ hf => ?_) (fun _ hf => ?_)
      · refine v_iconst 0 dL_row_89 (by decide) ?_
        exact v_xzret hr dL_row_90 hE hf
      · refine v_iload_n 2 dL_row_44 rfl rfl ?_
        refine v_iconst 3 dL_row_45 (by decide) ?_
        refine v_icmp_gt 89 dL_row_46 (by decide) hf (fun _ hf => ?_) (fun _ hf => ?_)
        · refine v_iconst 0 dL_row_89 (by decide) ?_
          exact v_xzret hr dL_row_90 hE hf
        · refine v_iload 1 dL_row_49 rfl ?_
          refine v_iload_n 2 dL_row_51 rfl rfl ?_
          refine v_iconst 2 dL_row_52 (by decide) ?_
          refine v_icmp_ge 63 dL_row_53 (by decide) hf (fun _ hf => ?_) (fun _ hf => ?_)
          · refine v_iload 0 dL_row_63 rfl ?_
            refine v_iconst 1 dL_row_65 (by decide) ?_
            refine v_isub dL_row_66 ?_
            refine v_sub [4, 5, 3, 2, 1, 0] rfl ?_
            exact e_L_row_67 hfx hn hr hE p1 p2 x1 x2 x3 x4 (x4 - 1) x3 G hf
          · refine v_iload 0 dL_row_56 rfl ?_
            refine v_iconst 1 dL_row_58 (by decide) ?_
            refine v_iadd dL_row_59 ?_
            refine v_goto 67 dL_row_60 (by decide) ?_
            refine v_sub [4, 5, 3, 2, 1, 0] rfl ?_
            exact e_L_row_67 hfx hn hr hE p1 p2 x1 x2 x3 x4 (x4 + 1) x3 G hf
theorem c_L_row (l : Launch) (hfl : l.stackTraces = false) (p1 : Nat) (p2 : Int32) : CX l yL_row wsL_row 8 134 [.ref p1, .int p2] vI (f_L_row p1 p2) := CX.start hfl RL rfl (by decide +kernel) rfl (Nat.le_of_ble_eq_true rfl) (fun X G z Gf hl hn hr hf => e_L_row_0 (by rw [hl]; exact hfl) hn hr ⟨rfl, rfl⟩ p1 p2 G hf)
theorem dn_L_row : yL_row.cls ≠ "java/lang/invoke/MethodHandle" ∧ yL_row.cls ≠ "java/lang/invoke/VarHandle" ∧ (parseMethodDescriptor yL_row.desc).map (fun d => d.parameters.length) = some 2 := by decide +kernel
set_option maxRecDepth 100000 in
set_option maxHeartbeats 4000000 in
theorem e_L_parts_310 {X : VX} {B : VB} {z : (String ⊕ Int32)} {Gf : GH}  (hfx : (xl X).stackTraces = false) (hn : ∀ x ∈ (xc X).exceptionTable.toList, False) (hr : (xme X).sig.returnType = (some .boolean)) (hE : VE B (z, Gf))  : ∀ (n : Nat) (p1 : Nat) (p2 : Int32) (l2 : Int32) (l3 : Int32) (l7 : Int32) (l8 : Int32) (l11 : Int32) (l12 : Int32) (G : GH), (f_L_parts_310 n p1 p2 l2 l3 l7 l8 l11 l12).1 G = some (z, Gf) → V X RL cL_parts 16 8 135 wsL_parts B (XQ X (xmap vI z) Gf B) G 310 [(0, .ref p1), (1, .int p2), (2, .int l2), (3, .int l3), (7, .int l7), (8, .int l8), (11, .int l11), (12, .int l12)] [] := by
  intro n
  induction n with
  | zero =>
    intro p1 p2 l2 l3 l7 l8 l11 l12 G hf
    have h0 : (none : Option ((String ⊕ Int32) × GH)) = some (z, Gf) := hf
    cases h0
  | succ n ih =>
    intro p1 p2 l2 l3 l7 l8 l11 l12 G hf
    rw [f_L_parts_310.eq_2] at hf
    refine v_iload 7 dL_parts_310 rfl ?_
    refine v_iload_n 2 dL_parts_312 rfl rfl ?_
    refine v_icmp_ge 351 dL_parts_313 (by decide) hf (fun _ hf => ?_) (fun _ hf => ?_)
    · refine v_iload_n 1 dL_parts_351 rfl rfl ?_
      refine v_if_gt 395 dL_parts_352 (by decide) hf (fun _ hf => ?_) (fun _ hf => ?_)
      · refine v_iconst 1 dL_parts_395 (by decide) ?_
        refine v_goto 400 dL_parts_396 (by decide) ?_
        exact v_xzret hr dL_parts_400 hE hf
      · refine v_iload_n 2 dL_parts_355 rfl rfl ?_
        refine v_if_ne 399 dL_parts_356 (by decide) hf (fun _ hf => ?_) (fun _ hf => ?_)
        · refine v_iconst 0 dL_parts_399 (by decide) ?_
          exact v_xzret hr dL_parts_400 hE hf
        · refine v_iload 4 dL_parts_359 rfl ?_
          refine v_if_ne 399 dL_parts_361 (by decide) hf (fun _ hf => ?_) (fun _ hf => ?_)
          · refine v_iconst 0 dL_parts_399 (by decide) ?_
            exact v_xzret hr dL_parts_400 hE hf
          · refine v_iload 5 dL_parts_364 rfl ?_
            refine v_if_ne 399 dL_parts_366 (by decide) hf (fun _ hf => ?_) (fun _ hf => ?_)
            · refine v_iconst 0 dL_parts_399 (by decide) ?_
              exact v_xzret hr dL_parts_400 hE hf
            · refine v_iload 6 dL_parts_369 rfl ?_
              refine v_iconst (-1) dL_parts_371 (by decide) ?_
              refine v_icmp_ne 399 dL_parts_372 (by decide) hf (fun _ hf => ?_) (fun _ hf => ?_)
              · refine v_iconst 0 dL_parts_399 (by decide) ?_
                exact v_xzret hr dL_parts_400 hE hf
              · refine v_aload_n 0 dL_parts_375 rfl rfl ?_
                refine v_iconst 0 dL_parts_376 (by decide) ?_
                refine v_iconst 0 dL_parts_377 (by decide) ?_
                refine v_xcallVi hn 4 2 [.int 0, .int 0] (c_X4_version (xl X) hfx p1 0 0) gL_parts_X4_version rfl dv_X4_version (by decide) (by decide) rfl rfl dL_parts_378 (Nat.le_of_ble_eq_true rfl) rfl hE hf (fun x9 G hf => ?_)
                refine v_iconst (-1) dL_parts_381 (by decide) ?_
                refine v_icmp_ne 399 dL_parts_382 (by decide) hf (fun _ hf => ?_) (fun _ hf => ?_)
                · refine v_iconst 0 dL_parts_399 (by decide) ?_
                  exact v_xzret hr dL_parts_400 hE hf
                · refine v_aload_n 0 dL_parts_385 rfl rfl ?_
                  refine v_iconst 0 dL_parts_386 (by decide) ?_
                  refine v_bipush 9 dL_parts_387 (by decide) ?_
                  refine v_xcallVi hn 4 2 [.int 0, .int 9] (c_X4_version (xl X) hfx p1 0 9) gL_parts_X4_version rfl dv_X4_version (by decide) (by decide) rfl rfl dL_parts_389 (Nat.le_of_ble_eq_true rfl) rfl hE hf (fun x10 G hf => ?_)
                  refine v_if_ne 399 dL_parts_392 (by decide) hf (fun _ hf => ?_) (fun _ hf => ?_)
                  · refine v_iconst 0 dL_parts_399 (by decide) ?_
                    exact v_xzret hr dL_parts_400 hE hf
                  · refine v_iconst 1 dL_parts_395 (by decide) ?_
                    refine v_goto 400 dL_parts_396 (by decide) ?_
                    exact v_xzret hr dL_parts_400 hE hf
    · refine v_aload_n 0 dL_parts_316 rfl rfl ?_
      refine v_iload_n 1 dL_parts_317 rfl rfl ?_
      refine v_iload 7 dL_parts_318 rfl ?_
      refine v_xcallVi hn 4 2 [.int p2, .int l12] (c_X4_steps (xl X) hfx p1 p2 l12) gL_parts_X4_steps rfl dv_X4_steps (by decide) (by decide) rfl rfl dL_parts_320 (Nat.le_of_ble_eq_true rfl) rfl hE hf (fun x11 G hf => ?_)
      refine v_iload 7 dL_parts_323 rfl ?_
      refine v_iload_n 3 dL_parts_325 rfl rfl ?_
      refine v_icmp_ge 336 dL_parts_326 (by decide) hf (fun _ hf => ?_) (fun _ hf => ?_)
      · refine v_iload_n 2 dL_parts_336 rfl rfl ?_
        refine v_iload 7 dL_parts_337 rfl ?_
        refine v_isub dL_parts_339 ?_
        refine v_icmp_eq 345 dL_parts_340 (by decide) hf (fun _ hf => ?_) (fun _ hf => ?_)
        · refine v_iinc 7 (l12 + 1) [(12, .int (l12 + 1)), (0, .ref p1), (1, .int p2), (2, .int l2), (3, .int l3), (7, .int l7), (8, .int l8), (11, .int l11)] dL_parts_345 rfl (by rfl) (by decide) rfl ?_
          refine v_goto 310 dL_parts_348 (by decide) ?_
          refine v_sub [1, 2, 3, 4, 5, 6, 7, 0] rfl ?_
          exact ih p1 p2 l2 l3 l7 l8 l11 (l12 + 1) G hf
        · refine v_iconst 0 dL_parts_343 (by decide) ?_
          exact v_xzret hr dL_parts_344 hE hf
      · refine v_iload 7 dL_parts_329 rfl ?_
        refine v_iconst 1 dL_parts_331 (by decide) ?_
        refine v_iadd dL_parts_332 ?_
        refine v_goto 340 dL_parts_333 (by decide) ?_
        refine v_icmp_eq 345 dL_parts_340 (by decide) hf (fun _ hf => ?_) (fun _ hf => ?_)
        · refine v_iinc 7 (l12 + 1) [(12, .int (l12 + 1)), (0, .ref p1), (1, .int p2), (2, .int l2), (3, .int l3), (7, .int l7), (8, .int l8), (11, .int l11)] dL_parts_345 rfl (by rfl) (by decide) rfl ?_
          refine v_goto 310 dL_parts_348 (by decide) ?_
          refine v_sub [1, 2, 3, 4, 5, 6, 7, 0] rfl ?_
          exact ih p1 p2 l2 l3 l7 l8 l11 (l12 + 1) G hf
        · refine v_iconst 0 dL_parts_343 (by decide) ?_
          exact v_xzret hr dL_parts_344 hE hf
set_option maxRecDepth 100000 in
set_option maxHeartbeats 4000000 in
theorem e_L_parts_307 {X : VX} {B : VB} {z : (String ⊕ Int32)} {Gf : GH}  (hfx : (xl X).stackTraces = false) (hn : ∀ x ∈ (xc X).exceptionTable.toList, False) (hr : (xme X).sig.returnType = (some .boolean)) (hE : VE B (z, Gf))  (p1 : Nat) (p2 : Int32) (l2 : Int32) (l3 : Int32) (l7 : Int32) (l8 : Int32) (l11 : Int32) (G : GH) (hf : (f_L_parts_307 p1 p2 l2 l3 l7 l8 l11).1 G = some (z, Gf)) : V X RL cL_parts 16 8 135 wsL_parts B (XQ X (xmap vI z) Gf B) G 307 [(0, .ref p1), (1, .int p2), (2, .int l2), (3, .int l3), (7, .int l7), (8, .int l8), (11, .int l11)] [] := by
  unfold f_L_parts_307 at hf
  refine v_iconst 0 dL_parts_307 (by decide) ?_
  refine v_istore [(12, .int 0), (0, .ref p1), (1, .int p2), (2, .int l2), (3, .int l3), (7, .int l7), (8, .int l8), (11, .int l11)] dL_parts_308 (by decide) rfl ?_
  refine v_sub [1, 2, 3, 4, 5, 6, 7, 0] rfl ?_
  exact e_L_parts_310 hfx hn hr hE FU p1 p2 l2 l3 l7 l8 l11 0 G hf
set_option maxRecDepth 100000 in
set_option maxHeartbeats 4000000 in
theorem e_L_parts_300 {X : VX} {B : VB} {z : (String ⊕ Int32)} {Gf : GH}  (hfx : (xl X).stackTraces = false) (hn : ∀ x ∈ (xc X).exceptionTable.toList, False) (hr : (xme X).sig.returnType = (some .boolean)) (hE : VE B (z, Gf))  (p1 : Nat) (p2 : Int32) (l2 : Int32) (l3 : Int32) (l7 : Int32) (l8 : Int32) (l11 : Int32) (l13 : Int32) (G : GH) (hf : (f_L_parts_300 p1 p2 l2 l3 l7 l8 l11 l13).1 G = some (z, Gf)) : V X RL cL_parts 16 8 135 wsL_parts B (XQ X (xmap vI z) Gf B) G 300 [(0, .ref p1), (1, .int p2), (2, .int l2), (3, .int l3), (7, .int l7), (8, .int l8), (11, .int l11), (13, .int l13)] [] := by
  unfold f_L_parts_300 at hf
  refine v_iload 7 dL_parts_300 rfl ?_
  refine v_if_ne 307 dL_parts_302 (by decide) hf (fun _ hf => ?_) (fun _ hf => ?_)
  · refine v_sub [0, 1, 2, 3, 4, 5, 6] rfl ?_
    exact e_L_parts_307 hfx hn hr hE p1 p2 l2 l3 l7 l8 l11 G hf
  · refine v_iconst 0 dL_parts_305 (by decide) ?_
    exact v_xzret hr dL_parts_306 hE hf
set_option maxRecDepth 100000 in
set_option maxHeartbeats 4000000 in
theorem e_L_parts_273 {X : VX} {B : VB} {z : (String ⊕ Int32)} {Gf : GH}  (hfx : (xl X).stackTraces = false) (hn : ∀ x ∈ (xc X).exceptionTable.toList, False) (hr : (xme X).sig.returnType = (some .boolean)) (hE : VE B (z, Gf))  (p1 : Nat) (p2 : Int32) (l2 : Int32) (l3 : Int32) (l5 : Int32) (l7 : Int32) (l8 : Int32) (l11 : Int32) (l13 : Int32) (l14 : Int32) (G : GH) (hf : (f_L_parts_273 p1 p2 l2 l3 l5 l7 l8 l11 l13 l14).1 G = some (z, Gf)) : V X RL cL_parts 16 8 135 wsL_parts B (XQ X (xmap vI z) Gf B) G 273 [(0, .ref p1), (1, .int p2), (2, .int l2), (3, .int l3), (5, .int l5), (7, .int l7), (8, .int l8), (11, .int l11), (13, .int l13), (14, .int l14)] [] := by
  unfold f_L_parts_273 at hf
  refine v_iload 9 dL_parts_273 rfl ?_
  refine v_if_le 307 dL_parts_275 (by decide) hf (fun _ hf => ?_) (fun _ hf => ?_)
  · refine v_sub [0, 1, 2, 3, 5, 6, 7] rfl ?_
    exact e_L_parts_307 hfx hn hr hE p1 p2 l2 l3 l7 l8 l11 G hf
  · refine v_iload 4 dL_parts_278 rfl ?_
    refine v_if_le 300 dL_parts_280 (by decide) hf (fun _ hf => ?_) (fun _ hf => ?_)
    · refine v_sub [0, 1, 2, 3, 5, 6, 7, 8] rfl ?_
      exact e_L_parts_300 hfx hn hr hE p1 p2 l2 l3 l7 l8 l11 l13 G hf
    · refine v_iload 8 dL_parts_283 rfl ?_
      refine v_iload 9 dL_parts_285 rfl ?_
      refine v_icmp_ge 300 dL_parts_287 (by decide) hf (fun _ hf => ?_) (fun _ hf => ?_)
      · refine v_sub [0, 1, 2, 3, 5, 6, 7, 8] rfl ?_
        exact e_L_parts_300 hfx hn hr hE p1 p2 l2 l3 l7 l8 l11 l13 G hf
      · refine v_iload 4 dL_parts_290 rfl ?_
        refine v_iload 9 dL_parts_292 rfl ?_
        refine v_iload 8 dL_parts_294 rfl ?_
        refine v_isub dL_parts_296 ?_
        refine v_icmp_ne 305 dL_parts_297 (by decide) hf (fun _ hf => ?_) (fun _ hf => ?_)
        · refine v_iconst 0 dL_parts_305 (by decide) ?_
          exact v_xzret hr dL_parts_306 hE hf
        · refine v_sub [0, 1, 2, 3, 5, 6, 7, 8] rfl ?_
          exact e_L_parts_300 hfx hn hr hE p1 p2 l2 l3 l7 l8 l11 l13 G hf
set_option maxRecDepth 100000 in
set_option maxHeartbeats 4000000 in
theorem e_L_parts_233 {X : VX} {B : VB} {z : (String ⊕ Int32)} {Gf : GH}  (hfx : (xl X).stackTraces = false) (hn : ∀ x ∈ (xc X).exceptionTable.toList, False) (hr : (xme X).sig.returnType = (some .boolean)) (hE : VE B (z, Gf))  (p1 : Nat) (p2 : Int32) (l2 : Int32) (l3 : Int32) (l5 : Int32) (l7 : Int32) (l8 : Int32) (l11 : Int32) (l13 : Int32) (l14 : Int32) (s0 : Int32) (s1 : Int32) (s2 : Nat) (G : GH) (hf : (f_L_parts_233 p1 p2 l2 l3 l5 l7 l8 l11 l13 l14 s0 s1 s2).1 G = some (z, Gf)) : V X RL cL_parts 16 8 135 wsL_parts B (XQ X (xmap vI z) Gf B) G 233 [(0, .ref p1), (1, .int p2), (2, .int l2), (3, .int l3), (5, .int l5), (7, .int l7), (8, .int l8), (11, .int l11), (13, .int l13), (14, .int l14)] [.int s0, .int s1, .ref s2] := by
  unfold f_L_parts_233 at hf
  refine v_xcallVi hn 4 2 [.int s1, .int s0] (c_X4_version (xl X) hfx s2 s1 s0) gL_parts_X4_version rfl dv_X4_version (by decide) (by decide) rfl rfl dL_parts_233 (Nat.le_of_ble_eq_true rfl) rfl hE hf (fun x15 G hf => ?_)
  refine v_istore [(15, .int x15), (0, .ref p1), (1, .int p2), (2, .int l2), (3, .int l3), (5, .int l5), (7, .int l7), (8, .int l8), (11, .int l11), (13, .int l13), (14, .int l14)] dL_parts_236 (by decide) rfl ?_
  refine v_iload 9 dL_parts_238 rfl ?_
  refine v_if_lt 305 dL_parts_240 (by decide) hf (fun _ hf => ?_) (fun _ hf => ?_)
  · refine v_iconst 0 dL_parts_305 (by decide) ?_
    exact v_xzret hr dL_parts_306 hE hf
  · refine v_iload 9 dL_parts_243 rfl ?_
    refine v_bipush 9 dL_parts_245 (by decide) ?_
    refine v_icmp_gt 305 dL_parts_247 (by decide) hf (fun _ hf => ?_) (fun _ hf => ?_)
    · refine v_iconst 0 dL_parts_305 (by decide) ?_
      exact v_xzret hr dL_parts_306 hE hf
    · refine v_iload 9 dL_parts_250 rfl ?_
      refine v_iload 10 dL_parts_252 rfl ?_
      refine v_icmp_gt 305 dL_parts_254 (by decide) hf (fun _ hf => ?_) (fun _ hf => ?_)
      · refine v_iconst 0 dL_parts_305 (by decide) ?_
        exact v_xzret hr dL_parts_306 hE hf
      · refine v_iload 7 dL_parts_257 rfl ?_
        refine v_if_le 273 dL_parts_259 (by decide) hf (fun _ hf => ?_) (fun _ hf => ?_)
        · refine v_sub [1, 2, 3, 4, 5, 6, 7, 8, 9, 10] rfl ?_
          exact e_L_parts_273 hfx hn hr hE p1 p2 l2 l3 l5 l7 l8 l11 l13 l14 G hf
        · refine v_iload 8 dL_parts_262 rfl ?_
          refine v_iconst 2 dL_parts_264 (by decide) ?_
          refine v_icmp_lt 305 dL_parts_265 (by decide) hf (fun _ hf => ?_) (fun _ hf => ?_)
          · refine v_iconst 0 dL_parts_305 (by decide) ?_
            exact v_xzret hr dL_parts_306 hE hf
          · refine v_iload 0 dL_parts_268 rfl ?_
            refine v_if_gt 305 dL_parts_270 (by decide) hf (fun _ hf => ?_) (fun _ hf => ?_)
            · refine v_iconst 0 dL_parts_305 (by decide) ?_
              exact v_xzret hr dL_parts_306 hE hf
            · refine v_sub [1, 2, 3, 4, 5, 6, 7, 8, 9, 10] rfl ?_
              exact e_L_parts_273 hfx hn hr hE p1 p2 l2 l3 l5 l7 l8 l11 l13 l14 G hf
set_option maxRecDepth 100000 in
set_option maxHeartbeats 4000000 in
theorem e_L_parts_216 {X : VX} {B : VB} {z : (String ⊕ Int32)} {Gf : GH}  (hfx : (xl X).stackTraces = false) (hn : ∀ x ∈ (xc X).exceptionTable.toList, False) (hr : (xme X).sig.returnType = (some .boolean)) (hE : VE B (z, Gf))  (p1 : Nat) (p2 : Int32) (l2 : Int32) (l3 : Int32) (l5 : Int32) (l7 : Int32) (l8 : Int32) (l11 : Int32) (l12 : Int32) (l13 : Int32) (s0 : Int32) (G : GH) (hf : (f_L_parts_216 p1 p2 l2 l3 l5 l7 l8 l11 l12 l13 s0).1 G = some (z, Gf)) : V X RL cL_parts 16 8 135 wsL_parts B (XQ X (xmap vI z) Gf B) G 216 [(0, .ref p1), (1, .int p2), (2, .int l2), (3, .int l3), (5, .int l5), (7, .int l7), (8, .int l8), (11, .int l11), (12, .int l12), (13, .int l13)] [.int s0] := by
  unfold f_L_parts_216 at hf
  refine v_istore [(14, .int s0), (0, .ref p1), (1, .int p2), (2, .int l2), (3, .int l3), (5, .int l5), (7, .int l7), (8, .int l8), (11, .int l11), (12, .int l12), (13, .int l13)] dL_parts_216 (by decide) rfl ?_
  refine v_aload_n 1 dL_parts_218 rfl rfl ?_
  refine v_iload 9 dL_parts_219 rfl ?_
  refine v_iload 8 dL_parts_221 rfl ?_
  refine v_iconst 2 dL_parts_223 (by decide) ?_
  refine v_irem dL_parts_224 hf (fun x14 hf => ?_)
  refine v_if_ne 232 dL_parts_225 (by decide) hf (fun _ hf => ?_) (fun _ hf => ?_)
  · refine v_iconst 3 dL_parts_232 (by decide) ?_
    refine v_sub [1, 2, 3, 4, 5, 6, 7, 8, 10, 0] rfl ?_
    exact e_L_parts_233 hfx hn hr hE p1 p2 l2 l3 l5 l7 l8 l11 l13 s0 3 l12 p1 G hf
  · refine v_iconst 2 dL_parts_228 (by decide) ?_
    refine v_goto 233 dL_parts_229 (by decide) ?_
    refine v_sub [1, 2, 3, 4, 5, 6, 7, 8, 10, 0] rfl ?_
    exact e_L_parts_233 hfx hn hr hE p1 p2 l2 l3 l5 l7 l8 l11 l13 s0 2 l12 p1 G hf
set_option maxRecDepth 100000 in
set_option maxHeartbeats 4000000 in
theorem e_L_parts_163 {X : VX} {B : VB} {z : (String ⊕ Int32)} {Gf : GH}  (hfx : (xl X).stackTraces = false) (hn : ∀ x ∈ (xc X).exceptionTable.toList, False) (hr : (xme X).sig.returnType = (some .boolean)) (hE : VE B (z, Gf))  (p1 : Nat) (p2 : Int32) (l2 : Int32) (l3 : Int32) (l5 : Int32) (l7 : Int32) (l8 : Int32) (G : GH) (hf : (f_L_parts_163 p1 p2 l2 l3 l5 l7 l8).1 G = some (z, Gf)) : V X RL cL_parts 16 8 135 wsL_parts B (XQ X (xmap vI z) Gf B) G 163 [(0, .ref p1), (1, .int p2), (2, .int l2), (3, .int l3), (5, .int l5), (7, .int l7), (8, .int l8)] [] := by
  unfold f_L_parts_163 at hf
  refine v_iload 6 dL_parts_163 rfl ?_
  refine v_if_ge 170 dL_parts_165 (by decide) hf (fun _ hf => ?_) (fun _ hf => ?_)
  · refine v_aload_n 0 dL_parts_170 rfl rfl ?_
    refine v_iload_n 1 dL_parts_171 rfl rfl ?_
    refine v_bipush 8 dL_parts_172 (by decide) ?_
    refine v_xcallVi hn 4 2 [.int p2, .int 8] (c_X4_version (xl X) hfx p1 p2 8) gL_parts_X4_version rfl dv_X4_version (by decide) (by decide) rfl rfl dL_parts_174 (Nat.le_of_ble_eq_true rfl) rfl hE hf (fun x8 G hf => ?_)
    refine v_istore [(11, .int x8), (0, .ref p1), (1, .int p2), (2, .int l2), (3, .int l3), (5, .int l5), (7, .int l7), (8, .int l8)] dL_parts_177 (by decide) rfl ?_
    refine v_iload_n 2 dL_parts_179 rfl rfl ?_
    refine v_if_le 307 dL_parts_180 (by decide) hf (fun _ hf => ?_) (fun _ hf => ?_)
    · refine v_sub [1, 2, 3, 4, 6, 7, 0] rfl ?_
      exact e_L_parts_307 hfx hn hr hE p1 p2 l2 l3 l7 l8 x8 G hf
    · refine v_aload_n 1 dL_parts_183 rfl rfl ?_
      refine v_iload_n 2 dL_parts_184 rfl rfl ?_
      refine v_iconst 0 dL_parts_185 (by decide) ?_
      refine v_xcallVi hn 4 2 [.int p2, .int 0] (c_X4_version (xl X) hfx p1 p2 0) gL_parts_X4_version rfl dv_X4_version (by decide) (by decide) rfl rfl dL_parts_186 (Nat.le_of_ble_eq_true rfl) rfl hE hf (fun x12 G hf => ?_)
      refine v_istore [(12, .int x12), (11, .int x8), (0, .ref p1), (1, .int p2), (2, .int l2), (3, .int l3), (5, .int l5), (7, .int l7), (8, .int l8)] dL_parts_189 (by decide) rfl ?_
      refine v_iload 7 dL_parts_191 rfl ?_
      refine v_iload 8 dL_parts_193 rfl ?_
      refine v_isub dL_parts_195 ?_
      refine v_iconst 1 dL_parts_196 (by decide) ?_
      refine v_isub dL_parts_197 ?_
      refine v_istore [(13, .int ((l7 - l8) - 1)), (12, .int x12), (11, .int x8), (0, .ref p1), (1, .int p2), (2, .int l2), (3, .int l3), (5, .int l5), (7, .int l7), (8, .int l8)] dL_parts_198 (by decide) rfl ?_
      refine v_iload 9 dL_parts_200 rfl ?_
      refine v_if_le 209 dL_parts_202 (by decide) hf (fun _ hf => ?_) (fun _ hf => ?_)
      · refine v_aload_n 3 dL_parts_209 rfl rfl ?_
        refine v_iload 1 dL_parts_210 rfl ?_
        refine v_iconst 4 dL_parts_212 (by decide) ?_
        refine v_xcallVi hn 4 2 [.int x12, .int 4] (c_X4_version (xl X) hfx p1 x12 4) gL_parts_X4_version rfl dv_X4_version (by decide) (by decide) rfl rfl dL_parts_213 (Nat.le_of_ble_eq_true rfl) rfl hE hf (fun x13 G hf => ?_)
        refine v_sub [3, 4, 5, 6, 7, 8, 9, 2, 1, 0] rfl ?_
        exact e_L_parts_216 hfx hn hr hE p1 p2 l2 l3 l5 l7 l8 x8 x12 ((l7 - l8) - 1) x13 G hf
      · refine v_iconst 0 dL_parts_205 (by decide) ?_
        refine v_goto 216 dL_parts_206 (by decide) ?_
        refine v_sub [3, 4, 5, 6, 7, 8, 9, 2, 1, 0] rfl ?_
        exact e_L_parts_216 hfx hn hr hE p1 p2 l2 l3 l5 l7 l8 x8 x12 ((l7 - l8) - 1) 0 G hf
  · refine v_iconst 0 dL_parts_168 (by decide) ?_
    exact v_xzret hr dL_parts_169 hE hf
set_option maxRecDepth 100000 in
set_option maxHeartbeats 4000000 in
theorem e_L_parts_127 {X : VX} {B : VB} {z : (String ⊕ Int32)} {Gf : GH}  (hfx : (xl X).stackTraces = false) (hn : ∀ x ∈ (xc X).exceptionTable.toList, False) (hr : (xme X).sig.returnType = (some .boolean)) (hE : VE B (z, Gf))  (p1 : Nat) (p2 : Int32) (l2 : Int32) (l3 : Int32) (l5 : Int32) (l6 : Int32) (l7 : Int32) (l8 : Int32) (l9 : Int32) (l10 : Int32) (s0 : Int32) (s1 : Int32) (G : GH) (hf : (f_L_parts_127 p1 p2 l2 l3 l5 l6 l7 l8 l9 l10 s0 s1).1 G = some (z, Gf)) : V X RL cL_parts 16 8 135 wsL_parts B (XQ X (xmap vI z) Gf B) G 127 [(0, .ref p1), (1, .int p2), (2, .int l2), (3, .int l3), (5, .int l5), (6, .int l6), (7, .int l7), (8, .int l8), (9, .int l9), (10, .int l10)] [.int s0, .int s1] := by
  unfold f_L_parts_127 at hf
  refine v_icmp_ne 168 dL_parts_127 (by decide) hf (fun _ hf => ?_) (fun _ hf => ?_)
  · refine v_iconst 0 dL_parts_168 (by decide) ?_
    exact v_xzret hr dL_parts_169 hE hf
  · refine v_iload 4 dL_parts_130 rfl ?_
    refine v_if_lt 168 dL_parts_132 (by decide) hf (fun _ hf => ?_) (fun _ hf => ?_)
    · refine v_iconst 0 dL_parts_168 (by decide) ?_
      exact v_xzret hr dL_parts_169 hE hf
    · refine v_iload 5 dL_parts_135 rfl ?_
      refine v_iconst (-1) dL_parts_137 (by decide) ?_
      refine v_icmp_lt 168 dL_parts_138 (by decide) hf (fun _ hf => ?_) (fun _ hf => ?_)
      · refine v_iconst 0 dL_parts_168 (by decide) ?_
        exact v_xzret hr dL_parts_169 hE hf
      · refine v_iload 5 dL_parts_141 rfl ?_
        refine v_iload_n 2 dL_parts_143 rfl rfl ?_
        refine v_icmp_gt 168 dL_parts_144 (by decide) hf (fun _ hf => ?_) (fun _ hf => ?_)
        · refine v_iconst 0 dL_parts_168 (by decide) ?_
          exact v_xzret hr dL_parts_169 hE hf
        · refine v_iload 5 dL_parts_147 rfl ?_
          refine v_if_ge 163 dL_parts_149 (by decide) hf (fun _ hf => ?_) (fun _ hf => ?_)
          · refine v_sub [0, 1, 2, 3, 4, 6, 7] rfl ?_
            exact e_L_parts_163 hfx hn hr hE p1 p2 l2 l3 l5 l7 l8 G hf
          · refine v_iload 8 dL_parts_152 rfl ?_
            refine v_iconst 5 dL_parts_154 (by decide) ?_
            refine v_iload 9 dL_parts_155 rfl ?_
            refine v_imul dL_parts_157 ?_
            refine v_iconst 1 dL_parts_158 (by decide) ?_
            refine v_iadd dL_parts_159 ?_
            refine v_icmp_gt 168 dL_parts_160 (by decide) hf (fun _ hf => ?_) (fun _ hf => ?_)
            · refine v_iconst 0 dL_parts_168 (by decide) ?_
              exact v_xzret hr dL_parts_169 hE hf
            · refine v_sub [0, 1, 2, 3, 4, 6, 7] rfl ?_
              exact e_L_parts_163 hfx hn hr hE p1 p2 l2 l3 l5 l7 l8 G hf
set_option maxRecDepth 100000 in
set_option maxHeartbeats 4000000 in
theorem e_L_parts_117 {X : VX} {B : VB} {z : (String ⊕ Int32)} {Gf : GH}  (hfx : (xl X).stackTraces = false) (hn : ∀ x ∈ (xc X).exceptionTable.toList, False) (hr : (xme X).sig.returnType = (some .boolean)) (hE : VE B (z, Gf))  (p1 : Nat) (p2 : Int32) (l2 : Int32) (l3 : Int32) (l5 : Int32) (l6 : Int32) (l7 : Int32) (l8 : Int32) (l9 : Int32) (l10 : Int32) (s0 : Int32) (G : GH) (hf : (f_L_parts_117 p1 p2 l2 l3 l5 l6 l7 l8 l9 l10 s0).1 G = some (z, Gf)) : V X RL cL_parts 16 8 135 wsL_parts B (XQ X (xmap vI z) Gf B) G 117 [(0, .ref p1), (1, .int p2), (2, .int l2), (3, .int l3), (5, .int l5), (6, .int l6), (7, .int l7), (8, .int l8), (9, .int l9), (10, .int l10)] [.int s0] := by
  unfold f_L_parts_117 at hf
  refine v_iload 5 dL_parts_117 rfl ?_
  refine v_if_lt 126 dL_parts_119 (by decide) hf (fun _ hf => ?_) (fun _ hf => ?_)
  · refine v_iconst 0 dL_parts_126 (by decide) ?_
    refine v_sub [0, 1, 2, 3, 4, 5, 6, 7, 8, 9] rfl ?_
    exact e_L_parts_127 hfx hn hr hE p1 p2 l2 l3 l5 l6 l7 l8 l9 l10 0 s0 G hf
  · refine v_iconst 1 dL_parts_122 (by decide) ?_
    refine v_goto 127 dL_parts_123 (by decide) ?_
    refine v_sub [0, 1, 2, 3, 4, 5, 6, 7, 8, 9] rfl ?_
    exact e_L_parts_127 hfx hn hr hE p1 p2 l2 l3 l5 l6 l7 l8 l9 l10 1 s0 G hf
set_option maxRecDepth 100000 in
set_option maxHeartbeats 4000000 in
theorem e_L_parts_82 {X : VX} {B : VB} {z : (String ⊕ Int32)} {Gf : GH}  (hfx : (xl X).stackTraces = false) (hn : ∀ x ∈ (xc X).exceptionTable.toList, False) (hr : (xme X).sig.returnType = (some .boolean)) (hE : VE B (z, Gf))  (p1 : Nat) (p2 : Int32) (l2 : Int32) (l3 : Int32) (l4 : Int32) (l5 : Int32) (l6 : Int32) (l7 : Int32) (l8 : Int32) (l9 : Int32) (s0 : Int32) (G : GH) (hf : (f_L_parts_82 p1 p2 l2 l3 l4 l5 l6 l7 l8 l9 s0).1 G = some (z, Gf)) : V X RL cL_parts 16 8 135 wsL_parts B (XQ X (xmap vI z) Gf B) G 82 [(0, .ref p1), (1, .int p2), (2, .int l2), (3, .int l3), (4, .int l4), (5, .int l5), (6, .int l6), (7, .int l7), (8, .int l8), (9, .int l9)] [.int s0] := by
  unfold f_L_parts_82 at hf
  refine v_istore [(10, .int s0), (0, .ref p1), (1, .int p2), (2, .int l2), (3, .int l3), (4, .int l4), (5, .int l5), (6, .int l6), (7, .int l7), (8, .int l8), (9, .int l9)] dL_parts_82 (by decide) rfl ?_
  refine v_iload_n 4 dL_parts_84 rfl rfl ?_
  refine v_if_lt 168 dL_parts_85 (by decide) hf (fun _ hf => ?_) (fun _ hf => ?_)
  · refine v_iconst 0 dL_parts_168 (by decide) ?_
    exact v_xzret hr dL_parts_169 hE hf
  · refine v_iload 5 dL_parts_88 rfl ?_
    refine v_if_lt 168 dL_parts_90 (by decide) hf (fun _ hf => ?_) (fun _ hf => ?_)
    · refine v_iconst 0 dL_parts_168 (by decide) ?_
      exact v_xzret hr dL_parts_169 hE hf
    · refine v_iload_n 4 dL_parts_93 rfl rfl ?_
      refine v_iload 5 dL_parts_94 rfl ?_
      refine v_iadd dL_parts_96 ?_
      refine v_iload_n 3 dL_parts_97 rfl rfl ?_
      refine v_icmp_ne 168 dL_parts_98 (by decide) hf (fun _ hf => ?_) (fun _ hf => ?_)
      · refine v_iconst 0 dL_parts_168 (by decide) ?_
        exact v_xzret hr dL_parts_169 hE hf
      · refine v_iload_n 3 dL_parts_101 rfl rfl ?_
        refine v_bipush 40 dL_parts_102 (by decide) ?_
        refine v_icmp_gt 168 dL_parts_104 (by decide) hf (fun _ hf => ?_) (fun _ hf => ?_)
        · refine v_iconst 0 dL_parts_168 (by decide) ?_
          exact v_xzret hr dL_parts_169 hE hf
        · refine v_iload 6 dL_parts_107 rfl ?_
          refine v_if_le 116 dL_parts_109 (by decide) hf (fun _ hf => ?_) (fun _ hf => ?_)
          · refine v_iconst 0 dL_parts_116 (by decide) ?_
            refine v_sub [1, 2, 3, 4, 6, 7, 8, 9, 10, 0] rfl ?_
            exact e_L_parts_117 hfx hn hr hE p1 p2 l2 l3 l5 l6 l7 l8 l9 s0 0 G hf
          · refine v_iconst 1 dL_parts_112 (by decide) ?_
            refine v_goto 117 dL_parts_113 (by decide) ?_
            refine v_sub [1, 2, 3, 4, 6, 7, 8, 9, 10, 0] rfl ?_
            exact e_L_parts_117 hfx hn hr hE p1 p2 l2 l3 l5 l6 l7 l8 l9 s0 1 G hf
set_option maxRecDepth 100000 in
set_option maxHeartbeats 4000000 in
theorem e_L_parts_68 {X : VX} {B : VB} {z : (String ⊕ Int32)} {Gf : GH}  (hfx : (xl X).stackTraces = false) (hn : ∀ x ∈ (xc X).exceptionTable.toList, False) (hr : (xme X).sig.returnType = (some .boolean)) (hE : VE B (z, Gf))  (p1 : Nat) (p2 : Int32) (l2 : Int32) (l3 : Int32) (l4 : Int32) (l5 : Int32) (l6 : Int32) (l7 : Int32) (l8 : Int32) (s0 : Int32) (G : GH) (hf : (f_L_parts_68 p1 p2 l2 l3 l4 l5 l6 l7 l8 s0).1 G = some (z, Gf)) : V X RL cL_parts 16 8 135 wsL_parts B (XQ X (xmap vI z) Gf B) G 68 [(0, .ref p1), (1, .int p2), (2, .int l2), (3, .int l3), (4, .int l4), (5, .int l5), (6, .int l6), (7, .int l7), (8, .int l8)] [.int s0] := by
  unfold f_L_parts_68 at hf
  refine v_istore [(9, .int s0), (0, .ref p1), (1, .int p2), (2, .int l2), (3, .int l3), (4, .int l4), (5, .int l5), (6, .int l6), (7, .int l7), (8, .int l8)] dL_parts_68 (by decide) rfl ?_
  refine v_iload_n 4 dL_parts_70 rfl rfl ?_
  refine v_iload 5 dL_parts_71 rfl ?_
  refine v_icmp_le 81 dL_parts_73 (by decide) hf (fun _ hf => ?_) (fun _ hf => ?_)
  · refine v_iload_n 4 dL_parts_81 rfl rfl ?_
    refine v_sub [1, 2, 3, 4, 5, 6, 7, 8, 9, 0] rfl ?_
    exact e_L_parts_82 hfx hn hr hE p1 p2 l2 l3 l4 l5 l6 l7 l8 s0 l3 G hf
  · refine v_iload 5 dL_parts_76 rfl ?_
    refine v_goto 82 dL_parts_78 (by decide) ?_
    refine v_sub [1, 2, 3, 4, 5, 6, 7, 8, 9, 0] rfl ?_
    exact e_L_parts_82 hfx hn hr hE p1 p2 l2 l3 l4 l5 l6 l7 l8 s0 l4 G hf
set_option maxRecDepth 100000 in
set_option maxHeartbeats 4000000 in
theorem e_L_parts_0 {X : VX} {B : VB} {z : (String ⊕ Int32)} {Gf : GH}  (hfx : (xl X).stackTraces = false) (hn : ∀ x ∈ (xc X).exceptionTable.toList, False) (hr : (xme X).sig.returnType = (some .boolean)) (hE : VE B (z, Gf))  (p1 : Nat) (p2 : Int32) (G : GH) (hf : (f_L_parts p1 p2).1 G = some (z, Gf)) : V X RL cL_parts 16 8 135 wsL_parts B (XQ X (xmap vI z) Gf B) G 0 [(0, .ref p1), (1, .int p2)] [] := by
  unfold f_L_parts at hf
  refine v_aload_n 0 dL_parts_0 rfl rfl ?_
  refine v_iload_n 1 dL_parts_1 rfl rfl ?_
  refine v_iconst 1 dL_parts_2 (by decide) ?_
  refine v_xcallVi hn 4 2 [.int p2, .int 1] (c_X4_version (xl X) hfx p1 p2 1) gL_parts_X4_version rfl dv_X4_version (by decide) (by decide) rfl rfl dL_parts_3 (Nat.le_of_ble_eq_true rfl) rfl hE hf (fun x1 G hf => ?_)
  refine v_istore_n [(2, .int x1), (0, .ref p1), (1, .int p2)] dL_parts_6 rfl (by decide) rfl ?_
  refine v_aload_n 1 dL_parts_7 rfl rfl ?_
  refine v_iload_n 2 dL_parts_8 rfl rfl ?_
  refine v_iconst 2 dL_parts_9 (by decide) ?_
  refine v_xcallVi hn 4 2 [.int p2, .int 2] (c_X4_version (xl X) hfx p1 p2 2) gL_parts_X4_version rfl dv_X4_version (by decide) (by decide) rfl rfl dL_parts_10 (Nat.le_of_ble_eq_true rfl) rfl hE hf (fun x2 G hf => ?_)
  refine v_istore_n [(3, .int x2), (2, .int x1), (0, .ref p1), (1, .int p2)] dL_parts_13 rfl (by decide) rfl ?_
  refine v_aload_n 2 dL_parts_14 rfl rfl ?_
  refine v_iload_n 3 dL_parts_15 rfl rfl ?_
  refine v_iconst 3 dL_parts_16 (by decide) ?_
  refine v_xcallVi hn 4 2 [.int p2, .int 3] (c_X4_version (xl X) hfx p1 p2 3) gL_parts_X4_version rfl dv_X4_version (by decide) (by decide) rfl rfl dL_parts_17 (Nat.le_of_ble_eq_true rfl) rfl hE hf (fun x3 G hf => ?_)
  refine v_istore [(4, .int x3), (3, .int x2), (2, .int x1), (0, .ref p1), (1, .int p2)] dL_parts_20 (by decide) rfl ?_
  refine v_aload_n 3 dL_parts_22 rfl rfl ?_
  refine v_iload_n 4 dL_parts_23 rfl rfl ?_
  refine v_iconst 4 dL_parts_24 (by decide) ?_
  refine v_xcallVi hn 4 2 [.int p2, .int 4] (c_X4_version (xl X) hfx p1 p2 4) gL_parts_X4_version rfl dv_X4_version (by decide) (by decide) rfl rfl dL_parts_25 (Nat.le_of_ble_eq_true rfl) rfl hE hf (fun x4 G hf => ?_)
  refine v_istore [(5, .int x4), (4, .int x3), (3, .int x2), (2, .int x1), (0, .ref p1), (1, .int p2)] dL_parts_28 (by decide) rfl ?_
  refine v_aload_n 4 dL_parts_30 rfl rfl ?_
  refine v_iload_n 5 dL_parts_31 rfl rfl ?_
  refine v_iconst 5 dL_parts_32 (by decide) ?_
  refine v_xcallVi hn 4 2 [.int p2, .int 5] (c_X4_version (xl X) hfx p1 p2 5) gL_parts_X4_version rfl dv_X4_version (by decide) (by decide) rfl rfl dL_parts_33 (Nat.le_of_ble_eq_true rfl) rfl hE hf (fun x5 G hf => ?_)
  refine v_istore [(6, .int x5), (5, .int x4), (4, .int x3), (3, .int x2), (2, .int x1), (0, .ref p1), (1, .int p2)] dL_parts_36 (by decide) rfl ?_
  refine v_aload_n 5 dL_parts_38 rfl rfl ?_
  refine v_iload_n 6 dL_parts_39 rfl rfl ?_
  refine v_bipush 6 dL_parts_40 (by decide) ?_
  refine v_xcallVi hn 4 2 [.int p2, .int 6] (c_X4_version (xl X) hfx p1 p2 6) gL_parts_X4_version rfl dv_X4_version (by decide) (by decide) rfl rfl dL_parts_42 (Nat.le_of_ble_eq_true rfl) rfl hE hf (fun x6 G hf => ?_)
  refine v_istore [(7, .int x6), (6, .int x5), (5, .int x4), (4, .int x3), (3, .int x2), (2, .int x1), (0, .ref p1), (1, .int p2)] dL_parts_45 (by decide) rfl ?_
  refine v_aload_n 6 dL_parts_47 rfl rfl ?_
  refine v_iload_n 7 dL_parts_48 rfl rfl ?_
  refine v_bipush 7 dL_parts_49 (by decide) ?_
  refine v_xcallVi hn 4 2 [.int p2, .int 7] (c_X4_version (xl X) hfx p1 p2 7) gL_parts_X4_version rfl dv_X4_version (by decide) (by decide) rfl rfl dL_parts_51 (Nat.le_of_ble_eq_true rfl) rfl hE hf (fun x7 G hf => ?_)
  refine v_istore [(8, .int x7), (7, .int x6), (6, .int x5), (5, .int x4), (4, .int x3), (3, .int x2), (2, .int x1), (0, .ref p1), (1, .int p2)] dL_parts_54 (by decide) rfl ?_
  refine v_iload_n 5 dL_parts_56 rfl rfl ?_
  refine v_iload 4 dL_parts_57 rfl ?_
  refine v_icmp_le 66 dL_parts_59 (by decide) hf (fun _ hf => ?_) (fun _ hf => ?_)
  · refine v_iload 4 dL_parts_66 rfl ?_
    refine v_sub [7, 8, 6, 5, 4, 3, 2, 1, 0] rfl ?_
    exact e_L_parts_68 hfx hn hr hE p1 p2 x1 x2 x3 x4 x5 x6 x7 x3 G hf
  · refine v_iload_n 5 dL_parts_62 rfl rfl ?_
    refine v_goto 68 dL_parts_63 (by decide) ?_
    refine v_sub [7, 8, 6, 5, 4, 3, 2, 1, 0] rfl ?_
    exact e_L_parts_68 hfx hn hr hE p1 p2 x1 x2 x3 x4 x5 x6 x7 x2 G hf
theorem c_L_parts (l : Launch) (hfl : l.stackTraces = false) (p1 : Nat) (p2 : Int32) : CX l yL_parts wsL_parts 8 135 [.ref p1, .int p2] vI (f_L_parts p1 p2) := CX.start hfl RL rfl (by decide +kernel) rfl (Nat.le_of_ble_eq_true rfl) (fun X G z Gf hl hn hr hf => e_L_parts_0 (by rw [hl]; exact hfl) hn hr ⟨rfl, rfl⟩ p1 p2 G hf)
theorem dn_L_parts : yL_parts.cls ≠ "java/lang/invoke/MethodHandle" ∧ yL_parts.cls ≠ "java/lang/invoke/VarHandle" ∧ (parseMethodDescriptor yL_parts.desc).map (fun d => d.parameters.length) = some 2 := by decide +kernel
set_option maxRecDepth 100000 in
set_option maxHeartbeats 4000000 in
theorem e_L_ways_238 {X : VX} {B : VB} {z : (String ⊕ Int32)} {Gf : GH}  (hfx : (xl X).stackTraces = false) (hn : ∀ x ∈ (xc X).exceptionTable.toList, False) (hr : (xme X).sig.returnType = (some .boolean)) (hE : VE B (z, Gf))  (p1 : Nat) (p2 : Int32) (p3 : Int32) (l6 : Int32) (l8 : Int32) (l9 : Int32) (s0 : UInt64) (s1 : UInt64) (G : GH) (hf : (f_L_ways_238 p1 p2 p3 l6 l8 l9 s0 s1).1 G = some (z, Gf)) : V X RL cL_ways 11 8 134 wsL_ways B (XQ X (xmap vI z) Gf B) G 238 [(0, .ref p1), (1, .int p2), (2, .int p3), (6, .int l6), (8, .int l8), (9, .int l9)] [.double s0, .double s1] := by
  unfold f_L_ways_238 at hf
  refine v_dcmp dL_ways_238 ?_
  refine v_if_ne 338 dL_ways_239 (by decide) hf (fun _ hf => ?_) (fun _ hf => ?_)
  · refine v_iconst 0 dL_ways_338 (by decide) ?_
    exact v_xzret hr dL_ways_339 hE hf
  · refine v_aload_n 0 dL_ways_242 rfl rfl ?_
    refine v_iload_n 1 dL_ways_243 rfl rfl ?_
    refine v_iload_n 2 dL_ways_244 rfl rfl ?_
    refine v_xcallVi hn 4 2 [.int p2, .int p3] (c_X4_common (xl X) hfx p1 p2 p3) gL_ways_X4_common rfl dv_X4_common (by decide) (by decide) rfl rfl dL_ways_245 (Nat.le_of_ble_eq_true rfl) rfl hE hf (fun x8 G hf => ?_)
    refine v_iload 3 dL_ways_248 rfl ?_
    refine v_icmp_ne 338 dL_ways_250 (by decide) hf (fun _ hf => ?_) (fun _ hf => ?_)
    · refine v_iconst 0 dL_ways_338 (by decide) ?_
      exact v_xzret hr dL_ways_339 hE hf
    · refine v_aload_n 0 dL_ways_253 rfl rfl ?_
      refine v_iload_n 2 dL_ways_254 rfl rfl ?_
      refine v_iload_n 1 dL_ways_255 rfl rfl ?_
      refine v_xcallVi hn 4 2 [.int p3, .int p2] (c_X4_common (xl X) hfx p1 p3 p2) gL_ways_X4_common rfl dv_X4_common (by decide) (by decide) rfl rfl dL_ways_256 (Nat.le_of_ble_eq_true rfl) rfl hE hf (fun x9 G hf => ?_)
      refine v_iload 3 dL_ways_259 rfl ?_
      refine v_icmp_ne 338 dL_ways_261 (by decide) hf (fun _ hf => ?_) (fun _ hf => ?_)
      · refine v_iconst 0 dL_ways_338 (by decide) ?_
        exact v_xzret hr dL_ways_339 hE hf
      · refine v_aload_n 0 dL_ways_264 rfl rfl ?_
        refine v_iload_n 1 dL_ways_265 rfl rfl ?_
        refine v_iload_n 1 dL_ways_266 rfl rfl ?_
        refine v_xcallVi hn 4 2 [.int p2, .int p2] (c_X4_common (xl X) hfx p1 p2 p2) gL_ways_X4_common rfl dv_X4_common (by decide) (by decide) rfl rfl dL_ways_267 (Nat.le_of_ble_eq_true rfl) rfl hE hf (fun x10 G hf => ?_)
        refine v_iload_n 1 dL_ways_270 rfl rfl ?_
        refine v_icmp_ne 338 dL_ways_271 (by decide) hf (fun _ hf => ?_) (fun _ hf => ?_)
        · refine v_iconst 0 dL_ways_338 (by decide) ?_
          exact v_xzret hr dL_ways_339 hE hf
        · refine v_aload_n 0 dL_ways_274 rfl rfl ?_
          refine v_iload_n 1 dL_ways_275 rfl rfl ?_
          refine v_iload_n 2 dL_ways_276 rfl rfl ?_
          refine v_xcallVi hn 4 2 [.int p2, .int p3] (c_X4_same (xl X) hfx p1 p2 p3) gL_ways_X4_same rfl dv_X4_same (by decide) (by decide) rfl rfl dL_ways_277 (Nat.le_of_ble_eq_true rfl) rfl hE hf (fun x11 G hf => ?_)
          refine v_iload 5 dL_ways_280 rfl ?_
          refine v_icmp_ne 338 dL_ways_282 (by decide) hf (fun _ hf => ?_) (fun _ hf => ?_)
          · refine v_iconst 0 dL_ways_338 (by decide) ?_
            exact v_xzret hr dL_ways_339 hE hf
          · refine v_aload_n 0 dL_ways_285 rfl rfl ?_
            refine v_iload_n 2 dL_ways_286 rfl rfl ?_
            refine v_iload_n 1 dL_ways_287 rfl rfl ?_
            refine v_xcallVi hn 4 2 [.int p3, .int p2] (c_X4_same (xl X) hfx p1 p3 p2) gL_ways_X4_same rfl dv_X4_same (by decide) (by decide) rfl rfl dL_ways_288 (Nat.le_of_ble_eq_true rfl) rfl hE hf (fun x12 G hf => ?_)
            refine v_iload 5 dL_ways_291 rfl ?_
            refine v_icmp_ne 338 dL_ways_293 (by decide) hf (fun _ hf => ?_) (fun _ hf => ?_)
            · refine v_iconst 0 dL_ways_338 (by decide) ?_
              exact v_xzret hr dL_ways_339 hE hf
            · refine v_iload 4 dL_ways_296 rfl ?_
              refine v_iload_n 1 dL_ways_298 rfl rfl ?_
              refine v_icmp_gt 338 dL_ways_299 (by decide) hf (fun _ hf => ?_) (fun _ hf => ?_)
              · refine v_iconst 0 dL_ways_338 (by decide) ?_
                exact v_xzret hr dL_ways_339 hE hf
              · refine v_aload_n 0 dL_ways_302 rfl rfl ?_
                refine v_iload_n 1 dL_ways_303 rfl rfl ?_
                refine v_iload 4 dL_ways_304 rfl ?_
                refine v_xcallVi hn 4 2 [.int p2, .int l8] (c_X4_same (xl X) hfx p1 p2 l8) gL_ways_X4_same rfl dv_X4_same (by decide) (by decide) rfl rfl dL_ways_306 (Nat.le_of_ble_eq_true rfl) rfl hE hf (fun x13 G hf => ?_)
                refine v_if_eq 338 dL_ways_309 (by decide) hf (fun _ hf => ?_) (fun _ hf => ?_)
                · refine v_iconst 0 dL_ways_338 (by decide) ?_
                  exact v_xzret hr dL_ways_339 hE hf
                · refine v_iload 5 dL_ways_312 rfl ?_
                  refine v_if_eq 323 dL_ways_314 (by decide) hf (fun _ hf => ?_) (fun _ hf => ?_)
                  · refine v_aload_n 0 dL_ways_323 rfl rfl ?_
                    refine v_iload 4 dL_ways_324 rfl ?_
                    refine v_xcallVi hn 4 1 [.int l8] (c_X4_firstLike (xl X) hfx p1 l8) gL_ways_X4_firstLike rfl dv_X4_firstLike (by decide) (by decide) rfl rfl dL_ways_326 (Nat.le_of_ble_eq_true rfl) rfl hE hf (fun x14 G hf => ?_)
                    refine v_iload 4 dL_ways_329 rfl ?_
                    refine v_icmp_ne 338 dL_ways_331 (by decide) hf (fun _ hf => ?_) (fun _ hf => ?_)
                    · refine v_iconst 0 dL_ways_338 (by decide) ?_
                      exact v_xzret hr dL_ways_339 hE hf
                    · refine v_iconst 1 dL_ways_334 (by decide) ?_
                      refine v_goto 339 dL_ways_335 (by decide) ?_
                      exact v_xzret hr dL_ways_339 hE hf
                  · refine v_iload 4 dL_ways_317 rfl ?_
                    refine v_iload_n 2 dL_ways_319 rfl rfl ?_
                    refine v_icmp_gt 338 dL_ways_320 (by decide) hf (fun _ hf => ?_) (fun _ hf => ?_)
                    · refine v_iconst 0 dL_ways_338 (by decide) ?_
                      exact v_xzret hr dL_ways_339 hE hf
                    · refine v_aload_n 0 dL_ways_323 rfl rfl ?_
                      refine v_iload 4 dL_ways_324 rfl ?_
                      refine v_xcallVi hn 4 1 [.int l8] (c_X4_firstLike (xl X) hfx p1 l8) gL_ways_X4_firstLike rfl dv_X4_firstLike (by decide) (by decide) rfl rfl dL_ways_326 (Nat.le_of_ble_eq_true rfl) rfl hE hf (fun x15 G hf => ?_)
                      refine v_iload 4 dL_ways_329 rfl ?_
                      refine v_icmp_ne 338 dL_ways_331 (by decide) hf (fun _ hf => ?_) (fun _ hf => ?_)
                      · refine v_iconst 0 dL_ways_338 (by decide) ?_
                        exact v_xzret hr dL_ways_339 hE hf
                      · refine v_iconst 1 dL_ways_334 (by decide) ?_
                        refine v_goto 339 dL_ways_335 (by decide) ?_
                        exact v_xzret hr dL_ways_339 hE hf
set_option maxRecDepth 100000 in
set_option maxHeartbeats 4000000 in
theorem e_L_ways_196 {X : VX} {B : VB} {z : (String ⊕ Int32)} {Gf : GH}  (hfx : (xl X).stackTraces = false) (hn : ∀ x ∈ (xc X).exceptionTable.toList, False) (hr : (xme X).sig.returnType = (some .boolean)) (hE : VE B (z, Gf))  (p1 : Nat) (p2 : Int32) (p3 : Int32) (l3 : Int32) (l4 : Int32) (l5 : Int32) (l6 : Int32) (l8 : Int32) (l9 : Int32) (G : GH) (hf : (f_L_ways_196 p1 p2 p3 l3 l4 l5 l6 l8 l9).1 G = some (z, Gf)) : V X RL cL_ways 11 8 134 wsL_ways B (XQ X (xmap vI z) Gf B) G 196 [(0, .ref p1), (1, .int p2), (2, .int p3), (3, .int l3), (4, .int l4), (5, .int l5), (6, .int l6), (8, .int l8), (9, .int l9)] [] := by
  unfold f_L_ways_196 at hf
  refine v_aload_n 0 dL_ways_196 rfl rfl ?_
  refine v_iload_n 1 dL_ways_197 rfl rfl ?_
  refine v_bipush 9 dL_ways_198 (by decide) ?_
  refine v_xcallVi hn 4 2 [.int p2, .int 9] (c_X4_version (xl X) hfx p1 p2 9) gL_ways_X4_version rfl dv_X4_version (by decide) (by decide) rfl rfl dL_ways_200 (Nat.le_of_ble_eq_true rfl) rfl hE hf (fun x4 G hf => ?_)
  refine v_iload 5 dL_ways_203 rfl ?_
  refine v_icmp_ne 338 dL_ways_205 (by decide) hf (fun _ hf => ?_) (fun _ hf => ?_)
  · refine v_iconst 0 dL_ways_338 (by decide) ?_
    exact v_xzret hr dL_ways_339 hE hf
  · refine v_aload_n 0 dL_ways_208 rfl rfl ?_
    refine v_iload_n 1 dL_ways_209 rfl rfl ?_
    refine v_xcallVi hn 4 1 [.int p2] (c_X4_worst (xl X) hfx p1 p2) gL_ways_X4_worst rfl dv_X4_worst (by decide) (by decide) rfl rfl dL_ways_210 (Nat.le_of_ble_eq_true rfl) rfl hE hf (fun x5 G hf => ?_)
    refine v_iload 4 dL_ways_213 rfl ?_
    refine v_icmp_ne 338 dL_ways_215 (by decide) hf (fun _ hf => ?_) (fun _ hf => ?_)
    · refine v_iconst 0 dL_ways_338 (by decide) ?_
      exact v_xzret hr dL_ways_339 hE hf
    · refine v_aload_n 0 dL_ways_218 rfl rfl ?_
      refine v_iload_n 1 dL_ways_219 rfl rfl ?_
      refine v_xcallVd hn 4 1 [.int p2] (c_X4_mean (xl X) hfx p1 p2) gL_ways_X4_mean rfl dv_X4_mean (by decide) (by decide) rfl rfl dL_ways_220 (Nat.le_of_ble_eq_true rfl) rfl hE hf (fun r6 G hf => ?_)
      refine v_iload 5 dL_ways_223 rfl ?_
      refine v_if_ne 232 dL_ways_225 (by decide) hf (fun _ hf => ?_) (fun _ hf => ?_)
      · refine v_iload_n 3 dL_ways_232 rfl rfl ?_
        refine v_i2d dL_ways_233 ?_
        refine v_iload 5 dL_ways_234 rfl ?_
        refine v_i2d dL_ways_236 ?_
        refine v_ddiv dL_ways_237 hf (fun d7 hf => ?_)
        refine v_sub [0, 1, 2, 6, 7, 8] rfl ?_
        exact e_L_ways_238 hfx hn hr hE p1 p2 p3 l6 l8 l9 d7 r6 G hf
      · refine v_dconst0 dL_ways_228 ?_
        refine v_goto 238 dL_ways_229 (by decide) ?_
        refine v_sub [0, 1, 2, 6, 7, 8] rfl ?_
        exact e_L_ways_238 hfx hn hr hE p1 p2 p3 l6 l8 l9 (0 : UInt64) r6 G hf
set_option maxRecDepth 100000 in
set_option maxHeartbeats 4000000 in
theorem e_L_ways_150 {X : VX} {B : VB} {z : (String ⊕ Int32)} {Gf : GH}  (hfx : (xl X).stackTraces = false) (hn : ∀ x ∈ (xc X).exceptionTable.toList, False) (hr : (xme X).sig.returnType = (some .boolean)) (hE : VE B (z, Gf))  : ∀ (n : Nat) (p1 : Nat) (p2 : Int32) (p3 : Int32) (l3 : Int32) (l4 : Int32) (l5 : Int32) (l6 : Int32) (l8 : Int32) (l9 : Int32) (l10 : Int32) (G : GH), (f_L_ways_150 n p1 p2 p3 l3 l4 l5 l6 l8 l9 l10).1 G = some (z, Gf) → V X RL cL_ways 11 8 134 wsL_ways B (XQ X (xmap vI z) Gf B) G 150 [(0, .ref p1), (1, .int p2), (2, .int p3), (3, .int l3), (4, .int l4), (5, .int l5), (6, .int l6), (8, .int l8), (9, .int l9), (10, .int l10)] [] := by
  intro n
  induction n with
  | zero =>
    intro p1 p2 p3 l3 l4 l5 l6 l8 l9 l10 G hf
    have h0 : (none : Option ((String ⊕ Int32) × GH)) = some (z, Gf) := hf
    cases h0
  | succ n ih =>
    intro p1 p2 p3 l3 l4 l5 l6 l8 l9 l10 G hf
    rw [f_L_ways_150.eq_2] at hf
    refine v_iload 8 dL_ways_150 rfl ?_
    refine v_if_eq 196 dL_ways_152 (by decide) hf (fun _ hf => ?_) (fun _ hf => ?_)
    · refine v_sub [0, 1, 2, 3, 4, 5, 6, 7, 8] rfl ?_
      exact e_L_ways_196 hfx hn hr hE p1 p2 p3 l3 l4 l5 l6 l8 l9 G hf
    · refine v_iload 9 dL_ways_155 rfl ?_
      refine v_aload_n 0 dL_ways_157 rfl rfl ?_
      refine v_iload_n 1 dL_ways_158 rfl rfl ?_
      refine v_iconst 1 dL_ways_159 (by decide) ?_
      refine v_xcallVi hn 4 2 [.int p2, .int 1] (c_X4_version (xl X) hfx p1 p2 1) gL_ways_X4_version rfl dv_X4_version (by decide) (by decide) rfl rfl dL_ways_160 (Nat.le_of_ble_eq_true rfl) rfl hE hf (fun x16 G hf => ?_)
      refine v_icmp_ge 196 dL_ways_163 (by decide) hf (fun _ hf => ?_) (fun _ hf => ?_)
      · refine v_sub [0, 1, 2, 3, 4, 5, 6, 7, 8] rfl ?_
        exact e_L_ways_196 hfx hn hr hE p1 p2 p3 l3 l4 l5 l6 l8 l9 G hf
      · refine v_aload_n 0 dL_ways_166 rfl rfl ?_
        refine v_iload_n 1 dL_ways_167 rfl rfl ?_
        refine v_iload 9 dL_ways_168 rfl ?_
        refine v_xcallVi hn 4 2 [.int p2, .int l10] (c_X4_at (xl X) hfx p1 p2 l10) gL_ways_X4_at rfl dv_X4_at (by decide) (by decide) rfl rfl dL_ways_170 (Nat.le_of_ble_eq_true rfl) rfl hE hf (fun x17 G hf => ?_)
        refine v_aload_n 0 dL_ways_173 rfl rfl ?_
        refine v_iload_n 2 dL_ways_174 rfl rfl ?_
        refine v_iload 9 dL_ways_175 rfl ?_
        refine v_xcallVi hn 4 2 [.int p3, .int l10] (c_X4_at (xl X) hfx p1 p3 l10) gL_ways_X4_at rfl dv_X4_at (by decide) (by decide) rfl rfl dL_ways_177 (Nat.le_of_ble_eq_true rfl) rfl hE hf (fun x18 G hf => ?_)
        refine v_icmp_ne 187 dL_ways_180 (by decide) hf (fun _ hf => ?_) (fun _ hf => ?_)
        · refine v_iconst 0 dL_ways_187 (by decide) ?_
          refine v_istore [(9, .int 0), (0, .ref p1), (1, .int p2), (2, .int p3), (3, .int l3), (4, .int l4), (5, .int l5), (6, .int l6), (8, .int l8), (10, .int l10)] dL_ways_188 (by decide) rfl ?_
          refine v_iinc 9 (l10 + 1) [(10, .int (l10 + 1)), (9, .int 0), (0, .ref p1), (1, .int p2), (2, .int p3), (3, .int l3), (4, .int l4), (5, .int l5), (6, .int l6), (8, .int l8)] dL_ways_190 rfl (by rfl) (by decide) rfl ?_
          refine v_goto 150 dL_ways_193 (by decide) ?_
          refine v_sub [2, 3, 4, 5, 6, 7, 8, 9, 1, 0] rfl ?_
          exact ih p1 p2 p3 l3 l4 l5 l6 l8 0 (l10 + 1) G hf
        · refine v_iconst 1 dL_ways_183 (by decide) ?_
          refine v_goto 188 dL_ways_184 (by decide) ?_
          refine v_istore [(9, .int 1), (0, .ref p1), (1, .int p2), (2, .int p3), (3, .int l3), (4, .int l4), (5, .int l5), (6, .int l6), (8, .int l8), (10, .int l10)] dL_ways_188 (by decide) rfl ?_
          refine v_iinc 9 (l10 + 1) [(10, .int (l10 + 1)), (9, .int 1), (0, .ref p1), (1, .int p2), (2, .int p3), (3, .int l3), (4, .int l4), (5, .int l5), (6, .int l6), (8, .int l8)] dL_ways_190 rfl (by rfl) (by decide) rfl ?_
          refine v_goto 150 dL_ways_193 (by decide) ?_
          refine v_sub [2, 3, 4, 5, 6, 7, 8, 9, 1, 0] rfl ?_
          exact ih p1 p2 p3 l3 l4 l5 l6 l8 1 (l10 + 1) G hf
set_option maxRecDepth 100000 in
set_option maxHeartbeats 4000000 in
theorem e_L_ways_145 {X : VX} {B : VB} {z : (String ⊕ Int32)} {Gf : GH}  (hfx : (xl X).stackTraces = false) (hn : ∀ x ∈ (xc X).exceptionTable.toList, False) (hr : (xme X).sig.returnType = (some .boolean)) (hE : VE B (z, Gf))  (p1 : Nat) (p2 : Int32) (p3 : Int32) (l3 : Int32) (l4 : Int32) (l5 : Int32) (l6 : Int32) (l8 : Int32) (s0 : Int32) (G : GH) (hf : (f_L_ways_145 p1 p2 p3 l3 l4 l5 l6 l8 s0).1 G = some (z, Gf)) : V X RL cL_ways 11 8 134 wsL_ways B (XQ X (xmap vI z) Gf B) G 145 [(0, .ref p1), (1, .int p2), (2, .int p3), (3, .int l3), (4, .int l4), (5, .int l5), (6, .int l6), (8, .int l8)] [.int s0] := by
  unfold f_L_ways_145 at hf
  refine v_istore [(9, .int s0), (0, .ref p1), (1, .int p2), (2, .int p3), (3, .int l3), (4, .int l4), (5, .int l5), (6, .int l6), (8, .int l8)] dL_ways_145 (by decide) rfl ?_
  refine v_iconst 0 dL_ways_147 (by decide) ?_
  refine v_istore [(10, .int 0), (9, .int s0), (0, .ref p1), (1, .int p2), (2, .int p3), (3, .int l3), (4, .int l4), (5, .int l5), (6, .int l6), (8, .int l8)] dL_ways_148 (by decide) rfl ?_
  refine v_sub [2, 3, 4, 5, 6, 7, 8, 9, 1, 0] rfl ?_
  exact e_L_ways_150 hfx hn hr hE FU p1 p2 p3 l3 l4 l5 l6 l8 s0 0 G hf
set_option maxRecDepth 100000 in
set_option maxHeartbeats 4000000 in
theorem e_L_ways_68 {X : VX} {B : VB} {z : (String ⊕ Int32)} {Gf : GH}  (hfx : (xl X).stackTraces = false) (hn : ∀ x ∈ (xc X).exceptionTable.toList, False) (hr : (xme X).sig.returnType = (some .boolean)) (hE : VE B (z, Gf))  : ∀ (n : Nat) (p1 : Nat) (p2 : Int32) (p3 : Int32) (l3 : Int32) (l4 : Int32) (l5 : Int32) (l6 : Int32) (l7 : Int32) (G : GH), (f_L_ways_68 n p1 p2 p3 l3 l4 l5 l6 l7).1 G = some (z, Gf) → V X RL cL_ways 11 8 134 wsL_ways B (XQ X (xmap vI z) Gf B) G 68 [(0, .ref p1), (1, .int p2), (2, .int p3), (3, .int l3), (4, .int l4), (5, .int l5), (6, .int l6), (7, .int l7)] [] := by
  intro n
  induction n with
  | zero =>
    intro p1 p2 p3 l3 l4 l5 l6 l7 G hf
    have h0 : (none : Option ((String ⊕ Int32) × GH)) = some (z, Gf) := hf
    cases h0
  | succ n ih =>
    intro p1 p2 p3 l3 l4 l5 l6 l7 G hf
    rw [f_L_ways_68.eq_2] at hf
    refine v_iload 6 dL_ways_68 rfl ?_
    refine v_iload 7 dL_ways_70 rfl ?_
    refine v_icmp_eq 118 dL_ways_72 (by decide) hf (fun _ hf => ?_) (fun _ hf => ?_)
    · refine v_aload_n 0 dL_ways_118 rfl rfl ?_
      refine v_iload_n 1 dL_ways_119 rfl rfl ?_
      refine v_xcallVi hn 4 1 [.int p2] (c_X4_firstLike (xl X) hfx p1 p2) gL_ways_X4_firstLike rfl dv_X4_firstLike (by decide) (by decide) rfl rfl dL_ways_120 (Nat.le_of_ble_eq_true rfl) rfl hE hf (fun x1 G hf => ?_)
      refine v_istore [(8, .int x1), (0, .ref p1), (1, .int p2), (2, .int p3), (3, .int l3), (4, .int l4), (5, .int l5), (6, .int l6), (7, .int l7)] dL_ways_123 (by decide) rfl ?_
      refine v_aload_n 1 dL_ways_125 rfl rfl ?_
      refine v_iload_n 2 dL_ways_126 rfl rfl ?_
      refine v_iconst 1 dL_ways_127 (by decide) ?_
      refine v_xcallVi hn 4 2 [.int p2, .int 1] (c_X4_version (xl X) hfx p1 p2 1) gL_ways_X4_version rfl dv_X4_version (by decide) (by decide) rfl rfl dL_ways_128 (Nat.le_of_ble_eq_true rfl) rfl hE hf (fun x2 G hf => ?_)
      refine v_aload_n 1 dL_ways_131 rfl rfl ?_
      refine v_iload_n 3 dL_ways_132 rfl rfl ?_
      refine v_iconst 1 dL_ways_133 (by decide) ?_
      refine v_xcallVi hn 4 2 [.int p3, .int 1] (c_X4_version (xl X) hfx p1 p3 1) gL_ways_X4_version rfl dv_X4_version (by decide) (by decide) rfl rfl dL_ways_134 (Nat.le_of_ble_eq_true rfl) rfl hE hf (fun x3 G hf => ?_)
      refine v_icmp_ne 144 dL_ways_137 (by decide) hf (fun _ hf => ?_) (fun _ hf => ?_)
      · refine v_iconst 0 dL_ways_144 (by decide) ?_
        refine v_sub [1, 2, 3, 4, 5, 6, 7, 0] rfl ?_
        exact e_L_ways_145 hfx hn hr hE p1 p2 p3 l3 l4 l5 l6 x1 0 G hf
      · refine v_iconst 1 dL_ways_140 (by decide) ?_
        refine v_goto 145 dL_ways_141 (by decide) ?_
        refine v_sub [1, 2, 3, 4, 5, 6, 7, 0] rfl ?_
        exact e_L_ways_145 hfx hn hr hE p1 p2 p3 l3 l4 l5 l6 x1 1 G hf
    · refine v_aload_n 0 dL_ways_75 rfl rfl ?_
      refine v_iload 6 dL_ways_76 rfl ?_
      refine v_bipush 9 dL_ways_78 (by decide) ?_
      refine v_xcallVi hn 4 2 [.int l6, .int 9] (c_X4_version (xl X) hfx p1 l6 9) gL_ways_X4_version rfl dv_X4_version (by decide) (by decide) rfl rfl dL_ways_80 (Nat.le_of_ble_eq_true rfl) rfl hE hf (fun x19 G hf => ?_)
      refine v_aload_n 0 dL_ways_83 rfl rfl ?_
      refine v_iload 7 dL_ways_84 rfl ?_
      refine v_bipush 9 dL_ways_86 (by decide) ?_
      refine v_xcallVi hn 4 2 [.int l7, .int 9] (c_X4_version (xl X) hfx p1 l7 9) gL_ways_X4_version rfl dv_X4_version (by decide) (by decide) rfl rfl dL_ways_88 (Nat.le_of_ble_eq_true rfl) rfl hE hf (fun x20 G hf => ?_)
      refine v_icmp_lt 106 dL_ways_91 (by decide) hf (fun _ hf => ?_) (fun _ hf => ?_)
      · refine v_aload_n 0 dL_ways_106 rfl rfl ?_
        refine v_iload 7 dL_ways_107 rfl ?_
        refine v_iconst 0 dL_ways_109 (by decide) ?_
        refine v_xcallVi hn 4 2 [.int l7, .int 0] (c_X4_version (xl X) hfx p1 l7 0) gL_ways_X4_version rfl dv_X4_version (by decide) (by decide) rfl rfl dL_ways_110 (Nat.le_of_ble_eq_true rfl) rfl hE hf (fun x21 G hf => ?_)
        refine v_istore [(7, .int x21), (0, .ref p1), (1, .int p2), (2, .int p3), (3, .int l3), (4, .int l4), (5, .int l5), (6, .int l6)] dL_ways_113 (by decide) rfl ?_
        refine v_goto 68 dL_ways_115 (by decide) ?_
        refine v_sub [1, 2, 3, 4, 5, 6, 7, 0] rfl ?_
        exact ih p1 p2 p3 l3 l4 l5 l6 x21 G hf
      · refine v_aload_n 0 dL_ways_94 rfl rfl ?_
        refine v_iload 6 dL_ways_95 rfl ?_
        refine v_iconst 0 dL_ways_97 (by decide) ?_
        refine v_xcallVi hn 4 2 [.int l6, .int 0] (c_X4_version (xl X) hfx p1 l6 0) gL_ways_X4_version rfl dv_X4_version (by decide) (by decide) rfl rfl dL_ways_98 (Nat.le_of_ble_eq_true rfl) rfl hE hf (fun x22 G hf => ?_)
        refine v_istore [(6, .int x22), (0, .ref p1), (1, .int p2), (2, .int p3), (3, .int l3), (4, .int l4), (5, .int l5), (7, .int l7)] dL_ways_101 (by decide) rfl ?_
        refine v_goto 68 dL_ways_103 (by decide) ?_
        refine v_sub [1, 2, 3, 4, 5, 6, 0, 7] rfl ?_
        exact ih p1 p2 p3 l3 l4 l5 x22 l7 G hf
set_option maxRecDepth 100000 in
set_option maxHeartbeats 4000000 in
theorem e_L_ways_11 {X : VX} {B : VB} {z : (String ⊕ Int32)} {Gf : GH}  (hfx : (xl X).stackTraces = false) (hn : ∀ x ∈ (xc X).exceptionTable.toList, False) (hr : (xme X).sig.returnType = (some .boolean)) (hE : VE B (z, Gf))  : ∀ (n : Nat) (p1 : Nat) (p2 : Int32) (p3 : Int32) (l3 : Int32) (l4 : Int32) (l5 : Int32) (l6 : Int32) (G : GH), (f_L_ways_11 n p1 p2 p3 l3 l4 l5 l6).1 G = some (z, Gf) → V X RL cL_ways 11 8 134 wsL_ways B (XQ X (xmap vI z) Gf B) G 11 [(0, .ref p1), (1, .int p2), (2, .int p3), (3, .int l3), (4, .int l4), (5, .int l5), (6, .int l6)] [] := by
  intro n
  induction n with
  | zero =>
    intro p1 p2 p3 l3 l4 l5 l6 G hf
    have h0 : (none : Option ((String ⊕ Int32) × GH)) = some (z, Gf) := hf
    cases h0
  | succ n ih =>
    intro p1 p2 p3 l3 l4 l5 l6 G hf
    rw [f_L_ways_11.eq_2] at hf
    refine v_iload 6 dL_ways_11 rfl ?_
    refine v_if_le 62 dL_ways_13 (by decide) hf (fun _ hf => ?_) (fun _ hf => ?_)
    · refine v_iload_n 1 dL_ways_62 rfl rfl ?_
      refine v_istore [(6, .int p2), (0, .ref p1), (1, .int p2), (2, .int p3), (3, .int l3), (4, .int l4), (5, .int l5)] dL_ways_63 (by decide) rfl ?_
      refine v_iload_n 3 dL_ways_65 rfl rfl ?_
      refine v_istore [(7, .int p3), (6, .int p2), (0, .ref p1), (1, .int p2), (2, .int p3), (3, .int l3), (4, .int l4), (5, .int l5)] dL_ways_66 (by decide) rfl ?_
      refine v_sub [2, 3, 4, 5, 6, 7, 1, 0] rfl ?_
      exact e_L_ways_68 hfx hn hr hE FU p1 p2 p3 l3 l4 l5 p2 p3 G hf
    · refine v_aload_n 0 dL_ways_16 rfl rfl ?_
      refine v_iload 6 dL_ways_17 rfl ?_
      refine v_bipush 6 dL_ways_19 (by decide) ?_
      refine v_xcallVi hn 4 2 [.int l6, .int 6] (c_X4_version (xl X) hfx p1 l6 6) gL_ways_X4_version rfl dv_X4_version (by decide) (by decide) rfl rfl dL_ways_21 (Nat.le_of_ble_eq_true rfl) rfl hE hf (fun x23 G hf => ?_)
      refine v_istore [(7, .int x23), (0, .ref p1), (1, .int p2), (2, .int p3), (3, .int l3), (4, .int l4), (5, .int l5), (6, .int l6)] dL_ways_24 (by decide) rfl ?_
      refine v_iload_n 4 dL_ways_26 rfl rfl ?_
      refine v_iload 0 dL_ways_27 rfl ?_
      refine v_iadd dL_ways_29 ?_
      refine v_istore_n [(3, .int (l3 + x23)), (7, .int x23), (0, .ref p1), (1, .int p2), (2, .int p3), (4, .int l4), (5, .int l5), (6, .int l6)] dL_ways_30 rfl (by decide) rfl ?_
      refine v_iload 1 dL_ways_31 rfl ?_
      refine v_iload 5 dL_ways_33 rfl ?_
      refine v_icmp_le 43 dL_ways_35 (by decide) hf (fun _ hf => ?_) (fun _ hf => ?_)
      · refine v_iload 5 dL_ways_43 rfl ?_
        refine v_istore [(4, .int l4), (3, .int (l3 + x23)), (7, .int x23), (0, .ref p1), (1, .int p2), (2, .int p3), (5, .int l5), (6, .int l6)] dL_ways_45 (by decide) rfl ?_
        refine v_iinc 6 (l5 + 1) [(5, .int (l5 + 1)), (4, .int l4), (3, .int (l3 + x23)), (7, .int x23), (0, .ref p1), (1, .int p2), (2, .int p3), (6, .int l6)] dL_ways_47 rfl (by rfl) (by decide) rfl ?_
        refine v_aload_n 4 dL_ways_50 rfl rfl ?_
        refine v_iload 7 dL_ways_51 rfl ?_
        refine v_iconst 0 dL_ways_53 (by decide) ?_
        refine v_xcallVi hn 4 2 [.int l6, .int 0] (c_X4_version (xl X) hfx p1 l6 0) gL_ways_X4_version rfl dv_X4_version (by decide) (by decide) rfl rfl dL_ways_54 (Nat.le_of_ble_eq_true rfl) rfl hE hf (fun x24 G hf => ?_)
        refine v_istore [(6, .int x24), (5, .int (l5 + 1)), (4, .int l4), (3, .int (l3 + x23)), (7, .int x23), (0, .ref p1), (1, .int p2), (2, .int p3)] dL_ways_57 (by decide) rfl ?_
        refine v_goto 11 dL_ways_59 (by decide) ?_
        refine v_sub [5, 6, 7, 3, 2, 1, 0] rfl ?_
        exact ih p1 p2 p3 (l3 + x23) l4 (l5 + 1) x24 G hf
      · refine v_iload 1 dL_ways_38 rfl ?_
        refine v_goto 45 dL_ways_40 (by decide) ?_
        refine v_istore [(4, .int x23), (3, .int (l3 + x23)), (7, .int x23), (0, .ref p1), (1, .int p2), (2, .int p3), (5, .int l5), (6, .int l6)] dL_ways_45 (by decide) rfl ?_
        refine v_iinc 6 (l5 + 1) [(5, .int (l5 + 1)), (4, .int x23), (3, .int (l3 + x23)), (7, .int x23), (0, .ref p1), (1, .int p2), (2, .int p3), (6, .int l6)] dL_ways_47 rfl (by rfl) (by decide) rfl ?_
        refine v_aload_n 4 dL_ways_50 rfl rfl ?_
        refine v_iload 7 dL_ways_51 rfl ?_
        refine v_iconst 0 dL_ways_53 (by decide) ?_
        refine v_xcallVi hn 4 2 [.int l6, .int 0] (c_X4_version (xl X) hfx p1 l6 0) gL_ways_X4_version rfl dv_X4_version (by decide) (by decide) rfl rfl dL_ways_54 (Nat.le_of_ble_eq_true rfl) rfl hE hf (fun x25 G hf => ?_)
        refine v_istore [(6, .int x25), (5, .int (l5 + 1)), (4, .int x23), (3, .int (l3 + x23)), (7, .int x23), (0, .ref p1), (1, .int p2), (2, .int p3)] dL_ways_57 (by decide) rfl ?_
        refine v_goto 11 dL_ways_59 (by decide) ?_
        refine v_sub [5, 6, 7, 3, 2, 1, 0] rfl ?_
        exact ih p1 p2 p3 (l3 + x23) x23 (l5 + 1) x25 G hf
set_option maxRecDepth 100000 in
set_option maxHeartbeats 4000000 in
theorem e_L_ways_0 {X : VX} {B : VB} {z : (String ⊕ Int32)} {Gf : GH}  (hfx : (xl X).stackTraces = false) (hn : ∀ x ∈ (xc X).exceptionTable.toList, False) (hr : (xme X).sig.returnType = (some .boolean)) (hE : VE B (z, Gf))  (p1 : Nat) (p2 : Int32) (p3 : Int32) (G : GH) (hf : (f_L_ways p1 p2 p3).1 G = some (z, Gf)) : V X RL cL_ways 11 8 134 wsL_ways B (XQ X (xmap vI z) Gf B) G 0 [(0, .ref p1), (1, .int p2), (2, .int p3)] [] := by
  unfold f_L_ways at hf
  refine v_iconst 0 dL_ways_0 (by decide) ?_
  refine v_istore_n [(3, .int 0), (0, .ref p1), (1, .int p2), (2, .int p3)] dL_ways_1 rfl (by decide) rfl ?_
  refine v_iconst 0 dL_ways_2 (by decide) ?_
  refine v_istore [(4, .int 0), (3, .int 0), (0, .ref p1), (1, .int p2), (2, .int p3)] dL_ways_3 (by decide) rfl ?_
  refine v_iconst 0 dL_ways_5 (by decide) ?_
  refine v_istore [(5, .int 0), (4, .int 0), (3, .int 0), (0, .ref p1), (1, .int p2), (2, .int p3)] dL_ways_6 (by decide) rfl ?_
  refine v_iload_n 4 dL_ways_8 rfl rfl ?_
  refine v_istore [(6, .int p2), (5, .int 0), (4, .int 0), (3, .int 0), (0, .ref p1), (1, .int p2), (2, .int p3)] dL_ways_9 (by decide) rfl ?_
  refine v_sub [4, 5, 6, 3, 2, 1, 0] rfl ?_
  exact e_L_ways_11 hfx hn hr hE FU p1 p2 p3 0 0 0 p2 G hf
theorem c_L_ways (l : Launch) (hfl : l.stackTraces = false) (p1 : Nat) (p2 : Int32) (p3 : Int32) : CX l yL_ways wsL_ways 8 134 [.ref p1, .int p2, .int p3] vI (f_L_ways p1 p2 p3) := CX.start hfl RL rfl (by decide +kernel) rfl (Nat.le_of_ble_eq_true rfl) (fun X G z Gf hl hn hr hf => e_L_ways_0 (by rw [hl]; exact hfl) hn hr ⟨rfl, rfl⟩ p1 p2 p3 G hf)
theorem dn_L_ways : yL_ways.cls ≠ "java/lang/invoke/MethodHandle" ∧ yL_ways.cls ≠ "java/lang/invoke/VarHandle" ∧ (parseMethodDescriptor yL_ways.desc).map (fun d => d.parameters.length) = some 3 := by decide +kernel
set_option maxRecDepth 100000 in
set_option maxHeartbeats 4000000 in
theorem e_L_sound_202 {X : VX} {B : VB} {z : (String ⊕ Int32)} {Gf : GH} {k29 : Nat → Int32 → Int32 → Int32 → Int32 → Int32 → Int32 → Int32 → Int32 → Int32 → Int32 → MX Int32} {k69 : Nat → Int32 → Int32 → Int32 → Int32 → Int32 → Int32 → Int32 → Int32 → Int32 → Int32 → Int32 → Int32 → MX Int32} (hfx : (xl X).stackTraces = false) (hn : ∀ x ∈ (xc X).exceptionTable.toList, False) (hr : (xme X).sig.returnType = (some .boolean)) (hE : VE B (z, Gf)) (hk29 : ∀ (y0 : Nat) (y1 : Int32) (y2 : Int32) (y3 : Int32) (y4 : Int32) (y5 : Int32) (y6 : Int32) (y7 : Int32) (y8 : Int32) (y9 : Int32) (y10 : Int32) (G : GH), (k29 y0 y1 y2 y3 y4 y5 y6 y7 y8 y9 y10).1 G = some (z, Gf) → V X RL cL_sound 13 9 170 wsL_sound B (XQ X (xmap vI z) Gf B) G 29 [(0, .ref y0), (1, .int y1), (2, .int y2), (3, .int y3), (4, .int y4), (5, .int y5), (6, .int y6), (7, .int y7), (8, .int y8), (9, .int y9), (10, .int y10)] []) (hk69 : ∀ (y0 : Nat) (y1 : Int32) (y2 : Int32) (y3 : Int32) (y4 : Int32) (y5 : Int32) (y6 : Int32) (y7 : Int32) (y8 : Int32) (y9 : Int32) (y10 : Int32) (y11 : Int32) (y12 : Int32) (G : GH), (k69 y0 y1 y2 y3 y4 y5 y6 y7 y8 y9 y10 y11 y12).1 G = some (z, Gf) → V X RL cL_sound 13 9 170 wsL_sound B (XQ X (xmap vI z) Gf B) G 69 [(0, .ref y0), (1, .int y1), (2, .int y2), (3, .int y3), (4, .int y4), (5, .int y5), (6, .int y6), (7, .int y7), (8, .int y8), (9, .int y9), (10, .int y10), (11, .int y11), (12, .int y12)] []) (p1 : Nat) (p2 : Int32) (l2 : Int32) (l3 : Int32) (l4 : Int32) (l5 : Int32) (l6 : Int32) (l7 : Int32) (l9 : Int32) (l10 : Int32) (s0 : Int32) (s1 : Int32) (G : GH) (hf : (f_L_sound_202 k29 k69 p1 p2 l2 l3 l4 l5 l6 l7 l9 l10 s0 s1).1 G = some (z, Gf)) : V X RL cL_sound 13 9 170 wsL_sound B (XQ X (xmap vI z) Gf B) G 202 [(0, .ref p1), (1, .int p2), (2, .int l2), (3, .int l3), (4, .int l4), (5, .int l5), (6, .int l6), (7, .int l7), (9, .int l9), (10, .int l10)] [.int s0, .int s1] := by
  unfold f_L_sound_202 at hf
  refine v_iadd dL_sound_202 ?_
  refine v_istore [(8, .int (s1 + s0)), (0, .ref p1), (1, .int p2), (2, .int l2), (3, .int l3), (4, .int l4), (5, .int l5), (6, .int l6), (7, .int l7), (9, .int l9), (10, .int l10)] dL_sound_203 (by decide) rfl ?_
  refine v_aload_n 1 dL_sound_205 rfl rfl ?_
  refine v_iload 10 dL_sound_206 rfl ?_
  refine v_bipush 9 dL_sound_208 (by decide) ?_
  refine v_xcallVi hn 4 2 [.int l10, .int 9] (c_X4_version (xl X) hfx p1 l10 9) gL_sound_X4_version rfl dv_X4_version (by decide) (by decide) rfl rfl dL_sound_210 (Nat.le_of_ble_eq_true rfl) rfl hE hf (fun x19 G hf => ?_)
  refine v_iload 9 dL_sound_213 rfl ?_
  refine v_icmp_le 229 dL_sound_215 (by decide) hf (fun _ hf => ?_) (fun _ hf => ?_)
  · refine v_iload 9 dL_sound_229 rfl ?_
    refine v_istore [(9, .int l9), (8, .int (s1 + s0)), (0, .ref p1), (1, .int p2), (2, .int l2), (3, .int l3), (4, .int l4), (5, .int l5), (6, .int l6), (7, .int l7), (10, .int l10)] dL_sound_231 (by decide) rfl ?_
    refine v_iinc 10 (l10 + 1) [(10, .int (l10 + 1)), (9, .int l9), (8, .int (s1 + s0)), (0, .ref p1), (1, .int p2), (2, .int l2), (3, .int l3), (4, .int l4), (5, .int l5), (6, .int l6), (7, .int l7)] dL_sound_233 rfl (by rfl) (by decide) rfl ?_
    refine v_goto 29 dL_sound_236 (by decide) ?_
    refine v_sub [3, 4, 5, 6, 7, 8, 9, 10, 2, 1, 0] rfl ?_
    exact hk29 p1 p2 l2 l3 l4 l5 l6 l7 (s1 + s0) l9 (l10 + 1) G hf
  · refine v_aload_n 1 dL_sound_218 rfl rfl ?_
    refine v_iload 10 dL_sound_219 rfl ?_
    refine v_bipush 9 dL_sound_221 (by decide) ?_
    refine v_xcallVi hn 4 2 [.int l10, .int 9] (c_X4_version (xl X) hfx p1 l10 9) gL_sound_X4_version rfl dv_X4_version (by decide) (by decide) rfl rfl dL_sound_223 (Nat.le_of_ble_eq_true rfl) rfl hE hf (fun x20 G hf => ?_)
    refine v_goto 231 dL_sound_226 (by decide) ?_
    refine v_istore [(9, .int x20), (8, .int (s1 + s0)), (0, .ref p1), (1, .int p2), (2, .int l2), (3, .int l3), (4, .int l4), (5, .int l5), (6, .int l6), (7, .int l7), (10, .int l10)] dL_sound_231 (by decide) rfl ?_
    refine v_iinc 10 (l10 + 1) [(10, .int (l10 + 1)), (9, .int x20), (8, .int (s1 + s0)), (0, .ref p1), (1, .int p2), (2, .int l2), (3, .int l3), (4, .int l4), (5, .int l5), (6, .int l6), (7, .int l7)] dL_sound_233 rfl (by rfl) (by decide) rfl ?_
    refine v_goto 29 dL_sound_236 (by decide) ?_
    refine v_sub [3, 4, 5, 6, 7, 8, 9, 10, 2, 1, 0] rfl ?_
    exact hk29 p1 p2 l2 l3 l4 l5 l6 l7 (s1 + s0) x20 (l10 + 1) G hf
set_option maxRecDepth 100000 in
set_option maxHeartbeats 4000000 in
theorem e_L_sound_169 {X : VX} {B : VB} {z : (String ⊕ Int32)} {Gf : GH} {k29 : Nat → Int32 → Int32 → Int32 → Int32 → Int32 → Int32 → Int32 → Int32 → Int32 → Int32 → MX Int32} {k69 : Nat → Int32 → Int32 → Int32 → Int32 → Int32 → Int32 → Int32 → Int32 → Int32 → Int32 → Int32 → Int32 → MX Int32} (hfx : (xl X).stackTraces = false) (hn : ∀ x ∈ (xc X).exceptionTable.toList, False) (hr : (xme X).sig.returnType = (some .boolean)) (hE : VE B (z, Gf)) (hk29 : ∀ (y0 : Nat) (y1 : Int32) (y2 : Int32) (y3 : Int32) (y4 : Int32) (y5 : Int32) (y6 : Int32) (y7 : Int32) (y8 : Int32) (y9 : Int32) (y10 : Int32) (G : GH), (k29 y0 y1 y2 y3 y4 y5 y6 y7 y8 y9 y10).1 G = some (z, Gf) → V X RL cL_sound 13 9 170 wsL_sound B (XQ X (xmap vI z) Gf B) G 29 [(0, .ref y0), (1, .int y1), (2, .int y2), (3, .int y3), (4, .int y4), (5, .int y5), (6, .int y6), (7, .int y7), (8, .int y8), (9, .int y9), (10, .int y10)] []) (hk69 : ∀ (y0 : Nat) (y1 : Int32) (y2 : Int32) (y3 : Int32) (y4 : Int32) (y5 : Int32) (y6 : Int32) (y7 : Int32) (y8 : Int32) (y9 : Int32) (y10 : Int32) (y11 : Int32) (y12 : Int32) (G : GH), (k69 y0 y1 y2 y3 y4 y5 y6 y7 y8 y9 y10 y11 y12).1 G = some (z, Gf) → V X RL cL_sound 13 9 170 wsL_sound B (XQ X (xmap vI z) Gf B) G 69 [(0, .ref y0), (1, .int y1), (2, .int y2), (3, .int y3), (4, .int y4), (5, .int y5), (6, .int y6), (7, .int y7), (8, .int y8), (9, .int y9), (10, .int y10), (11, .int y11), (12, .int y12)] []) (p1 : Nat) (p2 : Int32) (l2 : Int32) (l3 : Int32) (l4 : Int32) (l5 : Int32) (l7 : Int32) (l8 : Int32) (l9 : Int32) (l10 : Int32) (s0 : Int32) (s1 : Int32) (G : GH) (hf : (f_L_sound_169 k29 k69 p1 p2 l2 l3 l4 l5 l7 l8 l9 l10 s0 s1).1 G = some (z, Gf)) : V X RL cL_sound 13 9 170 wsL_sound B (XQ X (xmap vI z) Gf B) G 169 [(0, .ref p1), (1, .int p2), (2, .int l2), (3, .int l3), (4, .int l4), (5, .int l5), (7, .int l7), (8, .int l8), (9, .int l9), (10, .int l10)] [.int s0, .int s1] := by
  unfold f_L_sound_169 at hf
  refine v_iadd dL_sound_169 ?_
  refine v_istore [(6, .int (s1 + s0)), (0, .ref p1), (1, .int p2), (2, .int l2), (3, .int l3), (4, .int l4), (5, .int l5), (7, .int l7), (8, .int l8), (9, .int l9), (10, .int l10)] dL_sound_170 (by decide) rfl ?_
  refine v_iload 7 dL_sound_172 rfl ?_
  refine v_aload_n 1 dL_sound_174 rfl rfl ?_
  refine v_iload 10 dL_sound_175 rfl ?_
  refine v_bipush 7 dL_sound_177 (by decide) ?_
  refine v_xcallVi hn 4 2 [.int l10, .int 7] (c_X4_version (xl X) hfx p1 l10 7) gL_sound_X4_version rfl dv_X4_version (by decide) (by decide) rfl rfl dL_sound_179 (Nat.le_of_ble_eq_true rfl) rfl hE hf (fun x17 G hf => ?_)
  refine v_iadd dL_sound_182 ?_
  refine v_istore [(7, .int (l7 + x17)), (6, .int (s1 + s0)), (0, .ref p1), (1, .int p2), (2, .int l2), (3, .int l3), (4, .int l4), (5, .int l5), (8, .int l8), (9, .int l9), (10, .int l10)] dL_sound_183 (by decide) rfl ?_
  refine v_iload 8 dL_sound_185 rfl ?_
  refine v_aload_n 2 dL_sound_187 rfl rfl ?_
  refine v_iload 10 dL_sound_188 rfl ?_
  refine v_iconst 5 dL_sound_190 (by decide) ?_
  refine v_xcallVi hn 4 2 [.int l10, .int 5] (c_X4_version (xl X) hfx p1 l10 5) gL_sound_X4_version rfl dv_X4_version (by decide) (by decide) rfl rfl dL_sound_191 (Nat.le_of_ble_eq_true rfl) rfl hE hf (fun x18 G hf => ?_)
  refine v_if_lt 201 dL_sound_194 (by decide) hf (fun _ hf => ?_) (fun _ hf => ?_)
  · refine v_iconst 0 dL_sound_201 (by decide) ?_
    refine v_sub [2, 3, 4, 5, 6, 7, 1, 0, 9, 10] rfl ?_
    exact e_L_sound_202 hfx hn hr hE hk29 hk69 p1 p2 l2 l3 l4 l5 (s1 + s0) (l7 + x17) l9 l10 0 l8 G hf
  · refine v_iconst 1 dL_sound_197 (by decide) ?_
    refine v_goto 202 dL_sound_198 (by decide) ?_
    refine v_sub [2, 3, 4, 5, 6, 7, 1, 0, 9, 10] rfl ?_
    exact e_L_sound_202 hfx hn hr hE hk29 hk69 p1 p2 l2 l3 l4 l5 (s1 + s0) (l7 + x17) l9 l10 1 l8 G hf
set_option maxRecDepth 100000 in
set_option maxHeartbeats 4000000 in
theorem e_L_sound_142 {X : VX} {B : VB} {z : (String ⊕ Int32)} {Gf : GH} {k29 : Nat → Int32 → Int32 → Int32 → Int32 → Int32 → Int32 → Int32 → Int32 → Int32 → Int32 → MX Int32} {k69 : Nat → Int32 → Int32 → Int32 → Int32 → Int32 → Int32 → Int32 → Int32 → Int32 → Int32 → Int32 → Int32 → MX Int32} (hfx : (xl X).stackTraces = false) (hn : ∀ x ∈ (xc X).exceptionTable.toList, False) (hr : (xme X).sig.returnType = (some .boolean)) (hE : VE B (z, Gf)) (hk29 : ∀ (y0 : Nat) (y1 : Int32) (y2 : Int32) (y3 : Int32) (y4 : Int32) (y5 : Int32) (y6 : Int32) (y7 : Int32) (y8 : Int32) (y9 : Int32) (y10 : Int32) (G : GH), (k29 y0 y1 y2 y3 y4 y5 y6 y7 y8 y9 y10).1 G = some (z, Gf) → V X RL cL_sound 13 9 170 wsL_sound B (XQ X (xmap vI z) Gf B) G 29 [(0, .ref y0), (1, .int y1), (2, .int y2), (3, .int y3), (4, .int y4), (5, .int y5), (6, .int y6), (7, .int y7), (8, .int y8), (9, .int y9), (10, .int y10)] []) (hk69 : ∀ (y0 : Nat) (y1 : Int32) (y2 : Int32) (y3 : Int32) (y4 : Int32) (y5 : Int32) (y6 : Int32) (y7 : Int32) (y8 : Int32) (y9 : Int32) (y10 : Int32) (y11 : Int32) (y12 : Int32) (G : GH), (k69 y0 y1 y2 y3 y4 y5 y6 y7 y8 y9 y10 y11 y12).1 G = some (z, Gf) → V X RL cL_sound 13 9 170 wsL_sound B (XQ X (xmap vI z) Gf B) G 69 [(0, .ref y0), (1, .int y1), (2, .int y2), (3, .int y3), (4, .int y4), (5, .int y5), (6, .int y6), (7, .int y7), (8, .int y8), (9, .int y9), (10, .int y10), (11, .int y11), (12, .int y12)] []) (p1 : Nat) (p2 : Int32) (l2 : Int32) (l3 : Int32) (l5 : Int32) (l6 : Int32) (l7 : Int32) (l8 : Int32) (l9 : Int32) (l10 : Int32) (l12 : Int32) (s0 : Int32) (G : GH) (hf : (f_L_sound_142 k29 k69 p1 p2 l2 l3 l5 l6 l7 l8 l9 l10 l12 s0).1 G = some (z, Gf)) : V X RL cL_sound 13 9 170 wsL_sound B (XQ X (xmap vI z) Gf B) G 142 [(0, .ref p1), (1, .int p2), (2, .int l2), (3, .int l3), (5, .int l5), (6, .int l6), (7, .int l7), (8, .int l8), (9, .int l9), (10, .int l10), (12, .int l12)] [.int s0] := by
  unfold f_L_sound_142 at hf
  refine v_istore [(4, .int s0), (0, .ref p1), (1, .int p2), (2, .int l2), (3, .int l3), (5, .int l5), (6, .int l6), (7, .int l7), (8, .int l8), (9, .int l9), (10, .int l10), (12, .int l12)] dL_sound_142 (by decide) rfl ?_
  refine v_iload 5 dL_sound_144 rfl ?_
  refine v_iload 11 dL_sound_146 rfl ?_
  refine v_iadd dL_sound_148 ?_
  refine v_istore [(5, .int (l5 + l12)), (4, .int s0), (0, .ref p1), (1, .int p2), (2, .int l2), (3, .int l3), (6, .int l6), (7, .int l7), (8, .int l8), (9, .int l9), (10, .int l10), (12, .int l12)] dL_sound_149 (by decide) rfl ?_
  refine v_iload 6 dL_sound_151 rfl ?_
  refine v_aload_n 2 dL_sound_153 rfl rfl ?_
  refine v_iload 10 dL_sound_154 rfl ?_
  refine v_bipush 7 dL_sound_156 (by decide) ?_
  refine v_xcallVi hn 4 2 [.int l10, .int 7] (c_X4_version (xl X) hfx p1 l10 7) gL_sound_X4_version rfl dv_X4_version (by decide) (by decide) rfl rfl dL_sound_158 (Nat.le_of_ble_eq_true rfl) rfl hE hf (fun x16 G hf => ?_)
  refine v_if_le 168 dL_sound_161 (by decide) hf (fun _ hf => ?_) (fun _ hf => ?_)
  · refine v_iconst 0 dL_sound_168 (by decide) ?_
    refine v_sub [2, 3, 4, 5, 1, 0, 7, 8, 9, 10] rfl ?_
    exact e_L_sound_169 hfx hn hr hE hk29 hk69 p1 p2 l2 l3 s0 (l5 + l12) l7 l8 l9 l10 0 l6 G hf
  · refine v_iconst 1 dL_sound_164 (by decide) ?_
    refine v_goto 169 dL_sound_165 (by decide) ?_
    refine v_sub [2, 3, 4, 5, 1, 0, 7, 8, 9, 10] rfl ?_
    exact e_L_sound_169 hfx hn hr hE hk29 hk69 p1 p2 l2 l3 s0 (l5 + l12) l7 l8 l9 l10 1 l6 G hf
set_option maxRecDepth 100000 in
set_option maxHeartbeats 4000000 in
theorem e_L_sound_116 {X : VX} {B : VB} {z : (String ⊕ Int32)} {Gf : GH} {k29 : Nat → Int32 → Int32 → Int32 → Int32 → Int32 → Int32 → Int32 → Int32 → Int32 → Int32 → MX Int32} {k69 : Nat → Int32 → Int32 → Int32 → Int32 → Int32 → Int32 → Int32 → Int32 → Int32 → Int32 → Int32 → Int32 → MX Int32} (hfx : (xl X).stackTraces = false) (hn : ∀ x ∈ (xc X).exceptionTable.toList, False) (hr : (xme X).sig.returnType = (some .boolean)) (hE : VE B (z, Gf)) (hk29 : ∀ (y0 : Nat) (y1 : Int32) (y2 : Int32) (y3 : Int32) (y4 : Int32) (y5 : Int32) (y6 : Int32) (y7 : Int32) (y8 : Int32) (y9 : Int32) (y10 : Int32) (G : GH), (k29 y0 y1 y2 y3 y4 y5 y6 y7 y8 y9 y10).1 G = some (z, Gf) → V X RL cL_sound 13 9 170 wsL_sound B (XQ X (xmap vI z) Gf B) G 29 [(0, .ref y0), (1, .int y1), (2, .int y2), (3, .int y3), (4, .int y4), (5, .int y5), (6, .int y6), (7, .int y7), (8, .int y8), (9, .int y9), (10, .int y10)] []) (hk69 : ∀ (y0 : Nat) (y1 : Int32) (y2 : Int32) (y3 : Int32) (y4 : Int32) (y5 : Int32) (y6 : Int32) (y7 : Int32) (y8 : Int32) (y9 : Int32) (y10 : Int32) (y11 : Int32) (y12 : Int32) (G : GH), (k69 y0 y1 y2 y3 y4 y5 y6 y7 y8 y9 y10 y11 y12).1 G = some (z, Gf) → V X RL cL_sound 13 9 170 wsL_sound B (XQ X (xmap vI z) Gf B) G 69 [(0, .ref y0), (1, .int y1), (2, .int y2), (3, .int y3), (4, .int y4), (5, .int y5), (6, .int y6), (7, .int y7), (8, .int y8), (9, .int y9), (10, .int y10), (11, .int y11), (12, .int y12)] []) (p1 : Nat) (p2 : Int32) (l2 : Int32) (l4 : Int32) (l5 : Int32) (l6 : Int32) (l7 : Int32) (l8 : Int32) (l9 : Int32) (l10 : Int32) (s0 : Int32) (s1 : Int32) (G : GH) (hf : (f_L_sound_116 k29 k69 p1 p2 l2 l4 l5 l6 l7 l8 l9 l10 s0 s1).1 G = some (z, Gf)) : V X RL cL_sound 13 9 170 wsL_sound B (XQ X (xmap vI z) Gf B) G 116 [(0, .ref p1), (1, .int p2), (2, .int l2), (4, .int l4), (5, .int l5), (6, .int l6), (7, .int l7), (8, .int l8), (9, .int l9), (10, .int l10)] [.int s0, .int s1] := by
  unfold f_L_sound_116 at hf
  refine v_iadd dL_sound_116 ?_
  refine v_istore_n [(3, .int (s1 + s0)), (0, .ref p1), (1, .int p2), (2, .int l2), (4, .int l4), (5, .int l5), (6, .int l6), (7, .int l7), (8, .int l8), (9, .int l9), (10, .int l10)] dL_sound_117 rfl (by decide) rfl ?_
  refine v_aload_n 1 dL_sound_118 rfl rfl ?_
  refine v_iload 10 dL_sound_119 rfl ?_
  refine v_bipush 6 dL_sound_121 (by decide) ?_
  refine v_xcallVi hn 4 2 [.int l10, .int 6] (c_X4_version (xl X) hfx p1 l10 6) gL_sound_X4_version rfl dv_X4_version (by decide) (by decide) rfl rfl dL_sound_123 (Nat.le_of_ble_eq_true rfl) rfl hE hf (fun x15 G hf => ?_)
  refine v_istore [(12, .int x15), (3, .int (s1 + s0)), (0, .ref p1), (1, .int p2), (2, .int l2), (4, .int l4), (5, .int l5), (6, .int l6), (7, .int l7), (8, .int l8), (9, .int l9), (10, .int l10)] dL_sound_126 (by decide) rfl ?_
  refine v_iload 0 dL_sound_128 rfl ?_
  refine v_iload 5 dL_sound_130 rfl ?_
  refine v_icmp_le 140 dL_sound_132 (by decide) hf (fun _ hf => ?_) (fun _ hf => ?_)
  · refine v_iload 5 dL_sound_140 rfl ?_
    refine v_sub [2, 3, 4, 1, 6, 7, 8, 9, 10, 11, 0] rfl ?_
    exact e_L_sound_142 hfx hn hr hE hk29 hk69 p1 p2 l2 (s1 + s0) l5 l6 l7 l8 l9 l10 x15 l4 G hf
  · refine v_iload 0 dL_sound_135 rfl ?_
    refine v_goto 142 dL_sound_137 (by decide) ?_
    refine v_sub [2, 3, 4, 1, 6, 7, 8, 9, 10, 11, 0] rfl ?_
    exact e_L_sound_142 hfx hn hr hE hk29 hk69 p1 p2 l2 (s1 + s0) l5 l6 l7 l8 l9 l10 x15 x15 G hf
set_option maxRecDepth 100000 in
set_option maxHeartbeats 4000000 in
theorem e_L_sound_69 {X : VX} {B : VB} {z : (String ⊕ Int32)} {Gf : GH} {k29 : Nat → Int32 → Int32 → Int32 → Int32 → Int32 → Int32 → Int32 → Int32 → Int32 → Int32 → MX Int32} (hfx : (xl X).stackTraces = false) (hn : ∀ x ∈ (xc X).exceptionTable.toList, False) (hr : (xme X).sig.returnType = (some .boolean)) (hE : VE B (z, Gf)) (hk29 : ∀ (y0 : Nat) (y1 : Int32) (y2 : Int32) (y3 : Int32) (y4 : Int32) (y5 : Int32) (y6 : Int32) (y7 : Int32) (y8 : Int32) (y9 : Int32) (y10 : Int32) (G : GH), (k29 y0 y1 y2 y3 y4 y5 y6 y7 y8 y9 y10).1 G = some (z, Gf) → V X RL cL_sound 13 9 170 wsL_sound B (XQ X (xmap vI z) Gf B) G 29 [(0, .ref y0), (1, .int y1), (2, .int y2), (3, .int y3), (4, .int y4), (5, .int y5), (6, .int y6), (7, .int y7), (8, .int y8), (9, .int y9), (10, .int y10)] []) : ∀ (n : Nat) (p1 : Nat) (p2 : Int32) (l2 : Int32) (l3 : Int32) (l4 : Int32) (l5 : Int32) (l6 : Int32) (l7 : Int32) (l8 : Int32) (l9 : Int32) (l10 : Int32) (l11 : Int32) (l12 : Int32) (G : GH), (f_L_sound_69 k29 n p1 p2 l2 l3 l4 l5 l6 l7 l8 l9 l10 l11 l12).1 G = some (z, Gf) → V X RL cL_sound 13 9 170 wsL_sound B (XQ X (xmap vI z) Gf B) G 69 [(0, .ref p1), (1, .int p2), (2, .int l2), (3, .int l3), (4, .int l4), (5, .int l5), (6, .int l6), (7, .int l7), (8, .int l8), (9, .int l9), (10, .int l10), (11, .int l11), (12, .int l12)] [] := by
  intro n
  induction n with
  | zero =>
    intro p1 p2 l2 l3 l4 l5 l6 l7 l8 l9 l10 l11 l12 G hf
    have h0 : (none : Option ((String ⊕ Int32) × GH)) = some (z, Gf) := hf
    cases h0
  | succ n ih =>
    intro p1 p2 l2 l3 l4 l5 l6 l7 l8 l9 l10 l11 l12 G hf
    rw [f_L_sound_69.eq_2] at hf
    refine v_iload 12 dL_sound_69 rfl ?_
    refine v_iload_n 2 dL_sound_71 rfl rfl ?_
    refine v_icmp_ge 105 dL_sound_72 (by decide) hf (fun _ hf => ?_) (fun _ hf => ?_)
    · refine v_iload_n 3 dL_sound_105 rfl rfl ?_
      refine v_iload 11 dL_sound_106 rfl ?_
      refine v_if_eq 115 dL_sound_108 (by decide) hf (fun _ hf => ?_) (fun _ hf => ?_)
      · refine v_iconst 1 dL_sound_115 (by decide) ?_
        refine v_sub [0, 1, 2, 4, 5, 6, 7, 8, 9, 10] rfl ?_
        exact e_L_sound_116 hfx hn hr hE hk29 (fun y0 y1 y2 y3 y4 y5 y6 y7 y8 y9 y10 y11 y12 G hf => ih y0 y1 y2 y3 y4 y5 y6 y7 y8 y9 y10 y11 y12 G hf) p1 p2 l2 l4 l5 l6 l7 l8 l9 l10 1 l3 G hf
      · refine v_iconst 0 dL_sound_111 (by decide) ?_
        refine v_goto 116 dL_sound_112 (by decide) ?_
        refine v_sub [0, 1, 2, 4, 5, 6, 7, 8, 9, 10] rfl ?_
        exact e_L_sound_116 hfx hn hr hE hk29 (fun y0 y1 y2 y3 y4 y5 y6 y7 y8 y9 y10 y11 y12 G hf => ih y0 y1 y2 y3 y4 y5 y6 y7 y8 y9 y10 y11 y12 G hf) p1 p2 l2 l4 l5 l6 l7 l8 l9 l10 0 l3 G hf
    · refine v_iload 11 dL_sound_75 rfl ?_
      refine v_if_ne 92 dL_sound_77 (by decide) hf (fun _ hf => ?_) (fun _ hf => ?_)
      · refine v_iconst 1 dL_sound_92 (by decide) ?_
        refine v_goto 97 dL_sound_93 (by decide) ?_
        refine v_istore [(11, .int 1), (0, .ref p1), (1, .int p2), (2, .int l2), (3, .int l3), (4, .int l4), (5, .int l5), (6, .int l6), (7, .int l7), (8, .int l8), (9, .int l9), (10, .int l10), (12, .int l12)] dL_sound_97 (by decide) rfl ?_
        refine v_iinc 12 (l12 + 1) [(12, .int (l12 + 1)), (11, .int 1), (0, .ref p1), (1, .int p2), (2, .int l2), (3, .int l3), (4, .int l4), (5, .int l5), (6, .int l6), (7, .int l7), (8, .int l8), (9, .int l9), (10, .int l10)] dL_sound_99 rfl (by rfl) (by decide) rfl ?_
        refine v_goto 69 dL_sound_102 (by decide) ?_
        refine v_sub [2, 3, 4, 5, 6, 7, 8, 9, 10, 11, 12, 1, 0] rfl ?_
        exact ih p1 p2 l2 l3 l4 l5 l6 l7 l8 l9 l10 1 (l12 + 1) G hf
      · refine v_aload_n 0 dL_sound_80 rfl rfl ?_
        refine v_iload 12 dL_sound_81 rfl ?_
        refine v_iconst 0 dL_sound_83 (by decide) ?_
        refine v_xcallVi hn 4 2 [.int l12, .int 0] (c_X4_version (xl X) hfx p1 l12 0) gL_sound_X4_version rfl dv_X4_version (by decide) (by decide) rfl rfl dL_sound_84 (Nat.le_of_ble_eq_true rfl) rfl hE hf (fun x21 G hf => ?_)
        refine v_iload 10 dL_sound_87 rfl ?_
        refine v_icmp_ne 96 dL_sound_89 (by decide) hf (fun _ hf => ?_) (fun _ hf => ?_)
        · refine v_iconst 0 dL_sound_96 (by decide) ?_
          refine v_istore [(11, .int 0), (0, .ref p1), (1, .int p2), (2, .int l2), (3, .int l3), (4, .int l4), (5, .int l5), (6, .int l6), (7, .int l7), (8, .int l8), (9, .int l9), (10, .int l10), (12, .int l12)] dL_sound_97 (by decide) rfl ?_
          refine v_iinc 12 (l12 + 1) [(12, .int (l12 + 1)), (11, .int 0), (0, .ref p1), (1, .int p2), (2, .int l2), (3, .int l3), (4, .int l4), (5, .int l5), (6, .int l6), (7, .int l7), (8, .int l8), (9, .int l9), (10, .int l10)] dL_sound_99 rfl (by rfl) (by decide) rfl ?_
          refine v_goto 69 dL_sound_102 (by decide) ?_
          refine v_sub [2, 3, 4, 5, 6, 7, 8, 9, 10, 11, 12, 1, 0] rfl ?_
          exact ih p1 p2 l2 l3 l4 l5 l6 l7 l8 l9 l10 0 (l12 + 1) G hf
        · refine v_iconst 1 dL_sound_92 (by decide) ?_
          refine v_goto 97 dL_sound_93 (by decide) ?_
          refine v_istore [(11, .int 1), (0, .ref p1), (1, .int p2), (2, .int l2), (3, .int l3), (4, .int l4), (5, .int l5), (6, .int l6), (7, .int l7), (8, .int l8), (9, .int l9), (10, .int l10), (12, .int l12)] dL_sound_97 (by decide) rfl ?_
          refine v_iinc 12 (l12 + 1) [(12, .int (l12 + 1)), (11, .int 1), (0, .ref p1), (1, .int p2), (2, .int l2), (3, .int l3), (4, .int l4), (5, .int l5), (6, .int l6), (7, .int l7), (8, .int l8), (9, .int l9), (10, .int l10)] dL_sound_99 rfl (by rfl) (by decide) rfl ?_
          refine v_goto 69 dL_sound_102 (by decide) ?_
          refine v_sub [2, 3, 4, 5, 6, 7, 8, 9, 10, 11, 12, 1, 0] rfl ?_
          exact ih p1 p2 l2 l3 l4 l5 l6 l7 l8 l9 l10 1 (l12 + 1) G hf
set_option maxRecDepth 100000 in
set_option maxHeartbeats 4000000 in
theorem e_L_sound_60 {X : VX} {B : VB} {z : (String ⊕ Int32)} {Gf : GH} {k29 : Nat → Int32 → Int32 → Int32 → Int32 → Int32 → Int32 → Int32 → Int32 → Int32 → Int32 → MX Int32} (hfx : (xl X).stackTraces = false) (hn : ∀ x ∈ (xc X).exceptionTable.toList, False) (hr : (xme X).sig.returnType = (some .boolean)) (hE : VE B (z, Gf)) (hk29 : ∀ (y0 : Nat) (y1 : Int32) (y2 : Int32) (y3 : Int32) (y4 : Int32) (y5 : Int32) (y6 : Int32) (y7 : Int32) (y8 : Int32) (y9 : Int32) (y10 : Int32) (G : GH), (k29 y0 y1 y2 y3 y4 y5 y6 y7 y8 y9 y10).1 G = some (z, Gf) → V X RL cL_sound 13 9 170 wsL_sound B (XQ X (xmap vI z) Gf B) G 29 [(0, .ref y0), (1, .int y1), (2, .int y2), (3, .int y3), (4, .int y4), (5, .int y5), (6, .int y6), (7, .int y7), (8, .int y8), (9, .int y9), (10, .int y10)] []) (p1 : Nat) (p2 : Int32) (l2 : Int32) (l3 : Int32) (l4 : Int32) (l5 : Int32) (l6 : Int32) (l7 : Int32) (l8 : Int32) (l9 : Int32) (l10 : Int32) (G : GH) (hf : (f_L_sound_60 k29 p1 p2 l2 l3 l4 l5 l6 l7 l8 l9 l10).1 G = some (z, Gf)) : V X RL cL_sound 13 9 170 wsL_sound B (XQ X (xmap vI z) Gf B) G 60 [(0, .ref p1), (1, .int p2), (2, .int l2), (3, .int l3), (4, .int l4), (5, .int l5), (6, .int l6), (7, .int l7), (8, .int l8), (9, .int l9), (10, .int l10)] [] := by
  unfold f_L_sound_60 at hf
  refine v_iconst 0 dL_sound_60 (by decide) ?_
  refine v_istore [(11, .int 0), (0, .ref p1), (1, .int p2), (2, .int l2), (3, .int l3), (4, .int l4), (5, .int l5), (6, .int l6), (7, .int l7), (8, .int l8), (9, .int l9), (10, .int l10)] dL_sound_61 (by decide) rfl ?_
  refine v_iload 11 dL_sound_63 rfl ?_
  refine v_iconst 1 dL_sound_65 (by decide) ?_
  refine v_iadd dL_sound_66 ?_
  refine v_istore [(12, .int (l10 + 1)), (11, .int 0), (0, .ref p1), (1, .int p2), (2, .int l2), (3, .int l3), (4, .int l4), (5, .int l5), (6, .int l6), (7, .int l7), (8, .int l8), (9, .int l9), (10, .int l10)] dL_sound_67 (by decide) rfl ?_
  refine v_sub [2, 3, 4, 5, 6, 7, 8, 9, 10, 11, 12, 1, 0] rfl ?_
  exact e_L_sound_69 hfx hn hr hE hk29 FU p1 p2 l2 l3 l4 l5 l6 l7 l8 l9 l10 0 (l10 + 1) G hf
set_option maxRecDepth 100000 in
set_option maxHeartbeats 4000000 in
theorem e_L_sound_29 {X : VX} {B : VB} {z : (String ⊕ Int32)} {Gf : GH}  (hfx : (xl X).stackTraces = false) (hn : ∀ x ∈ (xc X).exceptionTable.toList, False) (hr : (xme X).sig.returnType = (some .boolean)) (hE : VE B (z, Gf))  : ∀ (n : Nat) (p1 : Nat) (p2 : Int32) (l2 : Int32) (l3 : Int32) (l4 : Int32) (l5 : Int32) (l6 : Int32) (l7 : Int32) (l8 : Int32) (l9 : Int32) (l10 : Int32) (G : GH), (f_L_sound_29 n p1 p2 l2 l3 l4 l5 l6 l7 l8 l9 l10).1 G = some (z, Gf) → V X RL cL_sound 13 9 170 wsL_sound B (XQ X (xmap vI z) Gf B) G 29 [(0, .ref p1), (1, .int p2), (2, .int l2), (3, .int l3), (4, .int l4), (5, .int l5), (6, .int l6), (7, .int l7), (8, .int l8), (9, .int l9), (10, .int l10)] [] := by
  intro n
  induction n with
  | zero =>
    intro p1 p2 l2 l3 l4 l5 l6 l7 l8 l9 l10 G hf
    have h0 : (none : Option ((String ⊕ Int32) × GH)) = some (z, Gf) := hf
    cases h0
  | succ n ih =>
    intro p1 p2 l2 l3 l4 l5 l6 l7 l8 l9 l10 G hf
    rw [f_L_sound_29.eq_2] at hf
    refine v_iload 10 dL_sound_29 rfl ?_
    refine v_iload_n 2 dL_sound_31 rfl rfl ?_
    refine v_icmp_ge 239 dL_sound_32 (by decide) hf (fun _ hf => ?_) (fun _ hf => ?_)
    · refine v_aload_n 0 dL_sound_239 rfl rfl ?_
      refine v_iconst 1 dL_sound_240 (by decide) ?_
      refine v_xcallVi hn 4 1 [.int 1] (c_X4_count (xl X) hfx p1 1) gL_sound_X4_count rfl dv_X4_count (by decide) (by decide) rfl rfl dL_sound_241 (Nat.le_of_ble_eq_true rfl) rfl hE hf (fun x2 G hf => ?_)
      refine v_iload_n 3 dL_sound_244 rfl rfl ?_
      refine v_icmp_ne 352 dL_sound_245 (by decide) hf (fun _ hf => ?_) (fun _ hf => ?_)
      · refine v_iconst 0 dL_sound_352 (by decide) ?_
        exact v_xzret hr dL_sound_353 hE hf
      · refine v_aload_n 0 dL_sound_248 rfl rfl ?_
        refine v_iconst 2 dL_sound_249 (by decide) ?_
        refine v_xcallVi hn 4 1 [.int 2] (c_X4_count (xl X) hfx p1 2) gL_sound_X4_count rfl dv_X4_count (by decide) (by decide) rfl rfl dL_sound_250 (Nat.le_of_ble_eq_true rfl) rfl hE hf (fun x3 G hf => ?_)
        refine v_iload 4 dL_sound_253 rfl ?_
        refine v_icmp_ne 352 dL_sound_255 (by decide) hf (fun _ hf => ?_) (fun _ hf => ?_)
        · refine v_iconst 0 dL_sound_352 (by decide) ?_
          exact v_xzret hr dL_sound_353 hE hf
        · refine v_aload_n 0 dL_sound_258 rfl rfl ?_
          refine v_iconst 3 dL_sound_259 (by decide) ?_
          refine v_xcallVi hn 4 1 [.int 3] (c_X4_count (xl X) hfx p1 3) gL_sound_X4_count rfl dv_X4_count (by decide) (by decide) rfl rfl dL_sound_260 (Nat.le_of_ble_eq_true rfl) rfl hE hf (fun x4 G hf => ?_)
          refine v_iload 5 dL_sound_263 rfl ?_
          refine v_icmp_ne 352 dL_sound_265 (by decide) hf (fun _ hf => ?_) (fun _ hf => ?_)
          · refine v_iconst 0 dL_sound_352 (by decide) ?_
            exact v_xzret hr dL_sound_353 hE hf
          · refine v_aload_n 0 dL_sound_268 rfl rfl ?_
            refine v_iconst 4 dL_sound_269 (by decide) ?_
            refine v_xcallVi hn 4 1 [.int 4] (c_X4_count (xl X) hfx p1 4) gL_sound_X4_count rfl dv_X4_count (by decide) (by decide) rfl rfl dL_sound_270 (Nat.le_of_ble_eq_true rfl) rfl hE hf (fun x5 G hf => ?_)
            refine v_iload 6 dL_sound_273 rfl ?_
            refine v_icmp_ne 352 dL_sound_275 (by decide) hf (fun _ hf => ?_) (fun _ hf => ?_)
            · refine v_iconst 0 dL_sound_352 (by decide) ?_
              exact v_xzret hr dL_sound_353 hE hf
            · refine v_aload_n 0 dL_sound_278 rfl rfl ?_
              refine v_iconst 5 dL_sound_279 (by decide) ?_
              refine v_xcallVi hn 4 1 [.int 5] (c_X4_count (xl X) hfx p1 5) gL_sound_X4_count rfl dv_X4_count (by decide) (by decide) rfl rfl dL_sound_280 (Nat.le_of_ble_eq_true rfl) rfl hE hf (fun x6 G hf => ?_)
              refine v_iload 7 dL_sound_283 rfl ?_
              refine v_icmp_ne 352 dL_sound_285 (by decide) hf (fun _ hf => ?_) (fun _ hf => ?_)
              · refine v_iconst 0 dL_sound_352 (by decide) ?_
                exact v_xzret hr dL_sound_353 hE hf
              · refine v_aload_n 0 dL_sound_288 rfl rfl ?_
                refine v_bipush 6 dL_sound_289 (by decide) ?_
                refine v_xcallVi hn 4 1 [.int 6] (c_X4_count (xl X) hfx p1 6) gL_sound_X4_count rfl dv_X4_count (by decide) (by decide) rfl rfl dL_sound_291 (Nat.le_of_ble_eq_true rfl) rfl hE hf (fun x7 G hf => ?_)
                refine v_iload 8 dL_sound_294 rfl ?_
                refine v_icmp_ne 352 dL_sound_296 (by decide) hf (fun _ hf => ?_) (fun _ hf => ?_)
                · refine v_iconst 0 dL_sound_352 (by decide) ?_
                  exact v_xzret hr dL_sound_353 hE hf
                · refine v_aload_n 0 dL_sound_299 rfl rfl ?_
                  refine v_bipush 7 dL_sound_300 (by decide) ?_
                  refine v_xcallVi hn 4 1 [.int 7] (c_X4_count (xl X) hfx p1 7) gL_sound_X4_count rfl dv_X4_count (by decide) (by decide) rfl rfl dL_sound_302 (Nat.le_of_ble_eq_true rfl) rfl hE hf (fun x8 G hf => ?_)
                  refine v_iload 9 dL_sound_305 rfl ?_
                  refine v_icmp_ne 352 dL_sound_307 (by decide) hf (fun _ hf => ?_) (fun _ hf => ?_)
                  · refine v_iconst 0 dL_sound_352 (by decide) ?_
                    exact v_xzret hr dL_sound_353 hE hf
                  · refine v_aload_n 0 dL_sound_310 rfl rfl ?_
                    refine v_iload_n 1 dL_sound_311 rfl rfl ?_
                    refine v_iload_n 2 dL_sound_312 rfl rfl ?_
                    refine v_callSi 2 [.int p2, .int l2] (c_L_up (xl X) hfx p2 l2) gL_sound_L_up rfl dn_L_up (by decide) (by decide) rfl dL_sound_313 (Nat.le_of_ble_eq_true rfl) rfl hE hf (fun x9 G hf => ?_)
                    refine v_iload_n 1 dL_sound_316 rfl rfl ?_
                    refine v_bipush 8 dL_sound_317 (by decide) ?_
                    refine v_ishr dL_sound_319 ?_
                    refine v_iload_n 2 dL_sound_320 rfl rfl ?_
                    refine v_callSi 2 [.int (p2 >>> (8 &&& 31)), .int l2] (c_L_up (xl X) hfx (p2 >>> (8 &&& 31)) l2) gL_sound_L_up rfl dn_L_up (by decide) (by decide) rfl dL_sound_321 (Nat.le_of_ble_eq_true rfl) rfl hE hf (fun x10 G hf => ?_)
                    refine v_xcallSi hn 3 [.ref p1, .int x9, .int x10] (c_L_ways (xl X) hfx p1 x9 x10) gL_sound_L_ways rfl dn_L_ways (by decide) (by decide) rfl dL_sound_324 (Nat.le_of_ble_eq_true rfl) rfl hE hf (fun x11 G hf => ?_)
                    refine v_if_eq 352 dL_sound_327 (by decide) hf (fun _ hf => ?_) (fun _ hf => ?_)
                    · refine v_iconst 0 dL_sound_352 (by decide) ?_
                      exact v_xzret hr dL_sound_353 hE hf
                    · refine v_aload_n 0 dL_sound_330 rfl rfl ?_
                      refine v_iload_n 2 dL_sound_331 rfl rfl ?_
                      refine v_iconst 1 dL_sound_332 (by decide) ?_
                      refine v_isub dL_sound_333 ?_
                      refine v_iload_n 1 dL_sound_334 rfl rfl ?_
                      refine v_bipush 16 dL_sound_335 (by decide) ?_
                      refine v_ishr dL_sound_337 ?_
                      refine v_iload_n 2 dL_sound_338 rfl rfl ?_
                      refine v_callSi 2 [.int (p2 >>> (16 &&& 31)), .int l2] (c_L_up (xl X) hfx (p2 >>> (16 &&& 31)) l2) gL_sound_L_up rfl dn_L_up (by decide) (by decide) rfl dL_sound_339 (Nat.le_of_ble_eq_true rfl) rfl hE hf (fun x12 G hf => ?_)
                      refine v_xcallSi hn 3 [.ref p1, .int (l2 - 1), .int x12] (c_L_ways (xl X) hfx p1 (l2 - 1) x12) gL_sound_L_ways rfl dn_L_ways (by decide) (by decide) rfl dL_sound_342 (Nat.le_of_ble_eq_true rfl) rfl hE hf (fun x13 G hf => ?_)
                      refine v_if_eq 352 dL_sound_345 (by decide) hf (fun _ hf => ?_) (fun _ hf => ?_)
                      · refine v_iconst 0 dL_sound_352 (by decide) ?_
                        exact v_xzret hr dL_sound_353 hE hf
                      · refine v_iconst 1 dL_sound_348 (by decide) ?_
                        refine v_goto 353 dL_sound_349 (by decide) ?_
                        exact v_xzret hr dL_sound_353 hE hf
    · refine v_aload_n 0 dL_sound_35 rfl rfl ?_
      refine v_iload 10 dL_sound_36 rfl ?_
      refine v_xcallSi hn 2 [.ref p1, .int l10] (c_L_parts (xl X) hfx p1 l10) gL_sound_L_parts rfl dn_L_parts (by decide) (by decide) rfl dL_sound_38 (Nat.le_of_ble_eq_true rfl) rfl hE hf (fun x14 G hf => ?_)
      refine v_if_eq 58 dL_sound_41 (by decide) hf (fun _ hf => ?_) (fun _ hf => ?_)
      · refine v_iconst 0 dL_sound_58 (by decide) ?_
        exact v_xzret hr dL_sound_59 hE hf
      · refine v_iload 10 dL_sound_44 rfl ?_
        refine v_if_le 60 dL_sound_46 (by decide) hf (fun _ hf => ?_) (fun _ hf => ?_)
        · refine v_sub [0, 1, 2, 3, 4, 5, 6, 7, 8, 9, 10] rfl ?_
          exact e_L_sound_60 hfx hn hr hE (fun y0 y1 y2 y3 y4 y5 y6 y7 y8 y9 y10 G hf => ih y0 y1 y2 y3 y4 y5 y6 y7 y8 y9 y10 G hf) p1 p2 l2 l3 l4 l5 l6 l7 l8 l9 l10 G hf
        · refine v_aload_n 0 dL_sound_49 rfl rfl ?_
          refine v_iload 10 dL_sound_50 rfl ?_
          refine v_xcallSi hn 2 [.ref p1, .int l10] (c_L_row (xl X) hfx p1 l10) gL_sound_L_row rfl dn_L_row (by decide) (by decide) rfl dL_sound_52 (Nat.le_of_ble_eq_true rfl) rfl hE hf (fun x22 G hf => ?_)
          refine v_if_ne 60 dL_sound_55 (by decide) hf (fun _ hf => ?_) (fun _ hf => ?_)
          · refine v_sub [0, 1, 2, 3, 4, 5, 6, 7, 8, 9, 10] rfl ?_
            exact e_L_sound_60 hfx hn hr hE (fun y0 y1 y2 y3 y4 y5 y6 y7 y8 y9 y10 G hf => ih y0 y1 y2 y3 y4 y5 y6 y7 y8 y9 y10 G hf) p1 p2 l2 l3 l4 l5 l6 l7 l8 l9 l10 G hf
          · refine v_iconst 0 dL_sound_58 (by decide) ?_
            exact v_xzret hr dL_sound_59 hE hf
set_option maxRecDepth 100000 in
set_option maxHeartbeats 4000000 in
theorem e_L_sound_0 {X : VX} {B : VB} {z : (String ⊕ Int32)} {Gf : GH}  (hfx : (xl X).stackTraces = false) (hn : ∀ x ∈ (xc X).exceptionTable.toList, False) (hr : (xme X).sig.returnType = (some .boolean)) (hE : VE B (z, Gf))  (p1 : Nat) (p2 : Int32) (G : GH) (hf : (f_L_sound p1 p2).1 G = some (z, Gf)) : V X RL cL_sound 13 9 170 wsL_sound B (XQ X (xmap vI z) Gf B) G 0 [(0, .ref p1), (1, .int p2)] [] := by
  unfold f_L_sound at hf
  refine v_aload_n 0 dL_sound_0 rfl rfl ?_
  refine v_iconst 0 dL_sound_1 (by decide) ?_
  refine v_xcallVi hn 4 1 [.int 0] (c_X4_count (xl X) hfx p1 0) gL_sound_X4_count rfl dv_X4_count (by decide) (by decide) rfl rfl dL_sound_2 (Nat.le_of_ble_eq_true rfl) rfl hE hf (fun x1 G hf => ?_)
  refine v_istore_n [(2, .int x1), (0, .ref p1), (1, .int p2)] dL_sound_5 rfl (by decide) rfl ?_
  refine v_iconst 0 dL_sound_6 (by decide) ?_
  refine v_istore_n [(3, .int 0), (2, .int x1), (0, .ref p1), (1, .int p2)] dL_sound_7 rfl (by decide) rfl ?_
  refine v_iconst 0 dL_sound_8 (by decide) ?_
  refine v_istore [(4, .int 0), (3, .int 0), (2, .int x1), (0, .ref p1), (1, .int p2)] dL_sound_9 (by decide) rfl ?_
  refine v_iconst 0 dL_sound_11 (by decide) ?_
  refine v_istore [(5, .int 0), (4, .int 0), (3, .int 0), (2, .int x1), (0, .ref p1), (1, .int p2)] dL_sound_12 (by decide) rfl ?_
  refine v_iconst 0 dL_sound_14 (by decide) ?_
  refine v_istore [(6, .int 0), (5, .int 0), (4, .int 0), (3, .int 0), (2, .int x1), (0, .ref p1), (1, .int p2)] dL_sound_15 (by decide) rfl ?_
  refine v_iconst 0 dL_sound_17 (by decide) ?_
  refine v_istore [(7, .int 0), (6, .int 0), (5, .int 0), (4, .int 0), (3, .int 0), (2, .int x1), (0, .ref p1), (1, .int p2)] dL_sound_18 (by decide) rfl ?_
  refine v_iconst 0 dL_sound_20 (by decide) ?_
  refine v_istore [(8, .int 0), (7, .int 0), (6, .int 0), (5, .int 0), (4, .int 0), (3, .int 0), (2, .int x1), (0, .ref p1), (1, .int p2)] dL_sound_21 (by decide) rfl ?_
  refine v_iconst 0 dL_sound_23 (by decide) ?_
  refine v_istore [(9, .int 0), (8, .int 0), (7, .int 0), (6, .int 0), (5, .int 0), (4, .int 0), (3, .int 0), (2, .int x1), (0, .ref p1), (1, .int p2)] dL_sound_24 (by decide) rfl ?_
  refine v_iconst 0 dL_sound_26 (by decide) ?_
  refine v_istore [(10, .int 0), (9, .int 0), (8, .int 0), (7, .int 0), (6, .int 0), (5, .int 0), (4, .int 0), (3, .int 0), (2, .int x1), (0, .ref p1), (1, .int p2)] dL_sound_27 (by decide) rfl ?_
  refine v_sub [9, 10, 8, 7, 6, 5, 4, 3, 2, 1, 0] rfl ?_
  exact e_L_sound_29 hfx hn hr hE FU p1 p2 x1 0 0 0 0 0 0 0 0 G hf
theorem c_L_sound (l : Launch) (hfl : l.stackTraces = false) (p1 : Nat) (p2 : Int32) : CX l yL_sound wsL_sound 9 170 [.ref p1, .int p2] vI (f_L_sound p1 p2) := CX.start hfl RL rfl (by decide +kernel) rfl (Nat.le_of_ble_eq_true rfl) (fun X G z Gf hl hn hr hf => e_L_sound_0 (by rw [hl]; exact hfl) hn hr ⟨rfl, rfl⟩ p1 p2 G hf)
theorem dn_L_sound : yL_sound.cls ≠ "java/lang/invoke/MethodHandle" ∧ yL_sound.cls ≠ "java/lang/invoke/VarHandle" ∧ (parseMethodDescriptor yL_sound.desc).map (fun d => d.parameters.length) = some 2 := by decide +kernel
theorem m_L_types_k85 : Cond.constant RL 85 1103515245 ∈ wsL_types := by decide +kernel
set_option maxRecDepth 100000 in
set_option maxHeartbeats 4000000 in
theorem e_L_types_89 {X : VX} {B : VB} {z : (String ⊕ Int32)} {Gf : GH} {k18 : Nat → Int32 → Int32 → Int32 → MX Int32} (hfx : (xl X).stackTraces = false) (hn : ∀ x ∈ (xc X).exceptionTable.toList, False) (hr : (xme X).sig.returnType = (some .int)) (hE : VE B (z, Gf)) (hk18 : ∀ (y0 : Nat) (y1 : Int32) (y2 : Int32) (y3 : Int32) (G : GH), (k18 y0 y1 y2 y3).1 G = some (z, Gf) → V X RL cL_types 7 7 111 wsL_types B (XQ X (xmap vI z) Gf B) G 18 [(0, .ref y0), (3, .int y1), (4, .int y2), (5, .int y3)] []) (p1 : Nat) (l3 : Int32) (l4 : Int32) (l5 : Int32) (s0 : Int32) (s1 : Int32) (G : GH) (hf : (f_L_types_89 k18 p1 l3 l4 l5 s0 s1).1 G = some (z, Gf)) : V X RL cL_types 7 7 111 wsL_types B (XQ X (xmap vI z) Gf B) G 89 [(0, .ref p1), (3, .int l3), (4, .int l4), (5, .int l5)] [.int s0, .int s1] := by
  unfold f_L_types_89 at hf
  refine v_iadd dL_types_89 ?_
  refine v_aload_n 0 dL_types_90 rfl rfl ?_
  refine v_bipush 48 dL_types_91 (by decide) ?_
  refine v_iload 2 dL_types_93 rfl ?_
  refine v_bipush 21 dL_types_95 (by decide) ?_
  refine v_ishr dL_types_97 ?_
  refine v_bipush 10 dL_types_98 (by decide) ?_
  refine v_callSi 2 [.int (l4 >>> (21 &&& 31)), .int 10] (c_L_up (xl X) hfx (l4 >>> (21 &&& 31)) 10) gL_types_L_up rfl dn_L_up (by decide) (by decide) rfl dL_types_100 (Nat.le_of_ble_eq_true rfl) rfl hE hf (fun x8 G hf => ?_)
  refine v_iadd dL_types_103 ?_
  refine v_xcallVi hn 4 1 [.int (48 + x8)] (c_X4_append (xl X) hfx p1 (48 + x8)) gL_types_X4_append rfl dv_X4_append (by decide) (by decide) rfl rfl dL_types_104 (Nat.le_of_ble_eq_true rfl) rfl hE hf (fun x9 G hf => ?_)
  refine v_iadd dL_types_107 ?_
  refine v_istore_n [(2, .int ((s1 + s0) + x9)), (0, .ref p1), (3, .int l3), (4, .int l4), (5, .int l5)] dL_types_108 rfl (by decide) rfl ?_
  refine v_goto 130 dL_types_109 (by decide) ?_
  refine v_aload_n 1 dL_types_130 rfl rfl ?_
  refine v_bipush 59 dL_types_131 (by decide) ?_
  refine v_xcallVi hn 4 1 [.int 59] (c_X4_append (xl X) hfx p1 59) gL_types_X4_append rfl dv_X4_append (by decide) (by decide) rfl rfl dL_types_133 (Nat.le_of_ble_eq_true rfl) rfl hE hf (fun x10 G hf => ?_)
  refine v_istore_n [(2, .int x10), (0, .ref p1), (3, .int l3), (4, .int l4), (5, .int l5)] dL_types_136 rfl (by decide) rfl ?_
  refine v_iinc 4 (l5 + 1) [(5, .int (l5 + 1)), (2, .int x10), (0, .ref p1), (3, .int l3), (4, .int l4)] dL_types_137 rfl (by rfl) (by decide) rfl ?_
  refine v_goto 18 dL_types_140 (by decide) ?_
  refine v_sub [2, 3, 4, 0] rfl ?_
  exact hk18 p1 l3 l4 (l5 + 1) G hf
set_option maxRecDepth 100000 in
set_option maxHeartbeats 4000000 in
theorem e_L_types_65 {X : VX} {B : VB} {z : (String ⊕ Int32)} {Gf : GH} {k18 : Nat → Int32 → Int32 → Int32 → MX Int32} (hfx : (xl X).stackTraces = false) (hn : ∀ x ∈ (xc X).exceptionTable.toList, False) (hr : (xme X).sig.returnType = (some .int)) (hE : VE B (z, Gf)) (hk18 : ∀ (y0 : Nat) (y1 : Int32) (y2 : Int32) (y3 : Int32) (G : GH), (k18 y0 y1 y2 y3).1 G = some (z, Gf) → V X RL cL_types 7 7 111 wsL_types B (XQ X (xmap vI z) Gf B) G 18 [(0, .ref y0), (3, .int y1), (4, .int y2), (5, .int y3)] []) (p1 : Nat) (l3 : Int32) (l4 : Int32) (l5 : Int32) (s0 : Int32) (s1 : Nat) (G : GH) (hf : (f_L_types_65 k18 p1 l3 l4 l5 s0 s1).1 G = some (z, Gf)) : V X RL cL_types 7 7 111 wsL_types B (XQ X (xmap vI z) Gf B) G 65 [(0, .ref p1), (3, .int l3), (4, .int l4), (5, .int l5)] [.int s0, .ref s1] := by
  unfold f_L_types_65 at hf
  refine v_xcallVi hn 4 1 [.int s0] (c_X4_append (xl X) hfx s1 s0) gL_types_X4_append rfl dv_X4_append (by decide) (by decide) rfl rfl dL_types_65 (Nat.le_of_ble_eq_true rfl) rfl hE hf (fun x7 G hf => ?_)
  refine v_iload 2 dL_types_68 rfl ?_
  refine v_bipush 20 dL_types_70 (by decide) ?_
  refine v_ishr dL_types_72 ?_
  refine v_iconst 1 dL_types_73 (by decide) ?_
  refine v_iand dL_types_74 ?_
  refine v_iconst 1 dL_types_75 (by decide) ?_
  refine v_icmp_ne 88 dL_types_76 (by decide) hf (fun _ hf => ?_) (fun _ hf => ?_)
  · refine v_iconst 0 dL_types_88 (by decide) ?_
    refine v_sub [0, 1, 2, 3] rfl ?_
    exact e_L_types_89 hfx hn hr hE hk18 p1 l3 l4 l5 0 x7 G hf
  · refine v_aload_n 0 dL_types_79 rfl rfl ?_
    refine v_bipush 45 dL_types_80 (by decide) ?_
    refine v_xcallVi hn 4 1 [.int 45] (c_X4_append (xl X) hfx p1 45) gL_types_X4_append rfl dv_X4_append (by decide) (by decide) rfl rfl dL_types_82 (Nat.le_of_ble_eq_true rfl) rfl hE hf (fun x11 G hf => ?_)
    refine v_goto 89 dL_types_85 (by decide) ?_
    refine v_sub [0, 1, 2, 3] rfl ?_
    exact e_L_types_89 hfx hn hr hE hk18 p1 l3 l4 l5 x11 x7 G hf
set_option maxRecDepth 100000 in
set_option maxHeartbeats 4000000 in
theorem e_L_types_18 {X : VX} {B : VB} {z : (String ⊕ Int32)} {Gf : GH}  (hfx : (xl X).stackTraces = false) (hn : ∀ x ∈ (xc X).exceptionTable.toList, False) (hr : (xme X).sig.returnType = (some .int)) (hE : VE B (z, Gf))  : ∀ (n : Nat) (p1 : Nat) (l3 : Int32) (l4 : Int32) (l5 : Int32) (G : GH), (f_L_types_18 n p1 l3 l4 l5).1 G = some (z, Gf) → V X RL cL_types 7 7 111 wsL_types B (XQ X (xmap vI z) Gf B) G 18 [(0, .ref p1), (3, .int l3), (4, .int l4), (5, .int l5)] [] := by
  intro n
  induction n with
  | zero =>
    intro p1 l3 l4 l5 G hf
    have h0 : (none : Option ((String ⊕ Int32) × GH)) = some (z, Gf) := hf
    cases h0
  | succ n ih =>
    intro p1 l3 l4 l5 G hf
    rw [f_L_types_18.eq_2] at hf
    refine v_iload 3 dL_types_18 rfl ?_
    refine v_iload_n 1 dL_types_20 rfl rfl ?_
    refine v_icmp_ge 143 dL_types_21 (by decide) hf (fun _ hf => ?_) (fun _ hf => ?_)
    · refine v_iload_n 1 dL_types_143 rfl rfl ?_
      exact v_xiret hr dL_types_144 hE hf
    · refine v_ldci m_L_types_k85 dL_types_24 ?_
      refine v_iload 2 dL_types_26 rfl ?_
      refine v_imul dL_types_28 ?_
      refine v_sipush 12345 dL_types_29 (by decide) ?_
      refine v_iadd dL_types_32 ?_
      refine v_istore [(4, .int ((1103515245 * l4) + 12345)), (0, .ref p1), (3, .int l3), (5, .int l5)] dL_types_33 (by decide) rfl ?_
      refine v_iload 0 dL_types_35 rfl ?_
      refine v_bipush 16 dL_types_37 (by decide) ?_
      refine v_ishr dL_types_39 ?_
      refine v_bipush 7 dL_types_40 (by decide) ?_
      refine v_iand dL_types_42 ?_
      refine v_istore [(6, .int ((((1103515245 * l4) + 12345) >>> (16 &&& 31)) &&& 7)), (4, .int ((1103515245 * l4) + 12345)), (0, .ref p1), (3, .int l3), (5, .int l5)] dL_types_43 (by decide) rfl ?_
      refine v_iload 0 dL_types_45 rfl ?_
      refine v_iconst 5 dL_types_47 (by decide) ?_
      refine v_icmp_ge 112 dL_types_48 (by decide) hf (fun _ hf => ?_) (fun _ hf => ?_)
      · refine v_aload_n 2 dL_types_112 rfl rfl ?_
        refine v_iload 0 dL_types_113 rfl ?_
        refine v_iconst 5 dL_types_115 (by decide) ?_
        refine v_icmp_ne 124 dL_types_116 (by decide) hf (fun _ hf => ?_) (fun _ hf => ?_)
        · refine v_bipush 121 dL_types_124 (by decide) ?_
          refine v_xcallVi hn 4 1 [.int 121] (c_X4_append (xl X) hfx p1 121) gL_types_X4_append rfl dv_X4_append (by decide) (by decide) rfl rfl dL_types_126 (Nat.le_of_ble_eq_true rfl) rfl hE hf (fun x3 G hf => ?_)
          refine v_istore_n [(2, .int x3), (6, .int ((((1103515245 * l4) + 12345) >>> (16 &&& 31)) &&& 7)), (4, .int ((1103515245 * l4) + 12345)), (0, .ref p1), (3, .int l3), (5, .int l5)] dL_types_129 rfl (by decide) rfl ?_
          refine v_aload_n 3 dL_types_130 rfl rfl ?_
          refine v_bipush 59 dL_types_131 (by decide) ?_
          refine v_xcallVi hn 4 1 [.int 59] (c_X4_append (xl X) hfx p1 59) gL_types_X4_append rfl dv_X4_append (by decide) (by decide) rfl rfl dL_types_133 (Nat.le_of_ble_eq_true rfl) rfl hE hf (fun x4 G hf => ?_)
          refine v_istore_n [(2, .int x4), (6, .int ((((1103515245 * l4) + 12345) >>> (16 &&& 31)) &&& 7)), (4, .int ((1103515245 * l4) + 12345)), (0, .ref p1), (3, .int l3), (5, .int l5)] dL_types_136 rfl (by decide) rfl ?_
          refine v_iinc 5 (l5 + 1) [(5, .int (l5 + 1)), (2, .int x4), (6, .int ((((1103515245 * l4) + 12345) >>> (16 &&& 31)) &&& 7)), (4, .int ((1103515245 * l4) + 12345)), (0, .ref p1), (3, .int l3)] dL_types_137 rfl (by rfl) (by decide) rfl ?_
          refine v_goto 18 dL_types_140 (by decide) ?_
          refine v_sub [4, 5, 3, 0] rfl ?_
          exact ih p1 l3 ((1103515245 * l4) + 12345) (l5 + 1) G hf
        · refine v_bipush 120 dL_types_119 (by decide) ?_
          refine v_goto 126 dL_types_121 (by decide) ?_
          refine v_xcallVi hn 4 1 [.int 120] (c_X4_append (xl X) hfx p1 120) gL_types_X4_append rfl dv_X4_append (by decide) (by decide) rfl rfl dL_types_126 (Nat.le_of_ble_eq_true rfl) rfl hE hf (fun x5 G hf => ?_)
          refine v_istore_n [(2, .int x5), (6, .int ((((1103515245 * l4) + 12345) >>> (16 &&& 31)) &&& 7)), (4, .int ((1103515245 * l4) + 12345)), (0, .ref p1), (3, .int l3), (5, .int l5)] dL_types_129 rfl (by decide) rfl ?_
          refine v_aload_n 3 dL_types_130 rfl rfl ?_
          refine v_bipush 59 dL_types_131 (by decide) ?_
          refine v_xcallVi hn 4 1 [.int 59] (c_X4_append (xl X) hfx p1 59) gL_types_X4_append rfl dv_X4_append (by decide) (by decide) rfl rfl dL_types_133 (Nat.le_of_ble_eq_true rfl) rfl hE hf (fun x6 G hf => ?_)
          refine v_istore_n [(2, .int x6), (6, .int ((((1103515245 * l4) + 12345) >>> (16 &&& 31)) &&& 7)), (4, .int ((1103515245 * l4) + 12345)), (0, .ref p1), (3, .int l3), (5, .int l5)] dL_types_136 rfl (by decide) rfl ?_
          refine v_iinc 5 (l5 + 1) [(5, .int (l5 + 1)), (2, .int x6), (6, .int ((((1103515245 * l4) + 12345) >>> (16 &&& 31)) &&& 7)), (4, .int ((1103515245 * l4) + 12345)), (0, .ref p1), (3, .int l3)] dL_types_137 rfl (by rfl) (by decide) rfl ?_
          refine v_goto 18 dL_types_140 (by decide) ?_
          refine v_sub [4, 5, 3, 0] rfl ?_
          exact ih p1 l3 ((1103515245 * l4) + 12345) (l5 + 1) G hf
      · refine v_aload_n 2 dL_types_51 rfl rfl ?_
        refine v_iload 0 dL_types_52 rfl ?_
        refine v_iconst 3 dL_types_54 (by decide) ?_
        refine v_icmp_ge 63 dL_types_55 (by decide) hf (fun _ hf => ?_) (fun _ hf => ?_)
        · refine v_bipush 98 dL_types_63 (by decide) ?_
          refine v_sub [2, 3, 1, 4] rfl ?_
          exact e_L_types_65 hfx hn hr hE (fun y0 y1 y2 y3 G hf => ih y0 y1 y2 y3 G hf) p1 l3 ((1103515245 * l4) + 12345) l5 98 p1 G hf
        · refine v_bipush 102 dL_types_58 (by decide) ?_
          refine v_goto 65 dL_types_60 (by decide) ?_
          refine v_sub [2, 3, 1, 4] rfl ?_
          exact e_L_types_65 hfx hn hr hE (fun y0 y1 y2 y3 G hf => ih y0 y1 y2 y3 G hf) p1 l3 ((1103515245 * l4) + 12345) l5 102 p1 G hf
set_option maxRecDepth 100000 in
set_option maxHeartbeats 4000000 in
theorem e_L_types_0 {X : VX} {B : VB} {z : (String ⊕ Int32)} {Gf : GH}  (hfx : (xl X).stackTraces = false) (hn : ∀ x ∈ (xc X).exceptionTable.toList, False) (hr : (xme X).sig.returnType = (some .int)) (hE : VE B (z, Gf))  (p1 : Nat) (p2 : Int32) (G : GH) (hf : (f_L_types p1 p2).1 G = some (z, Gf)) : V X RL cL_types 7 7 111 wsL_types B (XQ X (xmap vI z) Gf B) G 0 [(0, .ref p1), (1, .int p2)] [] := by
  unfold f_L_types at hf
  refine v_aload_n 0 dL_types_0 rfl rfl ?_
  refine v_callVi 4 0 [] (c_X4_clearText (xl X) hfx p1) gL_types_X4_clearText rfl dv_X4_clearText (by decide) (by decide) rfl rfl dL_types_1 (Nat.le_of_ble_eq_true rfl) rfl hE hf (fun x1 G hf => ?_)
  refine v_istore_n [(2, .int x1), (0, .ref p1), (1, .int p2)] dL_types_4 rfl (by decide) rfl ?_
  refine v_iload_n 2 dL_types_5 rfl rfl ?_
  refine v_bipush 12 dL_types_6 (by decide) ?_
  refine v_callSi 2 [.int p2, .int 12] (c_L_up (xl X) hfx p2 12) gL_types_L_up rfl dn_L_up (by decide) (by decide) rfl dL_types_8 (Nat.le_of_ble_eq_true rfl) rfl hE hf (fun x2 G hf => ?_)
  refine v_istore_n [(3, .int x2), (2, .int x1), (0, .ref p1), (1, .int p2)] dL_types_11 rfl (by decide) rfl ?_
  refine v_iload_n 3 dL_types_12 rfl rfl ?_
  refine v_istore [(4, .int p2), (3, .int x2), (2, .int x1), (0, .ref p1), (1, .int p2)] dL_types_13 (by decide) rfl ?_
  refine v_iconst 0 dL_types_15 (by decide) ?_
  refine v_istore [(5, .int 0), (4, .int p2), (3, .int x2), (2, .int x1), (0, .ref p1), (1, .int p2)] dL_types_16 (by decide) rfl ?_
  refine v_sub [4, 2, 1, 0] rfl ?_
  exact e_L_types_18 hfx hn hr hE FU p1 x2 p2 0 G hf
theorem c_L_types (l : Launch) (hfl : l.stackTraces = false) (p1 : Nat) (p2 : Int32) : CX l yL_types wsL_types 7 111 [.ref p1, .int p2] vI (f_L_types p1 p2) := CX.start hfl RL rfl (by decide +kernel) rfl (Nat.le_of_ble_eq_true rfl) (fun X G z Gf hl hn hr hf => e_L_types_0 (by rw [hl]; exact hfl) hn hr ⟨rfl, rfl⟩ p1 p2 G hf)
theorem dn_L_types : yL_types.cls ≠ "java/lang/invoke/MethodHandle" ∧ yL_types.cls ≠ "java/lang/invoke/VarHandle" ∧ (parseMethodDescriptor yL_types.desc).map (fun d => d.parameters.length) = some 2 := by decide +kernel
set_option maxRecDepth 100000 in
set_option maxHeartbeats 4000000 in
theorem e_L_runs_224 {X : VX} {B : VB} {z : (String ⊕ Int32)} {Gf : GH} {k168 : Nat → Int32 → Int32 → Int32 → Int32 → Int32 → Int32 → Int32 → Int32 → Int32 → MX Int32} (hfx : (xl X).stackTraces = false) (hn : ∀ x ∈ (xc X).exceptionTable.toList, False) (hr : (xme X).sig.returnType = (some .boolean)) (hE : VE B (z, Gf)) (hk168 : ∀ (y0 : Nat) (y1 : Int32) (y2 : Int32) (y3 : Int32) (y4 : Int32) (y5 : Int32) (y6 : Int32) (y7 : Int32) (y8 : Int32) (y9 : Int32) (G : GH), (k168 y0 y1 y2 y3 y4 y5 y6 y7 y8 y9).1 G = some (z, Gf) → V X RL cL_runs 14 8 166 wsL_runs B (XQ X (xmap vI z) Gf B) G 168 [(0, .ref y0), (3, .int y1), (4, .int y2), (5, .int y3), (8, .int y4), (9, .int y5), (10, .int y6), (11, .int y7), (12, .int y8), (13, .int y9)] []) (p1 : Nat) (l3 : Int32) (l4 : Int32) (l5 : Int32) (l8 : Int32) (l9 : Int32) (l10 : Int32) (l11 : Int32) (l13 : Int32) (s0 : Int32) (G : GH) (hf : (f_L_runs_224 k168 p1 l3 l4 l5 l8 l9 l10 l11 l13 s0).1 G = some (z, Gf)) : V X RL cL_runs 14 8 166 wsL_runs B (XQ X (xmap vI z) Gf B) G 224 [(0, .ref p1), (3, .int l3), (4, .int l4), (5, .int l5), (8, .int l8), (9, .int l9), (10, .int l10), (11, .int l11), (13, .int l13)] [.int s0] := by
  unfold f_L_runs_224 at hf
  refine v_istore [(12, .int s0), (0, .ref p1), (3, .int l3), (4, .int l4), (5, .int l5), (8, .int l8), (9, .int l9), (10, .int l10), (11, .int l11), (13, .int l13)] dL_runs_224 (by decide) rfl ?_
  refine v_aload_n 1 dL_runs_226 rfl rfl ?_
  refine v_iload 9 dL_runs_227 rfl ?_
  refine v_iconst 0 dL_runs_229 (by decide) ?_
  refine v_xcallVi hn 4 2 [.int l13, .int 0] (c_X4_version (xl X) hfx p1 l13 0) gL_runs_X4_version rfl dv_X4_version (by decide) (by decide) rfl rfl dL_runs_230 (Nat.le_of_ble_eq_true rfl) rfl hE hf (fun x15 G hf => ?_)
  refine v_iload 9 dL_runs_233 rfl ?_
  refine v_iload_n 2 dL_runs_235 rfl rfl ?_
  refine v_icmp_ne 244 dL_runs_236 (by decide) hf (fun _ hf => ?_) (fun _ hf => ?_)
  · refine v_iload 9 dL_runs_244 rfl ?_
    refine v_iconst 1 dL_runs_246 (by decide) ?_
    refine v_isub dL_runs_247 ?_
    refine v_icmp_eq 253 dL_runs_248 (by decide) hf (fun _ hf => ?_) (fun _ hf => ?_)
    · refine v_iinc 9 (l13 + 1) [(13, .int (l13 + 1)), (12, .int s0), (0, .ref p1), (3, .int l3), (4, .int l4), (5, .int l5), (8, .int l8), (9, .int l9), (10, .int l10), (11, .int l11)] dL_runs_253 rfl (by rfl) (by decide) rfl ?_
      refine v_goto 168 dL_runs_256 (by decide) ?_
      refine v_sub [2, 3, 4, 5, 6, 7, 8, 9, 1, 0] rfl ?_
      exact hk168 p1 l3 l4 l5 l8 l9 l10 l11 s0 (l13 + 1) G hf
    · refine v_iconst 0 dL_runs_251 (by decide) ?_
      exact v_xzret hr dL_runs_252 hE hf
  · refine v_iload 4 dL_runs_239 rfl ?_
    refine v_goto 248 dL_runs_241 (by decide) ?_
    refine v_icmp_eq 253 dL_runs_248 (by decide) hf (fun _ hf => ?_) (fun _ hf => ?_)
    · refine v_iinc 9 (l13 + 1) [(13, .int (l13 + 1)), (12, .int s0), (0, .ref p1), (3, .int l3), (4, .int l4), (5, .int l5), (8, .int l8), (9, .int l9), (10, .int l10), (11, .int l11)] dL_runs_253 rfl (by rfl) (by decide) rfl ?_
      refine v_goto 168 dL_runs_256 (by decide) ?_
      refine v_sub [2, 3, 4, 5, 6, 7, 8, 9, 1, 0] rfl ?_
      exact hk168 p1 l3 l4 l5 l8 l9 l10 l11 s0 (l13 + 1) G hf
    · refine v_iconst 0 dL_runs_251 (by decide) ?_
      exact v_xzret hr dL_runs_252 hE hf
set_option maxRecDepth 100000 in
set_option maxHeartbeats 4000000 in
theorem e_L_runs_195 {X : VX} {B : VB} {z : (String ⊕ Int32)} {Gf : GH} {k168 : Nat → Int32 → Int32 → Int32 → Int32 → Int32 → Int32 → Int32 → Int32 → Int32 → MX Int32} (hfx : (xl X).stackTraces = false) (hn : ∀ x ∈ (xc X).exceptionTable.toList, False) (hr : (xme X).sig.returnType = (some .boolean)) (hE : VE B (z, Gf)) (hk168 : ∀ (y0 : Nat) (y1 : Int32) (y2 : Int32) (y3 : Int32) (y4 : Int32) (y5 : Int32) (y6 : Int32) (y7 : Int32) (y8 : Int32) (y9 : Int32) (G : GH), (k168 y0 y1 y2 y3 y4 y5 y6 y7 y8 y9).1 G = some (z, Gf) → V X RL cL_runs 14 8 166 wsL_runs B (XQ X (xmap vI z) Gf B) G 168 [(0, .ref y0), (3, .int y1), (4, .int y2), (5, .int y3), (8, .int y4), (9, .int y5), (10, .int y6), (11, .int y7), (12, .int y8), (13, .int y9)] []) (p1 : Nat) (l3 : Int32) (l4 : Int32) (l5 : Int32) (l8 : Int32) (l9 : Int32) (l10 : Int32) (l12 : Int32) (l13 : Int32) (s0 : Int32) (s1 : Int32) (G : GH) (hf : (f_L_runs_195 k168 p1 l3 l4 l5 l8 l9 l10 l12 l13 s0 s1).1 G = some (z, Gf)) : V X RL cL_runs 14 8 166 wsL_runs B (XQ X (xmap vI z) Gf B) G 195 [(0, .ref p1), (3, .int l3), (4, .int l4), (5, .int l5), (8, .int l8), (9, .int l9), (10, .int l10), (12, .int l12), (13, .int l13)] [.int s0, .int s1] := by
  unfold f_L_runs_195 at hf
  refine v_iadd dL_runs_195 ?_
  refine v_istore [(11, .int (s1 + s0)), (0, .ref p1), (3, .int l3), (4, .int l4), (5, .int l5), (8, .int l8), (9, .int l9), (10, .int l10), (12, .int l12), (13, .int l13)] dL_runs_196 (by decide) rfl ?_
  refine v_aload_n 1 dL_runs_198 rfl rfl ?_
  refine v_iload 9 dL_runs_199 rfl ?_
  refine v_bipush 6 dL_runs_201 (by decide) ?_
  refine v_xcallVi hn 4 2 [.int l13, .int 6] (c_X4_version (xl X) hfx p1 l13 6) gL_runs_X4_version rfl dv_X4_version (by decide) (by decide) rfl rfl dL_runs_203 (Nat.le_of_ble_eq_true rfl) rfl hE hf (fun x14 G hf => ?_)
  refine v_iload 8 dL_runs_206 rfl ?_
  refine v_icmp_le 222 dL_runs_208 (by decide) hf (fun _ hf => ?_) (fun _ hf => ?_)
  · refine v_iload 8 dL_runs_222 rfl ?_
    refine v_sub [1, 2, 3, 4, 5, 6, 7, 0, 9] rfl ?_
    exact e_L_runs_224 hfx hn hr hE hk168 p1 l3 l4 l5 l8 l9 l10 (s1 + s0) l13 l12 G hf
  · refine v_aload_n 1 dL_runs_211 rfl rfl ?_
    refine v_iload 9 dL_runs_212 rfl ?_
    refine v_bipush 6 dL_runs_214 (by decide) ?_
    refine v_xcallVi hn 4 2 [.int l13, .int 6] (c_X4_version (xl X) hfx p1 l13 6) gL_runs_X4_version rfl dv_X4_version (by decide) (by decide) rfl rfl dL_runs_216 (Nat.le_of_ble_eq_true rfl) rfl hE hf (fun x16 G hf => ?_)
    refine v_goto 224 dL_runs_219 (by decide) ?_
    refine v_sub [1, 2, 3, 4, 5, 6, 7, 0, 9] rfl ?_
    exact e_L_runs_224 hfx hn hr hE hk168 p1 l3 l4 l5 l8 l9 l10 (s1 + s0) l13 x16 G hf
set_option maxRecDepth 100000 in
set_option maxHeartbeats 4000000 in
theorem e_L_runs_168 {X : VX} {B : VB} {z : (String ⊕ Int32)} {Gf : GH}  (hfx : (xl X).stackTraces = false) (hn : ∀ x ∈ (xc X).exceptionTable.toList, False) (hr : (xme X).sig.returnType = (some .boolean)) (hE : VE B (z, Gf))  : ∀ (n : Nat) (p1 : Nat) (l3 : Int32) (l4 : Int32) (l5 : Int32) (l8 : Int32) (l9 : Int32) (l10 : Int32) (l11 : Int32) (l12 : Int32) (l13 : Int32) (G : GH), (f_L_runs_168 n p1 l3 l4 l5 l8 l9 l10 l11 l12 l13).1 G = some (z, Gf) → V X RL cL_runs 14 8 166 wsL_runs B (XQ X (xmap vI z) Gf B) G 168 [(0, .ref p1), (3, .int l3), (4, .int l4), (5, .int l5), (8, .int l8), (9, .int l9), (10, .int l10), (11, .int l11), (12, .int l12), (13, .int l13)] [] := by
  intro n
  induction n with
  | zero =>
    intro p1 l3 l4 l5 l8 l9 l10 l11 l12 l13 G hf
    have h0 : (none : Option ((String ⊕ Int32) × GH)) = some (z, Gf) := hf
    cases h0
  | succ n ih =>
    intro p1 l3 l4 l5 l8 l9 l10 l11 l12 l13 G hf
    rw [f_L_runs_168.eq_2] at hf
    refine v_iload 9 dL_runs_168 rfl ?_
    refine v_iload_n 1 dL_runs_170 rfl rfl ?_
    refine v_iload 6 dL_runs_171 rfl ?_
    refine v_iadd dL_runs_173 ?_
    refine v_icmp_ge 259 dL_runs_174 (by decide) hf (fun _ hf => ?_) (fun _ hf => ?_)
    · refine v_iload 6 dL_runs_259 rfl ?_
      refine v_if_lt 301 dL_runs_261 (by decide) hf (fun _ hf => ?_) (fun _ hf => ?_)
      · refine v_iconst 0 dL_runs_301 (by decide) ?_
        exact v_xzret hr dL_runs_302 hE hf
      · refine v_iload 6 dL_runs_264 rfl ?_
        refine v_iload 2 dL_runs_266 rfl ?_
        refine v_icmp_gt 301 dL_runs_268 (by decide) hf (fun _ hf => ?_) (fun _ hf => ?_)
        · refine v_iconst 0 dL_runs_301 (by decide) ?_
          exact v_xzret hr dL_runs_302 hE hf
        · refine v_aload_n 0 dL_runs_271 rfl rfl ?_
          refine v_iconst 0 dL_runs_272 (by decide) ?_
          refine v_xcallVi hn 4 1 [.int 0] (c_X4_count (xl X) hfx p1 0) gL_runs_X4_count rfl dv_X4_count (by decide) (by decide) rfl rfl dL_runs_273 (Nat.le_of_ble_eq_true rfl) rfl hE hf (fun x12 G hf => ?_)
          refine v_iload_n 1 dL_runs_276 rfl rfl ?_
          refine v_iload 6 dL_runs_277 rfl ?_
          refine v_iadd dL_runs_279 ?_
          refine v_icmp_ne 301 dL_runs_280 (by decide) hf (fun _ hf => ?_) (fun _ hf => ?_)
          · refine v_iconst 0 dL_runs_301 (by decide) ?_
            exact v_xzret hr dL_runs_302 hE hf
          · refine v_iload 7 dL_runs_283 rfl ?_
            refine v_iload 4 dL_runs_285 rfl ?_
            refine v_icmp_ne 301 dL_runs_287 (by decide) hf (fun _ hf => ?_) (fun _ hf => ?_)
            · refine v_iconst 0 dL_runs_301 (by decide) ?_
              exact v_xzret hr dL_runs_302 hE hf
            · refine v_iload 8 dL_runs_290 rfl ?_
              refine v_iload 5 dL_runs_292 rfl ?_
              refine v_icmp_ne 301 dL_runs_294 (by decide) hf (fun _ hf => ?_) (fun _ hf => ?_)
              · refine v_iconst 0 dL_runs_301 (by decide) ?_
                exact v_xzret hr dL_runs_302 hE hf
              · refine v_iconst 1 dL_runs_297 (by decide) ?_
                refine v_goto 302 dL_runs_298 (by decide) ?_
                exact v_xzret hr dL_runs_302 hE hf
    · refine v_iload 7 dL_runs_177 rfl ?_
      refine v_aload_n 0 dL_runs_179 rfl rfl ?_
      refine v_iload 9 dL_runs_180 rfl ?_
      refine v_bipush 7 dL_runs_182 (by decide) ?_
      refine v_xcallVi hn 4 2 [.int l13, .int 7] (c_X4_version (xl X) hfx p1 l13 7) gL_runs_X4_version rfl dv_X4_version (by decide) (by decide) rfl rfl dL_runs_184 (Nat.le_of_ble_eq_true rfl) rfl hE hf (fun x13 G hf => ?_)
      refine v_if_le 194 dL_runs_187 (by decide) hf (fun _ hf => ?_) (fun _ hf => ?_)
      · refine v_iconst 0 dL_runs_194 (by decide) ?_
        refine v_sub [0, 1, 2, 3, 4, 5, 6, 8, 9] rfl ?_
        exact e_L_runs_195 hfx hn hr hE (fun y0 y1 y2 y3 y4 y5 y6 y7 y8 y9 G hf => ih y0 y1 y2 y3 y4 y5 y6 y7 y8 y9 G hf) p1 l3 l4 l5 l8 l9 l10 l12 l13 0 l11 G hf
      · refine v_iconst 1 dL_runs_190 (by decide) ?_
        refine v_goto 195 dL_runs_191 (by decide) ?_
        refine v_sub [0, 1, 2, 3, 4, 5, 6, 8, 9] rfl ?_
        exact e_L_runs_195 hfx hn hr hE (fun y0 y1 y2 y3 y4 y5 y6 y7 y8 y9 G hf => ih y0 y1 y2 y3 y4 y5 y6 y7 y8 y9 G hf) p1 l3 l4 l5 l8 l9 l10 l12 l13 1 l11 G hf
set_option maxRecDepth 100000 in
set_option maxHeartbeats 4000000 in
theorem e_L_runs_97 {X : VX} {B : VB} {z : (String ⊕ Int32)} {Gf : GH}  (hfx : (xl X).stackTraces = false) (hn : ∀ x ∈ (xc X).exceptionTable.toList, False) (hr : (xme X).sig.returnType = (some .boolean)) (hE : VE B (z, Gf))  (p1 : Nat) (l3 : Int32) (l4 : Int32) (l5 : Int32) (l6 : Int32) (G : GH) (hf : (f_L_runs_97 p1 l3 l4 l5 l6).1 G = some (z, Gf)) : V X RL cL_runs 14 8 166 wsL_runs B (XQ X (xmap vI z) Gf B) G 97 [(0, .ref p1), (3, .int l3), (4, .int l4), (5, .int l5), (6, .int l6)] [] := by
  unfold f_L_runs_97 at hf
  refine v_aload_n 0 dL_runs_97 rfl rfl ?_
  refine v_iconst 0 dL_runs_98 (by decide) ?_
  refine v_xcallVi hn 4 1 [.int 0] (c_X4_count (xl X) hfx p1 0) gL_runs_X4_count rfl dv_X4_count (by decide) (by decide) rfl rfl dL_runs_99 (Nat.le_of_ble_eq_true rfl) rfl hE hf (fun x6 G hf => ?_)
  refine v_iload_n 1 dL_runs_102 rfl rfl ?_
  refine v_icmp_eq 108 dL_runs_103 (by decide) hf (fun _ hf => ?_) (fun _ hf => ?_)
  · refine v_aload_n 0 dL_runs_108 rfl rfl ?_
    refine v_iload 3 dL_runs_109 rfl ?_
    refine v_iload 4 dL_runs_111 rfl ?_
    refine v_xcallVi hn 4 2 [.int l5, .int l6] (c_X4_stalls (xl X) hfx p1 l5 l6) gL_runs_X4_stalls rfl dv_X4_stalls (by decide) (by decide) rfl rfl dL_runs_113 (Nat.le_of_ble_eq_true rfl) rfl hE hf (fun x7 G hf => ?_)
    refine v_istore [(8, .int x7), (0, .ref p1), (3, .int l3), (4, .int l4), (5, .int l5), (6, .int l6)] dL_runs_116 (by decide) rfl ?_
    refine v_aload_n 1 dL_runs_118 rfl rfl ?_
    refine v_iload 4 dL_runs_119 rfl ?_
    refine v_iload 5 dL_runs_121 rfl ?_
    refine v_xcallVi hn 4 2 [.int l5, .int l6] (c_X4_worstWith (xl X) hfx p1 l5 l6) gL_runs_X4_worstWith rfl dv_X4_worstWith (by decide) (by decide) rfl rfl dL_runs_123 (Nat.le_of_ble_eq_true rfl) rfl hE hf (fun x8 G hf => ?_)
    refine v_istore [(9, .int x8), (8, .int x7), (0, .ref p1), (3, .int l3), (4, .int l4), (5, .int l5), (6, .int l6)] dL_runs_126 (by decide) rfl ?_
    refine v_aload_n 2 dL_runs_128 rfl rfl ?_
    refine v_iconst 0 dL_runs_129 (by decide) ?_
    refine v_iload 6 dL_runs_130 rfl ?_
    refine v_xcallVi hn 4 2 [.int 0, .int l6] (c_X4_set (xl X) hfx p1 0 l6) gL_runs_X4_set rfl dv_X4_set (by decide) (by decide) rfl rfl dL_runs_132 (Nat.le_of_ble_eq_true rfl) rfl hE hf (fun x9 G hf => ?_)
    refine v_iconst 1 dL_runs_135 (by decide) ?_
    refine v_icmp_lt 149 dL_runs_136 (by decide) hf (fun _ hf => ?_) (fun _ hf => ?_)
    · refine v_iconst 0 dL_runs_149 (by decide) ?_
      exact v_xzret hr dL_runs_150 hE hf
    · refine v_aload_n 2 dL_runs_139 rfl rfl ?_
      refine v_iconst 0 dL_runs_140 (by decide) ?_
      refine v_xcallVi hn 4 1 [.int 0] (c_X4_setting (xl X) hfx p1 0) gL_runs_X4_setting rfl dv_X4_setting (by decide) (by decide) rfl rfl dL_runs_141 (Nat.le_of_ble_eq_true rfl) rfl hE hf (fun x10 G hf => ?_)
      refine v_iload 6 dL_runs_144 rfl ?_
      refine v_icmp_eq 151 dL_runs_146 (by decide) hf (fun _ hf => ?_) (fun _ hf => ?_)
      · refine v_aload_n 2 dL_runs_151 rfl rfl ?_
        refine v_iload 5 dL_runs_152 rfl ?_
        refine v_xcallVi hn 4 1 [.int l5] (c_X4_run (xl X) hfx p1 l5) gL_runs_X4_run rfl dv_X4_run (by decide) (by decide) rfl rfl dL_runs_154 (Nat.le_of_ble_eq_true rfl) rfl hE hf (fun x11 G hf => ?_)
        refine v_istore [(10, .int x11), (9, .int x8), (8, .int x7), (0, .ref p1), (3, .int l3), (4, .int l4), (5, .int l5), (6, .int l6)] dL_runs_157 (by decide) rfl ?_
        refine v_iconst 0 dL_runs_159 (by decide) ?_
        refine v_istore [(11, .int 0), (10, .int x11), (9, .int x8), (8, .int x7), (0, .ref p1), (3, .int l3), (4, .int l4), (5, .int l5), (6, .int l6)] dL_runs_160 (by decide) rfl ?_
        refine v_iconst 0 dL_runs_162 (by decide) ?_
        refine v_istore [(12, .int 0), (11, .int 0), (10, .int x11), (9, .int x8), (8, .int x7), (0, .ref p1), (3, .int l3), (4, .int l4), (5, .int l5), (6, .int l6)] dL_runs_163 (by decide) rfl ?_
        refine v_iload_n 6 dL_runs_165 rfl rfl ?_
        refine v_istore [(13, .int l3), (12, .int 0), (11, .int 0), (10, .int x11), (9, .int x8), (8, .int x7), (0, .ref p1), (3, .int l3), (4, .int l4), (5, .int l5), (6, .int l6)] dL_runs_166 (by decide) rfl ?_
        refine v_sub [6, 7, 8, 9, 5, 4, 3, 2, 1, 0] rfl ?_
        exact e_L_runs_168 hfx hn hr hE FU p1 l3 l4 l5 x7 x8 x11 0 0 l3 G hf
      · refine v_iconst 0 dL_runs_149 (by decide) ?_
        exact v_xzret hr dL_runs_150 hE hf
  · refine v_iconst 0 dL_runs_106 (by decide) ?_
    exact v_xzret hr dL_runs_107 hE hf
set_option maxRecDepth 100000 in
set_option maxHeartbeats 4000000 in
theorem e_L_runs_58 {X : VX} {B : VB} {z : (String ⊕ Int32)} {Gf : GH} {k44 : Nat → Int32 → Int32 → Int32 → Int32 → Int32 → Int32 → MX Int32} (hfx : (xl X).stackTraces = false) (hn : ∀ x ∈ (xc X).exceptionTable.toList, False) (hr : (xme X).sig.returnType = (some .boolean)) (hE : VE B (z, Gf)) (hk44 : ∀ (y0 : Nat) (y1 : Int32) (y2 : Int32) (y3 : Int32) (y4 : Int32) (y5 : Int32) (y6 : Int32) (G : GH), (k44 y0 y1 y2 y3 y4 y5 y6).1 G = some (z, Gf) → V X RL cL_runs 14 8 166 wsL_runs B (XQ X (xmap vI z) Gf B) G 44 [(0, .ref y0), (3, .int y1), (4, .int y2), (5, .int y3), (6, .int y4), (7, .int y5), (8, .int y6)] []) (p1 : Nat) (l3 : Int32) (l4 : Int32) (l5 : Int32) (l6 : Int32) (l7 : Int32) (l8 : Int32) (s0 : Int32) (s1 : Int32) (G : GH) (hf : (f_L_runs_58 k44 p1 l3 l4 l5 l6 l7 l8 s0 s1).1 G = some (z, Gf)) : V X RL cL_runs 14 8 166 wsL_runs B (XQ X (xmap vI z) Gf B) G 58 [(0, .ref p1), (3, .int l3), (4, .int l4), (5, .int l5), (6, .int l6), (7, .int l7), (8, .int l8)] [.int s0, .int s1] := by
  unfold f_L_runs_58 at hf
  refine v_icmp_ge 81 dL_runs_58 (by decide) hf (fun _ hf => ?_) (fun _ hf => ?_)
  · refine v_iload 5 dL_runs_81 rfl ?_
    refine v_if_le 97 dL_runs_83 (by decide) hf (fun _ hf => ?_) (fun _ hf => ?_)
    · refine v_sub [0, 1, 2, 3, 4] rfl ?_
      exact e_L_runs_97 hfx hn hr hE p1 l3 l4 l5 l6 G hf
    · refine v_aload_n 0 dL_runs_86 rfl rfl ?_
      refine v_iload 3 dL_runs_87 rfl ?_
      refine v_iload 5 dL_runs_89 rfl ?_
      refine v_xcallVi hn 4 2 [.int l5, .int l7] (c_X4_stalls (xl X) hfx p1 l5 l7) gL_runs_X4_stalls rfl dv_X4_stalls (by decide) (by decide) rfl rfl dL_runs_91 (Nat.le_of_ble_eq_true rfl) rfl hE hf (fun x17 G hf => ?_)
      refine v_if_ne 106 dL_runs_94 (by decide) hf (fun _ hf => ?_) (fun _ hf => ?_)
      · refine v_iconst 0 dL_runs_106 (by decide) ?_
        exact v_xzret hr dL_runs_107 hE hf
      · refine v_sub [0, 1, 2, 3, 4] rfl ?_
        exact e_L_runs_97 hfx hn hr hE p1 l3 l4 l5 l6 G hf
  · refine v_aload_n 0 dL_runs_61 rfl rfl ?_
    refine v_iload 3 dL_runs_62 rfl ?_
    refine v_iload 6 dL_runs_64 rfl ?_
    refine v_xcallVi hn 4 2 [.int l5, .int l8] (c_X4_stalls (xl X) hfx p1 l5 l8) gL_runs_X4_stalls rfl dv_X4_stalls (by decide) (by decide) rfl rfl dL_runs_66 (Nat.le_of_ble_eq_true rfl) rfl hE hf (fun x18 G hf => ?_)
    refine v_iconst 1 dL_runs_69 (by decide) ?_
    refine v_icmp_ge 75 dL_runs_70 (by decide) hf (fun _ hf => ?_) (fun _ hf => ?_)
    · refine v_iinc 6 (l8 + 1) [(8, .int (l8 + 1)), (0, .ref p1), (3, .int l3), (4, .int l4), (5, .int l5), (6, .int l6), (7, .int l7)] dL_runs_75 rfl (by rfl) (by decide) rfl ?_
      refine v_goto 44 dL_runs_78 (by decide) ?_
      refine v_sub [1, 2, 3, 4, 5, 6, 0] rfl ?_
      exact hk44 p1 l3 l4 l5 l6 l7 (l8 + 1) G hf
    · refine v_iconst 0 dL_runs_73 (by decide) ?_
      exact v_xzret hr dL_runs_74 hE hf
set_option maxRecDepth 100000 in
set_option maxHeartbeats 4000000 in
theorem e_L_runs_44 {X : VX} {B : VB} {z : (String ⊕ Int32)} {Gf : GH}  (hfx : (xl X).stackTraces = false) (hn : ∀ x ∈ (xc X).exceptionTable.toList, False) (hr : (xme X).sig.returnType = (some .boolean)) (hE : VE B (z, Gf))  : ∀ (n : Nat) (p1 : Nat) (l3 : Int32) (l4 : Int32) (l5 : Int32) (l6 : Int32) (l7 : Int32) (l8 : Int32) (G : GH), (f_L_runs_44 n p1 l3 l4 l5 l6 l7 l8).1 G = some (z, Gf) → V X RL cL_runs 14 8 166 wsL_runs B (XQ X (xmap vI z) Gf B) G 44 [(0, .ref p1), (3, .int l3), (4, .int l4), (5, .int l5), (6, .int l6), (7, .int l7), (8, .int l8)] [] := by
  intro n
  induction n with
  | zero =>
    intro p1 l3 l4 l5 l6 l7 l8 G hf
    have h0 : (none : Option ((String ⊕ Int32) × GH)) = some (z, Gf) := hf
    cases h0
  | succ n ih =>
    intro p1 l3 l4 l5 l6 l7 l8 G hf
    rw [f_L_runs_44.eq_2] at hf
    refine v_iload 6 dL_runs_44 rfl ?_
    refine v_iload 5 dL_runs_46 rfl ?_
    refine v_if_ge 56 dL_runs_48 (by decide) hf (fun _ hf => ?_) (fun _ hf => ?_)
    · refine v_iload 5 dL_runs_56 rfl ?_
      refine v_sub [0, 1, 2, 3, 4, 5, 6] rfl ?_
      exact e_L_runs_58 hfx hn hr hE (fun y0 y1 y2 y3 y4 y5 y6 G hf => ih y0 y1 y2 y3 y4 y5 y6 G hf) p1 l3 l4 l5 l6 l7 l8 l7 l8 G hf
    · refine v_bipush 10 dL_runs_51 (by decide) ?_
      refine v_goto 58 dL_runs_53 (by decide) ?_
      refine v_sub [0, 1, 2, 3, 4, 5, 6] rfl ?_
      exact e_L_runs_58 hfx hn hr hE (fun y0 y1 y2 y3 y4 y5 y6 G hf => ih y0 y1 y2 y3 y4 y5 y6 G hf) p1 l3 l4 l5 l6 l7 l8 10 l8 G hf
set_option maxRecDepth 100000 in
set_option maxHeartbeats 4000000 in
theorem e_L_runs_0 {X : VX} {B : VB} {z : (String ⊕ Int32)} {Gf : GH}  (hfx : (xl X).stackTraces = false) (hn : ∀ x ∈ (xc X).exceptionTable.toList, False) (hr : (xme X).sig.returnType = (some .boolean)) (hE : VE B (z, Gf))  (p1 : Nat) (p2 : Int32) (p3 : Int32) (G : GH) (hf : (f_L_runs p1 p2 p3).1 G = some (z, Gf)) : V X RL cL_runs 14 8 166 wsL_runs B (XQ X (xmap vI z) Gf B) G 0 [(0, .ref p1), (1, .int p2), (2, .int p3)] [] := by
  unfold f_L_runs at hf
  refine v_aload_n 0 dL_runs_0 rfl rfl ?_
  refine v_iconst 0 dL_runs_1 (by decide) ?_
  refine v_xcallVi hn 4 1 [.int 0] (c_X4_count (xl X) hfx p1 0) gL_runs_X4_count rfl dv_X4_count (by decide) (by decide) rfl rfl dL_runs_2 (Nat.le_of_ble_eq_true rfl) rfl hE hf (fun x1 G hf => ?_)
  refine v_istore_n [(3, .int x1), (0, .ref p1), (1, .int p2), (2, .int p3)] dL_runs_5 rfl (by decide) rfl ?_
  refine v_aload_n 1 dL_runs_6 rfl rfl ?_
  refine v_iload_n 2 dL_runs_7 rfl rfl ?_
  refine v_xcallSi hn 2 [.ref p1, .int p2] (c_L_types (xl X) hfx p1 p2) gL_runs_L_types rfl dn_L_types (by decide) (by decide) rfl dL_runs_8 (Nat.le_of_ble_eq_true rfl) rfl hE hf (fun x2 G hf => ?_)
  refine v_istore [(4, .int x2), (3, .int x1), (0, .ref p1), (1, .int p2), (2, .int p3)] dL_runs_11 (by decide) rfl ?_
  refine v_iload_n 4 dL_runs_13 rfl rfl ?_
  refine v_iload_n 1 dL_runs_14 rfl rfl ?_
  refine v_callSi 2 [.int p3, .int x1] (c_L_up (xl X) hfx p3 x1) gL_runs_L_up rfl dn_L_up (by decide) (by decide) rfl dL_runs_15 (Nat.le_of_ble_eq_true rfl) rfl hE hf (fun x3 G hf => ?_)
  refine v_istore [(5, .int x3), (4, .int x2), (3, .int x1), (0, .ref p1), (1, .int p2), (2, .int p3)] dL_runs_18 (by decide) rfl ?_
  refine v_iconst 1 dL_runs_20 (by decide) ?_
  refine v_iload_n 5 dL_runs_21 rfl rfl ?_
  refine v_bipush 8 dL_runs_22 (by decide) ?_
  refine v_ishr dL_runs_24 ?_
  refine v_bipush 9 dL_runs_25 (by decide) ?_
  refine v_callSi 2 [.int (p3 >>> (8 &&& 31)), .int 9] (c_L_up (xl X) hfx (p3 >>> (8 &&& 31)) 9) gL_runs_L_up rfl dn_L_up (by decide) (by decide) rfl dL_runs_27 (Nat.le_of_ble_eq_true rfl) rfl hE hf (fun x4 G hf => ?_)
  refine v_iadd dL_runs_30 ?_
  refine v_istore [(6, .int (1 + x4)), (5, .int x3), (4, .int x2), (3, .int x1), (0, .ref p1), (1, .int p2), (2, .int p3)] dL_runs_31 (by decide) rfl ?_
  refine v_aload_n 4 dL_runs_33 rfl rfl ?_
  refine v_iload 1 dL_runs_34 rfl ?_
  refine v_xcallVi hn 4 1 [.int x3] (c_X4_leastRate (xl X) hfx p1 x3) gL_runs_X4_leastRate rfl dv_X4_leastRate (by decide) (by decide) rfl rfl dL_runs_36 (Nat.le_of_ble_eq_true rfl) rfl hE hf (fun x5 G hf => ?_)
  refine v_istore [(7, .int x5), (6, .int (1 + x4)), (5, .int x3), (4, .int x2), (3, .int x1), (0, .ref p1), (1, .int p2), (2, .int p3)] dL_runs_39 (by decide) rfl ?_
  refine v_iconst 1 dL_runs_41 (by decide) ?_
  refine v_istore [(8, .int 1), (7, .int x5), (6, .int (1 + x4)), (5, .int x3), (4, .int x2), (3, .int x1), (0, .ref p1), (1, .int p2), (2, .int p3)] dL_runs_42 (by decide) rfl ?_
  refine v_sub [6, 5, 4, 3, 2, 1, 0] rfl ?_
  exact e_L_runs_44 hfx hn hr hE FU p1 x1 x2 x3 (1 + x4) x5 1 G hf
theorem c_L_runs (l : Launch) (hfl : l.stackTraces = false) (p1 : Nat) (p2 : Int32) (p3 : Int32) : CX l yL_runs wsL_runs 8 166 [.ref p1, .int p2, .int p3] vI (f_L_runs p1 p2 p3) := CX.start hfl RL rfl (by decide +kernel) rfl (Nat.le_of_ble_eq_true rfl) (fun X G z Gf hl hn hr hf => e_L_runs_0 (by rw [hl]; exact hfl) hn hr ⟨rfl, rfl⟩ p1 p2 p3 G hf)
theorem dn_L_runs : yL_runs.cls ≠ "java/lang/invoke/MethodHandle" ∧ yL_runs.cls ≠ "java/lang/invoke/VarHandle" ∧ (parseMethodDescriptor yL_runs.desc).map (fun d => d.parameters.length) = some 3 := by decide +kernel
