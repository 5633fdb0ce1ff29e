/-! walk of the law's mark (printed by wip/p27/all.py) -/
theorem m_L_mark_k27 : Cond.constantLong RL 27 (31) ∈ wsL_mark := by decide +kernel
set_option maxRecDepth 100000 in
set_option maxHeartbeats 4000000 in
theorem e_L_mark_63 {X : VX} {B : VB} {z : (String ⊕ Int64)} {Gf : GH} {k20 : Nat → Int64 → Int32 → MX Int64} {k32 : Nat → Int64 → Int32 → Int32 → MX Int64} (hfx : (xl X).stackTraces = false) (hn : ∀ x ∈ (xc X).exceptionTable.toList, False) (hr : (xme X).sig.returnType = (some .long)) (hE : VE B (z, Gf)) (hk20 : ∀ (y0 : Nat) (y1 : Int64) (y2 : Int32) (G : GH), (k20 y0 y1 y2).1 G = some (z, Gf) → V X RL cL_mark 5 8 134 wsL_mark B (XQ X (xmap vL z) Gf B) G 20 [(0, .ref y0), (1, .long y1), (3, .int y2)] []) (hk32 : ∀ (y0 : Nat) (y1 : Int64) (y2 : Int32) (y3 : Int32) (G : GH), (k32 y0 y1 y2 y3).1 G = some (z, Gf) → V X RL cL_mark 5 8 134 wsL_mark B (XQ X (xmap vL z) Gf B) G 32 [(0, .ref y0), (1, .long y1), (3, .int y2), (4, .int y3)] []) : ∀ (n : Nat) (p1 : Nat) (l1 : Int64) (l3 : Int32) (l4 : Int32) (G : GH), (f_L_mark_63 k20 k32 n p1 l1 l3 l4).1 G = some (z, Gf) → V X RL cL_mark 5 8 134 wsL_mark B (XQ X (xmap vL z) Gf B) G 63 [(0, .ref p1), (1, .long l1), (3, .int l3), (4, .int l4)] [] := by
  intro n
  induction n with
  | zero =>
    intro p1 l1 l3 l4 G hf
    have h0 : (none : Option ((String ⊕ Int64) × GH)) = some (z, Gf) := hf
    cases h0
  | succ n ih =>
    intro p1 l1 l3 l4 G hf
    rw [f_L_mark_63.eq_2] at hf
    refine v_iload 3 dL_mark_63 rfl ?_
    refine v_aload_n 0 dL_mark_65 rfl rfl ?_
    refine v_iload_n 2 dL_mark_66 rfl rfl ?_
    refine v_iconst 1 dL_mark_67 (by decide) ?_
    refine v_xcallVi hn 4 2 [.int l3, .int 1] (c_X4_version (xl X) hfx p1 l3 1) gL_mark_X4_version rfl dv_X4_version (by decide) (by decide) rfl rfl dL_mark_68 (Nat.le_of_ble_eq_true rfl) rfl hE hf (fun x4 G hf => ?_)
    refine v_icmp_ge 95 dL_mark_71 (by decide) hf (fun _ hf => ?_) (fun _ hf => ?_)
    · refine v_iinc 2 (l3 + 1) [(3, .int (l3 + 1)), (0, .ref p1), (1, .long l1), (4, .int l4)] dL_mark_95 rfl (by rfl) (by decide) rfl ?_
      refine v_goto 20 dL_mark_98 (by decide) ?_
      refine v_sub [1, 2, 0] rfl ?_
      exact hk20 p1 l1 (l3 + 1) G hf
    · refine v_ldc2 m_L_mark_k27 dL_mark_74 ?_
      refine v_lload_n 1 dL_mark_77 rfl rfl ?_
      refine v_lmul dL_mark_78 ?_
      refine v_aload_n 0 dL_mark_79 rfl rfl ?_
      refine v_iload_n 2 dL_mark_80 rfl rfl ?_
      refine v_iload 3 dL_mark_81 rfl ?_
      refine v_xcallVi hn 4 2 [.int l3, .int l4] (c_X4_at (xl X) hfx p1 l3 l4) gL_mark_X4_at rfl dv_X4_at (by decide) (by decide) rfl rfl dL_mark_83 (Nat.le_of_ble_eq_true rfl) rfl hE hf (fun x5 G hf => ?_)
      refine v_i2l dL_mark_86 ?_
      refine v_ladd dL_mark_87 ?_
      refine v_lstore_n [(1, .long (((31 : Int64) * l1) + (x5.toInt64))), (0, .ref p1), (3, .int l3), (4, .int l4)] dL_mark_88 rfl (by decide) rfl ?_
      refine v_iinc 3 (l4 + 1) [(4, .int (l4 + 1)), (1, .long (((31 : Int64) * l1) + (x5.toInt64))), (0, .ref p1), (3, .int l3)] dL_mark_89 rfl (by rfl) (by decide) rfl ?_
      refine v_goto 63 dL_mark_92 (by decide) ?_
      refine v_sub [2, 1, 3, 0] rfl ?_
      exact ih p1 (((31 : Int64) * l1) + (x5.toInt64)) l3 (l4 + 1) G hf
set_option maxRecDepth 100000 in
set_option maxHeartbeats 4000000 in
theorem e_L_mark_32 {X : VX} {B : VB} {z : (String ⊕ Int64)} {Gf : GH} {k20 : Nat → Int64 → Int32 → MX Int64} (hfx : (xl X).stackTraces = false) (hn : ∀ x ∈ (xc X).exceptionTable.toList, False) (hr : (xme X).sig.returnType = (some .long)) (hE : VE B (z, Gf)) (hk20 : ∀ (y0 : Nat) (y1 : Int64) (y2 : Int32) (G : GH), (k20 y0 y1 y2).1 G = some (z, Gf) → V X RL cL_mark 5 8 134 wsL_mark B (XQ X (xmap vL z) Gf B) G 20 [(0, .ref y0), (1, .long y1), (3, .int y2)] []) : ∀ (n : Nat) (p1 : Nat) (l1 : Int64) (l3 : Int32) (l4 : Int32) (G : GH), (f_L_mark_32 k20 n p1 l1 l3 l4).1 G = some (z, Gf) → V X RL cL_mark 5 8 134 wsL_mark B (XQ X (xmap vL z) Gf B) G 32 [(0, .ref p1), (1, .long l1), (3, .int l3), (4, .int l4)] [] := by
  intro n
  induction n with
  | zero =>
    intro p1 l1 l3 l4 G hf
    have h0 : (none : Option ((String ⊕ Int64) × GH)) = some (z, Gf) := hf
    cases h0
  | succ n ih =>
    intro p1 l1 l3 l4 G hf
    rw [f_L_mark_32.eq_2] at hf
    refine v_iload 3 dL_mark_32 rfl ?_
    refine v_bipush 10 dL_mark_34 (by decide) ?_
    refine v_icmp_ge 60 dL_mark_36 (by decide) hf (fun _ hf => ?_) (fun _ hf => ?_)
    · refine v_iconst 0 dL_mark_60 (by decide) ?_
      refine v_istore [(4, .int 0), (0, .ref p1), (1, .long l1), (3, .int l3)] dL_mark_61 (by decide) rfl ?_
      refine v_sub [1, 2, 3, 0] rfl ?_
      generalize FU = fu at hf
      exact e_L_mark_63 (k20 := k20) (k32 := (fun y0 y1 y2 y3 => f_L_mark_32 k20 n y0 y1 y2 y3)) hfx hn hr hE hk20 (fun y0 y1 y2 y3 G hf => ih y0 y1 y2 y3 G hf) fu p1 l1 l3 0 G hf
    · refine v_ldc2 m_L_mark_k27 dL_mark_39 ?_
      refine v_lload_n 1 dL_mark_42 rfl rfl ?_
      refine v_lmul dL_mark_43 ?_
      refine v_aload_n 0 dL_mark_44 rfl rfl ?_
      refine v_iload_n 2 dL_mark_45 rfl rfl ?_
      refine v_iload 3 dL_mark_46 rfl ?_
      refine v_xcallVi hn 4 2 [.int l3, .int l4] (c_X4_version (xl X) hfx p1 l3 l4) gL_mark_X4_version rfl dv_X4_version (by decide) (by decide) rfl rfl dL_mark_48 (Nat.le_of_ble_eq_true rfl) rfl hE hf (fun x6 G hf => ?_)
      refine v_i2l dL_mark_51 ?_
      refine v_ladd dL_mark_52 ?_
      refine v_lstore_n [(1, .long (((31 : Int64) * l1) + (x6.toInt64))), (0, .ref p1), (3, .int l3), (4, .int l4)] dL_mark_53 rfl (by decide) rfl ?_
      refine v_iinc 3 (l4 + 1) [(4, .int (l4 + 1)), (1, .long (((31 : Int64) * l1) + (x6.toInt64))), (0, .ref p1), (3, .int l3)] dL_mark_54 rfl (by rfl) (by decide) rfl ?_
      refine v_goto 32 dL_mark_57 (by decide) ?_
      refine v_sub [2, 1, 3, 0] rfl ?_
      exact ih p1 (((31 : Int64) * l1) + (x6.toInt64)) l3 (l4 + 1) G hf
set_option maxRecDepth 100000 in
set_option maxHeartbeats 4000000 in
theorem e_L_mark_20 {X : VX} {B : VB} {z : (String ⊕ Int64)} {Gf : GH}  (hfx : (xl X).stackTraces = false) (hn : ∀ x ∈ (xc X).exceptionTable.toList, False) (hr : (xme X).sig.returnType = (some .long)) (hE : VE B (z, Gf))  : ∀ (n : Nat) (p1 : Nat) (l1 : Int64) (l3 : Int32) (G : GH), (f_L_mark_20 n p1 l1 l3).1 G = some (z, Gf) → V X RL cL_mark 5 8 134 wsL_mark B (XQ X (xmap vL z) Gf B) G 20 [(0, .ref p1), (1, .long l1), (3, .int l3)] [] := by
  intro n
  induction n with
  | zero =>
    intro p1 l1 l3 G hf
    have h0 : (none : Option ((String ⊕ Int64) × GH)) = some (z, Gf) := hf
    cases h0
  | succ n ih =>
    intro p1 l1 l3 G hf
    rw [f_L_mark_20.eq_2] at hf
    refine v_iload_n 2 dL_mark_20 rfl rfl ?_
    refine v_aload_n 0 dL_mark_21 rfl rfl ?_
    refine v_iconst 0 dL_mark_22 (by decide) ?_
    refine v_xcallVi hn 4 1 [.int 0] (c_X4_count (xl X) hfx p1 0) gL_mark_X4_count rfl dv_X4_count (by decide) (by decide) rfl rfl dL_mark_23 (Nat.le_of_ble_eq_true rfl) rfl hE hf (fun x3 G hf => ?_)
    refine v_icmp_ge 101 dL_mark_26 (by decide) hf (fun _ hf => ?_) (fun _ hf => ?_)
    · refine v_lload_n 1 dL_mark_101 rfl rfl ?_
      exact v_xlret hr dL_mark_102 hE hf
    · refine v_iconst 0 dL_mark_29 (by decide) ?_
      refine v_istore [(4, .int 0), (0, .ref p1), (1, .long l1), (3, .int l3)] dL_mark_30 (by decide) rfl ?_
      refine v_sub [1, 2, 3, 0] rfl ?_
      generalize FU = fu at hf
      exact e_L_mark_32 (k20 := (fun y0 y1 y2 => f_L_mark_20 n y0 y1 y2)) hfx hn hr hE (fun y0 y1 y2 G hf => ih y0 y1 y2 G hf) fu p1 l1 l3 0 G hf
set_option maxRecDepth 100000 in
set_option maxHeartbeats 4000000 in
theorem e_L_mark_0 {X : VX} {B : VB} {z : (String ⊕ Int64)} {Gf : GH}  (hfx : (xl X).stackTraces = false) (hn : ∀ x ∈ (xc X).exceptionTable.toList, False) (hr : (xme X).sig.returnType = (some .long)) (hE : VE B (z, Gf))  (p1 : Nat) (G : GH) (hf : (f_L_mark p1).1 G = some (z, Gf)) : V X RL cL_mark 5 8 134 wsL_mark B (XQ X (xmap vL z) Gf B) G 0 [(0, .ref p1)] [] := by
  unfold f_L_mark at hf
  refine v_ldc2 m_L_mark_k27 dL_mark_0 ?_
  refine v_aload_n 0 dL_mark_3 rfl rfl ?_
  refine v_iconst 0 dL_mark_4 (by decide) ?_
  refine v_xcallVi hn 4 1 [.int 0] (c_X4_setting (xl X) hfx p1 0) gL_mark_X4_setting rfl dv_X4_setting (by decide) (by decide) rfl rfl dL_mark_5 (Nat.le_of_ble_eq_true rfl) rfl hE hf (fun x1 G hf => ?_)
  refine v_i2l dL_mark_8 ?_
  refine v_lmul dL_mark_9 ?_
  refine v_aload_n 0 dL_mark_10 rfl rfl ?_
  refine v_iconst 1 dL_mark_11 (by decide) ?_
  refine v_xcallVi hn 4 1 [.int 1] (c_X4_setting (xl X) hfx p1 1) gL_mark_X4_setting rfl dv_X4_setting (by decide) (by decide) rfl rfl dL_mark_12 (Nat.le_of_ble_eq_true rfl) rfl hE hf (fun x2 G hf => ?_)
  refine v_i2l dL_mark_15 ?_
  refine v_ladd dL_mark_16 ?_
  refine v_lstore_n [(1, .long (((31 : Int64) * (x1.toInt64)) + (x2.toInt64))), (0, .ref p1)] dL_mark_17 rfl (by decide) rfl ?_
  refine v_iconst 0 dL_mark_18 (by decide) ?_
  refine v_istore_n [(3, .int 0), (1, .long (((31 : Int64) * (x1.toInt64)) + (x2.toInt64))), (0, .ref p1)] dL_mark_19 rfl (by decide) rfl ?_
  refine v_sub [2, 1, 0] rfl ?_
  generalize FU = fu at hf
  exact e_L_mark_20  hfx hn hr hE fu p1 (((31 : Int64) * (x1.toInt64)) + (x2.toInt64)) 0 G hf
theorem c_L_mark (l : Launch) (hfl : l.stackTraces = false) (p1 : Nat) : CX l yL_mark wsL_mark 8 134 [.ref p1] vL (f_L_mark p1) := CX.start hfl RL rfl (by decide +kernel) rfl (Nat.le_of_ble_eq_true rfl) (fun X G z Gf hl hn hr hf => e_L_mark_0 (by rw [hl]; exact hfl) hn hr ⟨rfl, rfl⟩ p1 G hf)
theorem dn_L_mark : yL_mark.cls ≠ "java/lang/invoke/MethodHandle" ∧ yL_mark.cls ≠ "java/lang/invoke/VarHandle" ∧ (parseMethodDescriptor yL_mark.desc).map (fun d => d.parameters.length) = some 1 := by decide +kernel
