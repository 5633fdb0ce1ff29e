/-! walk of the law's types (printed by wip/p27/all.py) -/
theorem m_L_types_k85 : Cond.constant RL 85 1103515245 ∈ wsL_types := by decide +kernel
set_option maxRecDepth 100000 in
set_option maxHeartbeats 4000000 in
theorem e_L_types_89 {X : VX} {B : VB} {z : (String ⊕ Int32)} {Gf : GH} {k18 : Nat → Int32 → Int32 → Int32 → MX Int32} (hfx : (xl X).stackTraces = false) (hn : ∀ x ∈ (xc X).exceptionTable.toList, False) (hr : (xme X).sig.returnType = (some .int)) (hE : VE B (z, Gf)) (hk18 : ∀ (y0 : Nat) (y1 : Int32) (y2 : Int32) (y3 : Int32) (G : GH), (k18 y0 y1 y2 y3).1 G = some (z, Gf) → V X RL cL_types 7 7 111 wsL_types B (XQ X (xmap vI z) Gf B) G 18 [(0, .ref y0), (3, .int y1), (4, .int y2), (5, .int y3)] []) (p1 : Nat) (l3 : Int32) (l4 : Int32) (l5 : Int32) (s0 : Int32) (s1 : Int32) (G : GH) (hf : (f_L_types_89 k18 p1 l3 l4 l5 s0 s1).1 G = some (z, Gf)) : V X RL cL_types 7 7 111 wsL_types B (XQ X (xmap vI z) Gf B) G 89 [(0, .ref p1), (3, .int l3), (4, .int l4), (5, .int l5)] [.int s0, .int s1] := by
  unfold f_L_types_89 at hf
  refine v_iadd dL_types_89 ?_
  refine v_aload_n 0 dL_types_90 rfl rfl ?_
  refine v_bipush 48 dL_types_91 (by decide) ?_
  refine v_iload 2 dL_types_93 rfl ?_
  refine v_bipush 21 dL_types_95 (by decide) ?_
  refine v_ishr dL_types_97 ?_
  refine v_bipush 10 dL_types_98 (by decide) ?_
  refine v_callSi 2 [.int (l4 >>> (21 &&& 31)), .int 10] (c_L_up (xl X) hfx (l4 >>> (21 &&& 31)) 10) gL_types_L_up rfl dn_L_up (by decide) (by decide) rfl dL_types_100 (Nat.le_of_ble_eq_true rfl) rfl hE hf (fun x8 G hf => ?_)
  refine v_iadd dL_types_103 ?_
  refine v_xcallVi hn 4 1 [.int (48 + x8)] (c_X4_append (xl X) hfx p1 (48 + x8)) gL_types_X4_append rfl dv_X4_append (by decide) (by decide) rfl rfl dL_types_104 (Nat.le_of_ble_eq_true rfl) rfl hE hf (fun x9 G hf => ?_)
  refine v_iadd dL_types_107 ?_
  refine v_istore_n [(2, .int ((s1 + s0) + x9)), (0, .ref p1), (3, .int l3), (4, .int l4), (5, .int l5)] dL_types_108 rfl (by decide) rfl ?_
  refine v_goto 130 dL_types_109 (by decide) ?_
  refine v_aload_n 1 dL_types_130 rfl rfl ?_
  refine v_bipush 59 dL_types_131 (by decide) ?_
  refine v_xcallVi hn 4 1 [.int 59] (c_X4_append (xl X) hfx p1 59) gL_types_X4_append rfl dv_X4_append (by decide) (by decide) rfl rfl dL_types_133 (Nat.le_of_ble_eq_true rfl) rfl hE hf (fun x10 G hf => ?_)
  refine v_istore_n [(2, .int x10), (0, .ref p1), (3, .int l3), (4, .int l4), (5, .int l5)] dL_types_136 rfl (by decide) rfl ?_
  refine v_iinc 4 (l5 + 1) [(5, .int (l5 + 1)), (2, .int x10), (0, .ref p1), (3, .int l3), (4, .int l4)] dL_types_137 rfl (by rfl) (by decide) rfl ?_
  refine v_goto 18 dL_types_140 (by decide) ?_
  refine v_sub [2, 3, 4, 0] rfl ?_
  exact hk18 p1 l3 l4 (l5 + 1) G hf
set_option maxRecDepth 100000 in
set_option maxHeartbeats 4000000 in
theorem e_L_types_65 {X : VX} {B : VB} {z : (String ⊕ Int32)} {Gf : GH} {k18 : Nat → Int32 → Int32 → Int32 → MX Int32} (hfx : (xl X).stackTraces = false) (hn : ∀ x ∈ (xc X).exceptionTable.toList, False) (hr : (xme X).sig.returnType = (some .int)) (hE : VE B (z, Gf)) (hk18 : ∀ (y0 : Nat) (y1 : Int32) (y2 : Int32) (y3 : Int32) (G : GH), (k18 y0 y1 y2 y3).1 G = some (z, Gf) → V X RL cL_types 7 7 111 wsL_types B (XQ X (xmap vI z) Gf B) G 18 [(0, .ref y0), (3, .int y1), (4, .int y2), (5, .int y3)] []) (p1 : Nat) (l3 : Int32) (l4 : Int32) (l5 : Int32) (s0 : Int32) (s1 : Nat) (G : GH) (hf : (f_L_types_65 k18 p1 l3 l4 l5 s0 s1).1 G = some (z, Gf)) : V X RL cL_types 7 7 111 wsL_types B (XQ X (xmap vI z) Gf B) G 65 [(0, .ref p1), (3, .int l3), (4, .int l4), (5, .int l5)] [.int s0, .ref s1] := by
  unfold f_L_types_65 at hf
  refine v_xcallVi hn 4 1 [.int s0] (c_X4_append (xl X) hfx s1 s0) gL_types_X4_append rfl dv_X4_append (by decide) (by decide) rfl rfl dL_types_65 (Nat.le_of_ble_eq_true rfl) rfl hE hf (fun x7 G hf => ?_)
  refine v_iload 2 dL_types_68 rfl ?_
  refine v_bipush 20 dL_types_70 (by decide) ?_
  refine v_ishr dL_types_72 ?_
  refine v_iconst 1 dL_types_73 (by decide) ?_
  refine v_iand dL_types_74 ?_
  refine v_iconst 1 dL_types_75 (by decide) ?_
  refine v_icmp_ne 88 dL_types_76 (by decide) hf (fun _ hf => ?_) (fun _ hf => ?_)
  · refine v_iconst 0 dL_types_88 (by decide) ?_
    refine v_sub [0, 1, 2, 3] rfl ?_
    exact e_L_types_89 (k18 := k18) hfx hn hr hE hk18 p1 l3 l4 l5 0 x7 G hf
  · refine v_aload_n 0 dL_types_79 rfl rfl ?_
    refine v_bipush 45 dL_types_80 (by decide) ?_
    refine v_xcallVi hn 4 1 [.int 45] (c_X4_append (xl X) hfx p1 45) gL_types_X4_append rfl dv_X4_append (by decide) (by decide) rfl rfl dL_types_82 (Nat.le_of_ble_eq_true rfl) rfl hE hf (fun x11 G hf => ?_)
    refine v_goto 89 dL_types_85 (by decide) ?_
    refine v_sub [0, 1, 2, 3] rfl ?_
    exact e_L_types_89 (k18 := k18) hfx hn hr hE hk18 p1 l3 l4 l5 x11 x7 G hf
set_option maxRecDepth 100000 in
set_option maxHeartbeats 4000000 in
theorem e_L_types_18 {X : VX} {B : VB} {z : (String ⊕ Int32)} {Gf : GH}  (hfx : (xl X).stackTraces = false) (hn : ∀ x ∈ (xc X).exceptionTable.toList, False) (hr : (xme X).sig.returnType = (some .int)) (hE : VE B (z, Gf))  : ∀ (n : Nat) (p1 : Nat) (l3 : Int32) (l4 : Int32) (l5 : Int32) (G : GH), (f_L_types_18 n p1 l3 l4 l5).1 G = some (z, Gf) → V X RL cL_types 7 7 111 wsL_types B (XQ X (xmap vI z) Gf B) G 18 [(0, .ref p1), (3, .int l3), (4, .int l4), (5, .int l5)] [] := by
  intro n
  induction n with
  | zero =>
    intro p1 l3 l4 l5 G hf
    have h0 : (none : Option ((String ⊕ Int32) × GH)) = some (z, Gf) := hf
    cases h0
  | succ n ih =>
    intro p1 l3 l4 l5 G hf
    rw [f_L_types_18.eq_2] at hf
    refine v_iload 3 dL_types_18 rfl ?_
    refine v_iload_n 1 dL_types_20 rfl rfl ?_
    refine v_icmp_ge 143 dL_types_21 (by decide) hf (fun _ hf => ?_) (fun _ hf => ?_)
    · refine v_iload_n 1 dL_types_143 rfl rfl ?_
      exact v_xiret hr dL_types_144 hE hf
    · refine v_ldci m_L_types_k85 dL_types_24 ?_
      refine v_iload 2 dL_types_26 rfl ?_
      refine v_imul dL_types_28 ?_
      refine v_sipush 12345 dL_types_29 (by decide) ?_
      refine v_iadd dL_types_32 ?_
      refine v_istore [(4, .int ((1103515245 * l4) + 12345)), (0, .ref p1), (3, .int l3), (5, .int l5)] dL_types_33 (by decide) rfl ?_
      refine v_iload 0 dL_types_35 rfl ?_
      refine v_bipush 16 dL_types_37 (by decide) ?_
      refine v_ishr dL_types_39 ?_
      refine v_bipush 7 dL_types_40 (by decide) ?_
      refine v_iand dL_types_42 ?_
      refine v_istore [(6, .int ((((1103515245 * l4) + 12345) >>> (16 &&& 31)) &&& 7)), (4, .int ((1103515245 * l4) + 12345)), (0, .ref p1), (3, .int l3), (5, .int l5)] dL_types_43 (by decide) rfl ?_
      refine v_iload 0 dL_types_45 rfl ?_
      refine v_iconst 5 dL_types_47 (by decide) ?_
      refine v_icmp_ge 112 dL_types_48 (by decide) hf (fun _ hf => ?_) (fun _ hf => ?_)
      · refine v_aload_n 2 dL_types_112 rfl rfl ?_
        refine v_iload 0 dL_types_113 rfl ?_
        refine v_iconst 5 dL_types_115 (by decide) ?_
        refine v_icmp_ne 124 dL_types_116 (by decide) hf (fun _ hf => ?_) (fun _ hf => ?_)
        · refine v_bipush 121 dL_types_124 (by decide) ?_
          refine v_xcallVi hn 4 1 [.int 121] (c_X4_append (xl X) hfx p1 121) gL_types_X4_append rfl dv_X4_append (by decide) (by decide) rfl rfl dL_types_126 (Nat.le_of_ble_eq_true rfl) rfl hE hf (fun x3 G hf => ?_)
          refine v_istore_n [(2, .int x3), (6, .int ((((1103515245 * l4) + 12345) >>> (16 &&& 31)) &&& 7)), (4, .int ((1103515245 * l4) + 12345)), (0, .ref p1), (3, .int l3), (5, .int l5)] dL_types_129 rfl (by decide) rfl ?_
          refine v_aload_n 3 dL_types_130 rfl rfl ?_
          refine v_bipush 59 dL_types_131 (by decide) ?_
          refine v_xcallVi hn 4 1 [.int 59] (c_X4_append (xl X) hfx p1 59) gL_types_X4_append rfl dv_X4_append (by decide) (by decide) rfl rfl dL_types_133 (Nat.le_of_ble_eq_true rfl) rfl hE hf (fun x4 G hf => ?_)
          refine v_istore_n [(2, .int x4), (6, .int ((((1103515245 * l4) + 12345) >>> (16 &&& 31)) &&& 7)), (4, .int ((1103515245 * l4) + 12345)), (0, .ref p1), (3, .int l3), (5, .int l5)] dL_types_136 rfl (by decide) rfl ?_
          refine v_iinc 5 (l5 + 1) [(5, .int (l5 + 1)), (2, .int x4), (6, .int ((((1103515245 * l4) + 12345) >>> (16 &&& 31)) &&& 7)), (4, .int ((1103515245 * l4) + 12345)), (0, .ref p1), (3, .int l3)] dL_types_137 rfl (by rfl) (by decide) rfl ?_
          refine v_goto 18 dL_types_140 (by decide) ?_
          refine v_sub [4, 5, 3, 0] rfl ?_
          exact ih p1 l3 ((1103515245 * l4) + 12345) (l5 + 1) G hf
        · refine v_bipush 120 dL_types_119 (by decide) ?_
          refine v_goto 126 dL_types_121 (by decide) ?_
          refine v_xcallVi hn 4 1 [.int 120] (c_X4_append (xl X) hfx p1 120) gL_types_X4_append rfl dv_X4_append (by decide) (by decide) rfl rfl dL_types_126 (Nat.le_of_ble_eq_true rfl) rfl hE hf (fun x5 G hf => ?_)
          refine v_istore_n [(2, .int x5), (6, .int ((((1103515245 * l4) + 12345) >>> (16 &&& 31)) &&& 7)), (4, .int ((1103515245 * l4) + 12345)), (0, .ref p1), (3, .int l3), (5, .int l5)] dL_types_129 rfl (by decide) rfl ?_
          refine v_aload_n 3 dL_types_130 rfl rfl ?_
          refine v_bipush 59 dL_types_131 (by decide) ?_
          refine v_xcallVi hn 4 1 [.int 59] (c_X4_append (xl X) hfx p1 59) gL_types_X4_append rfl dv_X4_append (by decide) (by decide) rfl rfl dL_types_133 (Nat.le_of_ble_eq_true rfl) rfl hE hf (fun x6 G hf => ?_)
          refine v_istore_n [(2, .int x6), (6, .int ((((1103515245 * l4) + 12345) >>> (16 &&& 31)) &&& 7)), (4, .int ((1103515245 * l4) + 12345)), (0, .ref p1), (3, .int l3), (5, .int l5)] dL_types_136 rfl (by decide) rfl ?_
          refine v_iinc 5 (l5 + 1) [(5, .int (l5 + 1)), (2, .int x6), (6, .int ((((1103515245 * l4) + 12345) >>> (16 &&& 31)) &&& 7)), (4, .int ((1103515245 * l4) + 12345)), (0, .ref p1), (3, .int l3)] dL_types_137 rfl (by rfl) (by decide) rfl ?_
          refine v_goto 18 dL_types_140 (by decide) ?_
          refine v_sub [4, 5, 3, 0] rfl ?_
          exact ih p1 l3 ((1103515245 * l4) + 12345) (l5 + 1) G hf
      · refine v_aload_n 2 dL_types_51 rfl rfl ?_
        refine v_iload 0 dL_types_52 rfl ?_
        refine v_iconst 3 dL_types_54 (by decide) ?_
        refine v_icmp_ge 63 dL_types_55 (by decide) hf (fun _ hf => ?_) (fun _ hf => ?_)
        · refine v_bipush 98 dL_types_63 (by decide) ?_
          refine v_sub [2, 3, 1, 4] rfl ?_
          exact e_L_types_65 (k18 := (fun y0 y1 y2 y3 => f_L_types_18 n y0 y1 y2 y3)) hfx hn hr hE (fun y0 y1 y2 y3 G hf => ih y0 y1 y2 y3 G hf) p1 l3 ((1103515245 * l4) + 12345) l5 98 p1 G hf
        · refine v_bipush 102 dL_types_58 (by decide) ?_
          refine v_goto 65 dL_types_60 (by decide) ?_
          refine v_sub [2, 3, 1, 4] rfl ?_
          exact e_L_types_65 (k18 := (fun y0 y1 y2 y3 => f_L_types_18 n y0 y1 y2 y3)) hfx hn hr hE (fun y0 y1 y2 y3 G hf => ih y0 y1 y2 y3 G hf) p1 l3 ((1103515245 * l4) + 12345) l5 102 p1 G hf
set_option maxRecDepth 100000 in
set_option maxHeartbeats 4000000 in
theorem e_L_types_0 {X : VX} {B : VB} {z : (String ⊕ Int32)} {Gf : GH}  (hfx : (xl X).stackTraces = false) (hn : ∀ x ∈ (xc X).exceptionTable.toList, False) (hr : (xme X).sig.returnType = (some .int)) (hE : VE B (z, Gf))  (p1 : Nat) (p2 : Int32) (G : GH) (hf : (f_L_types p1 p2).1 G = some (z, Gf)) : V X RL cL_types 7 7 111 wsL_types B (XQ X (xmap vI z) Gf B) G 0 [(0, .ref p1), (1, .int p2)] [] := by
  unfold f_L_types at hf
  refine v_aload_n 0 dL_types_0 rfl rfl ?_
  refine v_callVi 4 0 [] (c_X4_clearText (xl X) hfx p1) gL_types_X4_clearText rfl dv_X4_clearText (by decide) (by decide) rfl rfl dL_types_1 (Nat.le_of_ble_eq_true rfl) rfl hE hf (fun x1 G hf => ?_)
  refine v_istore_n [(2, .int x1), (0, .ref p1), (1, .int p2)] dL_types_4 rfl (by decide) rfl ?_
  refine v_iload_n 2 dL_types_5 rfl rfl ?_
  refine v_bipush 12 dL_types_6 (by decide) ?_
  refine v_callSi 2 [.int p2, .int 12] (c_L_up (xl X) hfx p2 12) gL_types_L_up rfl dn_L_up (by decide) (by decide) rfl dL_types_8 (Nat.le_of_ble_eq_true rfl) rfl hE hf (fun x2 G hf => ?_)
  refine v_istore_n [(3, .int x2), (2, .int x1), (0, .ref p1), (1, .int p2)] dL_types_11 rfl (by decide) rfl ?_
  refine v_iload_n 3 dL_types_12 rfl rfl ?_
  refine v_istore [(4, .int p2), (3, .int x2), (2, .int x1), (0, .ref p1), (1, .int p2)] dL_types_13 (by decide) rfl ?_
  refine v_iconst 0 dL_types_15 (by decide) ?_
  refine v_istore [(5, .int 0), (4, .int p2), (3, .int x2), (2, .int x1), (0, .ref p1), (1, .int p2)] dL_types_16 (by decide) rfl ?_
  refine v_sub [4, 2, 1, 0] rfl ?_
  generalize FU = fu at hf
  exact e_L_types_18  hfx hn hr hE fu p1 x2 p2 0 G hf
theorem c_L_types (l : Launch) (hfl : l.stackTraces = false) (p1 : Nat) (p2 : Int32) : CX l yL_types wsL_types 7 111 [.ref p1, .int p2] vI (f_L_types p1 p2) := CX.start hfl RL rfl (by decide +kernel) rfl (Nat.le_of_ble_eq_true rfl) (fun X G z Gf hl hn hr hf => e_L_types_0 (by rw [hl]; exact hfl) hn hr ⟨rfl, rfl⟩ p1 p2 G hf)
theorem dn_L_types : yL_types.cls ≠ "java/lang/invoke/MethodHandle" ∧ yL_types.cls ≠ "java/lang/invoke/VarHandle" ∧ (parseMethodDescriptor yL_types.desc).map (fun d => d.parameters.length) = some 2 := by decide +kernel
