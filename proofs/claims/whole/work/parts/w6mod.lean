/-! walks of the reference (X5) -/
theorem m_X5_lays_f7 : Cond.fieldLink RX5 7 RX5 "now" "[I" ∈ wsX5_lays := by decide +kernel
theorem n_X5_lays_X5 : ∀ w ∈ u_ws RX5 TX5 16, w ∈ wsX5_lays := by decide +kernel
set_option maxRecDepth 100000 in
set_option maxHeartbeats 4000000 in
theorem e_X5_lays_0 {X : VX} {B : VB} {z : Unit} {Gf : GH}  (hfx : (xl X).stackTraces = false) (hn : (xme X).name = "lays") (hr : (xme X).sig.returnType = none) (hE : VE B (z, Gf))  (this : Nat) (p1 : Int32) (p2 : Int32) (p3 : Int32) (G : GH) (hf : (f_X5_lays this p1 p2 p3).1 G = some (z, Gf)) : V X RX5 cX5_lays 4 0 0 wsX5_lays B (QE X (vV z) Gf B) G 0 [(0, .ref this), (1, .int p1), (2, .int p2), (3, .int p3)] [] := by
  unfold f_X5_lays at hf
  refine v_aload_n 0 dX5_lays_0 rfl rfl ?_
  refine v_gr 5 0 n_X5_lays_X5 rfl (by decide) rfl m_X5_lays_f7 dX5_lays_1 hf (fun r1 hf => ?_)
  refine v_iconst 3 dX5_lays_4 (by decide) ?_
  refine v_bipush 10 dX5_lays_5 (by decide) ?_
  refine v_iload_n 1 dX5_lays_7 rfl rfl ?_
  refine v_imul dX5_lays_8 ?_
  refine v_iadd dX5_lays_9 ?_
  refine v_iload_n 2 dX5_lays_10 rfl rfl ?_
  refine v_iadd dX5_lays_11 ?_
  refine v_iload_n 3 dX5_lays_12 rfl rfl ?_
  refine v_iast dX5_lays_13 hf (fun G _ hf => ?_)
  exact v_vret hr dX5_lays_14 hE hf
theorem c_X5_lays (l : Launch) (hfl : l.stackTraces = false) (this : Nat) (p1 : Int32) (p2 : Int32) (p3 : Int32) : CM l yX5_lays wsX5_lays 0 0 [.ref this, .int p1, .int p2, .int p3] vV (f_X5_lays this p1 p2 p3) := CM.start hfl RX5 rfl (by decide +kernel) rfl (Nat.le_of_ble_eq_true rfl) (fun X G z Gf hl hn hr hf => e_X5_lays_0 (by rw [hl]; exact hfl) hn hr ⟨rfl, rfl⟩ this p1 p2 p3 G hf)
theorem dv_X5_lays : yX5_lays.cls = RX5 ∧ yX5_lays.cls ≠ "java/lang/invoke/MethodHandle" ∧ yX5_lays.cls ≠ "java/lang/invoke/VarHandle" ∧ (parseMethodDescriptor yX5_lays.desc).map (fun d => d.parameters.length) = some 3 := by decide +kernel
theorem m_X5_init_o1 : Cond.methodLink RX5 1 objectInit ∈ wsX5_init := by decide +kernel
theorem m_X5_init_oi : Cond.instanceMethod objectInit ∈ wsX5_init := by decide +kernel
theorem m_X5_init_oc : Cond.code objectInit ⟨#[0xb1]⟩ 1 none ∈ wsX5_init := by decide +kernel
theorem m_X5_init_ai : Cond.arrayClass .int ∈ wsX5_init := by decide +kernel
theorem m_X5_init_f7 : Cond.fieldLink RX5 7 RX5 "now" "[I" ∈ wsX5_init := by decide +kernel
theorem m_X5_init_f13 : Cond.fieldLink RX5 13 RX5 "past" "[I" ∈ wsX5_init := by decide +kernel
theorem m_X5_init_f16 : Cond.fieldLink RX5 16 RX5 "trial" "[I" ∈ wsX5_init := by decide +kernel
theorem m_X5_init_f19 : Cond.fieldLink RX5 19 RX5 "text" "[I" ∈ wsX5_init := by decide +kernel
theorem m_X5_init_f22 : Cond.fieldLink RX5 22 RX5 "values" "[I" ∈ wsX5_init := by decide +kernel
theorem m_X5_init_f25 : Cond.fieldLink RX5 25 RX5 "way" "[I" ∈ wsX5_init := by decide +kernel
theorem m_X5_init_f28 : Cond.fieldLink RX5 28 RX5 "row" "[I" ∈ wsX5_init := by decide +kernel
theorem m_X5_init_f31 : Cond.fieldLink RX5 31 RX5 "acts" "[I" ∈ wsX5_init := by decide +kernel
theorem m_X5_init_f34 : Cond.fieldLink RX5 34 RX5 "told" "[I" ∈ wsX5_init := by decide +kernel
theorem n_X5_init_X5 : ∀ w ∈ u_ws RX5 TX5 16, w ∈ wsX5_init := by decide +kernel
set_option maxRecDepth 100000 in
set_option maxHeartbeats 4000000 in
theorem e_X5_init_0 {X : VX} {B : VB} {z : Unit} {Gf : GH}  (hfx : (xl X).stackTraces = false) (hn : (xme X).name = "<init>") (hr : (xme X).sig.returnType = none) (hE : VE B (z, Gf))  (this : Nat) (G : GH) (hf : (f_X5_init this).1 G = some (z, Gf)) : V X RX5 cX5_init 1 1 23 wsX5_init B (QE X (vV z) Gf B) G 0 [(0, .ref this)] [] := by
  unfold f_X5_init at hf
  refine v_aload_n 0 dX5_init_0 rfl rfl ?_
  refine v_objInit m_X5_init_o1 m_X5_init_oi m_X5_init_oc dX5_init_1 (by decide) (by decide) ?_
  refine v_aload_n 0 dX5_init_4 rfl rfl ?_
  refine v_sipush 1003 dX5_init_5 (by decide) ?_
  refine v_newi m_X5_init_ai dX5_init_8 hE hf (fun a1 G hf => ?_)
  refine v_putF 5 0 (.array .int) hn n_X5_init_X5 tyX5 tyX5_ok nmX5 rfl (by decide) rfl m_X5_init_f7 rfl rfl (by decide +kernel) rfl rfl dX5_init_10 hf (fun G _ hf => ?_)
  refine v_aload_n 0 dX5_init_13 rfl rfl ?_
  refine v_sipush 4012 dX5_init_14 (by decide) ?_
  refine v_newi m_X5_init_ai dX5_init_17 hE hf (fun a2 G hf => ?_)
  refine v_putF 5 1 (.array .int) hn n_X5_init_X5 tyX5 tyX5_ok nmX5 rfl (by decide) rfl m_X5_init_f13 rfl rfl (by decide +kernel) rfl rfl dX5_init_19 hf (fun G _ hf => ?_)
  refine v_aload_n 0 dX5_init_22 rfl rfl ?_
  refine v_sipush 1003 dX5_init_23 (by decide) ?_
  refine v_newi m_X5_init_ai dX5_init_26 hE hf (fun a3 G hf => ?_)
  refine v_putF 5 3 (.array .int) hn n_X5_init_X5 tyX5 tyX5_ok nmX5 rfl (by decide) rfl m_X5_init_f16 rfl rfl (by decide +kernel) rfl rfl dX5_init_28 hf (fun G _ hf => ?_)
  refine v_aload_n 0 dX5_init_31 rfl rfl ?_
  refine v_bipush 100 dX5_init_32 (by decide) ?_
  refine v_newi m_X5_init_ai dX5_init_34 hE hf (fun a4 G hf => ?_)
  refine v_putF 5 4 (.array .int) hn n_X5_init_X5 tyX5 tyX5_ok nmX5 rfl (by decide) rfl m_X5_init_f19 rfl rfl (by decide +kernel) rfl rfl dX5_init_36 hf (fun G _ hf => ?_)
  refine v_aload_n 0 dX5_init_39 rfl rfl ?_
  refine v_sipush 256 dX5_init_40 (by decide) ?_
  refine v_newi m_X5_init_ai dX5_init_43 hE hf (fun a5 G hf => ?_)
  refine v_putF 5 7 (.array .int) hn n_X5_init_X5 tyX5 tyX5_ok nmX5 rfl (by decide) rfl m_X5_init_f22 rfl rfl (by decide +kernel) rfl rfl dX5_init_45 hf (fun G _ hf => ?_)
  refine v_aload_n 0 dX5_init_48 rfl rfl ?_
  refine v_bipush 100 dX5_init_49 (by decide) ?_
  refine v_newi m_X5_init_ai dX5_init_51 hE hf (fun a6 G hf => ?_)
  refine v_putF 5 10 (.array .int) hn n_X5_init_X5 tyX5 tyX5_ok nmX5 rfl (by decide) rfl m_X5_init_f25 rfl rfl (by decide +kernel) rfl rfl dX5_init_53 hf (fun G _ hf => ?_)
  refine v_aload_n 0 dX5_init_56 rfl rfl ?_
  refine v_bipush 40 dX5_init_57 (by decide) ?_
  refine v_newi m_X5_init_ai dX5_init_59 hE hf (fun a7 G hf => ?_)
  refine v_putF 5 11 (.array .int) hn n_X5_init_X5 tyX5 tyX5_ok nmX5 rfl (by decide) rfl m_X5_init_f28 rfl rfl (by decide +kernel) rfl rfl dX5_init_61 hf (fun G _ hf => ?_)
  refine v_aload_n 0 dX5_init_64 rfl rfl ?_
  refine v_bipush 50 dX5_init_65 (by decide) ?_
  refine v_newi m_X5_init_ai dX5_init_67 hE hf (fun a8 G hf => ?_)
  refine v_putF 5 12 (.array .int) hn n_X5_init_X5 tyX5 tyX5_ok nmX5 rfl (by decide) rfl m_X5_init_f31 rfl rfl (by decide +kernel) rfl rfl dX5_init_69 hf (fun G _ hf => ?_)
  refine v_aload_n 0 dX5_init_72 rfl rfl ?_
  refine v_bipush 50 dX5_init_73 (by decide) ?_
  refine v_newi m_X5_init_ai dX5_init_75 hE hf (fun a9 G hf => ?_)
  refine v_putF 5 13 (.array .int) hn n_X5_init_X5 tyX5 tyX5_ok nmX5 rfl (by decide) rfl m_X5_init_f34 rfl rfl (by decide +kernel) rfl rfl dX5_init_77 hf (fun G _ hf => ?_)
  refine v_aload_n 0 dX5_init_80 rfl rfl ?_
  refine v_gr 5 0 n_X5_init_X5 rfl (by decide) rfl m_X5_init_f7 dX5_init_81 hf (fun r10 hf => ?_)
  refine v_iconst 0 dX5_init_84 (by decide) ?_
  refine v_iconst 3 dX5_init_85 (by decide) ?_
  refine v_iast dX5_init_86 hf (fun G _ hf => ?_)
  refine v_aload_n 0 dX5_init_87 rfl rfl ?_
  refine v_gr 5 0 n_X5_init_X5 rfl (by decide) rfl m_X5_init_f7 dX5_init_88 hf (fun r11 hf => ?_)
  refine v_iconst 1 dX5_init_91 (by decide) ?_
  refine v_iconst 3 dX5_init_92 (by decide) ?_
  refine v_iast dX5_init_93 hf (fun G _ hf => ?_)
  refine v_aload_n 0 dX5_init_94 rfl rfl ?_
  refine v_gr 5 0 n_X5_init_X5 rfl (by decide) rfl m_X5_init_f7 dX5_init_95 hf (fun r12 hf => ?_)
  refine v_iconst 2 dX5_init_98 (by decide) ?_
  refine v_iconst 1 dX5_init_99 (by decide) ?_
  refine v_iast dX5_init_100 hf (fun G _ hf => ?_)
  refine v_aload_n 0 dX5_init_101 rfl rfl ?_
  refine v_iconst 0 dX5_init_102 (by decide) ?_
  refine v_iconst 0 dX5_init_103 (by decide) ?_
  refine v_iconst (-1) dX5_init_104 (by decide) ?_
  refine v_callVv 5 3 [.int 0, .int 0, .int (-1)] (c_X5_lays (xl X) hfx this 0 0 (-1)) gX5_init_X5_lays rfl dv_X5_lays (by decide) (by decide) rfl rfl dX5_init_105 (Nat.le_of_ble_eq_true rfl) rfl hE hf (fun _ G hf => ?_)
  refine v_aload_n 0 dX5_init_108 rfl rfl ?_
  refine v_iconst 0 dX5_init_109 (by decide) ?_
  refine v_iconst 4 dX5_init_110 (by decide) ?_
  refine v_iconst (-1) dX5_init_111 (by decide) ?_
  refine v_callVv 5 3 [.int 0, .int 4, .int (-1)] (c_X5_lays (xl X) hfx this 0 4 (-1)) gX5_init_X5_lays rfl dv_X5_lays (by decide) (by decide) rfl rfl dX5_init_112 (Nat.le_of_ble_eq_true rfl) rfl hE hf (fun _ G hf => ?_)
  refine v_aload_n 0 dX5_init_115 rfl rfl ?_
  refine v_iconst 0 dX5_init_116 (by decide) ?_
  refine v_bipush 7 dX5_init_117 (by decide) ?_
  refine v_iconst (-1) dX5_init_119 (by decide) ?_
  refine v_callVv 5 3 [.int 0, .int 7, .int (-1)] (c_X5_lays (xl X) hfx this 0 7 (-1)) gX5_init_X5_lays rfl dv_X5_lays (by decide) (by decide) rfl rfl dX5_init_120 (Nat.le_of_ble_eq_true rfl) rfl hE hf (fun _ G hf => ?_)
  exact v_vret hr dX5_init_123 hE hf
theorem c_X5_init (l : Launch) (hfl : l.stackTraces = false) (this : Nat) : CM l yX5_init wsX5_init 1 23 [.ref this] vV (f_X5_init this) := CM.start hfl RX5 rfl (by decide +kernel) rfl (Nat.le_of_ble_eq_true rfl) (fun X G z Gf hl hn hr hf => e_X5_init_0 (by rw [hl]; exact hfl) hn hr ⟨rfl, rfl⟩ this G hf)
theorem dn_X5_init : yX5_init.cls ≠ "java/lang/invoke/MethodHandle" ∧ yX5_init.cls ≠ "java/lang/invoke/VarHandle" ∧ (parseMethodDescriptor yX5_init.desc).map (fun d => d.parameters.length) = some 0 := by decide +kernel
theorem m_X5_thrown_f41 : Cond.fieldLink RX5 41 RX5 "thrown" "I" ∈ wsX5_thrown := by decide +kernel
theorem n_X5_thrown_X5 : ∀ w ∈ u_ws RX5 TX5 16, w ∈ wsX5_thrown := by decide +kernel
set_option maxRecDepth 100000 in
set_option maxHeartbeats 4000000 in
theorem e_X5_thrown_0 {X : VX} {B : VB} {z : Int32} {Gf : GH}  (hfx : (xl X).stackTraces = false) (hn : (xme X).name = "thrown") (hr : (xme X).sig.returnType = (some .int)) (hE : VE B (z, Gf))  (this : Nat) (G : GH) (hf : (f_X5_thrown this).1 G = some (z, Gf)) : V X RX5 cX5_thrown 1 0 0 wsX5_thrown B (QE X (vI z) Gf B) G 0 [(0, .ref this)] [] := by
  unfold f_X5_thrown at hf
  refine v_aload_n 0 dX5_thrown_0 rfl rfl ?_
  refine v_gi 5 6 n_X5_thrown_X5 rfl (by decide) rfl m_X5_thrown_f41 dX5_thrown_1 hf (fun x1 hf => ?_)
  exact v_iret hr dX5_thrown_4 hE hf
theorem c_X5_thrown (l : Launch) (hfl : l.stackTraces = false) (this : Nat) : CM l yX5_thrown wsX5_thrown 0 0 [.ref this] vI (f_X5_thrown this) := CM.start hfl RX5 rfl (by decide +kernel) rfl (Nat.le_of_ble_eq_true rfl) (fun X G z Gf hl hn hr hf => e_X5_thrown_0 (by rw [hl]; exact hfl) hn hr ⟨rfl, rfl⟩ this G hf)
theorem dv_X5_thrown : yX5_thrown.cls = RX5 ∧ yX5_thrown.cls ≠ "java/lang/invoke/MethodHandle" ∧ yX5_thrown.cls ≠ "java/lang/invoke/VarHandle" ∧ (parseMethodDescriptor yX5_thrown.desc).map (fun d => d.parameters.length) = some 0 := by decide +kernel
set_option maxRecDepth 100000 in
set_option maxHeartbeats 4000000 in
theorem e_X5_in_0 {X : VX} {B : VB} {z : Int32} {Gf : GH}  (hfx : (xl X).stackTraces = false) (hn : (xme X).name = "in") (hr : (xme X).sig.returnType = (some .boolean)) (hE : VE B (z, Gf))  (p1 : Int32) (p2 : Int32) (p3 : Int32) (G : GH) (hf : (f_X5_in p1 p2 p3).1 G = some (z, Gf)) : V X RX5 cX5_in 3 0 0 wsX5_in B (QE X (vI z) Gf B) G 0 [(0, .int p1), (1, .int p2), (2, .int p3)] [] := by
  unfold f_X5_in at hf
  refine v_iload_n 0 dX5_in_0 rfl rfl ?_
  refine v_iload_n 1 dX5_in_1 rfl rfl ?_
  refine v_icmp_lt 14 dX5_in_2 (by decide) hf (fun _ hf => ?_) (fun _ hf => ?_)
  · refine v_iconst 0 dX5_in_14 (by decide) ?_
    exact v_zret hr dX5_in_15 hE hf
  · refine v_iload_n 0 dX5_in_5 rfl rfl ?_
    refine v_iload_n 2 dX5_in_6 rfl rfl ?_
    refine v_icmp_gt 14 dX5_in_7 (by decide) hf (fun _ hf => ?_) (fun _ hf => ?_)
    · refine v_iconst 0 dX5_in_14 (by decide) ?_
      exact v_zret hr dX5_in_15 hE hf
    · refine v_iconst 1 dX5_in_10 (by decide) ?_
      refine v_goto 15 dX5_in_11 (by decide) ?_
      exact v_zret hr dX5_in_15 hE hf
theorem c_X5_in (l : Launch) (hfl : l.stackTraces = false) (p1 : Int32) (p2 : Int32) (p3 : Int32) : CM l yX5_in wsX5_in 0 0 [.int p1, .int p2, .int p3] vI (f_X5_in p1 p2 p3) := CM.start hfl RX5 rfl (by decide +kernel) rfl (Nat.le_of_ble_eq_true rfl) (fun X G z Gf hl hn hr hf => e_X5_in_0 (by rw [hl]; exact hfl) hn hr ⟨rfl, rfl⟩ p1 p2 p3 G hf)
theorem dn_X5_in : yX5_in.cls ≠ "java/lang/invoke/MethodHandle" ∧ yX5_in.cls ≠ "java/lang/invoke/VarHandle" ∧ (parseMethodDescriptor yX5_in.desc).map (fun d => d.parameters.length) = some 3 := by decide +kernel
set_option maxRecDepth 100000 in
set_option maxHeartbeats 4000000 in
theorem e_X5_copies_3 {X : VX} {B : VB} {z : Unit} {Gf : GH}  (hfx : (xl X).stackTraces = false) (hn : (xme X).name = "copies") (hr : (xme X).sig.returnType = none) (hE : VE B (z, Gf))  : ∀ (n : Nat) (p1 : Nat) (p2 : Int32) (p3 : Nat) (p4 : Int32) (l4 : Int32) (G : GH), (f_X5_copies_3 n p1 p2 p3 p4 l4).1 G = some (z, Gf) → V X RX5 cX5_copies 5 0 0 wsX5_copies B (QE X (vV z) Gf B) G 3 [(0, .ref p1), (1, .int p2), (2, .ref p3), (3, .int p4), (4, .int l4)] [] := by
  intro n
  induction n with
  | zero =>
    intro p1 p2 p3 p4 l4 G hf
    have h0 : (none : Option (Unit × GH)) = some (z, Gf) := hf
    cases h0
  | succ n ih =>
    intro p1 p2 p3 p4 l4 G hf
    rw [f_X5_copies_3.eq_2] at hf
    refine v_iload 4 dX5_copies_3 rfl ?_
    refine v_sipush 1003 dX5_copies_5 (by decide) ?_
    refine v_icmp_ge 29 dX5_copies_8 (by decide) hf (fun _ hf => ?_) (fun _ hf => ?_)
    · exact v_vret hr dX5_copies_29 hE hf
    · refine v_aload_n 2 dX5_copies_11 rfl rfl ?_
      refine v_iload_n 3 dX5_copies_12 rfl rfl ?_
      refine v_iload 4 dX5_copies_13 rfl ?_
      refine v_iadd dX5_copies_15 ?_
      refine v_aload_n 0 dX5_copies_16 rfl rfl ?_
      refine v_iload_n 1 dX5_copies_17 rfl rfl ?_
      refine v_iload 4 dX5_copies_18 rfl ?_
      refine v_iadd dX5_copies_20 ?_
      refine v_iald dX5_copies_21 hf (fun x1 hf => ?_)
      refine v_iast dX5_copies_22 hf (fun G _ hf => ?_)
      refine v_iinc 4 (l4 + 1) [(4, .int (l4 + 1)), (0, .ref p1), (1, .int p2), (2, .ref p3), (3, .int p4)] dX5_copies_23 rfl (by rfl) (by decide) rfl ?_
      refine v_goto 3 dX5_copies_26 (by decide) ?_
      refine v_sub [1, 2, 3, 4, 0] rfl ?_
      exact ih p1 p2 p3 p4 (l4 + 1) G hf
set_option maxRecDepth 100000 in
set_option maxHeartbeats 4000000 in
theorem e_X5_copies_0 {X : VX} {B : VB} {z : Unit} {Gf : GH}  (hfx : (xl X).stackTraces = false) (hn : (xme X).name = "copies") (hr : (xme X).sig.returnType = none) (hE : VE B (z, Gf))  (p1 : Nat) (p2 : Int32) (p3 : Nat) (p4 : Int32) (G : GH) (hf : (f_X5_copies p1 p2 p3 p4).1 G = some (z, Gf)) : V X RX5 cX5_copies 5 0 0 wsX5_copies B (QE X (vV z) Gf B) G 0 [(0, .ref p1), (1, .int p2), (2, .ref p3), (3, .int p4)] [] := by
  unfold f_X5_copies at hf
  refine v_iconst 0 dX5_copies_0 (by decide) ?_
  refine v_istore [(4, .int 0), (0, .ref p1), (1, .int p2), (2, .ref p3), (3, .int p4)] dX5_copies_1 (by decide) rfl ?_
  refine v_sub [1, 2, 3, 4, 0] rfl ?_
  exact e_X5_copies_3 hfx hn hr hE FU p1 p2 p3 p4 0 G hf
theorem c_X5_copies (l : Launch) (hfl : l.stackTraces = false) (p1 : Nat) (p2 : Int32) (p3 : Nat) (p4 : Int32) : CM l yX5_copies wsX5_copies 0 0 [.ref p1, .int p2, .ref p3, .int p4] vV (f_X5_copies p1 p2 p3 p4) := CM.start hfl RX5 rfl (by decide +kernel) rfl (Nat.le_of_ble_eq_true rfl) (fun X G z Gf hl hn hr hf => e_X5_copies_0 (by rw [hl]; exact hfl) hn hr ⟨rfl, rfl⟩ p1 p2 p3 p4 G hf)
theorem dn_X5_copies : yX5_copies.cls ≠ "java/lang/invoke/MethodHandle" ∧ yX5_copies.cls ≠ "java/lang/invoke/VarHandle" ∧ (parseMethodDescriptor yX5_copies.desc).map (fun d => d.parameters.length) = some 4 := by decide +kernel
theorem m_X5_saves_f45 : Cond.fieldLink RX5 45 RX5 "pasts" "I" ∈ wsX5_saves := by decide +kernel
theorem m_X5_saves_f7 : Cond.fieldLink RX5 7 RX5 "now" "[I" ∈ wsX5_saves := by decide +kernel
theorem m_X5_saves_f13 : Cond.fieldLink RX5 13 RX5 "past" "[I" ∈ wsX5_saves := by decide +kernel
theorem n_X5_saves_X5 : ∀ w ∈ u_ws RX5 TX5 16, w ∈ wsX5_saves := by decide +kernel
set_option maxRecDepth 100000 in
set_option maxHeartbeats 4000000 in
theorem e_X5_saves_44 {X : VX} {B : VB} {z : Unit} {Gf : GH}  (hfx : (xl X).stackTraces = false) (hn : (xme X).name = "saves") (hr : (xme X).sig.returnType = none) (hE : VE B (z, Gf))  (this : Nat) (G : GH) (hf : (f_X5_saves_44 this).1 G = some (z, Gf)) : V X RX5 cX5_saves 2 1 24 wsX5_saves B (QE X (vV z) Gf B) G 44 [(0, .ref this)] [] := by
  unfold f_X5_saves_44 at hf
  refine v_aload_n 0 dX5_saves_44 rfl rfl ?_
  refine v_gr 5 0 n_X5_saves_X5 rfl (by decide) rfl m_X5_saves_f7 dX5_saves_45 hf (fun r2 hf => ?_)
  refine v_iconst 0 dX5_saves_48 (by decide) ?_
  refine v_aload_n 0 dX5_saves_49 rfl rfl ?_
  refine v_gr 5 1 n_X5_saves_X5 rfl (by decide) rfl m_X5_saves_f13 dX5_saves_50 hf (fun r3 hf => ?_)
  refine v_aload_n 0 dX5_saves_53 rfl rfl ?_
  refine v_gi 5 2 n_X5_saves_X5 rfl (by decide) rfl m_X5_saves_f45 dX5_saves_54 hf (fun x4 hf => ?_)
  refine v_sipush 1003 dX5_saves_57 (by decide) ?_
  refine v_imul dX5_saves_60 ?_
  refine v_callSv 4 [.ref r2, .int 0, .ref r3, .int (x4 * 1003)] (c_X5_copies (xl X) hfx r2 0 r3 (x4 * 1003)) gX5_saves_X5_copies rfl dn_X5_copies (by decide) (by decide) rfl dX5_saves_61 (Nat.le_of_ble_eq_true rfl) rfl hE hf (fun _ G hf => ?_)
  refine v_aload_n 0 dX5_saves_64 rfl rfl ?_
  refine v_dup dX5_saves_65 rfl ?_
  refine v_gi 5 2 n_X5_saves_X5 rfl (by decide) rfl m_X5_saves_f45 dX5_saves_66 hf (fun x5 hf => ?_)
  refine v_iconst 1 dX5_saves_69 (by decide) ?_
  refine v_iadd dX5_saves_70 ?_
  refine v_put 5 2 .int n_X5_saves_X5 tyX5 tyX5_ok nmX5 rfl (by decide) rfl m_X5_saves_f45 rfl (by decide +kernel) rfl rfl dX5_saves_71 hf (fun G _ hf => ?_)
  exact v_vret hr dX5_saves_74 hE hf
set_option maxRecDepth 100000 in
set_option maxHeartbeats 4000000 in
theorem e_X5_saves_10 {X : VX} {B : VB} {z : Unit} {Gf : GH}  (hfx : (xl X).stackTraces = false) (hn : (xme X).name = "saves") (hr : (xme X).sig.returnType = none) (hE : VE B (z, Gf))  : ∀ (n : Nat) (this : Nat) (l1 : Int32) (G : GH), (f_X5_saves_10 n this l1).1 G = some (z, Gf) → V X RX5 cX5_saves 2 1 24 wsX5_saves B (QE X (vV z) Gf B) G 10 [(0, .ref this), (1, .int l1)] [] := by
  intro n
  induction n with
  | zero =>
    intro this l1 G hf
    have h0 : (none : Option (Unit × GH)) = some (z, Gf) := hf
    cases h0
  | succ n ih =>
    intro this l1 G hf
    rw [f_X5_saves_10.eq_2] at hf
    refine v_iload_n 1 dX5_saves_10 rfl rfl ?_
    refine v_sipush 3009 dX5_saves_11 (by decide) ?_
    refine v_icmp_ge 39 dX5_saves_14 (by decide) hf (fun _ hf => ?_) (fun _ hf => ?_)
    · refine v_aload_n 0 dX5_saves_39 rfl rfl ?_
      refine v_iconst 3 dX5_saves_40 (by decide) ?_
      refine v_put 5 2 .int n_X5_saves_X5 tyX5 tyX5_ok nmX5 rfl (by decide) rfl m_X5_saves_f45 rfl (by decide +kernel) rfl rfl dX5_saves_41 hf (fun G _ hf => ?_)
      refine v_sub [0] rfl ?_
      exact e_X5_saves_44 hfx hn hr hE this G hf
    · refine v_aload_n 0 dX5_saves_17 rfl rfl ?_
      refine v_gr 5 1 n_X5_saves_X5 rfl (by decide) rfl m_X5_saves_f13 dX5_saves_18 hf (fun r6 hf => ?_)
      refine v_iload_n 1 dX5_saves_21 rfl rfl ?_
      refine v_aload_n 0 dX5_saves_22 rfl rfl ?_
      refine v_gr 5 1 n_X5_saves_X5 rfl (by decide) rfl m_X5_saves_f13 dX5_saves_23 hf (fun r7 hf => ?_)
      refine v_iload_n 1 dX5_saves_26 rfl rfl ?_
      refine v_sipush 1003 dX5_saves_27 (by decide) ?_
      refine v_iadd dX5_saves_30 ?_
      refine v_iald dX5_saves_31 hf (fun x8 hf => ?_)
      refine v_iast dX5_saves_32 hf (fun G _ hf => ?_)
      refine v_iinc 1 (l1 + 1) [(1, .int (l1 + 1)), (0, .ref this)] dX5_saves_33 rfl (by rfl) (by decide) rfl ?_
      refine v_goto 10 dX5_saves_36 (by decide) ?_
      refine v_sub [1, 0] rfl ?_
      exact ih this (l1 + 1) G hf
set_option maxRecDepth 100000 in
set_option maxHeartbeats 4000000 in
theorem e_X5_saves_0 {X : VX} {B : VB} {z : Unit} {Gf : GH}  (hfx : (xl X).stackTraces = false) (hn : (xme X).name = "saves") (hr : (xme X).sig.returnType = none) (hE : VE B (z, Gf))  (this : Nat) (G : GH) (hf : (f_X5_saves this).1 G = some (z, Gf)) : V X RX5 cX5_saves 2 1 24 wsX5_saves B (QE X (vV z) Gf B) G 0 [(0, .ref this)] [] := by
  unfold f_X5_saves at hf
  refine v_aload_n 0 dX5_saves_0 rfl rfl ?_
  refine v_gi 5 2 n_X5_saves_X5 rfl (by decide) rfl m_X5_saves_f45 dX5_saves_1 hf (fun x1 hf => ?_)
  refine v_iconst 4 dX5_saves_4 (by decide) ?_
  refine v_icmp_ne 44 dX5_saves_5 (by decide) hf (fun _ hf => ?_) (fun _ hf => ?_)
  · refine v_sub [0] rfl ?_
    exact e_X5_saves_44 hfx hn hr hE this G hf
  · refine v_iconst 0 dX5_saves_8 (by decide) ?_
    refine v_istore_n [(1, .int 0), (0, .ref this)] dX5_saves_9 rfl (by decide) rfl ?_
    refine v_sub [1, 0] rfl ?_
    exact e_X5_saves_10 hfx hn hr hE FU this 0 G hf
theorem c_X5_saves (l : Launch) (hfl : l.stackTraces = false) (this : Nat) : CM l yX5_saves wsX5_saves 1 24 [.ref this] vV (f_X5_saves this) := CM.start hfl RX5 rfl (by decide +kernel) rfl (Nat.le_of_ble_eq_true rfl) (fun X G z Gf hl hn hr hf => e_X5_saves_0 (by rw [hl]; exact hfl) hn hr ⟨rfl, rfl⟩ this G hf)
theorem dv_X5_saves : yX5_saves.cls = RX5 ∧ yX5_saves.cls ≠ "java/lang/invoke/MethodHandle" ∧ yX5_saves.cls ≠ "java/lang/invoke/VarHandle" ∧ (parseMethodDescriptor yX5_saves.desc).map (fun d => d.parameters.length) = some 0 := by decide +kernel
theorem m_X5_of_f7 : Cond.fieldLink RX5 7 RX5 "now" "[I" ∈ wsX5_of := by decide +kernel
theorem n_X5_of_X5 : ∀ w ∈ u_ws RX5 TX5 16, w ∈ wsX5_of := by decide +kernel
set_option maxRecDepth 100000 in
set_option maxHeartbeats 4000000 in
theorem e_X5_of_0 {X : VX} {B : VB} {z : Int32} {Gf : GH}  (hfx : (xl X).stackTraces = false) (hn : (xme X).name = "of") (hr : (xme X).sig.returnType = (some .int)) (hE : VE B (z, Gf))  (this : Nat) (p1 : Int32) (p2 : Int32) (G : GH) (hf : (f_X5_of this p1 p2).1 G = some (z, Gf)) : V X RX5 cX5_of 3 0 0 wsX5_of B (QE X (vI z) Gf B) G 0 [(0, .ref this), (1, .int p1), (2, .int p2)] [] := by
  unfold f_X5_of at hf
  refine v_aload_n 0 dX5_of_0 rfl rfl ?_
  refine v_gr 5 0 n_X5_of_X5 rfl (by decide) rfl m_X5_of_f7 dX5_of_1 hf (fun r1 hf => ?_)
  refine v_iconst 3 dX5_of_4 (by decide) ?_
  refine v_bipush 10 dX5_of_5 (by decide) ?_
  refine v_iload_n 1 dX5_of_7 rfl rfl ?_
  refine v_imul dX5_of_8 ?_
  refine v_iadd dX5_of_9 ?_
  refine v_iload_n 2 dX5_of_10 rfl rfl ?_
  refine v_iadd dX5_of_11 ?_
  refine v_iald dX5_of_12 hf (fun x2 hf => ?_)
  exact v_iret hr dX5_of_13 hE hf
theorem c_X5_of (l : Launch) (hfl : l.stackTraces = false) (this : Nat) (p1 : Int32) (p2 : Int32) : CM l yX5_of wsX5_of 0 0 [.ref this, .int p1, .int p2] vI (f_X5_of this p1 p2) := CM.start hfl RX5 rfl (by decide +kernel) rfl (Nat.le_of_ble_eq_true rfl) (fun X G z Gf hl hn hr hf => e_X5_of_0 (by rw [hl]; exact hfl) hn hr ⟨rfl, rfl⟩ this p1 p2 G hf)
theorem dv_X5_of : yX5_of.cls = RX5 ∧ yX5_of.cls ≠ "java/lang/invoke/MethodHandle" ∧ yX5_of.cls ≠ "java/lang/invoke/VarHandle" ∧ (parseMethodDescriptor yX5_of.desc).map (fun d => d.parameters.length) = some 2 := by decide +kernel
theorem m_X5_adds_f7 : Cond.fieldLink RX5 7 RX5 "now" "[I" ∈ wsX5_adds := by decide +kernel
theorem n_X5_adds_X5 : ∀ w ∈ u_ws RX5 TX5 16, w ∈ wsX5_adds := by decide +kernel
set_option maxRecDepth 100000 in
set_option maxHeartbeats 4000000 in
theorem e_X5_adds_0 {X : VX} {B : VB} {z : Unit} {Gf : GH}  (hfx : (xl X).stackTraces = false) (hn : (xme X).name = "adds") (hr : (xme X).sig.returnType = none) (hE : VE B (z, Gf))  (this : Nat) (p1 : Int32) (p2 : Int32) (p3 : Int32) (G : GH) (hf : (f_X5_adds this p1 p2 p3).1 G = some (z, Gf)) : V X RX5 cX5_adds 4 0 0 wsX5_adds B (QE X (vV z) Gf B) G 0 [(0, .ref this), (1, .int p1), (2, .int p2), (3, .int p3)] [] := by
  unfold f_X5_adds at hf
  refine v_aload_n 0 dX5_adds_0 rfl rfl ?_
  refine v_gr 5 0 n_X5_adds_X5 rfl (by decide) rfl m_X5_adds_f7 dX5_adds_1 hf (fun r1 hf => ?_)
  refine v_iconst 3 dX5_adds_4 (by decide) ?_
  refine v_bipush 10 dX5_adds_5 (by decide) ?_
  refine v_iload_n 1 dX5_adds_7 rfl rfl ?_
  refine v_imul dX5_adds_8 ?_
  refine v_iadd dX5_adds_9 ?_
  refine v_iload_n 2 dX5_adds_10 rfl rfl ?_
  refine v_iadd dX5_adds_11 ?_
  refine v_dup2 dX5_adds_12 rfl rfl ?_
  refine v_iald dX5_adds_13 hf (fun x2 hf => ?_)
  refine v_iload_n 3 dX5_adds_14 rfl rfl ?_
  refine v_iadd dX5_adds_15 ?_
  refine v_iast dX5_adds_16 hf (fun G _ hf => ?_)
  exact v_vret hr dX5_adds_17 hE hf
theorem c_X5_adds (l : Launch) (hfl : l.stackTraces = false) (this : Nat) (p1 : Int32) (p2 : Int32) (p3 : Int32) : CM l yX5_adds wsX5_adds 0 0 [.ref this, .int p1, .int p2, .int p3] vV (f_X5_adds this p1 p2 p3) := CM.start hfl RX5 rfl (by decide +kernel) rfl (Nat.le_of_ble_eq_true rfl) (fun X G z Gf hl hn hr hf => e_X5_adds_0 (by rw [hl]; exact hfl) hn hr ⟨rfl, rfl⟩ this p1 p2 p3 G hf)
theorem dv_X5_adds : yX5_adds.cls = RX5 ∧ yX5_adds.cls ≠ "java/lang/invoke/MethodHandle" ∧ yX5_adds.cls ≠ "java/lang/invoke/VarHandle" ∧ (parseMethodDescriptor yX5_adds.desc).map (fun d => d.parameters.length) = some 3 := by decide +kernel
theorem m_X5_isVersion_f7 : Cond.fieldLink RX5 7 RX5 "now" "[I" ∈ wsX5_isVersion := by decide +kernel
theorem n_X5_isVersion_X5 : ∀ w ∈ u_ws RX5 TX5 16, w ∈ wsX5_isVersion := by decide +kernel
set_option maxRecDepth 100000 in
set_option maxHeartbeats 4000000 in
theorem e_X5_isVersion_0 {X : VX} {B : VB} {z : Int32} {Gf : GH}  (hfx : (xl X).stackTraces = false) (hn : (xme X).name = "isVersion") (hr : (xme X).sig.returnType = (some .boolean)) (hE : VE B (z, Gf))  (this : Nat) (p1 : Int32) (G : GH) (hf : (f_X5_isVersion this p1).1 G = some (z, Gf)) : V X RX5 cX5_isVersion 2 1 22 wsX5_isVersion B (QE X (vI z) Gf B) G 0 [(0, .ref this), (1, .int p1)] [] := by
  unfold f_X5_isVersion at hf
  refine v_iload_n 1 dX5_isVersion_0 rfl rfl ?_
  refine v_iconst 0 dX5_isVersion_1 (by decide) ?_
  refine v_aload_n 0 dX5_isVersion_2 rfl rfl ?_
  refine v_gr 5 0 n_X5_isVersion_X5 rfl (by decide) rfl m_X5_isVersion_f7 dX5_isVersion_3 hf (fun r1 hf => ?_)
  refine v_iconst 2 dX5_isVersion_6 (by decide) ?_
  refine v_iald dX5_isVersion_7 hf (fun x2 hf => ?_)
  refine v_iconst 1 dX5_isVersion_8 (by decide) ?_
  refine v_isub dX5_isVersion_9 ?_
  refine v_callSi 3 [.int p1, .int 0, .int (x2 - 1)] (c_X5_in (xl X) hfx p1 0 (x2 - 1)) gX5_isVersion_X5_in rfl dn_X5_in (by decide) (by decide) rfl dX5_isVersion_10 (Nat.le_of_ble_eq_true rfl) rfl hE hf (fun x3 G hf => ?_)
  exact v_zret hr dX5_isVersion_13 hE hf
theorem c_X5_isVersion (l : Launch) (hfl : l.stackTraces = false) (this : Nat) (p1 : Int32) : CM l yX5_isVersion wsX5_isVersion 1 22 [.ref this, .int p1] vI (f_X5_isVersion this p1) := CM.start hfl RX5 rfl (by decide +kernel) rfl (Nat.le_of_ble_eq_true rfl) (fun X G z Gf hl hn hr hf => e_X5_isVersion_0 (by rw [hl]; exact hfl) hn hr ⟨rfl, rfl⟩ this p1 G hf)
theorem dv_X5_isVersion : yX5_isVersion.cls = RX5 ∧ yX5_isVersion.cls ≠ "java/lang/invoke/MethodHandle" ∧ yX5_isVersion.cls ≠ "java/lang/invoke/VarHandle" ∧ (parseMethodDescriptor yX5_isVersion.desc).map (fun d => d.parameters.length) = some 1 := by decide +kernel
set_option maxRecDepth 100000 in
set_option maxHeartbeats 4000000 in
theorem e_X5_partOf_0 {X : VX} {B : VB} {z : Int32} {Gf : GH}  (hfx : (xl X).stackTraces = false) (hn : (xme X).name = "partOf") (hr : (xme X).sig.returnType = (some .int)) (hE : VE B (z, Gf))  (this : Nat) (p1 : Int32) (p2 : Int32) (G : GH) (hf : (f_X5_partOf this p1 p2).1 G = some (z, Gf)) : V X RX5 cX5_partOf 3 1 22 wsX5_partOf B (QE X (vI z) Gf B) G 0 [(0, .ref this), (1, .int p1), (2, .int p2)] [] := by
  unfold f_X5_partOf at hf
  refine v_iload_n 2 dX5_partOf_0 rfl rfl ?_
  refine v_if_eq 13 dX5_partOf_1 (by decide) hf (fun _ hf => ?_) (fun _ hf => ?_)
  · refine v_aload_n 0 dX5_partOf_13 rfl rfl ?_
    refine v_iload_n 1 dX5_partOf_14 rfl rfl ?_
    refine v_iconst 1 dX5_partOf_15 (by decide) ?_
    refine v_callVi 5 2 [.int p1, .int 1] (c_X5_of (xl X) hfx this p1 1) gX5_partOf_X5_of rfl dv_X5_of (by decide) (by decide) rfl rfl dX5_partOf_16 (Nat.le_of_ble_eq_true rfl) rfl hE hf (fun x1 G hf => ?_)
    refine v_aload_n 0 dX5_partOf_19 rfl rfl ?_
    refine v_iload_n 1 dX5_partOf_20 rfl rfl ?_
    refine v_iconst 2 dX5_partOf_21 (by decide) ?_
    refine v_callVi 5 2 [.int p1, .int 2] (c_X5_of (xl X) hfx this p1 2) gX5_partOf_X5_of rfl dv_X5_of (by decide) (by decide) rfl rfl dX5_partOf_22 (Nat.le_of_ble_eq_true rfl) rfl hE hf (fun x2 G hf => ?_)
    refine v_isub dX5_partOf_25 ?_
    exact v_iret hr dX5_partOf_26 hE hf
  · refine v_aload_n 0 dX5_partOf_4 rfl rfl ?_
    refine v_iload_n 1 dX5_partOf_5 rfl rfl ?_
    refine v_iconst 2 dX5_partOf_6 (by decide) ?_
    refine v_callVi 5 2 [.int p1, .int 2] (c_X5_of (xl X) hfx this p1 2) gX5_partOf_X5_of rfl dv_X5_of (by decide) (by decide) rfl rfl dX5_partOf_7 (Nat.le_of_ble_eq_true rfl) rfl hE hf (fun x3 G hf => ?_)
    refine v_goto 26 dX5_partOf_10 (by decide) ?_
    exact v_iret hr dX5_partOf_26 hE hf
theorem c_X5_partOf (l : Launch) (hfl : l.stackTraces = false) (this : Nat) (p1 : Int32) (p2 : Int32) : CM l yX5_partOf wsX5_partOf 1 22 [.ref this, .int p1, .int p2] vI (f_X5_partOf this p1 p2) := CM.start hfl RX5 rfl (by decide +kernel) rfl (Nat.le_of_ble_eq_true rfl) (fun X G z Gf hl hn hr hf => e_X5_partOf_0 (by rw [hl]; exact hfl) hn hr ⟨rfl, rfl⟩ this p1 p2 G hf)
theorem dv_X5_partOf : yX5_partOf.cls = RX5 ∧ yX5_partOf.cls ≠ "java/lang/invoke/MethodHandle" ∧ yX5_partOf.cls ≠ "java/lang/invoke/VarHandle" ∧ (parseMethodDescriptor yX5_partOf.desc).map (fun d => d.parameters.length) = some 2 := by decide +kernel
theorem m_X5_laysWay_f25 : Cond.fieldLink RX5 25 RX5 "way" "[I" ∈ wsX5_laysWay := by decide +kernel
theorem n_X5_laysWay_X5 : ∀ w ∈ u_ws RX5 TX5 16, w ∈ wsX5_laysWay := by decide +kernel
set_option maxRecDepth 100000 in
set_option maxHeartbeats 4000000 in
theorem e_X5_laysWay_15 {X : VX} {B : VB} {z : Int32} {Gf : GH}  (hfx : (xl X).stackTraces = false) (hn : (xme X).name = "laysWay") (hr : (xme X).sig.returnType = (some .int)) (hE : VE B (z, Gf))  : ∀ (n : Nat) (this : Nat) (l2 : Int32) (p1 : Int32) (l4 : Int32) (G : GH), (f_X5_laysWay_15 n this l2 p1 l4).1 G = some (z, Gf) → V X RX5 cX5_laysWay 5 1 22 wsX5_laysWay B (QE X (vI z) Gf B) G 15 [(0, .ref this), (2, .int l2), (3, .int p1), (4, .int l4)] [] := by
  intro n
  induction n with
  | zero =>
    intro this l2 p1 l4 G hf
    have h0 : (none : Option (Int32 × GH)) = some (z, Gf) := hf
    cases h0
  | succ n ih =>
    intro this l2 p1 l4 G hf
    rw [f_X5_laysWay_15.eq_2] at hf
    refine v_iload 3 dX5_laysWay_15 rfl ?_
    refine v_if_lt 41 dX5_laysWay_17 (by decide) hf (fun _ hf => ?_) (fun _ hf => ?_)
    · refine v_iload_n 1 dX5_laysWay_41 rfl rfl ?_
      exact v_iret hr dX5_laysWay_42 hE hf
    · refine v_aload_n 0 dX5_laysWay_20 rfl rfl ?_
      refine v_gr 5 10 n_X5_laysWay_X5 rfl (by decide) rfl m_X5_laysWay_f25 dX5_laysWay_21 hf (fun r2 hf => ?_)
      refine v_iload 3 dX5_laysWay_24 rfl ?_
      refine v_iload_n 2 dX5_laysWay_26 rfl rfl ?_
      refine v_iast dX5_laysWay_27 hf (fun G _ hf => ?_)
      refine v_aload_n 0 dX5_laysWay_28 rfl rfl ?_
      refine v_iload_n 2 dX5_laysWay_29 rfl rfl ?_
      refine v_iconst 0 dX5_laysWay_30 (by decide) ?_
      refine v_callVi 5 2 [.int p1, .int 0] (c_X5_of (xl X) hfx this p1 0) gX5_laysWay_X5_of rfl dv_X5_of (by decide) (by decide) rfl rfl dX5_laysWay_31 (Nat.le_of_ble_eq_true rfl) rfl hE hf (fun x3 G hf => ?_)
      refine v_istore_n [(3, .int x3), (0, .ref this), (2, .int l2), (4, .int l4)] dX5_laysWay_34 rfl (by decide) rfl ?_
      refine v_iinc 3 (l4 + (-1)) [(4, .int (l4 + (-1))), (3, .int x3), (0, .ref this), (2, .int l2)] dX5_laysWay_35 rfl (by rfl) (by decide) rfl ?_
      refine v_goto 15 dX5_laysWay_38 (by decide) ?_
      refine v_sub [2, 3, 1, 0] rfl ?_
      exact ih this l2 x3 (l4 + (-1)) G hf
set_option maxRecDepth 100000 in
set_option maxHeartbeats 4000000 in
theorem e_X5_laysWay_0 {X : VX} {B : VB} {z : Int32} {Gf : GH}  (hfx : (xl X).stackTraces = false) (hn : (xme X).name = "laysWay") (hr : (xme X).sig.returnType = (some .int)) (hE : VE B (z, Gf))  (this : Nat) (p1 : Int32) (G : GH) (hf : (f_X5_laysWay this p1).1 G = some (z, Gf)) : V X RX5 cX5_laysWay 5 1 22 wsX5_laysWay B (QE X (vI z) Gf B) G 0 [(0, .ref this), (1, .int p1)] [] := by
  unfold f_X5_laysWay at hf
  refine v_aload_n 0 dX5_laysWay_0 rfl rfl ?_
  refine v_iload_n 1 dX5_laysWay_1 rfl rfl ?_
  refine v_bipush 8 dX5_laysWay_2 (by decide) ?_
  refine v_callVi 5 2 [.int p1, .int 8] (c_X5_of (xl X) hfx this p1 8) gX5_laysWay_X5_of rfl dv_X5_of (by decide) (by decide) rfl rfl dX5_laysWay_4 (Nat.le_of_ble_eq_true rfl) rfl hE hf (fun x1 G hf => ?_)
  refine v_istore_n [(2, .int x1), (0, .ref this), (1, .int p1)] dX5_laysWay_7 rfl (by decide) rfl ?_
  refine v_iload_n 2 dX5_laysWay_8 rfl rfl ?_
  refine v_istore_n [(3, .int p1), (2, .int x1), (0, .ref this), (1, .int p1)] dX5_laysWay_9 rfl (by decide) rfl ?_
  refine v_iload_n 1 dX5_laysWay_10 rfl rfl ?_
  refine v_iconst 1 dX5_laysWay_11 (by decide) ?_
  refine v_isub dX5_laysWay_12 ?_
  refine v_istore [(4, .int (x1 - 1)), (3, .int p1), (2, .int x1), (0, .ref this), (1, .int p1)] dX5_laysWay_13 (by decide) rfl ?_
  refine v_sub [3, 2, 1, 0] rfl ?_
  exact e_X5_laysWay_15 hfx hn hr hE FU this x1 p1 (x1 - 1) G hf
theorem c_X5_laysWay (l : Launch) (hfl : l.stackTraces = false) (this : Nat) (p1 : Int32) : CM l yX5_laysWay wsX5_laysWay 1 22 [.ref this, .int p1] vI (f_X5_laysWay this p1) := CM.start hfl RX5 rfl (by decide +kernel) rfl (Nat.le_of_ble_eq_true rfl) (fun X G z Gf hl hn hr hf => e_X5_laysWay_0 (by rw [hl]; exact hfl) hn hr ⟨rfl, rfl⟩ this p1 G hf)
theorem dv_X5_laysWay : yX5_laysWay.cls = RX5 ∧ yX5_laysWay.cls ≠ "java/lang/invoke/MethodHandle" ∧ yX5_laysWay.cls ≠ "java/lang/invoke/VarHandle" ∧ (parseMethodDescriptor yX5_laysWay.desc).map (fun d => d.parameters.length) = some 1 := by decide +kernel
theorem m_X5_laysRow_f64 : Cond.fieldLink RX5 64 RX5 "first" "I" ∈ wsX5_laysRow := by decide +kernel
theorem m_X5_laysRow_f67 : Cond.fieldLink RX5 67 RX5 "behind" "I" ∈ wsX5_laysRow := by decide +kernel
theorem m_X5_laysRow_f25 : Cond.fieldLink RX5 25 RX5 "way" "[I" ∈ wsX5_laysRow := by decide +kernel
theorem n_X5_laysRow_X5 : ∀ w ∈ u_ws RX5 TX5 16, w ∈ wsX5_laysRow := by decide +kernel
theorem m_X5_laysRow_f22 : Cond.fieldLink RX5 22 RX5 "values" "[I" ∈ wsX5_laysRow := by decide +kernel
set_option maxRecDepth 100000 in
set_option maxHeartbeats 4000000 in
theorem e_X5_laysRow_22 {X : VX} {B : VB} {z : Unit} {Gf : GH}  (hfx : (xl X).stackTraces = false) (hn : (xme X).name = "laysRow") (hr : (xme X).sig.returnType = none) (hE : VE B (z, Gf))  : ∀ (n : Nat) (this : Nat) (l2 : Int32) (l3 : Int32) (G : GH), (f_X5_laysRow_22 n this l2 l3).1 G = some (z, Gf) → V X RX5 cX5_laysRow 5 2 46 wsX5_laysRow B (QE X (vV z) Gf B) G 22 [(0, .ref this), (2, .int l2), (3, .int l3)] [] := by
  intro n
  induction n with
  | zero =>
    intro this l2 l3 G hf
    have h0 : (none : Option (Unit × GH)) = some (z, Gf) := hf
    cases h0
  | succ n ih =>
    intro this l2 l3 G hf
    rw [f_X5_laysRow_22.eq_2] at hf
    refine v_iload_n 2 dX5_laysRow_22 rfl rfl ?_
    refine v_iload_n 1 dX5_laysRow_23 rfl rfl ?_
    refine v_icmp_ge 155 dX5_laysRow_24 (by decide) hf (fun _ hf => ?_) (fun _ hf => ?_)
    · exact v_vret hr dX5_laysRow_155 hE hf
    · refine v_aload_n 0 dX5_laysRow_27 rfl rfl ?_
      refine v_aload_n 0 dX5_laysRow_28 rfl rfl ?_
      refine v_gr 5 10 n_X5_laysRow_X5 rfl (by decide) rfl m_X5_laysRow_f25 dX5_laysRow_29 hf (fun r2 hf => ?_)
      refine v_iload_n 2 dX5_laysRow_32 rfl rfl ?_
      refine v_iald dX5_laysRow_33 hf (fun x3 hf => ?_)
      refine v_bipush 7 dX5_laysRow_34 (by decide) ?_
      refine v_callVi 5 2 [.int x3, .int 7] (c_X5_of (xl X) hfx this x3 7) gX5_laysRow_X5_of rfl dv_X5_of (by decide) (by decide) rfl rfl dX5_laysRow_36 (Nat.le_of_ble_eq_true rfl) rfl hE hf (fun x4 G hf => ?_)
      refine v_istore [(4, .int x4), (0, .ref this), (2, .int l2), (3, .int l3)] dX5_laysRow_39 (by decide) rfl ?_
      refine v_iload 0 dX5_laysRow_41 rfl ?_
      refine v_if_ne 80 dX5_laysRow_43 (by decide) hf (fun _ hf => ?_) (fun _ hf => ?_)
      · refine v_iload 0 dX5_laysRow_80 rfl ?_
        refine v_iconst 1 dX5_laysRow_82 (by decide) ?_
        refine v_icmp_ne 120 dX5_laysRow_83 (by decide) hf (fun _ hf => ?_) (fun _ hf => ?_)
        · refine v_iload 0 dX5_laysRow_120 rfl ?_
          refine v_iconst 2 dX5_laysRow_122 (by decide) ?_
          refine v_icmp_ne 139 dX5_laysRow_123 (by decide) hf (fun _ hf => ?_) (fun _ hf => ?_)
          · refine v_aload_n 1 dX5_laysRow_139 rfl rfl ?_
            refine v_dup dX5_laysRow_140 rfl ?_
            refine v_gi 5 9 n_X5_laysRow_X5 rfl (by decide) rfl m_X5_laysRow_f67 dX5_laysRow_141 hf (fun x5 hf => ?_)
            refine v_iconst 1 dX5_laysRow_144 (by decide) ?_
            refine v_isub dX5_laysRow_145 ?_
            refine v_put 5 9 .int n_X5_laysRow_X5 tyX5 tyX5_ok nmX5 rfl (by decide) rfl m_X5_laysRow_f67 rfl (by decide +kernel) rfl rfl dX5_laysRow_146 hf (fun G _ hf => ?_)
            refine v_iinc 3 (l3 + 1) [(3, .int (l3 + 1)), (4, .int x4), (0, .ref this), (2, .int l2)] dX5_laysRow_149 rfl (by rfl) (by decide) rfl ?_
            refine v_goto 22 dX5_laysRow_152 (by decide) ?_
            refine v_sub [2, 3, 0] rfl ?_
            exact ih this l2 (l3 + 1) G hf
          · refine v_aload_n 1 dX5_laysRow_126 rfl rfl ?_
            refine v_dup dX5_laysRow_127 rfl ?_
            refine v_gi 5 8 n_X5_laysRow_X5 rfl (by decide) rfl m_X5_laysRow_f64 dX5_laysRow_128 hf (fun x6 hf => ?_)
            refine v_iconst 1 dX5_laysRow_131 (by decide) ?_
            refine v_iadd dX5_laysRow_132 ?_
            refine v_put 5 8 .int n_X5_laysRow_X5 tyX5 tyX5_ok nmX5 rfl (by decide) rfl m_X5_laysRow_f64 rfl (by decide +kernel) rfl rfl dX5_laysRow_133 hf (fun G _ hf => ?_)
            refine v_goto 149 dX5_laysRow_136 (by decide) ?_
            refine v_iinc 3 (l3 + 1) [(3, .int (l3 + 1)), (4, .int x4), (0, .ref this), (2, .int l2)] dX5_laysRow_149 rfl (by rfl) (by decide) rfl ?_
            refine v_goto 22 dX5_laysRow_152 (by decide) ?_
            refine v_sub [2, 3, 0] rfl ?_
            exact ih this l2 (l3 + 1) G hf
        · refine v_aload_n 1 dX5_laysRow_86 rfl rfl ?_
          refine v_gr 5 7 n_X5_laysRow_X5 rfl (by decide) rfl m_X5_laysRow_f22 dX5_laysRow_87 hf (fun r7 hf => ?_)
          refine v_aload_n 1 dX5_laysRow_90 rfl rfl ?_
          refine v_gi 5 9 n_X5_laysRow_X5 rfl (by decide) rfl m_X5_laysRow_f67 dX5_laysRow_91 hf (fun x8 hf => ?_)
          refine v_aload_n 1 dX5_laysRow_94 rfl rfl ?_
          refine v_aload_n 1 dX5_laysRow_95 rfl rfl ?_
          refine v_gr 5 10 n_X5_laysRow_X5 rfl (by decide) rfl m_X5_laysRow_f25 dX5_laysRow_96 hf (fun r9 hf => ?_)
          refine v_iload_n 3 dX5_laysRow_99 rfl rfl ?_
          refine v_iald dX5_laysRow_100 hf (fun x10 hf => ?_)
          refine v_bipush 9 dX5_laysRow_101 (by decide) ?_
          refine v_callVi 5 2 [.int x10, .int 9] (c_X5_of (xl X) hfx this x10 9) gX5_laysRow_X5_of rfl dv_X5_of (by decide) (by decide) rfl rfl dX5_laysRow_103 (Nat.le_of_ble_eq_true rfl) rfl hE hf (fun x11 G hf => ?_)
          refine v_iast dX5_laysRow_106 hf (fun G _ hf => ?_)
          refine v_aload_n 1 dX5_laysRow_107 rfl rfl ?_
          refine v_dup dX5_laysRow_108 rfl ?_
          refine v_gi 5 9 n_X5_laysRow_X5 rfl (by decide) rfl m_X5_laysRow_f67 dX5_laysRow_109 hf (fun x12 hf => ?_)
          refine v_iconst 1 dX5_laysRow_112 (by decide) ?_
          refine v_iadd dX5_laysRow_113 ?_
          refine v_put 5 9 .int n_X5_laysRow_X5 tyX5 tyX5_ok nmX5 rfl (by decide) rfl m_X5_laysRow_f67 rfl (by decide +kernel) rfl rfl dX5_laysRow_114 hf (fun G _ hf => ?_)
          refine v_goto 149 dX5_laysRow_117 (by decide) ?_
          refine v_iinc 3 (l3 + 1) [(3, .int (l3 + 1)), (4, .int x4), (0, .ref this), (2, .int l2)] dX5_laysRow_149 rfl (by rfl) (by decide) rfl ?_
          refine v_goto 22 dX5_laysRow_152 (by decide) ?_
          refine v_sub [2, 3, 0] rfl ?_
          exact ih this l2 (l3 + 1) G hf
      · refine v_aload_n 1 dX5_laysRow_46 rfl rfl ?_
        refine v_dup dX5_laysRow_47 rfl ?_
        refine v_gi 5 8 n_X5_laysRow_X5 rfl (by decide) rfl m_X5_laysRow_f64 dX5_laysRow_48 hf (fun x13 hf => ?_)
        refine v_iconst 1 dX5_laysRow_51 (by decide) ?_
        refine v_isub dX5_laysRow_52 ?_
        refine v_put 5 8 .int n_X5_laysRow_X5 tyX5 tyX5_ok nmX5 rfl (by decide) rfl m_X5_laysRow_f64 rfl (by decide +kernel) rfl rfl dX5_laysRow_53 hf (fun G _ hf => ?_)
        refine v_aload_n 1 dX5_laysRow_56 rfl rfl ?_
        refine v_gr 5 7 n_X5_laysRow_X5 rfl (by decide) rfl m_X5_laysRow_f22 dX5_laysRow_57 hf (fun r14 hf => ?_)
        refine v_aload_n 1 dX5_laysRow_60 rfl rfl ?_
        refine v_gi 5 8 n_X5_laysRow_X5 rfl (by decide) rfl m_X5_laysRow_f64 dX5_laysRow_61 hf (fun x15 hf => ?_)
        refine v_aload_n 1 dX5_laysRow_64 rfl rfl ?_
        refine v_aload_n 1 dX5_laysRow_65 rfl rfl ?_
        refine v_gr 5 10 n_X5_laysRow_X5 rfl (by decide) rfl m_X5_laysRow_f25 dX5_laysRow_66 hf (fun r16 hf => ?_)
        refine v_iload_n 3 dX5_laysRow_69 rfl rfl ?_
        refine v_iald dX5_laysRow_70 hf (fun x17 hf => ?_)
        refine v_bipush 9 dX5_laysRow_71 (by decide) ?_
        refine v_callVi 5 2 [.int x17, .int 9] (c_X5_of (xl X) hfx this x17 9) gX5_laysRow_X5_of rfl dv_X5_of (by decide) (by decide) rfl rfl dX5_laysRow_73 (Nat.le_of_ble_eq_true rfl) rfl hE hf (fun x18 G hf => ?_)
        refine v_iast dX5_laysRow_76 hf (fun G _ hf => ?_)
        refine v_goto 149 dX5_laysRow_77 (by decide) ?_
        refine v_iinc 3 (l3 + 1) [(3, .int (l3 + 1)), (4, .int x4), (0, .ref this), (2, .int l2)] dX5_laysRow_149 rfl (by rfl) (by decide) rfl ?_
        refine v_goto 22 dX5_laysRow_152 (by decide) ?_
        refine v_sub [2, 3, 0] rfl ?_
        exact ih this l2 (l3 + 1) G hf
set_option maxRecDepth 100000 in
set_option maxHeartbeats 4000000 in
theorem e_X5_laysRow_0 {X : VX} {B : VB} {z : Unit} {Gf : GH}  (hfx : (xl X).stackTraces = false) (hn : (xme X).name = "laysRow") (hr : (xme X).sig.returnType = none) (hE : VE B (z, Gf))  (this : Nat) (p1 : Int32) (G : GH) (hf : (f_X5_laysRow this p1).1 G = some (z, Gf)) : V X RX5 cX5_laysRow 5 2 46 wsX5_laysRow B (QE X (vV z) Gf B) G 0 [(0, .ref this), (1, .int p1)] [] := by
  unfold f_X5_laysRow at hf
  refine v_aload_n 0 dX5_laysRow_0 rfl rfl ?_
  refine v_iload_n 1 dX5_laysRow_1 rfl rfl ?_
  refine v_callVi 5 1 [.int p1] (c_X5_laysWay (xl X) hfx this p1) gX5_laysRow_X5_laysWay rfl dv_X5_laysWay (by decide) (by decide) rfl rfl dX5_laysRow_2 (Nat.le_of_ble_eq_true rfl) rfl hE hf (fun x1 G hf => ?_)
  refine v_istore_n [(2, .int x1), (0, .ref this), (1, .int p1)] dX5_laysRow_5 rfl (by decide) rfl ?_
  refine v_aload_n 1 dX5_laysRow_6 rfl rfl ?_
  refine v_sipush 128 dX5_laysRow_7 (by decide) ?_
  refine v_put 5 8 .int n_X5_laysRow_X5 tyX5 tyX5_ok nmX5 rfl (by decide) rfl m_X5_laysRow_f64 rfl (by decide +kernel) rfl rfl dX5_laysRow_10 hf (fun G _ hf => ?_)
  refine v_aload_n 1 dX5_laysRow_13 rfl rfl ?_
  refine v_sipush 128 dX5_laysRow_14 (by decide) ?_
  refine v_put 5 9 .int n_X5_laysRow_X5 tyX5 tyX5_ok nmX5 rfl (by decide) rfl m_X5_laysRow_f67 rfl (by decide +kernel) rfl rfl dX5_laysRow_17 hf (fun G _ hf => ?_)
  refine v_iconst 0 dX5_laysRow_20 (by decide) ?_
  refine v_istore_n [(3, .int 0), (2, .int x1), (0, .ref this), (1, .int p1)] dX5_laysRow_21 rfl (by decide) rfl ?_
  refine v_sub [2, 1, 0] rfl ?_
  exact e_X5_laysRow_22 hfx hn hr hE FU this x1 0 G hf
theorem c_X5_laysRow (l : Launch) (hfl : l.stackTraces = false) (this : Nat) (p1 : Int32) : CM l yX5_laysRow wsX5_laysRow 2 46 [.ref this, .int p1] vV (f_X5_laysRow this p1) := CM.start hfl RX5 rfl (by decide +kernel) rfl (Nat.le_of_ble_eq_true rfl) (fun X G z Gf hl hn hr hf => e_X5_laysRow_0 (by rw [hl]; exact hfl) hn hr ⟨rfl, rfl⟩ this p1 G hf)
theorem dv_X5_laysRow : yX5_laysRow.cls = RX5 ∧ yX5_laysRow.cls ≠ "java/lang/invoke/MethodHandle" ∧ yX5_laysRow.cls ≠ "java/lang/invoke/VarHandle" ∧ (parseMethodDescriptor yX5_laysRow.desc).map (fun d => d.parameters.length) = some 1 := by decide +kernel
theorem m_X5_valueAt_f22 : Cond.fieldLink RX5 22 RX5 "values" "[I" ∈ wsX5_valueAt := by decide +kernel
theorem m_X5_valueAt_f64 : Cond.fieldLink RX5 64 RX5 "first" "I" ∈ wsX5_valueAt := by decide +kernel
theorem n_X5_valueAt_X5 : ∀ w ∈ u_ws RX5 TX5 16, w ∈ wsX5_valueAt := by decide +kernel
set_option maxRecDepth 100000 in
set_option maxHeartbeats 4000000 in
theorem e_X5_valueAt_0 {X : VX} {B : VB} {z : Int32} {Gf : GH}  (hfx : (xl X).stackTraces = false) (hn : (xme X).name = "valueAt") (hr : (xme X).sig.returnType = (some .int)) (hE : VE B (z, Gf))  (this : Nat) (p1 : Int32) (p2 : Int32) (G : GH) (hf : (f_X5_valueAt this p1 p2).1 G = some (z, Gf)) : V X RX5 cX5_valueAt 3 3 70 wsX5_valueAt B (QE X (vI z) Gf B) G 0 [(0, .ref this), (1, .int p1), (2, .int p2)] [] := by
  unfold f_X5_valueAt at hf
  refine v_aload_n 0 dX5_valueAt_0 rfl rfl ?_
  refine v_iload_n 1 dX5_valueAt_1 rfl rfl ?_
  refine v_callVv 5 1 [.int p1] (c_X5_laysRow (xl X) hfx this p1) gX5_valueAt_X5_laysRow rfl dv_X5_laysRow (by decide) (by decide) rfl rfl dX5_valueAt_2 (Nat.le_of_ble_eq_true rfl) rfl hE hf (fun _ G hf => ?_)
  refine v_aload_n 0 dX5_valueAt_5 rfl rfl ?_
  refine v_gr 5 7 n_X5_valueAt_X5 rfl (by decide) rfl m_X5_valueAt_f22 dX5_valueAt_6 hf (fun r1 hf => ?_)
  refine v_aload_n 0 dX5_valueAt_9 rfl rfl ?_
  refine v_gi 5 8 n_X5_valueAt_X5 rfl (by decide) rfl m_X5_valueAt_f64 dX5_valueAt_10 hf (fun x2 hf => ?_)
  refine v_iload_n 2 dX5_valueAt_13 rfl rfl ?_
  refine v_iadd dX5_valueAt_14 ?_
  refine v_iald dX5_valueAt_15 hf (fun x3 hf => ?_)
  exact v_iret hr dX5_valueAt_16 hE hf
theorem c_X5_valueAt (l : Launch) (hfl : l.stackTraces = false) (this : Nat) (p1 : Int32) (p2 : Int32) : CM l yX5_valueAt wsX5_valueAt 3 70 [.ref this, .int p1, .int p2] vI (f_X5_valueAt this p1 p2) := CM.start hfl RX5 rfl (by decide +kernel) rfl (Nat.le_of_ble_eq_true rfl) (fun X G z Gf hl hn hr hf => e_X5_valueAt_0 (by rw [hl]; exact hfl) hn hr ⟨rfl, rfl⟩ this p1 p2 G hf)
theorem dv_X5_valueAt : yX5_valueAt.cls = RX5 ∧ yX5_valueAt.cls ≠ "java/lang/invoke/MethodHandle" ∧ yX5_valueAt.cls ≠ "java/lang/invoke/VarHandle" ∧ (parseMethodDescriptor yX5_valueAt.desc).map (fun d => d.parameters.length) = some 2 := by decide +kernel
set_option maxRecDepth 100000 in
set_option maxHeartbeats 4000000 in
theorem e_X5_half_0 {X : VX} {B : VB} {z : Int32} {Gf : GH}  (hfx : (xl X).stackTraces = false) (hn : (xme X).name = "half") (hr : (xme X).sig.returnType = (some .int)) (hE : VE B (z, Gf))  (p1 : Int32) (G : GH) (hf : (f_X5_half p1).1 G = some (z, Gf)) : V X RX5 cX5_half 1 0 0 wsX5_half B (QE X (vI z) Gf B) G 0 [(0, .int p1)] [] := by
  unfold f_X5_half at hf
  refine v_iload_n 0 dX5_half_0 rfl rfl ?_
  refine v_iconst 2 dX5_half_1 (by decide) ?_
  refine v_idiv dX5_half_2 (by decide) ?_
  exact v_iret hr dX5_half_3 hE hf
theorem c_X5_half (l : Launch) (hfl : l.stackTraces = false) (p1 : Int32) : CM l yX5_half wsX5_half 0 0 [.int p1] vI (f_X5_half p1) := CM.start hfl RX5 rfl (by decide +kernel) rfl (Nat.le_of_ble_eq_true rfl) (fun X G z Gf hl hn hr hf => e_X5_half_0 (by rw [hl]; exact hfl) hn hr ⟨rfl, rfl⟩ p1 G hf)
theorem dn_X5_half : yX5_half.cls ≠ "java/lang/invoke/MethodHandle" ∧ yX5_half.cls ≠ "java/lang/invoke/VarHandle" ∧ (parseMethodDescriptor yX5_half.desc).map (fun d => d.parameters.length) = some 1 := by decide +kernel
set_option maxRecDepth 100000 in
set_option maxHeartbeats 4000000 in
theorem e_X5_isOver_0 {X : VX} {B : VB} {z : Unit} {Gf : GH}  (hfx : (xl X).stackTraces = false) (hn : (xme X).name = "isOver") (hr : (xme X).sig.returnType = none) (hE : VE B (z, Gf))  (this : Nat) (p1 : Int32) (G : GH) (hf : (f_X5_isOver this p1).1 G = some (z, Gf)) : V X RX5 cX5_isOver 2 1 23 wsX5_isOver B (QE X (vV z) Gf B) G 0 [(0, .ref this), (1, .int p1)] [] := by
  unfold f_X5_isOver at hf
  refine v_aload_n 0 dX5_isOver_0 rfl rfl ?_
  refine v_iload_n 1 dX5_isOver_1 rfl rfl ?_
  refine v_iconst 2 dX5_isOver_2 (by decide) ?_
  refine v_aload_n 0 dX5_isOver_3 rfl rfl ?_
  refine v_iload_n 1 dX5_isOver_4 rfl rfl ?_
  refine v_iconst 4 dX5_isOver_5 (by decide) ?_
  refine v_callVi 5 2 [.int p1, .int 4] (c_X5_of (xl X) hfx this p1 4) gX5_isOver_X5_of rfl dv_X5_of (by decide) (by decide) rfl rfl dX5_isOver_6 (Nat.le_of_ble_eq_true rfl) rfl hE hf (fun x1 G hf => ?_)
  refine v_callVv 5 3 [.int p1, .int 2, .int x1] (c_X5_lays (xl X) hfx this p1 2 x1) gX5_isOver_X5_lays rfl dv_X5_lays (by decide) (by decide) rfl rfl dX5_isOver_9 (Nat.le_of_ble_eq_true rfl) rfl hE hf (fun _ G hf => ?_)
  refine v_aload_n 0 dX5_isOver_12 rfl rfl ?_
  refine v_iload_n 1 dX5_isOver_13 rfl rfl ?_
  refine v_iconst 4 dX5_isOver_14 (by decide) ?_
  refine v_iconst (-1) dX5_isOver_15 (by decide) ?_
  refine v_callVv 5 3 [.int p1, .int 4, .int (-1)] (c_X5_lays (xl X) hfx this p1 4 (-1)) gX5_isOver_X5_lays rfl dv_X5_lays (by decide) (by decide) rfl rfl dX5_isOver_16 (Nat.le_of_ble_eq_true rfl) rfl hE hf (fun _ G hf => ?_)
  refine v_aload_n 0 dX5_isOver_19 rfl rfl ?_
  refine v_iload_n 1 dX5_isOver_20 rfl rfl ?_
  refine v_iconst 3 dX5_isOver_21 (by decide) ?_
  refine v_iconst 0 dX5_isOver_22 (by decide) ?_
  refine v_callVv 5 3 [.int p1, .int 3, .int 0] (c_X5_lays (xl X) hfx this p1 3 0) gX5_isOver_X5_lays rfl dv_X5_lays (by decide) (by decide) rfl rfl dX5_isOver_23 (Nat.le_of_ble_eq_true rfl) rfl hE hf (fun _ G hf => ?_)
  exact v_vret hr dX5_isOver_26 hE hf
theorem c_X5_isOver (l : Launch) (hfl : l.stackTraces = false) (this : Nat) (p1 : Int32) : CM l yX5_isOver wsX5_isOver 1 23 [.ref this, .int p1] vV (f_X5_isOver this p1) := CM.start hfl RX5 rfl (by decide +kernel) rfl (Nat.le_of_ble_eq_true rfl) (fun X G z Gf hl hn hr hf => e_X5_isOver_0 (by rw [hl]; exact hfl) hn hr ⟨rfl, rfl⟩ this p1 G hf)
theorem dv_X5_isOver : yX5_isOver.cls = RX5 ∧ yX5_isOver.cls ≠ "java/lang/invoke/MethodHandle" ∧ yX5_isOver.cls ≠ "java/lang/invoke/VarHandle" ∧ (parseMethodDescriptor yX5_isOver.desc).map (fun d => d.parameters.length) = some 1 := by decide +kernel
theorem m_X5_begins_f7 : Cond.fieldLink RX5 7 RX5 "now" "[I" ∈ wsX5_begins := by decide +kernel
theorem n_X5_begins_X5 : ∀ w ∈ u_ws RX5 TX5 16, w ∈ wsX5_begins := by decide +kernel
set_option maxRecDepth 100000 in
set_option maxHeartbeats 4000000 in
theorem e_X5_begins_9 {X : VX} {B : VB} {z : Int32} {Gf : GH}  (hfx : (xl X).stackTraces = false) (hn : (xme X).name = "begins") (hr : (xme X).sig.returnType = (some .int)) (hE : VE B (z, Gf))  : ∀ (n : Nat) (this : Nat) (p1 : Int32) (l2 : Int32) (l3 : Int32) (G : GH), (f_X5_begins_9 n this p1 l2 l3).1 G = some (z, Gf) → V X RX5 cX5_begins 4 1 23 wsX5_begins B (QE X (vI z) Gf B) G 9 [(0, .ref this), (1, .int p1), (2, .int l2), (3, .int l3)] [] := by
  intro n
  induction n with
  | zero =>
    intro this p1 l2 l3 G hf
    have h0 : (none : Option (Int32 × GH)) = some (z, Gf) := hf
    cases h0
  | succ n ih =>
    intro this p1 l2 l3 G hf
    rw [f_X5_begins_9.eq_2] at hf
    refine v_iload_n 3 dX5_begins_9 rfl rfl ?_
    refine v_bipush 10 dX5_begins_10 (by decide) ?_
    refine v_icmp_ge 33 dX5_begins_12 (by decide) hf (fun _ hf => ?_) (fun _ hf => ?_)
    · refine v_aload_n 0 dX5_begins_33 rfl rfl ?_
      refine v_iload_n 2 dX5_begins_34 rfl rfl ?_
      refine v_iconst 0 dX5_begins_35 (by decide) ?_
      refine v_iload_n 1 dX5_begins_36 rfl rfl ?_
      refine v_callVv 5 3 [.int l2, .int 0, .int p1] (c_X5_lays (xl X) hfx this l2 0 p1) gX5_begins_X5_lays rfl dv_X5_lays (by decide) (by decide) rfl rfl dX5_begins_37 (Nat.le_of_ble_eq_true rfl) rfl hE hf (fun _ G hf => ?_)
      refine v_aload_n 0 dX5_begins_40 rfl rfl ?_
      refine v_iload_n 2 dX5_begins_41 rfl rfl ?_
      refine v_iconst 5 dX5_begins_42 (by decide) ?_
      refine v_iconst 0 dX5_begins_43 (by decide) ?_
      refine v_callVv 5 3 [.int l2, .int 5, .int 0] (c_X5_lays (xl X) hfx this l2 5 0) gX5_begins_X5_lays rfl dv_X5_lays (by decide) (by decide) rfl rfl dX5_begins_44 (Nat.le_of_ble_eq_true rfl) rfl hE hf (fun _ G hf => ?_)
      refine v_aload_n 0 dX5_begins_47 rfl rfl ?_
      refine v_iload_n 2 dX5_begins_48 rfl rfl ?_
      refine v_bipush 6 dX5_begins_49 (by decide) ?_
      refine v_iconst 0 dX5_begins_51 (by decide) ?_
      refine v_callVv 5 3 [.int l2, .int 6, .int 0] (c_X5_lays (xl X) hfx this l2 6 0) gX5_begins_X5_lays rfl dv_X5_lays (by decide) (by decide) rfl rfl dX5_begins_52 (Nat.le_of_ble_eq_true rfl) rfl hE hf (fun _ G hf => ?_)
      refine v_aload_n 0 dX5_begins_55 rfl rfl ?_
      refine v_iload_n 2 dX5_begins_56 rfl rfl ?_
      refine v_bipush 8 dX5_begins_57 (by decide) ?_
      refine v_aload_n 0 dX5_begins_59 rfl rfl ?_
      refine v_iload_n 1 dX5_begins_60 rfl rfl ?_
      refine v_bipush 8 dX5_begins_61 (by decide) ?_
      refine v_callVi 5 2 [.int p1, .int 8] (c_X5_of (xl X) hfx this p1 8) gX5_begins_X5_of rfl dv_X5_of (by decide) (by decide) rfl rfl dX5_begins_63 (Nat.le_of_ble_eq_true rfl) rfl hE hf (fun x3 G hf => ?_)
      refine v_iconst 1 dX5_begins_66 (by decide) ?_
      refine v_iadd dX5_begins_67 ?_
      refine v_callVv 5 3 [.int l2, .int 8, .int (x3 + 1)] (c_X5_lays (xl X) hfx this l2 8 (x3 + 1)) gX5_begins_X5_lays rfl dv_X5_lays (by decide) (by decide) rfl rfl dX5_begins_68 (Nat.le_of_ble_eq_true rfl) rfl hE hf (fun _ G hf => ?_)
      refine v_aload_n 0 dX5_begins_71 rfl rfl ?_
      refine v_gr 5 0 n_X5_begins_X5 rfl (by decide) rfl m_X5_begins_f7 dX5_begins_72 hf (fun r4 hf => ?_)
      refine v_iconst 2 dX5_begins_75 (by decide) ?_
      refine v_dup2 dX5_begins_76 rfl rfl ?_
      refine v_iald dX5_begins_77 hf (fun x5 hf => ?_)
      refine v_iconst 1 dX5_begins_78 (by decide) ?_
      refine v_iadd dX5_begins_79 ?_
      refine v_iast dX5_begins_80 hf (fun G _ hf => ?_)
      refine v_iload_n 2 dX5_begins_81 rfl rfl ?_
      exact v_iret hr dX5_begins_82 hE hf
    · refine v_aload_n 0 dX5_begins_15 rfl rfl ?_
      refine v_iload_n 2 dX5_begins_16 rfl rfl ?_
      refine v_iload_n 3 dX5_begins_17 rfl rfl ?_
      refine v_aload_n 0 dX5_begins_18 rfl rfl ?_
      refine v_iload_n 1 dX5_begins_19 rfl rfl ?_
      refine v_iload_n 3 dX5_begins_20 rfl rfl ?_
      refine v_callVi 5 2 [.int p1, .int l3] (c_X5_of (xl X) hfx this p1 l3) gX5_begins_X5_of rfl dv_X5_of (by decide) (by decide) rfl rfl dX5_begins_21 (Nat.le_of_ble_eq_true rfl) rfl hE hf (fun x6 G hf => ?_)
      refine v_callVv 5 3 [.int l2, .int l3, .int x6] (c_X5_lays (xl X) hfx this l2 l3 x6) gX5_begins_X5_lays rfl dv_X5_lays (by decide) (by decide) rfl rfl dX5_begins_24 (Nat.le_of_ble_eq_true rfl) rfl hE hf (fun _ G hf => ?_)
      refine v_iinc 3 (l3 + 1) [(3, .int (l3 + 1)), (0, .ref this), (1, .int p1), (2, .int l2)] dX5_begins_27 rfl (by rfl) (by decide) rfl ?_
      refine v_goto 9 dX5_begins_30 (by decide) ?_
      refine v_sub [1, 2, 3, 0] rfl ?_
      exact ih this p1 l2 (l3 + 1) G hf
set_option maxRecDepth 100000 in
set_option maxHeartbeats 4000000 in
theorem e_X5_begins_0 {X : VX} {B : VB} {z : Int32} {Gf : GH}  (hfx : (xl X).stackTraces = false) (hn : (xme X).name = "begins") (hr : (xme X).sig.returnType = (some .int)) (hE : VE B (z, Gf))  (this : Nat) (p1 : Int32) (G : GH) (hf : (f_X5_begins this p1).1 G = some (z, Gf)) : V X RX5 cX5_begins 4 1 23 wsX5_begins B (QE X (vI z) Gf B) G 0 [(0, .ref this), (1, .int p1)] [] := by
  unfold f_X5_begins at hf
  refine v_aload_n 0 dX5_begins_0 rfl rfl ?_
  refine v_gr 5 0 n_X5_begins_X5 rfl (by decide) rfl m_X5_begins_f7 dX5_begins_1 hf (fun r1 hf => ?_)
  refine v_iconst 2 dX5_begins_4 (by decide) ?_
  refine v_iald dX5_begins_5 hf (fun x2 hf => ?_)
  refine v_istore_n [(2, .int x2), (0, .ref this), (1, .int p1)] dX5_begins_6 rfl (by decide) rfl ?_
  refine v_iconst 0 dX5_begins_7 (by decide) ?_
  refine v_istore_n [(3, .int 0), (2, .int x2), (0, .ref this), (1, .int p1)] dX5_begins_8 rfl (by decide) rfl ?_
  refine v_sub [2, 3, 1, 0] rfl ?_
  exact e_X5_begins_9 hfx hn hr hE FU this p1 x2 0 G hf
theorem c_X5_begins (l : Launch) (hfl : l.stackTraces = false) (this : Nat) (p1 : Int32) : CM l yX5_begins wsX5_begins 1 23 [.ref this, .int p1] vI (f_X5_begins this p1) := CM.start hfl RX5 rfl (by decide +kernel) rfl (Nat.le_of_ble_eq_true rfl) (fun X G z Gf hl hn hr hf => e_X5_begins_0 (by rw [hl]; exact hfl) hn hr ⟨rfl, rfl⟩ this p1 G hf)
theorem dv_X5_begins : yX5_begins.cls = RX5 ∧ yX5_begins.cls ≠ "java/lang/invoke/MethodHandle" ∧ yX5_begins.cls ≠ "java/lang/invoke/VarHandle" ∧ (parseMethodDescriptor yX5_begins.desc).map (fun d => d.parameters.length) = some 1 := by decide +kernel
set_option maxRecDepth 100000 in
set_option maxHeartbeats 4000000 in
theorem e_X5_opens_45 {X : VX} {B : VB} {z : Unit} {Gf : GH}  (hfx : (xl X).stackTraces = false) (hn : (xme X).name = "opens") (hr : (xme X).sig.returnType = none) (hE : VE B (z, Gf))  (this : Nat) (p1 : Int32) (s0 : Int32) (s1 : Int32) (s2 : Nat) (s3 : Int32) (G : GH) (hf : (f_X5_opens_45 this p1 s0 s1 s2 s3).1 G = some (z, Gf)) : V X RX5 cX5_opens 4 2 44 wsX5_opens B (QE X (vV z) Gf B) G 45 [(0, .ref this), (1, .int p1)] [.int s0, .int s1, .ref s2, .int s3] := by
  unfold f_X5_opens_45 at hf
  refine v_callVi 5 2 [.int s1, .int s0] (c_X5_partOf (xl X) hfx s2 s1 s0) gX5_opens_X5_partOf rfl dv_X5_partOf (by decide) (by decide) rfl rfl dX5_opens_45 (Nat.le_of_ble_eq_true rfl) rfl hE hf (fun x3 G hf => ?_)
  refine v_iconst 1 dX5_opens_48 (by decide) ?_
  refine v_isub dX5_opens_49 ?_
  refine v_goto 54 dX5_opens_50 (by decide) ?_
  refine v_iadd dX5_opens_54 ?_
  refine v_istore_n [(3, .int (s3 + (x3 - 1))), (0, .ref this), (1, .int p1)] dX5_opens_55 rfl (by decide) rfl ?_
  refine v_aload_n 1 dX5_opens_56 rfl rfl ?_
  refine v_iload_n 2 dX5_opens_57 rfl rfl ?_
  refine v_bipush 6 dX5_opens_58 (by decide) ?_
  refine v_iload_n 0 dX5_opens_60 rfl rfl ?_
  refine v_callVv 5 3 [.int p1, .int 6, .int (s3 + (x3 - 1))] (c_X5_lays (xl X) hfx this p1 6 (s3 + (x3 - 1))) gX5_opens_X5_lays rfl dv_X5_lays (by decide) (by decide) rfl rfl dX5_opens_61 (Nat.le_of_ble_eq_true rfl) rfl hE hf (fun _ G hf => ?_)
  refine v_aload_n 1 dX5_opens_64 rfl rfl ?_
  refine v_iload_n 2 dX5_opens_65 rfl rfl ?_
  refine v_iconst 5 dX5_opens_66 (by decide) ?_
  refine v_iload_n 0 dX5_opens_67 rfl rfl ?_
  refine v_callVv 5 3 [.int p1, .int 5, .int (s3 + (x3 - 1))] (c_X5_lays (xl X) hfx this p1 5 (s3 + (x3 - 1))) gX5_opens_X5_lays rfl dv_X5_lays (by decide) (by decide) rfl rfl dX5_opens_68 (Nat.le_of_ble_eq_true rfl) rfl hE hf (fun _ G hf => ?_)
  exact v_vret hr dX5_opens_71 hE hf
set_option maxRecDepth 100000 in
set_option maxHeartbeats 4000000 in
theorem e_X5_opens_24 {X : VX} {B : VB} {z : Unit} {Gf : GH}  (hfx : (xl X).stackTraces = false) (hn : (xme X).name = "opens") (hr : (xme X).sig.returnType = none) (hE : VE B (z, Gf))  (this : Nat) (p1 : Int32) (p2 : Int32) (l3 : Int32) (G : GH) (hf : (f_X5_opens_24 this p1 p2 l3).1 G = some (z, Gf)) : V X RX5 cX5_opens 4 2 44 wsX5_opens B (QE X (vV z) Gf B) G 24 [(0, .ref this), (1, .int p1), (2, .int p2), (3, .int l3)] [] := by
  unfold f_X5_opens_24 at hf
  refine v_iload_n 3 dX5_opens_24 rfl rfl ?_
  refine v_aload_n 0 dX5_opens_25 rfl rfl ?_
  refine v_iload_n 1 dX5_opens_26 rfl rfl ?_
  refine v_iload_n 2 dX5_opens_27 rfl rfl ?_
  refine v_callVi 5 2 [.int p1, .int p2] (c_X5_partOf (xl X) hfx this p1 p2) gX5_opens_X5_partOf rfl dv_X5_partOf (by decide) (by decide) rfl rfl dX5_opens_28 (Nat.le_of_ble_eq_true rfl) rfl hE hf (fun x2 G hf => ?_)
  refine v_if_ne 53 dX5_opens_31 (by decide) hf (fun _ hf => ?_) (fun _ hf => ?_)
  · refine v_iconst 0 dX5_opens_53 (by decide) ?_
    refine v_iadd dX5_opens_54 ?_
    refine v_istore_n [(3, .int (l3 + 0)), (0, .ref this), (1, .int p1), (2, .int p2)] dX5_opens_55 rfl (by decide) rfl ?_
    refine v_aload_n 1 dX5_opens_56 rfl rfl ?_
    refine v_iload_n 2 dX5_opens_57 rfl rfl ?_
    refine v_bipush 6 dX5_opens_58 (by decide) ?_
    refine v_iload_n 0 dX5_opens_60 rfl rfl ?_
    refine v_callVv 5 3 [.int p1, .int 6, .int (l3 + 0)] (c_X5_lays (xl X) hfx this p1 6 (l3 + 0)) gX5_opens_X5_lays rfl dv_X5_lays (by decide) (by decide) rfl rfl dX5_opens_61 (Nat.le_of_ble_eq_true rfl) rfl hE hf (fun _ G hf => ?_)
    refine v_aload_n 1 dX5_opens_64 rfl rfl ?_
    refine v_iload_n 2 dX5_opens_65 rfl rfl ?_
    refine v_iconst 5 dX5_opens_66 (by decide) ?_
    refine v_iload_n 0 dX5_opens_67 rfl rfl ?_
    refine v_callVv 5 3 [.int p1, .int 5, .int (l3 + 0)] (c_X5_lays (xl X) hfx this p1 5 (l3 + 0)) gX5_opens_X5_lays rfl dv_X5_lays (by decide) (by decide) rfl rfl dX5_opens_68 (Nat.le_of_ble_eq_true rfl) rfl hE hf (fun _ G hf => ?_)
    exact v_vret hr dX5_opens_71 hE hf
  · refine v_aload_n 0 dX5_opens_34 rfl rfl ?_
    refine v_iload_n 1 dX5_opens_35 rfl rfl ?_
    refine v_iload_n 2 dX5_opens_36 rfl rfl ?_
    refine v_if_ne 44 dX5_opens_37 (by decide) hf (fun _ hf => ?_) (fun _ hf => ?_)
    · refine v_iconst 0 dX5_opens_44 (by decide) ?_
      refine v_sub [0, 1] rfl ?_
      exact e_X5_opens_45 hfx hn hr hE this p1 0 p1 this l3 G hf
    · refine v_iconst 1 dX5_opens_40 (by decide) ?_
      refine v_goto 45 dX5_opens_41 (by decide) ?_
      refine v_sub [0, 1] rfl ?_
      exact e_X5_opens_45 hfx hn hr hE this p1 1 p1 this l3 G hf
set_option maxRecDepth 100000 in
set_option maxHeartbeats 4000000 in
theorem e_X5_opens_0 {X : VX} {B : VB} {z : Unit} {Gf : GH}  (hfx : (xl X).stackTraces = false) (hn : (xme X).name = "opens") (hr : (xme X).sig.returnType = none) (hE : VE B (z, Gf))  (this : Nat) (p1 : Int32) (p2 : Int32) (G : GH) (hf : (f_X5_opens this p1 p2).1 G = some (z, Gf)) : V X RX5 cX5_opens 4 2 44 wsX5_opens B (QE X (vV z) Gf B) G 0 [(0, .ref this), (1, .int p1), (2, .int p2)] [] := by
  unfold f_X5_opens at hf
  refine v_iconst 0 dX5_opens_0 (by decide) ?_
  refine v_istore_n [(3, .int 0), (0, .ref this), (1, .int p1), (2, .int p2)] dX5_opens_1 rfl (by decide) rfl ?_
  refine v_aload_n 1 dX5_opens_2 rfl rfl ?_
  refine v_iload_n 2 dX5_opens_3 rfl rfl ?_
  refine v_iconst 4 dX5_opens_4 (by decide) ?_
  refine v_callVi 5 2 [.int p1, .int 4] (c_X5_of (xl X) hfx this p1 4) gX5_opens_X5_of rfl dv_X5_of (by decide) (by decide) rfl rfl dX5_opens_5 (Nat.le_of_ble_eq_true rfl) rfl hE hf (fun x1 G hf => ?_)
  refine v_iconst (-1) dX5_opens_8 (by decide) ?_
  refine v_icmp_eq 24 dX5_opens_9 (by decide) hf (fun _ hf => ?_) (fun _ hf => ?_)
  · refine v_sub [1, 2, 3, 0] rfl ?_
    exact e_X5_opens_24 hfx hn hr hE this p1 p2 0 G hf
  · refine v_aload_n 1 dX5_opens_12 rfl rfl ?_
    refine v_iload_n 2 dX5_opens_13 rfl rfl ?_
    refine v_iconst 3 dX5_opens_14 (by decide) ?_
    refine v_callVi 5 2 [.int p1, .int 3] (c_X5_of (xl X) hfx this p1 3) gX5_opens_X5_of rfl dv_X5_of (by decide) (by decide) rfl rfl dX5_opens_15 (Nat.le_of_ble_eq_true rfl) rfl hE hf (fun x4 G hf => ?_)
    refine v_istore_n [(3, .int x4), (0, .ref this), (1, .int p1), (2, .int p2)] dX5_opens_18 rfl (by decide) rfl ?_
    refine v_aload_n 1 dX5_opens_19 rfl rfl ?_
    refine v_iload_n 2 dX5_opens_20 rfl rfl ?_
    refine v_callVv 5 1 [.int p1] (c_X5_isOver (xl X) hfx this p1) gX5_opens_X5_isOver rfl dv_X5_isOver (by decide) (by decide) rfl rfl dX5_opens_21 (Nat.le_of_ble_eq_true rfl) rfl hE hf (fun _ G hf => ?_)
    refine v_sub [1, 2, 3, 0] rfl ?_
    exact e_X5_opens_24 hfx hn hr hE this p1 p2 x4 G hf
theorem c_X5_opens (l : Launch) (hfl : l.stackTraces = false) (this : Nat) (p1 : Int32) (p2 : Int32) : CM l yX5_opens wsX5_opens 2 44 [.ref this, .int p1, .int p2] vV (f_X5_opens this p1 p2) := CM.start hfl RX5 rfl (by decide +kernel) rfl (Nat.le_of_ble_eq_true rfl) (fun X G z Gf hl hn hr hf => e_X5_opens_0 (by rw [hl]; exact hfl) hn hr ⟨rfl, rfl⟩ this p1 p2 G hf)
theorem dv_X5_opens : yX5_opens.cls = RX5 ∧ yX5_opens.cls ≠ "java/lang/invoke/MethodHandle" ∧ yX5_opens.cls ≠ "java/lang/invoke/VarHandle" ∧ (parseMethodDescriptor yX5_opens.desc).map (fun d => d.parameters.length) = some 2 := by decide +kernel
set_option maxRecDepth 100000 in
set_option maxHeartbeats 4000000 in
theorem e_X5_changes_97 {X : VX} {B : VB} {z : Unit} {Gf : GH}  (hfx : (xl X).stackTraces = false) (hn : (xme X).name = "changes") (hr : (xme X).sig.returnType = none) (hE : VE B (z, Gf))  (this : Nat) (p1 : Int32) (s0 : Int32) (G : GH) (hf : (f_X5_changes_97 this p1 s0).1 G = some (z, Gf)) : V X RX5 cX5_changes 6 2 44 wsX5_changes B (QE X (vV z) Gf B) G 97 [(0, .ref this), (1, .int p1)] [.int s0] := by
  unfold f_X5_changes_97 at hf
  refine v_istore [(5, .int s0), (0, .ref this), (1, .int p1)] dX5_changes_97 (by decide) rfl ?_
  refine v_aload_n 1 dX5_changes_99 rfl rfl ?_
  refine v_iload_n 2 dX5_changes_100 rfl rfl ?_
  refine v_iconst 4 dX5_changes_101 (by decide) ?_
  refine v_iload 0 dX5_changes_102 rfl ?_
  refine v_aload_n 1 dX5_changes_104 rfl rfl ?_
  refine v_iload_n 2 dX5_changes_105 rfl rfl ?_
  refine v_iconst 1 dX5_changes_106 (by decide) ?_
  refine v_callVi 5 2 [.int p1, .int 1] (c_X5_of (xl X) hfx this p1 1) gX5_changes_X5_of rfl dv_X5_of (by decide) (by decide) rfl rfl dX5_changes_107 (Nat.le_of_ble_eq_true rfl) rfl hE hf (fun x3 G hf => ?_)
  refine v_icmp_le 122 dX5_changes_110 (by decide) hf (fun _ hf => ?_) (fun _ hf => ?_)
  · refine v_iload 0 dX5_changes_122 rfl ?_
    refine v_callVv 5 3 [.int p1, .int 4, .int s0] (c_X5_lays (xl X) hfx this p1 4 s0) gX5_changes_X5_lays rfl dv_X5_lays (by decide) (by decide) rfl rfl dX5_changes_124 (Nat.le_of_ble_eq_true rfl) rfl hE hf (fun _ G hf => ?_)
    exact v_vret hr dX5_changes_127 hE hf
  · refine v_aload_n 1 dX5_changes_113 rfl rfl ?_
    refine v_iload_n 2 dX5_changes_114 rfl rfl ?_
    refine v_iconst 1 dX5_changes_115 (by decide) ?_
    refine v_callVi 5 2 [.int p1, .int 1] (c_X5_of (xl X) hfx this p1 1) gX5_changes_X5_of rfl dv_X5_of (by decide) (by decide) rfl rfl dX5_changes_116 (Nat.le_of_ble_eq_true rfl) rfl hE hf (fun x4 G hf => ?_)
    refine v_goto 124 dX5_changes_119 (by decide) ?_
    refine v_callVv 5 3 [.int p1, .int 4, .int x4] (c_X5_lays (xl X) hfx this p1 4 x4) gX5_changes_X5_lays rfl dv_X5_lays (by decide) (by decide) rfl rfl dX5_changes_124 (Nat.le_of_ble_eq_true rfl) rfl hE hf (fun _ G hf => ?_)
    exact v_vret hr dX5_changes_127 hE hf
set_option maxRecDepth 100000 in
set_option maxHeartbeats 4000000 in
theorem e_X5_changes_83 {X : VX} {B : VB} {z : Unit} {Gf : GH}  (hfx : (xl X).stackTraces = false) (hn : (xme X).name = "changes") (hr : (xme X).sig.returnType = none) (hE : VE B (z, Gf))  (this : Nat) (p1 : Int32) (s0 : Int32) (s1 : Int32) (G : GH) (hf : (f_X5_changes_83 this p1 s0 s1).1 G = some (z, Gf)) : V X RX5 cX5_changes 6 2 44 wsX5_changes B (QE X (vV z) Gf B) G 83 [(0, .ref this), (1, .int p1)] [.int s0, .int s1] := by
  unfold f_X5_changes_83 at hf
  refine v_iadd dX5_changes_83 ?_
  refine v_istore [(5, .int (s1 + s0)), (0, .ref this), (1, .int p1)] dX5_changes_84 (by decide) rfl ?_
  refine v_iload 0 dX5_changes_86 rfl ?_
  refine v_if_ge 95 dX5_changes_88 (by decide) hf (fun _ hf => ?_) (fun _ hf => ?_)
  · refine v_iload 0 dX5_changes_95 rfl ?_
    refine v_sub [1, 2] rfl ?_
    exact e_X5_changes_97 hfx hn hr hE this p1 (s1 + s0) G hf
  · refine v_iconst 0 dX5_changes_91 (by decide) ?_
    refine v_goto 97 dX5_changes_92 (by decide) ?_
    refine v_sub [1, 2] rfl ?_
    exact e_X5_changes_97 hfx hn hr hE this p1 0 G hf
set_option maxRecDepth 100000 in
set_option maxHeartbeats 4000000 in
theorem e_X5_changes_48 {X : VX} {B : VB} {z : Unit} {Gf : GH}  (hfx : (xl X).stackTraces = false) (hn : (xme X).name = "changes") (hr : (xme X).sig.returnType = none) (hE : VE B (z, Gf))  (this : Nat) (p1 : Int32) (p2 : Int32) (p3 : Int32) (s0 : Int32) (s1 : Int32) (s2 : Int32) (s3 : Nat) (G : GH) (hf : (f_X5_changes_48 this p1 p2 p3 s0 s1 s2 s3).1 G = some (z, Gf)) : V X RX5 cX5_changes 6 2 44 wsX5_changes B (QE X (vV z) Gf B) G 48 [(0, .ref this), (1, .int p1), (2, .int p2), (3, .int p3)] [.int s0, .int s1, .int s2, .ref s3] := by
  unfold f_X5_changes_48 at hf
  refine v_callVv 5 3 [.int s2, .int s1, .int s0] (c_X5_adds (xl X) hfx s3 s2 s1 s0) gX5_changes_X5_adds rfl dv_X5_adds (by decide) (by decide) rfl rfl dX5_changes_48 (Nat.le_of_ble_eq_true rfl) rfl hE hf (fun _ G hf => ?_)
  refine v_aload_n 0 dX5_changes_51 rfl rfl ?_
  refine v_iload_n 1 dX5_changes_52 rfl rfl ?_
  refine v_iconst 5 dX5_changes_53 (by decide) ?_
  refine v_iconst 1 dX5_changes_54 (by decide) ?_
  refine v_callVv 5 3 [.int p1, .int 5, .int 1] (c_X5_adds (xl X) hfx this p1 5 1) gX5_changes_X5_adds rfl dv_X5_adds (by decide) (by decide) rfl rfl dX5_changes_55 (Nat.le_of_ble_eq_true rfl) rfl hE hf (fun _ G hf => ?_)
  refine v_aload_n 0 dX5_changes_58 rfl rfl ?_
  refine v_iload_n 1 dX5_changes_59 rfl rfl ?_
  refine v_iconst 4 dX5_changes_60 (by decide) ?_
  refine v_callVi 5 2 [.int p1, .int 4] (c_X5_of (xl X) hfx this p1 4) gX5_changes_X5_of rfl dv_X5_of (by decide) (by decide) rfl rfl dX5_changes_61 (Nat.le_of_ble_eq_true rfl) rfl hE hf (fun x1 G hf => ?_)
  refine v_iconst (-1) dX5_changes_64 (by decide) ?_
  refine v_icmp_eq 127 dX5_changes_65 (by decide) hf (fun _ hf => ?_) (fun _ hf => ?_)
  · exact v_vret hr dX5_changes_127 hE hf
  · refine v_aload_n 0 dX5_changes_68 rfl rfl ?_
    refine v_iload_n 1 dX5_changes_69 rfl rfl ?_
    refine v_iconst 4 dX5_changes_70 (by decide) ?_
    refine v_callVi 5 2 [.int p1, .int 4] (c_X5_of (xl X) hfx this p1 4) gX5_changes_X5_of rfl dv_X5_of (by decide) (by decide) rfl rfl dX5_changes_71 (Nat.le_of_ble_eq_true rfl) rfl hE hf (fun x2 G hf => ?_)
    refine v_iload_n 2 dX5_changes_74 rfl rfl ?_
    refine v_if_eq 82 dX5_changes_75 (by decide) hf (fun _ hf => ?_) (fun _ hf => ?_)
    · refine v_iconst 0 dX5_changes_82 (by decide) ?_
      refine v_sub [0, 1] rfl ?_
      exact e_X5_changes_83 hfx hn hr hE this p1 0 x2 G hf
    · refine v_iload_n 3 dX5_changes_78 rfl rfl ?_
      refine v_goto 83 dX5_changes_79 (by decide) ?_
      refine v_sub [0, 1] rfl ?_
      exact e_X5_changes_83 hfx hn hr hE this p1 p3 x2 G hf
set_option maxRecDepth 100000 in
set_option maxHeartbeats 4000000 in
theorem e_X5_changes_26 {X : VX} {B : VB} {z : Unit} {Gf : GH}  (hfx : (xl X).stackTraces = false) (hn : (xme X).name = "changes") (hr : (xme X).sig.returnType = none) (hE : VE B (z, Gf))  (this : Nat) (p1 : Int32) (p2 : Int32) (p3 : Int32) (s0 : Int32) (G : GH) (hf : (f_X5_changes_26 this p1 p2 p3 s0).1 G = some (z, Gf)) : V X RX5 cX5_changes 6 2 44 wsX5_changes B (QE X (vV z) Gf B) G 26 [(0, .ref this), (1, .int p1), (2, .int p2), (3, .int p3)] [.int s0] := by
  unfold f_X5_changes_26 at hf
  refine v_istore [(4, .int s0), (0, .ref this), (1, .int p1), (2, .int p2), (3, .int p3)] dX5_changes_26 (by decide) rfl ?_
  refine v_aload_n 1 dX5_changes_28 rfl rfl ?_
  refine v_iload_n 2 dX5_changes_29 rfl rfl ?_
  refine v_iconst 1 dX5_changes_30 (by decide) ?_
  refine v_iload_n 4 dX5_changes_31 rfl rfl ?_
  refine v_callVv 5 3 [.int p1, .int 1, .int p3] (c_X5_adds (xl X) hfx this p1 1 p3) gX5_changes_X5_adds rfl dv_X5_adds (by decide) (by decide) rfl rfl dX5_changes_32 (Nat.le_of_ble_eq_true rfl) rfl hE hf (fun _ G hf => ?_)
  refine v_aload_n 1 dX5_changes_35 rfl rfl ?_
  refine v_iload_n 2 dX5_changes_36 rfl rfl ?_
  refine v_iconst 2 dX5_changes_37 (by decide) ?_
  refine v_iload 0 dX5_changes_38 rfl ?_
  refine v_if_eq 47 dX5_changes_40 (by decide) hf (fun _ hf => ?_) (fun _ hf => ?_)
  · refine v_iconst 0 dX5_changes_47 (by decide) ?_
    refine v_sub [1, 2, 3, 4] rfl ?_
    exact e_X5_changes_48 hfx hn hr hE this p1 p2 p3 0 2 p1 this G hf
  · refine v_iload_n 4 dX5_changes_43 rfl rfl ?_
    refine v_goto 48 dX5_changes_44 (by decide) ?_
    refine v_sub [1, 2, 3, 4] rfl ?_
    exact e_X5_changes_48 hfx hn hr hE this p1 p2 p3 p3 2 p1 this G hf
set_option maxRecDepth 100000 in
set_option maxHeartbeats 4000000 in
theorem e_X5_changes_13 {X : VX} {B : VB} {z : Unit} {Gf : GH}  (hfx : (xl X).stackTraces = false) (hn : (xme X).name = "changes") (hr : (xme X).sig.returnType = none) (hE : VE B (z, Gf))  (this : Nat) (p1 : Int32) (p2 : Int32) (p3 : Int32) (G : GH) (hf : (f_X5_changes_13 this p1 p2 p3).1 G = some (z, Gf)) : V X RX5 cX5_changes 6 2 44 wsX5_changes B (QE X (vV z) Gf B) G 13 [(0, .ref this), (1, .int p1), (2, .int p2), (3, .int p3)] [] := by
  unfold f_X5_changes_13 at hf
  refine v_iload_n 2 dX5_changes_13 rfl rfl ?_
  refine v_goto 26 dX5_changes_14 (by decide) ?_
  refine v_sub [0, 1, 2, 3] rfl ?_
  exact e_X5_changes_26 hfx hn hr hE this p1 p2 p3 p2 G hf
set_option maxRecDepth 100000 in
set_option maxHeartbeats 4000000 in
theorem e_X5_changes_0 {X : VX} {B : VB} {z : Unit} {Gf : GH}  (hfx : (xl X).stackTraces = false) (hn : (xme X).name = "changes") (hr : (xme X).sig.returnType = none) (hE : VE B (z, Gf))  (this : Nat) (p1 : Int32) (p2 : Int32) (p3 : Int32) (G : GH) (hf : (f_X5_changes this p1 p2 p3).1 G = some (z, Gf)) : V X RX5 cX5_changes 6 2 44 wsX5_changes B (QE X (vV z) Gf B) G 0 [(0, .ref this), (1, .int p1), (2, .int p2), (3, .int p3)] [] := by
  unfold f_X5_changes at hf
  refine v_iload_n 3 dX5_changes_0 rfl rfl ?_
  refine v_if_gt 13 dX5_changes_1 (by decide) hf (fun _ hf => ?_) (fun _ hf => ?_)
  · refine v_sub [0, 1, 2, 3] rfl ?_
    exact e_X5_changes_13 hfx hn hr hE this p1 p2 p3 G hf
  · refine v_aload_n 0 dX5_changes_4 rfl rfl ?_
    refine v_iload_n 1 dX5_changes_5 rfl rfl ?_
    refine v_iload_n 2 dX5_changes_6 rfl rfl ?_
    refine v_callVi 5 2 [.int p1, .int p2] (c_X5_partOf (xl X) hfx this p1 p2) gX5_changes_X5_partOf rfl dv_X5_partOf (by decide) (by decide) rfl rfl dX5_changes_7 (Nat.le_of_ble_eq_true rfl) rfl hE hf (fun x5 G hf => ?_)
    refine v_if_le 17 dX5_changes_10 (by decide) hf (fun _ hf => ?_) (fun _ hf => ?_)
    · refine v_iload_n 2 dX5_changes_17 rfl rfl ?_
      refine v_if_ne 25 dX5_changes_18 (by decide) hf (fun _ hf => ?_) (fun _ hf => ?_)
      · refine v_iconst 0 dX5_changes_25 (by decide) ?_
        refine v_sub [0, 1, 2, 3] rfl ?_
        exact e_X5_changes_26 hfx hn hr hE this p1 p2 p3 0 G hf
      · refine v_iconst 1 dX5_changes_21 (by decide) ?_
        refine v_goto 26 dX5_changes_22 (by decide) ?_
        refine v_sub [0, 1, 2, 3] rfl ?_
        exact e_X5_changes_26 hfx hn hr hE this p1 p2 p3 1 G hf
    · refine v_sub [0, 1, 2, 3] rfl ?_
      exact e_X5_changes_13 hfx hn hr hE this p1 p2 p3 G hf
theorem c_X5_changes (l : Launch) (hfl : l.stackTraces = false) (this : Nat) (p1 : Int32) (p2 : Int32) (p3 : Int32) : CM l yX5_changes wsX5_changes 2 44 [.ref this, .int p1, .int p2, .int p3] vV (f_X5_changes this p1 p2 p3) := CM.start hfl RX5 rfl (by decide +kernel) rfl (Nat.le_of_ble_eq_true rfl) (fun X G z Gf hl hn hr hf => e_X5_changes_0 (by rw [hl]; exact hfl) hn hr ⟨rfl, rfl⟩ this p1 p2 p3 G hf)
theorem dv_X5_changes : yX5_changes.cls = RX5 ∧ yX5_changes.cls ≠ "java/lang/invoke/MethodHandle" ∧ yX5_changes.cls ≠ "java/lang/invoke/VarHandle" ∧ (parseMethodDescriptor yX5_changes.desc).map (fun d => d.parameters.length) = some 3 := by decide +kernel
theorem m_X5_pays_f7 : Cond.fieldLink RX5 7 RX5 "now" "[I" ∈ wsX5_pays := by decide +kernel
theorem n_X5_pays_X5 : ∀ w ∈ u_ws RX5 TX5 16, w ∈ wsX5_pays := by decide +kernel
set_option maxRecDepth 100000 in
set_option maxHeartbeats 4000000 in
theorem e_X5_pays_106 {X : VX} {B : VB} {z : Unit} {Gf : GH}  (hfx : (xl X).stackTraces = false) (hn : (xme X).name = "pays") (hr : (xme X).sig.returnType = none) (hE : VE B (z, Gf))  (this : Nat) (p1 : Int32) (l4 : Int32) (s0 : Int32) (G : GH) (hf : (f_X5_pays_106 this p1 l4 s0).1 G = some (z, Gf)) : V X RX5 cX5_pays 6 2 44 wsX5_pays B (QE X (vV z) Gf B) G 106 [(0, .ref this), (1, .int p1), (4, .int l4)] [.int s0] := by
  unfold f_X5_pays_106 at hf
  refine v_istore [(5, .int s0), (0, .ref this), (1, .int p1), (4, .int l4)] dX5_pays_106 (by decide) rfl ?_
  refine v_aload_n 1 dX5_pays_108 rfl rfl ?_
  refine v_iload_n 2 dX5_pays_109 rfl rfl ?_
  refine v_iconst 4 dX5_pays_110 (by decide) ?_
  refine v_callVi 5 2 [.int p1, .int 4] (c_X5_of (xl X) hfx this p1 4) gX5_pays_X5_of rfl dv_X5_of (by decide) (by decide) rfl rfl dX5_pays_111 (Nat.le_of_ble_eq_true rfl) rfl hE hf (fun x4 G hf => ?_)
  refine v_iconst (-1) dX5_pays_114 (by decide) ?_
  refine v_icmp_ne 161 dX5_pays_115 (by decide) hf (fun _ hf => ?_) (fun _ hf => ?_)
  · exact v_vret hr dX5_pays_161 hE hf
  · refine v_iload 3 dX5_pays_118 rfl ?_
    refine v_aload_n 1 dX5_pays_120 rfl rfl ?_
    refine v_gr 5 0 n_X5_pays_X5 rfl (by decide) rfl m_X5_pays_f7 dX5_pays_121 hf (fun r5 hf => ?_)
    refine v_iconst 1 dX5_pays_124 (by decide) ?_
    refine v_iald dX5_pays_125 hf (fun x6 hf => ?_)
    refine v_iload 0 dX5_pays_126 rfl ?_
    refine v_imul dX5_pays_128 ?_
    refine v_iconst 1 dX5_pays_129 (by decide) ?_
    refine v_iadd dX5_pays_130 ?_
    refine v_icmp_le 161 dX5_pays_131 (by decide) hf (fun _ hf => ?_) (fun _ hf => ?_)
    · exact v_vret hr dX5_pays_161 hE hf
    · refine v_aload_n 1 dX5_pays_134 rfl rfl ?_
      refine v_iload_n 2 dX5_pays_135 rfl rfl ?_
      refine v_iconst 3 dX5_pays_136 (by decide) ?_
      refine v_aload_n 1 dX5_pays_137 rfl rfl ?_
      refine v_iload_n 2 dX5_pays_138 rfl rfl ?_
      refine v_iconst 1 dX5_pays_139 (by decide) ?_
      refine v_callVi 5 2 [.int p1, .int 1] (c_X5_of (xl X) hfx this p1 1) gX5_pays_X5_of rfl dv_X5_of (by decide) (by decide) rfl rfl dX5_pays_140 (Nat.le_of_ble_eq_true rfl) rfl hE hf (fun x7 G hf => ?_)
      refine v_callVv 5 3 [.int p1, .int 3, .int x7] (c_X5_lays (xl X) hfx this p1 3 x7) gX5_pays_X5_lays rfl dv_X5_lays (by decide) (by decide) rfl rfl dX5_pays_143 (Nat.le_of_ble_eq_true rfl) rfl hE hf (fun _ G hf => ?_)
      refine v_aload_n 1 dX5_pays_146 rfl rfl ?_
      refine v_iload_n 2 dX5_pays_147 rfl rfl ?_
      refine v_iconst 4 dX5_pays_148 (by decide) ?_
      refine v_aload_n 1 dX5_pays_149 rfl rfl ?_
      refine v_iload_n 2 dX5_pays_150 rfl rfl ?_
      refine v_iconst 1 dX5_pays_151 (by decide) ?_
      refine v_callVi 5 2 [.int p1, .int 1] (c_X5_of (xl X) hfx this p1 1) gX5_pays_X5_of rfl dv_X5_of (by decide) (by decide) rfl rfl dX5_pays_152 (Nat.le_of_ble_eq_true rfl) rfl hE hf (fun x8 G hf => ?_)
      refine v_callSi 1 [.int x8] (c_X5_half (xl X) hfx x8) gX5_pays_X5_half rfl dn_X5_half (by decide) (by decide) rfl dX5_pays_155 (Nat.le_of_ble_eq_true rfl) rfl hE hf (fun x9 G hf => ?_)
      refine v_callVv 5 3 [.int p1, .int 4, .int x9] (c_X5_lays (xl X) hfx this p1 4 x9) gX5_pays_X5_lays rfl dv_X5_lays (by decide) (by decide) rfl rfl dX5_pays_158 (Nat.le_of_ble_eq_true rfl) rfl hE hf (fun _ G hf => ?_)
      exact v_vret hr dX5_pays_161 hE hf
set_option maxRecDepth 100000 in
set_option maxHeartbeats 4000000 in
theorem e_X5_pays_94 {X : VX} {B : VB} {z : Unit} {Gf : GH}  (hfx : (xl X).stackTraces = false) (hn : (xme X).name = "pays") (hr : (xme X).sig.returnType = none) (hE : VE B (z, Gf))  (this : Nat) (p1 : Int32) (l2 : Int32) (l3 : Int32) (s0 : Int32) (G : GH) (hf : (f_X5_pays_94 this p1 l2 l3 s0).1 G = some (z, Gf)) : V X RX5 cX5_pays 6 2 44 wsX5_pays B (QE X (vV z) Gf B) G 94 [(0, .ref this), (1, .int p1), (2, .int l2), (3, .int l3)] [.int s0] := by
  unfold f_X5_pays_94 at hf
  refine v_istore [(4, .int s0), (0, .ref this), (1, .int p1), (2, .int l2), (3, .int l3)] dX5_pays_94 (by decide) rfl ?_
  refine v_iload_n 3 dX5_pays_96 rfl rfl ?_
  refine v_iload_n 4 dX5_pays_97 rfl rfl ?_
  refine v_icmp_le 105 dX5_pays_98 (by decide) hf (fun _ hf => ?_) (fun _ hf => ?_)
  · refine v_iload_n 3 dX5_pays_105 rfl rfl ?_
    refine v_sub [1, 2, 0] rfl ?_
    exact e_X5_pays_106 hfx hn hr hE this p1 s0 l2 G hf
  · refine v_iload_n 4 dX5_pays_101 rfl rfl ?_
    refine v_goto 106 dX5_pays_102 (by decide) ?_
    refine v_sub [1, 2, 0] rfl ?_
    exact e_X5_pays_106 hfx hn hr hE this p1 s0 l3 G hf
set_option maxRecDepth 100000 in
set_option maxHeartbeats 4000000 in
theorem e_X5_pays_70 {X : VX} {B : VB} {z : Unit} {Gf : GH}  (hfx : (xl X).stackTraces = false) (hn : (xme X).name = "pays") (hr : (xme X).sig.returnType = none) (hE : VE B (z, Gf))  (this : Nat) (p1 : Int32) (G : GH) (hf : (f_X5_pays_70 this p1).1 G = some (z, Gf)) : V X RX5 cX5_pays 6 2 44 wsX5_pays B (QE X (vV z) Gf B) G 70 [(0, .ref this), (1, .int p1)] [] := by
  unfold f_X5_pays_70 at hf
  refine v_aload_n 0 dX5_pays_70 rfl rfl ?_
  refine v_iload_n 1 dX5_pays_71 rfl rfl ?_
  refine v_iconst 1 dX5_pays_72 (by decide) ?_
  refine v_callVi 5 2 [.int p1, .int 1] (c_X5_partOf (xl X) hfx this p1 1) gX5_pays_X5_partOf rfl dv_X5_partOf (by decide) (by decide) rfl rfl dX5_pays_73 (Nat.le_of_ble_eq_true rfl) rfl hE hf (fun x2 G hf => ?_)
  refine v_istore_n [(2, .int x2), (0, .ref this), (1, .int p1)] dX5_pays_76 rfl (by decide) rfl ?_
  refine v_aload_n 1 dX5_pays_77 rfl rfl ?_
  refine v_iload_n 2 dX5_pays_78 rfl rfl ?_
  refine v_iconst 0 dX5_pays_79 (by decide) ?_
  refine v_callVi 5 2 [.int p1, .int 0] (c_X5_partOf (xl X) hfx this p1 0) gX5_pays_X5_partOf rfl dv_X5_partOf (by decide) (by decide) rfl rfl dX5_pays_80 (Nat.le_of_ble_eq_true rfl) rfl hE hf (fun x3 G hf => ?_)
  refine v_istore_n [(3, .int x3), (2, .int x2), (0, .ref this), (1, .int p1)] dX5_pays_83 rfl (by decide) rfl ?_
  refine v_iload_n 1 dX5_pays_84 rfl rfl ?_
  refine v_iload_n 0 dX5_pays_85 rfl rfl ?_
  refine v_icmp_le 93 dX5_pays_86 (by decide) hf (fun _ hf => ?_) (fun _ hf => ?_)
  · refine v_iload_n 0 dX5_pays_93 rfl rfl ?_
    refine v_sub [2, 3, 1, 0] rfl ?_
    exact e_X5_pays_94 hfx hn hr hE this p1 x2 x3 x3 G hf
  · refine v_iload_n 1 dX5_pays_89 rfl rfl ?_
    refine v_goto 94 dX5_pays_90 (by decide) ?_
    refine v_sub [2, 3, 1, 0] rfl ?_
    exact e_X5_pays_94 hfx hn hr hE this p1 x2 x3 x2 G hf
set_option maxRecDepth 100000 in
set_option maxHeartbeats 4000000 in
theorem e_X5_pays_40 {X : VX} {B : VB} {z : Unit} {Gf : GH}  (hfx : (xl X).stackTraces = false) (hn : (xme X).name = "pays") (hr : (xme X).sig.returnType = none) (hE : VE B (z, Gf))  (this : Nat) (p1 : Int32) (s0 : Int32) (G : GH) (hf : (f_X5_pays_40 this p1 s0).1 G = some (z, Gf)) : V X RX5 cX5_pays 6 2 44 wsX5_pays B (QE X (vV z) Gf B) G 40 [(0, .ref this), (1, .int p1)] [.int s0] := by
  unfold f_X5_pays_40 at hf
  refine v_istore_n [(2, .int s0), (0, .ref this), (1, .int p1)] dX5_pays_40 rfl (by decide) rfl ?_
  refine v_aload_n 1 dX5_pays_41 rfl rfl ?_
  refine v_iload_n 2 dX5_pays_42 rfl rfl ?_
  refine v_iconst 5 dX5_pays_43 (by decide) ?_
  refine v_iload_n 0 dX5_pays_44 rfl rfl ?_
  refine v_callVv 5 3 [.int p1, .int 5, .int s0] (c_X5_adds (xl X) hfx this p1 5 s0) gX5_pays_X5_adds rfl dv_X5_adds (by decide) (by decide) rfl rfl dX5_pays_45 (Nat.le_of_ble_eq_true rfl) rfl hE hf (fun _ G hf => ?_)
  refine v_aload_n 1 dX5_pays_48 rfl rfl ?_
  refine v_iload_n 2 dX5_pays_49 rfl rfl ?_
  refine v_iconst 3 dX5_pays_50 (by decide) ?_
  refine v_iload_n 0 dX5_pays_51 rfl rfl ?_
  refine v_ineg dX5_pays_52 ?_
  refine v_callVv 5 3 [.int p1, .int 3, .int (-s0)] (c_X5_adds (xl X) hfx this p1 3 (-s0)) gX5_pays_X5_adds rfl dv_X5_adds (by decide) (by decide) rfl rfl dX5_pays_53 (Nat.le_of_ble_eq_true rfl) rfl hE hf (fun _ G hf => ?_)
  refine v_aload_n 1 dX5_pays_56 rfl rfl ?_
  refine v_iload_n 2 dX5_pays_57 rfl rfl ?_
  refine v_iconst 3 dX5_pays_58 (by decide) ?_
  refine v_callVi 5 2 [.int p1, .int 3] (c_X5_of (xl X) hfx this p1 3) gX5_pays_X5_of rfl dv_X5_of (by decide) (by decide) rfl rfl dX5_pays_59 (Nat.le_of_ble_eq_true rfl) rfl hE hf (fun x15 G hf => ?_)
  refine v_if_ne 70 dX5_pays_62 (by decide) hf (fun _ hf => ?_) (fun _ hf => ?_)
  · refine v_sub [1, 2] rfl ?_
    exact e_X5_pays_70 hfx hn hr hE this p1 G hf
  · refine v_aload_n 1 dX5_pays_65 rfl rfl ?_
    refine v_iload_n 2 dX5_pays_66 rfl rfl ?_
    refine v_callVv 5 1 [.int p1] (c_X5_isOver (xl X) hfx this p1) gX5_pays_X5_isOver rfl dv_X5_isOver (by decide) (by decide) rfl rfl dX5_pays_67 (Nat.le_of_ble_eq_true rfl) rfl hE hf (fun _ G hf => ?_)
    refine v_sub [1, 2] rfl ?_
    exact e_X5_pays_70 hfx hn hr hE this p1 G hf
set_option maxRecDepth 100000 in
set_option maxHeartbeats 4000000 in
theorem e_X5_pays_0 {X : VX} {B : VB} {z : Unit} {Gf : GH}  (hfx : (xl X).stackTraces = false) (hn : (xme X).name = "pays") (hr : (xme X).sig.returnType = none) (hE : VE B (z, Gf))  (this : Nat) (p1 : Int32) (G : GH) (hf : (f_X5_pays this p1).1 G = some (z, Gf)) : V X RX5 cX5_pays 6 2 44 wsX5_pays B (QE X (vV z) Gf B) G 0 [(0, .ref this), (1, .int p1)] [] := by
  unfold f_X5_pays at hf
  refine v_aload_n 0 dX5_pays_0 rfl rfl ?_
  refine v_iload_n 1 dX5_pays_1 rfl rfl ?_
  refine v_iconst 4 dX5_pays_2 (by decide) ?_
  refine v_callVi 5 2 [.int p1, .int 4] (c_X5_of (xl X) hfx this p1 4) gX5_pays_X5_of rfl dv_X5_of (by decide) (by decide) rfl rfl dX5_pays_3 (Nat.le_of_ble_eq_true rfl) rfl hE hf (fun x1 G hf => ?_)
  refine v_iconst (-1) dX5_pays_6 (by decide) ?_
  refine v_icmp_eq 70 dX5_pays_7 (by decide) hf (fun _ hf => ?_) (fun _ hf => ?_)
  · refine v_sub [0, 1] rfl ?_
    exact e_X5_pays_70 hfx hn hr hE this p1 G hf
  · refine v_aload_n 0 dX5_pays_10 rfl rfl ?_
    refine v_iload_n 1 dX5_pays_11 rfl rfl ?_
    refine v_iconst 3 dX5_pays_12 (by decide) ?_
    refine v_callVi 5 2 [.int p1, .int 3] (c_X5_of (xl X) hfx this p1 3) gX5_pays_X5_of rfl dv_X5_of (by decide) (by decide) rfl rfl dX5_pays_13 (Nat.le_of_ble_eq_true rfl) rfl hE hf (fun x10 G hf => ?_)
    refine v_aload_n 0 dX5_pays_16 rfl rfl ?_
    refine v_gr 5 0 n_X5_pays_X5 rfl (by decide) rfl m_X5_pays_f7 dX5_pays_17 hf (fun r11 hf => ?_)
    refine v_iconst 0 dX5_pays_20 (by decide) ?_
    refine v_iald dX5_pays_21 hf (fun x12 hf => ?_)
    refine v_icmp_ge 34 dX5_pays_22 (by decide) hf (fun _ hf => ?_) (fun _ hf => ?_)
    · refine v_aload_n 0 dX5_pays_34 rfl rfl ?_
      refine v_gr 5 0 n_X5_pays_X5 rfl (by decide) rfl m_X5_pays_f7 dX5_pays_35 hf (fun r13 hf => ?_)
      refine v_iconst 0 dX5_pays_38 (by decide) ?_
      refine v_iald dX5_pays_39 hf (fun x14 hf => ?_)
      refine v_sub [0, 1] rfl ?_
      exact e_X5_pays_40 hfx hn hr hE this p1 x14 G hf
    · refine v_aload_n 0 dX5_pays_25 rfl rfl ?_
      refine v_iload_n 1 dX5_pays_26 rfl rfl ?_
      refine v_iconst 3 dX5_pays_27 (by decide) ?_
      refine v_callVi 5 2 [.int p1, .int 3] (c_X5_of (xl X) hfx this p1 3) gX5_pays_X5_of rfl dv_X5_of (by decide) (by decide) rfl rfl dX5_pays_28 (Nat.le_of_ble_eq_true rfl) rfl hE hf (fun x16 G hf => ?_)
      refine v_goto 40 dX5_pays_31 (by decide) ?_
      refine v_sub [0, 1] rfl ?_
      exact e_X5_pays_40 hfx hn hr hE this p1 x16 G hf
theorem c_X5_pays (l : Launch) (hfl : l.stackTraces = false) (this : Nat) (p1 : Int32) : CM l yX5_pays wsX5_pays 2 44 [.ref this, .int p1] vV (f_X5_pays this p1) := CM.start hfl RX5 rfl (by decide +kernel) rfl (Nat.le_of_ble_eq_true rfl) (fun X G z Gf hl hn hr hf => e_X5_pays_0 (by rw [hl]; exact hfl) hn hr ⟨rfl, rfl⟩ this p1 G hf)
theorem dv_X5_pays : yX5_pays.cls = RX5 ∧ yX5_pays.cls ≠ "java/lang/invoke/MethodHandle" ∧ yX5_pays.cls ≠ "java/lang/invoke/VarHandle" ∧ (parseMethodDescriptor yX5_pays.desc).map (fun d => d.parameters.length) = some 1 := by decide +kernel
set_option maxRecDepth 100000 in
set_option maxHeartbeats 4000000 in
theorem e_X5_pushes_21 {X : VX} {B : VB} {z : Int32} {Gf : GH}  (hfx : (xl X).stackTraces = false) (hn : (xme X).name = "pushes") (hr : (xme X).sig.returnType = (some .int)) (hE : VE B (z, Gf))  (this : Nat) (p2 : Int32) (p3 : Int32) (l4 : Int32) (s0 : Int32) (s1 : Int32) (s2 : Int32) (s3 : Nat) (G : GH) (hf : (f_X5_pushes_21 this p2 p3 l4 s0 s1 s2 s3).1 G = some (z, Gf)) : V X RX5 cX5_pushes 5 3 69 wsX5_pushes B (QE X (vI z) Gf B) G 21 [(0, .ref this), (2, .int p2), (3, .int p3), (4, .int l4)] [.int s0, .int s1, .int s2, .ref s3] := by
  unfold f_X5_pushes_21 at hf
  refine v_callVv 5 3 [.int s2, .int s1, .int s0] (c_X5_lays (xl X) hfx s3 s2 s1 s0) gX5_pushes_X5_lays rfl dv_X5_lays (by decide) (by decide) rfl rfl dX5_pushes_21 (Nat.le_of_ble_eq_true rfl) rfl hE hf (fun _ G hf => ?_)
  refine v_aload_n 0 dX5_pushes_24 rfl rfl ?_
  refine v_iload 3 dX5_pushes_25 rfl ?_
  refine v_bipush 9 dX5_pushes_27 (by decide) ?_
  refine v_iload_n 1 dX5_pushes_29 rfl rfl ?_
  refine v_callVv 5 3 [.int l4, .int 9, .int p2] (c_X5_lays (xl X) hfx this l4 9 p2) gX5_pushes_X5_lays rfl dv_X5_lays (by decide) (by decide) rfl rfl dX5_pushes_30 (Nat.le_of_ble_eq_true rfl) rfl hE hf (fun _ G hf => ?_)
  refine v_aload_n 0 dX5_pushes_33 rfl rfl ?_
  refine v_iload 3 dX5_pushes_34 rfl ?_
  refine v_iload_n 2 dX5_pushes_36 rfl rfl ?_
  refine v_iconst 1 dX5_pushes_37 (by decide) ?_
  refine v_callVv 5 3 [.int l4, .int p3, .int 1] (c_X5_changes (xl X) hfx this l4 p3 1) gX5_pushes_X5_changes rfl dv_X5_changes (by decide) (by decide) rfl rfl dX5_pushes_38 (Nat.le_of_ble_eq_true rfl) rfl hE hf (fun _ G hf => ?_)
  refine v_aload_n 0 dX5_pushes_41 rfl rfl ?_
  refine v_iload 3 dX5_pushes_42 rfl ?_
  refine v_callVv 5 1 [.int l4] (c_X5_pays (xl X) hfx this l4) gX5_pushes_X5_pays rfl dv_X5_pays (by decide) (by decide) rfl rfl dX5_pushes_44 (Nat.le_of_ble_eq_true rfl) rfl hE hf (fun _ G hf => ?_)
  refine v_iload 3 dX5_pushes_47 rfl ?_
  exact v_iret hr dX5_pushes_49 hE hf
set_option maxRecDepth 100000 in
set_option maxHeartbeats 4000000 in
theorem e_X5_pushes_0 {X : VX} {B : VB} {z : Int32} {Gf : GH}  (hfx : (xl X).stackTraces = false) (hn : (xme X).name = "pushes") (hr : (xme X).sig.returnType = (some .int)) (hE : VE B (z, Gf))  (this : Nat) (p1 : Int32) (p2 : Int32) (p3 : Int32) (G : GH) (hf : (f_X5_pushes this p1 p2 p3).1 G = some (z, Gf)) : V X RX5 cX5_pushes 5 3 69 wsX5_pushes B (QE X (vI z) Gf B) G 0 [(0, .ref this), (1, .int p1), (2, .int p2), (3, .int p3)] [] := by
  unfold f_X5_pushes at hf
  refine v_aload_n 0 dX5_pushes_0 rfl rfl ?_
  refine v_iload_n 1 dX5_pushes_1 rfl rfl ?_
  refine v_callVi 5 1 [.int p1] (c_X5_begins (xl X) hfx this p1) gX5_pushes_X5_begins rfl dv_X5_begins (by decide) (by decide) rfl rfl dX5_pushes_2 (Nat.le_of_ble_eq_true rfl) rfl hE hf (fun x1 G hf => ?_)
  refine v_istore [(4, .int x1), (0, .ref this), (1, .int p1), (2, .int p2), (3, .int p3)] dX5_pushes_5 (by decide) rfl ?_
  refine v_aload_n 1 dX5_pushes_7 rfl rfl ?_
  refine v_iload 0 dX5_pushes_8 rfl ?_
  refine v_bipush 7 dX5_pushes_10 (by decide) ?_
  refine v_iload_n 4 dX5_pushes_12 rfl rfl ?_
  refine v_if_eq 20 dX5_pushes_13 (by decide) hf (fun _ hf => ?_) (fun _ hf => ?_)
  · refine v_iconst 1 dX5_pushes_20 (by decide) ?_
    refine v_sub [1, 3, 4, 0] rfl ?_
    exact e_X5_pushes_21 hfx hn hr hE this p2 p3 x1 1 7 x1 this G hf
  · refine v_iconst 0 dX5_pushes_16 (by decide) ?_
    refine v_goto 21 dX5_pushes_17 (by decide) ?_
    refine v_sub [1, 3, 4, 0] rfl ?_
    exact e_X5_pushes_21 hfx hn hr hE this p2 p3 x1 0 7 x1 this G hf
theorem c_X5_pushes (l : Launch) (hfl : l.stackTraces = false) (this : Nat) (p1 : Int32) (p2 : Int32) (p3 : Int32) : CM l yX5_pushes wsX5_pushes 3 69 [.ref this, .int p1, .int p2, .int p3] vI (f_X5_pushes this p1 p2 p3) := CM.start hfl RX5 rfl (by decide +kernel) rfl (Nat.le_of_ble_eq_true rfl) (fun X G z Gf hl hn hr hf => e_X5_pushes_0 (by rw [hl]; exact hfl) hn hr ⟨rfl, rfl⟩ this p1 p2 p3 G hf)
theorem dv_X5_pushes : yX5_pushes.cls = RX5 ∧ yX5_pushes.cls ≠ "java/lang/invoke/MethodHandle" ∧ yX5_pushes.cls ≠ "java/lang/invoke/VarHandle" ∧ (parseMethodDescriptor yX5_pushes.desc).map (fun d => d.parameters.length) = some 3 := by decide +kernel
set_option maxRecDepth 100000 in
set_option maxHeartbeats 4000000 in
theorem e_X5_pops_43 {X : VX} {B : VB} {z : Int32} {Gf : GH}  (hfx : (xl X).stackTraces = false) (hn : (xme X).name = "pops") (hr : (xme X).sig.returnType = (some .int)) (hE : VE B (z, Gf))  (this : Nat) (p2 : Int32) (l3 : Int32) (l4 : Int32) (s0 : Int32) (s1 : Int32) (s2 : Int32) (s3 : Nat) (G : GH) (hf : (f_X5_pops_43 this p2 l3 l4 s0 s1 s2 s3).1 G = some (z, Gf)) : V X RX5 cX5_pops 5 4 92 wsX5_pops B (QE X (vI z) Gf B) G 43 [(0, .ref this), (2, .int p2), (3, .int l3), (4, .int l4)] [.int s0, .int s1, .int s2, .ref s3] := by
  unfold f_X5_pops_43 at hf
  refine v_callVv 5 3 [.int s2, .int s1, .int s0] (c_X5_lays (xl X) hfx s3 s2 s1 s0) gX5_pops_X5_lays rfl dv_X5_lays (by decide) (by decide) rfl rfl dX5_pops_43 (Nat.le_of_ble_eq_true rfl) rfl hE hf (fun _ G hf => ?_)
  refine v_aload_n 0 dX5_pops_46 rfl rfl ?_
  refine v_iload 3 dX5_pops_47 rfl ?_
  refine v_bipush 9 dX5_pops_49 (by decide) ?_
  refine v_iload_n 2 dX5_pops_51 rfl rfl ?_
  refine v_callVv 5 3 [.int l4, .int 9, .int l3] (c_X5_lays (xl X) hfx this l4 9 l3) gX5_pops_X5_lays rfl dv_X5_lays (by decide) (by decide) rfl rfl dX5_pops_52 (Nat.le_of_ble_eq_true rfl) rfl hE hf (fun _ G hf => ?_)
  refine v_aload_n 0 dX5_pops_55 rfl rfl ?_
  refine v_iload 3 dX5_pops_56 rfl ?_
  refine v_iload_n 1 dX5_pops_58 rfl rfl ?_
  refine v_callVi 5 2 [.int l4, .int p2] (c_X5_partOf (xl X) hfx this l4 p2) gX5_pops_X5_partOf rfl dv_X5_partOf (by decide) (by decide) rfl rfl dX5_pops_59 (Nat.le_of_ble_eq_true rfl) rfl hE hf (fun x4 G hf => ?_)
  refine v_if_ne 72 dX5_pops_62 (by decide) hf (fun _ hf => ?_) (fun _ hf => ?_)
  · refine v_aload_n 0 dX5_pops_72 rfl rfl ?_
    refine v_iload 3 dX5_pops_73 rfl ?_
    refine v_iload_n 1 dX5_pops_75 rfl rfl ?_
    refine v_iconst (-1) dX5_pops_76 (by decide) ?_
    refine v_callVv 5 3 [.int l4, .int p2, .int (-1)] (c_X5_changes (xl X) hfx this l4 p2 (-1)) gX5_pops_X5_changes rfl dv_X5_changes (by decide) (by decide) rfl rfl dX5_pops_77 (Nat.le_of_ble_eq_true rfl) rfl hE hf (fun _ G hf => ?_)
    refine v_aload_n 0 dX5_pops_80 rfl rfl ?_
    refine v_iload 3 dX5_pops_81 rfl ?_
    refine v_callVv 5 1 [.int l4] (c_X5_pays (xl X) hfx this l4) gX5_pops_X5_pays rfl dv_X5_pays (by decide) (by decide) rfl rfl dX5_pops_83 (Nat.le_of_ble_eq_true rfl) rfl hE hf (fun _ G hf => ?_)
    refine v_iload 3 dX5_pops_86 rfl ?_
    exact v_iret hr dX5_pops_88 hE hf
  · refine v_aload_n 0 dX5_pops_65 rfl rfl ?_
    refine v_iload 3 dX5_pops_66 rfl ?_
    refine v_iload_n 1 dX5_pops_68 rfl rfl ?_
    refine v_callVv 5 2 [.int l4, .int p2] (c_X5_opens (xl X) hfx this l4 p2) gX5_pops_X5_opens rfl dv_X5_opens (by decide) (by decide) rfl rfl dX5_pops_69 (Nat.le_of_ble_eq_true rfl) rfl hE hf (fun _ G hf => ?_)
    refine v_aload_n 0 dX5_pops_72 rfl rfl ?_
    refine v_iload 3 dX5_pops_73 rfl ?_
    refine v_iload_n 1 dX5_pops_75 rfl rfl ?_
    refine v_iconst (-1) dX5_pops_76 (by decide) ?_
    refine v_callVv 5 3 [.int l4, .int p2, .int (-1)] (c_X5_changes (xl X) hfx this l4 p2 (-1)) gX5_pops_X5_changes rfl dv_X5_changes (by decide) (by decide) rfl rfl dX5_pops_77 (Nat.le_of_ble_eq_true rfl) rfl hE hf (fun _ G hf => ?_)
    refine v_aload_n 0 dX5_pops_80 rfl rfl ?_
    refine v_iload 3 dX5_pops_81 rfl ?_
    refine v_callVv 5 1 [.int l4] (c_X5_pays (xl X) hfx this l4) gX5_pops_X5_pays rfl dv_X5_pays (by decide) (by decide) rfl rfl dX5_pops_83 (Nat.le_of_ble_eq_true rfl) rfl hE hf (fun _ G hf => ?_)
    refine v_iload 3 dX5_pops_86 rfl ?_
    exact v_iret hr dX5_pops_88 hE hf
set_option maxRecDepth 100000 in
set_option maxHeartbeats 4000000 in
theorem e_X5_pops_18 {X : VX} {B : VB} {z : Int32} {Gf : GH}  (hfx : (xl X).stackTraces = false) (hn : (xme X).name = "pops") (hr : (xme X).sig.returnType = (some .int)) (hE : VE B (z, Gf))  (this : Nat) (p1 : Int32) (p2 : Int32) (s0 : Int32) (s1 : Int32) (s2 : Nat) (G : GH) (hf : (f_X5_pops_18 this p1 p2 s0 s1 s2).1 G = some (z, Gf)) : V X RX5 cX5_pops 5 4 92 wsX5_pops B (QE X (vI z) Gf B) G 18 [(0, .ref this), (1, .int p1), (2, .int p2)] [.int s0, .int s1, .ref s2] := by
  unfold f_X5_pops_18 at hf
  refine v_callVi 5 2 [.int s1, .int s0] (c_X5_valueAt (xl X) hfx s2 s1 s0) gX5_pops_X5_valueAt rfl dv_X5_valueAt (by decide) (by decide) rfl rfl dX5_pops_18 (Nat.le_of_ble_eq_true rfl) rfl hE hf (fun x2 G hf => ?_)
  refine v_istore_n [(3, .int x2), (0, .ref this), (1, .int p1), (2, .int p2)] dX5_pops_21 rfl (by decide) rfl ?_
  refine v_aload_n 1 dX5_pops_22 rfl rfl ?_
  refine v_iload_n 2 dX5_pops_23 rfl rfl ?_
  refine v_callVi 5 1 [.int p1] (c_X5_begins (xl X) hfx this p1) gX5_pops_X5_begins rfl dv_X5_begins (by decide) (by decide) rfl rfl dX5_pops_24 (Nat.le_of_ble_eq_true rfl) rfl hE hf (fun x3 G hf => ?_)
  refine v_istore [(4, .int x3), (3, .int x2), (0, .ref this), (1, .int p1), (2, .int p2)] dX5_pops_27 (by decide) rfl ?_
  refine v_aload_n 2 dX5_pops_29 rfl rfl ?_
  refine v_iload 0 dX5_pops_30 rfl ?_
  refine v_bipush 7 dX5_pops_32 (by decide) ?_
  refine v_iload_n 4 dX5_pops_34 rfl rfl ?_
  refine v_if_eq 42 dX5_pops_35 (by decide) hf (fun _ hf => ?_) (fun _ hf => ?_)
  · refine v_iconst 3 dX5_pops_42 (by decide) ?_
    refine v_sub [2, 4, 1, 0] rfl ?_
    exact e_X5_pops_43 hfx hn hr hE this p2 x2 x3 3 7 x3 this G hf
  · refine v_iconst 2 dX5_pops_38 (by decide) ?_
    refine v_goto 43 dX5_pops_39 (by decide) ?_
    refine v_sub [2, 4, 1, 0] rfl ?_
    exact e_X5_pops_43 hfx hn hr hE this p2 x2 x3 2 7 x3 this G hf
set_option maxRecDepth 100000 in
set_option maxHeartbeats 4000000 in
theorem e_X5_pops_0 {X : VX} {B : VB} {z : Int32} {Gf : GH}  (hfx : (xl X).stackTraces = false) (hn : (xme X).name = "pops") (hr : (xme X).sig.returnType = (some .int)) (hE : VE B (z, Gf))  (this : Nat) (p1 : Int32) (p2 : Int32) (G : GH) (hf : (f_X5_pops this p1 p2).1 G = some (z, Gf)) : V X RX5 cX5_pops 5 4 92 wsX5_pops B (QE X (vI z) Gf B) G 0 [(0, .ref this), (1, .int p1), (2, .int p2)] [] := by
  unfold f_X5_pops at hf
  refine v_aload_n 0 dX5_pops_0 rfl rfl ?_
  refine v_iload_n 1 dX5_pops_1 rfl rfl ?_
  refine v_iload_n 2 dX5_pops_2 rfl rfl ?_
  refine v_if_eq 10 dX5_pops_3 (by decide) hf (fun _ hf => ?_) (fun _ hf => ?_)
  · refine v_aload_n 0 dX5_pops_10 rfl rfl ?_
    refine v_iload_n 1 dX5_pops_11 rfl rfl ?_
    refine v_iconst 1 dX5_pops_12 (by decide) ?_
    refine v_callVi 5 2 [.int p1, .int 1] (c_X5_of (xl X) hfx this p1 1) gX5_pops_X5_of rfl dv_X5_of (by decide) (by decide) rfl rfl dX5_pops_13 (Nat.le_of_ble_eq_true rfl) rfl hE hf (fun x1 G hf => ?_)
    refine v_iconst 1 dX5_pops_16 (by decide) ?_
    refine v_isub dX5_pops_17 ?_
    refine v_sub [0, 1, 2] rfl ?_
    exact e_X5_pops_18 hfx hn hr hE this p1 p2 (x1 - 1) p1 this G hf
  · refine v_iconst 0 dX5_pops_6 (by decide) ?_
    refine v_goto 18 dX5_pops_7 (by decide) ?_
    refine v_sub [0, 1, 2] rfl ?_
    exact e_X5_pops_18 hfx hn hr hE this p1 p2 0 p1 this G hf
theorem c_X5_pops (l : Launch) (hfl : l.stackTraces = false) (this : Nat) (p1 : Int32) (p2 : Int32) : CM l yX5_pops wsX5_pops 4 92 [.ref this, .int p1, .int p2] vI (f_X5_pops this p1 p2) := CM.start hfl RX5 rfl (by decide +kernel) rfl (Nat.le_of_ble_eq_true rfl) (fun X G z Gf hl hn hr hf => e_X5_pops_0 (by rw [hl]; exact hfl) hn hr ⟨rfl, rfl⟩ this p1 p2 G hf)
theorem dv_X5_pops : yX5_pops.cls = RX5 ∧ yX5_pops.cls ≠ "java/lang/invoke/MethodHandle" ∧ yX5_pops.cls ≠ "java/lang/invoke/VarHandle" ∧ (parseMethodDescriptor yX5_pops.desc).map (fun d => d.parameters.length) = some 2 := by decide +kernel
theorem m_X5_set_f41 : Cond.fieldLink RX5 41 RX5 "thrown" "I" ∈ wsX5_set := by decide +kernel
theorem m_X5_set_f7 : Cond.fieldLink RX5 7 RX5 "now" "[I" ∈ wsX5_set := by decide +kernel
theorem n_X5_set_X5 : ∀ w ∈ u_ws RX5 TX5 16, w ∈ wsX5_set := by decide +kernel
set_option maxRecDepth 100000 in
set_option maxHeartbeats 4000000 in
theorem e_X5_set_41 {X : VX} {B : VB} {z : Int32} {Gf : GH}  (hfx : (xl X).stackTraces = false) (hn : (xme X).name = "set") (hr : (xme X).sig.returnType = (some .int)) (hE : VE B (z, Gf))  (this : Nat) (p1 : Int32) (p2 : Int32) (s0 : Int32) (s1 : Nat) (G : GH) (hf : (f_X5_set_41 this p1 p2 s0 s1).1 G = some (z, Gf)) : V X RX5 cX5_set 4 2 45 wsX5_set B (QE X (vI z) Gf B) G 41 [(0, .ref this), (1, .int p1), (2, .int p2)] [.int s0, .ref s1] := by
  unfold f_X5_set_41 at hf
  refine v_put 5 6 .int n_X5_set_X5 tyX5 tyX5_ok nmX5 rfl (by decide) rfl m_X5_set_f41 rfl (by decide +kernel) rfl rfl dX5_set_41 hf (fun G _ hf => ?_)
  refine v_aload_n 0 dX5_set_44 rfl rfl ?_
  refine v_gi 5 6 n_X5_set_X5 rfl (by decide) rfl m_X5_set_f41 dX5_set_45 hf (fun x2 hf => ?_)
  refine v_if_eq 53 dX5_set_48 (by decide) hf (fun _ hf => ?_) (fun _ hf => ?_)
  · refine v_aload_n 0 dX5_set_53 rfl rfl ?_
    refine v_callVv 5 0 [] (c_X5_saves (xl X) hfx this) gX5_set_X5_saves rfl dv_X5_saves (by decide) (by decide) rfl rfl dX5_set_54 (Nat.le_of_ble_eq_true rfl) rfl hE hf (fun _ G hf => ?_)
    refine v_aload_n 0 dX5_set_57 rfl rfl ?_
    refine v_gr 5 0 n_X5_set_X5 rfl (by decide) rfl m_X5_set_f7 dX5_set_58 hf (fun r3 hf => ?_)
    refine v_iload_n 1 dX5_set_61 rfl rfl ?_
    refine v_iald dX5_set_62 hf (fun x4 hf => ?_)
    refine v_istore_n [(3, .int x4), (0, .ref this), (1, .int p1), (2, .int p2)] dX5_set_63 rfl (by decide) rfl ?_
    refine v_aload_n 1 dX5_set_64 rfl rfl ?_
    refine v_gr 5 0 n_X5_set_X5 rfl (by decide) rfl m_X5_set_f7 dX5_set_65 hf (fun r5 hf => ?_)
    refine v_iload_n 2 dX5_set_68 rfl rfl ?_
    refine v_iload_n 3 dX5_set_69 rfl rfl ?_
    refine v_iast dX5_set_70 hf (fun G _ hf => ?_)
    refine v_iload_n 0 dX5_set_71 rfl rfl ?_
    exact v_iret hr dX5_set_72 hE hf
  · refine v_iconst 0 dX5_set_51 (by decide) ?_
    exact v_iret hr dX5_set_52 hE hf
set_option maxRecDepth 100000 in
set_option maxHeartbeats 4000000 in
theorem e_X5_set_36 {X : VX} {B : VB} {z : Int32} {Gf : GH}  (hfx : (xl X).stackTraces = false) (hn : (xme X).name = "set") (hr : (xme X).sig.returnType = (some .int)) (hE : VE B (z, Gf))  (this : Nat) (p1 : Int32) (p2 : Int32) (s0 : Nat) (G : GH) (hf : (f_X5_set_36 this p1 p2 s0).1 G = some (z, Gf)) : V X RX5 cX5_set 4 2 45 wsX5_set B (QE X (vI z) Gf B) G 36 [(0, .ref this), (1, .int p1), (2, .int p2)] [.ref s0] := by
  unfold f_X5_set_36 at hf
  refine v_iconst 1 dX5_set_36 (by decide) ?_
  refine v_goto 41 dX5_set_37 (by decide) ?_
  refine v_sub [0, 1, 2] rfl ?_
  exact e_X5_set_41 hfx hn hr hE this p1 p2 1 s0 G hf
set_option maxRecDepth 100000 in
set_option maxHeartbeats 4000000 in
theorem e_X5_set_30 {X : VX} {B : VB} {z : Int32} {Gf : GH}  (hfx : (xl X).stackTraces = false) (hn : (xme X).name = "set") (hr : (xme X).sig.returnType = (some .int)) (hE : VE B (z, Gf))  (this : Nat) (p1 : Int32) (p2 : Int32) (s0 : Int32) (s1 : Int32) (s2 : Int32) (s3 : Nat) (G : GH) (hf : (f_X5_set_30 this p1 p2 s0 s1 s2 s3).1 G = some (z, Gf)) : V X RX5 cX5_set 4 2 45 wsX5_set B (QE X (vI z) Gf B) G 30 [(0, .ref this), (1, .int p1), (2, .int p2)] [.int s0, .int s1, .int s2, .ref s3] := by
  unfold f_X5_set_30 at hf
  refine v_callSi 3 [.int s2, .int s1, .int s0] (c_X5_in (xl X) hfx s2 s1 s0) gX5_set_X5_in rfl dn_X5_in (by decide) (by decide) rfl dX5_set_30 (Nat.le_of_ble_eq_true rfl) rfl hE hf (fun x6 G hf => ?_)
  refine v_if_ne 40 dX5_set_33 (by decide) hf (fun _ hf => ?_) (fun _ hf => ?_)
  · refine v_iconst 0 dX5_set_40 (by decide) ?_
    refine v_sub [0, 1, 2] rfl ?_
    exact e_X5_set_41 hfx hn hr hE this p1 p2 0 s3 G hf
  · refine v_sub [0, 1, 2] rfl ?_
    exact e_X5_set_36 hfx hn hr hE this p1 p2 s3 G hf
set_option maxRecDepth 100000 in
set_option maxHeartbeats 4000000 in
theorem e_X5_set_20 {X : VX} {B : VB} {z : Int32} {Gf : GH}  (hfx : (xl X).stackTraces = false) (hn : (xme X).name = "set") (hr : (xme X).sig.returnType = (some .int)) (hE : VE B (z, Gf))  (this : Nat) (p1 : Int32) (p2 : Int32) (s0 : Int32) (s1 : Int32) (s2 : Nat) (G : GH) (hf : (f_X5_set_20 this p1 p2 s0 s1 s2).1 G = some (z, Gf)) : V X RX5 cX5_set 4 2 45 wsX5_set B (QE X (vI z) Gf B) G 20 [(0, .ref this), (1, .int p1), (2, .int p2)] [.int s0, .int s1, .ref s2] := by
  unfold f_X5_set_20 at hf
  refine v_iload_n 1 dX5_set_20 rfl rfl ?_
  refine v_if_ne 29 dX5_set_21 (by decide) hf (fun _ hf => ?_) (fun _ hf => ?_)
  · refine v_iconst 5 dX5_set_29 (by decide) ?_
    refine v_sub [0, 1, 2] rfl ?_
    exact e_X5_set_30 hfx hn hr hE this p1 p2 5 s0 s1 s2 G hf
  · refine v_bipush 9 dX5_set_24 (by decide) ?_
    refine v_goto 30 dX5_set_26 (by decide) ?_
    refine v_sub [0, 1, 2] rfl ?_
    exact e_X5_set_30 hfx hn hr hE this p1 p2 9 s0 s1 s2 G hf
set_option maxRecDepth 100000 in
set_option maxHeartbeats 4000000 in
theorem e_X5_set_0 {X : VX} {B : VB} {z : Int32} {Gf : GH}  (hfx : (xl X).stackTraces = false) (hn : (xme X).name = "set") (hr : (xme X).sig.returnType = (some .int)) (hE : VE B (z, Gf))  (this : Nat) (p1 : Int32) (p2 : Int32) (G : GH) (hf : (f_X5_set this p1 p2).1 G = some (z, Gf)) : V X RX5 cX5_set 4 2 45 wsX5_set B (QE X (vI z) Gf B) G 0 [(0, .ref this), (1, .int p1), (2, .int p2)] [] := by
  unfold f_X5_set at hf
  refine v_aload_n 0 dX5_set_0 rfl rfl ?_
  refine v_iload_n 1 dX5_set_1 rfl rfl ?_
  refine v_iconst 0 dX5_set_2 (by decide) ?_
  refine v_iconst 1 dX5_set_3 (by decide) ?_
  refine v_callSi 3 [.int p1, .int 0, .int 1] (c_X5_in (xl X) hfx p1 0 1) gX5_set_X5_in rfl dn_X5_in (by decide) (by decide) rfl dX5_set_4 (Nat.le_of_ble_eq_true rfl) rfl hE hf (fun x1 G hf => ?_)
  refine v_if_eq 36 dX5_set_7 (by decide) hf (fun _ hf => ?_) (fun _ hf => ?_)
  · refine v_sub [0, 1, 2] rfl ?_
    exact e_X5_set_36 hfx hn hr hE this p1 p2 this G hf
  · refine v_iload_n 2 dX5_set_10 rfl rfl ?_
    refine v_iload_n 1 dX5_set_11 rfl rfl ?_
    refine v_if_ne 19 dX5_set_12 (by decide) hf (fun _ hf => ?_) (fun _ hf => ?_)
    · refine v_iconst 2 dX5_set_19 (by decide) ?_
      refine v_sub [0, 1, 2] rfl ?_
      exact e_X5_set_20 hfx hn hr hE this p1 p2 2 p2 this G hf
    · refine v_iconst 1 dX5_set_15 (by decide) ?_
      refine v_goto 20 dX5_set_16 (by decide) ?_
      refine v_sub [0, 1, 2] rfl ?_
      exact e_X5_set_20 hfx hn hr hE this p1 p2 1 p2 this G hf
theorem c_X5_set (l : Launch) (hfl : l.stackTraces = false) (this : Nat) (p1 : Int32) (p2 : Int32) : CM l yX5_set wsX5_set 2 45 [.ref this, .int p1, .int p2] vI (f_X5_set this p1 p2) := CM.start hfl RX5 rfl (by decide +kernel) rfl (Nat.le_of_ble_eq_true rfl) (fun X G z Gf hl hn hr hf => e_X5_set_0 (by rw [hl]; exact hfl) hn hr ⟨rfl, rfl⟩ this p1 p2 G hf)
theorem dv_X5_set : yX5_set.cls = RX5 ∧ yX5_set.cls ≠ "java/lang/invoke/MethodHandle" ∧ yX5_set.cls ≠ "java/lang/invoke/VarHandle" ∧ (parseMethodDescriptor yX5_set.desc).map (fun d => d.parameters.length) = some 2 := by decide +kernel
theorem m_X5_push_f41 : Cond.fieldLink RX5 41 RX5 "thrown" "I" ∈ wsX5_push := by decide +kernel
theorem n_X5_push_X5 : ∀ w ∈ u_ws RX5 TX5 16, w ∈ wsX5_push := by decide +kernel
theorem m_X5_push_f7 : Cond.fieldLink RX5 7 RX5 "now" "[I" ∈ wsX5_push := by decide +kernel
set_option maxRecDepth 100000 in
set_option maxHeartbeats 4000000 in
theorem e_X5_push_52 {X : VX} {B : VB} {z : Int32} {Gf : GH}  (hfx : (xl X).stackTraces = false) (hn : (xme X).name = "push") (hr : (xme X).sig.returnType = (some .int)) (hE : VE B (z, Gf))  (this : Nat) (p1 : Int32) (p2 : Int32) (p3 : Int32) (s0 : Nat) (G : GH) (hf : (f_X5_push_52 this p1 p2 p3 s0).1 G = some (z, Gf)) : V X RX5 cX5_push 4 4 93 wsX5_push B (QE X (vI z) Gf B) G 52 [(0, .ref this), (1, .int p1), (2, .int p2), (3, .int p3)] [.ref s0] := by
  unfold f_X5_push_52 at hf
  refine v_iconst 3 dX5_push_52 (by decide) ?_
  refine v_goto 57 dX5_push_53 (by decide) ?_
  refine v_put 5 6 .int n_X5_push_X5 tyX5 tyX5_ok nmX5 rfl (by decide) rfl m_X5_push_f41 rfl (by decide +kernel) rfl rfl dX5_push_57 hf (fun G _ hf => ?_)
  refine v_aload_n 0 dX5_push_60 rfl rfl ?_
  refine v_gi 5 6 n_X5_push_X5 rfl (by decide) rfl m_X5_push_f41 dX5_push_61 hf (fun x4 hf => ?_)
  refine v_if_eq 69 dX5_push_64 (by decide) hf (fun _ hf => ?_) (fun _ hf => ?_)
  · refine v_aload_n 0 dX5_push_69 rfl rfl ?_
    refine v_callVv 5 0 [] (c_X5_saves (xl X) hfx this) gX5_push_X5_saves rfl dv_X5_saves (by decide) (by decide) rfl rfl dX5_push_70 (Nat.le_of_ble_eq_true rfl) rfl hE hf (fun _ G hf => ?_)
    refine v_aload_n 0 dX5_push_73 rfl rfl ?_
    refine v_iload_n 1 dX5_push_74 rfl rfl ?_
    refine v_iload_n 2 dX5_push_75 rfl rfl ?_
    refine v_iload_n 3 dX5_push_76 rfl rfl ?_
    refine v_callVi 5 3 [.int p1, .int p2, .int p3] (c_X5_pushes (xl X) hfx this p1 p2 p3) gX5_push_X5_pushes rfl dv_X5_pushes (by decide) (by decide) rfl rfl dX5_push_77 (Nat.le_of_ble_eq_true rfl) rfl hE hf (fun x5 G hf => ?_)
    exact v_iret hr dX5_push_80 hE hf
  · refine v_iconst 0 dX5_push_67 (by decide) ?_
    exact v_iret hr dX5_push_68 hE hf
set_option maxRecDepth 100000 in
set_option maxHeartbeats 4000000 in
theorem e_X5_push_0 {X : VX} {B : VB} {z : Int32} {Gf : GH}  (hfx : (xl X).stackTraces = false) (hn : (xme X).name = "push") (hr : (xme X).sig.returnType = (some .int)) (hE : VE B (z, Gf))  (this : Nat) (p1 : Int32) (p2 : Int32) (p3 : Int32) (G : GH) (hf : (f_X5_push this p1 p2 p3).1 G = some (z, Gf)) : V X RX5 cX5_push 4 4 93 wsX5_push B (QE X (vI z) Gf B) G 0 [(0, .ref this), (1, .int p1), (2, .int p2), (3, .int p3)] [] := by
  unfold f_X5_push at hf
  refine v_aload_n 0 dX5_push_0 rfl rfl ?_
  refine v_aload_n 0 dX5_push_1 rfl rfl ?_
  refine v_iload_n 1 dX5_push_2 rfl rfl ?_
  refine v_callVi 5 1 [.int p1] (c_X5_isVersion (xl X) hfx this p1) gX5_push_X5_isVersion rfl dv_X5_isVersion (by decide) (by decide) rfl rfl dX5_push_3 (Nat.le_of_ble_eq_true rfl) rfl hE hf (fun x1 G hf => ?_)
  refine v_if_ne 13 dX5_push_6 (by decide) hf (fun _ hf => ?_) (fun _ hf => ?_)
  · refine v_iload_n 2 dX5_push_13 rfl rfl ?_
    refine v_sipush (-999) dX5_push_14 (by decide) ?_
    refine v_sipush 999 dX5_push_17 (by decide) ?_
    refine v_callSi 3 [.int p2, .int (-999), .int 999] (c_X5_in (xl X) hfx p2 (-999) 999) gX5_push_X5_in rfl dn_X5_in (by decide) (by decide) rfl dX5_push_20 (Nat.le_of_ble_eq_true rfl) rfl hE hf (fun x2 G hf => ?_)
    refine v_if_ne 30 dX5_push_23 (by decide) hf (fun _ hf => ?_) (fun _ hf => ?_)
    · refine v_aload_n 0 dX5_push_30 rfl rfl ?_
      refine v_iload_n 1 dX5_push_31 rfl rfl ?_
      refine v_iconst 1 dX5_push_32 (by decide) ?_
      refine v_callVi 5 2 [.int p1, .int 1] (c_X5_of (xl X) hfx this p1 1) gX5_push_X5_of rfl dv_X5_of (by decide) (by decide) rfl rfl dX5_push_33 (Nat.le_of_ble_eq_true rfl) rfl hE hf (fun x3 G hf => ?_)
      refine v_bipush 40 dX5_push_36 (by decide) ?_
      refine v_icmp_eq 52 dX5_push_38 (by decide) hf (fun _ hf => ?_) (fun _ hf => ?_)
      · refine v_sub [0, 1, 2, 3] rfl ?_
        exact e_X5_push_52 hfx hn hr hE this p1 p2 p3 this G hf
      · refine v_aload_n 0 dX5_push_41 rfl rfl ?_
        refine v_gr 5 0 n_X5_push_X5 rfl (by decide) rfl m_X5_push_f7 dX5_push_42 hf (fun r6 hf => ?_)
        refine v_iconst 2 dX5_push_45 (by decide) ?_
        refine v_iald dX5_push_46 hf (fun x7 hf => ?_)
        refine v_bipush 100 dX5_push_47 (by decide) ?_
        refine v_icmp_ne 56 dX5_push_49 (by decide) hf (fun _ hf => ?_) (fun _ hf => ?_)
        · refine v_iconst 0 dX5_push_56 (by decide) ?_
          refine v_put 5 6 .int n_X5_push_X5 tyX5 tyX5_ok nmX5 rfl (by decide) rfl m_X5_push_f41 rfl (by decide +kernel) rfl rfl dX5_push_57 hf (fun G _ hf => ?_)
          refine v_aload_n 0 dX5_push_60 rfl rfl ?_
          refine v_gi 5 6 n_X5_push_X5 rfl (by decide) rfl m_X5_push_f41 dX5_push_61 hf (fun x8 hf => ?_)
          refine v_if_eq 69 dX5_push_64 (by decide) hf (fun _ hf => ?_) (fun _ hf => ?_)
          · refine v_aload_n 0 dX5_push_69 rfl rfl ?_
            refine v_callVv 5 0 [] (c_X5_saves (xl X) hfx this) gX5_push_X5_saves rfl dv_X5_saves (by decide) (by decide) rfl rfl dX5_push_70 (Nat.le_of_ble_eq_true rfl) rfl hE hf (fun _ G hf => ?_)
            refine v_aload_n 0 dX5_push_73 rfl rfl ?_
            refine v_iload_n 1 dX5_push_74 rfl rfl ?_
            refine v_iload_n 2 dX5_push_75 rfl rfl ?_
            refine v_iload_n 3 dX5_push_76 rfl rfl ?_
            refine v_callVi 5 3 [.int p1, .int p2, .int p3] (c_X5_pushes (xl X) hfx this p1 p2 p3) gX5_push_X5_pushes rfl dv_X5_pushes (by decide) (by decide) rfl rfl dX5_push_77 (Nat.le_of_ble_eq_true rfl) rfl hE hf (fun x9 G hf => ?_)
            exact v_iret hr dX5_push_80 hE hf
          · refine v_iconst 0 dX5_push_67 (by decide) ?_
            exact v_iret hr dX5_push_68 hE hf
        · refine v_sub [0, 1, 2, 3] rfl ?_
          exact e_X5_push_52 hfx hn hr hE this p1 p2 p3 this G hf
    · refine v_iconst 2 dX5_push_26 (by decide) ?_
      refine v_goto 57 dX5_push_27 (by decide) ?_
      refine v_put 5 6 .int n_X5_push_X5 tyX5 tyX5_ok nmX5 rfl (by decide) rfl m_X5_push_f41 rfl (by decide +kernel) rfl rfl dX5_push_57 hf (fun G _ hf => ?_)
      refine v_aload_n 0 dX5_push_60 rfl rfl ?_
      refine v_gi 5 6 n_X5_push_X5 rfl (by decide) rfl m_X5_push_f41 dX5_push_61 hf (fun x10 hf => ?_)
      refine v_if_eq 69 dX5_push_64 (by decide) hf (fun _ hf => ?_) (fun _ hf => ?_)
      · refine v_aload_n 0 dX5_push_69 rfl rfl ?_
        refine v_callVv 5 0 [] (c_X5_saves (xl X) hfx this) gX5_push_X5_saves rfl dv_X5_saves (by decide) (by decide) rfl rfl dX5_push_70 (Nat.le_of_ble_eq_true rfl) rfl hE hf (fun _ G hf => ?_)
        refine v_aload_n 0 dX5_push_73 rfl rfl ?_
        refine v_iload_n 1 dX5_push_74 rfl rfl ?_
        refine v_iload_n 2 dX5_push_75 rfl rfl ?_
        refine v_iload_n 3 dX5_push_76 rfl rfl ?_
        refine v_callVi 5 3 [.int p1, .int p2, .int p3] (c_X5_pushes (xl X) hfx this p1 p2 p3) gX5_push_X5_pushes rfl dv_X5_pushes (by decide) (by decide) rfl rfl dX5_push_77 (Nat.le_of_ble_eq_true rfl) rfl hE hf (fun x11 G hf => ?_)
        exact v_iret hr dX5_push_80 hE hf
      · refine v_iconst 0 dX5_push_67 (by decide) ?_
        exact v_iret hr dX5_push_68 hE hf
  · refine v_iconst 1 dX5_push_9 (by decide) ?_
    refine v_goto 57 dX5_push_10 (by decide) ?_
    refine v_put 5 6 .int n_X5_push_X5 tyX5 tyX5_ok nmX5 rfl (by decide) rfl m_X5_push_f41 rfl (by decide +kernel) rfl rfl dX5_push_57 hf (fun G _ hf => ?_)
    refine v_aload_n 0 dX5_push_60 rfl rfl ?_
    refine v_gi 5 6 n_X5_push_X5 rfl (by decide) rfl m_X5_push_f41 dX5_push_61 hf (fun x12 hf => ?_)
    refine v_if_eq 69 dX5_push_64 (by decide) hf (fun _ hf => ?_) (fun _ hf => ?_)
    · refine v_aload_n 0 dX5_push_69 rfl rfl ?_
      refine v_callVv 5 0 [] (c_X5_saves (xl X) hfx this) gX5_push_X5_saves rfl dv_X5_saves (by decide) (by decide) rfl rfl dX5_push_70 (Nat.le_of_ble_eq_true rfl) rfl hE hf (fun _ G hf => ?_)
      refine v_aload_n 0 dX5_push_73 rfl rfl ?_
      refine v_iload_n 1 dX5_push_74 rfl rfl ?_
      refine v_iload_n 2 dX5_push_75 rfl rfl ?_
      refine v_iload_n 3 dX5_push_76 rfl rfl ?_
      refine v_callVi 5 3 [.int p1, .int p2, .int p3] (c_X5_pushes (xl X) hfx this p1 p2 p3) gX5_push_X5_pushes rfl dv_X5_pushes (by decide) (by decide) rfl rfl dX5_push_77 (Nat.le_of_ble_eq_true rfl) rfl hE hf (fun x13 G hf => ?_)
      exact v_iret hr dX5_push_80 hE hf
    · refine v_iconst 0 dX5_push_67 (by decide) ?_
      exact v_iret hr dX5_push_68 hE hf
theorem c_X5_push (l : Launch) (hfl : l.stackTraces = false) (this : Nat) (p1 : Int32) (p2 : Int32) (p3 : Int32) : CM l yX5_push wsX5_push 4 93 [.ref this, .int p1, .int p2, .int p3] vI (f_X5_push this p1 p2 p3) := CM.start hfl RX5 rfl (by decide +kernel) rfl (Nat.le_of_ble_eq_true rfl) (fun X G z Gf hl hn hr hf => e_X5_push_0 (by rw [hl]; exact hfl) hn hr ⟨rfl, rfl⟩ this p1 p2 p3 G hf)
theorem dv_X5_push : yX5_push.cls = RX5 ∧ yX5_push.cls ≠ "java/lang/invoke/MethodHandle" ∧ yX5_push.cls ≠ "java/lang/invoke/VarHandle" ∧ (parseMethodDescriptor yX5_push.desc).map (fun d => d.parameters.length) = some 3 := by decide +kernel
theorem m_X5_pop_f7 : Cond.fieldLink RX5 7 RX5 "now" "[I" ∈ wsX5_pop := by decide +kernel
theorem m_X5_pop_f41 : Cond.fieldLink RX5 41 RX5 "thrown" "I" ∈ wsX5_pop := by decide +kernel
theorem n_X5_pop_X5 : ∀ w ∈ u_ws RX5 TX5 16, w ∈ wsX5_pop := by decide +kernel
set_option maxRecDepth 100000 in
set_option maxHeartbeats 4000000 in
theorem e_X5_pop_0 {X : VX} {B : VB} {z : Int32} {Gf : GH}  (hfx : (xl X).stackTraces = false) (hn : (xme X).name = "pop") (hr : (xme X).sig.returnType = (some .int)) (hE : VE B (z, Gf))  (this : Nat) (p1 : Int32) (p2 : Int32) (G : GH) (hf : (f_X5_pop this p1 p2).1 G = some (z, Gf)) : V X RX5 cX5_pop 3 5 116 wsX5_pop B (QE X (vI z) Gf B) G 0 [(0, .ref this), (1, .int p1), (2, .int p2)] [] := by
  unfold f_X5_pop at hf
  refine v_aload_n 0 dX5_pop_0 rfl rfl ?_
  refine v_aload_n 0 dX5_pop_1 rfl rfl ?_
  refine v_iload_n 1 dX5_pop_2 rfl rfl ?_
  refine v_callVi 5 1 [.int p1] (c_X5_isVersion (xl X) hfx this p1) gX5_pop_X5_isVersion rfl dv_X5_isVersion (by decide) (by decide) rfl rfl dX5_pop_3 (Nat.le_of_ble_eq_true rfl) rfl hE hf (fun x1 G hf => ?_)
  refine v_if_ne 13 dX5_pop_6 (by decide) hf (fun _ hf => ?_) (fun _ hf => ?_)
  · refine v_aload_n 0 dX5_pop_13 rfl rfl ?_
    refine v_iload_n 1 dX5_pop_14 rfl rfl ?_
    refine v_iconst 1 dX5_pop_15 (by decide) ?_
    refine v_callVi 5 2 [.int p1, .int 1] (c_X5_of (xl X) hfx this p1 1) gX5_pop_X5_of rfl dv_X5_of (by decide) (by decide) rfl rfl dX5_pop_16 (Nat.le_of_ble_eq_true rfl) rfl hE hf (fun x2 G hf => ?_)
    refine v_if_ne 26 dX5_pop_19 (by decide) hf (fun _ hf => ?_) (fun _ hf => ?_)
    · refine v_aload_n 0 dX5_pop_26 rfl rfl ?_
      refine v_gr 5 0 n_X5_pop_X5 rfl (by decide) rfl m_X5_pop_f7 dX5_pop_27 hf (fun r3 hf => ?_)
      refine v_iconst 2 dX5_pop_30 (by decide) ?_
      refine v_iald dX5_pop_31 hf (fun x4 hf => ?_)
      refine v_bipush 100 dX5_pop_32 (by decide) ?_
      refine v_icmp_ne 41 dX5_pop_34 (by decide) hf (fun _ hf => ?_) (fun _ hf => ?_)
      · refine v_iconst 0 dX5_pop_41 (by decide) ?_
        refine v_put 5 6 .int n_X5_pop_X5 tyX5 tyX5_ok nmX5 rfl (by decide) rfl m_X5_pop_f41 rfl (by decide +kernel) rfl rfl dX5_pop_42 hf (fun G _ hf => ?_)
        refine v_aload_n 0 dX5_pop_45 rfl rfl ?_
        refine v_gi 5 6 n_X5_pop_X5 rfl (by decide) rfl m_X5_pop_f41 dX5_pop_46 hf (fun x5 hf => ?_)
        refine v_if_eq 54 dX5_pop_49 (by decide) hf (fun _ hf => ?_) (fun _ hf => ?_)
        · refine v_aload_n 0 dX5_pop_54 rfl rfl ?_
          refine v_callVv 5 0 [] (c_X5_saves (xl X) hfx this) gX5_pop_X5_saves rfl dv_X5_saves (by decide) (by decide) rfl rfl dX5_pop_55 (Nat.le_of_ble_eq_true rfl) rfl hE hf (fun _ G hf => ?_)
          refine v_aload_n 0 dX5_pop_58 rfl rfl ?_
          refine v_iload_n 1 dX5_pop_59 rfl rfl ?_
          refine v_iload_n 2 dX5_pop_60 rfl rfl ?_
          refine v_callVi 5 2 [.int p1, .int p2] (c_X5_pops (xl X) hfx this p1 p2) gX5_pop_X5_pops rfl dv_X5_pops (by decide) (by decide) rfl rfl dX5_pop_61 (Nat.le_of_ble_eq_true rfl) rfl hE hf (fun x6 G hf => ?_)
          exact v_iret hr dX5_pop_64 hE hf
        · refine v_iconst 0 dX5_pop_52 (by decide) ?_
          exact v_iret hr dX5_pop_53 hE hf
      · refine v_iconst 3 dX5_pop_37 (by decide) ?_
        refine v_goto 42 dX5_pop_38 (by decide) ?_
        refine v_put 5 6 .int n_X5_pop_X5 tyX5 tyX5_ok nmX5 rfl (by decide) rfl m_X5_pop_f41 rfl (by decide +kernel) rfl rfl dX5_pop_42 hf (fun G _ hf => ?_)
        refine v_aload_n 0 dX5_pop_45 rfl rfl ?_
        refine v_gi 5 6 n_X5_pop_X5 rfl (by decide) rfl m_X5_pop_f41 dX5_pop_46 hf (fun x7 hf => ?_)
        refine v_if_eq 54 dX5_pop_49 (by decide) hf (fun _ hf => ?_) (fun _ hf => ?_)
        · refine v_aload_n 0 dX5_pop_54 rfl rfl ?_
          refine v_callVv 5 0 [] (c_X5_saves (xl X) hfx this) gX5_pop_X5_saves rfl dv_X5_saves (by decide) (by decide) rfl rfl dX5_pop_55 (Nat.le_of_ble_eq_true rfl) rfl hE hf (fun _ G hf => ?_)
          refine v_aload_n 0 dX5_pop_58 rfl rfl ?_
          refine v_iload_n 1 dX5_pop_59 rfl rfl ?_
          refine v_iload_n 2 dX5_pop_60 rfl rfl ?_
          refine v_callVi 5 2 [.int p1, .int p2] (c_X5_pops (xl X) hfx this p1 p2) gX5_pop_X5_pops rfl dv_X5_pops (by decide) (by decide) rfl rfl dX5_pop_61 (Nat.le_of_ble_eq_true rfl) rfl hE hf (fun x8 G hf => ?_)
          exact v_iret hr dX5_pop_64 hE hf
        · refine v_iconst 0 dX5_pop_52 (by decide) ?_
          exact v_iret hr dX5_pop_53 hE hf
    · refine v_iconst 2 dX5_pop_22 (by decide) ?_
      refine v_goto 42 dX5_pop_23 (by decide) ?_
      refine v_put 5 6 .int n_X5_pop_X5 tyX5 tyX5_ok nmX5 rfl (by decide) rfl m_X5_pop_f41 rfl (by decide +kernel) rfl rfl dX5_pop_42 hf (fun G _ hf => ?_)
      refine v_aload_n 0 dX5_pop_45 rfl rfl ?_
      refine v_gi 5 6 n_X5_pop_X5 rfl (by decide) rfl m_X5_pop_f41 dX5_pop_46 hf (fun x9 hf => ?_)
      refine v_if_eq 54 dX5_pop_49 (by decide) hf (fun _ hf => ?_) (fun _ hf => ?_)
      · refine v_aload_n 0 dX5_pop_54 rfl rfl ?_
        refine v_callVv 5 0 [] (c_X5_saves (xl X) hfx this) gX5_pop_X5_saves rfl dv_X5_saves (by decide) (by decide) rfl rfl dX5_pop_55 (Nat.le_of_ble_eq_true rfl) rfl hE hf (fun _ G hf => ?_)
        refine v_aload_n 0 dX5_pop_58 rfl rfl ?_
        refine v_iload_n 1 dX5_pop_59 rfl rfl ?_
        refine v_iload_n 2 dX5_pop_60 rfl rfl ?_
        refine v_callVi 5 2 [.int p1, .int p2] (c_X5_pops (xl X) hfx this p1 p2) gX5_pop_X5_pops rfl dv_X5_pops (by decide) (by decide) rfl rfl dX5_pop_61 (Nat.le_of_ble_eq_true rfl) rfl hE hf (fun x10 G hf => ?_)
        exact v_iret hr dX5_pop_64 hE hf
      · refine v_iconst 0 dX5_pop_52 (by decide) ?_
        exact v_iret hr dX5_pop_53 hE hf
  · refine v_iconst 1 dX5_pop_9 (by decide) ?_
    refine v_goto 42 dX5_pop_10 (by decide) ?_
    refine v_put 5 6 .int n_X5_pop_X5 tyX5 tyX5_ok nmX5 rfl (by decide) rfl m_X5_pop_f41 rfl (by decide +kernel) rfl rfl dX5_pop_42 hf (fun G _ hf => ?_)
    refine v_aload_n 0 dX5_pop_45 rfl rfl ?_
    refine v_gi 5 6 n_X5_pop_X5 rfl (by decide) rfl m_X5_pop_f41 dX5_pop_46 hf (fun x11 hf => ?_)
    refine v_if_eq 54 dX5_pop_49 (by decide) hf (fun _ hf => ?_) (fun _ hf => ?_)
    · refine v_aload_n 0 dX5_pop_54 rfl rfl ?_
      refine v_callVv 5 0 [] (c_X5_saves (xl X) hfx this) gX5_pop_X5_saves rfl dv_X5_saves (by decide) (by decide) rfl rfl dX5_pop_55 (Nat.le_of_ble_eq_true rfl) rfl hE hf (fun _ G hf => ?_)
      refine v_aload_n 0 dX5_pop_58 rfl rfl ?_
      refine v_iload_n 1 dX5_pop_59 rfl rfl ?_
      refine v_iload_n 2 dX5_pop_60 rfl rfl ?_
      refine v_callVi 5 2 [.int p1, .int p2] (c_X5_pops (xl X) hfx this p1 p2) gX5_pop_X5_pops rfl dv_X5_pops (by decide) (by decide) rfl rfl dX5_pop_61 (Nat.le_of_ble_eq_true rfl) rfl hE hf (fun x12 G hf => ?_)
      exact v_iret hr dX5_pop_64 hE hf
    · refine v_iconst 0 dX5_pop_52 (by decide) ?_
      exact v_iret hr dX5_pop_53 hE hf
theorem c_X5_pop (l : Launch) (hfl : l.stackTraces = false) (this : Nat) (p1 : Int32) (p2 : Int32) : CM l yX5_pop wsX5_pop 5 116 [.ref this, .int p1, .int p2] vI (f_X5_pop this p1 p2) := CM.start hfl RX5 rfl (by decide +kernel) rfl (Nat.le_of_ble_eq_true rfl) (fun X G z Gf hl hn hr hf => e_X5_pop_0 (by rw [hl]; exact hfl) hn hr ⟨rfl, rfl⟩ this p1 p2 G hf)
theorem dv_X5_pop : yX5_pop.cls = RX5 ∧ yX5_pop.cls ≠ "java/lang/invoke/MethodHandle" ∧ yX5_pop.cls ≠ "java/lang/invoke/VarHandle" ∧ (parseMethodDescriptor yX5_pop.desc).map (fun d => d.parameters.length) = some 2 := by decide +kernel
theorem m_X5_drop_f7 : Cond.fieldLink RX5 7 RX5 "now" "[I" ∈ wsX5_drop := by decide +kernel
theorem m_X5_drop_f41 : Cond.fieldLink RX5 41 RX5 "thrown" "I" ∈ wsX5_drop := by decide +kernel
theorem n_X5_drop_X5 : ∀ w ∈ u_ws RX5 TX5 16, w ∈ wsX5_drop := by decide +kernel
set_option maxRecDepth 100000 in
set_option maxHeartbeats 4000000 in
theorem e_X5_drop_16 {X : VX} {B : VB} {z : Int32} {Gf : GH}  (hfx : (xl X).stackTraces = false) (hn : (xme X).name = "drop") (hr : (xme X).sig.returnType = (some .int)) (hE : VE B (z, Gf))  (this : Nat) (s0 : Int32) (s1 : Nat) (G : GH) (hf : (f_X5_drop_16 this s0 s1).1 G = some (z, Gf)) : V X RX5 cX5_drop 1 2 45 wsX5_drop B (QE X (vI z) Gf B) G 16 [(0, .ref this)] [.int s0, .ref s1] := by
  unfold f_X5_drop_16 at hf
  refine v_put 5 6 .int n_X5_drop_X5 tyX5 tyX5_ok nmX5 rfl (by decide) rfl m_X5_drop_f41 rfl (by decide +kernel) rfl rfl dX5_drop_16 hf (fun G _ hf => ?_)
  refine v_aload_n 0 dX5_drop_19 rfl rfl ?_
  refine v_gi 5 6 n_X5_drop_X5 rfl (by decide) rfl m_X5_drop_f41 dX5_drop_20 hf (fun x3 hf => ?_)
  refine v_if_eq 28 dX5_drop_23 (by decide) hf (fun _ hf => ?_) (fun _ hf => ?_)
  · refine v_aload_n 0 dX5_drop_28 rfl rfl ?_
    refine v_callVv 5 0 [] (c_X5_saves (xl X) hfx this) gX5_drop_X5_saves rfl dv_X5_saves (by decide) (by decide) rfl rfl dX5_drop_29 (Nat.le_of_ble_eq_true rfl) rfl hE hf (fun _ G hf => ?_)
    refine v_aload_n 0 dX5_drop_32 rfl rfl ?_
    refine v_gr 5 0 n_X5_drop_X5 rfl (by decide) rfl m_X5_drop_f7 dX5_drop_33 hf (fun r4 hf => ?_)
    refine v_iconst 2 dX5_drop_36 (by decide) ?_
    refine v_dup2 dX5_drop_37 rfl rfl ?_
    refine v_iald dX5_drop_38 hf (fun x5 hf => ?_)
    refine v_iconst 1 dX5_drop_39 (by decide) ?_
    refine v_isub dX5_drop_40 ?_
    refine v_iast dX5_drop_41 hf (fun G _ hf => ?_)
    refine v_aload_n 0 dX5_drop_42 rfl rfl ?_
    refine v_gr 5 0 n_X5_drop_X5 rfl (by decide) rfl m_X5_drop_f7 dX5_drop_43 hf (fun r6 hf => ?_)
    refine v_iconst 2 dX5_drop_46 (by decide) ?_
    refine v_iald dX5_drop_47 hf (fun x7 hf => ?_)
    exact v_iret hr dX5_drop_48 hE hf
  · refine v_iconst 0 dX5_drop_26 (by decide) ?_
    exact v_iret hr dX5_drop_27 hE hf
set_option maxRecDepth 100000 in
set_option maxHeartbeats 4000000 in
theorem e_X5_drop_0 {X : VX} {B : VB} {z : Int32} {Gf : GH}  (hfx : (xl X).stackTraces = false) (hn : (xme X).name = "drop") (hr : (xme X).sig.returnType = (some .int)) (hE : VE B (z, Gf))  (this : Nat) (G : GH) (hf : (f_X5_drop this).1 G = some (z, Gf)) : V X RX5 cX5_drop 1 2 45 wsX5_drop B (QE X (vI z) Gf B) G 0 [(0, .ref this)] [] := by
  unfold f_X5_drop at hf
  refine v_aload_n 0 dX5_drop_0 rfl rfl ?_
  refine v_aload_n 0 dX5_drop_1 rfl rfl ?_
  refine v_gr 5 0 n_X5_drop_X5 rfl (by decide) rfl m_X5_drop_f7 dX5_drop_2 hf (fun r1 hf => ?_)
  refine v_iconst 2 dX5_drop_5 (by decide) ?_
  refine v_iald dX5_drop_6 hf (fun x2 hf => ?_)
  refine v_iconst 1 dX5_drop_7 (by decide) ?_
  refine v_icmp_ne 15 dX5_drop_8 (by decide) hf (fun _ hf => ?_) (fun _ hf => ?_)
  · refine v_iconst 0 dX5_drop_15 (by decide) ?_
    refine v_sub [0] rfl ?_
    exact e_X5_drop_16 hfx hn hr hE this 0 this G hf
  · refine v_iconst 1 dX5_drop_11 (by decide) ?_
    refine v_goto 16 dX5_drop_12 (by decide) ?_
    refine v_sub [0] rfl ?_
    exact e_X5_drop_16 hfx hn hr hE this 1 this G hf
theorem c_X5_drop (l : Launch) (hfl : l.stackTraces = false) (this : Nat) : CM l yX5_drop wsX5_drop 2 45 [.ref this] vI (f_X5_drop this) := CM.start hfl RX5 rfl (by decide +kernel) rfl (Nat.le_of_ble_eq_true rfl) (fun X G z Gf hl hn hr hf => e_X5_drop_0 (by rw [hl]; exact hfl) hn hr ⟨rfl, rfl⟩ this G hf)
theorem dv_X5_drop : yX5_drop.cls = RX5 ∧ yX5_drop.cls ≠ "java/lang/invoke/MethodHandle" ∧ yX5_drop.cls ≠ "java/lang/invoke/VarHandle" ∧ (parseMethodDescriptor yX5_drop.desc).map (fun d => d.parameters.length) = some 0 := by decide +kernel
theorem m_X5_clear_f41 : Cond.fieldLink RX5 41 RX5 "thrown" "I" ∈ wsX5_clear := by decide +kernel
theorem m_X5_clear_f7 : Cond.fieldLink RX5 7 RX5 "now" "[I" ∈ wsX5_clear := by decide +kernel
theorem n_X5_clear_X5 : ∀ w ∈ u_ws RX5 TX5 16, w ∈ wsX5_clear := by decide +kernel
set_option maxRecDepth 100000 in
set_option maxHeartbeats 4000000 in
theorem e_X5_clear_0 {X : VX} {B : VB} {z : Int32} {Gf : GH}  (hfx : (xl X).stackTraces = false) (hn : (xme X).name = "clear") (hr : (xme X).sig.returnType = (some .int)) (hE : VE B (z, Gf))  (this : Nat) (G : GH) (hf : (f_X5_clear this).1 G = some (z, Gf)) : V X RX5 cX5_clear 2 2 45 wsX5_clear B (QE X (vI z) Gf B) G 0 [(0, .ref this)] [] := by
  unfold f_X5_clear at hf
  refine v_aload_n 0 dX5_clear_0 rfl rfl ?_
  refine v_iconst 0 dX5_clear_1 (by decide) ?_
  refine v_put 5 6 .int n_X5_clear_X5 tyX5 tyX5_ok nmX5 rfl (by decide) rfl m_X5_clear_f41 rfl (by decide +kernel) rfl rfl dX5_clear_2 hf (fun G _ hf => ?_)
  refine v_aload_n 0 dX5_clear_5 rfl rfl ?_
  refine v_callVv 5 0 [] (c_X5_saves (xl X) hfx this) gX5_clear_X5_saves rfl dv_X5_saves (by decide) (by decide) rfl rfl dX5_clear_6 (Nat.le_of_ble_eq_true rfl) rfl hE hf (fun _ G hf => ?_)
  refine v_aload_n 0 dX5_clear_9 rfl rfl ?_
  refine v_gr 5 0 n_X5_clear_X5 rfl (by decide) rfl m_X5_clear_f7 dX5_clear_10 hf (fun r1 hf => ?_)
  refine v_iconst 2 dX5_clear_13 (by decide) ?_
  refine v_iald dX5_clear_14 hf (fun x2 hf => ?_)
  refine v_iconst 1 dX5_clear_15 (by decide) ?_
  refine v_isub dX5_clear_16 ?_
  refine v_istore_n [(1, .int (x2 - 1)), (0, .ref this)] dX5_clear_17 rfl (by decide) rfl ?_
  refine v_aload_n 1 dX5_clear_18 rfl rfl ?_
  refine v_gr 5 0 n_X5_clear_X5 rfl (by decide) rfl m_X5_clear_f7 dX5_clear_19 hf (fun r3 hf => ?_)
  refine v_iconst 2 dX5_clear_22 (by decide) ?_
  refine v_iconst 1 dX5_clear_23 (by decide) ?_
  refine v_iast dX5_clear_24 hf (fun G _ hf => ?_)
  refine v_iload_n 0 dX5_clear_25 rfl rfl ?_
  exact v_iret hr dX5_clear_26 hE hf
theorem c_X5_clear (l : Launch) (hfl : l.stackTraces = false) (this : Nat) : CM l yX5_clear wsX5_clear 2 45 [.ref this] vI (f_X5_clear this) := CM.start hfl RX5 rfl (by decide +kernel) rfl (Nat.le_of_ble_eq_true rfl) (fun X G z Gf hl hn hr hf => e_X5_clear_0 (by rw [hl]; exact hfl) hn hr ⟨rfl, rfl⟩ this G hf)
theorem dv_X5_clear : yX5_clear.cls = RX5 ∧ yX5_clear.cls ≠ "java/lang/invoke/MethodHandle" ∧ yX5_clear.cls ≠ "java/lang/invoke/VarHandle" ∧ (parseMethodDescriptor yX5_clear.desc).map (fun d => d.parameters.length) = some 0 := by decide +kernel
set_option maxRecDepth 100000 in
set_option maxHeartbeats 4000000 in
theorem e_X5_told_0 {X : VX} {B : VB} {z : Int32} {Gf : GH}  (hfx : (xl X).stackTraces = false) (hn : (xme X).name = "told") (hr : (xme X).sig.returnType = (some .int)) (hE : VE B (z, Gf))  (this : Nat) (p1 : Int32) (p2 : Int32) (G : GH) (hf : (f_X5_told this p1 p2).1 G = some (z, Gf)) : V X RX5 cX5_told 3 2 44 wsX5_told B (QE X (vI z) Gf B) G 0 [(0, .ref this), (1, .int p1), (2, .int p2)] [] := by
  unfold f_X5_told at hf
  refine v_iload_n 2 dX5_told_0 rfl rfl ?_
  refine v_cases (c := p2 = 0) hf (fun c1_0 hf => ?_) (fun c1_0 hf => ?_)
  · refine v_tblIn (off := 51) 0 52 c1_0 dX5_told_1 (by decide) (by decide) (by decide) (by decide) ?_
    refine v_aload_n 0 dX5_told_52 rfl rfl ?_
    refine v_iload_n 1 dX5_told_53 rfl rfl ?_
    refine v_iconst 0 dX5_told_54 (by decide) ?_
    refine v_callVi 5 2 [.int p1, .int 0] (c_X5_of (xl X) hfx this p1 0) gX5_told_X5_of rfl dv_X5_of (by decide) (by decide) rfl rfl dX5_told_55 (Nat.le_of_ble_eq_true rfl) rfl hE hf (fun x1 G hf => ?_)
    exact v_iret hr dX5_told_58 hE hf
  · refine v_cases (c := p2 = 1) hf (fun c1_1 hf => ?_) (fun c1_1 hf => ?_)
    · refine v_tblIn (off := 58) 1 59 c1_1 dX5_told_1 (by decide) (by decide) (by decide) (by decide) ?_
      refine v_aload_n 0 dX5_told_59 rfl rfl ?_
      refine v_iload_n 1 dX5_told_60 rfl rfl ?_
      refine v_iconst 1 dX5_told_61 (by decide) ?_
      refine v_callVi 5 2 [.int p1, .int 1] (c_X5_of (xl X) hfx this p1 1) gX5_told_X5_of rfl dv_X5_of (by decide) (by decide) rfl rfl dX5_told_62 (Nat.le_of_ble_eq_true rfl) rfl hE hf (fun x2 G hf => ?_)
      exact v_iret hr dX5_told_65 hE hf
    · refine v_cases (c := p2 = 2) hf (fun c1_2 hf => ?_) (fun c1_2 hf => ?_)
      · refine v_tblIn (off := 65) 2 66 c1_2 dX5_told_1 (by decide) (by decide) (by decide) (by decide) ?_
        refine v_aload_n 0 dX5_told_66 rfl rfl ?_
        refine v_iload_n 1 dX5_told_67 rfl rfl ?_
        refine v_iconst 1 dX5_told_68 (by decide) ?_
        refine v_callVi 5 2 [.int p1, .int 1] (c_X5_partOf (xl X) hfx this p1 1) gX5_told_X5_partOf rfl dv_X5_partOf (by decide) (by decide) rfl rfl dX5_told_69 (Nat.le_of_ble_eq_true rfl) rfl hE hf (fun x3 G hf => ?_)
        exact v_iret hr dX5_told_72 hE hf
      · refine v_cases (c := p2 = 3) hf (fun c1_3 hf => ?_) (fun c1_3 hf => ?_)
        · refine v_tblIn (off := 72) 3 73 c1_3 dX5_told_1 (by decide) (by decide) (by decide) (by decide) ?_
          refine v_aload_n 0 dX5_told_73 rfl rfl ?_
          refine v_iload_n 1 dX5_told_74 rfl rfl ?_
          refine v_iconst 0 dX5_told_75 (by decide) ?_
          refine v_callVi 5 2 [.int p1, .int 0] (c_X5_partOf (xl X) hfx this p1 0) gX5_told_X5_partOf rfl dv_X5_partOf (by decide) (by decide) rfl rfl dX5_told_76 (Nat.le_of_ble_eq_true rfl) rfl hE hf (fun x4 G hf => ?_)
          exact v_iret hr dX5_told_79 hE hf
        · refine v_cases (c := p2 = 4) hf (fun c1_4 hf => ?_) (fun c1_4 hf => ?_)
          · refine v_tblIn (off := 79) 4 80 c1_4 dX5_told_1 (by decide) (by decide) (by decide) (by decide) ?_
            refine v_aload_n 0 dX5_told_80 rfl rfl ?_
            refine v_iload_n 1 dX5_told_81 rfl rfl ?_
            refine v_iconst 3 dX5_told_82 (by decide) ?_
            refine v_callVi 5 2 [.int p1, .int 3] (c_X5_of (xl X) hfx this p1 3) gX5_told_X5_of rfl dv_X5_of (by decide) (by decide) rfl rfl dX5_told_83 (Nat.le_of_ble_eq_true rfl) rfl hE hf (fun x5 G hf => ?_)
            exact v_iret hr dX5_told_86 hE hf
          · refine v_cases (c := p2 = 5) hf (fun c1_5 hf => ?_) (fun c1_5 hf => ?_)
            · refine v_tblIn (off := 86) 5 87 c1_5 dX5_told_1 (by decide) (by decide) (by decide) (by decide) ?_
              refine v_aload_n 0 dX5_told_87 rfl rfl ?_
              refine v_iload_n 1 dX5_told_88 rfl rfl ?_
              refine v_iconst 4 dX5_told_89 (by decide) ?_
              refine v_callVi 5 2 [.int p1, .int 4] (c_X5_of (xl X) hfx this p1 4) gX5_told_X5_of rfl dv_X5_of (by decide) (by decide) rfl rfl dX5_told_90 (Nat.le_of_ble_eq_true rfl) rfl hE hf (fun x6 G hf => ?_)
              exact v_iret hr dX5_told_93 hE hf
            · refine v_cases (c := p2 = 6) hf (fun c1_6 hf => ?_) (fun c1_6 hf => ?_)
              · refine v_tblIn (off := 93) 6 94 c1_6 dX5_told_1 (by decide) (by decide) (by decide) (by decide) ?_
                refine v_aload_n 0 dX5_told_94 rfl rfl ?_
                refine v_iload_n 1 dX5_told_95 rfl rfl ?_
                refine v_iconst 5 dX5_told_96 (by decide) ?_
                refine v_callVi 5 2 [.int p1, .int 5] (c_X5_of (xl X) hfx this p1 5) gX5_told_X5_of rfl dv_X5_of (by decide) (by decide) rfl rfl dX5_told_97 (Nat.le_of_ble_eq_true rfl) rfl hE hf (fun x7 G hf => ?_)
                exact v_iret hr dX5_told_100 hE hf
              · refine v_cases (c := p2 = 7) hf (fun c1_7 hf => ?_) (fun c1_7 hf => ?_)
                · refine v_tblIn (off := 100) 7 101 c1_7 dX5_told_1 (by decide) (by decide) (by decide) (by decide) ?_
                  refine v_aload_n 0 dX5_told_101 rfl rfl ?_
                  refine v_iload_n 1 dX5_told_102 rfl rfl ?_
                  refine v_bipush 6 dX5_told_103 (by decide) ?_
                  refine v_callVi 5 2 [.int p1, .int 6] (c_X5_of (xl X) hfx this p1 6) gX5_told_X5_of rfl dv_X5_of (by decide) (by decide) rfl rfl dX5_told_105 (Nat.le_of_ble_eq_true rfl) rfl hE hf (fun x8 G hf => ?_)
                  exact v_iret hr dX5_told_108 hE hf
                · refine v_cases (c := p2 = 8) hf (fun c1_8 hf => ?_) (fun c1_8 hf => ?_)
                  · refine v_tblIn (off := 108) 8 109 c1_8 dX5_told_1 (by decide) (by decide) (by decide) (by decide) ?_
                    refine v_aload_n 0 dX5_told_109 rfl rfl ?_
                    refine v_iload_n 1 dX5_told_110 rfl rfl ?_
                    refine v_bipush 7 dX5_told_111 (by decide) ?_
                    refine v_callVi 5 2 [.int p1, .int 7] (c_X5_of (xl X) hfx this p1 7) gX5_told_X5_of rfl dv_X5_of (by decide) (by decide) rfl rfl dX5_told_113 (Nat.le_of_ble_eq_true rfl) rfl hE hf (fun x9 G hf => ?_)
                    exact v_iret hr dX5_told_116 hE hf
                  · refine v_tblOut 8 117 dX5_told_1 (by decide) rfl (lt_s (lt_s (lt_s (lt_s (lt_s (lt_s (lt_s (lt_s (lt_s lt_0 c1_0) c1_1) c1_2) c1_3) c1_4) c1_5) c1_6) c1_7) c1_8) (by decide) ?_
                    refine v_aload_n 0 dX5_told_117 rfl rfl ?_
                    refine v_iload_n 1 dX5_told_118 rfl rfl ?_
                    refine v_bipush 8 dX5_told_119 (by decide) ?_
                    refine v_callVi 5 2 [.int p1, .int 8] (c_X5_of (xl X) hfx this p1 8) gX5_told_X5_of rfl dv_X5_of (by decide) (by decide) rfl rfl dX5_told_121 (Nat.le_of_ble_eq_true rfl) rfl hE hf (fun x10 G hf => ?_)
                    exact v_iret hr dX5_told_124 hE hf
theorem c_X5_told (l : Launch) (hfl : l.stackTraces = false) (this : Nat) (p1 : Int32) (p2 : Int32) : CM l yX5_told wsX5_told 2 44 [.ref this, .int p1, .int p2] vI (f_X5_told this p1 p2) := CM.start hfl RX5 rfl (by decide +kernel) rfl (Nat.le_of_ble_eq_true rfl) (fun X G z Gf hl hn hr hf => e_X5_told_0 (by rw [hl]; exact hfl) hn hr ⟨rfl, rfl⟩ this p1 p2 G hf)
theorem dv_X5_told : yX5_told.cls = RX5 ∧ yX5_told.cls ≠ "java/lang/invoke/MethodHandle" ∧ yX5_told.cls ≠ "java/lang/invoke/VarHandle" ∧ (parseMethodDescriptor yX5_told.desc).map (fun d => d.parameters.length) = some 2 := by decide +kernel
theorem m_X5_version_f41 : Cond.fieldLink RX5 41 RX5 "thrown" "I" ∈ wsX5_version := by decide +kernel
theorem n_X5_version_X5 : ∀ w ∈ u_ws RX5 TX5 16, w ∈ wsX5_version := by decide +kernel
set_option maxRecDepth 100000 in
set_option maxHeartbeats 4000000 in
theorem e_X5_version_0 {X : VX} {B : VB} {z : Int32} {Gf : GH}  (hfx : (xl X).stackTraces = false) (hn : (xme X).name = "version") (hr : (xme X).sig.returnType = (some .int)) (hE : VE B (z, Gf))  (this : Nat) (p1 : Int32) (p2 : Int32) (G : GH) (hf : (f_X5_version this p1 p2).1 G = some (z, Gf)) : V X RX5 cX5_version 3 3 66 wsX5_version B (QE X (vI z) Gf B) G 0 [(0, .ref this), (1, .int p1), (2, .int p2)] [] := by
  unfold f_X5_version at hf
  refine v_aload_n 0 dX5_version_0 rfl rfl ?_
  refine v_aload_n 0 dX5_version_1 rfl rfl ?_
  refine v_iload_n 1 dX5_version_2 rfl rfl ?_
  refine v_callVi 5 1 [.int p1] (c_X5_isVersion (xl X) hfx this p1) gX5_version_X5_isVersion rfl dv_X5_isVersion (by decide) (by decide) rfl rfl dX5_version_3 (Nat.le_of_ble_eq_true rfl) rfl hE hf (fun x1 G hf => ?_)
  refine v_if_ne 13 dX5_version_6 (by decide) hf (fun _ hf => ?_) (fun _ hf => ?_)
  · refine v_iload_n 2 dX5_version_13 rfl rfl ?_
    refine v_iconst 0 dX5_version_14 (by decide) ?_
    refine v_bipush 9 dX5_version_15 (by decide) ?_
    refine v_callSi 3 [.int p2, .int 0, .int 9] (c_X5_in (xl X) hfx p2 0 9) gX5_version_X5_in rfl dn_X5_in (by decide) (by decide) rfl dX5_version_17 (Nat.le_of_ble_eq_true rfl) rfl hE hf (fun x2 G hf => ?_)
    refine v_if_ne 27 dX5_version_20 (by decide) hf (fun _ hf => ?_) (fun _ hf => ?_)
    · refine v_iconst 0 dX5_version_27 (by decide) ?_
      refine v_put 5 6 .int n_X5_version_X5 tyX5 tyX5_ok nmX5 rfl (by decide) rfl m_X5_version_f41 rfl (by decide +kernel) rfl rfl dX5_version_28 hf (fun G _ hf => ?_)
      refine v_aload_n 0 dX5_version_31 rfl rfl ?_
      refine v_gi 5 6 n_X5_version_X5 rfl (by decide) rfl m_X5_version_f41 dX5_version_32 hf (fun x3 hf => ?_)
      refine v_if_eq 42 dX5_version_35 (by decide) hf (fun _ hf => ?_) (fun _ hf => ?_)
      · refine v_aload_n 0 dX5_version_42 rfl rfl ?_
        refine v_iload_n 1 dX5_version_43 rfl rfl ?_
        refine v_iload_n 2 dX5_version_44 rfl rfl ?_
        refine v_callVi 5 2 [.int p1, .int p2] (c_X5_told (xl X) hfx this p1 p2) gX5_version_X5_told rfl dv_X5_told (by decide) (by decide) rfl rfl dX5_version_45 (Nat.le_of_ble_eq_true rfl) rfl hE hf (fun x4 G hf => ?_)
        exact v_iret hr dX5_version_48 hE hf
      · refine v_iconst 0 dX5_version_38 (by decide) ?_
        refine v_goto 48 dX5_version_39 (by decide) ?_
        exact v_iret hr dX5_version_48 hE hf
    · refine v_iconst 2 dX5_version_23 (by decide) ?_
      refine v_goto 28 dX5_version_24 (by decide) ?_
      refine v_put 5 6 .int n_X5_version_X5 tyX5 tyX5_ok nmX5 rfl (by decide) rfl m_X5_version_f41 rfl (by decide +kernel) rfl rfl dX5_version_28 hf (fun G _ hf => ?_)
      refine v_aload_n 0 dX5_version_31 rfl rfl ?_
      refine v_gi 5 6 n_X5_version_X5 rfl (by decide) rfl m_X5_version_f41 dX5_version_32 hf (fun x5 hf => ?_)
      refine v_if_eq 42 dX5_version_35 (by decide) hf (fun _ hf => ?_) (fun _ hf => ?_)
      · refine v_aload_n 0 dX5_version_42 rfl rfl ?_
        refine v_iload_n 1 dX5_version_43 rfl rfl ?_
        refine v_iload_n 2 dX5_version_44 rfl rfl ?_
        refine v_callVi 5 2 [.int p1, .int p2] (c_X5_told (xl X) hfx this p1 p2) gX5_version_X5_told rfl dv_X5_told (by decide) (by decide) rfl rfl dX5_version_45 (Nat.le_of_ble_eq_true rfl) rfl hE hf (fun x6 G hf => ?_)
        exact v_iret hr dX5_version_48 hE hf
      · refine v_iconst 0 dX5_version_38 (by decide) ?_
        refine v_goto 48 dX5_version_39 (by decide) ?_
        exact v_iret hr dX5_version_48 hE hf
  · refine v_iconst 1 dX5_version_9 (by decide) ?_
    refine v_goto 28 dX5_version_10 (by decide) ?_
    refine v_put 5 6 .int n_X5_version_X5 tyX5 tyX5_ok nmX5 rfl (by decide) rfl m_X5_version_f41 rfl (by decide +kernel) rfl rfl dX5_version_28 hf (fun G _ hf => ?_)
    refine v_aload_n 0 dX5_version_31 rfl rfl ?_
    refine v_gi 5 6 n_X5_version_X5 rfl (by decide) rfl m_X5_version_f41 dX5_version_32 hf (fun x7 hf => ?_)
    refine v_if_eq 42 dX5_version_35 (by decide) hf (fun _ hf => ?_) (fun _ hf => ?_)
    · refine v_aload_n 0 dX5_version_42 rfl rfl ?_
      refine v_iload_n 1 dX5_version_43 rfl rfl ?_
      refine v_iload_n 2 dX5_version_44 rfl rfl ?_
      refine v_callVi 5 2 [.int p1, .int p2] (c_X5_told (xl X) hfx this p1 p2) gX5_version_X5_told rfl dv_X5_told (by decide) (by decide) rfl rfl dX5_version_45 (Nat.le_of_ble_eq_true rfl) rfl hE hf (fun x8 G hf => ?_)
      exact v_iret hr dX5_version_48 hE hf
    · refine v_iconst 0 dX5_version_38 (by decide) ?_
      refine v_goto 48 dX5_version_39 (by decide) ?_
      exact v_iret hr dX5_version_48 hE hf
theorem c_X5_version (l : Launch) (hfl : l.stackTraces = false) (this : Nat) (p1 : Int32) (p2 : Int32) : CM l yX5_version wsX5_version 3 66 [.ref this, .int p1, .int p2] vI (f_X5_version this p1 p2) := CM.start hfl RX5 rfl (by decide +kernel) rfl (Nat.le_of_ble_eq_true rfl) (fun X G z Gf hl hn hr hf => e_X5_version_0 (by rw [hl]; exact hfl) hn hr ⟨rfl, rfl⟩ this p1 p2 G hf)
theorem dv_X5_version : yX5_version.cls = RX5 ∧ yX5_version.cls ≠ "java/lang/invoke/MethodHandle" ∧ yX5_version.cls ≠ "java/lang/invoke/VarHandle" ∧ (parseMethodDescriptor yX5_version.desc).map (fun d => d.parameters.length) = some 2 := by decide +kernel
theorem m_X5_value_f41 : Cond.fieldLink RX5 41 RX5 "thrown" "I" ∈ wsX5_value := by decide +kernel
theorem n_X5_value_X5 : ∀ w ∈ u_ws RX5 TX5 16, w ∈ wsX5_value := by decide +kernel
set_option maxRecDepth 100000 in
set_option maxHeartbeats 4000000 in
theorem e_X5_value_0 {X : VX} {B : VB} {z : Int32} {Gf : GH}  (hfx : (xl X).stackTraces = false) (hn : (xme X).name = "value") (hr : (xme X).sig.returnType = (some .int)) (hE : VE B (z, Gf))  (this : Nat) (p1 : Int32) (G : GH) (hf : (f_X5_value this p1).1 G = some (z, Gf)) : V X RX5 cX5_value 2 2 43 wsX5_value B (QE X (vI z) Gf B) G 0 [(0, .ref this), (1, .int p1)] [] := by
  unfold f_X5_value at hf
  refine v_aload_n 0 dX5_value_0 rfl rfl ?_
  refine v_aload_n 0 dX5_value_1 rfl rfl ?_
  refine v_iload_n 1 dX5_value_2 rfl rfl ?_
  refine v_callVi 5 1 [.int p1] (c_X5_isVersion (xl X) hfx this p1) gX5_value_X5_isVersion rfl dv_X5_isVersion (by decide) (by decide) rfl rfl dX5_value_3 (Nat.le_of_ble_eq_true rfl) rfl hE hf (fun x1 G hf => ?_)
  refine v_if_ne 13 dX5_value_6 (by decide) hf (fun _ hf => ?_) (fun _ hf => ?_)
  · refine v_iload_n 1 dX5_value_13 rfl rfl ?_
    refine v_if_ne 21 dX5_value_14 (by decide) hf (fun _ hf => ?_) (fun _ hf => ?_)
    · refine v_iconst 0 dX5_value_21 (by decide) ?_
      refine v_put 5 6 .int n_X5_value_X5 tyX5 tyX5_ok nmX5 rfl (by decide) rfl m_X5_value_f41 rfl (by decide +kernel) rfl rfl dX5_value_22 hf (fun G _ hf => ?_)
      refine v_aload_n 0 dX5_value_25 rfl rfl ?_
      refine v_gi 5 6 n_X5_value_X5 rfl (by decide) rfl m_X5_value_f41 dX5_value_26 hf (fun x2 hf => ?_)
      refine v_if_eq 36 dX5_value_29 (by decide) hf (fun _ hf => ?_) (fun _ hf => ?_)
      · refine v_aload_n 0 dX5_value_36 rfl rfl ?_
        refine v_iload_n 1 dX5_value_37 rfl rfl ?_
        refine v_bipush 9 dX5_value_38 (by decide) ?_
        refine v_callVi 5 2 [.int p1, .int 9] (c_X5_of (xl X) hfx this p1 9) gX5_value_X5_of rfl dv_X5_of (by decide) (by decide) rfl rfl dX5_value_40 (Nat.le_of_ble_eq_true rfl) rfl hE hf (fun x3 G hf => ?_)
        exact v_iret hr dX5_value_43 hE hf
      · refine v_iconst 0 dX5_value_32 (by decide) ?_
        refine v_goto 43 dX5_value_33 (by decide) ?_
        exact v_iret hr dX5_value_43 hE hf
    · refine v_iconst 2 dX5_value_17 (by decide) ?_
      refine v_goto 22 dX5_value_18 (by decide) ?_
      refine v_put 5 6 .int n_X5_value_X5 tyX5 tyX5_ok nmX5 rfl (by decide) rfl m_X5_value_f41 rfl (by decide +kernel) rfl rfl dX5_value_22 hf (fun G _ hf => ?_)
      refine v_aload_n 0 dX5_value_25 rfl rfl ?_
      refine v_gi 5 6 n_X5_value_X5 rfl (by decide) rfl m_X5_value_f41 dX5_value_26 hf (fun x4 hf => ?_)
      refine v_if_eq 36 dX5_value_29 (by decide) hf (fun _ hf => ?_) (fun _ hf => ?_)
      · refine v_aload_n 0 dX5_value_36 rfl rfl ?_
        refine v_iload_n 1 dX5_value_37 rfl rfl ?_
        refine v_bipush 9 dX5_value_38 (by decide) ?_
        refine v_callVi 5 2 [.int p1, .int 9] (c_X5_of (xl X) hfx this p1 9) gX5_value_X5_of rfl dv_X5_of (by decide) (by decide) rfl rfl dX5_value_40 (Nat.le_of_ble_eq_true rfl) rfl hE hf (fun x5 G hf => ?_)
        exact v_iret hr dX5_value_43 hE hf
      · refine v_iconst 0 dX5_value_32 (by decide) ?_
        refine v_goto 43 dX5_value_33 (by decide) ?_
        exact v_iret hr dX5_value_43 hE hf
  · refine v_iconst 1 dX5_value_9 (by decide) ?_
    refine v_goto 22 dX5_value_10 (by decide) ?_
    refine v_put 5 6 .int n_X5_value_X5 tyX5 tyX5_ok nmX5 rfl (by decide) rfl m_X5_value_f41 rfl (by decide +kernel) rfl rfl dX5_value_22 hf (fun G _ hf => ?_)
    refine v_aload_n 0 dX5_value_25 rfl rfl ?_
    refine v_gi 5 6 n_X5_value_X5 rfl (by decide) rfl m_X5_value_f41 dX5_value_26 hf (fun x6 hf => ?_)
    refine v_if_eq 36 dX5_value_29 (by decide) hf (fun _ hf => ?_) (fun _ hf => ?_)
    · refine v_aload_n 0 dX5_value_36 rfl rfl ?_
      refine v_iload_n 1 dX5_value_37 rfl rfl ?_
      refine v_bipush 9 dX5_value_38 (by decide) ?_
      refine v_callVi 5 2 [.int p1, .int 9] (c_X5_of (xl X) hfx this p1 9) gX5_value_X5_of rfl dv_X5_of (by decide) (by decide) rfl rfl dX5_value_40 (Nat.le_of_ble_eq_true rfl) rfl hE hf (fun x7 G hf => ?_)
      exact v_iret hr dX5_value_43 hE hf
    · refine v_iconst 0 dX5_value_32 (by decide) ?_
      refine v_goto 43 dX5_value_33 (by decide) ?_
      exact v_iret hr dX5_value_43 hE hf
theorem c_X5_value (l : Launch) (hfl : l.stackTraces = false) (this : Nat) (p1 : Int32) : CM l yX5_value wsX5_value 2 43 [.ref this, .int p1] vI (f_X5_value this p1) := CM.start hfl RX5 rfl (by decide +kernel) rfl (Nat.le_of_ble_eq_true rfl) (fun X G z Gf hl hn hr hf => e_X5_value_0 (by rw [hl]; exact hfl) hn hr ⟨rfl, rfl⟩ this p1 G hf)
theorem dv_X5_value : yX5_value.cls = RX5 ∧ yX5_value.cls ≠ "java/lang/invoke/MethodHandle" ∧ yX5_value.cls ≠ "java/lang/invoke/VarHandle" ∧ (parseMethodDescriptor yX5_value.desc).map (fun d => d.parameters.length) = some 1 := by decide +kernel
set_option maxRecDepth 100000 in
set_option maxHeartbeats 4000000 in
theorem e_X5_isPlace_0 {X : VX} {B : VB} {z : Int32} {Gf : GH}  (hfx : (xl X).stackTraces = false) (hn : (xme X).name = "isPlace") (hr : (xme X).sig.returnType = (some .boolean)) (hE : VE B (z, Gf))  (this : Nat) (p1 : Int32) (p2 : Int32) (G : GH) (hf : (f_X5_isPlace this p1 p2).1 G = some (z, Gf)) : V X RX5 cX5_isPlace 3 2 43 wsX5_isPlace B (QE X (vI z) Gf B) G 0 [(0, .ref this), (1, .int p1), (2, .int p2)] [] := by
  unfold f_X5_isPlace at hf
  refine v_aload_n 0 dX5_isPlace_0 rfl rfl ?_
  refine v_iload_n 1 dX5_isPlace_1 rfl rfl ?_
  refine v_callVi 5 1 [.int p1] (c_X5_isVersion (xl X) hfx this p1) gX5_isPlace_X5_isVersion rfl dv_X5_isVersion (by decide) (by decide) rfl rfl dX5_isPlace_2 (Nat.le_of_ble_eq_true rfl) rfl hE hf (fun x1 G hf => ?_)
  refine v_if_eq 28 dX5_isPlace_5 (by decide) hf (fun _ hf => ?_) (fun _ hf => ?_)
  · refine v_iconst 0 dX5_isPlace_28 (by decide) ?_
    exact v_zret hr dX5_isPlace_29 hE hf
  · refine v_iload_n 2 dX5_isPlace_8 rfl rfl ?_
    refine v_iconst 0 dX5_isPlace_9 (by decide) ?_
    refine v_aload_n 0 dX5_isPlace_10 rfl rfl ?_
    refine v_iload_n 1 dX5_isPlace_11 rfl rfl ?_
    refine v_iconst 1 dX5_isPlace_12 (by decide) ?_
    refine v_callVi 5 2 [.int p1, .int 1] (c_X5_of (xl X) hfx this p1 1) gX5_isPlace_X5_of rfl dv_X5_of (by decide) (by decide) rfl rfl dX5_isPlace_13 (Nat.le_of_ble_eq_true rfl) rfl hE hf (fun x2 G hf => ?_)
    refine v_iconst 1 dX5_isPlace_16 (by decide) ?_
    refine v_isub dX5_isPlace_17 ?_
    refine v_callSi 3 [.int p2, .int 0, .int (x2 - 1)] (c_X5_in (xl X) hfx p2 0 (x2 - 1)) gX5_isPlace_X5_in rfl dn_X5_in (by decide) (by decide) rfl dX5_isPlace_18 (Nat.le_of_ble_eq_true rfl) rfl hE hf (fun x3 G hf => ?_)
    refine v_if_eq 28 dX5_isPlace_21 (by decide) hf (fun _ hf => ?_) (fun _ hf => ?_)
    · refine v_iconst 0 dX5_isPlace_28 (by decide) ?_
      exact v_zret hr dX5_isPlace_29 hE hf
    · refine v_iconst 1 dX5_isPlace_24 (by decide) ?_
      refine v_goto 29 dX5_isPlace_25 (by decide) ?_
      exact v_zret hr dX5_isPlace_29 hE hf
theorem c_X5_isPlace (l : Launch) (hfl : l.stackTraces = false) (this : Nat) (p1 : Int32) (p2 : Int32) : CM l yX5_isPlace wsX5_isPlace 2 43 [.ref this, .int p1, .int p2] vI (f_X5_isPlace this p1 p2) := CM.start hfl RX5 rfl (by decide +kernel) rfl (Nat.le_of_ble_eq_true rfl) (fun X G z Gf hl hn hr hf => e_X5_isPlace_0 (by rw [hl]; exact hfl) hn hr ⟨rfl, rfl⟩ this p1 p2 G hf)
theorem dv_X5_isPlace : yX5_isPlace.cls = RX5 ∧ yX5_isPlace.cls ≠ "java/lang/invoke/MethodHandle" ∧ yX5_isPlace.cls ≠ "java/lang/invoke/VarHandle" ∧ (parseMethodDescriptor yX5_isPlace.desc).map (fun d => d.parameters.length) = some 2 := by decide +kernel
theorem m_X5_at_f41 : Cond.fieldLink RX5 41 RX5 "thrown" "I" ∈ wsX5_at := by decide +kernel
theorem n_X5_at_X5 : ∀ w ∈ u_ws RX5 TX5 16, w ∈ wsX5_at := by decide +kernel
set_option maxRecDepth 100000 in
set_option maxHeartbeats 4000000 in
theorem e_X5_at_0 {X : VX} {B : VB} {z : Int32} {Gf : GH}  (hfx : (xl X).stackTraces = false) (hn : (xme X).name = "at") (hr : (xme X).sig.returnType = (some .int)) (hE : VE B (z, Gf))  (this : Nat) (p1 : Int32) (p2 : Int32) (G : GH) (hf : (f_X5_at this p1 p2).1 G = some (z, Gf)) : V X RX5 cX5_at 3 4 92 wsX5_at B (QE X (vI z) Gf B) G 0 [(0, .ref this), (1, .int p1), (2, .int p2)] [] := by
  unfold f_X5_at at hf
  refine v_aload_n 0 dX5_at_0 rfl rfl ?_
  refine v_aload_n 0 dX5_at_1 rfl rfl ?_
  refine v_iload_n 1 dX5_at_2 rfl rfl ?_
  refine v_iload_n 2 dX5_at_3 rfl rfl ?_
  refine v_callVi 5 2 [.int p1, .int p2] (c_X5_isPlace (xl X) hfx this p1 p2) gX5_at_X5_isPlace rfl dv_X5_isPlace (by decide) (by decide) rfl rfl dX5_at_4 (Nat.le_of_ble_eq_true rfl) rfl hE hf (fun x1 G hf => ?_)
  refine v_if_ne 14 dX5_at_7 (by decide) hf (fun _ hf => ?_) (fun _ hf => ?_)
  · refine v_iconst 0 dX5_at_14 (by decide) ?_
    refine v_put 5 6 .int n_X5_at_X5 tyX5 tyX5_ok nmX5 rfl (by decide) rfl m_X5_at_f41 rfl (by decide +kernel) rfl rfl dX5_at_15 hf (fun G _ hf => ?_)
    refine v_aload_n 0 dX5_at_18 rfl rfl ?_
    refine v_gi 5 6 n_X5_at_X5 rfl (by decide) rfl m_X5_at_f41 dX5_at_19 hf (fun x2 hf => ?_)
    refine v_if_eq 29 dX5_at_22 (by decide) hf (fun _ hf => ?_) (fun _ hf => ?_)
    · refine v_aload_n 0 dX5_at_29 rfl rfl ?_
      refine v_iload_n 1 dX5_at_30 rfl rfl ?_
      refine v_iload_n 2 dX5_at_31 rfl rfl ?_
      refine v_callVi 5 2 [.int p1, .int p2] (c_X5_valueAt (xl X) hfx this p1 p2) gX5_at_X5_valueAt rfl dv_X5_valueAt (by decide) (by decide) rfl rfl dX5_at_32 (Nat.le_of_ble_eq_true rfl) rfl hE hf (fun x3 G hf => ?_)
      exact v_iret hr dX5_at_35 hE hf
    · refine v_iconst 0 dX5_at_25 (by decide) ?_
      refine v_goto 35 dX5_at_26 (by decide) ?_
      exact v_iret hr dX5_at_35 hE hf
  · refine v_iconst 1 dX5_at_10 (by decide) ?_
    refine v_goto 15 dX5_at_11 (by decide) ?_
    refine v_put 5 6 .int n_X5_at_X5 tyX5 tyX5_ok nmX5 rfl (by decide) rfl m_X5_at_f41 rfl (by decide +kernel) rfl rfl dX5_at_15 hf (fun G _ hf => ?_)
    refine v_aload_n 0 dX5_at_18 rfl rfl ?_
    refine v_gi 5 6 n_X5_at_X5 rfl (by decide) rfl m_X5_at_f41 dX5_at_19 hf (fun x4 hf => ?_)
    refine v_if_eq 29 dX5_at_22 (by decide) hf (fun _ hf => ?_) (fun _ hf => ?_)
    · refine v_aload_n 0 dX5_at_29 rfl rfl ?_
      refine v_iload_n 1 dX5_at_30 rfl rfl ?_
      refine v_iload_n 2 dX5_at_31 rfl rfl ?_
      refine v_callVi 5 2 [.int p1, .int p2] (c_X5_valueAt (xl X) hfx this p1 p2) gX5_at_X5_valueAt rfl dv_X5_valueAt (by decide) (by decide) rfl rfl dX5_at_32 (Nat.le_of_ble_eq_true rfl) rfl hE hf (fun x5 G hf => ?_)
      exact v_iret hr dX5_at_35 hE hf
    · refine v_iconst 0 dX5_at_25 (by decide) ?_
      refine v_goto 35 dX5_at_26 (by decide) ?_
      exact v_iret hr dX5_at_35 hE hf
theorem c_X5_at (l : Launch) (hfl : l.stackTraces = false) (this : Nat) (p1 : Int32) (p2 : Int32) : CM l yX5_at wsX5_at 4 92 [.ref this, .int p1, .int p2] vI (f_X5_at this p1 p2) := CM.start hfl RX5 rfl (by decide +kernel) rfl (Nat.le_of_ble_eq_true rfl) (fun X G z Gf hl hn hr hf => e_X5_at_0 (by rw [hl]; exact hfl) hn hr ⟨rfl, rfl⟩ this p1 p2 G hf)
theorem dv_X5_at : yX5_at.cls = RX5 ∧ yX5_at.cls ≠ "java/lang/invoke/MethodHandle" ∧ yX5_at.cls ≠ "java/lang/invoke/VarHandle" ∧ (parseMethodDescriptor yX5_at.desc).map (fun d => d.parameters.length) = some 2 := by decide +kernel
theorem m_X5_steps_f41 : Cond.fieldLink RX5 41 RX5 "thrown" "I" ∈ wsX5_steps := by decide +kernel
theorem n_X5_steps_X5 : ∀ w ∈ u_ws RX5 TX5 16, w ∈ wsX5_steps := by decide +kernel
set_option maxRecDepth 100000 in
set_option maxHeartbeats 4000000 in
theorem e_X5_steps_15 {X : VX} {B : VB} {z : Int32} {Gf : GH}  (hfx : (xl X).stackTraces = false) (hn : (xme X).name = "steps") (hr : (xme X).sig.returnType = (some .int)) (hE : VE B (z, Gf))  (this : Nat) (p1 : Int32) (p2 : Int32) (s0 : Int32) (s1 : Nat) (G : GH) (hf : (f_X5_steps_15 this p1 p2 s0 s1).1 G = some (z, Gf)) : V X RX5 cX5_steps 3 3 65 wsX5_steps B (QE X (vI z) Gf B) G 15 [(0, .ref this), (1, .int p1), (2, .int p2)] [.int s0, .ref s1] := by
  unfold f_X5_steps_15 at hf
  refine v_put 5 6 .int n_X5_steps_X5 tyX5 tyX5_ok nmX5 rfl (by decide) rfl m_X5_steps_f41 rfl (by decide +kernel) rfl rfl dX5_steps_15 hf (fun G _ hf => ?_)
  refine v_aload_n 0 dX5_steps_18 rfl rfl ?_
  refine v_gi 5 6 n_X5_steps_X5 rfl (by decide) rfl m_X5_steps_f41 dX5_steps_19 hf (fun x2 hf => ?_)
  refine v_if_eq 27 dX5_steps_22 (by decide) hf (fun _ hf => ?_) (fun _ hf => ?_)
  · refine v_iload_n 2 dX5_steps_27 rfl rfl ?_
    refine v_aload_n 0 dX5_steps_28 rfl rfl ?_
    refine v_iload_n 1 dX5_steps_29 rfl rfl ?_
    refine v_iconst 2 dX5_steps_30 (by decide) ?_
    refine v_callVi 5 2 [.int p1, .int 2] (c_X5_of (xl X) hfx this p1 2) gX5_steps_X5_of rfl dv_X5_of (by decide) (by decide) rfl rfl dX5_steps_31 (Nat.le_of_ble_eq_true rfl) rfl hE hf (fun x3 G hf => ?_)
    refine v_icmp_ge 43 dX5_steps_34 (by decide) hf (fun _ hf => ?_) (fun _ hf => ?_)
    · refine v_aload_n 0 dX5_steps_43 rfl rfl ?_
      refine v_iload_n 1 dX5_steps_44 rfl rfl ?_
      refine v_iconst 1 dX5_steps_45 (by decide) ?_
      refine v_callVi 5 2 [.int p1, .int 1] (c_X5_of (xl X) hfx this p1 1) gX5_steps_X5_of rfl dv_X5_of (by decide) (by decide) rfl rfl dX5_steps_46 (Nat.le_of_ble_eq_true rfl) rfl hE hf (fun x4 G hf => ?_)
      refine v_iload_n 2 dX5_steps_49 rfl rfl ?_
      refine v_isub dX5_steps_50 ?_
      exact v_iret hr dX5_steps_51 hE hf
    · refine v_iload_n 2 dX5_steps_37 rfl rfl ?_
      refine v_iconst 1 dX5_steps_38 (by decide) ?_
      refine v_iadd dX5_steps_39 ?_
      refine v_goto 51 dX5_steps_40 (by decide) ?_
      exact v_iret hr dX5_steps_51 hE hf
  · refine v_iconst 0 dX5_steps_25 (by decide) ?_
    exact v_iret hr dX5_steps_26 hE hf
set_option maxRecDepth 100000 in
set_option maxHeartbeats 4000000 in
theorem e_X5_steps_0 {X : VX} {B : VB} {z : Int32} {Gf : GH}  (hfx : (xl X).stackTraces = false) (hn : (xme X).name = "steps") (hr : (xme X).sig.returnType = (some .int)) (hE : VE B (z, Gf))  (this : Nat) (p1 : Int32) (p2 : Int32) (G : GH) (hf : (f_X5_steps this p1 p2).1 G = some (z, Gf)) : V X RX5 cX5_steps 3 3 65 wsX5_steps B (QE X (vI z) Gf B) G 0 [(0, .ref this), (1, .int p1), (2, .int p2)] [] := by
  unfold f_X5_steps at hf
  refine v_aload_n 0 dX5_steps_0 rfl rfl ?_
  refine v_aload_n 0 dX5_steps_1 rfl rfl ?_
  refine v_iload_n 1 dX5_steps_2 rfl rfl ?_
  refine v_iload_n 2 dX5_steps_3 rfl rfl ?_
  refine v_callVi 5 2 [.int p1, .int p2] (c_X5_isPlace (xl X) hfx this p1 p2) gX5_steps_X5_isPlace rfl dv_X5_isPlace (by decide) (by decide) rfl rfl dX5_steps_4 (Nat.le_of_ble_eq_true rfl) rfl hE hf (fun x1 G hf => ?_)
  refine v_if_ne 14 dX5_steps_7 (by decide) hf (fun _ hf => ?_) (fun _ hf => ?_)
  · refine v_iconst 0 dX5_steps_14 (by decide) ?_
    refine v_sub [0, 1, 2] rfl ?_
    exact e_X5_steps_15 hfx hn hr hE this p1 p2 0 this G hf
  · refine v_iconst 1 dX5_steps_10 (by decide) ?_
    refine v_goto 15 dX5_steps_11 (by decide) ?_
    refine v_sub [0, 1, 2] rfl ?_
    exact e_X5_steps_15 hfx hn hr hE this p1 p2 1 this G hf
theorem c_X5_steps (l : Launch) (hfl : l.stackTraces = false) (this : Nat) (p1 : Int32) (p2 : Int32) : CM l yX5_steps wsX5_steps 3 65 [.ref this, .int p1, .int p2] vI (f_X5_steps this p1 p2) := CM.start hfl RX5 rfl (by decide +kernel) rfl (Nat.le_of_ble_eq_true rfl) (fun X G z Gf hl hn hr hf => e_X5_steps_0 (by rw [hl]; exact hfl) hn hr ⟨rfl, rfl⟩ this p1 p2 G hf)
theorem dv_X5_steps : yX5_steps.cls = RX5 ∧ yX5_steps.cls ≠ "java/lang/invoke/MethodHandle" ∧ yX5_steps.cls ≠ "java/lang/invoke/VarHandle" ∧ (parseMethodDescriptor yX5_steps.desc).map (fun d => d.parameters.length) = some 2 := by decide +kernel
theorem m_X5_hasChild_f7 : Cond.fieldLink RX5 7 RX5 "now" "[I" ∈ wsX5_hasChild := by decide +kernel
theorem n_X5_hasChild_X5 : ∀ w ∈ u_ws RX5 TX5 16, w ∈ wsX5_hasChild := by decide +kernel
set_option maxRecDepth 100000 in
set_option maxHeartbeats 4000000 in
theorem e_X5_hasChild_4 {X : VX} {B : VB} {z : Int32} {Gf : GH}  (hfx : (xl X).stackTraces = false) (hn : (xme X).name = "hasChild") (hr : (xme X).sig.returnType = (some .boolean)) (hE : VE B (z, Gf))  : ∀ (n : Nat) (this : Nat) (p1 : Int32) (l2 : Int32) (G : GH), (f_X5_hasChild_4 n this p1 l2).1 G = some (z, Gf) → V X RX5 cX5_hasChild 3 1 22 wsX5_hasChild B (QE X (vI z) Gf B) G 4 [(0, .ref this), (1, .int p1), (2, .int l2)] [] := by
  intro n
  induction n with
  | zero =>
    intro this p1 l2 G hf
    have h0 : (none : Option (Int32 × GH)) = some (z, Gf) := hf
    cases h0
  | succ n ih =>
    intro this p1 l2 G hf
    rw [f_X5_hasChild_4.eq_2] at hf
    refine v_iload_n 2 dX5_hasChild_4 rfl rfl ?_
    refine v_aload_n 0 dX5_hasChild_5 rfl rfl ?_
    refine v_gr 5 0 n_X5_hasChild_X5 rfl (by decide) rfl m_X5_hasChild_f7 dX5_hasChild_6 hf (fun r1 hf => ?_)
    refine v_iconst 2 dX5_hasChild_9 (by decide) ?_
    refine v_iald dX5_hasChild_10 hf (fun x2 hf => ?_)
    refine v_icmp_ge 32 dX5_hasChild_11 (by decide) hf (fun _ hf => ?_) (fun _ hf => ?_)
    · refine v_iconst 0 dX5_hasChild_32 (by decide) ?_
      exact v_zret hr dX5_hasChild_33 hE hf
    · refine v_aload_n 0 dX5_hasChild_14 rfl rfl ?_
      refine v_iload_n 2 dX5_hasChild_15 rfl rfl ?_
      refine v_iconst 0 dX5_hasChild_16 (by decide) ?_
      refine v_callVi 5 2 [.int l2, .int 0] (c_X5_of (xl X) hfx this l2 0) gX5_hasChild_X5_of rfl dv_X5_of (by decide) (by decide) rfl rfl dX5_hasChild_17 (Nat.le_of_ble_eq_true rfl) rfl hE hf (fun x3 G hf => ?_)
      refine v_iload_n 1 dX5_hasChild_20 rfl rfl ?_
      refine v_icmp_ne 26 dX5_hasChild_21 (by decide) hf (fun _ hf => ?_) (fun _ hf => ?_)
      · refine v_iinc 2 (l2 + 1) [(2, .int (l2 + 1)), (0, .ref this), (1, .int p1)] dX5_hasChild_26 rfl (by rfl) (by decide) rfl ?_
        refine v_goto 4 dX5_hasChild_29 (by decide) ?_
        refine v_sub [1, 2, 0] rfl ?_
        exact ih this p1 (l2 + 1) G hf
      · refine v_iconst 1 dX5_hasChild_24 (by decide) ?_
        exact v_zret hr dX5_hasChild_25 hE hf
set_option maxRecDepth 100000 in
set_option maxHeartbeats 4000000 in
theorem e_X5_hasChild_0 {X : VX} {B : VB} {z : Int32} {Gf : GH}  (hfx : (xl X).stackTraces = false) (hn : (xme X).name = "hasChild") (hr : (xme X).sig.returnType = (some .boolean)) (hE : VE B (z, Gf))  (this : Nat) (p1 : Int32) (G : GH) (hf : (f_X5_hasChild this p1).1 G = some (z, Gf)) : V X RX5 cX5_hasChild 3 1 22 wsX5_hasChild B (QE X (vI z) Gf B) G 0 [(0, .ref this), (1, .int p1)] [] := by
  unfold f_X5_hasChild at hf
  refine v_iload_n 1 dX5_hasChild_0 rfl rfl ?_
  refine v_iconst 1 dX5_hasChild_1 (by decide) ?_
  refine v_iadd dX5_hasChild_2 ?_
  refine v_istore_n [(2, .int (p1 + 1)), (0, .ref this), (1, .int p1)] dX5_hasChild_3 rfl (by decide) rfl ?_
  refine v_sub [1, 2, 0] rfl ?_
  exact e_X5_hasChild_4 hfx hn hr hE FU this p1 (p1 + 1) G hf
theorem c_X5_hasChild (l : Launch) (hfl : l.stackTraces = false) (this : Nat) (p1 : Int32) : CM l yX5_hasChild wsX5_hasChild 1 22 [.ref this, .int p1] vI (f_X5_hasChild this p1) := CM.start hfl RX5 rfl (by decide +kernel) rfl (Nat.le_of_ble_eq_true rfl) (fun X G z Gf hl hn hr hf => e_X5_hasChild_0 (by rw [hl]; exact hfl) hn hr ⟨rfl, rfl⟩ this p1 G hf)
theorem dv_X5_hasChild : yX5_hasChild.cls = RX5 ∧ yX5_hasChild.cls ≠ "java/lang/invoke/MethodHandle" ∧ yX5_hasChild.cls ≠ "java/lang/invoke/VarHandle" ∧ (parseMethodDescriptor yX5_hasChild.desc).map (fun d => d.parameters.length) = some 1 := by decide +kernel
theorem m_X5_counted_f7 : Cond.fieldLink RX5 7 RX5 "now" "[I" ∈ wsX5_counted := by decide +kernel
theorem n_X5_counted_X5 : ∀ w ∈ u_ws RX5 TX5 16, w ∈ wsX5_counted := by decide +kernel
set_option maxRecDepth 100000 in
set_option maxHeartbeats 4000000 in
theorem e_X5_counted_4 {X : VX} {B : VB} {z : Int32} {Gf : GH}  (hfx : (xl X).stackTraces = false) (hn : (xme X).name = "counted") (hr : (xme X).sig.returnType = (some .int)) (hE : VE B (z, Gf))  : ∀ (n : Nat) (this : Nat) (p1 : Int32) (l2 : Int32) (l3 : Int32) (G : GH), (f_X5_counted_4 n this p1 l2 l3).1 G = some (z, Gf) → V X RX5 cX5_counted 4 2 44 wsX5_counted B (QE X (vI z) Gf B) G 4 [(0, .ref this), (1, .int p1), (2, .int l2), (3, .int l3)] [] := by
  intro n
  induction n with
  | zero =>
    intro this p1 l2 l3 G hf
    have h0 : (none : Option (Int32 × GH)) = some (z, Gf) := hf
    cases h0
  | succ n ih =>
    intro this p1 l2 l3 G hf
    rw [f_X5_counted_4.eq_2] at hf
    refine v_iload_n 3 dX5_counted_4 rfl rfl ?_
    refine v_aload_n 0 dX5_counted_5 rfl rfl ?_
    refine v_gr 5 0 n_X5_counted_X5 rfl (by decide) rfl m_X5_counted_f7 dX5_counted_6 hf (fun r1 hf => ?_)
    refine v_iconst 2 dX5_counted_9 (by decide) ?_
    refine v_iald dX5_counted_10 hf (fun x2 hf => ?_)
    refine v_icmp_ge 201 dX5_counted_11 (by decide) hf (fun _ hf => ?_) (fun _ hf => ?_)
    · refine v_iload_n 2 dX5_counted_201 rfl rfl ?_
      exact v_iret hr dX5_counted_202 hE hf
    · refine v_iload_n 1 dX5_counted_14 rfl rfl ?_
      refine v_cases (c := p1 = 0) hf (fun c15_0 hf => ?_) (fun c15_0 hf => ?_)
      · refine v_tblIn (off := 41) 0 56 c15_0 dX5_counted_15 (by decide) (by decide) (by decide) (by decide) ?_
        refine v_iinc 2 (l2 + 1) [(2, .int (l2 + 1)), (0, .ref this), (1, .int p1), (3, .int l3)] dX5_counted_56 rfl (by rfl) (by decide) rfl ?_
        refine v_goto 195 dX5_counted_59 (by decide) ?_
        refine v_iinc 3 (l3 + 1) [(3, .int (l3 + 1)), (2, .int (l2 + 1)), (0, .ref this), (1, .int p1)] dX5_counted_195 rfl (by rfl) (by decide) rfl ?_
        refine v_goto 4 dX5_counted_198 (by decide) ?_
        refine v_sub [2, 3, 1, 0] rfl ?_
        exact ih this p1 (l2 + 1) (l3 + 1) G hf
      · refine v_cases (c := p1 = 1) hf (fun c15_1 hf => ?_) (fun c15_1 hf => ?_)
        · refine v_tblIn (off := 47) 1 62 c15_1 dX5_counted_15 (by decide) (by decide) (by decide) (by decide) ?_
          refine v_iload_n 2 dX5_counted_62 rfl rfl ?_
          refine v_aload_n 0 dX5_counted_63 rfl rfl ?_
          refine v_iload_n 3 dX5_counted_64 rfl rfl ?_
          refine v_callVi 5 1 [.int l3] (c_X5_hasChild (xl X) hfx this l3) gX5_counted_X5_hasChild rfl dv_X5_hasChild (by decide) (by decide) rfl rfl dX5_counted_65 (Nat.le_of_ble_eq_true rfl) rfl hE hf (fun x3 G hf => ?_)
          refine v_if_eq 75 dX5_counted_68 (by decide) hf (fun _ hf => ?_) (fun _ hf => ?_)
          · refine v_iconst 1 dX5_counted_75 (by decide) ?_
            refine v_iadd dX5_counted_76 ?_
            refine v_istore_n [(2, .int (l2 + 1)), (0, .ref this), (1, .int p1), (3, .int l3)] dX5_counted_77 rfl (by decide) rfl ?_
            refine v_goto 195 dX5_counted_78 (by decide) ?_
            refine v_iinc 3 (l3 + 1) [(3, .int (l3 + 1)), (2, .int (l2 + 1)), (0, .ref this), (1, .int p1)] dX5_counted_195 rfl (by rfl) (by decide) rfl ?_
            refine v_goto 4 dX5_counted_198 (by decide) ?_
            refine v_sub [2, 3, 1, 0] rfl ?_
            exact ih this p1 (l2 + 1) (l3 + 1) G hf
          · refine v_iconst 0 dX5_counted_71 (by decide) ?_
            refine v_goto 76 dX5_counted_72 (by decide) ?_
            refine v_iadd dX5_counted_76 ?_
            refine v_istore_n [(2, .int (l2 + 0)), (0, .ref this), (1, .int p1), (3, .int l3)] dX5_counted_77 rfl (by decide) rfl ?_
            refine v_goto 195 dX5_counted_78 (by decide) ?_
            refine v_iinc 3 (l3 + 1) [(3, .int (l3 + 1)), (2, .int (l2 + 0)), (0, .ref this), (1, .int p1)] dX5_counted_195 rfl (by rfl) (by decide) rfl ?_
            refine v_goto 4 dX5_counted_198 (by decide) ?_
            refine v_sub [2, 3, 1, 0] rfl ?_
            exact ih this p1 (l2 + 0) (l3 + 1) G hf
        · refine v_cases (c := p1 = 2) hf (fun c15_2 hf => ?_) (fun c15_2 hf => ?_)
          · refine v_tblIn (off := 66) 2 81 c15_2 dX5_counted_15 (by decide) (by decide) (by decide) (by decide) ?_
            refine v_aload_n 0 dX5_counted_81 rfl rfl ?_
            refine v_iload_n 3 dX5_counted_82 rfl rfl ?_
            refine v_iconst 5 dX5_counted_83 (by decide) ?_
            refine v_callVi 5 2 [.int l3, .int 5] (c_X5_of (xl X) hfx this l3 5) gX5_counted_X5_of rfl dv_X5_of (by decide) (by decide) rfl rfl dX5_counted_84 (Nat.le_of_ble_eq_true rfl) rfl hE hf (fun x4 G hf => ?_)
            refine v_iload_n 2 dX5_counted_87 rfl rfl ?_
            refine v_icmp_le 100 dX5_counted_88 (by decide) hf (fun _ hf => ?_) (fun _ hf => ?_)
            · refine v_iload_n 2 dX5_counted_100 rfl rfl ?_
              refine v_istore_n [(2, .int l2), (0, .ref this), (1, .int p1), (3, .int l3)] dX5_counted_101 rfl (by decide) rfl ?_
              refine v_goto 195 dX5_counted_102 (by decide) ?_
              refine v_iinc 3 (l3 + 1) [(3, .int (l3 + 1)), (2, .int l2), (0, .ref this), (1, .int p1)] dX5_counted_195 rfl (by rfl) (by decide) rfl ?_
              refine v_goto 4 dX5_counted_198 (by decide) ?_
              refine v_sub [2, 3, 1, 0] rfl ?_
              exact ih this p1 l2 (l3 + 1) G hf
            · refine v_aload_n 0 dX5_counted_91 rfl rfl ?_
              refine v_iload_n 3 dX5_counted_92 rfl rfl ?_
              refine v_iconst 5 dX5_counted_93 (by decide) ?_
              refine v_callVi 5 2 [.int l3, .int 5] (c_X5_of (xl X) hfx this l3 5) gX5_counted_X5_of rfl dv_X5_of (by decide) (by decide) rfl rfl dX5_counted_94 (Nat.le_of_ble_eq_true rfl) rfl hE hf (fun x5 G hf => ?_)
              refine v_goto 101 dX5_counted_97 (by decide) ?_
              refine v_istore_n [(2, .int x5), (0, .ref this), (1, .int p1), (3, .int l3)] dX5_counted_101 rfl (by decide) rfl ?_
              refine v_goto 195 dX5_counted_102 (by decide) ?_
              refine v_iinc 3 (l3 + 1) [(3, .int (l3 + 1)), (2, .int x5), (0, .ref this), (1, .int p1)] dX5_counted_195 rfl (by rfl) (by decide) rfl ?_
              refine v_goto 4 dX5_counted_198 (by decide) ?_
              refine v_sub [2, 3, 1, 0] rfl ?_
              exact ih this p1 x5 (l3 + 1) G hf
          · refine v_cases (c := p1 = 3) hf (fun c15_3 hf => ?_) (fun c15_3 hf => ?_)
            · refine v_tblIn (off := 90) 3 105 c15_3 dX5_counted_15 (by decide) (by decide) (by decide) (by decide) ?_
              refine v_iload_n 2 dX5_counted_105 rfl rfl ?_
              refine v_aload_n 0 dX5_counted_106 rfl rfl ?_
              refine v_iload_n 3 dX5_counted_107 rfl rfl ?_
              refine v_iconst 5 dX5_counted_108 (by decide) ?_
              refine v_callVi 5 2 [.int l3, .int 5] (c_X5_of (xl X) hfx this l3 5) gX5_counted_X5_of rfl dv_X5_of (by decide) (by decide) rfl rfl dX5_counted_109 (Nat.le_of_ble_eq_true rfl) rfl hE hf (fun x6 G hf => ?_)
              refine v_iadd dX5_counted_112 ?_
              refine v_istore_n [(2, .int (l2 + x6)), (0, .ref this), (1, .int p1), (3, .int l3)] dX5_counted_113 rfl (by decide) rfl ?_
              refine v_goto 195 dX5_counted_114 (by decide) ?_
              refine v_iinc 3 (l3 + 1) [(3, .int (l3 + 1)), (2, .int (l2 + x6)), (0, .ref this), (1, .int p1)] dX5_counted_195 rfl (by rfl) (by decide) rfl ?_
              refine v_goto 4 dX5_counted_198 (by decide) ?_
              refine v_sub [2, 3, 1, 0] rfl ?_
              exact ih this p1 (l2 + x6) (l3 + 1) G hf
            · refine v_cases (c := p1 = 4) hf (fun c15_4 hf => ?_) (fun c15_4 hf => ?_)
              · refine v_tblIn (off := 102) 4 117 c15_4 dX5_counted_15 (by decide) (by decide) (by decide) (by decide) ?_
                refine v_iload_n 2 dX5_counted_117 rfl rfl ?_
                refine v_aload_n 0 dX5_counted_118 rfl rfl ?_
                refine v_iload_n 3 dX5_counted_119 rfl rfl ?_
                refine v_bipush 6 dX5_counted_120 (by decide) ?_
                refine v_callVi 5 2 [.int l3, .int 6] (c_X5_of (xl X) hfx this l3 6) gX5_counted_X5_of rfl dv_X5_of (by decide) (by decide) rfl rfl dX5_counted_122 (Nat.le_of_ble_eq_true rfl) rfl hE hf (fun x7 G hf => ?_)
                refine v_if_le 132 dX5_counted_125 (by decide) hf (fun _ hf => ?_) (fun _ hf => ?_)
                · refine v_iconst 0 dX5_counted_132 (by decide) ?_
                  refine v_iadd dX5_counted_133 ?_
                  refine v_istore_n [(2, .int (l2 + 0)), (0, .ref this), (1, .int p1), (3, .int l3)] dX5_counted_134 rfl (by decide) rfl ?_
                  refine v_goto 195 dX5_counted_135 (by decide) ?_
                  refine v_iinc 3 (l3 + 1) [(3, .int (l3 + 1)), (2, .int (l2 + 0)), (0, .ref this), (1, .int p1)] dX5_counted_195 rfl (by rfl) (by decide) rfl ?_
                  refine v_goto 4 dX5_counted_198 (by decide) ?_
                  refine v_sub [2, 3, 1, 0] rfl ?_
                  exact ih this p1 (l2 + 0) (l3 + 1) G hf
                · refine v_iconst 1 dX5_counted_128 (by decide) ?_
                  refine v_goto 133 dX5_counted_129 (by decide) ?_
                  refine v_iadd dX5_counted_133 ?_
                  refine v_istore_n [(2, .int (l2 + 1)), (0, .ref this), (1, .int p1), (3, .int l3)] dX5_counted_134 rfl (by decide) rfl ?_
                  refine v_goto 195 dX5_counted_135 (by decide) ?_
                  refine v_iinc 3 (l3 + 1) [(3, .int (l3 + 1)), (2, .int (l2 + 1)), (0, .ref this), (1, .int p1)] dX5_counted_195 rfl (by rfl) (by decide) rfl ?_
                  refine v_goto 4 dX5_counted_198 (by decide) ?_
                  refine v_sub [2, 3, 1, 0] rfl ?_
                  exact ih this p1 (l2 + 1) (l3 + 1) G hf
              · refine v_cases (c := p1 = 5) hf (fun c15_5 hf => ?_) (fun c15_5 hf => ?_)
                · refine v_tblIn (off := 123) 5 138 c15_5 dX5_counted_15 (by decide) (by decide) (by decide) (by decide) ?_
                  refine v_iload_n 2 dX5_counted_138 rfl rfl ?_
                  refine v_aload_n 0 dX5_counted_139 rfl rfl ?_
                  refine v_iload_n 3 dX5_counted_140 rfl rfl ?_
                  refine v_bipush 6 dX5_counted_141 (by decide) ?_
                  refine v_callVi 5 2 [.int l3, .int 6] (c_X5_of (xl X) hfx this l3 6) gX5_counted_X5_of rfl dv_X5_of (by decide) (by decide) rfl rfl dX5_counted_143 (Nat.le_of_ble_eq_true rfl) rfl hE hf (fun x8 G hf => ?_)
                  refine v_iadd dX5_counted_146 ?_
                  refine v_istore_n [(2, .int (l2 + x8)), (0, .ref this), (1, .int p1), (3, .int l3)] dX5_counted_147 rfl (by decide) rfl ?_
                  refine v_goto 195 dX5_counted_148 (by decide) ?_
                  refine v_iinc 3 (l3 + 1) [(3, .int (l3 + 1)), (2, .int (l2 + x8)), (0, .ref this), (1, .int p1)] dX5_counted_195 rfl (by rfl) (by decide) rfl ?_
                  refine v_goto 4 dX5_counted_198 (by decide) ?_
                  refine v_sub [2, 3, 1, 0] rfl ?_
                  exact ih this p1 (l2 + x8) (l3 + 1) G hf
                · refine v_cases (c := p1 = 6) hf (fun c15_6 hf => ?_) (fun c15_6 hf => ?_)
                  · refine v_tblIn (off := 136) 6 151 c15_6 dX5_counted_15 (by decide) (by decide) (by decide) (by decide) ?_
                    refine v_iload_n 2 dX5_counted_151 rfl rfl ?_
                    refine v_aload_n 0 dX5_counted_152 rfl rfl ?_
                    refine v_iload_n 3 dX5_counted_153 rfl rfl ?_
                    refine v_iconst 4 dX5_counted_154 (by decide) ?_
                    refine v_callVi 5 2 [.int l3, .int 4] (c_X5_of (xl X) hfx this l3 4) gX5_counted_X5_of rfl dv_X5_of (by decide) (by decide) rfl rfl dX5_counted_155 (Nat.le_of_ble_eq_true rfl) rfl hE hf (fun x9 G hf => ?_)
                    refine v_iconst (-1) dX5_counted_158 (by decide) ?_
                    refine v_icmp_eq 166 dX5_counted_159 (by decide) hf (fun _ hf => ?_) (fun _ hf => ?_)
                    · refine v_iconst 0 dX5_counted_166 (by decide) ?_
                      refine v_iadd dX5_counted_167 ?_
                      refine v_istore_n [(2, .int (l2 + 0)), (0, .ref this), (1, .int p1), (3, .int l3)] dX5_counted_168 rfl (by decide) rfl ?_
                      refine v_goto 195 dX5_counted_169 (by decide) ?_
                      refine v_iinc 3 (l3 + 1) [(3, .int (l3 + 1)), (2, .int (l2 + 0)), (0, .ref this), (1, .int p1)] dX5_counted_195 rfl (by rfl) (by decide) rfl ?_
                      refine v_goto 4 dX5_counted_198 (by decide) ?_
                      refine v_sub [2, 3, 1, 0] rfl ?_
                      exact ih this p1 (l2 + 0) (l3 + 1) G hf
                    · refine v_iconst 1 dX5_counted_162 (by decide) ?_
                      refine v_goto 167 dX5_counted_163 (by decide) ?_
                      refine v_iadd dX5_counted_167 ?_
                      refine v_istore_n [(2, .int (l2 + 1)), (0, .ref this), (1, .int p1), (3, .int l3)] dX5_counted_168 rfl (by decide) rfl ?_
                      refine v_goto 195 dX5_counted_169 (by decide) ?_
                      refine v_iinc 3 (l3 + 1) [(3, .int (l3 + 1)), (2, .int (l2 + 1)), (0, .ref this), (1, .int p1)] dX5_counted_195 rfl (by rfl) (by decide) rfl ?_
                      refine v_goto 4 dX5_counted_198 (by decide) ?_
                      refine v_sub [2, 3, 1, 0] rfl ?_
                      exact ih this p1 (l2 + 1) (l3 + 1) G hf
                  · refine v_tblOut 6 172 dX5_counted_15 (by decide) rfl (lt_s (lt_s (lt_s (lt_s (lt_s (lt_s (lt_s lt_0 c15_0) c15_1) c15_2) c15_3) c15_4) c15_5) c15_6) (by decide) ?_
                    refine v_aload_n 0 dX5_counted_172 rfl rfl ?_
                    refine v_iload_n 3 dX5_counted_173 rfl rfl ?_
                    refine v_bipush 8 dX5_counted_174 (by decide) ?_
                    refine v_callVi 5 2 [.int l3, .int 8] (c_X5_of (xl X) hfx this l3 8) gX5_counted_X5_of rfl dv_X5_of (by decide) (by decide) rfl rfl dX5_counted_176 (Nat.le_of_ble_eq_true rfl) rfl hE hf (fun x10 G hf => ?_)
                    refine v_iload_n 2 dX5_counted_179 rfl rfl ?_
                    refine v_icmp_le 193 dX5_counted_180 (by decide) hf (fun _ hf => ?_) (fun _ hf => ?_)
                    · refine v_iload_n 2 dX5_counted_193 rfl rfl ?_
                      refine v_istore_n [(2, .int l2), (0, .ref this), (1, .int p1), (3, .int l3)] dX5_counted_194 rfl (by decide) rfl ?_
                      refine v_iinc 3 (l3 + 1) [(3, .int (l3 + 1)), (2, .int l2), (0, .ref this), (1, .int p1)] dX5_counted_195 rfl (by rfl) (by decide) rfl ?_
                      refine v_goto 4 dX5_counted_198 (by decide) ?_
                      refine v_sub [2, 3, 1, 0] rfl ?_
                      exact ih this p1 l2 (l3 + 1) G hf
                    · refine v_aload_n 0 dX5_counted_183 rfl rfl ?_
                      refine v_iload_n 3 dX5_counted_184 rfl rfl ?_
                      refine v_bipush 8 dX5_counted_185 (by decide) ?_
                      refine v_callVi 5 2 [.int l3, .int 8] (c_X5_of (xl X) hfx this l3 8) gX5_counted_X5_of rfl dv_X5_of (by decide) (by decide) rfl rfl dX5_counted_187 (Nat.le_of_ble_eq_true rfl) rfl hE hf (fun x11 G hf => ?_)
                      refine v_goto 194 dX5_counted_190 (by decide) ?_
                      refine v_istore_n [(2, .int x11), (0, .ref this), (1, .int p1), (3, .int l3)] dX5_counted_194 rfl (by decide) rfl ?_
                      refine v_iinc 3 (l3 + 1) [(3, .int (l3 + 1)), (2, .int x11), (0, .ref this), (1, .int p1)] dX5_counted_195 rfl (by rfl) (by decide) rfl ?_
                      refine v_goto 4 dX5_counted_198 (by decide) ?_
                      refine v_sub [2, 3, 1, 0] rfl ?_
                      exact ih this p1 x11 (l3 + 1) G hf
set_option maxRecDepth 100000 in
set_option maxHeartbeats 4000000 in
theorem e_X5_counted_0 {X : VX} {B : VB} {z : Int32} {Gf : GH}  (hfx : (xl X).stackTraces = false) (hn : (xme X).name = "counted") (hr : (xme X).sig.returnType = (some .int)) (hE : VE B (z, Gf))  (this : Nat) (p1 : Int32) (G : GH) (hf : (f_X5_counted this p1).1 G = some (z, Gf)) : V X RX5 cX5_counted 4 2 44 wsX5_counted B (QE X (vI z) Gf B) G 0 [(0, .ref this), (1, .int p1)] [] := by
  unfold f_X5_counted at hf
  refine v_iconst 0 dX5_counted_0 (by decide) ?_
  refine v_istore_n [(2, .int 0), (0, .ref this), (1, .int p1)] dX5_counted_1 rfl (by decide) rfl ?_
  refine v_iconst 0 dX5_counted_2 (by decide) ?_
  refine v_istore_n [(3, .int 0), (2, .int 0), (0, .ref this), (1, .int p1)] dX5_counted_3 rfl (by decide) rfl ?_
  refine v_sub [2, 3, 1, 0] rfl ?_
  exact e_X5_counted_4 hfx hn hr hE FU this p1 0 0 G hf
theorem c_X5_counted (l : Launch) (hfl : l.stackTraces = false) (this : Nat) (p1 : Int32) : CM l yX5_counted wsX5_counted 2 44 [.ref this, .int p1] vI (f_X5_counted this p1) := CM.start hfl RX5 rfl (by decide +kernel) rfl (Nat.le_of_ble_eq_true rfl) (fun X G z Gf hl hn hr hf => e_X5_counted_0 (by rw [hl]; exact hfl) hn hr ⟨rfl, rfl⟩ this p1 G hf)
theorem dv_X5_counted : yX5_counted.cls = RX5 ∧ yX5_counted.cls ≠ "java/lang/invoke/MethodHandle" ∧ yX5_counted.cls ≠ "java/lang/invoke/VarHandle" ∧ (parseMethodDescriptor yX5_counted.desc).map (fun d => d.parameters.length) = some 1 := by decide +kernel
theorem m_X5_count_f41 : Cond.fieldLink RX5 41 RX5 "thrown" "I" ∈ wsX5_count := by decide +kernel
theorem n_X5_count_X5 : ∀ w ∈ u_ws RX5 TX5 16, w ∈ wsX5_count := by decide +kernel
set_option maxRecDepth 100000 in
set_option maxHeartbeats 4000000 in
theorem e_X5_count_0 {X : VX} {B : VB} {z : Int32} {Gf : GH}  (hfx : (xl X).stackTraces = false) (hn : (xme X).name = "count") (hr : (xme X).sig.returnType = (some .int)) (hE : VE B (z, Gf))  (this : Nat) (p1 : Int32) (G : GH) (hf : (f_X5_count this p1).1 G = some (z, Gf)) : V X RX5 cX5_count 2 3 67 wsX5_count B (QE X (vI z) Gf B) G 0 [(0, .ref this), (1, .int p1)] [] := by
  unfold f_X5_count at hf
  refine v_aload_n 0 dX5_count_0 rfl rfl ?_
  refine v_iload_n 1 dX5_count_1 rfl rfl ?_
  refine v_iconst 0 dX5_count_2 (by decide) ?_
  refine v_bipush 7 dX5_count_3 (by decide) ?_
  refine v_callSi 3 [.int p1, .int 0, .int 7] (c_X5_in (xl X) hfx p1 0 7) gX5_count_X5_in rfl dn_X5_in (by decide) (by decide) rfl dX5_count_5 (Nat.le_of_ble_eq_true rfl) rfl hE hf (fun x1 G hf => ?_)
  refine v_if_ne 15 dX5_count_8 (by decide) hf (fun _ hf => ?_) (fun _ hf => ?_)
  · refine v_iconst 0 dX5_count_15 (by decide) ?_
    refine v_put 5 6 .int n_X5_count_X5 tyX5 tyX5_ok nmX5 rfl (by decide) rfl m_X5_count_f41 rfl (by decide +kernel) rfl rfl dX5_count_16 hf (fun G _ hf => ?_)
    refine v_aload_n 0 dX5_count_19 rfl rfl ?_
    refine v_gi 5 6 n_X5_count_X5 rfl (by decide) rfl m_X5_count_f41 dX5_count_20 hf (fun x2 hf => ?_)
    refine v_if_eq 30 dX5_count_23 (by decide) hf (fun _ hf => ?_) (fun _ hf => ?_)
    · refine v_aload_n 0 dX5_count_30 rfl rfl ?_
      refine v_iload_n 1 dX5_count_31 rfl rfl ?_
      refine v_callVi 5 1 [.int p1] (c_X5_counted (xl X) hfx this p1) gX5_count_X5_counted rfl dv_X5_counted (by decide) (by decide) rfl rfl dX5_count_32 (Nat.le_of_ble_eq_true rfl) rfl hE hf (fun x3 G hf => ?_)
      exact v_iret hr dX5_count_35 hE hf
    · refine v_iconst 0 dX5_count_26 (by decide) ?_
      refine v_goto 35 dX5_count_27 (by decide) ?_
      exact v_iret hr dX5_count_35 hE hf
  · refine v_iconst 1 dX5_count_11 (by decide) ?_
    refine v_goto 16 dX5_count_12 (by decide) ?_
    refine v_put 5 6 .int n_X5_count_X5 tyX5 tyX5_ok nmX5 rfl (by decide) rfl m_X5_count_f41 rfl (by decide +kernel) rfl rfl dX5_count_16 hf (fun G _ hf => ?_)
    refine v_aload_n 0 dX5_count_19 rfl rfl ?_
    refine v_gi 5 6 n_X5_count_X5 rfl (by decide) rfl m_X5_count_f41 dX5_count_20 hf (fun x4 hf => ?_)
    refine v_if_eq 30 dX5_count_23 (by decide) hf (fun _ hf => ?_) (fun _ hf => ?_)
    · refine v_aload_n 0 dX5_count_30 rfl rfl ?_
      refine v_iload_n 1 dX5_count_31 rfl rfl ?_
      refine v_callVi 5 1 [.int p1] (c_X5_counted (xl X) hfx this p1) gX5_count_X5_counted rfl dv_X5_counted (by decide) (by decide) rfl rfl dX5_count_32 (Nat.le_of_ble_eq_true rfl) rfl hE hf (fun x5 G hf => ?_)
      exact v_iret hr dX5_count_35 hE hf
    · refine v_iconst 0 dX5_count_26 (by decide) ?_
      refine v_goto 35 dX5_count_27 (by decide) ?_
      exact v_iret hr dX5_count_35 hE hf
theorem c_X5_count (l : Launch) (hfl : l.stackTraces = false) (this : Nat) (p1 : Int32) : CM l yX5_count wsX5_count 3 67 [.ref this, .int p1] vI (f_X5_count this p1) := CM.start hfl RX5 rfl (by decide +kernel) rfl (Nat.le_of_ble_eq_true rfl) (fun X G z Gf hl hn hr hf => e_X5_count_0 (by rw [hl]; exact hfl) hn hr ⟨rfl, rfl⟩ this p1 G hf)
theorem dv_X5_count : yX5_count.cls = RX5 ∧ yX5_count.cls ≠ "java/lang/invoke/MethodHandle" ∧ yX5_count.cls ≠ "java/lang/invoke/VarHandle" ∧ (parseMethodDescriptor yX5_count.desc).map (fun d => d.parameters.length) = some 1 := by decide +kernel
theorem m_X5_setting_f41 : Cond.fieldLink RX5 41 RX5 "thrown" "I" ∈ wsX5_setting := by decide +kernel
theorem m_X5_setting_f7 : Cond.fieldLink RX5 7 RX5 "now" "[I" ∈ wsX5_setting := by decide +kernel
theorem n_X5_setting_X5 : ∀ w ∈ u_ws RX5 TX5 16, w ∈ wsX5_setting := by decide +kernel
set_option maxRecDepth 100000 in
set_option maxHeartbeats 4000000 in
theorem e_X5_setting_0 {X : VX} {B : VB} {z : Int32} {Gf : GH}  (hfx : (xl X).stackTraces = false) (hn : (xme X).name = "setting") (hr : (xme X).sig.returnType = (some .int)) (hE : VE B (z, Gf))  (this : Nat) (p1 : Int32) (G : GH) (hf : (f_X5_setting this p1).1 G = some (z, Gf)) : V X RX5 cX5_setting 2 1 22 wsX5_setting B (QE X (vI z) Gf B) G 0 [(0, .ref this), (1, .int p1)] [] := by
  unfold f_X5_setting at hf
  refine v_aload_n 0 dX5_setting_0 rfl rfl ?_
  refine v_iload_n 1 dX5_setting_1 rfl rfl ?_
  refine v_iconst 0 dX5_setting_2 (by decide) ?_
  refine v_iconst 1 dX5_setting_3 (by decide) ?_
  refine v_callSi 3 [.int p1, .int 0, .int 1] (c_X5_in (xl X) hfx p1 0 1) gX5_setting_X5_in rfl dn_X5_in (by decide) (by decide) rfl dX5_setting_4 (Nat.le_of_ble_eq_true rfl) rfl hE hf (fun x1 G hf => ?_)
  refine v_if_ne 14 dX5_setting_7 (by decide) hf (fun _ hf => ?_) (fun _ hf => ?_)
  · refine v_iconst 0 dX5_setting_14 (by decide) ?_
    refine v_put 5 6 .int n_X5_setting_X5 tyX5 tyX5_ok nmX5 rfl (by decide) rfl m_X5_setting_f41 rfl (by decide +kernel) rfl rfl dX5_setting_15 hf (fun G _ hf => ?_)
    refine v_aload_n 0 dX5_setting_18 rfl rfl ?_
    refine v_gi 5 6 n_X5_setting_X5 rfl (by decide) rfl m_X5_setting_f41 dX5_setting_19 hf (fun x2 hf => ?_)
    refine v_if_eq 29 dX5_setting_22 (by decide) hf (fun _ hf => ?_) (fun _ hf => ?_)
    · refine v_aload_n 0 dX5_setting_29 rfl rfl ?_
      refine v_gr 5 0 n_X5_setting_X5 rfl (by decide) rfl m_X5_setting_f7 dX5_setting_30 hf (fun r3 hf => ?_)
      refine v_iload_n 1 dX5_setting_33 rfl rfl ?_
      refine v_iald dX5_setting_34 hf (fun x4 hf => ?_)
      exact v_iret hr dX5_setting_35 hE hf
    · refine v_iconst 0 dX5_setting_25 (by decide) ?_
      refine v_goto 35 dX5_setting_26 (by decide) ?_
      exact v_iret hr dX5_setting_35 hE hf
  · refine v_iconst 1 dX5_setting_10 (by decide) ?_
    refine v_goto 15 dX5_setting_11 (by decide) ?_
    refine v_put 5 6 .int n_X5_setting_X5 tyX5 tyX5_ok nmX5 rfl (by decide) rfl m_X5_setting_f41 rfl (by decide +kernel) rfl rfl dX5_setting_15 hf (fun G _ hf => ?_)
    refine v_aload_n 0 dX5_setting_18 rfl rfl ?_
    refine v_gi 5 6 n_X5_setting_X5 rfl (by decide) rfl m_X5_setting_f41 dX5_setting_19 hf (fun x5 hf => ?_)
    refine v_if_eq 29 dX5_setting_22 (by decide) hf (fun _ hf => ?_) (fun _ hf => ?_)
    · refine v_aload_n 0 dX5_setting_29 rfl rfl ?_
      refine v_gr 5 0 n_X5_setting_X5 rfl (by decide) rfl m_X5_setting_f7 dX5_setting_30 hf (fun r6 hf => ?_)
      refine v_iload_n 1 dX5_setting_33 rfl rfl ?_
      refine v_iald dX5_setting_34 hf (fun x7 hf => ?_)
      exact v_iret hr dX5_setting_35 hE hf
    · refine v_iconst 0 dX5_setting_25 (by decide) ?_
      refine v_goto 35 dX5_setting_26 (by decide) ?_
      exact v_iret hr dX5_setting_35 hE hf
theorem c_X5_setting (l : Launch) (hfl : l.stackTraces = false) (this : Nat) (p1 : Int32) : CM l yX5_setting wsX5_setting 1 22 [.ref this, .int p1] vI (f_X5_setting this p1) := CM.start hfl RX5 rfl (by decide +kernel) rfl (Nat.le_of_ble_eq_true rfl) (fun X G z Gf hl hn hr hf => e_X5_setting_0 (by rw [hl]; exact hfl) hn hr ⟨rfl, rfl⟩ this p1 G hf)
theorem dv_X5_setting : yX5_setting.cls = RX5 ∧ yX5_setting.cls ≠ "java/lang/invoke/MethodHandle" ∧ yX5_setting.cls ≠ "java/lang/invoke/VarHandle" ∧ (parseMethodDescriptor yX5_setting.desc).map (fun d => d.parameters.length) = some 1 := by decide +kernel
theorem m_X5_common_f41 : Cond.fieldLink RX5 41 RX5 "thrown" "I" ∈ wsX5_common := by decide +kernel
theorem n_X5_common_X5 : ∀ w ∈ u_ws RX5 TX5 16, w ∈ wsX5_common := by decide +kernel
set_option maxRecDepth 100000 in
set_option maxHeartbeats 4000000 in
theorem e_X5_common_39 {X : VX} {B : VB} {z : Int32} {Gf : GH}  (hfx : (xl X).stackTraces = false) (hn : (xme X).name = "common") (hr : (xme X).sig.returnType = (some .int)) (hE : VE B (z, Gf))  : ∀ (n : Nat) (this : Nat) (p1 : Int32) (p2 : Int32) (G : GH), (f_X5_common_39 n this p1 p2).1 G = some (z, Gf) → V X RX5 cX5_common 7 2 43 wsX5_common B (QE X (vI z) Gf B) G 39 [(0, .ref this), (3, .int p1), (4, .int p2)] [] := by
  intro n
  induction n with
  | zero =>
    intro this p1 p2 G hf
    have h0 : (none : Option (Int32 × GH)) = some (z, Gf) := hf
    cases h0
  | succ n ih =>
    intro this p1 p2 G hf
    rw [f_X5_common_39.eq_2] at hf
    refine v_iload_n 1 dX5_common_39 rfl rfl ?_
    refine v_iload 2 dX5_common_40 rfl ?_
    refine v_icmp_eq 117 dX5_common_42 (by decide) hf (fun _ hf => ?_) (fun _ hf => ?_)
    · refine v_iload_n 1 dX5_common_117 rfl rfl ?_
      exact v_iret hr dX5_common_118 hE hf
    · refine v_aload_n 0 dX5_common_45 rfl rfl ?_
      refine v_iload_n 1 dX5_common_46 rfl rfl ?_
      refine v_bipush 8 dX5_common_47 (by decide) ?_
      refine v_callVi 5 2 [.int p1, .int 8] (c_X5_of (xl X) hfx this p1 8) gX5_common_X5_of rfl dv_X5_of (by decide) (by decide) rfl rfl dX5_common_49 (Nat.le_of_ble_eq_true rfl) rfl hE hf (fun x3 G hf => ?_)
      refine v_aload_n 0 dX5_common_52 rfl rfl ?_
      refine v_iload 2 dX5_common_53 rfl ?_
      refine v_bipush 8 dX5_common_55 (by decide) ?_
      refine v_callVi 5 2 [.int p2, .int 8] (c_X5_of (xl X) hfx this p2 8) gX5_common_X5_of rfl dv_X5_of (by decide) (by decide) rfl rfl dX5_common_57 (Nat.le_of_ble_eq_true rfl) rfl hE hf (fun x4 G hf => ?_)
      refine v_icmp_le 67 dX5_common_60 (by decide) hf (fun _ hf => ?_) (fun _ hf => ?_)
      · refine v_iconst 0 dX5_common_67 (by decide) ?_
        refine v_istore [(5, .int 0), (0, .ref this), (3, .int p1), (4, .int p2)] dX5_common_68 (by decide) rfl ?_
        refine v_aload_n 1 dX5_common_70 rfl rfl ?_
        refine v_iload 0 dX5_common_71 rfl ?_
        refine v_if_eq_t 80 dX5_common_73 (by decide) (by decide) ?_
        refine v_iload 3 dX5_common_80 rfl ?_
        refine v_iconst 0 dX5_common_82 (by decide) ?_
        refine v_callVi 5 2 [.int p2, .int 0] (c_X5_of (xl X) hfx this p2 0) gX5_common_X5_of rfl dv_X5_of (by decide) (by decide) rfl rfl dX5_common_83 (Nat.le_of_ble_eq_true rfl) rfl hE hf (fun x5 G hf => ?_)
        refine v_istore [(6, .int x5), (5, .int 0), (0, .ref this), (3, .int p1), (4, .int p2)] dX5_common_86 (by decide) rfl ?_
        refine v_iload 1 dX5_common_88 rfl ?_
        refine v_if_eq_t 98 dX5_common_90 (by decide) (by decide) ?_
        refine v_iload_n 3 dX5_common_98 rfl rfl ?_
        refine v_istore_n [(3, .int p1), (6, .int x5), (5, .int 0), (0, .ref this), (4, .int p2)] dX5_common_99 rfl (by decide) rfl ?_
        refine v_iload 2 dX5_common_100 rfl ?_
        refine v_if_eq_t 110 dX5_common_102 (by decide) (by decide) ?_
        refine v_iload 1 dX5_common_110 rfl ?_
        refine v_istore [(4, .int x5), (3, .int p1), (6, .int x5), (5, .int 0), (0, .ref this)] dX5_common_112 (by decide) rfl ?_
        refine v_goto 39 dX5_common_114 (by decide) ?_
        refine v_sub [4, 1, 0] rfl ?_
        exact ih this p1 x5 G hf
      · refine v_iconst 1 dX5_common_63 (by decide) ?_
        refine v_goto 68 dX5_common_64 (by decide) ?_
        refine v_istore [(5, .int 1), (0, .ref this), (3, .int p1), (4, .int p2)] dX5_common_68 (by decide) rfl ?_
        refine v_aload_n 1 dX5_common_70 rfl rfl ?_
        refine v_iload 0 dX5_common_71 rfl ?_
        refine v_if_eq_f 80 dX5_common_73 (by decide) (by decide) ?_
        refine v_iload_n 2 dX5_common_76 rfl rfl ?_
        refine v_goto 82 dX5_common_77 (by decide) ?_
        refine v_iconst 0 dX5_common_82 (by decide) ?_
        refine v_callVi 5 2 [.int p1, .int 0] (c_X5_of (xl X) hfx this p1 0) gX5_common_X5_of rfl dv_X5_of (by decide) (by decide) rfl rfl dX5_common_83 (Nat.le_of_ble_eq_true rfl) rfl hE hf (fun x6 G hf => ?_)
        refine v_istore [(6, .int x6), (5, .int 1), (0, .ref this), (3, .int p1), (4, .int p2)] dX5_common_86 (by decide) rfl ?_
        refine v_iload 1 dX5_common_88 rfl ?_
        refine v_if_eq_f 98 dX5_common_90 (by decide) (by decide) ?_
        refine v_iload 0 dX5_common_93 rfl ?_
        refine v_goto 99 dX5_common_95 (by decide) ?_
        refine v_istore_n [(3, .int x6), (6, .int x6), (5, .int 1), (0, .ref this), (4, .int p2)] dX5_common_99 rfl (by decide) rfl ?_
        refine v_iload 2 dX5_common_100 rfl ?_
        refine v_if_eq_f 110 dX5_common_102 (by decide) (by decide) ?_
        refine v_iload 4 dX5_common_105 rfl ?_
        refine v_goto 112 dX5_common_107 (by decide) ?_
        refine v_istore [(4, .int p2), (3, .int x6), (6, .int x6), (5, .int 1), (0, .ref this)] dX5_common_112 (by decide) rfl ?_
        refine v_goto 39 dX5_common_114 (by decide) ?_
        refine v_sub [4, 1, 0] rfl ?_
        exact ih this x6 p2 G hf
set_option maxRecDepth 100000 in
set_option maxHeartbeats 4000000 in
theorem e_X5_common_22 {X : VX} {B : VB} {z : Int32} {Gf : GH}  (hfx : (xl X).stackTraces = false) (hn : (xme X).name = "common") (hr : (xme X).sig.returnType = (some .int)) (hE : VE B (z, Gf))  (this : Nat) (p1 : Int32) (p2 : Int32) (s0 : Int32) (s1 : Nat) (G : GH) (hf : (f_X5_common_22 this p1 p2 s0 s1).1 G = some (z, Gf)) : V X RX5 cX5_common 7 2 43 wsX5_common B (QE X (vI z) Gf B) G 22 [(0, .ref this), (1, .int p1), (2, .int p2)] [.int s0, .ref s1] := by
  unfold f_X5_common_22 at hf
  refine v_put 5 6 .int n_X5_common_X5 tyX5 tyX5_ok nmX5 rfl (by decide) rfl m_X5_common_f41 rfl (by decide +kernel) rfl rfl dX5_common_22 hf (fun G _ hf => ?_)
  refine v_aload_n 0 dX5_common_25 rfl rfl ?_
  refine v_gi 5 6 n_X5_common_X5 rfl (by decide) rfl m_X5_common_f41 dX5_common_26 hf (fun x2 hf => ?_)
  refine v_if_eq 34 dX5_common_29 (by decide) hf (fun _ hf => ?_) (fun _ hf => ?_)
  · refine v_iload_n 1 dX5_common_34 rfl rfl ?_
    refine v_istore_n [(3, .int p1), (0, .ref this), (1, .int p1), (2, .int p2)] dX5_common_35 rfl (by decide) rfl ?_
    refine v_iload_n 3 dX5_common_36 rfl rfl ?_
    refine v_istore [(4, .int p2), (3, .int p1), (0, .ref this), (1, .int p1), (2, .int p2)] dX5_common_37 (by decide) rfl ?_
    refine v_sub [2, 1, 0] rfl ?_
    exact e_X5_common_39 hfx hn hr hE FU this p1 p2 G hf
  · refine v_iconst 0 dX5_common_32 (by decide) ?_
    exact v_iret hr dX5_common_33 hE hf
set_option maxRecDepth 100000 in
set_option maxHeartbeats 4000000 in
theorem e_X5_common_17 {X : VX} {B : VB} {z : Int32} {Gf : GH}  (hfx : (xl X).stackTraces = false) (hn : (xme X).name = "common") (hr : (xme X).sig.returnType = (some .int)) (hE : VE B (z, Gf))  (this : Nat) (p1 : Int32) (p2 : Int32) (s0 : Nat) (G : GH) (hf : (f_X5_common_17 this p1 p2 s0).1 G = some (z, Gf)) : V X RX5 cX5_common 7 2 43 wsX5_common B (QE X (vI z) Gf B) G 17 [(0, .ref this), (1, .int p1), (2, .int p2)] [.ref s0] := by
  unfold f_X5_common_17 at hf
  refine v_iconst 1 dX5_common_17 (by decide) ?_
  refine v_goto 22 dX5_common_18 (by decide) ?_
  refine v_sub [0, 1, 2] rfl ?_
  exact e_X5_common_22 hfx hn hr hE this p1 p2 1 s0 G hf
set_option maxRecDepth 100000 in
set_option maxHeartbeats 4000000 in
theorem e_X5_common_0 {X : VX} {B : VB} {z : Int32} {Gf : GH}  (hfx : (xl X).stackTraces = false) (hn : (xme X).name = "common") (hr : (xme X).sig.returnType = (some .int)) (hE : VE B (z, Gf))  (this : Nat) (p1 : Int32) (p2 : Int32) (G : GH) (hf : (f_X5_common this p1 p2).1 G = some (z, Gf)) : V X RX5 cX5_common 7 2 43 wsX5_common B (QE X (vI z) Gf B) G 0 [(0, .ref this), (1, .int p1), (2, .int p2)] [] := by
  unfold f_X5_common at hf
  refine v_aload_n 0 dX5_common_0 rfl rfl ?_
  refine v_aload_n 0 dX5_common_1 rfl rfl ?_
  refine v_iload_n 1 dX5_common_2 rfl rfl ?_
  refine v_callVi 5 1 [.int p1] (c_X5_isVersion (xl X) hfx this p1) gX5_common_X5_isVersion rfl dv_X5_isVersion (by decide) (by decide) rfl rfl dX5_common_3 (Nat.le_of_ble_eq_true rfl) rfl hE hf (fun x1 G hf => ?_)
  refine v_if_eq 17 dX5_common_6 (by decide) hf (fun _ hf => ?_) (fun _ hf => ?_)
  · refine v_sub [0, 1, 2] rfl ?_
    exact e_X5_common_17 hfx hn hr hE this p1 p2 this G hf
  · refine v_aload_n 0 dX5_common_9 rfl rfl ?_
    refine v_iload_n 2 dX5_common_10 rfl rfl ?_
    refine v_callVi 5 1 [.int p2] (c_X5_isVersion (xl X) hfx this p2) gX5_common_X5_isVersion rfl dv_X5_isVersion (by decide) (by decide) rfl rfl dX5_common_11 (Nat.le_of_ble_eq_true rfl) rfl hE hf (fun x7 G hf => ?_)
    refine v_if_ne 21 dX5_common_14 (by decide) hf (fun _ hf => ?_) (fun _ hf => ?_)
    · refine v_iconst 0 dX5_common_21 (by decide) ?_
      refine v_sub [0, 1, 2] rfl ?_
      exact e_X5_common_22 hfx hn hr hE this p1 p2 0 this G hf
    · refine v_sub [0, 1, 2] rfl ?_
      exact e_X5_common_17 hfx hn hr hE this p1 p2 this G hf
theorem c_X5_common (l : Launch) (hfl : l.stackTraces = false) (this : Nat) (p1 : Int32) (p2 : Int32) : CM l yX5_common wsX5_common 2 43 [.ref this, .int p1, .int p2] vI (f_X5_common this p1 p2) := CM.start hfl RX5 rfl (by decide +kernel) rfl (Nat.le_of_ble_eq_true rfl) (fun X G z Gf hl hn hr hf => e_X5_common_0 (by rw [hl]; exact hfl) hn hr ⟨rfl, rfl⟩ this p1 p2 G hf)
theorem dv_X5_common : yX5_common.cls = RX5 ∧ yX5_common.cls ≠ "java/lang/invoke/MethodHandle" ∧ yX5_common.cls ≠ "java/lang/invoke/VarHandle" ∧ (parseMethodDescriptor yX5_common.desc).map (fun d => d.parameters.length) = some 2 := by decide +kernel
theorem m_X5_areSame_f28 : Cond.fieldLink RX5 28 RX5 "row" "[I" ∈ wsX5_areSame := by decide +kernel
theorem m_X5_areSame_f22 : Cond.fieldLink RX5 22 RX5 "values" "[I" ∈ wsX5_areSame := by decide +kernel
theorem m_X5_areSame_f64 : Cond.fieldLink RX5 64 RX5 "first" "I" ∈ wsX5_areSame := by decide +kernel
theorem n_X5_areSame_X5 : ∀ w ∈ u_ws RX5 TX5 16, w ∈ wsX5_areSame := by decide +kernel
set_option maxRecDepth 100000 in
set_option maxHeartbeats 4000000 in
theorem e_X5_areSame_69 {X : VX} {B : VB} {z : Int32} {Gf : GH}  (hfx : (xl X).stackTraces = false) (hn : (xme X).name = "areSame") (hr : (xme X).sig.returnType = (some .boolean)) (hE : VE B (z, Gf))  : ∀ (n : Nat) (this : Nat) (l3 : Int32) (l4 : Int32) (l5 : Int32) (G : GH), (f_X5_areSame_69 n this l3 l4 l5).1 G = some (z, Gf) → V X RX5 cX5_areSame 6 3 70 wsX5_areSame B (QE X (vI z) Gf B) G 69 [(0, .ref this), (3, .int l3), (4, .int l4), (5, .int l5)] [] := by
  intro n
  induction n with
  | zero =>
    intro this l3 l4 l5 G hf
    have h0 : (none : Option (Int32 × GH)) = some (z, Gf) := hf
    cases h0
  | succ n ih =>
    intro this l3 l4 l5 G hf
    rw [f_X5_areSame_69.eq_2] at hf
    refine v_iload 3 dX5_areSame_69 rfl ?_
    refine v_iload_n 1 dX5_areSame_71 rfl rfl ?_
    refine v_icmp_ge 115 dX5_areSame_72 (by decide) hf (fun _ hf => ?_) (fun _ hf => ?_)
    · refine v_iload 2 dX5_areSame_115 rfl ?_
      exact v_zret hr dX5_areSame_117 hE hf
    · refine v_iload 2 dX5_areSame_75 rfl ?_
      refine v_if_eq 106 dX5_areSame_77 (by decide) hf (fun _ hf => ?_) (fun _ hf => ?_)
      · refine v_iconst 0 dX5_areSame_106 (by decide) ?_
        refine v_istore [(4, .int 0), (0, .ref this), (3, .int l3), (5, .int l5)] dX5_areSame_107 (by decide) rfl ?_
        refine v_iinc 3 (l5 + 1) [(5, .int (l5 + 1)), (4, .int 0), (0, .ref this), (3, .int l3)] dX5_areSame_109 rfl (by rfl) (by decide) rfl ?_
        refine v_goto 69 dX5_areSame_112 (by decide) ?_
        refine v_sub [2, 3, 1, 0] rfl ?_
        exact ih this l3 0 (l5 + 1) G hf
      · refine v_aload_n 0 dX5_areSame_80 rfl rfl ?_
        refine v_gr 5 11 n_X5_areSame_X5 rfl (by decide) rfl m_X5_areSame_f28 dX5_areSame_81 hf (fun r3 hf => ?_)
        refine v_iload 3 dX5_areSame_84 rfl ?_
        refine v_iald dX5_areSame_86 hf (fun x4 hf => ?_)
        refine v_aload_n 0 dX5_areSame_87 rfl rfl ?_
        refine v_gr 5 7 n_X5_areSame_X5 rfl (by decide) rfl m_X5_areSame_f22 dX5_areSame_88 hf (fun r5 hf => ?_)
        refine v_aload_n 0 dX5_areSame_91 rfl rfl ?_
        refine v_gi 5 8 n_X5_areSame_X5 rfl (by decide) rfl m_X5_areSame_f64 dX5_areSame_92 hf (fun x6 hf => ?_)
        refine v_iload 3 dX5_areSame_95 rfl ?_
        refine v_iadd dX5_areSame_97 ?_
        refine v_iald dX5_areSame_98 hf (fun x7 hf => ?_)
        refine v_icmp_ne 106 dX5_areSame_99 (by decide) hf (fun _ hf => ?_) (fun _ hf => ?_)
        · refine v_iconst 0 dX5_areSame_106 (by decide) ?_
          refine v_istore [(4, .int 0), (0, .ref this), (3, .int l3), (5, .int l5)] dX5_areSame_107 (by decide) rfl ?_
          refine v_iinc 3 (l5 + 1) [(5, .int (l5 + 1)), (4, .int 0), (0, .ref this), (3, .int l3)] dX5_areSame_109 rfl (by rfl) (by decide) rfl ?_
          refine v_goto 69 dX5_areSame_112 (by decide) ?_
          refine v_sub [2, 3, 1, 0] rfl ?_
          exact ih this l3 0 (l5 + 1) G hf
        · refine v_iconst 1 dX5_areSame_102 (by decide) ?_
          refine v_goto 107 dX5_areSame_103 (by decide) ?_
          refine v_istore [(4, .int 1), (0, .ref this), (3, .int l3), (5, .int l5)] dX5_areSame_107 (by decide) rfl ?_
          refine v_iinc 3 (l5 + 1) [(5, .int (l5 + 1)), (4, .int 1), (0, .ref this), (3, .int l3)] dX5_areSame_109 rfl (by rfl) (by decide) rfl ?_
          refine v_goto 69 dX5_areSame_112 (by decide) ?_
          refine v_sub [2, 3, 1, 0] rfl ?_
          exact ih this l3 1 (l5 + 1) G hf
set_option maxRecDepth 100000 in
set_option maxHeartbeats 4000000 in
theorem e_X5_areSame_27 {X : VX} {B : VB} {z : Int32} {Gf : GH}  (hfx : (xl X).stackTraces = false) (hn : (xme X).name = "areSame") (hr : (xme X).sig.returnType = (some .boolean)) (hE : VE B (z, Gf))  : ∀ (n : Nat) (this : Nat) (p2 : Int32) (l3 : Int32) (l4 : Int32) (G : GH), (f_X5_areSame_27 n this p2 l3 l4).1 G = some (z, Gf) → V X RX5 cX5_areSame 6 3 70 wsX5_areSame B (QE X (vI z) Gf B) G 27 [(0, .ref this), (2, .int p2), (3, .int l3), (4, .int l4)] [] := by
  intro n
  induction n with
  | zero =>
    intro this p2 l3 l4 G hf
    have h0 : (none : Option (Int32 × GH)) = some (z, Gf) := hf
    cases h0
  | succ n ih =>
    intro this p2 l3 l4 G hf
    rw [f_X5_areSame_27.eq_2] at hf
    refine v_iload 3 dX5_areSame_27 rfl ?_
    refine v_iload_n 2 dX5_areSame_29 rfl rfl ?_
    refine v_icmp_ge 58 dX5_areSame_30 (by decide) hf (fun _ hf => ?_) (fun _ hf => ?_)
    · refine v_aload_n 0 dX5_areSame_58 rfl rfl ?_
      refine v_iload_n 1 dX5_areSame_59 rfl rfl ?_
      refine v_callVv 5 1 [.int p2] (c_X5_laysRow (xl X) hfx this p2) gX5_areSame_X5_laysRow rfl dv_X5_laysRow (by decide) (by decide) rfl rfl dX5_areSame_60 (Nat.le_of_ble_eq_true rfl) rfl hE hf (fun _ G hf => ?_)
      refine v_iconst 1 dX5_areSame_63 (by decide) ?_
      refine v_istore [(4, .int 1), (0, .ref this), (2, .int p2), (3, .int l3)] dX5_areSame_64 (by decide) rfl ?_
      refine v_iconst 0 dX5_areSame_66 (by decide) ?_
      refine v_istore [(5, .int 0), (4, .int 1), (0, .ref this), (2, .int p2), (3, .int l3)] dX5_areSame_67 (by decide) rfl ?_
      refine v_sub [2, 4, 1, 0] rfl ?_
      exact e_X5_areSame_69 hfx hn hr hE FU this l3 1 0 G hf
    · refine v_aload_n 0 dX5_areSame_33 rfl rfl ?_
      refine v_gr 5 11 n_X5_areSame_X5 rfl (by decide) rfl m_X5_areSame_f28 dX5_areSame_34 hf (fun r8 hf => ?_)
      refine v_iload 3 dX5_areSame_37 rfl ?_
      refine v_aload_n 0 dX5_areSame_39 rfl rfl ?_
      refine v_gr 5 7 n_X5_areSame_X5 rfl (by decide) rfl m_X5_areSame_f22 dX5_areSame_40 hf (fun r9 hf => ?_)
      refine v_aload_n 0 dX5_areSame_43 rfl rfl ?_
      refine v_gi 5 8 n_X5_areSame_X5 rfl (by decide) rfl m_X5_areSame_f64 dX5_areSame_44 hf (fun x10 hf => ?_)
      refine v_iload 3 dX5_areSame_47 rfl ?_
      refine v_iadd dX5_areSame_49 ?_
      refine v_iald dX5_areSame_50 hf (fun x11 hf => ?_)
      refine v_iast dX5_areSame_51 hf (fun G _ hf => ?_)
      refine v_iinc 3 (l4 + 1) [(4, .int (l4 + 1)), (0, .ref this), (2, .int p2), (3, .int l3)] dX5_areSame_52 rfl (by rfl) (by decide) rfl ?_
      refine v_goto 27 dX5_areSame_55 (by decide) ?_
      refine v_sub [1, 2, 3, 0] rfl ?_
      exact ih this p2 l3 (l4 + 1) G hf
set_option maxRecDepth 100000 in
set_option maxHeartbeats 4000000 in
theorem e_X5_areSame_0 {X : VX} {B : VB} {z : Int32} {Gf : GH}  (hfx : (xl X).stackTraces = false) (hn : (xme X).name = "areSame") (hr : (xme X).sig.returnType = (some .boolean)) (hE : VE B (z, Gf))  (this : Nat) (p1 : Int32) (p2 : Int32) (G : GH) (hf : (f_X5_areSame this p1 p2).1 G = some (z, Gf)) : V X RX5 cX5_areSame 6 3 70 wsX5_areSame B (QE X (vI z) Gf B) G 0 [(0, .ref this), (1, .int p1), (2, .int p2)] [] := by
  unfold f_X5_areSame at hf
  refine v_aload_n 0 dX5_areSame_0 rfl rfl ?_
  refine v_iload_n 1 dX5_areSame_1 rfl rfl ?_
  refine v_iconst 1 dX5_areSame_2 (by decide) ?_
  refine v_callVi 5 2 [.int p1, .int 1] (c_X5_of (xl X) hfx this p1 1) gX5_areSame_X5_of rfl dv_X5_of (by decide) (by decide) rfl rfl dX5_areSame_3 (Nat.le_of_ble_eq_true rfl) rfl hE hf (fun x1 G hf => ?_)
  refine v_istore_n [(3, .int x1), (0, .ref this), (1, .int p1), (2, .int p2)] dX5_areSame_6 rfl (by decide) rfl ?_
  refine v_aload_n 1 dX5_areSame_7 rfl rfl ?_
  refine v_iload_n 3 dX5_areSame_8 rfl rfl ?_
  refine v_iconst 1 dX5_areSame_9 (by decide) ?_
  refine v_callVi 5 2 [.int p2, .int 1] (c_X5_of (xl X) hfx this p2 1) gX5_areSame_X5_of rfl dv_X5_of (by decide) (by decide) rfl rfl dX5_areSame_10 (Nat.le_of_ble_eq_true rfl) rfl hE hf (fun x2 G hf => ?_)
  refine v_iload_n 0 dX5_areSame_13 rfl rfl ?_
  refine v_icmp_eq 19 dX5_areSame_14 (by decide) hf (fun _ hf => ?_) (fun _ hf => ?_)
  · refine v_aload_n 1 dX5_areSame_19 rfl rfl ?_
    refine v_iload_n 2 dX5_areSame_20 rfl rfl ?_
    refine v_callVv 5 1 [.int p1] (c_X5_laysRow (xl X) hfx this p1) gX5_areSame_X5_laysRow rfl dv_X5_laysRow (by decide) (by decide) rfl rfl dX5_areSame_21 (Nat.le_of_ble_eq_true rfl) rfl hE hf (fun _ G hf => ?_)
    refine v_iconst 0 dX5_areSame_24 (by decide) ?_
    refine v_istore [(4, .int 0), (3, .int x1), (0, .ref this), (1, .int p1), (2, .int p2)] dX5_areSame_25 (by decide) rfl ?_
    refine v_sub [2, 4, 1, 0] rfl ?_
    exact e_X5_areSame_27 hfx hn hr hE FU this p2 x1 0 G hf
  · refine v_iconst 0 dX5_areSame_17 (by decide) ?_
    exact v_zret hr dX5_areSame_18 hE hf
theorem c_X5_areSame (l : Launch) (hfl : l.stackTraces = false) (this : Nat) (p1 : Int32) (p2 : Int32) : CM l yX5_areSame wsX5_areSame 3 70 [.ref this, .int p1, .int p2] vI (f_X5_areSame this p1 p2) := CM.start hfl RX5 rfl (by decide +kernel) rfl (Nat.le_of_ble_eq_true rfl) (fun X G z Gf hl hn hr hf => e_X5_areSame_0 (by rw [hl]; exact hfl) hn hr ⟨rfl, rfl⟩ this p1 p2 G hf)
theorem dv_X5_areSame : yX5_areSame.cls = RX5 ∧ yX5_areSame.cls ≠ "java/lang/invoke/MethodHandle" ∧ yX5_areSame.cls ≠ "java/lang/invoke/VarHandle" ∧ (parseMethodDescriptor yX5_areSame.desc).map (fun d => d.parameters.length) = some 2 := by decide +kernel
theorem m_X5_same_f41 : Cond.fieldLink RX5 41 RX5 "thrown" "I" ∈ wsX5_same := by decide +kernel
theorem n_X5_same_X5 : ∀ w ∈ u_ws RX5 TX5 16, w ∈ wsX5_same := by decide +kernel
set_option maxRecDepth 100000 in
set_option maxHeartbeats 4000000 in
theorem e_X5_same_17 {X : VX} {B : VB} {z : Int32} {Gf : GH}  (hfx : (xl X).stackTraces = false) (hn : (xme X).name = "same") (hr : (xme X).sig.returnType = (some .boolean)) (hE : VE B (z, Gf))  (this : Nat) (p1 : Int32) (p2 : Int32) (s0 : Nat) (G : GH) (hf : (f_X5_same_17 this p1 p2 s0).1 G = some (z, Gf)) : V X RX5 cX5_same 3 4 95 wsX5_same B (QE X (vI z) Gf B) G 17 [(0, .ref this), (1, .int p1), (2, .int p2)] [.ref s0] := by
  unfold f_X5_same_17 at hf
  refine v_iconst 1 dX5_same_17 (by decide) ?_
  refine v_goto 22 dX5_same_18 (by decide) ?_
  refine v_put 5 6 .int n_X5_same_X5 tyX5 tyX5_ok nmX5 rfl (by decide) rfl m_X5_same_f41 rfl (by decide +kernel) rfl rfl dX5_same_22 hf (fun G _ hf => ?_)
  refine v_aload_n 0 dX5_same_25 rfl rfl ?_
  refine v_gi 5 6 n_X5_same_X5 rfl (by decide) rfl m_X5_same_f41 dX5_same_26 hf (fun x2 hf => ?_)
  refine v_if_ne 45 dX5_same_29 (by decide) hf (fun _ hf => ?_) (fun _ hf => ?_)
  · refine v_iconst 0 dX5_same_45 (by decide) ?_
    exact v_zret hr dX5_same_46 hE hf
  · refine v_aload_n 0 dX5_same_32 rfl rfl ?_
    refine v_iload_n 1 dX5_same_33 rfl rfl ?_
    refine v_iload_n 2 dX5_same_34 rfl rfl ?_
    refine v_callVi 5 2 [.int p1, .int p2] (c_X5_areSame (xl X) hfx this p1 p2) gX5_same_X5_areSame rfl dv_X5_areSame (by decide) (by decide) rfl rfl dX5_same_35 (Nat.le_of_ble_eq_true rfl) rfl hE hf (fun x3 G hf => ?_)
    refine v_if_eq 45 dX5_same_38 (by decide) hf (fun _ hf => ?_) (fun _ hf => ?_)
    · refine v_iconst 0 dX5_same_45 (by decide) ?_
      exact v_zret hr dX5_same_46 hE hf
    · refine v_iconst 1 dX5_same_41 (by decide) ?_
      refine v_goto 46 dX5_same_42 (by decide) ?_
      exact v_zret hr dX5_same_46 hE hf
set_option maxRecDepth 100000 in
set_option maxHeartbeats 4000000 in
theorem e_X5_same_0 {X : VX} {B : VB} {z : Int32} {Gf : GH}  (hfx : (xl X).stackTraces = false) (hn : (xme X).name = "same") (hr : (xme X).sig.returnType = (some .boolean)) (hE : VE B (z, Gf))  (this : Nat) (p1 : Int32) (p2 : Int32) (G : GH) (hf : (f_X5_same this p1 p2).1 G = some (z, Gf)) : V X RX5 cX5_same 3 4 95 wsX5_same B (QE X (vI z) Gf B) G 0 [(0, .ref this), (1, .int p1), (2, .int p2)] [] := by
  unfold f_X5_same at hf
  refine v_aload_n 0 dX5_same_0 rfl rfl ?_
  refine v_aload_n 0 dX5_same_1 rfl rfl ?_
  refine v_iload_n 1 dX5_same_2 rfl rfl ?_
  refine v_callVi 5 1 [.int p1] (c_X5_isVersion (xl X) hfx this p1) gX5_same_X5_isVersion rfl dv_X5_isVersion (by decide) (by decide) rfl rfl dX5_same_3 (Nat.le_of_ble_eq_true rfl) rfl hE hf (fun x1 G hf => ?_)
  refine v_if_eq 17 dX5_same_6 (by decide) hf (fun _ hf => ?_) (fun _ hf => ?_)
  · refine v_sub [0, 1, 2] rfl ?_
    exact e_X5_same_17 hfx hn hr hE this p1 p2 this G hf
  · refine v_aload_n 0 dX5_same_9 rfl rfl ?_
    refine v_iload_n 2 dX5_same_10 rfl rfl ?_
    refine v_callVi 5 1 [.int p2] (c_X5_isVersion (xl X) hfx this p2) gX5_same_X5_isVersion rfl dv_X5_isVersion (by decide) (by decide) rfl rfl dX5_same_11 (Nat.le_of_ble_eq_true rfl) rfl hE hf (fun x4 G hf => ?_)
    refine v_if_ne 21 dX5_same_14 (by decide) hf (fun _ hf => ?_) (fun _ hf => ?_)
    · refine v_iconst 0 dX5_same_21 (by decide) ?_
      refine v_put 5 6 .int n_X5_same_X5 tyX5 tyX5_ok nmX5 rfl (by decide) rfl m_X5_same_f41 rfl (by decide +kernel) rfl rfl dX5_same_22 hf (fun G _ hf => ?_)
      refine v_aload_n 0 dX5_same_25 rfl rfl ?_
      refine v_gi 5 6 n_X5_same_X5 rfl (by decide) rfl m_X5_same_f41 dX5_same_26 hf (fun x5 hf => ?_)
      refine v_if_ne 45 dX5_same_29 (by decide) hf (fun _ hf => ?_) (fun _ hf => ?_)
      · refine v_iconst 0 dX5_same_45 (by decide) ?_
        exact v_zret hr dX5_same_46 hE hf
      · refine v_aload_n 0 dX5_same_32 rfl rfl ?_
        refine v_iload_n 1 dX5_same_33 rfl rfl ?_
        refine v_iload_n 2 dX5_same_34 rfl rfl ?_
        refine v_callVi 5 2 [.int p1, .int p2] (c_X5_areSame (xl X) hfx this p1 p2) gX5_same_X5_areSame rfl dv_X5_areSame (by decide) (by decide) rfl rfl dX5_same_35 (Nat.le_of_ble_eq_true rfl) rfl hE hf (fun x6 G hf => ?_)
        refine v_if_eq 45 dX5_same_38 (by decide) hf (fun _ hf => ?_) (fun _ hf => ?_)
        · refine v_iconst 0 dX5_same_45 (by decide) ?_
          exact v_zret hr dX5_same_46 hE hf
        · refine v_iconst 1 dX5_same_41 (by decide) ?_
          refine v_goto 46 dX5_same_42 (by decide) ?_
          exact v_zret hr dX5_same_46 hE hf
    · refine v_sub [0, 1, 2] rfl ?_
      exact e_X5_same_17 hfx hn hr hE this p1 p2 this G hf
theorem c_X5_same (l : Launch) (hfl : l.stackTraces = false) (this : Nat) (p1 : Int32) (p2 : Int32) : CM l yX5_same wsX5_same 4 95 [.ref this, .int p1, .int p2] vI (f_X5_same this p1 p2) := CM.start hfl RX5 rfl (by decide +kernel) rfl (Nat.le_of_ble_eq_true rfl) (fun X G z Gf hl hn hr hf => e_X5_same_0 (by rw [hl]; exact hfl) hn hr ⟨rfl, rfl⟩ this p1 p2 G hf)
theorem dv_X5_same : yX5_same.cls = RX5 ∧ yX5_same.cls ≠ "java/lang/invoke/MethodHandle" ∧ yX5_same.cls ≠ "java/lang/invoke/VarHandle" ∧ (parseMethodDescriptor yX5_same.desc).map (fun d => d.parameters.length) = some 2 := by decide +kernel
theorem m_X5_firstLike_f41 : Cond.fieldLink RX5 41 RX5 "thrown" "I" ∈ wsX5_firstLike := by decide +kernel
theorem n_X5_firstLike_X5 : ∀ w ∈ u_ws RX5 TX5 16, w ∈ wsX5_firstLike := by decide +kernel
set_option maxRecDepth 100000 in
set_option maxHeartbeats 4000000 in
theorem e_X5_firstLike_19 {X : VX} {B : VB} {z : Int32} {Gf : GH}  (hfx : (xl X).stackTraces = false) (hn : (xme X).name = "firstLike") (hr : (xme X).sig.returnType = (some .int)) (hE : VE B (z, Gf))  : ∀ (n : Nat) (this : Nat) (p1 : Int32) (l2 : Int32) (G : GH), (f_X5_firstLike_19 n this p1 l2).1 G = some (z, Gf) → V X RX5 cX5_firstLike 3 4 95 wsX5_firstLike B (QE X (vI z) Gf B) G 19 [(0, .ref this), (1, .int p1), (2, .int l2)] [] := by
  intro n
  induction n with
  | zero =>
    intro this p1 l2 G hf
    have h0 : (none : Option (Int32 × GH)) = some (z, Gf) := hf
    cases h0
  | succ n ih =>
    intro this p1 l2 G hf
    rw [f_X5_firstLike_19.eq_2] at hf
    refine v_aload_n 0 dX5_firstLike_19 rfl rfl ?_
    refine v_gi 5 6 n_X5_firstLike_X5 rfl (by decide) rfl m_X5_firstLike_f41 dX5_firstLike_20 hf (fun x2 hf => ?_)
    refine v_if_ne 41 dX5_firstLike_23 (by decide) hf (fun _ hf => ?_) (fun _ hf => ?_)
    · refine v_iload_n 2 dX5_firstLike_41 rfl rfl ?_
      exact v_iret hr dX5_firstLike_42 hE hf
    · refine v_aload_n 0 dX5_firstLike_26 rfl rfl ?_
      refine v_iload_n 2 dX5_firstLike_27 rfl rfl ?_
      refine v_iload_n 1 dX5_firstLike_28 rfl rfl ?_
      refine v_callVi 5 2 [.int l2, .int p1] (c_X5_areSame (xl X) hfx this l2 p1) gX5_firstLike_X5_areSame rfl dv_X5_areSame (by decide) (by decide) rfl rfl dX5_firstLike_29 (Nat.le_of_ble_eq_true rfl) rfl hE hf (fun x3 G hf => ?_)
      refine v_if_ne 41 dX5_firstLike_32 (by decide) hf (fun _ hf => ?_) (fun _ hf => ?_)
      · refine v_iload_n 2 dX5_firstLike_41 rfl rfl ?_
        exact v_iret hr dX5_firstLike_42 hE hf
      · refine v_iinc 2 (l2 + 1) [(2, .int (l2 + 1)), (0, .ref this), (1, .int p1)] dX5_firstLike_35 rfl (by rfl) (by decide) rfl ?_
        refine v_goto 19 dX5_firstLike_38 (by decide) ?_
        refine v_sub [1, 2, 0] rfl ?_
        exact ih this p1 (l2 + 1) G hf
set_option maxRecDepth 100000 in
set_option maxHeartbeats 4000000 in
theorem e_X5_firstLike_14 {X : VX} {B : VB} {z : Int32} {Gf : GH}  (hfx : (xl X).stackTraces = false) (hn : (xme X).name = "firstLike") (hr : (xme X).sig.returnType = (some .int)) (hE : VE B (z, Gf))  (this : Nat) (p1 : Int32) (s0 : Int32) (s1 : Nat) (G : GH) (hf : (f_X5_firstLike_14 this p1 s0 s1).1 G = some (z, Gf)) : V X RX5 cX5_firstLike 3 4 95 wsX5_firstLike B (QE X (vI z) Gf B) G 14 [(0, .ref this), (1, .int p1)] [.int s0, .ref s1] := by
  unfold f_X5_firstLike_14 at hf
  refine v_put 5 6 .int n_X5_firstLike_X5 tyX5 tyX5_ok nmX5 rfl (by decide) rfl m_X5_firstLike_f41 rfl (by decide +kernel) rfl rfl dX5_firstLike_14 hf (fun G _ hf => ?_)
  refine v_iconst 0 dX5_firstLike_17 (by decide) ?_
  refine v_istore_n [(2, .int 0), (0, .ref this), (1, .int p1)] dX5_firstLike_18 rfl (by decide) rfl ?_
  refine v_sub [1, 2, 0] rfl ?_
  exact e_X5_firstLike_19 hfx hn hr hE FU this p1 0 G hf
set_option maxRecDepth 100000 in
set_option maxHeartbeats 4000000 in
theorem e_X5_firstLike_0 {X : VX} {B : VB} {z : Int32} {Gf : GH}  (hfx : (xl X).stackTraces = false) (hn : (xme X).name = "firstLike") (hr : (xme X).sig.returnType = (some .int)) (hE : VE B (z, Gf))  (this : Nat) (p1 : Int32) (G : GH) (hf : (f_X5_firstLike this p1).1 G = some (z, Gf)) : V X RX5 cX5_firstLike 3 4 95 wsX5_firstLike B (QE X (vI z) Gf B) G 0 [(0, .ref this), (1, .int p1)] [] := by
  unfold f_X5_firstLike at hf
  refine v_aload_n 0 dX5_firstLike_0 rfl rfl ?_
  refine v_aload_n 0 dX5_firstLike_1 rfl rfl ?_
  refine v_iload_n 1 dX5_firstLike_2 rfl rfl ?_
  refine v_callVi 5 1 [.int p1] (c_X5_isVersion (xl X) hfx this p1) gX5_firstLike_X5_isVersion rfl dv_X5_isVersion (by decide) (by decide) rfl rfl dX5_firstLike_3 (Nat.le_of_ble_eq_true rfl) rfl hE hf (fun x1 G hf => ?_)
  refine v_if_ne 13 dX5_firstLike_6 (by decide) hf (fun _ hf => ?_) (fun _ hf => ?_)
  · refine v_iconst 0 dX5_firstLike_13 (by decide) ?_
    refine v_sub [0, 1] rfl ?_
    exact e_X5_firstLike_14 hfx hn hr hE this p1 0 this G hf
  · refine v_iconst 1 dX5_firstLike_9 (by decide) ?_
    refine v_goto 14 dX5_firstLike_10 (by decide) ?_
    refine v_sub [0, 1] rfl ?_
    exact e_X5_firstLike_14 hfx hn hr hE this p1 1 this G hf
theorem c_X5_firstLike (l : Launch) (hfl : l.stackTraces = false) (this : Nat) (p1 : Int32) : CM l yX5_firstLike wsX5_firstLike 4 95 [.ref this, .int p1] vI (f_X5_firstLike this p1) := CM.start hfl RX5 rfl (by decide +kernel) rfl (Nat.le_of_ble_eq_true rfl) (fun X G z Gf hl hn hr hf => e_X5_firstLike_0 (by rw [hl]; exact hfl) hn hr ⟨rfl, rfl⟩ this p1 G hf)
theorem dv_X5_firstLike : yX5_firstLike.cls = RX5 ∧ yX5_firstLike.cls ≠ "java/lang/invoke/MethodHandle" ∧ yX5_firstLike.cls ≠ "java/lang/invoke/VarHandle" ∧ (parseMethodDescriptor yX5_firstLike.desc).map (fun d => d.parameters.length) = some 1 := by decide +kernel
theorem m_X5_worst_f41 : Cond.fieldLink RX5 41 RX5 "thrown" "I" ∈ wsX5_worst := by decide +kernel
theorem m_X5_worst_f25 : Cond.fieldLink RX5 25 RX5 "way" "[I" ∈ wsX5_worst := by decide +kernel
theorem n_X5_worst_X5 : ∀ w ∈ u_ws RX5 TX5 16, w ∈ wsX5_worst := by decide +kernel
set_option maxRecDepth 100000 in
set_option maxHeartbeats 4000000 in
theorem e_X5_worst_39 {X : VX} {B : VB} {z : Int32} {Gf : GH}  (hfx : (xl X).stackTraces = false) (hn : (xme X).name = "worst") (hr : (xme X).sig.returnType = (some .int)) (hE : VE B (z, Gf))  : ∀ (n : Nat) (this : Nat) (l2 : Int32) (l3 : Int32) (l4 : Int32) (G : GH), (f_X5_worst_39 n this l2 l3 l4).1 G = some (z, Gf) → V X RX5 cX5_worst 5 2 46 wsX5_worst B (QE X (vI z) Gf B) G 39 [(0, .ref this), (2, .int l2), (3, .int l3), (4, .int l4)] [] := by
  intro n
  induction n with
  | zero =>
    intro this l2 l3 l4 G hf
    have h0 : (none : Option (Int32 × GH)) = some (z, Gf) := hf
    cases h0
  | succ n ih =>
    intro this l2 l3 l4 G hf
    rw [f_X5_worst_39.eq_2] at hf
    refine v_iload 3 dX5_worst_39 rfl ?_
    refine v_iload_n 2 dX5_worst_41 rfl rfl ?_
    refine v_icmp_ge 84 dX5_worst_42 (by decide) hf (fun _ hf => ?_) (fun _ hf => ?_)
    · refine v_iload_n 1 dX5_worst_84 rfl rfl ?_
      exact v_iret hr dX5_worst_85 hE hf
    · refine v_aload_n 0 dX5_worst_45 rfl rfl ?_
      refine v_aload_n 0 dX5_worst_46 rfl rfl ?_
      refine v_gr 5 10 n_X5_worst_X5 rfl (by decide) rfl m_X5_worst_f25 dX5_worst_47 hf (fun r4 hf => ?_)
      refine v_iload 3 dX5_worst_50 rfl ?_
      refine v_iald dX5_worst_52 hf (fun x5 hf => ?_)
      refine v_iconst 5 dX5_worst_53 (by decide) ?_
      refine v_callVi 5 2 [.int x5, .int 5] (c_X5_of (xl X) hfx this x5 5) gX5_worst_X5_of rfl dv_X5_of (by decide) (by decide) rfl rfl dX5_worst_54 (Nat.le_of_ble_eq_true rfl) rfl hE hf (fun x6 G hf => ?_)
      refine v_iload_n 1 dX5_worst_57 rfl rfl ?_
      refine v_icmp_le 76 dX5_worst_58 (by decide) hf (fun _ hf => ?_) (fun _ hf => ?_)
      · refine v_iload_n 1 dX5_worst_76 rfl rfl ?_
        refine v_istore_n [(2, .int l2), (0, .ref this), (3, .int l3), (4, .int l4)] dX5_worst_77 rfl (by decide) rfl ?_
        refine v_iinc 3 (l4 + 1) [(4, .int (l4 + 1)), (2, .int l2), (0, .ref this), (3, .int l3)] dX5_worst_78 rfl (by rfl) (by decide) rfl ?_
        refine v_goto 39 dX5_worst_81 (by decide) ?_
        refine v_sub [2, 1, 3, 0] rfl ?_
        exact ih this l2 l3 (l4 + 1) G hf
      · refine v_aload_n 0 dX5_worst_61 rfl rfl ?_
        refine v_aload_n 0 dX5_worst_62 rfl rfl ?_
        refine v_gr 5 10 n_X5_worst_X5 rfl (by decide) rfl m_X5_worst_f25 dX5_worst_63 hf (fun r7 hf => ?_)
        refine v_iload 3 dX5_worst_66 rfl ?_
        refine v_iald dX5_worst_68 hf (fun x8 hf => ?_)
        refine v_iconst 5 dX5_worst_69 (by decide) ?_
        refine v_callVi 5 2 [.int x8, .int 5] (c_X5_of (xl X) hfx this x8 5) gX5_worst_X5_of rfl dv_X5_of (by decide) (by decide) rfl rfl dX5_worst_70 (Nat.le_of_ble_eq_true rfl) rfl hE hf (fun x9 G hf => ?_)
        refine v_goto 77 dX5_worst_73 (by decide) ?_
        refine v_istore_n [(2, .int x9), (0, .ref this), (3, .int l3), (4, .int l4)] dX5_worst_77 rfl (by decide) rfl ?_
        refine v_iinc 3 (l4 + 1) [(4, .int (l4 + 1)), (2, .int x9), (0, .ref this), (3, .int l3)] dX5_worst_78 rfl (by rfl) (by decide) rfl ?_
        refine v_goto 39 dX5_worst_81 (by decide) ?_
        refine v_sub [2, 1, 3, 0] rfl ?_
        exact ih this x9 l3 (l4 + 1) G hf
set_option maxRecDepth 100000 in
set_option maxHeartbeats 4000000 in
theorem e_X5_worst_35 {X : VX} {B : VB} {z : Int32} {Gf : GH}  (hfx : (xl X).stackTraces = false) (hn : (xme X).name = "worst") (hr : (xme X).sig.returnType = (some .int)) (hE : VE B (z, Gf))  (this : Nat) (l2 : Int32) (s0 : Int32) (G : GH) (hf : (f_X5_worst_35 this l2 s0).1 G = some (z, Gf)) : V X RX5 cX5_worst 5 2 46 wsX5_worst B (QE X (vI z) Gf B) G 35 [(0, .ref this), (2, .int l2)] [.int s0] := by
  unfold f_X5_worst_35 at hf
  refine v_istore_n [(3, .int s0), (0, .ref this), (2, .int l2)] dX5_worst_35 rfl (by decide) rfl ?_
  refine v_iconst 0 dX5_worst_36 (by decide) ?_
  refine v_istore [(4, .int 0), (3, .int s0), (0, .ref this), (2, .int l2)] dX5_worst_37 (by decide) rfl ?_
  refine v_sub [2, 3, 1, 0] rfl ?_
  exact e_X5_worst_39 hfx hn hr hE FU this l2 s0 0 G hf
set_option maxRecDepth 100000 in
set_option maxHeartbeats 4000000 in
theorem e_X5_worst_14 {X : VX} {B : VB} {z : Int32} {Gf : GH}  (hfx : (xl X).stackTraces = false) (hn : (xme X).name = "worst") (hr : (xme X).sig.returnType = (some .int)) (hE : VE B (z, Gf))  (this : Nat) (p1 : Int32) (s0 : Int32) (s1 : Nat) (G : GH) (hf : (f_X5_worst_14 this p1 s0 s1).1 G = some (z, Gf)) : V X RX5 cX5_worst 5 2 46 wsX5_worst B (QE X (vI z) Gf B) G 14 [(0, .ref this), (1, .int p1)] [.int s0, .ref s1] := by
  unfold f_X5_worst_14 at hf
  refine v_put 5 6 .int n_X5_worst_X5 tyX5 tyX5_ok nmX5 rfl (by decide) rfl m_X5_worst_f41 rfl (by decide +kernel) rfl rfl dX5_worst_14 hf (fun G _ hf => ?_)
  refine v_iconst 0 dX5_worst_17 (by decide) ?_
  refine v_istore_n [(2, .int 0), (0, .ref this), (1, .int p1)] dX5_worst_18 rfl (by decide) rfl ?_
  refine v_aload_n 1 dX5_worst_19 rfl rfl ?_
  refine v_gi 5 6 n_X5_worst_X5 rfl (by decide) rfl m_X5_worst_f41 dX5_worst_20 hf (fun x2 hf => ?_)
  refine v_if_eq 30 dX5_worst_23 (by decide) hf (fun _ hf => ?_) (fun _ hf => ?_)
  · refine v_aload_n 1 dX5_worst_30 rfl rfl ?_
    refine v_iload_n 2 dX5_worst_31 rfl rfl ?_
    refine v_callVi 5 1 [.int p1] (c_X5_laysWay (xl X) hfx this p1) gX5_worst_X5_laysWay rfl dv_X5_laysWay (by decide) (by decide) rfl rfl dX5_worst_32 (Nat.le_of_ble_eq_true rfl) rfl hE hf (fun x3 G hf => ?_)
    refine v_sub [1, 0] rfl ?_
    exact e_X5_worst_35 hfx hn hr hE this 0 x3 G hf
  · refine v_iconst 0 dX5_worst_26 (by decide) ?_
    refine v_goto 35 dX5_worst_27 (by decide) ?_
    refine v_sub [1, 0] rfl ?_
    exact e_X5_worst_35 hfx hn hr hE this 0 0 G hf
set_option maxRecDepth 100000 in
set_option maxHeartbeats 4000000 in
theorem e_X5_worst_0 {X : VX} {B : VB} {z : Int32} {Gf : GH}  (hfx : (xl X).stackTraces = false) (hn : (xme X).name = "worst") (hr : (xme X).sig.returnType = (some .int)) (hE : VE B (z, Gf))  (this : Nat) (p1 : Int32) (G : GH) (hf : (f_X5_worst this p1).1 G = some (z, Gf)) : V X RX5 cX5_worst 5 2 46 wsX5_worst B (QE X (vI z) Gf B) G 0 [(0, .ref this), (1, .int p1)] [] := by
  unfold f_X5_worst at hf
  refine v_aload_n 0 dX5_worst_0 rfl rfl ?_
  refine v_aload_n 0 dX5_worst_1 rfl rfl ?_
  refine v_iload_n 1 dX5_worst_2 rfl rfl ?_
  refine v_callVi 5 1 [.int p1] (c_X5_isVersion (xl X) hfx this p1) gX5_worst_X5_isVersion rfl dv_X5_isVersion (by decide) (by decide) rfl rfl dX5_worst_3 (Nat.le_of_ble_eq_true rfl) rfl hE hf (fun x1 G hf => ?_)
  refine v_if_ne 13 dX5_worst_6 (by decide) hf (fun _ hf => ?_) (fun _ hf => ?_)
  · refine v_iconst 0 dX5_worst_13 (by decide) ?_
    refine v_sub [0, 1] rfl ?_
    exact e_X5_worst_14 hfx hn hr hE this p1 0 this G hf
  · refine v_iconst 1 dX5_worst_9 (by decide) ?_
    refine v_goto 14 dX5_worst_10 (by decide) ?_
    refine v_sub [0, 1] rfl ?_
    exact e_X5_worst_14 hfx hn hr hE this p1 1 this G hf
theorem c_X5_worst (l : Launch) (hfl : l.stackTraces = false) (this : Nat) (p1 : Int32) : CM l yX5_worst wsX5_worst 2 46 [.ref this, .int p1] vI (f_X5_worst this p1) := CM.start hfl RX5 rfl (by decide +kernel) rfl (Nat.le_of_ble_eq_true rfl) (fun X G z Gf hl hn hr hf => e_X5_worst_0 (by rw [hl]; exact hfl) hn hr ⟨rfl, rfl⟩ this p1 G hf)
theorem dv_X5_worst : yX5_worst.cls = RX5 ∧ yX5_worst.cls ≠ "java/lang/invoke/MethodHandle" ∧ yX5_worst.cls ≠ "java/lang/invoke/VarHandle" ∧ (parseMethodDescriptor yX5_worst.desc).map (fun d => d.parameters.length) = some 1 := by decide +kernel
theorem m_X5_mean_f41 : Cond.fieldLink RX5 41 RX5 "thrown" "I" ∈ wsX5_mean := by decide +kernel
theorem m_X5_mean_f25 : Cond.fieldLink RX5 25 RX5 "way" "[I" ∈ wsX5_mean := by decide +kernel
theorem n_X5_mean_X5 : ∀ w ∈ u_ws RX5 TX5 16, w ∈ wsX5_mean := by decide +kernel
set_option maxRecDepth 100000 in
set_option maxHeartbeats 4000000 in
theorem e_X5_mean_39 {X : VX} {B : VB} {z : UInt64} {Gf : GH}  (hfx : (xl X).stackTraces = false) (hn : (xme X).name = "mean") (hr : (xme X).sig.returnType = (some .double)) (hE : VE B (z, Gf))  : ∀ (n : Nat) (this : Nat) (l2 : Int32) (l3 : Int32) (l4 : Int32) (G : GH), (f_X5_mean_39 n this l2 l3 l4).1 G = some (z, Gf) → V X RX5 cX5_mean 5 2 46 wsX5_mean B (QE X (vD z) Gf B) G 39 [(0, .ref this), (2, .int l2), (3, .int l3), (4, .int l4)] [] := by
  intro n
  induction n with
  | zero =>
    intro this l2 l3 l4 G hf
    have h0 : (none : Option (UInt64 × GH)) = some (z, Gf) := hf
    cases h0
  | succ n ih =>
    intro this l2 l3 l4 G hf
    rw [f_X5_mean_39.eq_2] at hf
    refine v_iload 3 dX5_mean_39 rfl ?_
    refine v_iload_n 2 dX5_mean_41 rfl rfl ?_
    refine v_icmp_ge 66 dX5_mean_42 (by decide) hf (fun _ hf => ?_) (fun _ hf => ?_)
    · refine v_iload_n 2 dX5_mean_66 rfl rfl ?_
      refine v_if_ne 74 dX5_mean_67 (by decide) hf (fun _ hf => ?_) (fun _ hf => ?_)
      · refine v_iload_n 1 dX5_mean_74 rfl rfl ?_
        refine v_i2d dX5_mean_75 ?_
        refine v_iload_n 2 dX5_mean_76 rfl rfl ?_
        refine v_i2d dX5_mean_77 ?_
        refine v_ddiv dX5_mean_78 hf (fun d4 hf => ?_)
        exact v_dret hr dX5_mean_79 hE hf
      · refine v_dconst0 dX5_mean_70 ?_
        refine v_goto 79 dX5_mean_71 (by decide) ?_
        exact v_dret hr dX5_mean_79 hE hf
    · refine v_iload_n 1 dX5_mean_45 rfl rfl ?_
      refine v_aload_n 0 dX5_mean_46 rfl rfl ?_
      refine v_aload_n 0 dX5_mean_47 rfl rfl ?_
      refine v_gr 5 10 n_X5_mean_X5 rfl (by decide) rfl m_X5_mean_f25 dX5_mean_48 hf (fun r5 hf => ?_)
      refine v_iload 3 dX5_mean_51 rfl ?_
      refine v_iald dX5_mean_53 hf (fun x6 hf => ?_)
      refine v_iconst 5 dX5_mean_54 (by decide) ?_
      refine v_callVi 5 2 [.int x6, .int 5] (c_X5_of (xl X) hfx this x6 5) gX5_mean_X5_of rfl dv_X5_of (by decide) (by decide) rfl rfl dX5_mean_55 (Nat.le_of_ble_eq_true rfl) rfl hE hf (fun x7 G hf => ?_)
      refine v_iadd dX5_mean_58 ?_
      refine v_istore_n [(2, .int (l2 + x7)), (0, .ref this), (3, .int l3), (4, .int l4)] dX5_mean_59 rfl (by decide) rfl ?_
      refine v_iinc 3 (l4 + 1) [(4, .int (l4 + 1)), (2, .int (l2 + x7)), (0, .ref this), (3, .int l3)] dX5_mean_60 rfl (by rfl) (by decide) rfl ?_
      refine v_goto 39 dX5_mean_63 (by decide) ?_
      refine v_sub [2, 1, 3, 0] rfl ?_
      exact ih this (l2 + x7) l3 (l4 + 1) G hf
set_option maxRecDepth 100000 in
set_option maxHeartbeats 4000000 in
theorem e_X5_mean_35 {X : VX} {B : VB} {z : UInt64} {Gf : GH}  (hfx : (xl X).stackTraces = false) (hn : (xme X).name = "mean") (hr : (xme X).sig.returnType = (some .double)) (hE : VE B (z, Gf))  (this : Nat) (l2 : Int32) (s0 : Int32) (G : GH) (hf : (f_X5_mean_35 this l2 s0).1 G = some (z, Gf)) : V X RX5 cX5_mean 5 2 46 wsX5_mean B (QE X (vD z) Gf B) G 35 [(0, .ref this), (2, .int l2)] [.int s0] := by
  unfold f_X5_mean_35 at hf
  refine v_istore_n [(3, .int s0), (0, .ref this), (2, .int l2)] dX5_mean_35 rfl (by decide) rfl ?_
  refine v_iconst 0 dX5_mean_36 (by decide) ?_
  refine v_istore [(4, .int 0), (3, .int s0), (0, .ref this), (2, .int l2)] dX5_mean_37 (by decide) rfl ?_
  refine v_sub [2, 3, 1, 0] rfl ?_
  exact e_X5_mean_39 hfx hn hr hE FU this l2 s0 0 G hf
set_option maxRecDepth 100000 in
set_option maxHeartbeats 4000000 in
theorem e_X5_mean_14 {X : VX} {B : VB} {z : UInt64} {Gf : GH}  (hfx : (xl X).stackTraces = false) (hn : (xme X).name = "mean") (hr : (xme X).sig.returnType = (some .double)) (hE : VE B (z, Gf))  (this : Nat) (p1 : Int32) (s0 : Int32) (s1 : Nat) (G : GH) (hf : (f_X5_mean_14 this p1 s0 s1).1 G = some (z, Gf)) : V X RX5 cX5_mean 5 2 46 wsX5_mean B (QE X (vD z) Gf B) G 14 [(0, .ref this), (1, .int p1)] [.int s0, .ref s1] := by
  unfold f_X5_mean_14 at hf
  refine v_put 5 6 .int n_X5_mean_X5 tyX5 tyX5_ok nmX5 rfl (by decide) rfl m_X5_mean_f41 rfl (by decide +kernel) rfl rfl dX5_mean_14 hf (fun G _ hf => ?_)
  refine v_iconst 0 dX5_mean_17 (by decide) ?_
  refine v_istore_n [(2, .int 0), (0, .ref this), (1, .int p1)] dX5_mean_18 rfl (by decide) rfl ?_
  refine v_aload_n 1 dX5_mean_19 rfl rfl ?_
  refine v_gi 5 6 n_X5_mean_X5 rfl (by decide) rfl m_X5_mean_f41 dX5_mean_20 hf (fun x2 hf => ?_)
  refine v_if_eq 30 dX5_mean_23 (by decide) hf (fun _ hf => ?_) (fun _ hf => ?_)
  · refine v_aload_n 1 dX5_mean_30 rfl rfl ?_
    refine v_iload_n 2 dX5_mean_31 rfl rfl ?_
    refine v_callVi 5 1 [.int p1] (c_X5_laysWay (xl X) hfx this p1) gX5_mean_X5_laysWay rfl dv_X5_laysWay (by decide) (by decide) rfl rfl dX5_mean_32 (Nat.le_of_ble_eq_true rfl) rfl hE hf (fun x3 G hf => ?_)
    refine v_sub [1, 0] rfl ?_
    exact e_X5_mean_35 hfx hn hr hE this 0 x3 G hf
  · refine v_iconst 0 dX5_mean_26 (by decide) ?_
    refine v_goto 35 dX5_mean_27 (by decide) ?_
    refine v_sub [1, 0] rfl ?_
    exact e_X5_mean_35 hfx hn hr hE this 0 0 G hf
set_option maxRecDepth 100000 in
set_option maxHeartbeats 4000000 in
theorem e_X5_mean_0 {X : VX} {B : VB} {z : UInt64} {Gf : GH}  (hfx : (xl X).stackTraces = false) (hn : (xme X).name = "mean") (hr : (xme X).sig.returnType = (some .double)) (hE : VE B (z, Gf))  (this : Nat) (p1 : Int32) (G : GH) (hf : (f_X5_mean this p1).1 G = some (z, Gf)) : V X RX5 cX5_mean 5 2 46 wsX5_mean B (QE X (vD z) Gf B) G 0 [(0, .ref this), (1, .int p1)] [] := by
  unfold f_X5_mean at hf
  refine v_aload_n 0 dX5_mean_0 rfl rfl ?_
  refine v_aload_n 0 dX5_mean_1 rfl rfl ?_
  refine v_iload_n 1 dX5_mean_2 rfl rfl ?_
  refine v_callVi 5 1 [.int p1] (c_X5_isVersion (xl X) hfx this p1) gX5_mean_X5_isVersion rfl dv_X5_isVersion (by decide) (by decide) rfl rfl dX5_mean_3 (Nat.le_of_ble_eq_true rfl) rfl hE hf (fun x1 G hf => ?_)
  refine v_if_ne 13 dX5_mean_6 (by decide) hf (fun _ hf => ?_) (fun _ hf => ?_)
  · refine v_iconst 0 dX5_mean_13 (by decide) ?_
    refine v_sub [0, 1] rfl ?_
    exact e_X5_mean_14 hfx hn hr hE this p1 0 this G hf
  · refine v_iconst 1 dX5_mean_9 (by decide) ?_
    refine v_goto 14 dX5_mean_10 (by decide) ?_
    refine v_sub [0, 1] rfl ?_
    exact e_X5_mean_14 hfx hn hr hE this p1 1 this G hf
theorem c_X5_mean (l : Launch) (hfl : l.stackTraces = false) (this : Nat) (p1 : Int32) : CM l yX5_mean wsX5_mean 2 46 [.ref this, .int p1] vD (f_X5_mean this p1) := CM.start hfl RX5 rfl (by decide +kernel) rfl (Nat.le_of_ble_eq_true rfl) (fun X G z Gf hl hn hr hf => e_X5_mean_0 (by rw [hl]; exact hfl) hn hr ⟨rfl, rfl⟩ this p1 G hf)
theorem dv_X5_mean : yX5_mean.cls = RX5 ∧ yX5_mean.cls ≠ "java/lang/invoke/MethodHandle" ∧ yX5_mean.cls ≠ "java/lang/invoke/VarHandle" ∧ (parseMethodDescriptor yX5_mean.desc).map (fun d => d.parameters.length) = some 1 := by decide +kernel
theorem m_X5_append_f133 : Cond.fieldLink RX5 133 RX5 "typed" "I" ∈ wsX5_append := by decide +kernel
theorem m_X5_append_f41 : Cond.fieldLink RX5 41 RX5 "thrown" "I" ∈ wsX5_append := by decide +kernel
theorem m_X5_append_f19 : Cond.fieldLink RX5 19 RX5 "text" "[I" ∈ wsX5_append := by decide +kernel
theorem n_X5_append_X5 : ∀ w ∈ u_ws RX5 TX5 16, w ∈ wsX5_append := by decide +kernel
set_option maxRecDepth 100000 in
set_option maxHeartbeats 4000000 in
theorem e_X5_append_29 {X : VX} {B : VB} {z : Int32} {Gf : GH}  (hfx : (xl X).stackTraces = false) (hn : (xme X).name = "append") (hr : (xme X).sig.returnType = (some .int)) (hE : VE B (z, Gf))  (this : Nat) (p1 : Int32) (s0 : Int32) (s1 : Nat) (G : GH) (hf : (f_X5_append_29 this p1 s0 s1).1 G = some (z, Gf)) : V X RX5 cX5_append 2 1 22 wsX5_append B (QE X (vI z) Gf B) G 29 [(0, .ref this), (1, .int p1)] [.int s0, .ref s1] := by
  unfold f_X5_append_29 at hf
  refine v_put 5 6 .int n_X5_append_X5 tyX5 tyX5_ok nmX5 rfl (by decide) rfl m_X5_append_f41 rfl (by decide +kernel) rfl rfl dX5_append_29 hf (fun G _ hf => ?_)
  refine v_aload_n 0 dX5_append_32 rfl rfl ?_
  refine v_gi 5 6 n_X5_append_X5 rfl (by decide) rfl m_X5_append_f41 dX5_append_33 hf (fun x3 hf => ?_)
  refine v_if_eq 41 dX5_append_36 (by decide) hf (fun _ hf => ?_) (fun _ hf => ?_)
  · refine v_aload_n 0 dX5_append_41 rfl rfl ?_
    refine v_gr 5 4 n_X5_append_X5 rfl (by decide) rfl m_X5_append_f19 dX5_append_42 hf (fun r4 hf => ?_)
    refine v_aload_n 0 dX5_append_45 rfl rfl ?_
    refine v_gi 5 5 n_X5_append_X5 rfl (by decide) rfl m_X5_append_f133 dX5_append_46 hf (fun x5 hf => ?_)
    refine v_iload_n 1 dX5_append_49 rfl rfl ?_
    refine v_iast dX5_append_50 hf (fun G _ hf => ?_)
    refine v_aload_n 0 dX5_append_51 rfl rfl ?_
    refine v_dup dX5_append_52 rfl ?_
    refine v_gi 5 5 n_X5_append_X5 rfl (by decide) rfl m_X5_append_f133 dX5_append_53 hf (fun x6 hf => ?_)
    refine v_iconst 1 dX5_append_56 (by decide) ?_
    refine v_iadd dX5_append_57 ?_
    refine v_put 5 5 .int n_X5_append_X5 tyX5 tyX5_ok nmX5 rfl (by decide) rfl m_X5_append_f133 rfl (by decide +kernel) rfl rfl dX5_append_58 hf (fun G _ hf => ?_)
    refine v_aload_n 0 dX5_append_61 rfl rfl ?_
    refine v_gi 5 5 n_X5_append_X5 rfl (by decide) rfl m_X5_append_f133 dX5_append_62 hf (fun x7 hf => ?_)
    exact v_iret hr dX5_append_65 hE hf
  · refine v_iconst 0 dX5_append_39 (by decide) ?_
    exact v_iret hr dX5_append_40 hE hf
set_option maxRecDepth 100000 in
set_option maxHeartbeats 4000000 in
theorem e_X5_append_0 {X : VX} {B : VB} {z : Int32} {Gf : GH}  (hfx : (xl X).stackTraces = false) (hn : (xme X).name = "append") (hr : (xme X).sig.returnType = (some .int)) (hE : VE B (z, Gf))  (this : Nat) (p1 : Int32) (G : GH) (hf : (f_X5_append this p1).1 G = some (z, Gf)) : V X RX5 cX5_append 2 1 22 wsX5_append B (QE X (vI z) Gf B) G 0 [(0, .ref this), (1, .int p1)] [] := by
  unfold f_X5_append at hf
  refine v_aload_n 0 dX5_append_0 rfl rfl ?_
  refine v_iload_n 1 dX5_append_1 rfl rfl ?_
  refine v_iconst 0 dX5_append_2 (by decide) ?_
  refine v_bipush 127 dX5_append_3 (by decide) ?_
  refine v_callSi 3 [.int p1, .int 0, .int 127] (c_X5_in (xl X) hfx p1 0 127) gX5_append_X5_in rfl dn_X5_in (by decide) (by decide) rfl dX5_append_5 (Nat.le_of_ble_eq_true rfl) rfl hE hf (fun x1 G hf => ?_)
  refine v_if_ne 15 dX5_append_8 (by decide) hf (fun _ hf => ?_) (fun _ hf => ?_)
  · refine v_aload_n 0 dX5_append_15 rfl rfl ?_
    refine v_gi 5 5 n_X5_append_X5 rfl (by decide) rfl m_X5_append_f133 dX5_append_16 hf (fun x2 hf => ?_)
    refine v_bipush 100 dX5_append_19 (by decide) ?_
    refine v_icmp_ne 28 dX5_append_21 (by decide) hf (fun _ hf => ?_) (fun _ hf => ?_)
    · refine v_iconst 0 dX5_append_28 (by decide) ?_
      refine v_sub [0, 1] rfl ?_
      exact e_X5_append_29 hfx hn hr hE this p1 0 this G hf
    · refine v_iconst 2 dX5_append_24 (by decide) ?_
      refine v_goto 29 dX5_append_25 (by decide) ?_
      refine v_sub [0, 1] rfl ?_
      exact e_X5_append_29 hfx hn hr hE this p1 2 this G hf
  · refine v_iconst 1 dX5_append_11 (by decide) ?_
    refine v_goto 29 dX5_append_12 (by decide) ?_
    refine v_sub [0, 1] rfl ?_
    exact e_X5_append_29 hfx hn hr hE this p1 1 this G hf
theorem c_X5_append (l : Launch) (hfl : l.stackTraces = false) (this : Nat) (p1 : Int32) : CM l yX5_append wsX5_append 1 22 [.ref this, .int p1] vI (f_X5_append this p1) := CM.start hfl RX5 rfl (by decide +kernel) rfl (Nat.le_of_ble_eq_true rfl) (fun X G z Gf hl hn hr hf => e_X5_append_0 (by rw [hl]; exact hfl) hn hr ⟨rfl, rfl⟩ this p1 G hf)
theorem dv_X5_append : yX5_append.cls = RX5 ∧ yX5_append.cls ≠ "java/lang/invoke/MethodHandle" ∧ yX5_append.cls ≠ "java/lang/invoke/VarHandle" ∧ (parseMethodDescriptor yX5_append.desc).map (fun d => d.parameters.length) = some 1 := by decide +kernel
theorem m_X5_clearText_f41 : Cond.fieldLink RX5 41 RX5 "thrown" "I" ∈ wsX5_clearText := by decide +kernel
theorem m_X5_clearText_f133 : Cond.fieldLink RX5 133 RX5 "typed" "I" ∈ wsX5_clearText := by decide +kernel
theorem n_X5_clearText_X5 : ∀ w ∈ u_ws RX5 TX5 16, w ∈ wsX5_clearText := by decide +kernel
set_option maxRecDepth 100000 in
set_option maxHeartbeats 4000000 in
theorem e_X5_clearText_0 {X : VX} {B : VB} {z : Int32} {Gf : GH}  (hfx : (xl X).stackTraces = false) (hn : (xme X).name = "clearText") (hr : (xme X).sig.returnType = (some .int)) (hE : VE B (z, Gf))  (this : Nat) (G : GH) (hf : (f_X5_clearText this).1 G = some (z, Gf)) : V X RX5 cX5_clearText 2 0 0 wsX5_clearText B (QE X (vI z) Gf B) G 0 [(0, .ref this)] [] := by
  unfold f_X5_clearText at hf
  refine v_aload_n 0 dX5_clearText_0 rfl rfl ?_
  refine v_iconst 0 dX5_clearText_1 (by decide) ?_
  refine v_put 5 6 .int n_X5_clearText_X5 tyX5 tyX5_ok nmX5 rfl (by decide) rfl m_X5_clearText_f41 rfl (by decide +kernel) rfl rfl dX5_clearText_2 hf (fun G _ hf => ?_)
  refine v_aload_n 0 dX5_clearText_5 rfl rfl ?_
  refine v_gi 5 5 n_X5_clearText_X5 rfl (by decide) rfl m_X5_clearText_f133 dX5_clearText_6 hf (fun x1 hf => ?_)
  refine v_istore_n [(1, .int x1), (0, .ref this)] dX5_clearText_9 rfl (by decide) rfl ?_
  refine v_aload_n 1 dX5_clearText_10 rfl rfl ?_
  refine v_iconst 0 dX5_clearText_11 (by decide) ?_
  refine v_put 5 5 .int n_X5_clearText_X5 tyX5 tyX5_ok nmX5 rfl (by decide) rfl m_X5_clearText_f133 rfl (by decide +kernel) rfl rfl dX5_clearText_12 hf (fun G _ hf => ?_)
  refine v_iload_n 0 dX5_clearText_15 rfl rfl ?_
  exact v_iret hr dX5_clearText_16 hE hf
theorem c_X5_clearText (l : Launch) (hfl : l.stackTraces = false) (this : Nat) : CM l yX5_clearText wsX5_clearText 0 0 [.ref this] vI (f_X5_clearText this) := CM.start hfl RX5 rfl (by decide +kernel) rfl (Nat.le_of_ble_eq_true rfl) (fun X G z Gf hl hn hr hf => e_X5_clearText_0 (by rw [hl]; exact hfl) hn hr ⟨rfl, rfl⟩ this G hf)
theorem dv_X5_clearText : yX5_clearText.cls = RX5 ∧ yX5_clearText.cls ≠ "java/lang/invoke/MethodHandle" ∧ yX5_clearText.cls ≠ "java/lang/invoke/VarHandle" ∧ (parseMethodDescriptor yX5_clearText.desc).map (fun d => d.parameters.length) = some 0 := by decide +kernel
theorem m_X5_byteAt_f133 : Cond.fieldLink RX5 133 RX5 "typed" "I" ∈ wsX5_byteAt := by decide +kernel
theorem m_X5_byteAt_f19 : Cond.fieldLink RX5 19 RX5 "text" "[I" ∈ wsX5_byteAt := by decide +kernel
theorem n_X5_byteAt_X5 : ∀ w ∈ u_ws RX5 TX5 16, w ∈ wsX5_byteAt := by decide +kernel
set_option maxRecDepth 100000 in
set_option maxHeartbeats 4000000 in
theorem e_X5_byteAt_0 {X : VX} {B : VB} {z : Int32} {Gf : GH}  (hfx : (xl X).stackTraces = false) (hn : (xme X).name = "byteAt") (hr : (xme X).sig.returnType = (some .int)) (hE : VE B (z, Gf))  (this : Nat) (p1 : Int32) (G : GH) (hf : (f_X5_byteAt this p1).1 G = some (z, Gf)) : V X RX5 cX5_byteAt 2 0 0 wsX5_byteAt B (QE X (vI z) Gf B) G 0 [(0, .ref this), (1, .int p1)] [] := by
  unfold f_X5_byteAt at hf
  refine v_iload_n 1 dX5_byteAt_0 rfl rfl ?_
  refine v_aload_n 0 dX5_byteAt_1 rfl rfl ?_
  refine v_gi 5 5 n_X5_byteAt_X5 rfl (by decide) rfl m_X5_byteAt_f133 dX5_byteAt_2 hf (fun x1 hf => ?_)
  refine v_icmp_ge 17 dX5_byteAt_5 (by decide) hf (fun _ hf => ?_) (fun _ hf => ?_)
  · refine v_iconst (-1) dX5_byteAt_17 (by decide) ?_
    exact v_iret hr dX5_byteAt_18 hE hf
  · refine v_aload_n 0 dX5_byteAt_8 rfl rfl ?_
    refine v_gr 5 4 n_X5_byteAt_X5 rfl (by decide) rfl m_X5_byteAt_f19 dX5_byteAt_9 hf (fun r2 hf => ?_)
    refine v_iload_n 1 dX5_byteAt_12 rfl rfl ?_
    refine v_iald dX5_byteAt_13 hf (fun x3 hf => ?_)
    refine v_goto 18 dX5_byteAt_14 (by decide) ?_
    exact v_iret hr dX5_byteAt_18 hE hf
theorem c_X5_byteAt (l : Launch) (hfl : l.stackTraces = false) (this : Nat) (p1 : Int32) : CM l yX5_byteAt wsX5_byteAt 0 0 [.ref this, .int p1] vI (f_X5_byteAt this p1) := CM.start hfl RX5 rfl (by decide +kernel) rfl (Nat.le_of_ble_eq_true rfl) (fun X G z Gf hl hn hr hf => e_X5_byteAt_0 (by rw [hl]; exact hfl) hn hr ⟨rfl, rfl⟩ this p1 G hf)
theorem dv_X5_byteAt : yX5_byteAt.cls = RX5 ∧ yX5_byteAt.cls ≠ "java/lang/invoke/MethodHandle" ∧ yX5_byteAt.cls ≠ "java/lang/invoke/VarHandle" ∧ (parseMethodDescriptor yX5_byteAt.desc).map (fun d => d.parameters.length) = some 1 := by decide +kernel
theorem m_X5_readsValue_f136 : Cond.fieldLink RX5 136 RX5 "at" "I" ∈ wsX5_readsValue := by decide +kernel
theorem m_X5_readsValue_f34 : Cond.fieldLink RX5 34 RX5 "told" "[I" ∈ wsX5_readsValue := by decide +kernel
theorem m_X5_readsValue_f142 : Cond.fieldLink RX5 142 RX5 "actMany" "I" ∈ wsX5_readsValue := by decide +kernel
theorem n_X5_readsValue_X5 : ∀ w ∈ u_ws RX5 TX5 16, w ∈ wsX5_readsValue := by decide +kernel
set_option maxRecDepth 100000 in
set_option maxHeartbeats 4000000 in
theorem e_X5_readsValue_97 {X : VX} {B : VB} {z : Int32} {Gf : GH}  (hfx : (xl X).stackTraces = false) (hn : (xme X).name = "readsValue") (hr : (xme X).sig.returnType = (some .boolean)) (hE : VE B (z, Gf))  (this : Nat) (l1 : Int32) (l2 : Int32) (l3 : Int32) (G : GH) (hf : (f_X5_readsValue_97 this l1 l2 l3).1 G = some (z, Gf)) : V X RX5 cX5_readsValue 4 1 22 wsX5_readsValue B (QE X (vI z) Gf B) G 97 [(0, .ref this), (1, .int l1), (2, .int l2), (3, .int l3)] [] := by
  unfold f_X5_readsValue_97 at hf
  refine v_aload_n 0 dX5_readsValue_97 rfl rfl ?_
  refine v_gr 5 13 n_X5_readsValue_X5 rfl (by decide) rfl m_X5_readsValue_f34 dX5_readsValue_98 hf (fun r4 hf => ?_)
  refine v_aload_n 0 dX5_readsValue_101 rfl rfl ?_
  refine v_gi 5 14 n_X5_readsValue_X5 rfl (by decide) rfl m_X5_readsValue_f142 dX5_readsValue_102 hf (fun x5 hf => ?_)
  refine v_iload_n 1 dX5_readsValue_105 rfl rfl ?_
  refine v_if_eq 114 dX5_readsValue_106 (by decide) hf (fun _ hf => ?_) (fun _ hf => ?_)
  · refine v_iload_n 3 dX5_readsValue_114 rfl rfl ?_
    refine v_iast dX5_readsValue_115 hf (fun G _ hf => ?_)
    refine v_iload_n 2 dX5_readsValue_116 rfl rfl ?_
    refine v_if_le 124 dX5_readsValue_117 (by decide) hf (fun _ hf => ?_) (fun _ hf => ?_)
    · refine v_iconst 0 dX5_readsValue_124 (by decide) ?_
      exact v_zret hr dX5_readsValue_125 hE hf
    · refine v_iconst 1 dX5_readsValue_120 (by decide) ?_
      refine v_goto 125 dX5_readsValue_121 (by decide) ?_
      exact v_zret hr dX5_readsValue_125 hE hf
  · refine v_iload_n 3 dX5_readsValue_109 rfl rfl ?_
    refine v_ineg dX5_readsValue_110 ?_
    refine v_goto 115 dX5_readsValue_111 (by decide) ?_
    refine v_iast dX5_readsValue_115 hf (fun G _ hf => ?_)
    refine v_iload_n 2 dX5_readsValue_116 rfl rfl ?_
    refine v_if_le 124 dX5_readsValue_117 (by decide) hf (fun _ hf => ?_) (fun _ hf => ?_)
    · refine v_iconst 0 dX5_readsValue_124 (by decide) ?_
      exact v_zret hr dX5_readsValue_125 hE hf
    · refine v_iconst 1 dX5_readsValue_120 (by decide) ?_
      refine v_goto 125 dX5_readsValue_121 (by decide) ?_
      exact v_zret hr dX5_readsValue_125 hE hf
set_option maxRecDepth 100000 in
set_option maxHeartbeats 4000000 in
theorem e_X5_readsValue_41 {X : VX} {B : VB} {z : Int32} {Gf : GH}  (hfx : (xl X).stackTraces = false) (hn : (xme X).name = "readsValue") (hr : (xme X).sig.returnType = (some .boolean)) (hE : VE B (z, Gf))  : ∀ (n : Nat) (this : Nat) (l1 : Int32) (l2 : Int32) (l3 : Int32) (G : GH), (f_X5_readsValue_41 n this l1 l2 l3).1 G = some (z, Gf) → V X RX5 cX5_readsValue 4 1 22 wsX5_readsValue B (QE X (vI z) Gf B) G 41 [(0, .ref this), (1, .int l1), (2, .int l2), (3, .int l3)] [] := by
  intro n
  induction n with
  | zero =>
    intro this l1 l2 l3 G hf
    have h0 : (none : Option (Int32 × GH)) = some (z, Gf) := hf
    cases h0
  | succ n ih =>
    intro this l1 l2 l3 G hf
    rw [f_X5_readsValue_41.eq_2] at hf
    refine v_iload_n 2 dX5_readsValue_41 rfl rfl ?_
    refine v_iconst 3 dX5_readsValue_42 (by decide) ?_
    refine v_icmp_ge 97 dX5_readsValue_43 (by decide) hf (fun _ hf => ?_) (fun _ hf => ?_)
    · refine v_sub [0, 1, 2, 3] rfl ?_
      exact e_X5_readsValue_97 hfx hn hr hE this l1 l2 l3 G hf
    · refine v_aload_n 0 dX5_readsValue_46 rfl rfl ?_
      refine v_aload_n 0 dX5_readsValue_47 rfl rfl ?_
      refine v_gi 5 15 n_X5_readsValue_X5 rfl (by decide) rfl m_X5_readsValue_f136 dX5_readsValue_48 hf (fun x6 hf => ?_)
      refine v_callVi 5 1 [.int x6] (c_X5_byteAt (xl X) hfx this x6) gX5_readsValue_X5_byteAt rfl dv_X5_byteAt (by decide) (by decide) rfl rfl dX5_readsValue_51 (Nat.le_of_ble_eq_true rfl) rfl hE hf (fun x7 G hf => ?_)
      refine v_bipush 48 dX5_readsValue_54 (by decide) ?_
      refine v_bipush 57 dX5_readsValue_56 (by decide) ?_
      refine v_callSi 3 [.int x7, .int 48, .int 57] (c_X5_in (xl X) hfx x7 48 57) gX5_readsValue_X5_in rfl dn_X5_in (by decide) (by decide) rfl dX5_readsValue_58 (Nat.le_of_ble_eq_true rfl) rfl hE hf (fun x8 G hf => ?_)
      refine v_if_eq 97 dX5_readsValue_61 (by decide) hf (fun _ hf => ?_) (fun _ hf => ?_)
      · refine v_sub [0, 1, 2, 3] rfl ?_
        exact e_X5_readsValue_97 hfx hn hr hE this l1 l2 l3 G hf
      · refine v_bipush 10 dX5_readsValue_64 (by decide) ?_
        refine v_iload_n 3 dX5_readsValue_66 rfl rfl ?_
        refine v_imul dX5_readsValue_67 ?_
        refine v_aload_n 0 dX5_readsValue_68 rfl rfl ?_
        refine v_aload_n 0 dX5_readsValue_69 rfl rfl ?_
        refine v_gi 5 15 n_X5_readsValue_X5 rfl (by decide) rfl m_X5_readsValue_f136 dX5_readsValue_70 hf (fun x9 hf => ?_)
        refine v_callVi 5 1 [.int x9] (c_X5_byteAt (xl X) hfx this x9) gX5_readsValue_X5_byteAt rfl dv_X5_byteAt (by decide) (by decide) rfl rfl dX5_readsValue_73 (Nat.le_of_ble_eq_true rfl) rfl hE hf (fun x10 G hf => ?_)
        refine v_iadd dX5_readsValue_76 ?_
        refine v_bipush 48 dX5_readsValue_77 (by decide) ?_
        refine v_isub dX5_readsValue_79 ?_
        refine v_istore_n [(3, .int (((10 * l3) + x10) - 48)), (0, .ref this), (1, .int l1), (2, .int l2)] dX5_readsValue_80 rfl (by decide) rfl ?_
        refine v_aload_n 1 dX5_readsValue_81 rfl rfl ?_
        refine v_dup dX5_readsValue_82 rfl ?_
        refine v_gi 5 15 n_X5_readsValue_X5 rfl (by decide) rfl m_X5_readsValue_f136 dX5_readsValue_83 hf (fun x11 hf => ?_)
        refine v_iconst 1 dX5_readsValue_86 (by decide) ?_
        refine v_iadd dX5_readsValue_87 ?_
        refine v_put 5 15 .int n_X5_readsValue_X5 tyX5 tyX5_ok nmX5 rfl (by decide) rfl m_X5_readsValue_f136 rfl (by decide +kernel) rfl rfl dX5_readsValue_88 hf (fun G _ hf => ?_)
        refine v_iinc 3 (l2 + 1) [(2, .int (l2 + 1)), (3, .int (((10 * l3) + x10) - 48)), (0, .ref this), (1, .int l1)] dX5_readsValue_91 rfl (by rfl) (by decide) rfl ?_
        refine v_goto 41 dX5_readsValue_94 (by decide) ?_
        refine v_sub [2, 3, 0, 1] rfl ?_
        exact ih this l1 (l2 + 1) (((10 * l3) + x10) - 48) G hf
set_option maxRecDepth 100000 in
set_option maxHeartbeats 4000000 in
theorem e_X5_readsValue_33 {X : VX} {B : VB} {z : Int32} {Gf : GH}  (hfx : (xl X).stackTraces = false) (hn : (xme X).name = "readsValue") (hr : (xme X).sig.returnType = (some .boolean)) (hE : VE B (z, Gf))  (this : Nat) (l1 : Int32) (s0 : Int32) (s1 : Int32) (s2 : Nat) (G : GH) (hf : (f_X5_readsValue_33 this l1 s0 s1 s2).1 G = some (z, Gf)) : V X RX5 cX5_readsValue 4 1 22 wsX5_readsValue B (QE X (vI z) Gf B) G 33 [(0, .ref this), (1, .int l1)] [.int s0, .int s1, .ref s2] := by
  unfold f_X5_readsValue_33 at hf
  refine v_iadd dX5_readsValue_33 ?_
  refine v_put 5 15 .int n_X5_readsValue_X5 tyX5 tyX5_ok nmX5 rfl (by decide) rfl m_X5_readsValue_f136 rfl (by decide +kernel) rfl rfl dX5_readsValue_34 hf (fun G _ hf => ?_)
  refine v_iconst 0 dX5_readsValue_37 (by decide) ?_
  refine v_istore_n [(2, .int 0), (0, .ref this), (1, .int l1)] dX5_readsValue_38 rfl (by decide) rfl ?_
  refine v_iconst 0 dX5_readsValue_39 (by decide) ?_
  refine v_istore_n [(3, .int 0), (2, .int 0), (0, .ref this), (1, .int l1)] dX5_readsValue_40 rfl (by decide) rfl ?_
  refine v_sub [2, 3, 1, 0] rfl ?_
  exact e_X5_readsValue_41 hfx hn hr hE FU this l1 0 0 G hf
set_option maxRecDepth 100000 in
set_option maxHeartbeats 4000000 in
theorem e_X5_readsValue_18 {X : VX} {B : VB} {z : Int32} {Gf : GH}  (hfx : (xl X).stackTraces = false) (hn : (xme X).name = "readsValue") (hr : (xme X).sig.returnType = (some .boolean)) (hE : VE B (z, Gf))  (this : Nat) (s0 : Int32) (G : GH) (hf : (f_X5_readsValue_18 this s0).1 G = some (z, Gf)) : V X RX5 cX5_readsValue 4 1 22 wsX5_readsValue B (QE X (vI z) Gf B) G 18 [(0, .ref this)] [.int s0] := by
  unfold f_X5_readsValue_18 at hf
  refine v_istore_n [(1, .int s0), (0, .ref this)] dX5_readsValue_18 rfl (by decide) rfl ?_
  refine v_aload_n 1 dX5_readsValue_19 rfl rfl ?_
  refine v_dup dX5_readsValue_20 rfl ?_
  refine v_gi 5 15 n_X5_readsValue_X5 rfl (by decide) rfl m_X5_readsValue_f136 dX5_readsValue_21 hf (fun x3 hf => ?_)
  refine v_iload_n 0 dX5_readsValue_24 rfl rfl ?_
  refine v_if_eq 32 dX5_readsValue_25 (by decide) hf (fun _ hf => ?_) (fun _ hf => ?_)
  · refine v_iconst 0 dX5_readsValue_32 (by decide) ?_
    refine v_sub [1, 0] rfl ?_
    exact e_X5_readsValue_33 hfx hn hr hE this s0 0 x3 this G hf
  · refine v_iconst 1 dX5_readsValue_28 (by decide) ?_
    refine v_goto 33 dX5_readsValue_29 (by decide) ?_
    refine v_sub [1, 0] rfl ?_
    exact e_X5_readsValue_33 hfx hn hr hE this s0 1 x3 this G hf
set_option maxRecDepth 100000 in
set_option maxHeartbeats 4000000 in
theorem e_X5_readsValue_0 {X : VX} {B : VB} {z : Int32} {Gf : GH}  (hfx : (xl X).stackTraces = false) (hn : (xme X).name = "readsValue") (hr : (xme X).sig.returnType = (some .boolean)) (hE : VE B (z, Gf))  (this : Nat) (G : GH) (hf : (f_X5_readsValue this).1 G = some (z, Gf)) : V X RX5 cX5_readsValue 4 1 22 wsX5_readsValue B (QE X (vI z) Gf B) G 0 [(0, .ref this)] [] := by
  unfold f_X5_readsValue at hf
  refine v_aload_n 0 dX5_readsValue_0 rfl rfl ?_
  refine v_aload_n 0 dX5_readsValue_1 rfl rfl ?_
  refine v_gi 5 15 n_X5_readsValue_X5 rfl (by decide) rfl m_X5_readsValue_f136 dX5_readsValue_2 hf (fun x1 hf => ?_)
  refine v_callVi 5 1 [.int x1] (c_X5_byteAt (xl X) hfx this x1) gX5_readsValue_X5_byteAt rfl dv_X5_byteAt (by decide) (by decide) rfl rfl dX5_readsValue_5 (Nat.le_of_ble_eq_true rfl) rfl hE hf (fun x2 G hf => ?_)
  refine v_bipush 45 dX5_readsValue_8 (by decide) ?_
  refine v_icmp_ne 17 dX5_readsValue_10 (by decide) hf (fun _ hf => ?_) (fun _ hf => ?_)
  · refine v_iconst 0 dX5_readsValue_17 (by decide) ?_
    refine v_sub [0] rfl ?_
    exact e_X5_readsValue_18 hfx hn hr hE this 0 G hf
  · refine v_iconst 1 dX5_readsValue_13 (by decide) ?_
    refine v_goto 18 dX5_readsValue_14 (by decide) ?_
    refine v_sub [0] rfl ?_
    exact e_X5_readsValue_18 hfx hn hr hE this 1 G hf
theorem c_X5_readsValue (l : Launch) (hfl : l.stackTraces = false) (this : Nat) : CM l yX5_readsValue wsX5_readsValue 1 22 [.ref this] vI (f_X5_readsValue this) := CM.start hfl RX5 rfl (by decide +kernel) rfl (Nat.le_of_ble_eq_true rfl) (fun X G z Gf hl hn hr hf => e_X5_readsValue_0 (by rw [hl]; exact hfl) hn hr ⟨rfl, rfl⟩ this G hf)
theorem dv_X5_readsValue : yX5_readsValue.cls = RX5 ∧ yX5_readsValue.cls ≠ "java/lang/invoke/MethodHandle" ∧ yX5_readsValue.cls ≠ "java/lang/invoke/VarHandle" ∧ (parseMethodDescriptor yX5_readsValue.desc).map (fun d => d.parameters.length) = some 0 := by decide +kernel
theorem m_X5_faultOf_f136 : Cond.fieldLink RX5 136 RX5 "at" "I" ∈ wsX5_faultOf := by decide +kernel
theorem m_X5_faultOf_f142 : Cond.fieldLink RX5 142 RX5 "actMany" "I" ∈ wsX5_faultOf := by decide +kernel
theorem m_X5_faultOf_f133 : Cond.fieldLink RX5 133 RX5 "typed" "I" ∈ wsX5_faultOf := by decide +kernel
theorem m_X5_faultOf_f19 : Cond.fieldLink RX5 19 RX5 "text" "[I" ∈ wsX5_faultOf := by decide +kernel
theorem n_X5_faultOf_X5 : ∀ w ∈ u_ws RX5 TX5 16, w ∈ wsX5_faultOf := by decide +kernel
theorem m_X5_faultOf_f31 : Cond.fieldLink RX5 31 RX5 "acts" "[I" ∈ wsX5_faultOf := by decide +kernel
set_option maxRecDepth 100000 in
set_option maxHeartbeats 4000000 in
theorem e_X5_faultOf_10 {X : VX} {B : VB} {z : Int32} {Gf : GH}  (hfx : (xl X).stackTraces = false) (hn : (xme X).name = "faultOf") (hr : (xme X).sig.returnType = (some .int)) (hE : VE B (z, Gf))  : ∀ (n : Nat) (this : Nat) (G : GH), (f_X5_faultOf_10 n this).1 G = some (z, Gf) → V X RX5 cX5_faultOf 3 2 45 wsX5_faultOf B (QE X (vI z) Gf B) G 10 [(0, .ref this)] [] := by
  intro n
  induction n with
  | zero =>
    intro this G hf
    have h0 : (none : Option (Int32 × GH)) = some (z, Gf) := hf
    cases h0
  | succ n ih =>
    intro this G hf
    rw [f_X5_faultOf_10.eq_2] at hf
    refine v_aload_n 0 dX5_faultOf_10 rfl rfl ?_
    refine v_gi 5 15 n_X5_faultOf_X5 rfl (by decide) rfl m_X5_faultOf_f136 dX5_faultOf_11 hf (fun x1 hf => ?_)
    refine v_aload_n 0 dX5_faultOf_14 rfl rfl ?_
    refine v_gi 5 5 n_X5_faultOf_X5 rfl (by decide) rfl m_X5_faultOf_f133 dX5_faultOf_15 hf (fun x2 hf => ?_)
    refine v_icmp_ge 161 dX5_faultOf_18 (by decide) hf (fun _ hf => ?_) (fun _ hf => ?_)
    · refine v_iconst (-1) dX5_faultOf_161 (by decide) ?_
      exact v_iret hr dX5_faultOf_162 hE hf
    · refine v_aload_n 0 dX5_faultOf_21 rfl rfl ?_
      refine v_gr 5 4 n_X5_faultOf_X5 rfl (by decide) rfl m_X5_faultOf_f19 dX5_faultOf_22 hf (fun r3 hf => ?_)
      refine v_aload_n 0 dX5_faultOf_25 rfl rfl ?_
      refine v_gi 5 15 n_X5_faultOf_X5 rfl (by decide) rfl m_X5_faultOf_f136 dX5_faultOf_26 hf (fun x4 hf => ?_)
      refine v_iald dX5_faultOf_29 hf (fun x5 hf => ?_)
      refine v_istore_n [(1, .int x5), (0, .ref this)] dX5_faultOf_30 rfl (by decide) rfl ?_
      refine v_iload_n 0 dX5_faultOf_31 rfl rfl ?_
      refine v_bipush 102 dX5_faultOf_32 (by decide) ?_
      refine v_icmp_ne 41 dX5_faultOf_34 (by decide) hf (fun _ hf => ?_) (fun _ hf => ?_)
      · refine v_iload_n 0 dX5_faultOf_41 rfl rfl ?_
        refine v_bipush 98 dX5_faultOf_42 (by decide) ?_
        refine v_icmp_ne 51 dX5_faultOf_44 (by decide) hf (fun _ hf => ?_) (fun _ hf => ?_)
        · refine v_iload_n 0 dX5_faultOf_51 rfl rfl ?_
          refine v_bipush 120 dX5_faultOf_52 (by decide) ?_
          refine v_icmp_ne 61 dX5_faultOf_54 (by decide) hf (fun _ hf => ?_) (fun _ hf => ?_)
          · refine v_iload_n 0 dX5_faultOf_61 rfl rfl ?_
            refine v_bipush 121 dX5_faultOf_62 (by decide) ?_
            refine v_icmp_ne 71 dX5_faultOf_64 (by decide) hf (fun _ hf => ?_) (fun _ hf => ?_)
            · refine v_iconst (-1) dX5_faultOf_71 (by decide) ?_
              refine v_istore_n [(2, .int (-1)), (1, .int x5), (0, .ref this)] dX5_faultOf_72 rfl (by decide) rfl ?_
              refine v_iload_n 0 dX5_faultOf_73 rfl rfl ?_
              refine v_iconst (-1) dX5_faultOf_74 (by decide) ?_
              refine v_icmp_ne_f 83 dX5_faultOf_75 (by decide) (by decide) ?_
              refine v_aload_n 2 dX5_faultOf_78 rfl rfl ?_
              refine v_gi 5 15 n_X5_faultOf_X5 rfl (by decide) rfl m_X5_faultOf_f136 dX5_faultOf_79 hf (fun x6 hf => ?_)
              exact v_iret hr dX5_faultOf_82 hE hf
            · refine v_iconst 3 dX5_faultOf_67 (by decide) ?_
              refine v_goto 72 dX5_faultOf_68 (by decide) ?_
              refine v_istore_n [(2, .int 3), (1, .int x5), (0, .ref this)] dX5_faultOf_72 rfl (by decide) rfl ?_
              refine v_iload_n 0 dX5_faultOf_73 rfl rfl ?_
              refine v_iconst (-1) dX5_faultOf_74 (by decide) ?_
              refine v_icmp_ne_t 83 dX5_faultOf_75 (by decide) (by decide) ?_
              refine v_aload_n 2 dX5_faultOf_83 rfl rfl ?_
              refine v_gr 5 12 n_X5_faultOf_X5 rfl (by decide) rfl m_X5_faultOf_f31 dX5_faultOf_84 hf (fun r7 hf => ?_)
              refine v_aload_n 2 dX5_faultOf_87 rfl rfl ?_
              refine v_gi 5 14 n_X5_faultOf_X5 rfl (by decide) rfl m_X5_faultOf_f142 dX5_faultOf_88 hf (fun x8 hf => ?_)
              refine v_iload_n 0 dX5_faultOf_91 rfl rfl ?_
              refine v_iast dX5_faultOf_92 hf (fun G _ hf => ?_)
              refine v_aload_n 2 dX5_faultOf_93 rfl rfl ?_
              refine v_dup dX5_faultOf_94 rfl ?_
              refine v_gi 5 15 n_X5_faultOf_X5 rfl (by decide) rfl m_X5_faultOf_f136 dX5_faultOf_95 hf (fun x9 hf => ?_)
              refine v_iconst 1 dX5_faultOf_98 (by decide) ?_
              refine v_iadd dX5_faultOf_99 ?_
              refine v_put 5 15 .int n_X5_faultOf_X5 tyX5 tyX5_ok nmX5 rfl (by decide) rfl m_X5_faultOf_f136 rfl (by decide +kernel) rfl rfl dX5_faultOf_100 hf (fun G _ hf => ?_)
              refine v_iload_n 0 dX5_faultOf_103 rfl rfl ?_
              refine v_iconst 2 dX5_faultOf_104 (by decide) ?_
              refine v_icmp_ge_t 120 dX5_faultOf_105 (by decide) (by decide) ?_
              refine v_aload_n 2 dX5_faultOf_120 rfl rfl ?_
              refine v_aload_n 2 dX5_faultOf_121 rfl rfl ?_
              refine v_gi 5 15 n_X5_faultOf_X5 rfl (by decide) rfl m_X5_faultOf_f136 dX5_faultOf_122 hf (fun x10 hf => ?_)
              refine v_callVi 5 1 [.int x10] (c_X5_byteAt (xl X) hfx this x10) gX5_faultOf_X5_byteAt rfl dv_X5_byteAt (by decide) (by decide) rfl rfl dX5_faultOf_125 (Nat.le_of_ble_eq_true rfl) rfl hE hf (fun x11 G hf => ?_)
              refine v_bipush 59 dX5_faultOf_128 (by decide) ?_
              refine v_icmp_eq 138 dX5_faultOf_130 (by decide) hf (fun _ hf => ?_) (fun _ hf => ?_)
              · refine v_aload_n 2 dX5_faultOf_138 rfl rfl ?_
                refine v_dup dX5_faultOf_139 rfl ?_
                refine v_gi 5 15 n_X5_faultOf_X5 rfl (by decide) rfl m_X5_faultOf_f136 dX5_faultOf_140 hf (fun x12 hf => ?_)
                refine v_iconst 1 dX5_faultOf_143 (by decide) ?_
                refine v_iadd dX5_faultOf_144 ?_
                refine v_put 5 15 .int n_X5_faultOf_X5 tyX5 tyX5_ok nmX5 rfl (by decide) rfl m_X5_faultOf_f136 rfl (by decide +kernel) rfl rfl dX5_faultOf_145 hf (fun G _ hf => ?_)
                refine v_aload_n 2 dX5_faultOf_148 rfl rfl ?_
                refine v_dup dX5_faultOf_149 rfl ?_
                refine v_gi 5 14 n_X5_faultOf_X5 rfl (by decide) rfl m_X5_faultOf_f142 dX5_faultOf_150 hf (fun x13 hf => ?_)
                refine v_iconst 1 dX5_faultOf_153 (by decide) ?_
                refine v_iadd dX5_faultOf_154 ?_
                refine v_put 5 14 .int n_X5_faultOf_X5 tyX5 tyX5_ok nmX5 rfl (by decide) rfl m_X5_faultOf_f142 rfl (by decide +kernel) rfl rfl dX5_faultOf_155 hf (fun G _ hf => ?_)
                refine v_goto 10 dX5_faultOf_158 (by decide) ?_
                refine v_sub [2] rfl ?_
                exact ih this G hf
              · refine v_aload_n 2 dX5_faultOf_133 rfl rfl ?_
                refine v_gi 5 15 n_X5_faultOf_X5 rfl (by decide) rfl m_X5_faultOf_f136 dX5_faultOf_134 hf (fun x14 hf => ?_)
                exact v_iret hr dX5_faultOf_137 hE hf
          · refine v_iconst 2 dX5_faultOf_57 (by decide) ?_
            refine v_goto 72 dX5_faultOf_58 (by decide) ?_
            refine v_istore_n [(2, .int 2), (1, .int x5), (0, .ref this)] dX5_faultOf_72 rfl (by decide) rfl ?_
            refine v_iload_n 0 dX5_faultOf_73 rfl rfl ?_
            refine v_iconst (-1) dX5_faultOf_74 (by decide) ?_
            refine v_icmp_ne_t 83 dX5_faultOf_75 (by decide) (by decide) ?_
            refine v_aload_n 2 dX5_faultOf_83 rfl rfl ?_
            refine v_gr 5 12 n_X5_faultOf_X5 rfl (by decide) rfl m_X5_faultOf_f31 dX5_faultOf_84 hf (fun r15 hf => ?_)
            refine v_aload_n 2 dX5_faultOf_87 rfl rfl ?_
            refine v_gi 5 14 n_X5_faultOf_X5 rfl (by decide) rfl m_X5_faultOf_f142 dX5_faultOf_88 hf (fun x16 hf => ?_)
            refine v_iload_n 0 dX5_faultOf_91 rfl rfl ?_
            refine v_iast dX5_faultOf_92 hf (fun G _ hf => ?_)
            refine v_aload_n 2 dX5_faultOf_93 rfl rfl ?_
            refine v_dup dX5_faultOf_94 rfl ?_
            refine v_gi 5 15 n_X5_faultOf_X5 rfl (by decide) rfl m_X5_faultOf_f136 dX5_faultOf_95 hf (fun x17 hf => ?_)
            refine v_iconst 1 dX5_faultOf_98 (by decide) ?_
            refine v_iadd dX5_faultOf_99 ?_
            refine v_put 5 15 .int n_X5_faultOf_X5 tyX5 tyX5_ok nmX5 rfl (by decide) rfl m_X5_faultOf_f136 rfl (by decide +kernel) rfl rfl dX5_faultOf_100 hf (fun G _ hf => ?_)
            refine v_iload_n 0 dX5_faultOf_103 rfl rfl ?_
            refine v_iconst 2 dX5_faultOf_104 (by decide) ?_
            refine v_icmp_ge_t 120 dX5_faultOf_105 (by decide) (by decide) ?_
            refine v_aload_n 2 dX5_faultOf_120 rfl rfl ?_
            refine v_aload_n 2 dX5_faultOf_121 rfl rfl ?_
            refine v_gi 5 15 n_X5_faultOf_X5 rfl (by decide) rfl m_X5_faultOf_f136 dX5_faultOf_122 hf (fun x18 hf => ?_)
            refine v_callVi 5 1 [.int x18] (c_X5_byteAt (xl X) hfx this x18) gX5_faultOf_X5_byteAt rfl dv_X5_byteAt (by decide) (by decide) rfl rfl dX5_faultOf_125 (Nat.le_of_ble_eq_true rfl) rfl hE hf (fun x19 G hf => ?_)
            refine v_bipush 59 dX5_faultOf_128 (by decide) ?_
            refine v_icmp_eq 138 dX5_faultOf_130 (by decide) hf (fun _ hf => ?_) (fun _ hf => ?_)
            · refine v_aload_n 2 dX5_faultOf_138 rfl rfl ?_
              refine v_dup dX5_faultOf_139 rfl ?_
              refine v_gi 5 15 n_X5_faultOf_X5 rfl (by decide) rfl m_X5_faultOf_f136 dX5_faultOf_140 hf (fun x20 hf => ?_)
              refine v_iconst 1 dX5_faultOf_143 (by decide) ?_
              refine v_iadd dX5_faultOf_144 ?_
              refine v_put 5 15 .int n_X5_faultOf_X5 tyX5 tyX5_ok nmX5 rfl (by decide) rfl m_X5_faultOf_f136 rfl (by decide +kernel) rfl rfl dX5_faultOf_145 hf (fun G _ hf => ?_)
              refine v_aload_n 2 dX5_faultOf_148 rfl rfl ?_
              refine v_dup dX5_faultOf_149 rfl ?_
              refine v_gi 5 14 n_X5_faultOf_X5 rfl (by decide) rfl m_X5_faultOf_f142 dX5_faultOf_150 hf (fun x21 hf => ?_)
              refine v_iconst 1 dX5_faultOf_153 (by decide) ?_
              refine v_iadd dX5_faultOf_154 ?_
              refine v_put 5 14 .int n_X5_faultOf_X5 tyX5 tyX5_ok nmX5 rfl (by decide) rfl m_X5_faultOf_f142 rfl (by decide +kernel) rfl rfl dX5_faultOf_155 hf (fun G _ hf => ?_)
              refine v_goto 10 dX5_faultOf_158 (by decide) ?_
              refine v_sub [2] rfl ?_
              exact ih this G hf
            · refine v_aload_n 2 dX5_faultOf_133 rfl rfl ?_
              refine v_gi 5 15 n_X5_faultOf_X5 rfl (by decide) rfl m_X5_faultOf_f136 dX5_faultOf_134 hf (fun x22 hf => ?_)
              exact v_iret hr dX5_faultOf_137 hE hf
        · refine v_iconst 1 dX5_faultOf_47 (by decide) ?_
          refine v_goto 72 dX5_faultOf_48 (by decide) ?_
          refine v_istore_n [(2, .int 1), (1, .int x5), (0, .ref this)] dX5_faultOf_72 rfl (by decide) rfl ?_
          refine v_iload_n 0 dX5_faultOf_73 rfl rfl ?_
          refine v_iconst (-1) dX5_faultOf_74 (by decide) ?_
          refine v_icmp_ne_t 83 dX5_faultOf_75 (by decide) (by decide) ?_
          refine v_aload_n 2 dX5_faultOf_83 rfl rfl ?_
          refine v_gr 5 12 n_X5_faultOf_X5 rfl (by decide) rfl m_X5_faultOf_f31 dX5_faultOf_84 hf (fun r23 hf => ?_)
          refine v_aload_n 2 dX5_faultOf_87 rfl rfl ?_
          refine v_gi 5 14 n_X5_faultOf_X5 rfl (by decide) rfl m_X5_faultOf_f142 dX5_faultOf_88 hf (fun x24 hf => ?_)
          refine v_iload_n 0 dX5_faultOf_91 rfl rfl ?_
          refine v_iast dX5_faultOf_92 hf (fun G _ hf => ?_)
          refine v_aload_n 2 dX5_faultOf_93 rfl rfl ?_
          refine v_dup dX5_faultOf_94 rfl ?_
          refine v_gi 5 15 n_X5_faultOf_X5 rfl (by decide) rfl m_X5_faultOf_f136 dX5_faultOf_95 hf (fun x25 hf => ?_)
          refine v_iconst 1 dX5_faultOf_98 (by decide) ?_
          refine v_iadd dX5_faultOf_99 ?_
          refine v_put 5 15 .int n_X5_faultOf_X5 tyX5 tyX5_ok nmX5 rfl (by decide) rfl m_X5_faultOf_f136 rfl (by decide +kernel) rfl rfl dX5_faultOf_100 hf (fun G _ hf => ?_)
          refine v_iload_n 0 dX5_faultOf_103 rfl rfl ?_
          refine v_iconst 2 dX5_faultOf_104 (by decide) ?_
          refine v_icmp_ge_f 120 dX5_faultOf_105 (by decide) (by decide) ?_
          refine v_aload_n 2 dX5_faultOf_108 rfl rfl ?_
          refine v_callVi 5 0 [] (c_X5_readsValue (xl X) hfx this) gX5_faultOf_X5_readsValue rfl dv_X5_readsValue (by decide) (by decide) rfl rfl dX5_faultOf_109 (Nat.le_of_ble_eq_true rfl) rfl hE hf (fun x26 G hf => ?_)
          refine v_if_ne 120 dX5_faultOf_112 (by decide) hf (fun _ hf => ?_) (fun _ hf => ?_)
          · refine v_aload_n 2 dX5_faultOf_120 rfl rfl ?_
            refine v_aload_n 2 dX5_faultOf_121 rfl rfl ?_
            refine v_gi 5 15 n_X5_faultOf_X5 rfl (by decide) rfl m_X5_faultOf_f136 dX5_faultOf_122 hf (fun x27 hf => ?_)
            refine v_callVi 5 1 [.int x27] (c_X5_byteAt (xl X) hfx this x27) gX5_faultOf_X5_byteAt rfl dv_X5_byteAt (by decide) (by decide) rfl rfl dX5_faultOf_125 (Nat.le_of_ble_eq_true rfl) rfl hE hf (fun x28 G hf => ?_)
            refine v_bipush 59 dX5_faultOf_128 (by decide) ?_
            refine v_icmp_eq 138 dX5_faultOf_130 (by decide) hf (fun _ hf => ?_) (fun _ hf => ?_)
            · refine v_aload_n 2 dX5_faultOf_138 rfl rfl ?_
              refine v_dup dX5_faultOf_139 rfl ?_
              refine v_gi 5 15 n_X5_faultOf_X5 rfl (by decide) rfl m_X5_faultOf_f136 dX5_faultOf_140 hf (fun x29 hf => ?_)
              refine v_iconst 1 dX5_faultOf_143 (by decide) ?_
              refine v_iadd dX5_faultOf_144 ?_
              refine v_put 5 15 .int n_X5_faultOf_X5 tyX5 tyX5_ok nmX5 rfl (by decide) rfl m_X5_faultOf_f136 rfl (by decide +kernel) rfl rfl dX5_faultOf_145 hf (fun G _ hf => ?_)
              refine v_aload_n 2 dX5_faultOf_148 rfl rfl ?_
              refine v_dup dX5_faultOf_149 rfl ?_
              refine v_gi 5 14 n_X5_faultOf_X5 rfl (by decide) rfl m_X5_faultOf_f142 dX5_faultOf_150 hf (fun x30 hf => ?_)
              refine v_iconst 1 dX5_faultOf_153 (by decide) ?_
              refine v_iadd dX5_faultOf_154 ?_
              refine v_put 5 14 .int n_X5_faultOf_X5 tyX5 tyX5_ok nmX5 rfl (by decide) rfl m_X5_faultOf_f142 rfl (by decide +kernel) rfl rfl dX5_faultOf_155 hf (fun G _ hf => ?_)
              refine v_goto 10 dX5_faultOf_158 (by decide) ?_
              refine v_sub [2] rfl ?_
              exact ih this G hf
            · refine v_aload_n 2 dX5_faultOf_133 rfl rfl ?_
              refine v_gi 5 15 n_X5_faultOf_X5 rfl (by decide) rfl m_X5_faultOf_f136 dX5_faultOf_134 hf (fun x31 hf => ?_)
              exact v_iret hr dX5_faultOf_137 hE hf
          · refine v_aload_n 2 dX5_faultOf_115 rfl rfl ?_
            refine v_gi 5 15 n_X5_faultOf_X5 rfl (by decide) rfl m_X5_faultOf_f136 dX5_faultOf_116 hf (fun x32 hf => ?_)
            exact v_iret hr dX5_faultOf_119 hE hf
      · refine v_iconst 0 dX5_faultOf_37 (by decide) ?_
        refine v_goto 72 dX5_faultOf_38 (by decide) ?_
        refine v_istore_n [(2, .int 0), (1, .int x5), (0, .ref this)] dX5_faultOf_72 rfl (by decide) rfl ?_
        refine v_iload_n 0 dX5_faultOf_73 rfl rfl ?_
        refine v_iconst (-1) dX5_faultOf_74 (by decide) ?_
        refine v_icmp_ne_t 83 dX5_faultOf_75 (by decide) (by decide) ?_
        refine v_aload_n 2 dX5_faultOf_83 rfl rfl ?_
        refine v_gr 5 12 n_X5_faultOf_X5 rfl (by decide) rfl m_X5_faultOf_f31 dX5_faultOf_84 hf (fun r33 hf => ?_)
        refine v_aload_n 2 dX5_faultOf_87 rfl rfl ?_
        refine v_gi 5 14 n_X5_faultOf_X5 rfl (by decide) rfl m_X5_faultOf_f142 dX5_faultOf_88 hf (fun x34 hf => ?_)
        refine v_iload_n 0 dX5_faultOf_91 rfl rfl ?_
        refine v_iast dX5_faultOf_92 hf (fun G _ hf => ?_)
        refine v_aload_n 2 dX5_faultOf_93 rfl rfl ?_
        refine v_dup dX5_faultOf_94 rfl ?_
        refine v_gi 5 15 n_X5_faultOf_X5 rfl (by decide) rfl m_X5_faultOf_f136 dX5_faultOf_95 hf (fun x35 hf => ?_)
        refine v_iconst 1 dX5_faultOf_98 (by decide) ?_
        refine v_iadd dX5_faultOf_99 ?_
        refine v_put 5 15 .int n_X5_faultOf_X5 tyX5 tyX5_ok nmX5 rfl (by decide) rfl m_X5_faultOf_f136 rfl (by decide +kernel) rfl rfl dX5_faultOf_100 hf (fun G _ hf => ?_)
        refine v_iload_n 0 dX5_faultOf_103 rfl rfl ?_
        refine v_iconst 2 dX5_faultOf_104 (by decide) ?_
        refine v_icmp_ge_f 120 dX5_faultOf_105 (by decide) (by decide) ?_
        refine v_aload_n 2 dX5_faultOf_108 rfl rfl ?_
        refine v_callVi 5 0 [] (c_X5_readsValue (xl X) hfx this) gX5_faultOf_X5_readsValue rfl dv_X5_readsValue (by decide) (by decide) rfl rfl dX5_faultOf_109 (Nat.le_of_ble_eq_true rfl) rfl hE hf (fun x36 G hf => ?_)
        refine v_if_ne 120 dX5_faultOf_112 (by decide) hf (fun _ hf => ?_) (fun _ hf => ?_)
        · refine v_aload_n 2 dX5_faultOf_120 rfl rfl ?_
          refine v_aload_n 2 dX5_faultOf_121 rfl rfl ?_
          refine v_gi 5 15 n_X5_faultOf_X5 rfl (by decide) rfl m_X5_faultOf_f136 dX5_faultOf_122 hf (fun x37 hf => ?_)
          refine v_callVi 5 1 [.int x37] (c_X5_byteAt (xl X) hfx this x37) gX5_faultOf_X5_byteAt rfl dv_X5_byteAt (by decide) (by decide) rfl rfl dX5_faultOf_125 (Nat.le_of_ble_eq_true rfl) rfl hE hf (fun x38 G hf => ?_)
          refine v_bipush 59 dX5_faultOf_128 (by decide) ?_
          refine v_icmp_eq 138 dX5_faultOf_130 (by decide) hf (fun _ hf => ?_) (fun _ hf => ?_)
          · refine v_aload_n 2 dX5_faultOf_138 rfl rfl ?_
            refine v_dup dX5_faultOf_139 rfl ?_
            refine v_gi 5 15 n_X5_faultOf_X5 rfl (by decide) rfl m_X5_faultOf_f136 dX5_faultOf_140 hf (fun x39 hf => ?_)
            refine v_iconst 1 dX5_faultOf_143 (by decide) ?_
            refine v_iadd dX5_faultOf_144 ?_
            refine v_put 5 15 .int n_X5_faultOf_X5 tyX5 tyX5_ok nmX5 rfl (by decide) rfl m_X5_faultOf_f136 rfl (by decide +kernel) rfl rfl dX5_faultOf_145 hf (fun G _ hf => ?_)
            refine v_aload_n 2 dX5_faultOf_148 rfl rfl ?_
            refine v_dup dX5_faultOf_149 rfl ?_
            refine v_gi 5 14 n_X5_faultOf_X5 rfl (by decide) rfl m_X5_faultOf_f142 dX5_faultOf_150 hf (fun x40 hf => ?_)
            refine v_iconst 1 dX5_faultOf_153 (by decide) ?_
            refine v_iadd dX5_faultOf_154 ?_
            refine v_put 5 14 .int n_X5_faultOf_X5 tyX5 tyX5_ok nmX5 rfl (by decide) rfl m_X5_faultOf_f142 rfl (by decide +kernel) rfl rfl dX5_faultOf_155 hf (fun G _ hf => ?_)
            refine v_goto 10 dX5_faultOf_158 (by decide) ?_
            refine v_sub [2] rfl ?_
            exact ih this G hf
          · refine v_aload_n 2 dX5_faultOf_133 rfl rfl ?_
            refine v_gi 5 15 n_X5_faultOf_X5 rfl (by decide) rfl m_X5_faultOf_f136 dX5_faultOf_134 hf (fun x41 hf => ?_)
            exact v_iret hr dX5_faultOf_137 hE hf
        · refine v_aload_n 2 dX5_faultOf_115 rfl rfl ?_
          refine v_gi 5 15 n_X5_faultOf_X5 rfl (by decide) rfl m_X5_faultOf_f136 dX5_faultOf_116 hf (fun x42 hf => ?_)
          exact v_iret hr dX5_faultOf_119 hE hf
set_option maxRecDepth 100000 in
set_option maxHeartbeats 4000000 in
theorem e_X5_faultOf_0 {X : VX} {B : VB} {z : Int32} {Gf : GH}  (hfx : (xl X).stackTraces = false) (hn : (xme X).name = "faultOf") (hr : (xme X).sig.returnType = (some .int)) (hE : VE B (z, Gf))  (this : Nat) (G : GH) (hf : (f_X5_faultOf this).1 G = some (z, Gf)) : V X RX5 cX5_faultOf 3 2 45 wsX5_faultOf B (QE X (vI z) Gf B) G 0 [(0, .ref this)] [] := by
  unfold f_X5_faultOf at hf
  refine v_aload_n 0 dX5_faultOf_0 rfl rfl ?_
  refine v_iconst 0 dX5_faultOf_1 (by decide) ?_
  refine v_put 5 15 .int n_X5_faultOf_X5 tyX5 tyX5_ok nmX5 rfl (by decide) rfl m_X5_faultOf_f136 rfl (by decide +kernel) rfl rfl dX5_faultOf_2 hf (fun G _ hf => ?_)
  refine v_aload_n 0 dX5_faultOf_5 rfl rfl ?_
  refine v_iconst 0 dX5_faultOf_6 (by decide) ?_
  refine v_put 5 14 .int n_X5_faultOf_X5 tyX5 tyX5_ok nmX5 rfl (by decide) rfl m_X5_faultOf_f142 rfl (by decide +kernel) rfl rfl dX5_faultOf_7 hf (fun G _ hf => ?_)
  refine v_sub [0] rfl ?_
  exact e_X5_faultOf_10 hfx hn hr hE FU this G hf
theorem c_X5_faultOf (l : Launch) (hfl : l.stackTraces = false) (this : Nat) : CM l yX5_faultOf wsX5_faultOf 2 45 [.ref this] vI (f_X5_faultOf this) := CM.start hfl RX5 rfl (by decide +kernel) rfl (Nat.le_of_ble_eq_true rfl) (fun X G z Gf hl hn hr hf => e_X5_faultOf_0 (by rw [hl]; exact hfl) hn hr ⟨rfl, rfl⟩ this G hf)
theorem dv_X5_faultOf : yX5_faultOf.cls = RX5 ∧ yX5_faultOf.cls ≠ "java/lang/invoke/MethodHandle" ∧ yX5_faultOf.cls ≠ "java/lang/invoke/VarHandle" ∧ (parseMethodDescriptor yX5_faultOf.desc).map (fun d => d.parameters.length) = some 0 := by decide +kernel
theorem m_X5_doesAll_f142 : Cond.fieldLink RX5 142 RX5 "actMany" "I" ∈ wsX5_doesAll := by decide +kernel
theorem m_X5_doesAll_f7 : Cond.fieldLink RX5 7 RX5 "now" "[I" ∈ wsX5_doesAll := by decide +kernel
theorem m_X5_doesAll_f31 : Cond.fieldLink RX5 31 RX5 "acts" "[I" ∈ wsX5_doesAll := by decide +kernel
theorem n_X5_doesAll_X5 : ∀ w ∈ u_ws RX5 TX5 16, w ∈ wsX5_doesAll := by decide +kernel
theorem m_X5_doesAll_f34 : Cond.fieldLink RX5 34 RX5 "told" "[I" ∈ wsX5_doesAll := by decide +kernel
set_option maxRecDepth 100000 in
set_option maxHeartbeats 4000000 in
theorem e_X5_doesAll_7 {X : VX} {B : VB} {z : Int32} {Gf : GH}  (hfx : (xl X).stackTraces = false) (hn : (xme X).name = "doesAll") (hr : (xme X).sig.returnType = (some .int)) (hE : VE B (z, Gf))  : ∀ (n : Nat) (this : Nat) (p1 : Int32) (l3 : Int32) (l4 : Int32) (G : GH), (f_X5_doesAll_7 n this p1 l3 l4).1 G = some (z, Gf) → V X RX5 cX5_doesAll 5 5 116 wsX5_doesAll B (QE X (vI z) Gf B) G 7 [(0, .ref this), (2, .int p1), (3, .int l3), (4, .int l4)] [] := by
  intro n
  induction n with
  | zero =>
    intro this p1 l3 l4 G hf
    have h0 : (none : Option (Int32 × GH)) = some (z, Gf) := hf
    cases h0
  | succ n ih =>
    intro this p1 l3 l4 G hf
    rw [f_X5_doesAll_7.eq_2] at hf
    refine v_iload 3 dX5_doesAll_7 rfl ?_
    refine v_if_eq 141 dX5_doesAll_9 (by decide) hf (fun _ hf => ?_) (fun _ hf => ?_)
    · refine v_iload_n 2 dX5_doesAll_141 rfl rfl ?_
      exact v_iret hr dX5_doesAll_142 hE hf
    · refine v_iload_n 2 dX5_doesAll_12 rfl rfl ?_
      refine v_aload_n 0 dX5_doesAll_13 rfl rfl ?_
      refine v_gi 5 14 n_X5_doesAll_X5 rfl (by decide) rfl m_X5_doesAll_f142 dX5_doesAll_14 hf (fun x1 hf => ?_)
      refine v_icmp_ge 141 dX5_doesAll_17 (by decide) hf (fun _ hf => ?_) (fun _ hf => ?_)
      · refine v_iload_n 2 dX5_doesAll_141 rfl rfl ?_
        exact v_iret hr dX5_doesAll_142 hE hf
      · refine v_aload_n 0 dX5_doesAll_20 rfl rfl ?_
        refine v_gr 5 0 n_X5_doesAll_X5 rfl (by decide) rfl m_X5_doesAll_f7 dX5_doesAll_21 hf (fun r2 hf => ?_)
        refine v_iconst 2 dX5_doesAll_24 (by decide) ?_
        refine v_iald dX5_doesAll_25 hf (fun x3 hf => ?_)
        refine v_bipush 100 dX5_doesAll_26 (by decide) ?_
        refine v_icmp_ge 68 dX5_doesAll_28 (by decide) hf (fun _ hf => ?_) (fun _ hf => ?_)
        · refine v_iconst 0 dX5_doesAll_68 (by decide) ?_
          refine v_istore [(4, .int 0), (0, .ref this), (2, .int p1), (3, .int l3)] dX5_doesAll_69 (by decide) rfl ?_
          refine v_iload 0 dX5_doesAll_71 rfl ?_
          refine v_if_eq_t 7 dX5_doesAll_73 (by decide) (by decide) ?_
          refine v_sub [1, 2, 3, 0] rfl ?_
          exact ih this p1 l3 0 G hf
        · refine v_aload_n 0 dX5_doesAll_31 rfl rfl ?_
          refine v_gr 5 12 n_X5_doesAll_X5 rfl (by decide) rfl m_X5_doesAll_f31 dX5_doesAll_32 hf (fun r4 hf => ?_)
          refine v_iload_n 2 dX5_doesAll_35 rfl rfl ?_
          refine v_iald dX5_doesAll_36 hf (fun x5 hf => ?_)
          refine v_iconst 2 dX5_doesAll_37 (by decide) ?_
          refine v_icmp_ge 55 dX5_doesAll_38 (by decide) hf (fun _ hf => ?_) (fun _ hf => ?_)
          · refine v_aload_n 0 dX5_doesAll_55 rfl rfl ?_
            refine v_iload_n 1 dX5_doesAll_56 rfl rfl ?_
            refine v_iconst 1 dX5_doesAll_57 (by decide) ?_
            refine v_callVi 5 2 [.int p1, .int 1] (c_X5_of (xl X) hfx this p1 1) gX5_doesAll_X5_of rfl dv_X5_of (by decide) (by decide) rfl rfl dX5_doesAll_58 (Nat.le_of_ble_eq_true rfl) rfl hE hf (fun x6 G hf => ?_)
            refine v_if_le 68 dX5_doesAll_61 (by decide) hf (fun _ hf => ?_) (fun _ hf => ?_)
            · refine v_iconst 0 dX5_doesAll_68 (by decide) ?_
              refine v_istore [(4, .int 0), (0, .ref this), (2, .int p1), (3, .int l3)] dX5_doesAll_69 (by decide) rfl ?_
              refine v_iload 0 dX5_doesAll_71 rfl ?_
              refine v_if_eq_t 7 dX5_doesAll_73 (by decide) (by decide) ?_
              refine v_sub [1, 2, 3, 0] rfl ?_
              exact ih this p1 l3 0 G hf
            · refine v_iconst 1 dX5_doesAll_64 (by decide) ?_
              refine v_goto 69 dX5_doesAll_65 (by decide) ?_
              refine v_istore [(4, .int 1), (0, .ref this), (2, .int p1), (3, .int l3)] dX5_doesAll_69 (by decide) rfl ?_
              refine v_iload 0 dX5_doesAll_71 rfl ?_
              refine v_if_eq_f 7 dX5_doesAll_73 (by decide) (by decide) ?_
              refine v_aload_n 1 dX5_doesAll_76 rfl rfl ?_
              refine v_gr 5 12 n_X5_doesAll_X5 rfl (by decide) rfl m_X5_doesAll_f31 dX5_doesAll_77 hf (fun r7 hf => ?_)
              refine v_iload_n 3 dX5_doesAll_80 rfl rfl ?_
              refine v_iald dX5_doesAll_81 hf (fun x8 hf => ?_)
              refine v_iconst 2 dX5_doesAll_82 (by decide) ?_
              refine v_icmp_ge 114 dX5_doesAll_83 (by decide) hf (fun _ hf => ?_) (fun _ hf => ?_)
              · refine v_aload_n 1 dX5_doesAll_114 rfl rfl ?_
                refine v_iload_n 2 dX5_doesAll_115 rfl rfl ?_
                refine v_aload_n 1 dX5_doesAll_116 rfl rfl ?_
                refine v_gr 5 12 n_X5_doesAll_X5 rfl (by decide) rfl m_X5_doesAll_f31 dX5_doesAll_117 hf (fun r9 hf => ?_)
                refine v_iload_n 3 dX5_doesAll_120 rfl rfl ?_
                refine v_iald dX5_doesAll_121 hf (fun x10 hf => ?_)
                refine v_iconst 2 dX5_doesAll_122 (by decide) ?_
                refine v_icmp_ne 130 dX5_doesAll_123 (by decide) hf (fun _ hf => ?_) (fun _ hf => ?_)
                · refine v_iconst 0 dX5_doesAll_130 (by decide) ?_
                  refine v_callVi 5 2 [.int p1, .int 0] (c_X5_pops (xl X) hfx this p1 0) gX5_doesAll_X5_pops rfl dv_X5_pops (by decide) (by decide) rfl rfl dX5_doesAll_131 (Nat.le_of_ble_eq_true rfl) rfl hE hf (fun x11 G hf => ?_)
                  refine v_istore_n [(2, .int x11), (4, .int 1), (0, .ref this), (3, .int l3)] dX5_doesAll_134 rfl (by decide) rfl ?_
                  refine v_iinc 3 (l3 + 1) [(3, .int (l3 + 1)), (2, .int x11), (4, .int 1), (0, .ref this)] dX5_doesAll_135 rfl (by rfl) (by decide) rfl ?_
                  refine v_goto 7 dX5_doesAll_138 (by decide) ?_
                  refine v_sub [3, 1, 0, 2] rfl ?_
                  exact ih this x11 (l3 + 1) 1 G hf
                · refine v_iconst 1 dX5_doesAll_126 (by decide) ?_
                  refine v_goto 131 dX5_doesAll_127 (by decide) ?_
                  refine v_callVi 5 2 [.int p1, .int 1] (c_X5_pops (xl X) hfx this p1 1) gX5_doesAll_X5_pops rfl dv_X5_pops (by decide) (by decide) rfl rfl dX5_doesAll_131 (Nat.le_of_ble_eq_true rfl) rfl hE hf (fun x12 G hf => ?_)
                  refine v_istore_n [(2, .int x12), (4, .int 1), (0, .ref this), (3, .int l3)] dX5_doesAll_134 rfl (by decide) rfl ?_
                  refine v_iinc 3 (l3 + 1) [(3, .int (l3 + 1)), (2, .int x12), (4, .int 1), (0, .ref this)] dX5_doesAll_135 rfl (by rfl) (by decide) rfl ?_
                  refine v_goto 7 dX5_doesAll_138 (by decide) ?_
                  refine v_sub [3, 1, 0, 2] rfl ?_
                  exact ih this x12 (l3 + 1) 1 G hf
              · refine v_aload_n 1 dX5_doesAll_86 rfl rfl ?_
                refine v_iload_n 2 dX5_doesAll_87 rfl rfl ?_
                refine v_aload_n 1 dX5_doesAll_88 rfl rfl ?_
                refine v_gr 5 13 n_X5_doesAll_X5 rfl (by decide) rfl m_X5_doesAll_f34 dX5_doesAll_89 hf (fun r13 hf => ?_)
                refine v_iload_n 3 dX5_doesAll_92 rfl rfl ?_
                refine v_iald dX5_doesAll_93 hf (fun x14 hf => ?_)
                refine v_aload_n 1 dX5_doesAll_94 rfl rfl ?_
                refine v_gr 5 12 n_X5_doesAll_X5 rfl (by decide) rfl m_X5_doesAll_f31 dX5_doesAll_95 hf (fun r15 hf => ?_)
                refine v_iload_n 3 dX5_doesAll_98 rfl rfl ?_
                refine v_iald dX5_doesAll_99 hf (fun x16 hf => ?_)
                refine v_if_ne 107 dX5_doesAll_100 (by decide) hf (fun _ hf => ?_) (fun _ hf => ?_)
                · refine v_iconst 0 dX5_doesAll_107 (by decide) ?_
                  refine v_callVi 5 3 [.int p1, .int x14, .int 0] (c_X5_pushes (xl X) hfx this p1 x14 0) gX5_doesAll_X5_pushes rfl dv_X5_pushes (by decide) (by decide) rfl rfl dX5_doesAll_108 (Nat.le_of_ble_eq_true rfl) rfl hE hf (fun x17 G hf => ?_)
                  refine v_goto 134 dX5_doesAll_111 (by decide) ?_
                  refine v_istore_n [(2, .int x17), (4, .int 1), (0, .ref this), (3, .int l3)] dX5_doesAll_134 rfl (by decide) rfl ?_
                  refine v_iinc 3 (l3 + 1) [(3, .int (l3 + 1)), (2, .int x17), (4, .int 1), (0, .ref this)] dX5_doesAll_135 rfl (by rfl) (by decide) rfl ?_
                  refine v_goto 7 dX5_doesAll_138 (by decide) ?_
                  refine v_sub [3, 1, 0, 2] rfl ?_
                  exact ih this x17 (l3 + 1) 1 G hf
                · refine v_iconst 1 dX5_doesAll_103 (by decide) ?_
                  refine v_goto 108 dX5_doesAll_104 (by decide) ?_
                  refine v_callVi 5 3 [.int p1, .int x14, .int 1] (c_X5_pushes (xl X) hfx this p1 x14 1) gX5_doesAll_X5_pushes rfl dv_X5_pushes (by decide) (by decide) rfl rfl dX5_doesAll_108 (Nat.le_of_ble_eq_true rfl) rfl hE hf (fun x18 G hf => ?_)
                  refine v_goto 134 dX5_doesAll_111 (by decide) ?_
                  refine v_istore_n [(2, .int x18), (4, .int 1), (0, .ref this), (3, .int l3)] dX5_doesAll_134 rfl (by decide) rfl ?_
                  refine v_iinc 3 (l3 + 1) [(3, .int (l3 + 1)), (2, .int x18), (4, .int 1), (0, .ref this)] dX5_doesAll_135 rfl (by rfl) (by decide) rfl ?_
                  refine v_goto 7 dX5_doesAll_138 (by decide) ?_
                  refine v_sub [3, 1, 0, 2] rfl ?_
                  exact ih this x18 (l3 + 1) 1 G hf
          · refine v_aload_n 0 dX5_doesAll_41 rfl rfl ?_
            refine v_iload_n 1 dX5_doesAll_42 rfl rfl ?_
            refine v_iconst 1 dX5_doesAll_43 (by decide) ?_
            refine v_callVi 5 2 [.int p1, .int 1] (c_X5_of (xl X) hfx this p1 1) gX5_doesAll_X5_of rfl dv_X5_of (by decide) (by decide) rfl rfl dX5_doesAll_44 (Nat.le_of_ble_eq_true rfl) rfl hE hf (fun x19 G hf => ?_)
            refine v_bipush 40 dX5_doesAll_47 (by decide) ?_
            refine v_icmp_ge 68 dX5_doesAll_49 (by decide) hf (fun _ hf => ?_) (fun _ hf => ?_)
            · refine v_iconst 0 dX5_doesAll_68 (by decide) ?_
              refine v_istore [(4, .int 0), (0, .ref this), (2, .int p1), (3, .int l3)] dX5_doesAll_69 (by decide) rfl ?_
              refine v_iload 0 dX5_doesAll_71 rfl ?_
              refine v_if_eq_t 7 dX5_doesAll_73 (by decide) (by decide) ?_
              refine v_sub [1, 2, 3, 0] rfl ?_
              exact ih this p1 l3 0 G hf
            · refine v_goto 64 dX5_doesAll_52 (by decide) ?_
              refine v_iconst 1 dX5_doesAll_64 (by decide) ?_
              refine v_goto 69 dX5_doesAll_65 (by decide) ?_
              refine v_istore [(4, .int 1), (0, .ref this), (2, .int p1), (3, .int l3)] dX5_doesAll_69 (by decide) rfl ?_
              refine v_iload 0 dX5_doesAll_71 rfl ?_
              refine v_if_eq_f 7 dX5_doesAll_73 (by decide) (by decide) ?_
              refine v_aload_n 1 dX5_doesAll_76 rfl rfl ?_
              refine v_gr 5 12 n_X5_doesAll_X5 rfl (by decide) rfl m_X5_doesAll_f31 dX5_doesAll_77 hf (fun r20 hf => ?_)
              refine v_iload_n 3 dX5_doesAll_80 rfl rfl ?_
              refine v_iald dX5_doesAll_81 hf (fun x21 hf => ?_)
              refine v_iconst 2 dX5_doesAll_82 (by decide) ?_
              refine v_icmp_ge 114 dX5_doesAll_83 (by decide) hf (fun _ hf => ?_) (fun _ hf => ?_)
              · refine v_aload_n 1 dX5_doesAll_114 rfl rfl ?_
                refine v_iload_n 2 dX5_doesAll_115 rfl rfl ?_
                refine v_aload_n 1 dX5_doesAll_116 rfl rfl ?_
                refine v_gr 5 12 n_X5_doesAll_X5 rfl (by decide) rfl m_X5_doesAll_f31 dX5_doesAll_117 hf (fun r22 hf => ?_)
                refine v_iload_n 3 dX5_doesAll_120 rfl rfl ?_
                refine v_iald dX5_doesAll_121 hf (fun x23 hf => ?_)
                refine v_iconst 2 dX5_doesAll_122 (by decide) ?_
                refine v_icmp_ne 130 dX5_doesAll_123 (by decide) hf (fun _ hf => ?_) (fun _ hf => ?_)
                · refine v_iconst 0 dX5_doesAll_130 (by decide) ?_
                  refine v_callVi 5 2 [.int p1, .int 0] (c_X5_pops (xl X) hfx this p1 0) gX5_doesAll_X5_pops rfl dv_X5_pops (by decide) (by decide) rfl rfl dX5_doesAll_131 (Nat.le_of_ble_eq_true rfl) rfl hE hf (fun x24 G hf => ?_)
                  refine v_istore_n [(2, .int x24), (4, .int 1), (0, .ref this), (3, .int l3)] dX5_doesAll_134 rfl (by decide) rfl ?_
                  refine v_iinc 3 (l3 + 1) [(3, .int (l3 + 1)), (2, .int x24), (4, .int 1), (0, .ref this)] dX5_doesAll_135 rfl (by rfl) (by decide) rfl ?_
                  refine v_goto 7 dX5_doesAll_138 (by decide) ?_
                  refine v_sub [3, 1, 0, 2] rfl ?_
                  exact ih this x24 (l3 + 1) 1 G hf
                · refine v_iconst 1 dX5_doesAll_126 (by decide) ?_
                  refine v_goto 131 dX5_doesAll_127 (by decide) ?_
                  refine v_callVi 5 2 [.int p1, .int 1] (c_X5_pops (xl X) hfx this p1 1) gX5_doesAll_X5_pops rfl dv_X5_pops (by decide) (by decide) rfl rfl dX5_doesAll_131 (Nat.le_of_ble_eq_true rfl) rfl hE hf (fun x25 G hf => ?_)
                  refine v_istore_n [(2, .int x25), (4, .int 1), (0, .ref this), (3, .int l3)] dX5_doesAll_134 rfl (by decide) rfl ?_
                  refine v_iinc 3 (l3 + 1) [(3, .int (l3 + 1)), (2, .int x25), (4, .int 1), (0, .ref this)] dX5_doesAll_135 rfl (by rfl) (by decide) rfl ?_
                  refine v_goto 7 dX5_doesAll_138 (by decide) ?_
                  refine v_sub [3, 1, 0, 2] rfl ?_
                  exact ih this x25 (l3 + 1) 1 G hf
              · refine v_aload_n 1 dX5_doesAll_86 rfl rfl ?_
                refine v_iload_n 2 dX5_doesAll_87 rfl rfl ?_
                refine v_aload_n 1 dX5_doesAll_88 rfl rfl ?_
                refine v_gr 5 13 n_X5_doesAll_X5 rfl (by decide) rfl m_X5_doesAll_f34 dX5_doesAll_89 hf (fun r26 hf => ?_)
                refine v_iload_n 3 dX5_doesAll_92 rfl rfl ?_
                refine v_iald dX5_doesAll_93 hf (fun x27 hf => ?_)
                refine v_aload_n 1 dX5_doesAll_94 rfl rfl ?_
                refine v_gr 5 12 n_X5_doesAll_X5 rfl (by decide) rfl m_X5_doesAll_f31 dX5_doesAll_95 hf (fun r28 hf => ?_)
                refine v_iload_n 3 dX5_doesAll_98 rfl rfl ?_
                refine v_iald dX5_doesAll_99 hf (fun x29 hf => ?_)
                refine v_if_ne 107 dX5_doesAll_100 (by decide) hf (fun _ hf => ?_) (fun _ hf => ?_)
                · refine v_iconst 0 dX5_doesAll_107 (by decide) ?_
                  refine v_callVi 5 3 [.int p1, .int x27, .int 0] (c_X5_pushes (xl X) hfx this p1 x27 0) gX5_doesAll_X5_pushes rfl dv_X5_pushes (by decide) (by decide) rfl rfl dX5_doesAll_108 (Nat.le_of_ble_eq_true rfl) rfl hE hf (fun x30 G hf => ?_)
                  refine v_goto 134 dX5_doesAll_111 (by decide) ?_
                  refine v_istore_n [(2, .int x30), (4, .int 1), (0, .ref this), (3, .int l3)] dX5_doesAll_134 rfl (by decide) rfl ?_
                  refine v_iinc 3 (l3 + 1) [(3, .int (l3 + 1)), (2, .int x30), (4, .int 1), (0, .ref this)] dX5_doesAll_135 rfl (by rfl) (by decide) rfl ?_
                  refine v_goto 7 dX5_doesAll_138 (by decide) ?_
                  refine v_sub [3, 1, 0, 2] rfl ?_
                  exact ih this x30 (l3 + 1) 1 G hf
                · refine v_iconst 1 dX5_doesAll_103 (by decide) ?_
                  refine v_goto 108 dX5_doesAll_104 (by decide) ?_
                  refine v_callVi 5 3 [.int p1, .int x27, .int 1] (c_X5_pushes (xl X) hfx this p1 x27 1) gX5_doesAll_X5_pushes rfl dv_X5_pushes (by decide) (by decide) rfl rfl dX5_doesAll_108 (Nat.le_of_ble_eq_true rfl) rfl hE hf (fun x31 G hf => ?_)
                  refine v_goto 134 dX5_doesAll_111 (by decide) ?_
                  refine v_istore_n [(2, .int x31), (4, .int 1), (0, .ref this), (3, .int l3)] dX5_doesAll_134 rfl (by decide) rfl ?_
                  refine v_iinc 3 (l3 + 1) [(3, .int (l3 + 1)), (2, .int x31), (4, .int 1), (0, .ref this)] dX5_doesAll_135 rfl (by rfl) (by decide) rfl ?_
                  refine v_goto 7 dX5_doesAll_138 (by decide) ?_
                  refine v_sub [3, 1, 0, 2] rfl ?_
                  exact ih this x31 (l3 + 1) 1 G hf
set_option maxRecDepth 100000 in
set_option maxHeartbeats 4000000 in
theorem e_X5_doesAll_0 {X : VX} {B : VB} {z : Int32} {Gf : GH}  (hfx : (xl X).stackTraces = false) (hn : (xme X).name = "doesAll") (hr : (xme X).sig.returnType = (some .int)) (hE : VE B (z, Gf))  (this : Nat) (p1 : Int32) (G : GH) (hf : (f_X5_doesAll this p1).1 G = some (z, Gf)) : V X RX5 cX5_doesAll 5 5 116 wsX5_doesAll B (QE X (vI z) Gf B) G 0 [(0, .ref this), (1, .int p1)] [] := by
  unfold f_X5_doesAll at hf
  refine v_iload_n 1 dX5_doesAll_0 rfl rfl ?_
  refine v_istore_n [(2, .int p1), (0, .ref this), (1, .int p1)] dX5_doesAll_1 rfl (by decide) rfl ?_
  refine v_iconst 0 dX5_doesAll_2 (by decide) ?_
  refine v_istore_n [(3, .int 0), (2, .int p1), (0, .ref this), (1, .int p1)] dX5_doesAll_3 rfl (by decide) rfl ?_
  refine v_iconst 1 dX5_doesAll_4 (by decide) ?_
  refine v_istore [(4, .int 1), (3, .int 0), (2, .int p1), (0, .ref this), (1, .int p1)] dX5_doesAll_5 (by decide) rfl ?_
  refine v_sub [3, 2, 1, 0] rfl ?_
  exact e_X5_doesAll_7 hfx hn hr hE FU this p1 0 1 G hf
theorem c_X5_doesAll (l : Launch) (hfl : l.stackTraces = false) (this : Nat) (p1 : Int32) : CM l yX5_doesAll wsX5_doesAll 5 116 [.ref this, .int p1] vI (f_X5_doesAll this p1) := CM.start hfl RX5 rfl (by decide +kernel) rfl (Nat.le_of_ble_eq_true rfl) (fun X G z Gf hl hn hr hf => e_X5_doesAll_0 (by rw [hl]; exact hfl) hn hr ⟨rfl, rfl⟩ this p1 G hf)
theorem dv_X5_doesAll : yX5_doesAll.cls = RX5 ∧ yX5_doesAll.cls ≠ "java/lang/invoke/MethodHandle" ∧ yX5_doesAll.cls ≠ "java/lang/invoke/VarHandle" ∧ (parseMethodDescriptor yX5_doesAll.desc).map (fun d => d.parameters.length) = some 1 := by decide +kernel
theorem m_X5_run_f41 : Cond.fieldLink RX5 41 RX5 "thrown" "I" ∈ wsX5_run := by decide +kernel
theorem n_X5_run_X5 : ∀ w ∈ u_ws RX5 TX5 16, w ∈ wsX5_run := by decide +kernel
set_option maxRecDepth 100000 in
set_option maxHeartbeats 4000000 in
theorem e_X5_run_14 {X : VX} {B : VB} {z : Int32} {Gf : GH}  (hfx : (xl X).stackTraces = false) (hn : (xme X).name = "run") (hr : (xme X).sig.returnType = (some .int)) (hE : VE B (z, Gf))  (this : Nat) (p1 : Int32) (s0 : Int32) (s1 : Nat) (G : GH) (hf : (f_X5_run_14 this p1 s0 s1).1 G = some (z, Gf)) : V X RX5 cX5_run 3 6 140 wsX5_run B (QE X (vI z) Gf B) G 14 [(0, .ref this), (1, .int p1)] [.int s0, .ref s1] := by
  unfold f_X5_run_14 at hf
  refine v_put 5 6 .int n_X5_run_X5 tyX5 tyX5_ok nmX5 rfl (by decide) rfl m_X5_run_f41 rfl (by decide +kernel) rfl rfl dX5_run_14 hf (fun G _ hf => ?_)
  refine v_aload_n 0 dX5_run_17 rfl rfl ?_
  refine v_gi 5 6 n_X5_run_X5 rfl (by decide) rfl m_X5_run_f41 dX5_run_18 hf (fun x2 hf => ?_)
  refine v_if_eq 26 dX5_run_21 (by decide) hf (fun _ hf => ?_) (fun _ hf => ?_)
  · refine v_aload_n 0 dX5_run_26 rfl rfl ?_
    refine v_callVi 5 0 [] (c_X5_faultOf (xl X) hfx this) gX5_run_X5_faultOf rfl dv_X5_faultOf (by decide) (by decide) rfl rfl dX5_run_27 (Nat.le_of_ble_eq_true rfl) rfl hE hf (fun x3 G hf => ?_)
    refine v_istore_n [(2, .int x3), (0, .ref this), (1, .int p1)] dX5_run_30 rfl (by decide) rfl ?_
    refine v_iload_n 0 dX5_run_31 rfl rfl ?_
    refine v_iconst (-1) dX5_run_32 (by decide) ?_
    refine v_icmp_eq 41 dX5_run_33 (by decide) hf (fun _ hf => ?_) (fun _ hf => ?_)
    · refine v_aload_n 1 dX5_run_41 rfl rfl ?_
      refine v_callVv 5 0 [] (c_X5_saves (xl X) hfx this) gX5_run_X5_saves rfl dv_X5_saves (by decide) (by decide) rfl rfl dX5_run_42 (Nat.le_of_ble_eq_true rfl) rfl hE hf (fun _ G hf => ?_)
      refine v_aload_n 1 dX5_run_45 rfl rfl ?_
      refine v_iload_n 2 dX5_run_46 rfl rfl ?_
      refine v_callVi 5 1 [.int p1] (c_X5_doesAll (xl X) hfx this p1) gX5_run_X5_doesAll rfl dv_X5_doesAll (by decide) (by decide) rfl rfl dX5_run_47 (Nat.le_of_ble_eq_true rfl) rfl hE hf (fun x4 G hf => ?_)
      exact v_iret hr dX5_run_50 hE hf
    · refine v_bipush (-10) dX5_run_36 (by decide) ?_
      refine v_iload_n 0 dX5_run_38 rfl rfl ?_
      refine v_isub dX5_run_39 ?_
      exact v_iret hr dX5_run_40 hE hf
  · refine v_iconst 0 dX5_run_24 (by decide) ?_
    exact v_iret hr dX5_run_25 hE hf
set_option maxRecDepth 100000 in
set_option maxHeartbeats 4000000 in
theorem e_X5_run_0 {X : VX} {B : VB} {z : Int32} {Gf : GH}  (hfx : (xl X).stackTraces = false) (hn : (xme X).name = "run") (hr : (xme X).sig.returnType = (some .int)) (hE : VE B (z, Gf))  (this : Nat) (p1 : Int32) (G : GH) (hf : (f_X5_run this p1).1 G = some (z, Gf)) : V X RX5 cX5_run 3 6 140 wsX5_run B (QE X (vI z) Gf B) G 0 [(0, .ref this), (1, .int p1)] [] := by
  unfold f_X5_run at hf
  refine v_aload_n 0 dX5_run_0 rfl rfl ?_
  refine v_aload_n 0 dX5_run_1 rfl rfl ?_
  refine v_iload_n 1 dX5_run_2 rfl rfl ?_
  refine v_callVi 5 1 [.int p1] (c_X5_isVersion (xl X) hfx this p1) gX5_run_X5_isVersion rfl dv_X5_isVersion (by decide) (by decide) rfl rfl dX5_run_3 (Nat.le_of_ble_eq_true rfl) rfl hE hf (fun x1 G hf => ?_)
  refine v_if_ne 13 dX5_run_6 (by decide) hf (fun _ hf => ?_) (fun _ hf => ?_)
  · refine v_iconst 0 dX5_run_13 (by decide) ?_
    refine v_sub [0, 1] rfl ?_
    exact e_X5_run_14 hfx hn hr hE this p1 0 this G hf
  · refine v_iconst 1 dX5_run_9 (by decide) ?_
    refine v_goto 14 dX5_run_10 (by decide) ?_
    refine v_sub [0, 1] rfl ?_
    exact e_X5_run_14 hfx hn hr hE this p1 1 this G hf
theorem c_X5_run (l : Launch) (hfl : l.stackTraces = false) (this : Nat) (p1 : Int32) : CM l yX5_run wsX5_run 6 140 [.ref this, .int p1] vI (f_X5_run this p1) := CM.start hfl RX5 rfl (by decide +kernel) rfl (Nat.le_of_ble_eq_true rfl) (fun X G z Gf hl hn hr hf => e_X5_run_0 (by rw [hl]; exact hfl) hn hr ⟨rfl, rfl⟩ this p1 G hf)
theorem dv_X5_run : yX5_run.cls = RX5 ∧ yX5_run.cls ≠ "java/lang/invoke/MethodHandle" ∧ yX5_run.cls ≠ "java/lang/invoke/VarHandle" ∧ (parseMethodDescriptor yX5_run.desc).map (fun d => d.parameters.length) = some 1 := by decide +kernel
theorem m_X5_wouldBe_f7 : Cond.fieldLink RX5 7 RX5 "now" "[I" ∈ wsX5_wouldBe := by decide +kernel
theorem m_X5_wouldBe_f16 : Cond.fieldLink RX5 16 RX5 "trial" "[I" ∈ wsX5_wouldBe := by decide +kernel
theorem n_X5_wouldBe_X5 : ∀ w ∈ u_ws RX5 TX5 16, w ∈ wsX5_wouldBe := by decide +kernel
set_option maxRecDepth 100000 in
set_option maxHeartbeats 4000000 in
theorem e_X5_wouldBe_42 {X : VX} {B : VB} {z : Int32} {Gf : GH}  (hfx : (xl X).stackTraces = false) (hn : (xme X).name = "wouldBe") (hr : (xme X).sig.returnType = (some .int)) (hE : VE B (z, Gf))  : ∀ (n : Nat) (this : Nat) (p3 : Int32) (l4 : Int32) (l5 : Int32) (l6 : Int32) (l7 : Int32) (G : GH), (f_X5_wouldBe_42 n this p3 l4 l5 l6 l7).1 G = some (z, Gf) → V X RX5 cX5_wouldBe 9 6 140 wsX5_wouldBe B (QE X (vI z) Gf B) G 42 [(0, .ref this), (3, .int p3), (4, .int l4), (5, .int l5), (6, .int l6), (7, .int l7)] [] := by
  intro n
  induction n with
  | zero =>
    intro this p3 l4 l5 l6 l7 G hf
    have h0 : (none : Option (Int32 × GH)) = some (z, Gf) := hf
    cases h0
  | succ n ih =>
    intro this p3 l4 l5 l6 l7 G hf
    rw [f_X5_wouldBe_42.eq_2] at hf
    refine v_iload 5 dX5_wouldBe_42 rfl ?_
    refine v_iload 2 dX5_wouldBe_44 rfl ?_
    refine v_iload 3 dX5_wouldBe_46 rfl ?_
    refine v_iadd dX5_wouldBe_48 ?_
    refine v_icmp_ge 109 dX5_wouldBe_49 (by decide) hf (fun _ hf => ?_) (fun _ hf => ?_)
    · refine v_aload_n 0 dX5_wouldBe_109 rfl rfl ?_
      refine v_gr 5 3 n_X5_wouldBe_X5 rfl (by decide) rfl m_X5_wouldBe_f16 dX5_wouldBe_110 hf (fun r7 hf => ?_)
      refine v_iconst 0 dX5_wouldBe_113 (by decide) ?_
      refine v_aload_n 0 dX5_wouldBe_114 rfl rfl ?_
      refine v_gr 5 0 n_X5_wouldBe_X5 rfl (by decide) rfl m_X5_wouldBe_f7 dX5_wouldBe_115 hf (fun r8 hf => ?_)
      refine v_iconst 0 dX5_wouldBe_118 (by decide) ?_
      refine v_callSv 4 [.ref r7, .int 0, .ref r8, .int 0] (c_X5_copies (xl X) hfx r7 0 r8 0) gX5_wouldBe_X5_copies rfl dn_X5_copies (by decide) (by decide) rfl dX5_wouldBe_119 (Nat.le_of_ble_eq_true rfl) rfl hE hf (fun _ G hf => ?_)
      refine v_iload 4 dX5_wouldBe_122 rfl ?_
      exact v_iret hr dX5_wouldBe_124 hE hf
    · refine v_aload_n 0 dX5_wouldBe_52 rfl rfl ?_
      refine v_iload 5 dX5_wouldBe_53 rfl ?_
      refine v_iconst 5 dX5_wouldBe_55 (by decide) ?_
      refine v_callVi 5 2 [.int l7, .int 5] (c_X5_of (xl X) hfx this l7 5) gX5_wouldBe_X5_of rfl dv_X5_of (by decide) (by decide) rfl rfl dX5_wouldBe_56 (Nat.le_of_ble_eq_true rfl) rfl hE hf (fun x9 G hf => ?_)
      refine v_istore [(8, .int x9), (0, .ref this), (3, .int p3), (4, .int l4), (5, .int l5), (6, .int l6), (7, .int l7)] dX5_wouldBe_59 (by decide) rfl ?_
      refine v_iload_n 2 dX5_wouldBe_61 rfl rfl ?_
      refine v_if_ne 77 dX5_wouldBe_62 (by decide) hf (fun _ hf => ?_) (fun _ hf => ?_)
      · refine v_iload_n 2 dX5_wouldBe_77 rfl rfl ?_
        refine v_if_eq 99 dX5_wouldBe_78 (by decide) hf (fun _ hf => ?_) (fun _ hf => ?_)
        · refine v_iload 5 dX5_wouldBe_99 rfl ?_
          refine v_istore [(6, .int l6), (8, .int x9), (0, .ref this), (3, .int p3), (4, .int l4), (5, .int l5), (7, .int l7)] dX5_wouldBe_101 (by decide) rfl ?_
          refine v_iinc 6 (l7 + 1) [(7, .int (l7 + 1)), (6, .int l6), (8, .int x9), (0, .ref this), (3, .int p3), (4, .int l4), (5, .int l5)] dX5_wouldBe_103 rfl (by rfl) (by decide) rfl ?_
          refine v_goto 42 dX5_wouldBe_106 (by decide) ?_
          refine v_sub [3, 4, 5, 6, 1, 0] rfl ?_
          exact ih this p3 l4 l5 l6 (l7 + 1) G hf
        · refine v_aload_n 1 dX5_wouldBe_81 rfl rfl ?_
          refine v_iload 6 dX5_wouldBe_82 rfl ?_
          refine v_bipush 6 dX5_wouldBe_84 (by decide) ?_
          refine v_callVi 5 2 [.int l7, .int 6] (c_X5_of (xl X) hfx this l7 6) gX5_wouldBe_X5_of rfl dv_X5_of (by decide) (by decide) rfl rfl dX5_wouldBe_86 (Nat.le_of_ble_eq_true rfl) rfl hE hf (fun x10 G hf => ?_)
          refine v_if_le 99 dX5_wouldBe_89 (by decide) hf (fun _ hf => ?_) (fun _ hf => ?_)
          · refine v_iload 5 dX5_wouldBe_99 rfl ?_
            refine v_istore [(6, .int l6), (8, .int x9), (0, .ref this), (3, .int p3), (4, .int l4), (5, .int l5), (7, .int l7)] dX5_wouldBe_101 (by decide) rfl ?_
            refine v_iinc 6 (l7 + 1) [(7, .int (l7 + 1)), (6, .int l6), (8, .int x9), (0, .ref this), (3, .int p3), (4, .int l4), (5, .int l5)] dX5_wouldBe_103 rfl (by rfl) (by decide) rfl ?_
            refine v_goto 42 dX5_wouldBe_106 (by decide) ?_
            refine v_sub [3, 4, 5, 6, 1, 0] rfl ?_
            exact ih this p3 l4 l5 l6 (l7 + 1) G hf
          · refine v_iload 5 dX5_wouldBe_92 rfl ?_
            refine v_iconst 1 dX5_wouldBe_94 (by decide) ?_
            refine v_iadd dX5_wouldBe_95 ?_
            refine v_goto 101 dX5_wouldBe_96 (by decide) ?_
            refine v_istore [(6, .int (l6 + 1)), (8, .int x9), (0, .ref this), (3, .int p3), (4, .int l4), (5, .int l5), (7, .int l7)] dX5_wouldBe_101 (by decide) rfl ?_
            refine v_iinc 6 (l7 + 1) [(7, .int (l7 + 1)), (6, .int (l6 + 1)), (8, .int x9), (0, .ref this), (3, .int p3), (4, .int l4), (5, .int l5)] dX5_wouldBe_103 rfl (by rfl) (by decide) rfl ?_
            refine v_goto 42 dX5_wouldBe_106 (by decide) ?_
            refine v_sub [3, 4, 5, 6, 1, 0] rfl ?_
            exact ih this p3 l4 l5 (l6 + 1) (l7 + 1) G hf
      · refine v_iload 0 dX5_wouldBe_65 rfl ?_
        refine v_iload 5 dX5_wouldBe_67 rfl ?_
        refine v_icmp_le 77 dX5_wouldBe_69 (by decide) hf (fun _ hf => ?_) (fun _ hf => ?_)
        · refine v_iload_n 2 dX5_wouldBe_77 rfl rfl ?_
          refine v_if_eq 99 dX5_wouldBe_78 (by decide) hf (fun _ hf => ?_) (fun _ hf => ?_)
          · refine v_iload 5 dX5_wouldBe_99 rfl ?_
            refine v_istore [(6, .int l6), (8, .int x9), (0, .ref this), (3, .int p3), (4, .int l4), (5, .int l5), (7, .int l7)] dX5_wouldBe_101 (by decide) rfl ?_
            refine v_iinc 6 (l7 + 1) [(7, .int (l7 + 1)), (6, .int l6), (8, .int x9), (0, .ref this), (3, .int p3), (4, .int l4), (5, .int l5)] dX5_wouldBe_103 rfl (by rfl) (by decide) rfl ?_
            refine v_goto 42 dX5_wouldBe_106 (by decide) ?_
            refine v_sub [3, 4, 5, 6, 1, 0] rfl ?_
            exact ih this p3 l4 l5 l6 (l7 + 1) G hf
          · refine v_aload_n 1 dX5_wouldBe_81 rfl rfl ?_
            refine v_iload 6 dX5_wouldBe_82 rfl ?_
            refine v_bipush 6 dX5_wouldBe_84 (by decide) ?_
            refine v_callVi 5 2 [.int l7, .int 6] (c_X5_of (xl X) hfx this l7 6) gX5_wouldBe_X5_of rfl dv_X5_of (by decide) (by decide) rfl rfl dX5_wouldBe_86 (Nat.le_of_ble_eq_true rfl) rfl hE hf (fun x11 G hf => ?_)
            refine v_if_le 99 dX5_wouldBe_89 (by decide) hf (fun _ hf => ?_) (fun _ hf => ?_)
            · refine v_iload 5 dX5_wouldBe_99 rfl ?_
              refine v_istore [(6, .int l6), (8, .int x9), (0, .ref this), (3, .int p3), (4, .int l4), (5, .int l5), (7, .int l7)] dX5_wouldBe_101 (by decide) rfl ?_
              refine v_iinc 6 (l7 + 1) [(7, .int (l7 + 1)), (6, .int l6), (8, .int x9), (0, .ref this), (3, .int p3), (4, .int l4), (5, .int l5)] dX5_wouldBe_103 rfl (by rfl) (by decide) rfl ?_
              refine v_goto 42 dX5_wouldBe_106 (by decide) ?_
              refine v_sub [3, 4, 5, 6, 1, 0] rfl ?_
              exact ih this p3 l4 l5 l6 (l7 + 1) G hf
            · refine v_iload 5 dX5_wouldBe_92 rfl ?_
              refine v_iconst 1 dX5_wouldBe_94 (by decide) ?_
              refine v_iadd dX5_wouldBe_95 ?_
              refine v_goto 101 dX5_wouldBe_96 (by decide) ?_
              refine v_istore [(6, .int (l6 + 1)), (8, .int x9), (0, .ref this), (3, .int p3), (4, .int l4), (5, .int l5), (7, .int l7)] dX5_wouldBe_101 (by decide) rfl ?_
              refine v_iinc 6 (l7 + 1) [(7, .int (l7 + 1)), (6, .int (l6 + 1)), (8, .int x9), (0, .ref this), (3, .int p3), (4, .int l4), (5, .int l5)] dX5_wouldBe_103 rfl (by rfl) (by decide) rfl ?_
              refine v_goto 42 dX5_wouldBe_106 (by decide) ?_
              refine v_sub [3, 4, 5, 6, 1, 0] rfl ?_
              exact ih this p3 l4 l5 (l6 + 1) (l7 + 1) G hf
        · refine v_iload 0 dX5_wouldBe_72 rfl ?_
          refine v_goto 101 dX5_wouldBe_74 (by decide) ?_
          refine v_istore [(6, .int x9), (8, .int x9), (0, .ref this), (3, .int p3), (4, .int l4), (5, .int l5), (7, .int l7)] dX5_wouldBe_101 (by decide) rfl ?_
          refine v_iinc 6 (l7 + 1) [(7, .int (l7 + 1)), (6, .int x9), (8, .int x9), (0, .ref this), (3, .int p3), (4, .int l4), (5, .int l5)] dX5_wouldBe_103 rfl (by rfl) (by decide) rfl ?_
          refine v_goto 42 dX5_wouldBe_106 (by decide) ?_
          refine v_sub [3, 4, 5, 6, 1, 0] rfl ?_
          exact ih this p3 l4 l5 x9 (l7 + 1) G hf
set_option maxRecDepth 100000 in
set_option maxHeartbeats 4000000 in
theorem e_X5_wouldBe_0 {X : VX} {B : VB} {z : Int32} {Gf : GH}  (hfx : (xl X).stackTraces = false) (hn : (xme X).name = "wouldBe") (hr : (xme X).sig.returnType = (some .int)) (hE : VE B (z, Gf))  (this : Nat) (p1 : Int32) (p2 : Int32) (p3 : Int32) (G : GH) (hf : (f_X5_wouldBe this p1 p2 p3).1 G = some (z, Gf)) : V X RX5 cX5_wouldBe 9 6 140 wsX5_wouldBe B (QE X (vI z) Gf B) G 0 [(0, .ref this), (1, .int p1), (2, .int p2), (3, .int p3)] [] := by
  unfold f_X5_wouldBe at hf
  refine v_aload_n 0 dX5_wouldBe_0 rfl rfl ?_
  refine v_gr 5 0 n_X5_wouldBe_X5 rfl (by decide) rfl m_X5_wouldBe_f7 dX5_wouldBe_1 hf (fun r1 hf => ?_)
  refine v_iconst 0 dX5_wouldBe_4 (by decide) ?_
  refine v_aload_n 0 dX5_wouldBe_5 rfl rfl ?_
  refine v_gr 5 3 n_X5_wouldBe_X5 rfl (by decide) rfl m_X5_wouldBe_f16 dX5_wouldBe_6 hf (fun r2 hf => ?_)
  refine v_iconst 0 dX5_wouldBe_9 (by decide) ?_
  refine v_callSv 4 [.ref r1, .int 0, .ref r2, .int 0] (c_X5_copies (xl X) hfx r1 0 r2 0) gX5_wouldBe_X5_copies rfl dn_X5_copies (by decide) (by decide) rfl dX5_wouldBe_10 (Nat.le_of_ble_eq_true rfl) rfl hE hf (fun _ G hf => ?_)
  refine v_aload_n 0 dX5_wouldBe_13 rfl rfl ?_
  refine v_gr 5 0 n_X5_wouldBe_X5 rfl (by decide) rfl m_X5_wouldBe_f7 dX5_wouldBe_14 hf (fun r3 hf => ?_)
  refine v_iconst 0 dX5_wouldBe_17 (by decide) ?_
  refine v_iload_n 2 dX5_wouldBe_18 rfl rfl ?_
  refine v_iast dX5_wouldBe_19 hf (fun G _ hf => ?_)
  refine v_aload_n 0 dX5_wouldBe_20 rfl rfl ?_
  refine v_gr 5 0 n_X5_wouldBe_X5 rfl (by decide) rfl m_X5_wouldBe_f7 dX5_wouldBe_21 hf (fun r4 hf => ?_)
  refine v_iconst 2 dX5_wouldBe_24 (by decide) ?_
  refine v_iald dX5_wouldBe_25 hf (fun x5 hf => ?_)
  refine v_istore [(4, .int x5), (0, .ref this), (1, .int p1), (2, .int p2), (3, .int p3)] dX5_wouldBe_26 (by decide) rfl ?_
  refine v_aload_n 1 dX5_wouldBe_28 rfl rfl ?_
  refine v_iload_n 2 dX5_wouldBe_29 rfl rfl ?_
  refine v_callVi 5 1 [.int p1] (c_X5_doesAll (xl X) hfx this p1) gX5_wouldBe_X5_doesAll rfl dv_X5_doesAll (by decide) (by decide) rfl rfl dX5_wouldBe_30 (Nat.le_of_ble_eq_true rfl) rfl hE hf (fun x6 G hf => ?_)
  refine v_istore [(5, .int x6), (4, .int x5), (0, .ref this), (1, .int p1), (2, .int p2), (3, .int p3)] dX5_wouldBe_33 (by decide) rfl ?_
  refine v_iconst 0 dX5_wouldBe_35 (by decide) ?_
  refine v_istore [(6, .int 0), (5, .int x6), (4, .int x5), (0, .ref this), (1, .int p1), (2, .int p2), (3, .int p3)] dX5_wouldBe_36 (by decide) rfl ?_
  refine v_iload 2 dX5_wouldBe_38 rfl ?_
  refine v_istore [(7, .int x5), (6, .int 0), (5, .int x6), (4, .int x5), (0, .ref this), (1, .int p1), (2, .int p2), (3, .int p3)] dX5_wouldBe_40 (by decide) rfl ?_
  refine v_sub [4, 7, 3, 2, 1, 0] rfl ?_
  exact e_X5_wouldBe_42 hfx hn hr hE FU this p3 x5 x6 0 x5 G hf
theorem c_X5_wouldBe (l : Launch) (hfl : l.stackTraces = false) (this : Nat) (p1 : Int32) (p2 : Int32) (p3 : Int32) : CM l yX5_wouldBe wsX5_wouldBe 6 140 [.ref this, .int p1, .int p2, .int p3] vI (f_X5_wouldBe this p1 p2 p3) := CM.start hfl RX5 rfl (by decide +kernel) rfl (Nat.le_of_ble_eq_true rfl) (fun X G z Gf hl hn hr hf => e_X5_wouldBe_0 (by rw [hl]; exact hfl) hn hr ⟨rfl, rfl⟩ this p1 p2 p3 G hf)
theorem dv_X5_wouldBe : yX5_wouldBe.cls = RX5 ∧ yX5_wouldBe.cls ≠ "java/lang/invoke/MethodHandle" ∧ yX5_wouldBe.cls ≠ "java/lang/invoke/VarHandle" ∧ (parseMethodDescriptor yX5_wouldBe.desc).map (fun d => d.parameters.length) = some 3 := by decide +kernel
theorem m_X5_stalls_f41 : Cond.fieldLink RX5 41 RX5 "thrown" "I" ∈ wsX5_stalls := by decide +kernel
theorem n_X5_stalls_X5 : ∀ w ∈ u_ws RX5 TX5 16, w ∈ wsX5_stalls := by decide +kernel
set_option maxRecDepth 100000 in
set_option maxHeartbeats 4000000 in
theorem e_X5_stalls_0 {X : VX} {B : VB} {z : Int32} {Gf : GH}  (hfx : (xl X).stackTraces = false) (hn : (xme X).name = "stalls") (hr : (xme X).sig.returnType = (some .int)) (hE : VE B (z, Gf))  (this : Nat) (p1 : Int32) (p2 : Int32) (G : GH) (hf : (f_X5_stalls this p1 p2).1 G = some (z, Gf)) : V X RX5 cX5_stalls 3 7 168 wsX5_stalls B (QE X (vI z) Gf B) G 0 [(0, .ref this), (1, .int p1), (2, .int p2)] [] := by
  unfold f_X5_stalls at hf
  refine v_aload_n 0 dX5_stalls_0 rfl rfl ?_
  refine v_aload_n 0 dX5_stalls_1 rfl rfl ?_
  refine v_iload_n 1 dX5_stalls_2 rfl rfl ?_
  refine v_callVi 5 1 [.int p1] (c_X5_isVersion (xl X) hfx this p1) gX5_stalls_X5_isVersion rfl dv_X5_isVersion (by decide) (by decide) rfl rfl dX5_stalls_3 (Nat.le_of_ble_eq_true rfl) rfl hE hf (fun x1 G hf => ?_)
  refine v_if_ne 13 dX5_stalls_6 (by decide) hf (fun _ hf => ?_) (fun _ hf => ?_)
  · refine v_iload_n 2 dX5_stalls_13 rfl rfl ?_
    refine v_iconst 1 dX5_stalls_14 (by decide) ?_
    refine v_bipush 9 dX5_stalls_15 (by decide) ?_
    refine v_callSi 3 [.int p2, .int 1, .int 9] (c_X5_in (xl X) hfx p2 1 9) gX5_stalls_X5_in rfl dn_X5_in (by decide) (by decide) rfl dX5_stalls_17 (Nat.le_of_ble_eq_true rfl) rfl hE hf (fun x2 G hf => ?_)
    refine v_if_ne 27 dX5_stalls_20 (by decide) hf (fun _ hf => ?_) (fun _ hf => ?_)
    · refine v_aload_n 0 dX5_stalls_27 rfl rfl ?_
      refine v_callVi 5 0 [] (c_X5_faultOf (xl X) hfx this) gX5_stalls_X5_faultOf rfl dv_X5_faultOf (by decide) (by decide) rfl rfl dX5_stalls_28 (Nat.le_of_ble_eq_true rfl) rfl hE hf (fun x3 G hf => ?_)
      refine v_iconst (-1) dX5_stalls_31 (by decide) ?_
      refine v_icmp_eq 39 dX5_stalls_32 (by decide) hf (fun _ hf => ?_) (fun _ hf => ?_)
      · refine v_iconst 0 dX5_stalls_39 (by decide) ?_
        refine v_put 5 6 .int n_X5_stalls_X5 tyX5 tyX5_ok nmX5 rfl (by decide) rfl m_X5_stalls_f41 rfl (by decide +kernel) rfl rfl dX5_stalls_40 hf (fun G _ hf => ?_)
        refine v_aload_n 0 dX5_stalls_43 rfl rfl ?_
        refine v_gi 5 6 n_X5_stalls_X5 rfl (by decide) rfl m_X5_stalls_f41 dX5_stalls_44 hf (fun x4 hf => ?_)
        refine v_if_eq 54 dX5_stalls_47 (by decide) hf (fun _ hf => ?_) (fun _ hf => ?_)
        · refine v_aload_n 0 dX5_stalls_54 rfl rfl ?_
          refine v_iload_n 1 dX5_stalls_55 rfl rfl ?_
          refine v_iload_n 2 dX5_stalls_56 rfl rfl ?_
          refine v_iconst 1 dX5_stalls_57 (by decide) ?_
          refine v_callVi 5 3 [.int p1, .int p2, .int 1] (c_X5_wouldBe (xl X) hfx this p1 p2 1) gX5_stalls_X5_wouldBe rfl dv_X5_wouldBe (by decide) (by decide) rfl rfl dX5_stalls_58 (Nat.le_of_ble_eq_true rfl) rfl hE hf (fun x5 G hf => ?_)
          exact v_iret hr dX5_stalls_61 hE hf
        · refine v_iconst 0 dX5_stalls_50 (by decide) ?_
          refine v_goto 61 dX5_stalls_51 (by decide) ?_
          exact v_iret hr dX5_stalls_61 hE hf
      · refine v_iconst 3 dX5_stalls_35 (by decide) ?_
        refine v_goto 40 dX5_stalls_36 (by decide) ?_
        refine v_put 5 6 .int n_X5_stalls_X5 tyX5 tyX5_ok nmX5 rfl (by decide) rfl m_X5_stalls_f41 rfl (by decide +kernel) rfl rfl dX5_stalls_40 hf (fun G _ hf => ?_)
        refine v_aload_n 0 dX5_stalls_43 rfl rfl ?_
        refine v_gi 5 6 n_X5_stalls_X5 rfl (by decide) rfl m_X5_stalls_f41 dX5_stalls_44 hf (fun x6 hf => ?_)
        refine v_if_eq 54 dX5_stalls_47 (by decide) hf (fun _ hf => ?_) (fun _ hf => ?_)
        · refine v_aload_n 0 dX5_stalls_54 rfl rfl ?_
          refine v_iload_n 1 dX5_stalls_55 rfl rfl ?_
          refine v_iload_n 2 dX5_stalls_56 rfl rfl ?_
          refine v_iconst 1 dX5_stalls_57 (by decide) ?_
          refine v_callVi 5 3 [.int p1, .int p2, .int 1] (c_X5_wouldBe (xl X) hfx this p1 p2 1) gX5_stalls_X5_wouldBe rfl dv_X5_wouldBe (by decide) (by decide) rfl rfl dX5_stalls_58 (Nat.le_of_ble_eq_true rfl) rfl hE hf (fun x7 G hf => ?_)
          exact v_iret hr dX5_stalls_61 hE hf
        · refine v_iconst 0 dX5_stalls_50 (by decide) ?_
          refine v_goto 61 dX5_stalls_51 (by decide) ?_
          exact v_iret hr dX5_stalls_61 hE hf
    · refine v_iconst 2 dX5_stalls_23 (by decide) ?_
      refine v_goto 40 dX5_stalls_24 (by decide) ?_
      refine v_put 5 6 .int n_X5_stalls_X5 tyX5 tyX5_ok nmX5 rfl (by decide) rfl m_X5_stalls_f41 rfl (by decide +kernel) rfl rfl dX5_stalls_40 hf (fun G _ hf => ?_)
      refine v_aload_n 0 dX5_stalls_43 rfl rfl ?_
      refine v_gi 5 6 n_X5_stalls_X5 rfl (by decide) rfl m_X5_stalls_f41 dX5_stalls_44 hf (fun x8 hf => ?_)
      refine v_if_eq 54 dX5_stalls_47 (by decide) hf (fun _ hf => ?_) (fun _ hf => ?_)
      · refine v_aload_n 0 dX5_stalls_54 rfl rfl ?_
        refine v_iload_n 1 dX5_stalls_55 rfl rfl ?_
        refine v_iload_n 2 dX5_stalls_56 rfl rfl ?_
        refine v_iconst 1 dX5_stalls_57 (by decide) ?_
        refine v_callVi 5 3 [.int p1, .int p2, .int 1] (c_X5_wouldBe (xl X) hfx this p1 p2 1) gX5_stalls_X5_wouldBe rfl dv_X5_wouldBe (by decide) (by decide) rfl rfl dX5_stalls_58 (Nat.le_of_ble_eq_true rfl) rfl hE hf (fun x9 G hf => ?_)
        exact v_iret hr dX5_stalls_61 hE hf
      · refine v_iconst 0 dX5_stalls_50 (by decide) ?_
        refine v_goto 61 dX5_stalls_51 (by decide) ?_
        exact v_iret hr dX5_stalls_61 hE hf
  · refine v_iconst 1 dX5_stalls_9 (by decide) ?_
    refine v_goto 40 dX5_stalls_10 (by decide) ?_
    refine v_put 5 6 .int n_X5_stalls_X5 tyX5 tyX5_ok nmX5 rfl (by decide) rfl m_X5_stalls_f41 rfl (by decide +kernel) rfl rfl dX5_stalls_40 hf (fun G _ hf => ?_)
    refine v_aload_n 0 dX5_stalls_43 rfl rfl ?_
    refine v_gi 5 6 n_X5_stalls_X5 rfl (by decide) rfl m_X5_stalls_f41 dX5_stalls_44 hf (fun x10 hf => ?_)
    refine v_if_eq 54 dX5_stalls_47 (by decide) hf (fun _ hf => ?_) (fun _ hf => ?_)
    · refine v_aload_n 0 dX5_stalls_54 rfl rfl ?_
      refine v_iload_n 1 dX5_stalls_55 rfl rfl ?_
      refine v_iload_n 2 dX5_stalls_56 rfl rfl ?_
      refine v_iconst 1 dX5_stalls_57 (by decide) ?_
      refine v_callVi 5 3 [.int p1, .int p2, .int 1] (c_X5_wouldBe (xl X) hfx this p1 p2 1) gX5_stalls_X5_wouldBe rfl dv_X5_wouldBe (by decide) (by decide) rfl rfl dX5_stalls_58 (Nat.le_of_ble_eq_true rfl) rfl hE hf (fun x11 G hf => ?_)
      exact v_iret hr dX5_stalls_61 hE hf
    · refine v_iconst 0 dX5_stalls_50 (by decide) ?_
      refine v_goto 61 dX5_stalls_51 (by decide) ?_
      exact v_iret hr dX5_stalls_61 hE hf
theorem c_X5_stalls (l : Launch) (hfl : l.stackTraces = false) (this : Nat) (p1 : Int32) (p2 : Int32) : CM l yX5_stalls wsX5_stalls 7 168 [.ref this, .int p1, .int p2] vI (f_X5_stalls this p1 p2) := CM.start hfl RX5 rfl (by decide +kernel) rfl (Nat.le_of_ble_eq_true rfl) (fun X G z Gf hl hn hr hf => e_X5_stalls_0 (by rw [hl]; exact hfl) hn hr ⟨rfl, rfl⟩ this p1 p2 G hf)
theorem dv_X5_stalls : yX5_stalls.cls = RX5 ∧ yX5_stalls.cls ≠ "java/lang/invoke/MethodHandle" ∧ yX5_stalls.cls ≠ "java/lang/invoke/VarHandle" ∧ (parseMethodDescriptor yX5_stalls.desc).map (fun d => d.parameters.length) = some 2 := by decide +kernel
theorem m_X5_worstWith_f41 : Cond.fieldLink RX5 41 RX5 "thrown" "I" ∈ wsX5_worstWith := by decide +kernel
theorem n_X5_worstWith_X5 : ∀ w ∈ u_ws RX5 TX5 16, w ∈ wsX5_worstWith := by decide +kernel
set_option maxRecDepth 100000 in
set_option maxHeartbeats 4000000 in
theorem e_X5_worstWith_0 {X : VX} {B : VB} {z : Int32} {Gf : GH}  (hfx : (xl X).stackTraces = false) (hn : (xme X).name = "worstWith") (hr : (xme X).sig.returnType = (some .int)) (hE : VE B (z, Gf))  (this : Nat) (p1 : Int32) (p2 : Int32) (G : GH) (hf : (f_X5_worstWith this p1 p2).1 G = some (z, Gf)) : V X RX5 cX5_worstWith 3 7 168 wsX5_worstWith B (QE X (vI z) Gf B) G 0 [(0, .ref this), (1, .int p1), (2, .int p2)] [] := by
  unfold f_X5_worstWith at hf
  refine v_aload_n 0 dX5_worstWith_0 rfl rfl ?_
  refine v_aload_n 0 dX5_worstWith_1 rfl rfl ?_
  refine v_iload_n 1 dX5_worstWith_2 rfl rfl ?_
  refine v_callVi 5 1 [.int p1] (c_X5_isVersion (xl X) hfx this p1) gX5_worstWith_X5_isVersion rfl dv_X5_isVersion (by decide) (by decide) rfl rfl dX5_worstWith_3 (Nat.le_of_ble_eq_true rfl) rfl hE hf (fun x1 G hf => ?_)
  refine v_if_ne 13 dX5_worstWith_6 (by decide) hf (fun _ hf => ?_) (fun _ hf => ?_)
  · refine v_iload_n 2 dX5_worstWith_13 rfl rfl ?_
    refine v_iconst 1 dX5_worstWith_14 (by decide) ?_
    refine v_bipush 9 dX5_worstWith_15 (by decide) ?_
    refine v_callSi 3 [.int p2, .int 1, .int 9] (c_X5_in (xl X) hfx p2 1 9) gX5_worstWith_X5_in rfl dn_X5_in (by decide) (by decide) rfl dX5_worstWith_17 (Nat.le_of_ble_eq_true rfl) rfl hE hf (fun x2 G hf => ?_)
    refine v_if_ne 27 dX5_worstWith_20 (by decide) hf (fun _ hf => ?_) (fun _ hf => ?_)
    · refine v_aload_n 0 dX5_worstWith_27 rfl rfl ?_
      refine v_callVi 5 0 [] (c_X5_faultOf (xl X) hfx this) gX5_worstWith_X5_faultOf rfl dv_X5_faultOf (by decide) (by decide) rfl rfl dX5_worstWith_28 (Nat.le_of_ble_eq_true rfl) rfl hE hf (fun x3 G hf => ?_)
      refine v_iconst (-1) dX5_worstWith_31 (by decide) ?_
      refine v_icmp_eq 39 dX5_worstWith_32 (by decide) hf (fun _ hf => ?_) (fun _ hf => ?_)
      · refine v_iconst 0 dX5_worstWith_39 (by decide) ?_
        refine v_put 5 6 .int n_X5_worstWith_X5 tyX5 tyX5_ok nmX5 rfl (by decide) rfl m_X5_worstWith_f41 rfl (by decide +kernel) rfl rfl dX5_worstWith_40 hf (fun G _ hf => ?_)
        refine v_aload_n 0 dX5_worstWith_43 rfl rfl ?_
        refine v_gi 5 6 n_X5_worstWith_X5 rfl (by decide) rfl m_X5_worstWith_f41 dX5_worstWith_44 hf (fun x4 hf => ?_)
        refine v_if_eq 54 dX5_worstWith_47 (by decide) hf (fun _ hf => ?_) (fun _ hf => ?_)
        · refine v_aload_n 0 dX5_worstWith_54 rfl rfl ?_
          refine v_iload_n 1 dX5_worstWith_55 rfl rfl ?_
          refine v_iload_n 2 dX5_worstWith_56 rfl rfl ?_
          refine v_iconst 0 dX5_worstWith_57 (by decide) ?_
          refine v_callVi 5 3 [.int p1, .int p2, .int 0] (c_X5_wouldBe (xl X) hfx this p1 p2 0) gX5_worstWith_X5_wouldBe rfl dv_X5_wouldBe (by decide) (by decide) rfl rfl dX5_worstWith_58 (Nat.le_of_ble_eq_true rfl) rfl hE hf (fun x5 G hf => ?_)
          exact v_iret hr dX5_worstWith_61 hE hf
        · refine v_iconst 0 dX5_worstWith_50 (by decide) ?_
          refine v_goto 61 dX5_worstWith_51 (by decide) ?_
          exact v_iret hr dX5_worstWith_61 hE hf
      · refine v_iconst 3 dX5_worstWith_35 (by decide) ?_
        refine v_goto 40 dX5_worstWith_36 (by decide) ?_
        refine v_put 5 6 .int n_X5_worstWith_X5 tyX5 tyX5_ok nmX5 rfl (by decide) rfl m_X5_worstWith_f41 rfl (by decide +kernel) rfl rfl dX5_worstWith_40 hf (fun G _ hf => ?_)
        refine v_aload_n 0 dX5_worstWith_43 rfl rfl ?_
        refine v_gi 5 6 n_X5_worstWith_X5 rfl (by decide) rfl m_X5_worstWith_f41 dX5_worstWith_44 hf (fun x6 hf => ?_)
        refine v_if_eq 54 dX5_worstWith_47 (by decide) hf (fun _ hf => ?_) (fun _ hf => ?_)
        · refine v_aload_n 0 dX5_worstWith_54 rfl rfl ?_
          refine v_iload_n 1 dX5_worstWith_55 rfl rfl ?_
          refine v_iload_n 2 dX5_worstWith_56 rfl rfl ?_
          refine v_iconst 0 dX5_worstWith_57 (by decide) ?_
          refine v_callVi 5 3 [.int p1, .int p2, .int 0] (c_X5_wouldBe (xl X) hfx this p1 p2 0) gX5_worstWith_X5_wouldBe rfl dv_X5_wouldBe (by decide) (by decide) rfl rfl dX5_worstWith_58 (Nat.le_of_ble_eq_true rfl) rfl hE hf (fun x7 G hf => ?_)
          exact v_iret hr dX5_worstWith_61 hE hf
        · refine v_iconst 0 dX5_worstWith_50 (by decide) ?_
          refine v_goto 61 dX5_worstWith_51 (by decide) ?_
          exact v_iret hr dX5_worstWith_61 hE hf
    · refine v_iconst 2 dX5_worstWith_23 (by decide) ?_
      refine v_goto 40 dX5_worstWith_24 (by decide) ?_
      refine v_put 5 6 .int n_X5_worstWith_X5 tyX5 tyX5_ok nmX5 rfl (by decide) rfl m_X5_worstWith_f41 rfl (by decide +kernel) rfl rfl dX5_worstWith_40 hf (fun G _ hf => ?_)
      refine v_aload_n 0 dX5_worstWith_43 rfl rfl ?_
      refine v_gi 5 6 n_X5_worstWith_X5 rfl (by decide) rfl m_X5_worstWith_f41 dX5_worstWith_44 hf (fun x8 hf => ?_)
      refine v_if_eq 54 dX5_worstWith_47 (by decide) hf (fun _ hf => ?_) (fun _ hf => ?_)
      · refine v_aload_n 0 dX5_worstWith_54 rfl rfl ?_
        refine v_iload_n 1 dX5_worstWith_55 rfl rfl ?_
        refine v_iload_n 2 dX5_worstWith_56 rfl rfl ?_
        refine v_iconst 0 dX5_worstWith_57 (by decide) ?_
        refine v_callVi 5 3 [.int p1, .int p2, .int 0] (c_X5_wouldBe (xl X) hfx this p1 p2 0) gX5_worstWith_X5_wouldBe rfl dv_X5_wouldBe (by decide) (by decide) rfl rfl dX5_worstWith_58 (Nat.le_of_ble_eq_true rfl) rfl hE hf (fun x9 G hf => ?_)
        exact v_iret hr dX5_worstWith_61 hE hf
      · refine v_iconst 0 dX5_worstWith_50 (by decide) ?_
        refine v_goto 61 dX5_worstWith_51 (by decide) ?_
        exact v_iret hr dX5_worstWith_61 hE hf
  · refine v_iconst 1 dX5_worstWith_9 (by decide) ?_
    refine v_goto 40 dX5_worstWith_10 (by decide) ?_
    refine v_put 5 6 .int n_X5_worstWith_X5 tyX5 tyX5_ok nmX5 rfl (by decide) rfl m_X5_worstWith_f41 rfl (by decide +kernel) rfl rfl dX5_worstWith_40 hf (fun G _ hf => ?_)
    refine v_aload_n 0 dX5_worstWith_43 rfl rfl ?_
    refine v_gi 5 6 n_X5_worstWith_X5 rfl (by decide) rfl m_X5_worstWith_f41 dX5_worstWith_44 hf (fun x10 hf => ?_)
    refine v_if_eq 54 dX5_worstWith_47 (by decide) hf (fun _ hf => ?_) (fun _ hf => ?_)
    · refine v_aload_n 0 dX5_worstWith_54 rfl rfl ?_
      refine v_iload_n 1 dX5_worstWith_55 rfl rfl ?_
      refine v_iload_n 2 dX5_worstWith_56 rfl rfl ?_
      refine v_iconst 0 dX5_worstWith_57 (by decide) ?_
      refine v_callVi 5 3 [.int p1, .int p2, .int 0] (c_X5_wouldBe (xl X) hfx this p1 p2 0) gX5_worstWith_X5_wouldBe rfl dv_X5_wouldBe (by decide) (by decide) rfl rfl dX5_worstWith_58 (Nat.le_of_ble_eq_true rfl) rfl hE hf (fun x11 G hf => ?_)
      exact v_iret hr dX5_worstWith_61 hE hf
    · refine v_iconst 0 dX5_worstWith_50 (by decide) ?_
      refine v_goto 61 dX5_worstWith_51 (by decide) ?_
      exact v_iret hr dX5_worstWith_61 hE hf
theorem c_X5_worstWith (l : Launch) (hfl : l.stackTraces = false) (this : Nat) (p1 : Int32) (p2 : Int32) : CM l yX5_worstWith wsX5_worstWith 7 168 [.ref this, .int p1, .int p2] vI (f_X5_worstWith this p1 p2) := CM.start hfl RX5 rfl (by decide +kernel) rfl (Nat.le_of_ble_eq_true rfl) (fun X G z Gf hl hn hr hf => e_X5_worstWith_0 (by rw [hl]; exact hfl) hn hr ⟨rfl, rfl⟩ this p1 p2 G hf)
theorem dv_X5_worstWith : yX5_worstWith.cls = RX5 ∧ yX5_worstWith.cls ≠ "java/lang/invoke/MethodHandle" ∧ yX5_worstWith.cls ≠ "java/lang/invoke/VarHandle" ∧ (parseMethodDescriptor yX5_worstWith.desc).map (fun d => d.parameters.length) = some 2 := by decide +kernel
theorem m_X5_leastRate_f41 : Cond.fieldLink RX5 41 RX5 "thrown" "I" ∈ wsX5_leastRate := by decide +kernel
theorem n_X5_leastRate_X5 : ∀ w ∈ u_ws RX5 TX5 16, w ∈ wsX5_leastRate := by decide +kernel
set_option maxRecDepth 100000 in
set_option maxHeartbeats 4000000 in
theorem e_X5_leastRate_40 {X : VX} {B : VB} {z : Int32} {Gf : GH}  (hfx : (xl X).stackTraces = false) (hn : (xme X).name = "leastRate") (hr : (xme X).sig.returnType = (some .int)) (hE : VE B (z, Gf))  : ∀ (n : Nat) (this : Nat) (p1 : Int32) (l2 : Int32) (G : GH), (f_X5_leastRate_40 n this p1 l2).1 G = some (z, Gf) → V X RX5 cX5_leastRate 3 7 168 wsX5_leastRate B (QE X (vI z) Gf B) G 40 [(0, .ref this), (1, .int p1), (2, .int l2)] [] := by
  intro n
  induction n with
  | zero =>
    intro this p1 l2 G hf
    have h0 : (none : Option (Int32 × GH)) = some (z, Gf) := hf
    cases h0
  | succ n ih =>
    intro this p1 l2 G hf
    rw [f_X5_leastRate_40.eq_2] at hf
    refine v_iload_n 2 dX5_leastRate_40 rfl rfl ?_
    refine v_bipush 10 dX5_leastRate_41 (by decide) ?_
    refine v_icmp_ge 64 dX5_leastRate_43 (by decide) hf (fun _ hf => ?_) (fun _ hf => ?_)
    · refine v_iconst (-1) dX5_leastRate_64 (by decide) ?_
      exact v_iret hr dX5_leastRate_65 hE hf
    · refine v_aload_n 0 dX5_leastRate_46 rfl rfl ?_
      refine v_iload_n 1 dX5_leastRate_47 rfl rfl ?_
      refine v_iload_n 2 dX5_leastRate_48 rfl rfl ?_
      refine v_iconst 1 dX5_leastRate_49 (by decide) ?_
      refine v_callVi 5 3 [.int p1, .int l2, .int 1] (c_X5_wouldBe (xl X) hfx this p1 l2 1) gX5_leastRate_X5_wouldBe rfl dv_X5_wouldBe (by decide) (by decide) rfl rfl dX5_leastRate_50 (Nat.le_of_ble_eq_true rfl) rfl hE hf (fun x4 G hf => ?_)
      refine v_if_ne 58 dX5_leastRate_53 (by decide) hf (fun _ hf => ?_) (fun _ hf => ?_)
      · refine v_iinc 2 (l2 + 1) [(2, .int (l2 + 1)), (0, .ref this), (1, .int p1)] dX5_leastRate_58 rfl (by rfl) (by decide) rfl ?_
        refine v_goto 40 dX5_leastRate_61 (by decide) ?_
        refine v_sub [1, 2, 0] rfl ?_
        exact ih this p1 (l2 + 1) G hf
      · refine v_iload_n 2 dX5_leastRate_56 rfl rfl ?_
        exact v_iret hr dX5_leastRate_57 hE hf
set_option maxRecDepth 100000 in
set_option maxHeartbeats 4000000 in
theorem e_X5_leastRate_26 {X : VX} {B : VB} {z : Int32} {Gf : GH}  (hfx : (xl X).stackTraces = false) (hn : (xme X).name = "leastRate") (hr : (xme X).sig.returnType = (some .int)) (hE : VE B (z, Gf))  (this : Nat) (p1 : Int32) (s0 : Int32) (s1 : Nat) (G : GH) (hf : (f_X5_leastRate_26 this p1 s0 s1).1 G = some (z, Gf)) : V X RX5 cX5_leastRate 3 7 168 wsX5_leastRate B (QE X (vI z) Gf B) G 26 [(0, .ref this), (1, .int p1)] [.int s0, .ref s1] := by
  unfold f_X5_leastRate_26 at hf
  refine v_put 5 6 .int n_X5_leastRate_X5 tyX5 tyX5_ok nmX5 rfl (by decide) rfl m_X5_leastRate_f41 rfl (by decide +kernel) rfl rfl dX5_leastRate_26 hf (fun G _ hf => ?_)
  refine v_aload_n 0 dX5_leastRate_29 rfl rfl ?_
  refine v_gi 5 6 n_X5_leastRate_X5 rfl (by decide) rfl m_X5_leastRate_f41 dX5_leastRate_30 hf (fun x3 hf => ?_)
  refine v_if_eq 38 dX5_leastRate_33 (by decide) hf (fun _ hf => ?_) (fun _ hf => ?_)
  · refine v_iconst 1 dX5_leastRate_38 (by decide) ?_
    refine v_istore_n [(2, .int 1), (0, .ref this), (1, .int p1)] dX5_leastRate_39 rfl (by decide) rfl ?_
    refine v_sub [1, 2, 0] rfl ?_
    exact e_X5_leastRate_40 hfx hn hr hE FU this p1 1 G hf
  · refine v_iconst 0 dX5_leastRate_36 (by decide) ?_
    exact v_iret hr dX5_leastRate_37 hE hf
set_option maxRecDepth 100000 in
set_option maxHeartbeats 4000000 in
theorem e_X5_leastRate_0 {X : VX} {B : VB} {z : Int32} {Gf : GH}  (hfx : (xl X).stackTraces = false) (hn : (xme X).name = "leastRate") (hr : (xme X).sig.returnType = (some .int)) (hE : VE B (z, Gf))  (this : Nat) (p1 : Int32) (G : GH) (hf : (f_X5_leastRate this p1).1 G = some (z, Gf)) : V X RX5 cX5_leastRate 3 7 168 wsX5_leastRate B (QE X (vI z) Gf B) G 0 [(0, .ref this), (1, .int p1)] [] := by
  unfold f_X5_leastRate at hf
  refine v_aload_n 0 dX5_leastRate_0 rfl rfl ?_
  refine v_aload_n 0 dX5_leastRate_1 rfl rfl ?_
  refine v_iload_n 1 dX5_leastRate_2 rfl rfl ?_
  refine v_callVi 5 1 [.int p1] (c_X5_isVersion (xl X) hfx this p1) gX5_leastRate_X5_isVersion rfl dv_X5_isVersion (by decide) (by decide) rfl rfl dX5_leastRate_3 (Nat.le_of_ble_eq_true rfl) rfl hE hf (fun x1 G hf => ?_)
  refine v_if_ne 13 dX5_leastRate_6 (by decide) hf (fun _ hf => ?_) (fun _ hf => ?_)
  · refine v_aload_n 0 dX5_leastRate_13 rfl rfl ?_
    refine v_callVi 5 0 [] (c_X5_faultOf (xl X) hfx this) gX5_leastRate_X5_faultOf rfl dv_X5_faultOf (by decide) (by decide) rfl rfl dX5_leastRate_14 (Nat.le_of_ble_eq_true rfl) rfl hE hf (fun x2 G hf => ?_)
    refine v_iconst (-1) dX5_leastRate_17 (by decide) ?_
    refine v_icmp_eq 25 dX5_leastRate_18 (by decide) hf (fun _ hf => ?_) (fun _ hf => ?_)
    · refine v_iconst 0 dX5_leastRate_25 (by decide) ?_
      refine v_sub [0, 1] rfl ?_
      exact e_X5_leastRate_26 hfx hn hr hE this p1 0 this G hf
    · refine v_iconst 2 dX5_leastRate_21 (by decide) ?_
      refine v_goto 26 dX5_leastRate_22 (by decide) ?_
      refine v_sub [0, 1] rfl ?_
      exact e_X5_leastRate_26 hfx hn hr hE this p1 2 this G hf
  · refine v_iconst 1 dX5_leastRate_9 (by decide) ?_
    refine v_goto 26 dX5_leastRate_10 (by decide) ?_
    refine v_sub [0, 1] rfl ?_
    exact e_X5_leastRate_26 hfx hn hr hE this p1 1 this G hf
theorem c_X5_leastRate (l : Launch) (hfl : l.stackTraces = false) (this : Nat) (p1 : Int32) : CM l yX5_leastRate wsX5_leastRate 7 168 [.ref this, .int p1] vI (f_X5_leastRate this p1) := CM.start hfl RX5 rfl (by decide +kernel) rfl (Nat.le_of_ble_eq_true rfl) (fun X G z Gf hl hn hr hf => e_X5_leastRate_0 (by rw [hl]; exact hfl) hn hr ⟨rfl, rfl⟩ this p1 G hf)
theorem dv_X5_leastRate : yX5_leastRate.cls = RX5 ∧ yX5_leastRate.cls ≠ "java/lang/invoke/MethodHandle" ∧ yX5_leastRate.cls ≠ "java/lang/invoke/VarHandle" ∧ (parseMethodDescriptor yX5_leastRate.desc).map (fun d => d.parameters.length) = some 1 := by decide +kernel
theorem m_X5_undo_f45 : Cond.fieldLink RX5 45 RX5 "pasts" "I" ∈ wsX5_undo := by decide +kernel
theorem m_X5_undo_f41 : Cond.fieldLink RX5 41 RX5 "thrown" "I" ∈ wsX5_undo := by decide +kernel
theorem m_X5_undo_f13 : Cond.fieldLink RX5 13 RX5 "past" "[I" ∈ wsX5_undo := by decide +kernel
theorem m_X5_undo_f7 : Cond.fieldLink RX5 7 RX5 "now" "[I" ∈ wsX5_undo := by decide +kernel
theorem n_X5_undo_X5 : ∀ w ∈ u_ws RX5 TX5 16, w ∈ wsX5_undo := by decide +kernel
set_option maxRecDepth 100000 in
set_option maxHeartbeats 4000000 in
theorem e_X5_undo_13 {X : VX} {B : VB} {z : Int32} {Gf : GH}  (hfx : (xl X).stackTraces = false) (hn : (xme X).name = "undo") (hr : (xme X).sig.returnType = (some .int)) (hE : VE B (z, Gf))  (this : Nat) (s0 : Int32) (s1 : Nat) (G : GH) (hf : (f_X5_undo_13 this s0 s1).1 G = some (z, Gf)) : V X RX5 cX5_undo 1 1 24 wsX5_undo B (QE X (vI z) Gf B) G 13 [(0, .ref this)] [.int s0, .ref s1] := by
  unfold f_X5_undo_13 at hf
  refine v_put 5 6 .int n_X5_undo_X5 tyX5 tyX5_ok nmX5 rfl (by decide) rfl m_X5_undo_f41 rfl (by decide +kernel) rfl rfl dX5_undo_13 hf (fun G _ hf => ?_)
  refine v_aload_n 0 dX5_undo_16 rfl rfl ?_
  refine v_gi 5 6 n_X5_undo_X5 rfl (by decide) rfl m_X5_undo_f41 dX5_undo_17 hf (fun x2 hf => ?_)
  refine v_if_eq 25 dX5_undo_20 (by decide) hf (fun _ hf => ?_) (fun _ hf => ?_)
  · refine v_aload_n 0 dX5_undo_25 rfl rfl ?_
    refine v_dup dX5_undo_26 rfl ?_
    refine v_gi 5 2 n_X5_undo_X5 rfl (by decide) rfl m_X5_undo_f45 dX5_undo_27 hf (fun x3 hf => ?_)
    refine v_iconst 1 dX5_undo_30 (by decide) ?_
    refine v_isub dX5_undo_31 ?_
    refine v_put 5 2 .int n_X5_undo_X5 tyX5 tyX5_ok nmX5 rfl (by decide) rfl m_X5_undo_f45 rfl (by decide +kernel) rfl rfl dX5_undo_32 hf (fun G _ hf => ?_)
    refine v_aload_n 0 dX5_undo_35 rfl rfl ?_
    refine v_gr 5 1 n_X5_undo_X5 rfl (by decide) rfl m_X5_undo_f13 dX5_undo_36 hf (fun r4 hf => ?_)
    refine v_aload_n 0 dX5_undo_39 rfl rfl ?_
    refine v_gi 5 2 n_X5_undo_X5 rfl (by decide) rfl m_X5_undo_f45 dX5_undo_40 hf (fun x5 hf => ?_)
    refine v_sipush 1003 dX5_undo_43 (by decide) ?_
    refine v_imul dX5_undo_46 ?_
    refine v_aload_n 0 dX5_undo_47 rfl rfl ?_
    refine v_gr 5 0 n_X5_undo_X5 rfl (by decide) rfl m_X5_undo_f7 dX5_undo_48 hf (fun r6 hf => ?_)
    refine v_iconst 0 dX5_undo_51 (by decide) ?_
    refine v_callSv 4 [.ref r4, .int (x5 * 1003), .ref r6, .int 0] (c_X5_copies (xl X) hfx r4 (x5 * 1003) r6 0) gX5_undo_X5_copies rfl dn_X5_copies (by decide) (by decide) rfl dX5_undo_52 (Nat.le_of_ble_eq_true rfl) rfl hE hf (fun _ G hf => ?_)
    refine v_aload_n 0 dX5_undo_55 rfl rfl ?_
    refine v_gi 5 2 n_X5_undo_X5 rfl (by decide) rfl m_X5_undo_f45 dX5_undo_56 hf (fun x7 hf => ?_)
    exact v_iret hr dX5_undo_59 hE hf
  · refine v_iconst 0 dX5_undo_23 (by decide) ?_
    exact v_iret hr dX5_undo_24 hE hf
set_option maxRecDepth 100000 in
set_option maxHeartbeats 4000000 in
theorem e_X5_undo_0 {X : VX} {B : VB} {z : Int32} {Gf : GH}  (hfx : (xl X).stackTraces = false) (hn : (xme X).name = "undo") (hr : (xme X).sig.returnType = (some .int)) (hE : VE B (z, Gf))  (this : Nat) (G : GH) (hf : (f_X5_undo this).1 G = some (z, Gf)) : V X RX5 cX5_undo 1 1 24 wsX5_undo B (QE X (vI z) Gf B) G 0 [(0, .ref this)] [] := by
  unfold f_X5_undo at hf
  refine v_aload_n 0 dX5_undo_0 rfl rfl ?_
  refine v_aload_n 0 dX5_undo_1 rfl rfl ?_
  refine v_gi 5 2 n_X5_undo_X5 rfl (by decide) rfl m_X5_undo_f45 dX5_undo_2 hf (fun x1 hf => ?_)
  refine v_if_ne 12 dX5_undo_5 (by decide) hf (fun _ hf => ?_) (fun _ hf => ?_)
  · refine v_iconst 0 dX5_undo_12 (by decide) ?_
    refine v_sub [0] rfl ?_
    exact e_X5_undo_13 hfx hn hr hE this 0 this G hf
  · refine v_iconst 1 dX5_undo_8 (by decide) ?_
    refine v_goto 13 dX5_undo_9 (by decide) ?_
    refine v_sub [0] rfl ?_
    exact e_X5_undo_13 hfx hn hr hE this 1 this G hf
theorem c_X5_undo (l : Launch) (hfl : l.stackTraces = false) (this : Nat) : CM l yX5_undo wsX5_undo 1 24 [.ref this] vI (f_X5_undo this) := CM.start hfl RX5 rfl (by decide +kernel) rfl (Nat.le_of_ble_eq_true rfl) (fun X G z Gf hl hn hr hf => e_X5_undo_0 (by rw [hl]; exact hfl) hn hr ⟨rfl, rfl⟩ this G hf)
theorem dv_X5_undo : yX5_undo.cls = RX5 ∧ yX5_undo.cls ≠ "java/lang/invoke/MethodHandle" ∧ yX5_undo.cls ≠ "java/lang/invoke/VarHandle" ∧ (parseMethodDescriptor yX5_undo.desc).map (fun d => d.parameters.length) = some 0 := by decide +kernel
theorem m_X5_digest_f41 : Cond.fieldLink RX5 41 RX5 "thrown" "I" ∈ wsX5_digest := by decide +kernel
theorem m_X5_digest_k159 : Cond.constantLong RX5 159 (116777) ∈ wsX5_digest := by decide +kernel
theorem m_X5_digest_f133 : Cond.fieldLink RX5 133 RX5 "typed" "I" ∈ wsX5_digest := by decide +kernel
theorem m_X5_digest_k161 : Cond.constantLong RX5 161 (31) ∈ wsX5_digest := by decide +kernel
theorem m_X5_digest_f7 : Cond.fieldLink RX5 7 RX5 "now" "[I" ∈ wsX5_digest := by decide +kernel
theorem m_X5_digest_f45 : Cond.fieldLink RX5 45 RX5 "pasts" "I" ∈ wsX5_digest := by decide +kernel
theorem n_X5_digest_X5 : ∀ w ∈ u_ws RX5 TX5 16, w ∈ wsX5_digest := by decide +kernel
theorem m_X5_digest_f64 : Cond.fieldLink RX5 64 RX5 "first" "I" ∈ wsX5_digest := by decide +kernel
theorem m_X5_digest_f67 : Cond.fieldLink RX5 67 RX5 "behind" "I" ∈ wsX5_digest := by decide +kernel
theorem m_X5_digest_f22 : Cond.fieldLink RX5 22 RX5 "values" "[I" ∈ wsX5_digest := by decide +kernel
set_option maxRecDepth 100000 in
set_option maxHeartbeats 4000000 in
theorem e_X5_digest_122 {X : VX} {B : VB} {z : Int64} {Gf : GH} {k70 : Nat → Int64 → Int32 → MM Int64} {k83 : Nat → Int64 → Int32 → Int32 → MM Int64} (hfx : (xl X).stackTraces = false) (hn : (xme X).name = "digest") (hr : (xme X).sig.returnType = (some .long)) (hE : VE B (z, Gf)) (hk70 : ∀ (y0 : Nat) (y1 : Int64) (y2 : Int32) (G : GH), (k70 y0 y1 y2).1 G = some (z, Gf) → V X RX5 cX5_digest 5 3 70 wsX5_digest B (QE X (vL z) Gf B) G 70 [(0, .ref y0), (1, .long y1), (3, .int y2)] []) (hk83 : ∀ (y0 : Nat) (y1 : Int64) (y2 : Int32) (y3 : Int32) (G : GH), (k83 y0 y1 y2 y3).1 G = some (z, Gf) → V X RX5 cX5_digest 5 3 70 wsX5_digest B (QE X (vL z) Gf B) G 83 [(0, .ref y0), (1, .long y1), (3, .int y2), (4, .int y3)] []) : ∀ (n : Nat) (this : Nat) (l1 : Int64) (l3 : Int32) (l4 : Int32) (G : GH), (f_X5_digest_122 k70 k83 n this l1 l3 l4).1 G = some (z, Gf) → V X RX5 cX5_digest 5 3 70 wsX5_digest B (QE X (vL z) Gf B) G 122 [(0, .ref this), (1, .long l1), (3, .int l3), (4, .int l4)] [] := by
  intro n
  induction n with
  | zero =>
    intro this l1 l3 l4 G hf
    have h0 : (none : Option (Int64 × GH)) = some (z, Gf) := hf
    cases h0
  | succ n ih =>
    intro this l1 l3 l4 G hf
    rw [f_X5_digest_122.eq_2] at hf
    refine v_iload 3 dX5_digest_122 rfl ?_
    refine v_aload_n 0 dX5_digest_124 rfl rfl ?_
    refine v_gi 5 9 n_X5_digest_X5 rfl (by decide) rfl m_X5_digest_f67 dX5_digest_125 hf (fun x10 hf => ?_)
    refine v_icmp_ge 152 dX5_digest_128 (by decide) hf (fun _ hf => ?_) (fun _ hf => ?_)
    · refine v_iinc 2 (l3 + 1) [(3, .int (l3 + 1)), (0, .ref this), (1, .long l1), (4, .int l4)] dX5_digest_152 rfl (by rfl) (by decide) rfl ?_
      refine v_goto 70 dX5_digest_155 (by decide) ?_
      refine v_sub [1, 2, 0] rfl ?_
      exact hk70 this l1 (l3 + 1) G hf
    · refine v_ldc2 m_X5_digest_k161 dX5_digest_131 ?_
      refine v_lload_n 1 dX5_digest_134 rfl rfl ?_
      refine v_lmul dX5_digest_135 ?_
      refine v_aload_n 0 dX5_digest_136 rfl rfl ?_
      refine v_gr 5 7 n_X5_digest_X5 rfl (by decide) rfl m_X5_digest_f22 dX5_digest_137 hf (fun r11 hf => ?_)
      refine v_iload 3 dX5_digest_140 rfl ?_
      refine v_iald dX5_digest_142 hf (fun x12 hf => ?_)
      refine v_i2l dX5_digest_143 ?_
      refine v_ladd dX5_digest_144 ?_
      refine v_lstore_n [(1, .long (((31 : Int64) * l1) + (x12.toInt64))), (0, .ref this), (3, .int l3), (4, .int l4)] dX5_digest_145 rfl (by decide) rfl ?_
      refine v_iinc 3 (l4 + 1) [(4, .int (l4 + 1)), (1, .long (((31 : Int64) * l1) + (x12.toInt64))), (0, .ref this), (3, .int l3)] dX5_digest_146 rfl (by rfl) (by decide) rfl ?_
      refine v_goto 122 dX5_digest_149 (by decide) ?_
      refine v_sub [2, 1, 3, 0] rfl ?_
      exact ih this (((31 : Int64) * l1) + (x12.toInt64)) l3 (l4 + 1) G hf
set_option maxRecDepth 100000 in
set_option maxHeartbeats 4000000 in
theorem e_X5_digest_83 {X : VX} {B : VB} {z : Int64} {Gf : GH} {k70 : Nat → Int64 → Int32 → MM Int64} (hfx : (xl X).stackTraces = false) (hn : (xme X).name = "digest") (hr : (xme X).sig.returnType = (some .long)) (hE : VE B (z, Gf)) (hk70 : ∀ (y0 : Nat) (y1 : Int64) (y2 : Int32) (G : GH), (k70 y0 y1 y2).1 G = some (z, Gf) → V X RX5 cX5_digest 5 3 70 wsX5_digest B (QE X (vL z) Gf B) G 70 [(0, .ref y0), (1, .long y1), (3, .int y2)] []) : ∀ (n : Nat) (this : Nat) (l1 : Int64) (l3 : Int32) (l4 : Int32) (G : GH), (f_X5_digest_83 k70 n this l1 l3 l4).1 G = some (z, Gf) → V X RX5 cX5_digest 5 3 70 wsX5_digest B (QE X (vL z) Gf B) G 83 [(0, .ref this), (1, .long l1), (3, .int l3), (4, .int l4)] [] := by
  intro n
  induction n with
  | zero =>
    intro this l1 l3 l4 G hf
    have h0 : (none : Option (Int64 × GH)) = some (z, Gf) := hf
    cases h0
  | succ n ih =>
    intro this l1 l3 l4 G hf
    rw [f_X5_digest_83.eq_2] at hf
    refine v_iload 3 dX5_digest_83 rfl ?_
    refine v_bipush 10 dX5_digest_85 (by decide) ?_
    refine v_icmp_ge 111 dX5_digest_87 (by decide) hf (fun _ hf => ?_) (fun _ hf => ?_)
    · refine v_aload_n 0 dX5_digest_111 rfl rfl ?_
      refine v_iload_n 2 dX5_digest_112 rfl rfl ?_
      refine v_callVv 5 1 [.int l3] (c_X5_laysRow (xl X) hfx this l3) gX5_digest_X5_laysRow rfl dv_X5_laysRow (by decide) (by decide) rfl rfl dX5_digest_113 (Nat.le_of_ble_eq_true rfl) rfl hE hf (fun _ G hf => ?_)
      refine v_aload_n 0 dX5_digest_116 rfl rfl ?_
      refine v_gi 5 8 n_X5_digest_X5 rfl (by decide) rfl m_X5_digest_f64 dX5_digest_117 hf (fun x9 hf => ?_)
      refine v_istore [(4, .int x9), (0, .ref this), (1, .long l1), (3, .int l3)] dX5_digest_120 (by decide) rfl ?_
      refine v_sub [1, 2, 3, 0] rfl ?_
      exact e_X5_digest_122 hfx hn hr hE hk70 (fun y0 y1 y2 y3 G hf => ih y0 y1 y2 y3 G hf) FU this l1 l3 x9 G hf
    · refine v_ldc2 m_X5_digest_k161 dX5_digest_90 ?_
      refine v_lload_n 1 dX5_digest_93 rfl rfl ?_
      refine v_lmul dX5_digest_94 ?_
      refine v_aload_n 0 dX5_digest_95 rfl rfl ?_
      refine v_iload_n 2 dX5_digest_96 rfl rfl ?_
      refine v_iload 3 dX5_digest_97 rfl ?_
      refine v_callVi 5 2 [.int l3, .int l4] (c_X5_told (xl X) hfx this l3 l4) gX5_digest_X5_told rfl dv_X5_told (by decide) (by decide) rfl rfl dX5_digest_99 (Nat.le_of_ble_eq_true rfl) rfl hE hf (fun x13 G hf => ?_)
      refine v_i2l dX5_digest_102 ?_
      refine v_ladd dX5_digest_103 ?_
      refine v_lstore_n [(1, .long (((31 : Int64) * l1) + (x13.toInt64))), (0, .ref this), (3, .int l3), (4, .int l4)] dX5_digest_104 rfl (by decide) rfl ?_
      refine v_iinc 3 (l4 + 1) [(4, .int (l4 + 1)), (1, .long (((31 : Int64) * l1) + (x13.toInt64))), (0, .ref this), (3, .int l3)] dX5_digest_105 rfl (by rfl) (by decide) rfl ?_
      refine v_goto 83 dX5_digest_108 (by decide) ?_
      refine v_sub [2, 1, 3, 0] rfl ?_
      exact ih this (((31 : Int64) * l1) + (x13.toInt64)) l3 (l4 + 1) G hf
set_option maxRecDepth 100000 in
set_option maxHeartbeats 4000000 in
theorem e_X5_digest_70 {X : VX} {B : VB} {z : Int64} {Gf : GH}  (hfx : (xl X).stackTraces = false) (hn : (xme X).name = "digest") (hr : (xme X).sig.returnType = (some .long)) (hE : VE B (z, Gf))  : ∀ (n : Nat) (this : Nat) (l1 : Int64) (l3 : Int32) (G : GH), (f_X5_digest_70 n this l1 l3).1 G = some (z, Gf) → V X RX5 cX5_digest 5 3 70 wsX5_digest B (QE X (vL z) Gf B) G 70 [(0, .ref this), (1, .long l1), (3, .int l3)] [] := by
  intro n
  induction n with
  | zero =>
    intro this l1 l3 G hf
    have h0 : (none : Option (Int64 × GH)) = some (z, Gf) := hf
    cases h0
  | succ n ih =>
    intro this l1 l3 G hf
    rw [f_X5_digest_70.eq_2] at hf
    refine v_iload_n 2 dX5_digest_70 rfl rfl ?_
    refine v_aload_n 0 dX5_digest_71 rfl rfl ?_
    refine v_gr 5 0 n_X5_digest_X5 rfl (by decide) rfl m_X5_digest_f7 dX5_digest_72 hf (fun r6 hf => ?_)
    refine v_iconst 2 dX5_digest_75 (by decide) ?_
    refine v_iald dX5_digest_76 hf (fun x7 hf => ?_)
    refine v_icmp_ge 158 dX5_digest_77 (by decide) hf (fun _ hf => ?_) (fun _ hf => ?_)
    · refine v_ldc2 m_X5_digest_k161 dX5_digest_158 ?_
      refine v_lload_n 1 dX5_digest_161 rfl rfl ?_
      refine v_lmul dX5_digest_162 ?_
      refine v_aload_n 0 dX5_digest_163 rfl rfl ?_
      refine v_gi 5 2 n_X5_digest_X5 rfl (by decide) rfl m_X5_digest_f45 dX5_digest_164 hf (fun x8 hf => ?_)
      refine v_i2l dX5_digest_167 ?_
      refine v_ladd dX5_digest_168 ?_
      exact v_lret hr dX5_digest_169 hE hf
    · refine v_iconst 0 dX5_digest_80 (by decide) ?_
      refine v_istore [(4, .int 0), (0, .ref this), (1, .long l1), (3, .int l3)] dX5_digest_81 (by decide) rfl ?_
      refine v_sub [1, 2, 3, 0] rfl ?_
      exact e_X5_digest_83 hfx hn hr hE (fun y0 y1 y2 G hf => ih y0 y1 y2 G hf) FU this l1 l3 0 G hf
set_option maxRecDepth 100000 in
set_option maxHeartbeats 4000000 in
theorem e_X5_digest_17 {X : VX} {B : VB} {z : Int64} {Gf : GH}  (hfx : (xl X).stackTraces = false) (hn : (xme X).name = "digest") (hr : (xme X).sig.returnType = (some .long)) (hE : VE B (z, Gf))  : ∀ (n : Nat) (this : Nat) (l1 : Int64) (l3 : Int32) (G : GH), (f_X5_digest_17 n this l1 l3).1 G = some (z, Gf) → V X RX5 cX5_digest 5 3 70 wsX5_digest B (QE X (vL z) Gf B) G 17 [(0, .ref this), (1, .long l1), (3, .int l3)] [] := by
  intro n
  induction n with
  | zero =>
    intro this l1 l3 G hf
    have h0 : (none : Option (Int64 × GH)) = some (z, Gf) := hf
    cases h0
  | succ n ih =>
    intro this l1 l3 G hf
    rw [f_X5_digest_17.eq_2] at hf
    refine v_iload_n 2 dX5_digest_17 rfl rfl ?_
    refine v_bipush 8 dX5_digest_18 (by decide) ?_
    refine v_icmp_ge 42 dX5_digest_20 (by decide) hf (fun _ hf => ?_) (fun _ hf => ?_)
    · refine v_ldc2 m_X5_digest_k161 dX5_digest_42 ?_
      refine v_ldc2 m_X5_digest_k161 dX5_digest_45 ?_
      refine v_lload_n 1 dX5_digest_48 rfl rfl ?_
      refine v_lmul dX5_digest_49 ?_
      refine v_aload_n 0 dX5_digest_50 rfl rfl ?_
      refine v_gr 5 0 n_X5_digest_X5 rfl (by decide) rfl m_X5_digest_f7 dX5_digest_51 hf (fun r2 hf => ?_)
      refine v_iconst 0 dX5_digest_54 (by decide) ?_
      refine v_iald dX5_digest_55 hf (fun x3 hf => ?_)
      refine v_i2l dX5_digest_56 ?_
      refine v_ladd dX5_digest_57 ?_
      refine v_lmul dX5_digest_58 ?_
      refine v_aload_n 0 dX5_digest_59 rfl rfl ?_
      refine v_gr 5 0 n_X5_digest_X5 rfl (by decide) rfl m_X5_digest_f7 dX5_digest_60 hf (fun r4 hf => ?_)
      refine v_iconst 1 dX5_digest_63 (by decide) ?_
      refine v_iald dX5_digest_64 hf (fun x5 hf => ?_)
      refine v_i2l dX5_digest_65 ?_
      refine v_ladd dX5_digest_66 ?_
      refine v_lstore_n [(1, .long (((31 : Int64) * (((31 : Int64) * l1) + (x3.toInt64))) + (x5.toInt64))), (0, .ref this), (3, .int l3)] dX5_digest_67 rfl (by decide) rfl ?_
      refine v_iconst 0 dX5_digest_68 (by decide) ?_
      refine v_istore_n [(3, .int 0), (1, .long (((31 : Int64) * (((31 : Int64) * l1) + (x3.toInt64))) + (x5.toInt64))), (0, .ref this)] dX5_digest_69 rfl (by decide) rfl ?_
      refine v_sub [2, 1, 0] rfl ?_
      exact e_X5_digest_70 hfx hn hr hE FU this (((31 : Int64) * (((31 : Int64) * l1) + (x3.toInt64))) + (x5.toInt64)) 0 G hf
    · refine v_ldc2 m_X5_digest_k161 dX5_digest_23 ?_
      refine v_lload_n 1 dX5_digest_26 rfl rfl ?_
      refine v_lmul dX5_digest_27 ?_
      refine v_aload_n 0 dX5_digest_28 rfl rfl ?_
      refine v_iload_n 2 dX5_digest_29 rfl rfl ?_
      refine v_callVi 5 1 [.int l3] (c_X5_counted (xl X) hfx this l3) gX5_digest_X5_counted rfl dv_X5_counted (by decide) (by decide) rfl rfl dX5_digest_30 (Nat.le_of_ble_eq_true rfl) rfl hE hf (fun x14 G hf => ?_)
      refine v_i2l dX5_digest_33 ?_
      refine v_ladd dX5_digest_34 ?_
      refine v_lstore_n [(1, .long (((31 : Int64) * l1) + (x14.toInt64))), (0, .ref this), (3, .int l3)] dX5_digest_35 rfl (by decide) rfl ?_
      refine v_iinc 2 (l3 + 1) [(3, .int (l3 + 1)), (1, .long (((31 : Int64) * l1) + (x14.toInt64))), (0, .ref this)] dX5_digest_36 rfl (by rfl) (by decide) rfl ?_
      refine v_goto 17 dX5_digest_39 (by decide) ?_
      refine v_sub [2, 1, 0] rfl ?_
      exact ih this (((31 : Int64) * l1) + (x14.toInt64)) (l3 + 1) G hf
set_option maxRecDepth 100000 in
set_option maxHeartbeats 4000000 in
theorem e_X5_digest_0 {X : VX} {B : VB} {z : Int64} {Gf : GH}  (hfx : (xl X).stackTraces = false) (hn : (xme X).name = "digest") (hr : (xme X).sig.returnType = (some .long)) (hE : VE B (z, Gf))  (this : Nat) (G : GH) (hf : (f_X5_digest this).1 G = some (z, Gf)) : V X RX5 cX5_digest 5 3 70 wsX5_digest B (QE X (vL z) Gf B) G 0 [(0, .ref this)] [] := by
  unfold f_X5_digest at hf
  refine v_aload_n 0 dX5_digest_0 rfl rfl ?_
  refine v_iconst 0 dX5_digest_1 (by decide) ?_
  refine v_put 5 6 .int n_X5_digest_X5 tyX5 tyX5_ok nmX5 rfl (by decide) rfl m_X5_digest_f41 rfl (by decide +kernel) rfl rfl dX5_digest_2 hf (fun G _ hf => ?_)
  refine v_ldc2 m_X5_digest_k159 dX5_digest_5 ?_
  refine v_aload_n 0 dX5_digest_8 rfl rfl ?_
  refine v_gi 5 5 n_X5_digest_X5 rfl (by decide) rfl m_X5_digest_f133 dX5_digest_9 hf (fun x1 hf => ?_)
  refine v_i2l dX5_digest_12 ?_
  refine v_ladd dX5_digest_13 ?_
  refine v_lstore_n [(1, .long ((116777 : Int64) + (x1.toInt64))), (0, .ref this)] dX5_digest_14 rfl (by decide) rfl ?_
  refine v_iconst 0 dX5_digest_15 (by decide) ?_
  refine v_istore_n [(3, .int 0), (1, .long ((116777 : Int64) + (x1.toInt64))), (0, .ref this)] dX5_digest_16 rfl (by decide) rfl ?_
  refine v_sub [2, 1, 0] rfl ?_
  exact e_X5_digest_17 hfx hn hr hE FU this ((116777 : Int64) + (x1.toInt64)) 0 G hf
theorem c_X5_digest (l : Launch) (hfl : l.stackTraces = false) (this : Nat) : CM l yX5_digest wsX5_digest 3 70 [.ref this] vL (f_X5_digest this) := CM.start hfl RX5 rfl (by decide +kernel) rfl (Nat.le_of_ble_eq_true rfl) (fun X G z Gf hl hn hr hf => e_X5_digest_0 (by rw [hl]; exact hfl) hn hr ⟨rfl, rfl⟩ this G hf)
theorem dv_X5_digest : yX5_digest.cls = RX5 ∧ yX5_digest.cls ≠ "java/lang/invoke/MethodHandle" ∧ yX5_digest.cls ≠ "java/lang/invoke/VarHandle" ∧ (parseMethodDescriptor yX5_digest.desc).map (fun d => d.parameters.length) = some 0 := by decide +kernel
