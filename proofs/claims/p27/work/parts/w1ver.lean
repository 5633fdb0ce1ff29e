/-! walks of the version (class X3), and what it calls -/
theorem m_X3_init_o3 : Cond.methodLink RX3 3 objectInit ∈ wsX3_init := by decide +kernel
theorem m_X3_init_oi : Cond.instanceMethod objectInit ∈ wsX3_init := by decide +kernel
theorem m_X3_init_oc : Cond.code objectInit ⟨#[0xb1]⟩ 1 none ∈ wsX3_init := by decide +kernel
theorem m_X3_init_f9 : Cond.fieldLink RX3 9 RX3 "parent" "I" ∈ wsX3_init := by decide +kernel
theorem m_X3_init_f15 : Cond.fieldLink RX3 15 RX3 "kind" "I" ∈ wsX3_init := by decide +kernel
theorem m_X3_init_f18 : Cond.fieldLink RX3 18 RX3 "moved" "I" ∈ wsX3_init := by decide +kernel
theorem m_X3_init_f21 : Cond.fieldLink RX3 21 RX3 "depth" "I" ∈ wsX3_init := by decide +kernel
theorem m_X3_init_f24 : Cond.fieldLink RX3 24 RX3 "front" "I" ∈ wsX3_init := by decide +kernel
theorem m_X3_init_f27 : Cond.fieldLink RX3 27 RX3 "back" "I" ∈ wsX3_init := by decide +kernel
theorem m_X3_init_f30 : Cond.fieldLink RX3 30 RX3 "debt" "I" ∈ wsX3_init := by decide +kernel
theorem m_X3_init_f33 : Cond.fieldLink RX3 33 RX3 "goal" "I" ∈ wsX3_init := by decide +kernel
theorem m_X3_init_f36 : Cond.fieldLink RX3 36 RX3 "cost" "I" ∈ wsX3_init := by decide +kernel
theorem m_X3_init_f39 : Cond.fieldLink RX3 39 RX3 "extra" "I" ∈ wsX3_init := by decide +kernel
theorem m_X3_init_ai : Cond.arrayClass .int ∈ wsX3_init := by decide +kernel
theorem m_X3_init_f42 : Cond.fieldLink RX3 42 RX3 "row" "[I" ∈ wsX3_init := by decide +kernel
theorem n_X3_init_X3 : ∀ w ∈ u_ws RX3 TX3 11, w ∈ wsX3_init := by decide +kernel
set_option maxRecDepth 100000 in
set_option maxHeartbeats 4000000 in
theorem e_X3_init_0 {X : VX} {B : VB} {z : Unit} {Gf : GH}  (hfx : (xl X).stackTraces = false) (hn : (xme X).name = "<init>") (hr : (xme X).sig.returnType = none) (hE : VE B (z, Gf))  (this : Nat) (G : GH) (hf : (f_X3_init this).1 G = some (z, Gf)) : V X RX3 cX3_init 1 1 12 wsX3_init B (QE X (vV z) Gf B) G 0 [(0, .ref this)] [] := by
  unfold f_X3_init at hf
  refine v_aload_n 0 dX3_init_0 rfl rfl ?_
  refine v_objInit m_X3_init_o3 m_X3_init_oi m_X3_init_oc dX3_init_1 (by decide) (by decide) ?_
  refine v_aload_n 0 dX3_init_4 rfl rfl ?_
  refine v_iconst (-1) dX3_init_5 (by decide) ?_
  refine v_put 3 0 .int n_X3_init_X3 tyX3 tyX3_ok nmX3 rfl (by decide) rfl m_X3_init_f9 rfl (by decide +kernel) rfl rfl dX3_init_6 hf (fun G _ hf => ?_)
  refine v_aload_n 0 dX3_init_9 rfl rfl ?_
  refine v_iconst (-1) dX3_init_10 (by decide) ?_
  refine v_put 3 1 .int n_X3_init_X3 tyX3 tyX3_ok nmX3 rfl (by decide) rfl m_X3_init_f15 rfl (by decide +kernel) rfl rfl dX3_init_11 hf (fun G _ hf => ?_)
  refine v_aload_n 0 dX3_init_14 rfl rfl ?_
  refine v_iconst 0 dX3_init_15 (by decide) ?_
  refine v_put 3 2 .int n_X3_init_X3 tyX3 tyX3_ok nmX3 rfl (by decide) rfl m_X3_init_f18 rfl (by decide +kernel) rfl rfl dX3_init_16 hf (fun G _ hf => ?_)
  refine v_aload_n 0 dX3_init_19 rfl rfl ?_
  refine v_iconst 0 dX3_init_20 (by decide) ?_
  refine v_put 3 3 .int n_X3_init_X3 tyX3 tyX3_ok nmX3 rfl (by decide) rfl m_X3_init_f21 rfl (by decide +kernel) rfl rfl dX3_init_21 hf (fun G _ hf => ?_)
  refine v_aload_n 0 dX3_init_24 rfl rfl ?_
  refine v_iconst 0 dX3_init_25 (by decide) ?_
  refine v_put 3 4 .int n_X3_init_X3 tyX3 tyX3_ok nmX3 rfl (by decide) rfl m_X3_init_f24 rfl (by decide +kernel) rfl rfl dX3_init_26 hf (fun G _ hf => ?_)
  refine v_aload_n 0 dX3_init_29 rfl rfl ?_
  refine v_iconst 0 dX3_init_30 (by decide) ?_
  refine v_put 3 5 .int n_X3_init_X3 tyX3 tyX3_ok nmX3 rfl (by decide) rfl m_X3_init_f27 rfl (by decide +kernel) rfl rfl dX3_init_31 hf (fun G _ hf => ?_)
  refine v_aload_n 0 dX3_init_34 rfl rfl ?_
  refine v_iconst 0 dX3_init_35 (by decide) ?_
  refine v_put 3 6 .int n_X3_init_X3 tyX3 tyX3_ok nmX3 rfl (by decide) rfl m_X3_init_f30 rfl (by decide +kernel) rfl rfl dX3_init_36 hf (fun G _ hf => ?_)
  refine v_aload_n 0 dX3_init_39 rfl rfl ?_
  refine v_iconst (-1) dX3_init_40 (by decide) ?_
  refine v_put 3 7 .int n_X3_init_X3 tyX3 tyX3_ok nmX3 rfl (by decide) rfl m_X3_init_f33 rfl (by decide +kernel) rfl rfl dX3_init_41 hf (fun G _ hf => ?_)
  refine v_aload_n 0 dX3_init_44 rfl rfl ?_
  refine v_iconst 0 dX3_init_45 (by decide) ?_
  refine v_put 3 8 .int n_X3_init_X3 tyX3 tyX3_ok nmX3 rfl (by decide) rfl m_X3_init_f36 rfl (by decide +kernel) rfl rfl dX3_init_46 hf (fun G _ hf => ?_)
  refine v_aload_n 0 dX3_init_49 rfl rfl ?_
  refine v_iconst 0 dX3_init_50 (by decide) ?_
  refine v_put 3 9 .int n_X3_init_X3 tyX3 tyX3_ok nmX3 rfl (by decide) rfl m_X3_init_f39 rfl (by decide +kernel) rfl rfl dX3_init_51 hf (fun G _ hf => ?_)
  refine v_aload_n 0 dX3_init_54 rfl rfl ?_
  refine v_bipush 40 dX3_init_55 (by decide) ?_
  refine v_newi m_X3_init_ai dX3_init_57 hE hf (fun a1 G hf => ?_)
  refine v_putF 3 10 (.array .int) hn n_X3_init_X3 tyX3 tyX3_ok nmX3 rfl (by decide) rfl m_X3_init_f42 rfl rfl (by decide +kernel) rfl rfl dX3_init_59 hf (fun G _ hf => ?_)
  exact v_vret hr dX3_init_62 hE hf
theorem c_X3_init (l : Launch) (hfl : l.stackTraces = false) (this : Nat) : CM l yX3_init wsX3_init 1 12 [.ref this] vV (f_X3_init this) := CM.start hfl RX3 rfl (by decide +kernel) rfl (Nat.le_of_ble_eq_true rfl) (fun X G z Gf hl hn hr hf => e_X3_init_0 (by rw [hl]; exact hfl) hn hr ⟨rfl, rfl⟩ this G hf)
theorem dn_X3_init : yX3_init.cls ≠ "java/lang/invoke/MethodHandle" ∧ yX3_init.cls ≠ "java/lang/invoke/VarHandle" ∧ (parseMethodDescriptor yX3_init.desc).map (fun d => d.parameters.length) = some 0 := by decide +kernel
theorem m_X3_size_f24 : Cond.fieldLink RX3 24 RX3 "front" "I" ∈ wsX3_size := by decide +kernel
theorem m_X3_size_f27 : Cond.fieldLink RX3 27 RX3 "back" "I" ∈ wsX3_size := by decide +kernel
theorem n_X3_size_X3 : ∀ w ∈ u_ws RX3 TX3 11, w ∈ wsX3_size := by decide +kernel
set_option maxRecDepth 100000 in
set_option maxHeartbeats 4000000 in
theorem e_X3_size_0 {X : VX} {B : VB} {z : Int32} {Gf : GH}  (hfx : (xl X).stackTraces = false) (hn : (xme X).name = "size") (hr : (xme X).sig.returnType = (some .int)) (hE : VE B (z, Gf))  (this : Nat) (G : GH) (hf : (f_X3_size this).1 G = some (z, Gf)) : V X RX3 cX3_size 1 0 0 wsX3_size B (QE X (vI z) Gf B) G 0 [(0, .ref this)] [] := by
  unfold f_X3_size at hf
  refine v_aload_n 0 dX3_size_0 rfl rfl ?_
  refine v_gi 3 4 n_X3_size_X3 rfl (by decide) rfl m_X3_size_f24 dX3_size_1 hf (fun x1 hf => ?_)
  refine v_aload_n 0 dX3_size_4 rfl rfl ?_
  refine v_gi 3 5 n_X3_size_X3 rfl (by decide) rfl m_X3_size_f27 dX3_size_5 hf (fun x2 hf => ?_)
  refine v_iadd dX3_size_8 ?_
  exact v_iret hr dX3_size_9 hE hf
theorem c_X3_size (l : Launch) (hfl : l.stackTraces = false) (this : Nat) : CM l yX3_size wsX3_size 0 0 [.ref this] vI (f_X3_size this) := CM.start hfl RX3 rfl (by decide +kernel) rfl (Nat.le_of_ble_eq_true rfl) (fun X G z Gf hl hn hr hf => e_X3_size_0 (by rw [hl]; exact hfl) hn hr ⟨rfl, rfl⟩ this G hf)
theorem dv_X3_size : yX3_size.cls = RX3 ∧ yX3_size.cls ≠ "java/lang/invoke/MethodHandle" ∧ yX3_size.cls ≠ "java/lang/invoke/VarHandle" ∧ (parseMethodDescriptor yX3_size.desc).map (fun d => d.parameters.length) = some 0 := by decide +kernel
theorem m_X3_copyFrom_f9 : Cond.fieldLink RX3 9 RX3 "parent" "I" ∈ wsX3_copyFrom := by decide +kernel
theorem m_X3_copyFrom_f15 : Cond.fieldLink RX3 15 RX3 "kind" "I" ∈ wsX3_copyFrom := by decide +kernel
theorem m_X3_copyFrom_f18 : Cond.fieldLink RX3 18 RX3 "moved" "I" ∈ wsX3_copyFrom := by decide +kernel
theorem m_X3_copyFrom_f21 : Cond.fieldLink RX3 21 RX3 "depth" "I" ∈ wsX3_copyFrom := by decide +kernel
theorem m_X3_copyFrom_f24 : Cond.fieldLink RX3 24 RX3 "front" "I" ∈ wsX3_copyFrom := by decide +kernel
theorem m_X3_copyFrom_f27 : Cond.fieldLink RX3 27 RX3 "back" "I" ∈ wsX3_copyFrom := by decide +kernel
theorem m_X3_copyFrom_f30 : Cond.fieldLink RX3 30 RX3 "debt" "I" ∈ wsX3_copyFrom := by decide +kernel
theorem m_X3_copyFrom_f33 : Cond.fieldLink RX3 33 RX3 "goal" "I" ∈ wsX3_copyFrom := by decide +kernel
theorem m_X3_copyFrom_f36 : Cond.fieldLink RX3 36 RX3 "cost" "I" ∈ wsX3_copyFrom := by decide +kernel
theorem m_X3_copyFrom_f39 : Cond.fieldLink RX3 39 RX3 "extra" "I" ∈ wsX3_copyFrom := by decide +kernel
theorem m_X3_copyFrom_f42 : Cond.fieldLink RX3 42 RX3 "row" "[I" ∈ wsX3_copyFrom := by decide +kernel
theorem m_X3_copyFrom_ac1 : Cond.methodLink RX3 50 arraycopyName ∈ wsX3_copyFrom := by decide +kernel
theorem m_X3_copyFrom_ac2 : Cond.native arraycopyName ∈ wsX3_copyFrom := by decide +kernel
theorem m_X3_copyFrom_ac3 : Cond.static arraycopyName ∈ wsX3_copyFrom := by decide +kernel
theorem m_X3_copyFrom_ac4 : Cond.initialized "java/lang/System" ∈ wsX3_copyFrom := by decide +kernel
theorem n_X3_copyFrom_X3 : ∀ w ∈ u_ws RX3 TX3 11, w ∈ wsX3_copyFrom := by decide +kernel
set_option maxRecDepth 100000 in
set_option maxHeartbeats 4000000 in
theorem e_X3_copyFrom_0 {X : VX} {B : VB} {z : Unit} {Gf : GH}  (hfx : (xl X).stackTraces = false) (hn : (xme X).name = "copyFrom") (hr : (xme X).sig.returnType = none) (hE : VE B (z, Gf))  (this : Nat) (p1 : Nat) (G : GH) (hf : (f_X3_copyFrom this p1).1 G = some (z, Gf)) : V X RX3 cX3_copyFrom 3 1 30 wsX3_copyFrom B (QE X (vV z) Gf B) G 0 [(0, .ref this), (1, .ref p1)] [] := by
  unfold f_X3_copyFrom at hf
  refine v_aload_n 0 dX3_copyFrom_0 rfl rfl ?_
  refine v_aload_n 1 dX3_copyFrom_1 rfl rfl ?_
  refine v_gi 3 0 n_X3_copyFrom_X3 rfl (by decide) rfl m_X3_copyFrom_f9 dX3_copyFrom_2 hf (fun x1 hf => ?_)
  refine v_put 3 0 .int n_X3_copyFrom_X3 tyX3 tyX3_ok nmX3 rfl (by decide) rfl m_X3_copyFrom_f9 rfl (by decide +kernel) rfl rfl dX3_copyFrom_5 hf (fun G _ hf => ?_)
  refine v_aload_n 0 dX3_copyFrom_8 rfl rfl ?_
  refine v_aload_n 1 dX3_copyFrom_9 rfl rfl ?_
  refine v_gi 3 1 n_X3_copyFrom_X3 rfl (by decide) rfl m_X3_copyFrom_f15 dX3_copyFrom_10 hf (fun x2 hf => ?_)
  refine v_put 3 1 .int n_X3_copyFrom_X3 tyX3 tyX3_ok nmX3 rfl (by decide) rfl m_X3_copyFrom_f15 rfl (by decide +kernel) rfl rfl dX3_copyFrom_13 hf (fun G _ hf => ?_)
  refine v_aload_n 0 dX3_copyFrom_16 rfl rfl ?_
  refine v_aload_n 1 dX3_copyFrom_17 rfl rfl ?_
  refine v_gi 3 2 n_X3_copyFrom_X3 rfl (by decide) rfl m_X3_copyFrom_f18 dX3_copyFrom_18 hf (fun x3 hf => ?_)
  refine v_put 3 2 .int n_X3_copyFrom_X3 tyX3 tyX3_ok nmX3 rfl (by decide) rfl m_X3_copyFrom_f18 rfl (by decide +kernel) rfl rfl dX3_copyFrom_21 hf (fun G _ hf => ?_)
  refine v_aload_n 0 dX3_copyFrom_24 rfl rfl ?_
  refine v_aload_n 1 dX3_copyFrom_25 rfl rfl ?_
  refine v_gi 3 3 n_X3_copyFrom_X3 rfl (by decide) rfl m_X3_copyFrom_f21 dX3_copyFrom_26 hf (fun x4 hf => ?_)
  refine v_put 3 3 .int n_X3_copyFrom_X3 tyX3 tyX3_ok nmX3 rfl (by decide) rfl m_X3_copyFrom_f21 rfl (by decide +kernel) rfl rfl dX3_copyFrom_29 hf (fun G _ hf => ?_)
  refine v_aload_n 0 dX3_copyFrom_32 rfl rfl ?_
  refine v_aload_n 1 dX3_copyFrom_33 rfl rfl ?_
  refine v_gi 3 4 n_X3_copyFrom_X3 rfl (by decide) rfl m_X3_copyFrom_f24 dX3_copyFrom_34 hf (fun x5 hf => ?_)
  refine v_put 3 4 .int n_X3_copyFrom_X3 tyX3 tyX3_ok nmX3 rfl (by decide) rfl m_X3_copyFrom_f24 rfl (by decide +kernel) rfl rfl dX3_copyFrom_37 hf (fun G _ hf => ?_)
  refine v_aload_n 0 dX3_copyFrom_40 rfl rfl ?_
  refine v_aload_n 1 dX3_copyFrom_41 rfl rfl ?_
  refine v_gi 3 5 n_X3_copyFrom_X3 rfl (by decide) rfl m_X3_copyFrom_f27 dX3_copyFrom_42 hf (fun x6 hf => ?_)
  refine v_put 3 5 .int n_X3_copyFrom_X3 tyX3 tyX3_ok nmX3 rfl (by decide) rfl m_X3_copyFrom_f27 rfl (by decide +kernel) rfl rfl dX3_copyFrom_45 hf (fun G _ hf => ?_)
  refine v_aload_n 0 dX3_copyFrom_48 rfl rfl ?_
  refine v_aload_n 1 dX3_copyFrom_49 rfl rfl ?_
  refine v_gi 3 6 n_X3_copyFrom_X3 rfl (by decide) rfl m_X3_copyFrom_f30 dX3_copyFrom_50 hf (fun x7 hf => ?_)
  refine v_put 3 6 .int n_X3_copyFrom_X3 tyX3 tyX3_ok nmX3 rfl (by decide) rfl m_X3_copyFrom_f30 rfl (by decide +kernel) rfl rfl dX3_copyFrom_53 hf (fun G _ hf => ?_)
  refine v_aload_n 0 dX3_copyFrom_56 rfl rfl ?_
  refine v_aload_n 1 dX3_copyFrom_57 rfl rfl ?_
  refine v_gi 3 7 n_X3_copyFrom_X3 rfl (by decide) rfl m_X3_copyFrom_f33 dX3_copyFrom_58 hf (fun x8 hf => ?_)
  refine v_put 3 7 .int n_X3_copyFrom_X3 tyX3 tyX3_ok nmX3 rfl (by decide) rfl m_X3_copyFrom_f33 rfl (by decide +kernel) rfl rfl dX3_copyFrom_61 hf (fun G _ hf => ?_)
  refine v_aload_n 0 dX3_copyFrom_64 rfl rfl ?_
  refine v_aload_n 1 dX3_copyFrom_65 rfl rfl ?_
  refine v_gi 3 8 n_X3_copyFrom_X3 rfl (by decide) rfl m_X3_copyFrom_f36 dX3_copyFrom_66 hf (fun x9 hf => ?_)
  refine v_put 3 8 .int n_X3_copyFrom_X3 tyX3 tyX3_ok nmX3 rfl (by decide) rfl m_X3_copyFrom_f36 rfl (by decide +kernel) rfl rfl dX3_copyFrom_69 hf (fun G _ hf => ?_)
  refine v_aload_n 0 dX3_copyFrom_72 rfl rfl ?_
  refine v_aload_n 1 dX3_copyFrom_73 rfl rfl ?_
  refine v_gi 3 9 n_X3_copyFrom_X3 rfl (by decide) rfl m_X3_copyFrom_f39 dX3_copyFrom_74 hf (fun x10 hf => ?_)
  refine v_put 3 9 .int n_X3_copyFrom_X3 tyX3 tyX3_ok nmX3 rfl (by decide) rfl m_X3_copyFrom_f39 rfl (by decide +kernel) rfl rfl dX3_copyFrom_77 hf (fun G _ hf => ?_)
  refine v_aload_n 1 dX3_copyFrom_80 rfl rfl ?_
  refine v_callVi 3 0 [] (c_X3_size (xl X) hfx p1) gX3_copyFrom_X3_size rfl dv_X3_size (by decide) (by decide) rfl rfl dX3_copyFrom_81 (Nat.le_of_ble_eq_true rfl) rfl hE hf (fun x11 G hf => ?_)
  refine v_istore_n [(2, .int x11), (0, .ref this), (1, .ref p1)] dX3_copyFrom_84 rfl (by decide) rfl ?_
  refine v_iload_n 0 dX3_copyFrom_85 rfl rfl ?_
  refine v_if_lt 121 dX3_copyFrom_86 (by decide) hf (fun _ hf => ?_) (fun _ hf => ?_)
  · exact v_vret hr dX3_copyFrom_121 hE hf
  · refine v_iload_n 0 dX3_copyFrom_89 rfl rfl ?_
    refine v_aload_n 1 dX3_copyFrom_90 rfl rfl ?_
    refine v_gr 3 10 n_X3_copyFrom_X3 rfl (by decide) rfl m_X3_copyFrom_f42 dX3_copyFrom_91 hf (fun r12 hf => ?_)
    refine v_len (t := 0) (fun _ => rfl) dX3_copyFrom_94 hf (fun x13 hf => ?_)
    refine v_icmp_gt 121 dX3_copyFrom_95 (by decide) hf (fun _ hf => ?_) (fun _ hf => ?_)
    · exact v_vret hr dX3_copyFrom_121 hE hf
    · refine v_iload_n 0 dX3_copyFrom_98 rfl rfl ?_
      refine v_aload_n 2 dX3_copyFrom_99 rfl rfl ?_
      refine v_gr 3 10 n_X3_copyFrom_X3 rfl (by decide) rfl m_X3_copyFrom_f42 dX3_copyFrom_100 hf (fun r14 hf => ?_)
      refine v_len (t := 0) (fun _ => rfl) dX3_copyFrom_103 hf (fun x15 hf => ?_)
      refine v_icmp_gt 121 dX3_copyFrom_104 (by decide) hf (fun _ hf => ?_) (fun _ hf => ?_)
      · exact v_vret hr dX3_copyFrom_121 hE hf
      · refine v_aload_n 2 dX3_copyFrom_107 rfl rfl ?_
        refine v_gr 3 10 n_X3_copyFrom_X3 rfl (by decide) rfl m_X3_copyFrom_f42 dX3_copyFrom_108 hf (fun r16 hf => ?_)
        refine v_iconst 0 dX3_copyFrom_111 (by decide) ?_
        refine v_aload_n 1 dX3_copyFrom_112 rfl rfl ?_
        refine v_gr 3 10 n_X3_copyFrom_X3 rfl (by decide) rfl m_X3_copyFrom_f42 dX3_copyFrom_113 hf (fun r17 hf => ?_)
        refine v_iconst 0 dX3_copyFrom_116 (by decide) ?_
        refine v_iload_n 0 dX3_copyFrom_117 rfl rfl ?_
        refine v_copy m_X3_copyFrom_ac1 m_X3_copyFrom_ac2 m_X3_copyFrom_ac3 m_X3_copyFrom_ac4 dX3_copyFrom_118 (by decide) (Nat.le_of_ble_eq_true rfl) hf (fun G _ hf => ?_)
        exact v_vret hr dX3_copyFrom_121 hE hf
theorem c_X3_copyFrom (l : Launch) (hfl : l.stackTraces = false) (this : Nat) (p1 : Nat) : CM l yX3_copyFrom wsX3_copyFrom 1 30 [.ref this, .ref p1] vV (f_X3_copyFrom this p1) := CM.start hfl RX3 rfl (by decide +kernel) rfl (Nat.le_of_ble_eq_true rfl) (fun X G z Gf hl hn hr hf => e_X3_copyFrom_0 (by rw [hl]; exact hfl) hn hr ⟨rfl, rfl⟩ this p1 G hf)
theorem dv_X3_copyFrom : yX3_copyFrom.cls = RX3 ∧ yX3_copyFrom.cls ≠ "java/lang/invoke/MethodHandle" ∧ yX3_copyFrom.cls ≠ "java/lang/invoke/VarHandle" ∧ (parseMethodDescriptor yX3_copyFrom.desc).map (fun d => d.parameters.length) = some 1 := by decide +kernel
set_option maxRecDepth 100000 in
set_option maxHeartbeats 4000000 in
theorem e_X4_cell_0 {X : VX} {B : VB} {z : Int32} {Gf : GH}  (hfx : (xl X).stackTraces = false) (hn : (xme X).name = "cell") (hr : (xme X).sig.returnType = (some .int)) (hE : VE B (z, Gf))  (p1 : Nat) (p2 : Int32) (G : GH) (hf : (f_X4_cell p1 p2).1 G = some (z, Gf)) : V X RX4 cX4_cell 2 0 0 wsX4_cell B (QE X (vI z) Gf B) G 0 [(0, .ref p1), (1, .int p2)] [] := by
  unfold f_X4_cell at hf
  refine v_iload_n 1 dX4_cell_0 rfl rfl ?_
  refine v_if_lt 16 dX4_cell_1 (by decide) hf (fun _ hf => ?_) (fun _ hf => ?_)
  · refine v_iconst 0 dX4_cell_16 (by decide) ?_
    exact v_iret hr dX4_cell_17 hE hf
  · refine v_iload_n 1 dX4_cell_4 rfl rfl ?_
    refine v_aload_n 0 dX4_cell_5 rfl rfl ?_
    refine v_len (t := 0) (fun _ => rfl) dX4_cell_6 hf (fun x1 hf => ?_)
    refine v_icmp_ge 16 dX4_cell_7 (by decide) hf (fun _ hf => ?_) (fun _ hf => ?_)
    · refine v_iconst 0 dX4_cell_16 (by decide) ?_
      exact v_iret hr dX4_cell_17 hE hf
    · refine v_aload_n 0 dX4_cell_10 rfl rfl ?_
      refine v_iload_n 1 dX4_cell_11 rfl rfl ?_
      refine v_iald dX4_cell_12 hf (fun x2 hf => ?_)
      refine v_goto 17 dX4_cell_13 (by decide) ?_
      exact v_iret hr dX4_cell_17 hE hf
theorem c_X4_cell (l : Launch) (hfl : l.stackTraces = false) (p1 : Nat) (p2 : Int32) : CM l yX4_cell wsX4_cell 0 0 [.ref p1, .int p2] vI (f_X4_cell p1 p2) := CM.start hfl RX4 rfl (by decide +kernel) rfl (Nat.le_of_ble_eq_true rfl) (fun X G z Gf hl hn hr hf => e_X4_cell_0 (by rw [hl]; exact hfl) hn hr ⟨rfl, rfl⟩ p1 p2 G hf)
theorem dn_X4_cell : yX4_cell.cls ≠ "java/lang/invoke/MethodHandle" ∧ yX4_cell.cls ≠ "java/lang/invoke/VarHandle" ∧ (parseMethodDescriptor yX4_cell.desc).map (fun d => d.parameters.length) = some 2 := by decide +kernel
theorem m_X3_look_f42 : Cond.fieldLink RX3 42 RX3 "row" "[I" ∈ wsX3_look := by decide +kernel
theorem m_X3_look_itX4 : Cond.initialized RX4 ∈ wsX3_look := by decide +kernel
theorem m_X3_look_sy56 : Cond.static yX4_cell ∈ wsX3_look := by decide +kernel
theorem n_X3_look_X3 : ∀ w ∈ u_ws RX3 TX3 11, w ∈ wsX3_look := by decide +kernel
set_option maxRecDepth 100000 in
set_option maxHeartbeats 4000000 in
theorem e_X3_look_0 {X : VX} {B : VB} {z : Int32} {Gf : GH}  (hfx : (xl X).stackTraces = false) (hn : (xme X).name = "look") (hr : (xme X).sig.returnType = (some .int)) (hE : VE B (z, Gf))  (this : Nat) (p1 : Int32) (G : GH) (hf : (f_X3_look this p1).1 G = some (z, Gf)) : V X RX3 cX3_look 2 1 21 wsX3_look B (QE X (vI z) Gf B) G 0 [(0, .ref this), (1, .int p1)] [] := by
  unfold f_X3_look at hf
  refine v_aload_n 0 dX3_look_0 rfl rfl ?_
  refine v_gr 3 10 n_X3_look_X3 rfl (by decide) rfl m_X3_look_f42 dX3_look_1 hf (fun r1 hf => ?_)
  refine v_iload_n 1 dX3_look_4 rfl rfl ?_
  refine v_callNi (host := RX4) 2 [.ref r1, .int p1] (c_X4_cell (xl X) hfx r1 p1) gX3_look_X4_cell_n56 (by decide +kernel) m_X3_look_itX4 m_X3_look_sy56 rfl dn_X4_cell (by decide) (by decide) rfl dX3_look_5 (Nat.le_of_ble_eq_true rfl) rfl hE hf (fun x2 G hf => ?_)
  exact v_iret hr dX3_look_8 hE hf
theorem c_X3_look (l : Launch) (hfl : l.stackTraces = false) (this : Nat) (p1 : Int32) : CM l yX3_look wsX3_look 1 21 [.ref this, .int p1] vI (f_X3_look this p1) := CM.start hfl RX3 rfl (by decide +kernel) rfl (Nat.le_of_ble_eq_true rfl) (fun X G z Gf hl hn hr hf => e_X3_look_0 (by rw [hl]; exact hfl) hn hr ⟨rfl, rfl⟩ this p1 G hf)
theorem dv_X3_look : yX3_look.cls = RX3 ∧ yX3_look.cls ≠ "java/lang/invoke/MethodHandle" ∧ yX3_look.cls ≠ "java/lang/invoke/VarHandle" ∧ (parseMethodDescriptor yX3_look.desc).map (fun d => d.parameters.length) = some 1 := by decide +kernel
theorem m_X3_isRebuilding_f30 : Cond.fieldLink RX3 30 RX3 "debt" "I" ∈ wsX3_isRebuilding := by decide +kernel
theorem n_X3_isRebuilding_X3 : ∀ w ∈ u_ws RX3 TX3 11, w ∈ wsX3_isRebuilding := by decide +kernel
set_option maxRecDepth 100000 in
set_option maxHeartbeats 4000000 in
theorem e_X3_isRebuilding_0 {X : VX} {B : VB} {z : Int32} {Gf : GH}  (hfx : (xl X).stackTraces = false) (hn : (xme X).name = "isRebuilding") (hr : (xme X).sig.returnType = (some .boolean)) (hE : VE B (z, Gf))  (this : Nat) (G : GH) (hf : (f_X3_isRebuilding this).1 G = some (z, Gf)) : V X RX3 cX3_isRebuilding 1 0 0 wsX3_isRebuilding B (QE X (vI z) Gf B) G 0 [(0, .ref this)] [] := by
  unfold f_X3_isRebuilding at hf
  refine v_aload_n 0 dX3_isRebuilding_0 rfl rfl ?_
  refine v_gi 3 6 n_X3_isRebuilding_X3 rfl (by decide) rfl m_X3_isRebuilding_f30 dX3_isRebuilding_1 hf (fun x1 hf => ?_)
  refine v_if_le 11 dX3_isRebuilding_4 (by decide) hf (fun _ hf => ?_) (fun _ hf => ?_)
  · refine v_iconst 0 dX3_isRebuilding_11 (by decide) ?_
    exact v_zret hr dX3_isRebuilding_12 hE hf
  · refine v_iconst 1 dX3_isRebuilding_7 (by decide) ?_
    refine v_goto 12 dX3_isRebuilding_8 (by decide) ?_
    exact v_zret hr dX3_isRebuilding_12 hE hf
theorem c_X3_isRebuilding (l : Launch) (hfl : l.stackTraces = false) (this : Nat) : CM l yX3_isRebuilding wsX3_isRebuilding 0 0 [.ref this] vI (f_X3_isRebuilding this) := CM.start hfl RX3 rfl (by decide +kernel) rfl (Nat.le_of_ble_eq_true rfl) (fun X G z Gf hl hn hr hf => e_X3_isRebuilding_0 (by rw [hl]; exact hfl) hn hr ⟨rfl, rfl⟩ this G hf)
theorem dv_X3_isRebuilding : yX3_isRebuilding.cls = RX3 ∧ yX3_isRebuilding.cls ≠ "java/lang/invoke/MethodHandle" ∧ yX3_isRebuilding.cls ≠ "java/lang/invoke/VarHandle" ∧ (parseMethodDescriptor yX3_isRebuilding.desc).map (fun d => d.parameters.length) = some 0 := by decide +kernel
theorem m_X3_fact_f9 : Cond.fieldLink RX3 9 RX3 "parent" "I" ∈ wsX3_fact := by decide +kernel
theorem n_X3_fact_X3 : ∀ w ∈ u_ws RX3 TX3 11, w ∈ wsX3_fact := by decide +kernel
theorem m_X3_fact_f24 : Cond.fieldLink RX3 24 RX3 "front" "I" ∈ wsX3_fact := by decide +kernel
theorem m_X3_fact_f27 : Cond.fieldLink RX3 27 RX3 "back" "I" ∈ wsX3_fact := by decide +kernel
theorem m_X3_fact_f30 : Cond.fieldLink RX3 30 RX3 "debt" "I" ∈ wsX3_fact := by decide +kernel
theorem m_X3_fact_f33 : Cond.fieldLink RX3 33 RX3 "goal" "I" ∈ wsX3_fact := by decide +kernel
theorem m_X3_fact_f36 : Cond.fieldLink RX3 36 RX3 "cost" "I" ∈ wsX3_fact := by decide +kernel
theorem m_X3_fact_f39 : Cond.fieldLink RX3 39 RX3 "extra" "I" ∈ wsX3_fact := by decide +kernel
theorem m_X3_fact_f15 : Cond.fieldLink RX3 15 RX3 "kind" "I" ∈ wsX3_fact := by decide +kernel
theorem m_X3_fact_f21 : Cond.fieldLink RX3 21 RX3 "depth" "I" ∈ wsX3_fact := by decide +kernel
set_option maxRecDepth 100000 in
set_option maxHeartbeats 4000000 in
theorem e_X3_fact_0 {X : VX} {B : VB} {z : Int32} {Gf : GH}  (hfx : (xl X).stackTraces = false) (hn : (xme X).name = "fact") (hr : (xme X).sig.returnType = (some .int)) (hE : VE B (z, Gf))  (this : Nat) (p1 : Int32) (G : GH) (hf : (f_X3_fact this p1).1 G = some (z, Gf)) : V X RX3 cX3_fact 2 1 20 wsX3_fact B (QE X (vI z) Gf B) G 0 [(0, .ref this), (1, .int p1)] [] := by
  unfold f_X3_fact at hf
  refine v_iload_n 1 dX3_fact_0 rfl rfl ?_
  refine v_cases (c := p1 = 0) hf (fun c1_0 hf => ?_) (fun c1_0 hf => ?_)
  · refine v_tblIn (off := 55) 0 56 c1_0 dX3_fact_1 (by decide) (by decide) (by decide) (by decide) ?_
    refine v_aload_n 0 dX3_fact_56 rfl rfl ?_
    refine v_gi 3 0 n_X3_fact_X3 rfl (by decide) rfl m_X3_fact_f9 dX3_fact_57 hf (fun x1 hf => ?_)
    exact v_iret hr dX3_fact_60 hE hf
  · refine v_cases (c := p1 = 1) hf (fun c1_1 hf => ?_) (fun c1_1 hf => ?_)
    · refine v_tblIn (off := 60) 1 61 c1_1 dX3_fact_1 (by decide) (by decide) (by decide) (by decide) ?_
      refine v_aload_n 0 dX3_fact_61 rfl rfl ?_
      refine v_callVi 3 0 [] (c_X3_size (xl X) hfx this) gX3_fact_X3_size rfl dv_X3_size (by decide) (by decide) rfl rfl dX3_fact_62 (Nat.le_of_ble_eq_true rfl) rfl hE hf (fun x2 G hf => ?_)
      exact v_iret hr dX3_fact_65 hE hf
    · refine v_cases (c := p1 = 2) hf (fun c1_2 hf => ?_) (fun c1_2 hf => ?_)
      · refine v_tblIn (off := 65) 2 66 c1_2 dX3_fact_1 (by decide) (by decide) (by decide) (by decide) ?_
        refine v_aload_n 0 dX3_fact_66 rfl rfl ?_
        refine v_gi 3 4 n_X3_fact_X3 rfl (by decide) rfl m_X3_fact_f24 dX3_fact_67 hf (fun x3 hf => ?_)
        exact v_iret hr dX3_fact_70 hE hf
      · refine v_cases (c := p1 = 3) hf (fun c1_3 hf => ?_) (fun c1_3 hf => ?_)
        · refine v_tblIn (off := 70) 3 71 c1_3 dX3_fact_1 (by decide) (by decide) (by decide) (by decide) ?_
          refine v_aload_n 0 dX3_fact_71 rfl rfl ?_
          refine v_gi 3 5 n_X3_fact_X3 rfl (by decide) rfl m_X3_fact_f27 dX3_fact_72 hf (fun x4 hf => ?_)
          exact v_iret hr dX3_fact_75 hE hf
        · refine v_cases (c := p1 = 4) hf (fun c1_4 hf => ?_) (fun c1_4 hf => ?_)
          · refine v_tblIn (off := 75) 4 76 c1_4 dX3_fact_1 (by decide) (by decide) (by decide) (by decide) ?_
            refine v_aload_n 0 dX3_fact_76 rfl rfl ?_
            refine v_gi 3 6 n_X3_fact_X3 rfl (by decide) rfl m_X3_fact_f30 dX3_fact_77 hf (fun x5 hf => ?_)
            exact v_iret hr dX3_fact_80 hE hf
          · refine v_cases (c := p1 = 5) hf (fun c1_5 hf => ?_) (fun c1_5 hf => ?_)
            · refine v_tblIn (off := 80) 5 81 c1_5 dX3_fact_1 (by decide) (by decide) (by decide) (by decide) ?_
              refine v_aload_n 0 dX3_fact_81 rfl rfl ?_
              refine v_gi 3 7 n_X3_fact_X3 rfl (by decide) rfl m_X3_fact_f33 dX3_fact_82 hf (fun x6 hf => ?_)
              exact v_iret hr dX3_fact_85 hE hf
            · refine v_cases (c := p1 = 6) hf (fun c1_6 hf => ?_) (fun c1_6 hf => ?_)
              · refine v_tblIn (off := 85) 6 86 c1_6 dX3_fact_1 (by decide) (by decide) (by decide) (by decide) ?_
                refine v_aload_n 0 dX3_fact_86 rfl rfl ?_
                refine v_gi 3 8 n_X3_fact_X3 rfl (by decide) rfl m_X3_fact_f36 dX3_fact_87 hf (fun x7 hf => ?_)
                exact v_iret hr dX3_fact_90 hE hf
              · refine v_cases (c := p1 = 7) hf (fun c1_7 hf => ?_) (fun c1_7 hf => ?_)
                · refine v_tblIn (off := 90) 7 91 c1_7 dX3_fact_1 (by decide) (by decide) (by decide) (by decide) ?_
                  refine v_aload_n 0 dX3_fact_91 rfl rfl ?_
                  refine v_gi 3 9 n_X3_fact_X3 rfl (by decide) rfl m_X3_fact_f39 dX3_fact_92 hf (fun x8 hf => ?_)
                  exact v_iret hr dX3_fact_95 hE hf
                · refine v_cases (c := p1 = 8) hf (fun c1_8 hf => ?_) (fun c1_8 hf => ?_)
                  · refine v_tblIn (off := 95) 8 96 c1_8 dX3_fact_1 (by decide) (by decide) (by decide) (by decide) ?_
                    refine v_aload_n 0 dX3_fact_96 rfl rfl ?_
                    refine v_gi 3 1 n_X3_fact_X3 rfl (by decide) rfl m_X3_fact_f15 dX3_fact_97 hf (fun x9 hf => ?_)
                    exact v_iret hr dX3_fact_100 hE hf
                  · refine v_cases (c := p1 = 9) hf (fun c1_9 hf => ?_) (fun c1_9 hf => ?_)
                    · refine v_tblIn (off := 100) 9 101 c1_9 dX3_fact_1 (by decide) (by decide) (by decide) (by decide) ?_
                      refine v_aload_n 0 dX3_fact_101 rfl rfl ?_
                      refine v_gi 3 3 n_X3_fact_X3 rfl (by decide) rfl m_X3_fact_f21 dX3_fact_102 hf (fun x10 hf => ?_)
                      exact v_iret hr dX3_fact_105 hE hf
                    · refine v_tblOut 9 106 dX3_fact_1 (by decide) rfl (lt_s (lt_s (lt_s (lt_s (lt_s (lt_s (lt_s (lt_s (lt_s (lt_s lt_0 c1_0) c1_1) c1_2) c1_3) c1_4) c1_5) c1_6) c1_7) c1_8) c1_9) (by decide) ?_
                      refine v_iconst (-1) dX3_fact_106 (by decide) ?_
                      exact v_iret hr dX3_fact_107 hE hf
theorem c_X3_fact (l : Launch) (hfl : l.stackTraces = false) (this : Nat) (p1 : Int32) : CM l yX3_fact wsX3_fact 1 20 [.ref this, .int p1] vI (f_X3_fact this p1) := CM.start hfl RX3 rfl (by decide +kernel) rfl (Nat.le_of_ble_eq_true rfl) (fun X G z Gf hl hn hr hf => e_X3_fact_0 (by rw [hl]; exact hfl) hn hr ⟨rfl, rfl⟩ this p1 G hf)
theorem dv_X3_fact : yX3_fact.cls = RX3 ∧ yX3_fact.cls ≠ "java/lang/invoke/MethodHandle" ∧ yX3_fact.cls ≠ "java/lang/invoke/VarHandle" ∧ (parseMethodDescriptor yX3_fact.desc).map (fun d => d.parameters.length) = some 1 := by decide +kernel
set_option maxRecDepth 100000 in
set_option maxHeartbeats 4000000 in
theorem e_X3_hasRowOf_17 {X : VX} {B : VB} {z : Int32} {Gf : GH}  (hfx : (xl X).stackTraces = false) (hn : (xme X).name = "hasRowOf") (hr : (xme X).sig.returnType = (some .boolean)) (hE : VE B (z, Gf))  : ∀ (n : Nat) (this : Nat) (p1 : Nat) (l2 : Int32) (l3 : Int32) (G : GH), (f_X3_hasRowOf_17 n this p1 l2 l3).1 G = some (z, Gf) → V X RX3 cX3_hasRowOf 4 2 42 wsX3_hasRowOf B (QE X (vI z) Gf B) G 17 [(0, .ref this), (1, .ref p1), (2, .int l2), (3, .int l3)] [] := by
  intro n
  induction n with
  | zero =>
    intro this p1 l2 l3 G hf
    have h0 : (none : Option (Int32 × GH)) = some (z, Gf) := hf
    cases h0
  | succ n ih =>
    intro this p1 l2 l3 G hf
    rw [f_X3_hasRowOf_17.eq_2] at hf
    refine v_iload_n 3 dX3_hasRowOf_17 rfl rfl ?_
    refine v_iload_n 2 dX3_hasRowOf_18 rfl rfl ?_
    refine v_icmp_ge 43 dX3_hasRowOf_19 (by decide) hf (fun _ hf => ?_) (fun _ hf => ?_)
    · refine v_iconst 1 dX3_hasRowOf_43 (by decide) ?_
      exact v_zret hr dX3_hasRowOf_44 hE hf
    · refine v_aload_n 0 dX3_hasRowOf_22 rfl rfl ?_
      refine v_iload_n 3 dX3_hasRowOf_23 rfl rfl ?_
      refine v_callVi 3 1 [.int l3] (c_X3_look (xl X) hfx this l3) gX3_hasRowOf_X3_look rfl dv_X3_look (by decide) (by decide) rfl rfl dX3_hasRowOf_24 (Nat.le_of_ble_eq_true rfl) rfl hE hf (fun x3 G hf => ?_)
      refine v_aload_n 1 dX3_hasRowOf_27 rfl rfl ?_
      refine v_iload_n 3 dX3_hasRowOf_28 rfl rfl ?_
      refine v_callVi 3 1 [.int l3] (c_X3_look (xl X) hfx p1 l3) gX3_hasRowOf_X3_look rfl dv_X3_look (by decide) (by decide) rfl rfl dX3_hasRowOf_29 (Nat.le_of_ble_eq_true rfl) rfl hE hf (fun x4 G hf => ?_)
      refine v_icmp_eq 37 dX3_hasRowOf_32 (by decide) hf (fun _ hf => ?_) (fun _ hf => ?_)
      · refine v_iinc 3 (l3 + 1) [(3, .int (l3 + 1)), (0, .ref this), (1, .ref p1), (2, .int l2)] dX3_hasRowOf_37 rfl (by rfl) (by decide) rfl ?_
        refine v_goto 17 dX3_hasRowOf_40 (by decide) ?_
        refine v_sub [1, 2, 3, 0] rfl ?_
        exact ih this p1 l2 (l3 + 1) G hf
      · refine v_iconst 0 dX3_hasRowOf_35 (by decide) ?_
        exact v_zret hr dX3_hasRowOf_36 hE hf
set_option maxRecDepth 100000 in
set_option maxHeartbeats 4000000 in
theorem e_X3_hasRowOf_0 {X : VX} {B : VB} {z : Int32} {Gf : GH}  (hfx : (xl X).stackTraces = false) (hn : (xme X).name = "hasRowOf") (hr : (xme X).sig.returnType = (some .boolean)) (hE : VE B (z, Gf))  (this : Nat) (p1 : Nat) (G : GH) (hf : (f_X3_hasRowOf this p1).1 G = some (z, Gf)) : V X RX3 cX3_hasRowOf 4 2 42 wsX3_hasRowOf B (QE X (vI z) Gf B) G 0 [(0, .ref this), (1, .ref p1)] [] := by
  unfold f_X3_hasRowOf at hf
  refine v_aload_n 0 dX3_hasRowOf_0 rfl rfl ?_
  refine v_callVi 3 0 [] (c_X3_size (xl X) hfx this) gX3_hasRowOf_X3_size rfl dv_X3_size (by decide) (by decide) rfl rfl dX3_hasRowOf_1 (Nat.le_of_ble_eq_true rfl) rfl hE hf (fun x1 G hf => ?_)
  refine v_istore_n [(2, .int x1), (0, .ref this), (1, .ref p1)] dX3_hasRowOf_4 rfl (by decide) rfl ?_
  refine v_iload_n 0 dX3_hasRowOf_5 rfl rfl ?_
  refine v_aload_n 2 dX3_hasRowOf_6 rfl rfl ?_
  refine v_callVi 3 0 [] (c_X3_size (xl X) hfx p1) gX3_hasRowOf_X3_size rfl dv_X3_size (by decide) (by decide) rfl rfl dX3_hasRowOf_7 (Nat.le_of_ble_eq_true rfl) rfl hE hf (fun x2 G hf => ?_)
  refine v_icmp_eq 15 dX3_hasRowOf_10 (by decide) hf (fun _ hf => ?_) (fun _ hf => ?_)
  · refine v_iconst 0 dX3_hasRowOf_15 (by decide) ?_
    refine v_istore_n [(3, .int 0), (2, .int x1), (0, .ref this), (1, .ref p1)] dX3_hasRowOf_16 rfl (by decide) rfl ?_
    refine v_sub [2, 3, 1, 0] rfl ?_
    exact e_X3_hasRowOf_17 hfx hn hr hE FU this p1 x1 0 G hf
  · refine v_iconst 0 dX3_hasRowOf_13 (by decide) ?_
    exact v_zret hr dX3_hasRowOf_14 hE hf
theorem c_X3_hasRowOf (l : Launch) (hfl : l.stackTraces = false) (this : Nat) (p1 : Nat) : CM l yX3_hasRowOf wsX3_hasRowOf 2 42 [.ref this, .ref p1] vI (f_X3_hasRowOf this p1) := CM.start hfl RX3 rfl (by decide +kernel) rfl (Nat.le_of_ble_eq_true rfl) (fun X G z Gf hl hn hr hf => e_X3_hasRowOf_0 (by rw [hl]; exact hfl) hn hr ⟨rfl, rfl⟩ this p1 G hf)
theorem dv_X3_hasRowOf : yX3_hasRowOf.cls = RX3 ∧ yX3_hasRowOf.cls ≠ "java/lang/invoke/MethodHandle" ∧ yX3_hasRowOf.cls ≠ "java/lang/invoke/VarHandle" ∧ (parseMethodDescriptor yX3_hasRowOf.desc).map (fun d => d.parameters.length) = some 1 := by decide +kernel
set_option maxRecDepth 100000 in
set_option maxHeartbeats 4000000 in
theorem e_X4_isPush_0 {X : VX} {B : VB} {z : Int32} {Gf : GH}  (hfx : (xl X).stackTraces = false) (hn : (xme X).name = "isPush") (hr : (xme X).sig.returnType = (some .boolean)) (hE : VE B (z, Gf))  (p1 : Int32) (G : GH) (hf : (f_X4_isPush p1).1 G = some (z, Gf)) : V X RX4 cX4_isPush 1 0 0 wsX4_isPush B (QE X (vI z) Gf B) G 0 [(0, .int p1)] [] := by
  unfold f_X4_isPush at hf
  refine v_iload_n 0 dX4_isPush_0 rfl rfl ?_
  refine v_if_eq 9 dX4_isPush_1 (by decide) hf (fun _ hf => ?_) (fun _ hf => ?_)
  · refine v_iconst 1 dX4_isPush_9 (by decide) ?_
    refine v_goto 14 dX4_isPush_10 (by decide) ?_
    exact v_zret hr dX4_isPush_14 hE hf
  · refine v_iload_n 0 dX4_isPush_4 rfl rfl ?_
    refine v_iconst 1 dX4_isPush_5 (by decide) ?_
    refine v_icmp_ne 13 dX4_isPush_6 (by decide) hf (fun _ hf => ?_) (fun _ hf => ?_)
    · refine v_iconst 0 dX4_isPush_13 (by decide) ?_
      exact v_zret hr dX4_isPush_14 hE hf
    · refine v_iconst 1 dX4_isPush_9 (by decide) ?_
      refine v_goto 14 dX4_isPush_10 (by decide) ?_
      exact v_zret hr dX4_isPush_14 hE hf
theorem c_X4_isPush (l : Launch) (hfl : l.stackTraces = false) (p1 : Int32) : CM l yX4_isPush wsX4_isPush 0 0 [.int p1] vI (f_X4_isPush p1) := CM.start hfl RX4 rfl (by decide +kernel) rfl (Nat.le_of_ble_eq_true rfl) (fun X G z Gf hl hn hr hf => e_X4_isPush_0 (by rw [hl]; exact hfl) hn hr ⟨rfl, rfl⟩ p1 G hf)
theorem dn_X4_isPush : yX4_isPush.cls ≠ "java/lang/invoke/MethodHandle" ∧ yX4_isPush.cls ≠ "java/lang/invoke/VarHandle" ∧ (parseMethodDescriptor yX4_isPush.desc).map (fun d => d.parameters.length) = some 1 := by decide +kernel
theorem m_X3_permits_itX4 : Cond.initialized RX4 ∈ wsX3_permits := by decide +kernel
theorem m_X3_permits_sy64 : Cond.static yX4_isPush ∈ wsX3_permits := by decide +kernel
set_option maxRecDepth 100000 in
set_option maxHeartbeats 4000000 in
theorem e_X3_permits_0 {X : VX} {B : VB} {z : Int32} {Gf : GH}  (hfx : (xl X).stackTraces = false) (hn : (xme X).name = "permits") (hr : (xme X).sig.returnType = (some .boolean)) (hE : VE B (z, Gf))  (this : Nat) (p1 : Int32) (G : GH) (hf : (f_X3_permits this p1).1 G = some (z, Gf)) : V X RX3 cX3_permits 2 1 20 wsX3_permits B (QE X (vI z) Gf B) G 0 [(0, .ref this), (1, .int p1)] [] := by
  unfold f_X3_permits at hf
  refine v_iload_n 1 dX3_permits_0 rfl rfl ?_
  refine v_callNi (host := RX4) 1 [.int p1] (c_X4_isPush (xl X) hfx p1) gX3_permits_X4_isPush_n64 (by decide +kernel) m_X3_permits_itX4 m_X3_permits_sy64 rfl dn_X4_isPush (by decide) (by decide) rfl dX3_permits_1 (Nat.le_of_ble_eq_true rfl) rfl hE hf (fun x1 G hf => ?_)
  refine v_if_eq 24 dX3_permits_4 (by decide) hf (fun _ hf => ?_) (fun _ hf => ?_)
  · refine v_aload_n 0 dX3_permits_24 rfl rfl ?_
    refine v_callVi 3 0 [] (c_X3_size (xl X) hfx this) gX3_permits_X3_size rfl dv_X3_size (by decide) (by decide) rfl rfl dX3_permits_25 (Nat.le_of_ble_eq_true rfl) rfl hE hf (fun x2 G hf => ?_)
    refine v_if_le 35 dX3_permits_28 (by decide) hf (fun _ hf => ?_) (fun _ hf => ?_)
    · refine v_iconst 0 dX3_permits_35 (by decide) ?_
      exact v_zret hr dX3_permits_36 hE hf
    · refine v_iconst 1 dX3_permits_31 (by decide) ?_
      refine v_goto 36 dX3_permits_32 (by decide) ?_
      exact v_zret hr dX3_permits_36 hE hf
  · refine v_aload_n 0 dX3_permits_7 rfl rfl ?_
    refine v_callVi 3 0 [] (c_X3_size (xl X) hfx this) gX3_permits_X3_size rfl dv_X3_size (by decide) (by decide) rfl rfl dX3_permits_8 (Nat.le_of_ble_eq_true rfl) rfl hE hf (fun x3 G hf => ?_)
    refine v_bipush 40 dX3_permits_11 (by decide) ?_
    refine v_icmp_ge 20 dX3_permits_13 (by decide) hf (fun _ hf => ?_) (fun _ hf => ?_)
    · refine v_iconst 0 dX3_permits_20 (by decide) ?_
      refine v_goto 36 dX3_permits_21 (by decide) ?_
      exact v_zret hr dX3_permits_36 hE hf
    · refine v_iconst 1 dX3_permits_16 (by decide) ?_
      refine v_goto 36 dX3_permits_17 (by decide) ?_
      exact v_zret hr dX3_permits_36 hE hf
theorem c_X3_permits (l : Launch) (hfl : l.stackTraces = false) (this : Nat) (p1 : Int32) : CM l yX3_permits wsX3_permits 1 20 [.ref this, .int p1] vI (f_X3_permits this p1) := CM.start hfl RX3 rfl (by decide +kernel) rfl (Nat.le_of_ble_eq_true rfl) (fun X G z Gf hl hn hr hf => e_X3_permits_0 (by rw [hl]; exact hfl) hn hr ⟨rfl, rfl⟩ this p1 G hf)
theorem dv_X3_permits : yX3_permits.cls = RX3 ∧ yX3_permits.cls ≠ "java/lang/invoke/MethodHandle" ∧ yX3_permits.cls ≠ "java/lang/invoke/VarHandle" ∧ (parseMethodDescriptor yX3_permits.desc).map (fun d => d.parameters.length) = some 1 := by decide +kernel
set_option maxRecDepth 100000 in
set_option maxHeartbeats 4000000 in
theorem e_X4_isAtFront_0 {X : VX} {B : VB} {z : Int32} {Gf : GH}  (hfx : (xl X).stackTraces = false) (hn : (xme X).name = "isAtFront") (hr : (xme X).sig.returnType = (some .boolean)) (hE : VE B (z, Gf))  (p1 : Int32) (G : GH) (hf : (f_X4_isAtFront p1).1 G = some (z, Gf)) : V X RX4 cX4_isAtFront 1 0 0 wsX4_isAtFront B (QE X (vI z) Gf B) G 0 [(0, .int p1)] [] := by
  unfold f_X4_isAtFront at hf
  refine v_iload_n 0 dX4_isAtFront_0 rfl rfl ?_
  refine v_if_eq 9 dX4_isAtFront_1 (by decide) hf (fun _ hf => ?_) (fun _ hf => ?_)
  · refine v_iconst 1 dX4_isAtFront_9 (by decide) ?_
    refine v_goto 14 dX4_isAtFront_10 (by decide) ?_
    exact v_zret hr dX4_isAtFront_14 hE hf
  · refine v_iload_n 0 dX4_isAtFront_4 rfl rfl ?_
    refine v_iconst 2 dX4_isAtFront_5 (by decide) ?_
    refine v_icmp_ne 13 dX4_isAtFront_6 (by decide) hf (fun _ hf => ?_) (fun _ hf => ?_)
    · refine v_iconst 0 dX4_isAtFront_13 (by decide) ?_
      exact v_zret hr dX4_isAtFront_14 hE hf
    · refine v_iconst 1 dX4_isAtFront_9 (by decide) ?_
      refine v_goto 14 dX4_isAtFront_10 (by decide) ?_
      exact v_zret hr dX4_isAtFront_14 hE hf
theorem c_X4_isAtFront (l : Launch) (hfl : l.stackTraces = false) (p1 : Int32) : CM l yX4_isAtFront wsX4_isAtFront 0 0 [.int p1] vI (f_X4_isAtFront p1) := CM.start hfl RX4 rfl (by decide +kernel) rfl (Nat.le_of_ble_eq_true rfl) (fun X G z Gf hl hn hr hf => e_X4_isAtFront_0 (by rw [hl]; exact hfl) hn hr ⟨rfl, rfl⟩ p1 G hf)
theorem dn_X4_isAtFront : yX4_isAtFront.cls ≠ "java/lang/invoke/MethodHandle" ∧ yX4_isAtFront.cls ≠ "java/lang/invoke/VarHandle" ∧ (parseMethodDescriptor yX4_isAtFront.desc).map (fun d => d.parameters.length) = some 1 := by decide +kernel
set_option maxRecDepth 100000 in
set_option maxHeartbeats 4000000 in
theorem e_X4_fill_0 {X : VX} {B : VB} {z : Unit} {Gf : GH}  (hfx : (xl X).stackTraces = false) (hn : (xme X).name = "fill") (hr : (xme X).sig.returnType = none) (hE : VE B (z, Gf))  (p1 : Nat) (p2 : Int32) (p3 : Int32) (G : GH) (hf : (f_X4_fill p1 p2 p3).1 G = some (z, Gf)) : V X RX4 cX4_fill 3 0 0 wsX4_fill B (QE X (vV z) Gf B) G 0 [(0, .ref p1), (1, .int p2), (2, .int p3)] [] := by
  unfold f_X4_fill at hf
  refine v_iload_n 1 dX4_fill_0 rfl rfl ?_
  refine v_if_lt 14 dX4_fill_1 (by decide) hf (fun _ hf => ?_) (fun _ hf => ?_)
  · exact v_vret hr dX4_fill_14 hE hf
  · refine v_iload_n 1 dX4_fill_4 rfl rfl ?_
    refine v_aload_n 0 dX4_fill_5 rfl rfl ?_
    refine v_len (t := 0) (fun _ => rfl) dX4_fill_6 hf (fun x1 hf => ?_)
    refine v_icmp_ge 14 dX4_fill_7 (by decide) hf (fun _ hf => ?_) (fun _ hf => ?_)
    · exact v_vret hr dX4_fill_14 hE hf
    · refine v_aload_n 0 dX4_fill_10 rfl rfl ?_
      refine v_iload_n 1 dX4_fill_11 rfl rfl ?_
      refine v_iload_n 2 dX4_fill_12 rfl rfl ?_
      refine v_iast dX4_fill_13 hf (fun G _ hf => ?_)
      exact v_vret hr dX4_fill_14 hE hf
theorem c_X4_fill (l : Launch) (hfl : l.stackTraces = false) (p1 : Nat) (p2 : Int32) (p3 : Int32) : CM l yX4_fill wsX4_fill 0 0 [.ref p1, .int p2, .int p3] vV (f_X4_fill p1 p2 p3) := CM.start hfl RX4 rfl (by decide +kernel) rfl (Nat.le_of_ble_eq_true rfl) (fun X G z Gf hl hn hr hf => e_X4_fill_0 (by rw [hl]; exact hfl) hn hr ⟨rfl, rfl⟩ p1 p2 p3 G hf)
theorem dn_X4_fill : yX4_fill.cls ≠ "java/lang/invoke/MethodHandle" ∧ yX4_fill.cls ≠ "java/lang/invoke/VarHandle" ∧ (parseMethodDescriptor yX4_fill.desc).map (fun d => d.parameters.length) = some 3 := by decide +kernel
theorem m_X3_moveGoal_f33 : Cond.fieldLink RX3 33 RX3 "goal" "I" ∈ wsX3_moveGoal := by decide +kernel
theorem m_X3_moveGoal_m103 : Cond.methodLink RX3 103 Lib.Math.max.name ∈ wsX3_moveGoal := by decide +kernel
theorem m_X3_moveGoal_msmax : Cond.static Lib.Math.max.name ∈ wsX3_moveGoal := by decide +kernel
theorem m_X3_moveGoal_mi : Cond.initialized "java/lang/Math" ∈ wsX3_moveGoal := by decide +kernel
theorem m_X3_moveGoal_mcmax : Cond.code Lib.Math.max.name Lib.Math.max.code 2 (some .int) ∈ wsX3_moveGoal := by decide +kernel
theorem m_X3_moveGoal_m109 : Cond.methodLink RX3 109 Lib.Math.min.name ∈ wsX3_moveGoal := by decide +kernel
theorem m_X3_moveGoal_msmin : Cond.static Lib.Math.min.name ∈ wsX3_moveGoal := by decide +kernel
theorem m_X3_moveGoal_mcmin : Cond.code Lib.Math.min.name Lib.Math.min.code 2 (some .int) ∈ wsX3_moveGoal := by decide +kernel
theorem n_X3_moveGoal_X3 : ∀ w ∈ u_ws RX3 TX3 11, w ∈ wsX3_moveGoal := by decide +kernel
set_option maxRecDepth 100000 in
set_option maxHeartbeats 4000000 in
theorem e_X3_moveGoal_0 {X : VX} {B : VB} {z : Unit} {Gf : GH}  (hfx : (xl X).stackTraces = false) (hn : (xme X).name = "moveGoal") (hr : (xme X).sig.returnType = none) (hE : VE B (z, Gf))  (this : Nat) (p1 : Int32) (G : GH) (hf : (f_X3_moveGoal this p1).1 G = some (z, Gf)) : V X RX3 cX3_moveGoal 2 1 24 wsX3_moveGoal B (QE X (vV z) Gf B) G 0 [(0, .ref this), (1, .int p1)] [] := by
  unfold f_X3_moveGoal at hf
  refine v_aload_n 0 dX3_moveGoal_0 rfl rfl ?_
  refine v_callVi 3 0 [] (c_X3_isRebuilding (xl X) hfx this) gX3_moveGoal_X3_isRebuilding rfl dv_X3_isRebuilding (by decide) (by decide) rfl rfl dX3_moveGoal_1 (Nat.le_of_ble_eq_true rfl) rfl hE hf (fun x1 G hf => ?_)
  refine v_if_eq 28 dX3_moveGoal_4 (by decide) hf (fun _ hf => ?_) (fun _ hf => ?_)
  · exact v_vret hr dX3_moveGoal_28 hE hf
  · refine v_aload_n 0 dX3_moveGoal_7 rfl rfl ?_
    refine v_aload_n 0 dX3_moveGoal_8 rfl rfl ?_
    refine v_gi 3 7 n_X3_moveGoal_X3 rfl (by decide) rfl m_X3_moveGoal_f33 dX3_moveGoal_9 hf (fun x2 hf => ?_)
    refine v_iload_n 1 dX3_moveGoal_12 rfl rfl ?_
    refine v_iadd dX3_moveGoal_13 ?_
    refine v_iconst 0 dX3_moveGoal_14 (by decide) ?_
    refine v_max m_X3_moveGoal_m103 m_X3_moveGoal_msmax m_X3_moveGoal_mi m_X3_moveGoal_mcmax dX3_moveGoal_15 (by decide) (Nat.le_of_ble_eq_true rfl) hE hf ?_
    refine v_aload_n 0 dX3_moveGoal_18 rfl rfl ?_
    refine v_callVi 3 0 [] (c_X3_size (xl X) hfx this) gX3_moveGoal_X3_size rfl dv_X3_size (by decide) (by decide) rfl rfl dX3_moveGoal_19 (Nat.le_of_ble_eq_true rfl) rfl hE hf (fun x3 G hf => ?_)
    refine v_min m_X3_moveGoal_m109 m_X3_moveGoal_msmin m_X3_moveGoal_mi m_X3_moveGoal_mcmin dX3_moveGoal_22 (by decide) (Nat.le_of_ble_eq_true rfl) hE hf ?_
    refine v_put 3 7 .int n_X3_moveGoal_X3 tyX3 tyX3_ok nmX3 rfl (by decide) rfl m_X3_moveGoal_f33 rfl (by decide +kernel) rfl rfl dX3_moveGoal_25 hf (fun G _ hf => ?_)
    exact v_vret hr dX3_moveGoal_28 hE hf
theorem c_X3_moveGoal (l : Launch) (hfl : l.stackTraces = false) (this : Nat) (p1 : Int32) : CM l yX3_moveGoal wsX3_moveGoal 1 24 [.ref this, .int p1] vV (f_X3_moveGoal this p1) := CM.start hfl RX3 rfl (by decide +kernel) rfl (Nat.le_of_ble_eq_true rfl) (fun X G z Gf hl hn hr hf => e_X3_moveGoal_0 (by rw [hl]; exact hfl) hn hr ⟨rfl, rfl⟩ this p1 G hf)
theorem dv_X3_moveGoal : yX3_moveGoal.cls = RX3 ∧ yX3_moveGoal.cls ≠ "java/lang/invoke/MethodHandle" ∧ yX3_moveGoal.cls ≠ "java/lang/invoke/VarHandle" ∧ (parseMethodDescriptor yX3_moveGoal.desc).map (fun d => d.parameters.length) = some 1 := by decide +kernel
theorem m_X3_put_f18 : Cond.fieldLink RX3 18 RX3 "moved" "I" ∈ wsX3_put := by decide +kernel
theorem m_X3_put_f42 : Cond.fieldLink RX3 42 RX3 "row" "[I" ∈ wsX3_put := by decide +kernel
theorem m_X3_put_f27 : Cond.fieldLink RX3 27 RX3 "back" "I" ∈ wsX3_put := by decide +kernel
theorem n_X3_put_X3 : ∀ w ∈ u_ws RX3 TX3 11, w ∈ wsX3_put := by decide +kernel
theorem m_X3_put_itX4 : Cond.initialized RX4 ∈ wsX3_put := by decide +kernel
theorem m_X3_put_sy96 : Cond.static yX4_fill ∈ wsX3_put := by decide +kernel
theorem m_X3_put_f24 : Cond.fieldLink RX3 24 RX3 "front" "I" ∈ wsX3_put := by decide +kernel
set_option maxRecDepth 100000 in
set_option maxHeartbeats 4000000 in
theorem e_X3_put_17 {X : VX} {B : VB} {z : Unit} {Gf : GH}  (hfx : (xl X).stackTraces = false) (hn : (xme X).name = "put") (hr : (xme X).sig.returnType = none) (hE : VE B (z, Gf))  : ∀ (n : Nat) (this : Nat) (p1 : Int32) (l4 : Int32) (G : GH), (f_X3_put_17 n this p1 l4).1 G = some (z, Gf) → V X RX3 cX3_put 5 2 45 wsX3_put B (QE X (vV z) Gf B) G 17 [(0, .ref this), (1, .int p1), (4, .int l4)] [] := by
  intro n
  induction n with
  | zero =>
    intro this p1 l4 G hf
    have h0 : (none : Option (Unit × GH)) = some (z, Gf) := hf
    cases h0
  | succ n ih =>
    intro this p1 l4 G hf
    rw [f_X3_put_17.eq_2] at hf
    refine v_iload 2 dX3_put_17 rfl ?_
    refine v_if_le 45 dX3_put_19 (by decide) hf (fun _ hf => ?_) (fun _ hf => ?_)
    · refine v_aload_n 0 dX3_put_45 rfl rfl ?_
      refine v_gr 3 10 n_X3_put_X3 rfl (by decide) rfl m_X3_put_f42 dX3_put_46 hf (fun r4 hf => ?_)
      refine v_iconst 0 dX3_put_49 (by decide) ?_
      refine v_iload_n 1 dX3_put_50 rfl rfl ?_
      refine v_callNv (host := RX4) 3 [.ref r4, .int 0, .int p1] (c_X4_fill (xl X) hfx r4 0 p1) gX3_put_X4_fill_n96 (by decide +kernel) m_X3_put_itX4 m_X3_put_sy96 rfl dn_X4_fill (by decide) (by decide) rfl dX3_put_51 (Nat.le_of_ble_eq_true rfl) rfl hE hf (fun _ G hf => ?_)
      refine v_aload_n 0 dX3_put_54 rfl rfl ?_
      refine v_dup dX3_put_55 rfl ?_
      refine v_gi 3 4 n_X3_put_X3 rfl (by decide) rfl m_X3_put_f24 dX3_put_56 hf (fun x5 hf => ?_)
      refine v_iconst 1 dX3_put_59 (by decide) ?_
      refine v_iadd dX3_put_60 ?_
      refine v_put 3 4 .int n_X3_put_X3 tyX3 tyX3_ok nmX3 rfl (by decide) rfl m_X3_put_f24 rfl (by decide +kernel) rfl rfl dX3_put_61 hf (fun G _ hf => ?_)
      refine v_aload_n 0 dX3_put_64 rfl rfl ?_
      refine v_iconst 1 dX3_put_65 (by decide) ?_
      refine v_callVv 3 1 [.int 1] (c_X3_moveGoal (xl X) hfx this 1) gX3_put_X3_moveGoal rfl dv_X3_moveGoal (by decide) (by decide) rfl rfl dX3_put_66 (Nat.le_of_ble_eq_true rfl) rfl hE hf (fun _ G hf => ?_)
      refine v_goto 96 dX3_put_69 (by decide) ?_
      exact v_vret hr dX3_put_96 hE hf
    · refine v_aload_n 0 dX3_put_22 rfl rfl ?_
      refine v_gr 3 10 n_X3_put_X3 rfl (by decide) rfl m_X3_put_f42 dX3_put_23 hf (fun r6 hf => ?_)
      refine v_iload 2 dX3_put_26 rfl ?_
      refine v_aload_n 0 dX3_put_28 rfl rfl ?_
      refine v_iload 2 dX3_put_29 rfl ?_
      refine v_iconst 1 dX3_put_31 (by decide) ?_
      refine v_isub dX3_put_32 ?_
      refine v_callVi 3 1 [.int (l4 - 1)] (c_X3_look (xl X) hfx this (l4 - 1)) gX3_put_X3_look rfl dv_X3_look (by decide) (by decide) rfl rfl dX3_put_33 (Nat.le_of_ble_eq_true rfl) rfl hE hf (fun x7 G hf => ?_)
      refine v_callNv (host := RX4) 3 [.ref r6, .int l4, .int x7] (c_X4_fill (xl X) hfx r6 l4 x7) gX3_put_X4_fill_n96 (by decide +kernel) m_X3_put_itX4 m_X3_put_sy96 rfl dn_X4_fill (by decide) (by decide) rfl dX3_put_36 (Nat.le_of_ble_eq_true rfl) rfl hE hf (fun _ G hf => ?_)
      refine v_iinc 2 (l4 + (-1)) [(4, .int (l4 + (-1))), (0, .ref this), (1, .int p1)] dX3_put_39 rfl (by rfl) (by decide) rfl ?_
      refine v_goto 17 dX3_put_42 (by decide) ?_
      refine v_sub [1, 2, 0] rfl ?_
      exact ih this p1 (l4 + (-1)) G hf
set_option maxRecDepth 100000 in
set_option maxHeartbeats 4000000 in
theorem e_X3_put_0 {X : VX} {B : VB} {z : Unit} {Gf : GH}  (hfx : (xl X).stackTraces = false) (hn : (xme X).name = "put") (hr : (xme X).sig.returnType = none) (hE : VE B (z, Gf))  (this : Nat) (p1 : Int32) (p2 : Int32) (G : GH) (hf : (f_X3_put this p1 p2).1 G = some (z, Gf)) : V X RX3 cX3_put 5 2 45 wsX3_put B (QE X (vV z) Gf B) G 0 [(0, .ref this), (1, .int p1), (2, .int p2)] [] := by
  unfold f_X3_put at hf
  refine v_aload_n 0 dX3_put_0 rfl rfl ?_
  refine v_callVi 3 0 [] (c_X3_size (xl X) hfx this) gX3_put_X3_size rfl dv_X3_size (by decide) (by decide) rfl rfl dX3_put_1 (Nat.le_of_ble_eq_true rfl) rfl hE hf (fun x1 G hf => ?_)
  refine v_istore_n [(3, .int x1), (0, .ref this), (1, .int p1), (2, .int p2)] dX3_put_4 rfl (by decide) rfl ?_
  refine v_aload_n 1 dX3_put_5 rfl rfl ?_
  refine v_iload_n 2 dX3_put_6 rfl rfl ?_
  refine v_put 3 2 .int n_X3_put_X3 tyX3 tyX3_ok nmX3 rfl (by decide) rfl m_X3_put_f18 rfl (by decide +kernel) rfl rfl dX3_put_7 hf (fun G _ hf => ?_)
  refine v_iload_n 3 dX3_put_10 rfl rfl ?_
  refine v_if_eq 72 dX3_put_11 (by decide) hf (fun _ hf => ?_) (fun _ hf => ?_)
  · refine v_aload_n 1 dX3_put_72 rfl rfl ?_
    refine v_gr 3 10 n_X3_put_X3 rfl (by decide) rfl m_X3_put_f42 dX3_put_73 hf (fun r2 hf => ?_)
    refine v_iload_n 0 dX3_put_76 rfl rfl ?_
    refine v_iload_n 2 dX3_put_77 rfl rfl ?_
    refine v_callNv (host := RX4) 3 [.ref r2, .int x1, .int p1] (c_X4_fill (xl X) hfx r2 x1 p1) gX3_put_X4_fill_n96 (by decide +kernel) m_X3_put_itX4 m_X3_put_sy96 rfl dn_X4_fill (by decide) (by decide) rfl dX3_put_78 (Nat.le_of_ble_eq_true rfl) rfl hE hf (fun _ G hf => ?_)
    refine v_aload_n 1 dX3_put_81 rfl rfl ?_
    refine v_dup dX3_put_82 rfl ?_
    refine v_gi 3 5 n_X3_put_X3 rfl (by decide) rfl m_X3_put_f27 dX3_put_83 hf (fun x3 hf => ?_)
    refine v_iconst 1 dX3_put_86 (by decide) ?_
    refine v_iadd dX3_put_87 ?_
    refine v_put 3 5 .int n_X3_put_X3 tyX3 tyX3_ok nmX3 rfl (by decide) rfl m_X3_put_f27 rfl (by decide +kernel) rfl rfl dX3_put_88 hf (fun G _ hf => ?_)
    refine v_aload_n 1 dX3_put_91 rfl rfl ?_
    refine v_iconst 0 dX3_put_92 (by decide) ?_
    refine v_callVv 3 1 [.int 0] (c_X3_moveGoal (xl X) hfx this 0) gX3_put_X3_moveGoal rfl dv_X3_moveGoal (by decide) (by decide) rfl rfl dX3_put_93 (Nat.le_of_ble_eq_true rfl) rfl hE hf (fun _ G hf => ?_)
    exact v_vret hr dX3_put_96 hE hf
  · refine v_iload_n 0 dX3_put_14 rfl rfl ?_
    refine v_istore [(4, .int x1), (3, .int x1), (0, .ref this), (1, .int p1), (2, .int p2)] dX3_put_15 (by decide) rfl ?_
    refine v_sub [2, 3, 0] rfl ?_
    exact e_X3_put_17 hfx hn hr hE FU this p1 x1 G hf
theorem c_X3_put (l : Launch) (hfl : l.stackTraces = false) (this : Nat) (p1 : Int32) (p2 : Int32) : CM l yX3_put wsX3_put 2 45 [.ref this, .int p1, .int p2] vV (f_X3_put this p1 p2) := CM.start hfl RX3 rfl (by decide +kernel) rfl (Nat.le_of_ble_eq_true rfl) (fun X G z Gf hl hn hr hf => e_X3_put_0 (by rw [hl]; exact hfl) hn hr ⟨rfl, rfl⟩ this p1 p2 G hf)
theorem dv_X3_put : yX3_put.cls = RX3 ∧ yX3_put.cls ≠ "java/lang/invoke/MethodHandle" ∧ yX3_put.cls ≠ "java/lang/invoke/VarHandle" ∧ (parseMethodDescriptor yX3_put.desc).map (fun d => d.parameters.length) = some 2 := by decide +kernel
theorem m_X3_endRebuild_f33 : Cond.fieldLink RX3 33 RX3 "goal" "I" ∈ wsX3_endRebuild := by decide +kernel
theorem m_X3_endRebuild_f24 : Cond.fieldLink RX3 24 RX3 "front" "I" ∈ wsX3_endRebuild := by decide +kernel
theorem m_X3_endRebuild_f27 : Cond.fieldLink RX3 27 RX3 "back" "I" ∈ wsX3_endRebuild := by decide +kernel
theorem m_X3_endRebuild_f30 : Cond.fieldLink RX3 30 RX3 "debt" "I" ∈ wsX3_endRebuild := by decide +kernel
theorem n_X3_endRebuild_X3 : ∀ w ∈ u_ws RX3 TX3 11, w ∈ wsX3_endRebuild := by decide +kernel
set_option maxRecDepth 100000 in
set_option maxHeartbeats 4000000 in
theorem e_X3_endRebuild_0 {X : VX} {B : VB} {z : Unit} {Gf : GH}  (hfx : (xl X).stackTraces = false) (hn : (xme X).name = "endRebuild") (hr : (xme X).sig.returnType = none) (hE : VE B (z, Gf))  (this : Nat) (G : GH) (hf : (f_X3_endRebuild this).1 G = some (z, Gf)) : V X RX3 cX3_endRebuild 2 1 20 wsX3_endRebuild B (QE X (vV z) Gf B) G 0 [(0, .ref this)] [] := by
  unfold f_X3_endRebuild at hf
  refine v_aload_n 0 dX3_endRebuild_0 rfl rfl ?_
  refine v_callVi 3 0 [] (c_X3_size (xl X) hfx this) gX3_endRebuild_X3_size rfl dv_X3_size (by decide) (by decide) rfl rfl dX3_endRebuild_1 (Nat.le_of_ble_eq_true rfl) rfl hE hf (fun x1 G hf => ?_)
  refine v_istore_n [(1, .int x1), (0, .ref this)] dX3_endRebuild_4 rfl (by decide) rfl ?_
  refine v_aload_n 1 dX3_endRebuild_5 rfl rfl ?_
  refine v_aload_n 1 dX3_endRebuild_6 rfl rfl ?_
  refine v_gi 3 7 n_X3_endRebuild_X3 rfl (by decide) rfl m_X3_endRebuild_f33 dX3_endRebuild_7 hf (fun x2 hf => ?_)
  refine v_put 3 4 .int n_X3_endRebuild_X3 tyX3 tyX3_ok nmX3 rfl (by decide) rfl m_X3_endRebuild_f24 rfl (by decide +kernel) rfl rfl dX3_endRebuild_10 hf (fun G _ hf => ?_)
  refine v_aload_n 1 dX3_endRebuild_13 rfl rfl ?_
  refine v_iload_n 0 dX3_endRebuild_14 rfl rfl ?_
  refine v_aload_n 1 dX3_endRebuild_15 rfl rfl ?_
  refine v_gi 3 7 n_X3_endRebuild_X3 rfl (by decide) rfl m_X3_endRebuild_f33 dX3_endRebuild_16 hf (fun x3 hf => ?_)
  refine v_isub dX3_endRebuild_19 ?_
  refine v_put 3 5 .int n_X3_endRebuild_X3 tyX3 tyX3_ok nmX3 rfl (by decide) rfl m_X3_endRebuild_f27 rfl (by decide +kernel) rfl rfl dX3_endRebuild_20 hf (fun G _ hf => ?_)
  refine v_aload_n 1 dX3_endRebuild_23 rfl rfl ?_
  refine v_iconst 0 dX3_endRebuild_24 (by decide) ?_
  refine v_put 3 6 .int n_X3_endRebuild_X3 tyX3 tyX3_ok nmX3 rfl (by decide) rfl m_X3_endRebuild_f30 rfl (by decide +kernel) rfl rfl dX3_endRebuild_25 hf (fun G _ hf => ?_)
  refine v_aload_n 1 dX3_endRebuild_28 rfl rfl ?_
  refine v_iconst (-1) dX3_endRebuild_29 (by decide) ?_
  refine v_put 3 7 .int n_X3_endRebuild_X3 tyX3 tyX3_ok nmX3 rfl (by decide) rfl m_X3_endRebuild_f33 rfl (by decide +kernel) rfl rfl dX3_endRebuild_30 hf (fun G _ hf => ?_)
  exact v_vret hr dX3_endRebuild_33 hE hf
theorem c_X3_endRebuild (l : Launch) (hfl : l.stackTraces = false) (this : Nat) : CM l yX3_endRebuild wsX3_endRebuild 1 20 [.ref this] vV (f_X3_endRebuild this) := CM.start hfl RX3 rfl (by decide +kernel) rfl (Nat.le_of_ble_eq_true rfl) (fun X G z Gf hl hn hr hf => e_X3_endRebuild_0 (by rw [hl]; exact hfl) hn hr ⟨rfl, rfl⟩ this G hf)
theorem dv_X3_endRebuild : yX3_endRebuild.cls = RX3 ∧ yX3_endRebuild.cls ≠ "java/lang/invoke/MethodHandle" ∧ yX3_endRebuild.cls ≠ "java/lang/invoke/VarHandle" ∧ (parseMethodDescriptor yX3_endRebuild.desc).map (fun d => d.parameters.length) = some 0 := by decide +kernel
theorem m_X3_fetchFromOtherPart_f27 : Cond.fieldLink RX3 27 RX3 "back" "I" ∈ wsX3_fetchFromOtherPart := by decide +kernel
theorem m_X3_fetchFromOtherPart_f36 : Cond.fieldLink RX3 36 RX3 "cost" "I" ∈ wsX3_fetchFromOtherPart := by decide +kernel
theorem m_X3_fetchFromOtherPart_f39 : Cond.fieldLink RX3 39 RX3 "extra" "I" ∈ wsX3_fetchFromOtherPart := by decide +kernel
theorem n_X3_fetchFromOtherPart_X3 : ∀ w ∈ u_ws RX3 TX3 11, w ∈ wsX3_fetchFromOtherPart := by decide +kernel
theorem m_X3_fetchFromOtherPart_f24 : Cond.fieldLink RX3 24 RX3 "front" "I" ∈ wsX3_fetchFromOtherPart := by decide +kernel
theorem m_X3_fetchFromOtherPart_f30 : Cond.fieldLink RX3 30 RX3 "debt" "I" ∈ wsX3_fetchFromOtherPart := by decide +kernel
set_option maxRecDepth 100000 in
set_option maxHeartbeats 4000000 in
theorem e_X3_fetchFromOtherPart_58 {X : VX} {B : VB} {z : Unit} {Gf : GH}  (hfx : (xl X).stackTraces = false) (hn : (xme X).name = "fetchFromOtherPart") (hr : (xme X).sig.returnType = none) (hE : VE B (z, Gf))  (this : Nat) (s0 : Int32) (G : GH) (hf : (f_X3_fetchFromOtherPart_58 this s0).1 G = some (z, Gf)) : V X RX3 cX3_fetchFromOtherPart 2 2 41 wsX3_fetchFromOtherPart B (QE X (vV z) Gf B) G 58 [(0, .ref this)] [.int s0] := by
  unfold f_X3_fetchFromOtherPart_58 at hf
  refine v_if_ne 76 dX3_fetchFromOtherPart_58 (by decide) hf (fun _ hf => ?_) (fun _ hf => ?_)
  · refine v_aload_n 0 dX3_fetchFromOtherPart_76 rfl rfl ?_
    refine v_dup dX3_fetchFromOtherPart_77 rfl ?_
    refine v_gi 3 8 n_X3_fetchFromOtherPart_X3 rfl (by decide) rfl m_X3_fetchFromOtherPart_f36 dX3_fetchFromOtherPart_78 hf (fun x4 hf => ?_)
    refine v_aload_n 0 dX3_fetchFromOtherPart_81 rfl rfl ?_
    refine v_gi 3 9 n_X3_fetchFromOtherPart_X3 rfl (by decide) rfl m_X3_fetchFromOtherPart_f39 dX3_fetchFromOtherPart_82 hf (fun x5 hf => ?_)
    refine v_iadd dX3_fetchFromOtherPart_85 ?_
    refine v_put 3 8 .int n_X3_fetchFromOtherPart_X3 tyX3 tyX3_ok nmX3 rfl (by decide) rfl m_X3_fetchFromOtherPart_f36 rfl (by decide +kernel) rfl rfl dX3_fetchFromOtherPart_86 hf (fun G _ hf => ?_)
    exact v_vret hr dX3_fetchFromOtherPart_89 hE hf
  · refine v_aload_n 0 dX3_fetchFromOtherPart_61 rfl rfl ?_
    refine v_dup dX3_fetchFromOtherPart_62 rfl ?_
    refine v_gi 3 9 n_X3_fetchFromOtherPart_X3 rfl (by decide) rfl m_X3_fetchFromOtherPart_f39 dX3_fetchFromOtherPart_63 hf (fun x6 hf => ?_)
    refine v_aload_n 0 dX3_fetchFromOtherPart_66 rfl rfl ?_
    refine v_callVi 3 0 [] (c_X3_size (xl X) hfx this) gX3_fetchFromOtherPart_X3_size rfl dv_X3_size (by decide) (by decide) rfl rfl dX3_fetchFromOtherPart_67 (Nat.le_of_ble_eq_true rfl) rfl hE hf (fun x7 G hf => ?_)
    refine v_iconst 1 dX3_fetchFromOtherPart_70 (by decide) ?_
    refine v_isub dX3_fetchFromOtherPart_71 ?_
    refine v_iadd dX3_fetchFromOtherPart_72 ?_
    refine v_put 3 9 .int n_X3_fetchFromOtherPart_X3 tyX3 tyX3_ok nmX3 rfl (by decide) rfl m_X3_fetchFromOtherPart_f39 rfl (by decide +kernel) rfl rfl dX3_fetchFromOtherPart_73 hf (fun G _ hf => ?_)
    refine v_aload_n 0 dX3_fetchFromOtherPart_76 rfl rfl ?_
    refine v_dup dX3_fetchFromOtherPart_77 rfl ?_
    refine v_gi 3 8 n_X3_fetchFromOtherPart_X3 rfl (by decide) rfl m_X3_fetchFromOtherPart_f36 dX3_fetchFromOtherPart_78 hf (fun x8 hf => ?_)
    refine v_aload_n 0 dX3_fetchFromOtherPart_81 rfl rfl ?_
    refine v_gi 3 9 n_X3_fetchFromOtherPart_X3 rfl (by decide) rfl m_X3_fetchFromOtherPart_f39 dX3_fetchFromOtherPart_82 hf (fun x9 hf => ?_)
    refine v_iadd dX3_fetchFromOtherPart_85 ?_
    refine v_put 3 8 .int n_X3_fetchFromOtherPart_X3 tyX3 tyX3_ok nmX3 rfl (by decide) rfl m_X3_fetchFromOtherPart_f36 rfl (by decide +kernel) rfl rfl dX3_fetchFromOtherPart_86 hf (fun G _ hf => ?_)
    exact v_vret hr dX3_fetchFromOtherPart_89 hE hf
set_option maxRecDepth 100000 in
set_option maxHeartbeats 4000000 in
theorem e_X3_fetchFromOtherPart_43 {X : VX} {B : VB} {z : Unit} {Gf : GH}  (hfx : (xl X).stackTraces = false) (hn : (xme X).name = "fetchFromOtherPart") (hr : (xme X).sig.returnType = none) (hE : VE B (z, Gf))  (this : Nat) (p1 : Int32) (G : GH) (hf : (f_X3_fetchFromOtherPart_43 this p1).1 G = some (z, Gf)) : V X RX3 cX3_fetchFromOtherPart 2 2 41 wsX3_fetchFromOtherPart B (QE X (vV z) Gf B) G 43 [(0, .ref this), (1, .int p1)] [] := by
  unfold f_X3_fetchFromOtherPart_43 at hf
  refine v_iload_n 1 dX3_fetchFromOtherPart_43 rfl rfl ?_
  refine v_if_eq 54 dX3_fetchFromOtherPart_44 (by decide) hf (fun _ hf => ?_) (fun _ hf => ?_)
  · refine v_aload_n 0 dX3_fetchFromOtherPart_54 rfl rfl ?_
    refine v_gi 3 5 n_X3_fetchFromOtherPart_X3 rfl (by decide) rfl m_X3_fetchFromOtherPart_f27 dX3_fetchFromOtherPart_55 hf (fun x3 hf => ?_)
    refine v_sub [0] rfl ?_
    exact e_X3_fetchFromOtherPart_58 hfx hn hr hE this x3 G hf
  · refine v_aload_n 0 dX3_fetchFromOtherPart_47 rfl rfl ?_
    refine v_gi 3 4 n_X3_fetchFromOtherPart_X3 rfl (by decide) rfl m_X3_fetchFromOtherPart_f24 dX3_fetchFromOtherPart_48 hf (fun x10 hf => ?_)
    refine v_goto 58 dX3_fetchFromOtherPart_51 (by decide) ?_
    refine v_sub [0] rfl ?_
    exact e_X3_fetchFromOtherPart_58 hfx hn hr hE this x10 G hf
set_option maxRecDepth 100000 in
set_option maxHeartbeats 4000000 in
theorem e_X3_fetchFromOtherPart_15 {X : VX} {B : VB} {z : Unit} {Gf : GH}  (hfx : (xl X).stackTraces = false) (hn : (xme X).name = "fetchFromOtherPart") (hr : (xme X).sig.returnType = none) (hE : VE B (z, Gf))  (this : Nat) (p1 : Int32) (s0 : Int32) (G : GH) (hf : (f_X3_fetchFromOtherPart_15 this p1 s0).1 G = some (z, Gf)) : V X RX3 cX3_fetchFromOtherPart 2 2 41 wsX3_fetchFromOtherPart B (QE X (vV z) Gf B) G 15 [(0, .ref this), (1, .int p1)] [.int s0] := by
  unfold f_X3_fetchFromOtherPart_15 at hf
  refine v_if_le 19 dX3_fetchFromOtherPart_15 (by decide) hf (fun _ hf => ?_) (fun _ hf => ?_)
  · refine v_aload_n 0 dX3_fetchFromOtherPart_19 rfl rfl ?_
    refine v_callVi 3 0 [] (c_X3_isRebuilding (xl X) hfx this) gX3_fetchFromOtherPart_X3_isRebuilding rfl dv_X3_isRebuilding (by decide) (by decide) rfl rfl dX3_fetchFromOtherPart_20 (Nat.le_of_ble_eq_true rfl) rfl hE hf (fun x2 G hf => ?_)
    refine v_if_eq 43 dX3_fetchFromOtherPart_23 (by decide) hf (fun _ hf => ?_) (fun _ hf => ?_)
    · refine v_sub [0, 1] rfl ?_
      exact e_X3_fetchFromOtherPart_43 hfx hn hr hE this p1 G hf
    · refine v_aload_n 0 dX3_fetchFromOtherPart_26 rfl rfl ?_
      refine v_dup dX3_fetchFromOtherPart_27 rfl ?_
      refine v_gi 3 9 n_X3_fetchFromOtherPart_X3 rfl (by decide) rfl m_X3_fetchFromOtherPart_f39 dX3_fetchFromOtherPart_28 hf (fun x11 hf => ?_)
      refine v_aload_n 0 dX3_fetchFromOtherPart_31 rfl rfl ?_
      refine v_gi 3 6 n_X3_fetchFromOtherPart_X3 rfl (by decide) rfl m_X3_fetchFromOtherPart_f30 dX3_fetchFromOtherPart_32 hf (fun x12 hf => ?_)
      refine v_iadd dX3_fetchFromOtherPart_35 ?_
      refine v_put 3 9 .int n_X3_fetchFromOtherPart_X3 tyX3 tyX3_ok nmX3 rfl (by decide) rfl m_X3_fetchFromOtherPart_f39 rfl (by decide +kernel) rfl rfl dX3_fetchFromOtherPart_36 hf (fun G _ hf => ?_)
      refine v_aload_n 0 dX3_fetchFromOtherPart_39 rfl rfl ?_
      refine v_callVv 3 0 [] (c_X3_endRebuild (xl X) hfx this) gX3_fetchFromOtherPart_X3_endRebuild rfl dv_X3_endRebuild (by decide) (by decide) rfl rfl dX3_fetchFromOtherPart_40 (Nat.le_of_ble_eq_true rfl) rfl hE hf (fun _ G hf => ?_)
      refine v_sub [0, 1] rfl ?_
      exact e_X3_fetchFromOtherPart_43 hfx hn hr hE this p1 G hf
  · exact v_vret hr dX3_fetchFromOtherPart_18 hE hf
set_option maxRecDepth 100000 in
set_option maxHeartbeats 4000000 in
theorem e_X3_fetchFromOtherPart_0 {X : VX} {B : VB} {z : Unit} {Gf : GH}  (hfx : (xl X).stackTraces = false) (hn : (xme X).name = "fetchFromOtherPart") (hr : (xme X).sig.returnType = none) (hE : VE B (z, Gf))  (this : Nat) (p1 : Int32) (G : GH) (hf : (f_X3_fetchFromOtherPart this p1).1 G = some (z, Gf)) : V X RX3 cX3_fetchFromOtherPart 2 2 41 wsX3_fetchFromOtherPart B (QE X (vV z) Gf B) G 0 [(0, .ref this), (1, .int p1)] [] := by
  unfold f_X3_fetchFromOtherPart at hf
  refine v_iload_n 1 dX3_fetchFromOtherPart_0 rfl rfl ?_
  refine v_if_eq 11 dX3_fetchFromOtherPart_1 (by decide) hf (fun _ hf => ?_) (fun _ hf => ?_)
  · refine v_aload_n 0 dX3_fetchFromOtherPart_11 rfl rfl ?_
    refine v_gi 3 5 n_X3_fetchFromOtherPart_X3 rfl (by decide) rfl m_X3_fetchFromOtherPart_f27 dX3_fetchFromOtherPart_12 hf (fun x1 hf => ?_)
    refine v_sub [0, 1] rfl ?_
    exact e_X3_fetchFromOtherPart_15 hfx hn hr hE this p1 x1 G hf
  · refine v_aload_n 0 dX3_fetchFromOtherPart_4 rfl rfl ?_
    refine v_gi 3 4 n_X3_fetchFromOtherPart_X3 rfl (by decide) rfl m_X3_fetchFromOtherPart_f24 dX3_fetchFromOtherPart_5 hf (fun x13 hf => ?_)
    refine v_goto 15 dX3_fetchFromOtherPart_8 (by decide) ?_
    refine v_sub [0, 1] rfl ?_
    exact e_X3_fetchFromOtherPart_15 hfx hn hr hE this p1 x13 G hf
theorem c_X3_fetchFromOtherPart (l : Launch) (hfl : l.stackTraces = false) (this : Nat) (p1 : Int32) : CM l yX3_fetchFromOtherPart wsX3_fetchFromOtherPart 2 41 [.ref this, .int p1] vV (f_X3_fetchFromOtherPart this p1) := CM.start hfl RX3 rfl (by decide +kernel) rfl (Nat.le_of_ble_eq_true rfl) (fun X G z Gf hl hn hr hf => e_X3_fetchFromOtherPart_0 (by rw [hl]; exact hfl) hn hr ⟨rfl, rfl⟩ this p1 G hf)
theorem dv_X3_fetchFromOtherPart : yX3_fetchFromOtherPart.cls = RX3 ∧ yX3_fetchFromOtherPart.cls ≠ "java/lang/invoke/MethodHandle" ∧ yX3_fetchFromOtherPart.cls ≠ "java/lang/invoke/VarHandle" ∧ (parseMethodDescriptor yX3_fetchFromOtherPart.desc).map (fun d => d.parameters.length) = some 1 := by decide +kernel
theorem m_X3_take_f18 : Cond.fieldLink RX3 18 RX3 "moved" "I" ∈ wsX3_take := by decide +kernel
theorem m_X3_take_f27 : Cond.fieldLink RX3 27 RX3 "back" "I" ∈ wsX3_take := by decide +kernel
theorem n_X3_take_X3 : ∀ w ∈ u_ws RX3 TX3 11, w ∈ wsX3_take := by decide +kernel
theorem m_X3_take_f24 : Cond.fieldLink RX3 24 RX3 "front" "I" ∈ wsX3_take := by decide +kernel
theorem m_X3_take_f42 : Cond.fieldLink RX3 42 RX3 "row" "[I" ∈ wsX3_take := by decide +kernel
theorem m_X3_take_itX4 : Cond.initialized RX4 ∈ wsX3_take := by decide +kernel
theorem m_X3_take_sy96 : Cond.static yX4_fill ∈ wsX3_take := by decide +kernel
set_option maxRecDepth 100000 in
set_option maxHeartbeats 4000000 in
theorem e_X3_take_87 {X : VX} {B : VB} {z : Unit} {Gf : GH}  (hfx : (xl X).stackTraces = false) (hn : (xme X).name = "take") (hr : (xme X).sig.returnType = none) (hE : VE B (z, Gf))  (this : Nat) (p1 : Int32) (s0 : Int32) (G : GH) (hf : (f_X3_take_87 this p1 s0).1 G = some (z, Gf)) : V X RX3 cX3_take 4 2 45 wsX3_take B (QE X (vV z) Gf B) G 87 [(0, .ref this), (1, .int p1)] [.int s0] := by
  unfold f_X3_take_87 at hf
  refine v_istore_n [(3, .int s0), (0, .ref this), (1, .int p1)] dX3_take_87 rfl (by decide) rfl ?_
  refine v_iload_n 0 dX3_take_88 rfl rfl ?_
  refine v_if_eq 105 dX3_take_89 (by decide) hf (fun _ hf => ?_) (fun _ hf => ?_)
  · refine v_aload_n 1 dX3_take_105 rfl rfl ?_
    refine v_dup dX3_take_106 rfl ?_
    refine v_gi 3 5 n_X3_take_X3 rfl (by decide) rfl m_X3_take_f27 dX3_take_107 hf (fun x4 hf => ?_)
    refine v_iconst 1 dX3_take_110 (by decide) ?_
    refine v_isub dX3_take_111 ?_
    refine v_put 3 5 .int n_X3_take_X3 tyX3 tyX3_ok nmX3 rfl (by decide) rfl m_X3_take_f27 rfl (by decide +kernel) rfl rfl dX3_take_112 hf (fun G _ hf => ?_)
    refine v_aload_n 1 dX3_take_115 rfl rfl ?_
    refine v_iload_n 2 dX3_take_116 rfl rfl ?_
    refine v_if_eq 124 dX3_take_117 (by decide) hf (fun _ hf => ?_) (fun _ hf => ?_)
    · refine v_iconst 0 dX3_take_124 (by decide) ?_
      refine v_callVv 3 1 [.int 0] (c_X3_moveGoal (xl X) hfx this 0) gX3_take_X3_moveGoal rfl dv_X3_moveGoal (by decide) (by decide) rfl rfl dX3_take_125 (Nat.le_of_ble_eq_true rfl) rfl hE hf (fun _ G hf => ?_)
      exact v_vret hr dX3_take_128 hE hf
    · refine v_iconst (-1) dX3_take_120 (by decide) ?_
      refine v_goto 125 dX3_take_121 (by decide) ?_
      refine v_callVv 3 1 [.int (-1)] (c_X3_moveGoal (xl X) hfx this (-1)) gX3_take_X3_moveGoal rfl dv_X3_moveGoal (by decide) (by decide) rfl rfl dX3_take_125 (Nat.le_of_ble_eq_true rfl) rfl hE hf (fun _ G hf => ?_)
      exact v_vret hr dX3_take_128 hE hf
  · refine v_aload_n 1 dX3_take_92 rfl rfl ?_
    refine v_dup dX3_take_93 rfl ?_
    refine v_gi 3 4 n_X3_take_X3 rfl (by decide) rfl m_X3_take_f24 dX3_take_94 hf (fun x5 hf => ?_)
    refine v_iconst 1 dX3_take_97 (by decide) ?_
    refine v_isub dX3_take_98 ?_
    refine v_put 3 4 .int n_X3_take_X3 tyX3 tyX3_ok nmX3 rfl (by decide) rfl m_X3_take_f24 rfl (by decide +kernel) rfl rfl dX3_take_99 hf (fun G _ hf => ?_)
    refine v_goto 115 dX3_take_102 (by decide) ?_
    refine v_aload_n 1 dX3_take_115 rfl rfl ?_
    refine v_iload_n 2 dX3_take_116 rfl rfl ?_
    refine v_if_eq 124 dX3_take_117 (by decide) hf (fun _ hf => ?_) (fun _ hf => ?_)
    · refine v_iconst 0 dX3_take_124 (by decide) ?_
      refine v_callVv 3 1 [.int 0] (c_X3_moveGoal (xl X) hfx this 0) gX3_take_X3_moveGoal rfl dv_X3_moveGoal (by decide) (by decide) rfl rfl dX3_take_125 (Nat.le_of_ble_eq_true rfl) rfl hE hf (fun _ G hf => ?_)
      exact v_vret hr dX3_take_128 hE hf
    · refine v_iconst (-1) dX3_take_120 (by decide) ?_
      refine v_goto 125 dX3_take_121 (by decide) ?_
      refine v_callVv 3 1 [.int (-1)] (c_X3_moveGoal (xl X) hfx this (-1)) gX3_take_X3_moveGoal rfl dv_X3_moveGoal (by decide) (by decide) rfl rfl dX3_take_125 (Nat.le_of_ble_eq_true rfl) rfl hE hf (fun _ G hf => ?_)
      exact v_vret hr dX3_take_128 hE hf
set_option maxRecDepth 100000 in
set_option maxHeartbeats 4000000 in
theorem e_X3_take_56 {X : VX} {B : VB} {z : Unit} {Gf : GH}  (hfx : (xl X).stackTraces = false) (hn : (xme X).name = "take") (hr : (xme X).sig.returnType = none) (hE : VE B (z, Gf))  (this : Nat) (p1 : Int32) (G : GH) (hf : (f_X3_take_56 this p1).1 G = some (z, Gf)) : V X RX3 cX3_take 4 2 45 wsX3_take B (QE X (vV z) Gf B) G 56 [(0, .ref this), (1, .int p1)] [] := by
  unfold f_X3_take_56 at hf
  refine v_iload_n 1 dX3_take_56 rfl rfl ?_
  refine v_if_eq 75 dX3_take_57 (by decide) hf (fun _ hf => ?_) (fun _ hf => ?_)
  · refine v_aload_n 0 dX3_take_75 rfl rfl ?_
    refine v_gi 3 5 n_X3_take_X3 rfl (by decide) rfl m_X3_take_f27 dX3_take_76 hf (fun x3 hf => ?_)
    refine v_if_ne 86 dX3_take_79 (by decide) hf (fun _ hf => ?_) (fun _ hf => ?_)
    · refine v_iconst 0 dX3_take_86 (by decide) ?_
      refine v_sub [0, 1] rfl ?_
      exact e_X3_take_87 hfx hn hr hE this p1 0 G hf
    · refine v_iconst 1 dX3_take_82 (by decide) ?_
      refine v_goto 87 dX3_take_83 (by decide) ?_
      refine v_sub [0, 1] rfl ?_
      exact e_X3_take_87 hfx hn hr hE this p1 1 G hf
  · refine v_aload_n 0 dX3_take_60 rfl rfl ?_
    refine v_gi 3 4 n_X3_take_X3 rfl (by decide) rfl m_X3_take_f24 dX3_take_61 hf (fun x6 hf => ?_)
    refine v_if_le 71 dX3_take_64 (by decide) hf (fun _ hf => ?_) (fun _ hf => ?_)
    · refine v_iconst 0 dX3_take_71 (by decide) ?_
      refine v_goto 87 dX3_take_72 (by decide) ?_
      refine v_sub [0, 1] rfl ?_
      exact e_X3_take_87 hfx hn hr hE this p1 0 G hf
    · refine v_iconst 1 dX3_take_67 (by decide) ?_
      refine v_goto 87 dX3_take_68 (by decide) ?_
      refine v_sub [0, 1] rfl ?_
      exact e_X3_take_87 hfx hn hr hE this p1 1 G hf
set_option maxRecDepth 100000 in
set_option maxHeartbeats 4000000 in
theorem e_X3_take_30 {X : VX} {B : VB} {z : Unit} {Gf : GH}  (hfx : (xl X).stackTraces = false) (hn : (xme X).name = "take") (hr : (xme X).sig.returnType = none) (hE : VE B (z, Gf))  : ∀ (n : Nat) (this : Nat) (p1 : Int32) (l2 : Int32) (l3 : Int32) (G : GH), (f_X3_take_30 n this p1 l2 l3).1 G = some (z, Gf) → V X RX3 cX3_take 4 2 45 wsX3_take B (QE X (vV z) Gf B) G 30 [(0, .ref this), (1, .int p1), (2, .int l2), (3, .int l3)] [] := by
  intro n
  induction n with
  | zero =>
    intro this p1 l2 l3 G hf
    have h0 : (none : Option (Unit × GH)) = some (z, Gf) := hf
    cases h0
  | succ n ih =>
    intro this p1 l2 l3 G hf
    rw [f_X3_take_30.eq_2] at hf
    refine v_iload_n 3 dX3_take_30 rfl rfl ?_
    refine v_iload_n 2 dX3_take_31 rfl rfl ?_
    refine v_icmp_ge 56 dX3_take_32 (by decide) hf (fun _ hf => ?_) (fun _ hf => ?_)
    · refine v_sub [0, 1] rfl ?_
      exact e_X3_take_56 hfx hn hr hE this p1 G hf
    · refine v_aload_n 0 dX3_take_35 rfl rfl ?_
      refine v_gr 3 10 n_X3_take_X3 rfl (by decide) rfl m_X3_take_f42 dX3_take_36 hf (fun r7 hf => ?_)
      refine v_iload_n 3 dX3_take_39 rfl rfl ?_
      refine v_aload_n 0 dX3_take_40 rfl rfl ?_
      refine v_iload_n 3 dX3_take_41 rfl rfl ?_
      refine v_iconst 1 dX3_take_42 (by decide) ?_
      refine v_iadd dX3_take_43 ?_
      refine v_callVi 3 1 [.int (l3 + 1)] (c_X3_look (xl X) hfx this (l3 + 1)) gX3_take_X3_look rfl dv_X3_look (by decide) (by decide) rfl rfl dX3_take_44 (Nat.le_of_ble_eq_true rfl) rfl hE hf (fun x8 G hf => ?_)
      refine v_callNv (host := RX4) 3 [.ref r7, .int l3, .int x8] (c_X4_fill (xl X) hfx r7 l3 x8) gX3_take_X4_fill_n96 (by decide +kernel) m_X3_take_itX4 m_X3_take_sy96 rfl dn_X4_fill (by decide) (by decide) rfl dX3_take_47 (Nat.le_of_ble_eq_true rfl) rfl hE hf (fun _ G hf => ?_)
      refine v_iinc 3 (l3 + 1) [(3, .int (l3 + 1)), (0, .ref this), (1, .int p1), (2, .int l2)] dX3_take_50 rfl (by rfl) (by decide) rfl ?_
      refine v_goto 30 dX3_take_53 (by decide) ?_
      refine v_sub [1, 2, 3, 0] rfl ?_
      exact ih this p1 l2 (l3 + 1) G hf
set_option maxRecDepth 100000 in
set_option maxHeartbeats 4000000 in
theorem e_X3_take_18 {X : VX} {B : VB} {z : Unit} {Gf : GH}  (hfx : (xl X).stackTraces = false) (hn : (xme X).name = "take") (hr : (xme X).sig.returnType = none) (hE : VE B (z, Gf))  (this : Nat) (p1 : Int32) (l2 : Int32) (s0 : Int32) (s1 : Nat) (s2 : Nat) (G : GH) (hf : (f_X3_take_18 this p1 l2 s0 s1 s2).1 G = some (z, Gf)) : V X RX3 cX3_take 4 2 45 wsX3_take B (QE X (vV z) Gf B) G 18 [(0, .ref this), (1, .int p1), (2, .int l2)] [.int s0, .ref s1, .ref s2] := by
  unfold f_X3_take_18 at hf
  refine v_callVi 3 1 [.int s0] (c_X3_look (xl X) hfx s1 s0) gX3_take_X3_look rfl dv_X3_look (by decide) (by decide) rfl rfl dX3_take_18 (Nat.le_of_ble_eq_true rfl) rfl hE hf (fun x2 G hf => ?_)
  refine v_put 3 2 .int n_X3_take_X3 tyX3 tyX3_ok nmX3 rfl (by decide) rfl m_X3_take_f18 rfl (by decide +kernel) rfl rfl dX3_take_21 hf (fun G _ hf => ?_)
  refine v_iload_n 1 dX3_take_24 rfl rfl ?_
  refine v_if_eq 56 dX3_take_25 (by decide) hf (fun _ hf => ?_) (fun _ hf => ?_)
  · refine v_sub [0, 1] rfl ?_
    exact e_X3_take_56 hfx hn hr hE this p1 G hf
  · refine v_iconst 0 dX3_take_28 (by decide) ?_
    refine v_istore_n [(3, .int 0), (0, .ref this), (1, .int p1), (2, .int l2)] dX3_take_29 rfl (by decide) rfl ?_
    refine v_sub [1, 2, 3, 0] rfl ?_
    exact e_X3_take_30 hfx hn hr hE FU this p1 l2 0 G hf
set_option maxRecDepth 100000 in
set_option maxHeartbeats 4000000 in
theorem e_X3_take_0 {X : VX} {B : VB} {z : Unit} {Gf : GH}  (hfx : (xl X).stackTraces = false) (hn : (xme X).name = "take") (hr : (xme X).sig.returnType = none) (hE : VE B (z, Gf))  (this : Nat) (p1 : Int32) (G : GH) (hf : (f_X3_take this p1).1 G = some (z, Gf)) : V X RX3 cX3_take 4 2 45 wsX3_take B (QE X (vV z) Gf B) G 0 [(0, .ref this), (1, .int p1)] [] := by
  unfold f_X3_take at hf
  refine v_aload_n 0 dX3_take_0 rfl rfl ?_
  refine v_callVi 3 0 [] (c_X3_size (xl X) hfx this) gX3_take_X3_size rfl dv_X3_size (by decide) (by decide) rfl rfl dX3_take_1 (Nat.le_of_ble_eq_true rfl) rfl hE hf (fun x1 G hf => ?_)
  refine v_iconst 1 dX3_take_4 (by decide) ?_
  refine v_isub dX3_take_5 ?_
  refine v_istore_n [(2, .int (x1 - 1)), (0, .ref this), (1, .int p1)] dX3_take_6 rfl (by decide) rfl ?_
  refine v_aload_n 1 dX3_take_7 rfl rfl ?_
  refine v_aload_n 1 dX3_take_8 rfl rfl ?_
  refine v_iload_n 2 dX3_take_9 rfl rfl ?_
  refine v_if_eq 17 dX3_take_10 (by decide) hf (fun _ hf => ?_) (fun _ hf => ?_)
  · refine v_iload_n 0 dX3_take_17 rfl rfl ?_
    refine v_sub [1, 2, 0] rfl ?_
    exact e_X3_take_18 hfx hn hr hE this p1 (x1 - 1) (x1 - 1) this this G hf
  · refine v_iconst 0 dX3_take_13 (by decide) ?_
    refine v_goto 18 dX3_take_14 (by decide) ?_
    refine v_sub [1, 2, 0] rfl ?_
    exact e_X3_take_18 hfx hn hr hE this p1 (x1 - 1) 0 this this G hf
theorem c_X3_take (l : Launch) (hfl : l.stackTraces = false) (this : Nat) (p1 : Int32) : CM l yX3_take wsX3_take 2 45 [.ref this, .int p1] vV (f_X3_take this p1) := CM.start hfl RX3 rfl (by decide +kernel) rfl (Nat.le_of_ble_eq_true rfl) (fun X G z Gf hl hn hr hf => e_X3_take_0 (by rw [hl]; exact hfl) hn hr ⟨rfl, rfl⟩ this p1 G hf)
theorem dv_X3_take : yX3_take.cls = RX3 ∧ yX3_take.cls ≠ "java/lang/invoke/MethodHandle" ∧ yX3_take.cls ≠ "java/lang/invoke/VarHandle" ∧ (parseMethodDescriptor yX3_take.desc).map (fun d => d.parameters.length) = some 1 := by decide +kernel
theorem m_X3_pay_f30 : Cond.fieldLink RX3 30 RX3 "debt" "I" ∈ wsX3_pay := by decide +kernel
theorem m_X3_pay_m109 : Cond.methodLink RX3 109 Lib.Math.min.name ∈ wsX3_pay := by decide +kernel
theorem m_X3_pay_msmin : Cond.static Lib.Math.min.name ∈ wsX3_pay := by decide +kernel
theorem m_X3_pay_mi : Cond.initialized "java/lang/Math" ∈ wsX3_pay := by decide +kernel
theorem m_X3_pay_mcmin : Cond.code Lib.Math.min.name Lib.Math.min.code 2 (some .int) ∈ wsX3_pay := by decide +kernel
theorem m_X3_pay_f36 : Cond.fieldLink RX3 36 RX3 "cost" "I" ∈ wsX3_pay := by decide +kernel
theorem n_X3_pay_X3 : ∀ w ∈ u_ws RX3 TX3 11, w ∈ wsX3_pay := by decide +kernel
set_option maxRecDepth 100000 in
set_option maxHeartbeats 4000000 in
theorem e_X3_pay_0 {X : VX} {B : VB} {z : Unit} {Gf : GH}  (hfx : (xl X).stackTraces = false) (hn : (xme X).name = "pay") (hr : (xme X).sig.returnType = none) (hE : VE B (z, Gf))  (this : Nat) (p1 : Int32) (G : GH) (hf : (f_X3_pay this p1).1 G = some (z, Gf)) : V X RX3 cX3_pay 3 2 41 wsX3_pay B (QE X (vV z) Gf B) G 0 [(0, .ref this), (1, .int p1)] [] := by
  unfold f_X3_pay at hf
  refine v_aload_n 0 dX3_pay_0 rfl rfl ?_
  refine v_callVi 3 0 [] (c_X3_isRebuilding (xl X) hfx this) gX3_pay_X3_isRebuilding rfl dv_X3_isRebuilding (by decide) (by decide) rfl rfl dX3_pay_1 (Nat.le_of_ble_eq_true rfl) rfl hE hf (fun x1 G hf => ?_)
  refine v_if_ne 8 dX3_pay_4 (by decide) hf (fun _ hf => ?_) (fun _ hf => ?_)
  · refine v_iload_n 1 dX3_pay_8 rfl rfl ?_
    refine v_aload_n 0 dX3_pay_9 rfl rfl ?_
    refine v_gi 3 6 n_X3_pay_X3 rfl (by decide) rfl m_X3_pay_f30 dX3_pay_10 hf (fun x2 hf => ?_)
    refine v_min m_X3_pay_m109 m_X3_pay_msmin m_X3_pay_mi m_X3_pay_mcmin dX3_pay_13 (by decide) (Nat.le_of_ble_eq_true rfl) hE hf ?_
    refine v_istore_n [(2, .int (if x2 < p1 then x2 else p1)), (0, .ref this), (1, .int p1)] dX3_pay_16 rfl (by decide) rfl ?_
    refine v_aload_n 1 dX3_pay_17 rfl rfl ?_
    refine v_dup dX3_pay_18 rfl ?_
    refine v_gi 3 8 n_X3_pay_X3 rfl (by decide) rfl m_X3_pay_f36 dX3_pay_19 hf (fun x3 hf => ?_)
    refine v_iload_n 0 dX3_pay_22 rfl rfl ?_
    refine v_iadd dX3_pay_23 ?_
    refine v_put 3 8 .int n_X3_pay_X3 tyX3 tyX3_ok nmX3 rfl (by decide) rfl m_X3_pay_f36 rfl (by decide +kernel) rfl rfl dX3_pay_24 hf (fun G _ hf => ?_)
    refine v_aload_n 1 dX3_pay_27 rfl rfl ?_
    refine v_dup dX3_pay_28 rfl ?_
    refine v_gi 3 6 n_X3_pay_X3 rfl (by decide) rfl m_X3_pay_f30 dX3_pay_29 hf (fun x4 hf => ?_)
    refine v_iload_n 0 dX3_pay_32 rfl rfl ?_
    refine v_isub dX3_pay_33 ?_
    refine v_put 3 6 .int n_X3_pay_X3 tyX3 tyX3_ok nmX3 rfl (by decide) rfl m_X3_pay_f30 rfl (by decide +kernel) rfl rfl dX3_pay_34 hf (fun G _ hf => ?_)
    refine v_aload_n 1 dX3_pay_37 rfl rfl ?_
    refine v_gi 3 6 n_X3_pay_X3 rfl (by decide) rfl m_X3_pay_f30 dX3_pay_38 hf (fun x5 hf => ?_)
    refine v_if_ne 48 dX3_pay_41 (by decide) hf (fun _ hf => ?_) (fun _ hf => ?_)
    · exact v_vret hr dX3_pay_48 hE hf
    · refine v_aload_n 1 dX3_pay_44 rfl rfl ?_
      refine v_callVv 3 0 [] (c_X3_endRebuild (xl X) hfx this) gX3_pay_X3_endRebuild rfl dv_X3_endRebuild (by decide) (by decide) rfl rfl dX3_pay_45 (Nat.le_of_ble_eq_true rfl) rfl hE hf (fun _ G hf => ?_)
      exact v_vret hr dX3_pay_48 hE hf
  · exact v_vret hr dX3_pay_7 hE hf
theorem c_X3_pay (l : Launch) (hfl : l.stackTraces = false) (this : Nat) (p1 : Int32) : CM l yX3_pay wsX3_pay 2 41 [.ref this, .int p1] vV (f_X3_pay this p1) := CM.start hfl RX3 rfl (by decide +kernel) rfl (Nat.le_of_ble_eq_true rfl) (fun X G z Gf hl hn hr hf => e_X3_pay_0 (by rw [hl]; exact hfl) hn hr ⟨rfl, rfl⟩ this p1 G hf)
theorem dv_X3_pay : yX3_pay.cls = RX3 ∧ yX3_pay.cls ≠ "java/lang/invoke/MethodHandle" ∧ yX3_pay.cls ≠ "java/lang/invoke/VarHandle" ∧ (parseMethodDescriptor yX3_pay.desc).map (fun d => d.parameters.length) = some 1 := by decide +kernel
theorem m_X3_beginRebuild_f24 : Cond.fieldLink RX3 24 RX3 "front" "I" ∈ wsX3_beginRebuild := by decide +kernel
theorem m_X3_beginRebuild_f27 : Cond.fieldLink RX3 27 RX3 "back" "I" ∈ wsX3_beginRebuild := by decide +kernel
theorem m_X3_beginRebuild_m103 : Cond.methodLink RX3 103 Lib.Math.max.name ∈ wsX3_beginRebuild := by decide +kernel
theorem m_X3_beginRebuild_msmax : Cond.static Lib.Math.max.name ∈ wsX3_beginRebuild := by decide +kernel
theorem m_X3_beginRebuild_mi : Cond.initialized "java/lang/Math" ∈ wsX3_beginRebuild := by decide +kernel
theorem m_X3_beginRebuild_mcmax : Cond.code Lib.Math.max.name Lib.Math.max.code 2 (some .int) ∈ wsX3_beginRebuild := by decide +kernel
theorem m_X3_beginRebuild_m109 : Cond.methodLink RX3 109 Lib.Math.min.name ∈ wsX3_beginRebuild := by decide +kernel
theorem m_X3_beginRebuild_msmin : Cond.static Lib.Math.min.name ∈ wsX3_beginRebuild := by decide +kernel
theorem m_X3_beginRebuild_mcmin : Cond.code Lib.Math.min.name Lib.Math.min.code 2 (some .int) ∈ wsX3_beginRebuild := by decide +kernel
theorem m_X3_beginRebuild_f30 : Cond.fieldLink RX3 30 RX3 "debt" "I" ∈ wsX3_beginRebuild := by decide +kernel
theorem m_X3_beginRebuild_f33 : Cond.fieldLink RX3 33 RX3 "goal" "I" ∈ wsX3_beginRebuild := by decide +kernel
theorem n_X3_beginRebuild_X3 : ∀ w ∈ u_ws RX3 TX3 11, w ∈ wsX3_beginRebuild := by decide +kernel
set_option maxRecDepth 100000 in
set_option maxHeartbeats 4000000 in
theorem e_X3_beginRebuild_0 {X : VX} {B : VB} {z : Unit} {Gf : GH}  (hfx : (xl X).stackTraces = false) (hn : (xme X).name = "beginRebuild") (hr : (xme X).sig.returnType = none) (hE : VE B (z, Gf))  (this : Nat) (p1 : Int32) (G : GH) (hf : (f_X3_beginRebuild this p1).1 G = some (z, Gf)) : V X RX3 cX3_beginRebuild 2 1 24 wsX3_beginRebuild B (QE X (vV z) Gf B) G 0 [(0, .ref this), (1, .int p1)] [] := by
  unfold f_X3_beginRebuild at hf
  refine v_aload_n 0 dX3_beginRebuild_0 rfl rfl ?_
  refine v_callVi 3 0 [] (c_X3_isRebuilding (xl X) hfx this) gX3_beginRebuild_X3_isRebuilding rfl dv_X3_isRebuilding (by decide) (by decide) rfl rfl dX3_beginRebuild_1 (Nat.le_of_ble_eq_true rfl) rfl hE hf (fun x1 G hf => ?_)
  refine v_if_ne 54 dX3_beginRebuild_4 (by decide) hf (fun _ hf => ?_) (fun _ hf => ?_)
  · exact v_vret hr dX3_beginRebuild_54 hE hf
  · refine v_aload_n 0 dX3_beginRebuild_7 rfl rfl ?_
    refine v_gi 3 4 n_X3_beginRebuild_X3 rfl (by decide) rfl m_X3_beginRebuild_f24 dX3_beginRebuild_8 hf (fun x2 hf => ?_)
    refine v_aload_n 0 dX3_beginRebuild_11 rfl rfl ?_
    refine v_gi 3 5 n_X3_beginRebuild_X3 rfl (by decide) rfl m_X3_beginRebuild_f27 dX3_beginRebuild_12 hf (fun x3 hf => ?_)
    refine v_max m_X3_beginRebuild_m103 m_X3_beginRebuild_msmax m_X3_beginRebuild_mi m_X3_beginRebuild_mcmax dX3_beginRebuild_15 (by decide) (Nat.le_of_ble_eq_true rfl) hE hf ?_
    refine v_iload_n 1 dX3_beginRebuild_18 rfl rfl ?_
    refine v_aload_n 0 dX3_beginRebuild_19 rfl rfl ?_
    refine v_gi 3 4 n_X3_beginRebuild_X3 rfl (by decide) rfl m_X3_beginRebuild_f24 dX3_beginRebuild_20 hf (fun x4 hf => ?_)
    refine v_aload_n 0 dX3_beginRebuild_23 rfl rfl ?_
    refine v_gi 3 5 n_X3_beginRebuild_X3 rfl (by decide) rfl m_X3_beginRebuild_f27 dX3_beginRebuild_24 hf (fun x5 hf => ?_)
    refine v_min m_X3_beginRebuild_m109 m_X3_beginRebuild_msmin m_X3_beginRebuild_mi m_X3_beginRebuild_mcmin dX3_beginRebuild_27 (by decide) (Nat.le_of_ble_eq_true rfl) hE hf ?_
    refine v_imul dX3_beginRebuild_30 ?_
    refine v_iconst 1 dX3_beginRebuild_31 (by decide) ?_
    refine v_iadd dX3_beginRebuild_32 ?_
    refine v_icmp_le 54 dX3_beginRebuild_33 (by decide) hf (fun _ hf => ?_) (fun _ hf => ?_)
    · exact v_vret hr dX3_beginRebuild_54 hE hf
    · refine v_aload_n 0 dX3_beginRebuild_36 rfl rfl ?_
      refine v_aload_n 0 dX3_beginRebuild_37 rfl rfl ?_
      refine v_callVi 3 0 [] (c_X3_size (xl X) hfx this) gX3_beginRebuild_X3_size rfl dv_X3_size (by decide) (by decide) rfl rfl dX3_beginRebuild_38 (Nat.le_of_ble_eq_true rfl) rfl hE hf (fun x6 G hf => ?_)
      refine v_put 3 6 .int n_X3_beginRebuild_X3 tyX3 tyX3_ok nmX3 rfl (by decide) rfl m_X3_beginRebuild_f30 rfl (by decide +kernel) rfl rfl dX3_beginRebuild_41 hf (fun G _ hf => ?_)
      refine v_aload_n 0 dX3_beginRebuild_44 rfl rfl ?_
      refine v_aload_n 0 dX3_beginRebuild_45 rfl rfl ?_
      refine v_callVi 3 0 [] (c_X3_size (xl X) hfx this) gX3_beginRebuild_X3_size rfl dv_X3_size (by decide) (by decide) rfl rfl dX3_beginRebuild_46 (Nat.le_of_ble_eq_true rfl) rfl hE hf (fun x7 G hf => ?_)
      refine v_iconst 2 dX3_beginRebuild_49 (by decide) ?_
      refine v_idiv dX3_beginRebuild_50 (by decide) ?_
      refine v_put 3 7 .int n_X3_beginRebuild_X3 tyX3 tyX3_ok nmX3 rfl (by decide) rfl m_X3_beginRebuild_f33 rfl (by decide +kernel) rfl rfl dX3_beginRebuild_51 hf (fun G _ hf => ?_)
      exact v_vret hr dX3_beginRebuild_54 hE hf
theorem c_X3_beginRebuild (l : Launch) (hfl : l.stackTraces = false) (this : Nat) (p1 : Int32) : CM l yX3_beginRebuild wsX3_beginRebuild 1 24 [.ref this, .int p1] vV (f_X3_beginRebuild this p1) := CM.start hfl RX3 rfl (by decide +kernel) rfl (Nat.le_of_ble_eq_true rfl) (fun X G z Gf hl hn hr hf => e_X3_beginRebuild_0 (by rw [hl]; exact hfl) hn hr ⟨rfl, rfl⟩ this p1 G hf)
theorem dv_X3_beginRebuild : yX3_beginRebuild.cls = RX3 ∧ yX3_beginRebuild.cls ≠ "java/lang/invoke/MethodHandle" ∧ yX3_beginRebuild.cls ≠ "java/lang/invoke/VarHandle" ∧ (parseMethodDescriptor yX3_beginRebuild.desc).map (fun d => d.parameters.length) = some 1 := by decide +kernel
theorem m_X3_perform_f15 : Cond.fieldLink RX3 15 RX3 "kind" "I" ∈ wsX3_perform := by decide +kernel
theorem m_X3_perform_f21 : Cond.fieldLink RX3 21 RX3 "depth" "I" ∈ wsX3_perform := by decide +kernel
theorem m_X3_perform_f36 : Cond.fieldLink RX3 36 RX3 "cost" "I" ∈ wsX3_perform := by decide +kernel
theorem m_X3_perform_f39 : Cond.fieldLink RX3 39 RX3 "extra" "I" ∈ wsX3_perform := by decide +kernel
theorem n_X3_perform_X3 : ∀ w ∈ u_ws RX3 TX3 11, w ∈ wsX3_perform := by decide +kernel
theorem m_X3_perform_itX4 : Cond.initialized RX4 ∈ wsX3_perform := by decide +kernel
theorem m_X3_perform_sy64 : Cond.static yX4_isPush ∈ wsX3_perform := by decide +kernel
theorem m_X3_perform_sy68 : Cond.static yX4_isAtFront ∈ wsX3_perform := by decide +kernel
set_option maxRecDepth 100000 in
set_option maxHeartbeats 4000000 in
theorem e_X3_perform_0 {X : VX} {B : VB} {z : Unit} {Gf : GH}  (hfx : (xl X).stackTraces = false) (hn : (xme X).name = "perform") (hr : (xme X).sig.returnType = none) (hE : VE B (z, Gf))  (this : Nat) (p1 : Int32) (p2 : Int32) (p3 : Int32) (p4 : Int32) (G : GH) (hf : (f_X3_perform this p1 p2 p3 p4).1 G = some (z, Gf)) : V X RX3 cX3_perform 6 3 69 wsX3_perform B (QE X (vV z) Gf B) G 0 [(0, .ref this), (1, .int p1), (2, .int p2), (3, .int p3), (4, .int p4)] [] := by
  unfold f_X3_perform at hf
  refine v_aload_n 0 dX3_perform_0 rfl rfl ?_
  refine v_iload_n 1 dX3_perform_1 rfl rfl ?_
  refine v_put 3 1 .int n_X3_perform_X3 tyX3 tyX3_ok nmX3 rfl (by decide) rfl m_X3_perform_f15 rfl (by decide +kernel) rfl rfl dX3_perform_2 hf (fun G _ hf => ?_)
  refine v_aload_n 0 dX3_perform_5 rfl rfl ?_
  refine v_dup dX3_perform_6 rfl ?_
  refine v_gi 3 3 n_X3_perform_X3 rfl (by decide) rfl m_X3_perform_f21 dX3_perform_7 hf (fun x1 hf => ?_)
  refine v_iconst 1 dX3_perform_10 (by decide) ?_
  refine v_iadd dX3_perform_11 ?_
  refine v_put 3 3 .int n_X3_perform_X3 tyX3 tyX3_ok nmX3 rfl (by decide) rfl m_X3_perform_f21 rfl (by decide +kernel) rfl rfl dX3_perform_12 hf (fun G _ hf => ?_)
  refine v_aload_n 0 dX3_perform_15 rfl rfl ?_
  refine v_iconst 0 dX3_perform_16 (by decide) ?_
  refine v_put 3 8 .int n_X3_perform_X3 tyX3 tyX3_ok nmX3 rfl (by decide) rfl m_X3_perform_f36 rfl (by decide +kernel) rfl rfl dX3_perform_17 hf (fun G _ hf => ?_)
  refine v_aload_n 0 dX3_perform_20 rfl rfl ?_
  refine v_iconst 0 dX3_perform_21 (by decide) ?_
  refine v_put 3 9 .int n_X3_perform_X3 tyX3 tyX3_ok nmX3 rfl (by decide) rfl m_X3_perform_f39 rfl (by decide +kernel) rfl rfl dX3_perform_22 hf (fun G _ hf => ?_)
  refine v_iload_n 1 dX3_perform_25 rfl rfl ?_
  refine v_callNi (host := RX4) 1 [.int p1] (c_X4_isAtFront (xl X) hfx p1) gX3_perform_X4_isAtFront_n68 (by decide +kernel) m_X3_perform_itX4 m_X3_perform_sy68 rfl dn_X4_isAtFront (by decide) (by decide) rfl dX3_perform_26 (Nat.le_of_ble_eq_true rfl) rfl hE hf (fun x2 G hf => ?_)
  refine v_istore [(5, .int x2), (0, .ref this), (1, .int p1), (2, .int p2), (3, .int p3), (4, .int p4)] dX3_perform_29 (by decide) rfl ?_
  refine v_iload_n 2 dX3_perform_31 rfl rfl ?_
  refine v_callNi (host := RX4) 1 [.int p1] (c_X4_isPush (xl X) hfx p1) gX3_perform_X4_isPush_n64 (by decide +kernel) m_X3_perform_itX4 m_X3_perform_sy64 rfl dn_X4_isPush (by decide) (by decide) rfl dX3_perform_32 (Nat.le_of_ble_eq_true rfl) rfl hE hf (fun x3 G hf => ?_)
  refine v_if_eq 48 dX3_perform_35 (by decide) hf (fun _ hf => ?_) (fun _ hf => ?_)
  · refine v_aload_n 1 dX3_perform_48 rfl rfl ?_
    refine v_iload 0 dX3_perform_49 rfl ?_
    refine v_callVv 3 1 [.int x2] (c_X3_fetchFromOtherPart (xl X) hfx this x2) gX3_perform_X3_fetchFromOtherPart rfl dv_X3_fetchFromOtherPart (by decide) (by decide) rfl rfl dX3_perform_51 (Nat.le_of_ble_eq_true rfl) rfl hE hf (fun _ G hf => ?_)
    refine v_aload_n 1 dX3_perform_54 rfl rfl ?_
    refine v_iload 0 dX3_perform_55 rfl ?_
    refine v_callVv 3 1 [.int x2] (c_X3_take (xl X) hfx this x2) gX3_perform_X3_take rfl dv_X3_take (by decide) (by decide) rfl rfl dX3_perform_57 (Nat.le_of_ble_eq_true rfl) rfl hE hf (fun _ G hf => ?_)
    refine v_aload_n 1 dX3_perform_60 rfl rfl ?_
    refine v_dup dX3_perform_61 rfl ?_
    refine v_gi 3 8 n_X3_perform_X3 rfl (by decide) rfl m_X3_perform_f36 dX3_perform_62 hf (fun x4 hf => ?_)
    refine v_iconst 1 dX3_perform_65 (by decide) ?_
    refine v_iadd dX3_perform_66 ?_
    refine v_put 3 8 .int n_X3_perform_X3 tyX3 tyX3_ok nmX3 rfl (by decide) rfl m_X3_perform_f36 rfl (by decide +kernel) rfl rfl dX3_perform_67 hf (fun G _ hf => ?_)
    refine v_aload_n 1 dX3_perform_70 rfl rfl ?_
    refine v_iload_n 4 dX3_perform_71 rfl rfl ?_
    refine v_callVv 3 1 [.int p3] (c_X3_pay (xl X) hfx this p3) gX3_perform_X3_pay rfl dv_X3_pay (by decide) (by decide) rfl rfl dX3_perform_72 (Nat.le_of_ble_eq_true rfl) rfl hE hf (fun _ G hf => ?_)
    refine v_aload_n 1 dX3_perform_75 rfl rfl ?_
    refine v_iload 5 dX3_perform_76 rfl ?_
    refine v_callVv 3 1 [.int p4] (c_X3_beginRebuild (xl X) hfx this p4) gX3_perform_X3_beginRebuild rfl dv_X3_beginRebuild (by decide) (by decide) rfl rfl dX3_perform_78 (Nat.le_of_ble_eq_true rfl) rfl hE hf (fun _ G hf => ?_)
    exact v_vret hr dX3_perform_81 hE hf
  · refine v_aload_n 1 dX3_perform_38 rfl rfl ?_
    refine v_iload_n 3 dX3_perform_39 rfl rfl ?_
    refine v_iload 0 dX3_perform_40 rfl ?_
    refine v_callVv 3 2 [.int p2, .int x2] (c_X3_put (xl X) hfx this p2 x2) gX3_perform_X3_put rfl dv_X3_put (by decide) (by decide) rfl rfl dX3_perform_42 (Nat.le_of_ble_eq_true rfl) rfl hE hf (fun _ G hf => ?_)
    refine v_goto 60 dX3_perform_45 (by decide) ?_
    refine v_aload_n 1 dX3_perform_60 rfl rfl ?_
    refine v_dup dX3_perform_61 rfl ?_
    refine v_gi 3 8 n_X3_perform_X3 rfl (by decide) rfl m_X3_perform_f36 dX3_perform_62 hf (fun x5 hf => ?_)
    refine v_iconst 1 dX3_perform_65 (by decide) ?_
    refine v_iadd dX3_perform_66 ?_
    refine v_put 3 8 .int n_X3_perform_X3 tyX3 tyX3_ok nmX3 rfl (by decide) rfl m_X3_perform_f36 rfl (by decide +kernel) rfl rfl dX3_perform_67 hf (fun G _ hf => ?_)
    refine v_aload_n 1 dX3_perform_70 rfl rfl ?_
    refine v_iload_n 4 dX3_perform_71 rfl rfl ?_
    refine v_callVv 3 1 [.int p3] (c_X3_pay (xl X) hfx this p3) gX3_perform_X3_pay rfl dv_X3_pay (by decide) (by decide) rfl rfl dX3_perform_72 (Nat.le_of_ble_eq_true rfl) rfl hE hf (fun _ G hf => ?_)
    refine v_aload_n 1 dX3_perform_75 rfl rfl ?_
    refine v_iload 5 dX3_perform_76 rfl ?_
    refine v_callVv 3 1 [.int p4] (c_X3_beginRebuild (xl X) hfx this p4) gX3_perform_X3_beginRebuild rfl dv_X3_beginRebuild (by decide) (by decide) rfl rfl dX3_perform_78 (Nat.le_of_ble_eq_true rfl) rfl hE hf (fun _ G hf => ?_)
    exact v_vret hr dX3_perform_81 hE hf
theorem c_X3_perform (l : Launch) (hfl : l.stackTraces = false) (this : Nat) (p1 : Int32) (p2 : Int32) (p3 : Int32) (p4 : Int32) : CM l yX3_perform wsX3_perform 3 69 [.ref this, .int p1, .int p2, .int p3, .int p4] vV (f_X3_perform this p1 p2 p3 p4) := CM.start hfl RX3 rfl (by decide +kernel) rfl (Nat.le_of_ble_eq_true rfl) (fun X G z Gf hl hn hr hf => e_X3_perform_0 (by rw [hl]; exact hfl) hn hr ⟨rfl, rfl⟩ this p1 p2 p3 p4 G hf)
theorem dv_X3_perform : yX3_perform.cls = RX3 ∧ yX3_perform.cls ≠ "java/lang/invoke/MethodHandle" ∧ yX3_perform.cls ≠ "java/lang/invoke/VarHandle" ∧ (parseMethodDescriptor yX3_perform.desc).map (fun d => d.parameters.length) = some 4 := by decide +kernel
