/-! walks of the text (class X0) -/
theorem m_X0_init_o3 : Cond.methodLink RX0 3 objectInit ∈ wsX0_init := by decide +kernel
theorem m_X0_init_oi : Cond.instanceMethod objectInit ∈ wsX0_init := by decide +kernel
theorem m_X0_init_oc : Cond.code objectInit ⟨#[0xb1]⟩ 1 none ∈ wsX0_init := by decide +kernel
theorem m_X0_init_f9 : Cond.fieldLink RX0 9 RX0 "length" "I" ∈ wsX0_init := by decide +kernel
theorem m_X0_init_f15 : Cond.fieldLink RX0 15 RX0 "acts" "I" ∈ wsX0_init := by decide +kernel
theorem m_X0_init_ai : Cond.arrayClass .int ∈ wsX0_init := by decide +kernel
theorem m_X0_init_f18 : Cond.fieldLink RX0 18 RX0 "bytes" "[I" ∈ wsX0_init := by decide +kernel
theorem m_X0_init_f22 : Cond.fieldLink RX0 22 RX0 "kinds" "[I" ∈ wsX0_init := by decide +kernel
theorem m_X0_init_f25 : Cond.fieldLink RX0 25 RX0 "values" "[I" ∈ wsX0_init := by decide +kernel
theorem m_X0_init_f28 : Cond.fieldLink RX0 28 RX0 "kind" "I" ∈ wsX0_init := by decide +kernel
theorem m_X0_init_f31 : Cond.fieldLink RX0 31 RX0 "negative" "Z" ∈ wsX0_init := by decide +kernel
theorem m_X0_init_f35 : Cond.fieldLink RX0 35 RX0 "number" "I" ∈ wsX0_init := by decide +kernel
theorem n_X0_init_X0 : ∀ w ∈ u_ws RX0 TX0 8, w ∈ wsX0_init := by decide +kernel
set_option maxRecDepth 100000 in
set_option maxHeartbeats 4000000 in
theorem e_X0_init_0 {X : VX} {B : VB} {z : Unit} {Gf : GH}  (hfx : (xl X).stackTraces = false) (hn : (xme X).name = "<init>") (hr : (xme X).sig.returnType = none) (hE : VE B (z, Gf))  (this : Nat) (G : GH) (hf : (f_X0_init this).1 G = some (z, Gf)) : V X RX0 cX0_init 1 1 12 wsX0_init B (QE X (vV z) Gf B) G 0 [(0, .ref this)] [] := by
  unfold f_X0_init at hf
  refine v_aload_n 0 dX0_init_0 rfl rfl ?_
  refine v_objInit m_X0_init_o3 m_X0_init_oi m_X0_init_oc dX0_init_1 (by decide) (by decide) ?_
  refine v_aload_n 0 dX0_init_4 rfl rfl ?_
  refine v_iconst 0 dX0_init_5 (by decide) ?_
  refine v_put 0 0 .int n_X0_init_X0 tyX0 tyX0_ok nmX0 rfl (by decide) rfl m_X0_init_f9 rfl (by decide +kernel) rfl rfl dX0_init_6 hf (fun G _ hf => ?_)
  refine v_aload_n 0 dX0_init_9 rfl rfl ?_
  refine v_iconst 0 dX0_init_10 (by decide) ?_
  refine v_put 0 1 .int n_X0_init_X0 tyX0 tyX0_ok nmX0 rfl (by decide) rfl m_X0_init_f15 rfl (by decide +kernel) rfl rfl dX0_init_11 hf (fun G _ hf => ?_)
  refine v_aload_n 0 dX0_init_14 rfl rfl ?_
  refine v_bipush 100 dX0_init_15 (by decide) ?_
  refine v_newi m_X0_init_ai dX0_init_17 hE hf (fun a1 G hf => ?_)
  refine v_putF 0 2 (.array .int) hn n_X0_init_X0 tyX0 tyX0_ok nmX0 rfl (by decide) rfl m_X0_init_f18 rfl rfl (by decide +kernel) rfl rfl dX0_init_19 hf (fun G _ hf => ?_)
  refine v_aload_n 0 dX0_init_22 rfl rfl ?_
  refine v_bipush 50 dX0_init_23 (by decide) ?_
  refine v_newi m_X0_init_ai dX0_init_25 hE hf (fun a2 G hf => ?_)
  refine v_putF 0 3 (.array .int) hn n_X0_init_X0 tyX0 tyX0_ok nmX0 rfl (by decide) rfl m_X0_init_f22 rfl rfl (by decide +kernel) rfl rfl dX0_init_27 hf (fun G _ hf => ?_)
  refine v_aload_n 0 dX0_init_30 rfl rfl ?_
  refine v_bipush 50 dX0_init_31 (by decide) ?_
  refine v_newi m_X0_init_ai dX0_init_33 hE hf (fun a3 G hf => ?_)
  refine v_putF 0 4 (.array .int) hn n_X0_init_X0 tyX0 tyX0_ok nmX0 rfl (by decide) rfl m_X0_init_f25 rfl rfl (by decide +kernel) rfl rfl dX0_init_35 hf (fun G _ hf => ?_)
  refine v_aload_n 0 dX0_init_38 rfl rfl ?_
  refine v_iconst 0 dX0_init_39 (by decide) ?_
  refine v_put 0 5 .int n_X0_init_X0 tyX0 tyX0_ok nmX0 rfl (by decide) rfl m_X0_init_f28 rfl (by decide +kernel) rfl rfl dX0_init_40 hf (fun G _ hf => ?_)
  refine v_aload_n 0 dX0_init_43 rfl rfl ?_
  refine v_iconst 0 dX0_init_44 (by decide) ?_
  refine v_put 0 6 .boolean n_X0_init_X0 tyX0 tyX0_ok nmX0 rfl (by decide) rfl m_X0_init_f31 rfl (by decide +kernel) (by decide) rfl dX0_init_45 hf (fun G _ hf => ?_)
  refine v_aload_n 0 dX0_init_48 rfl rfl ?_
  refine v_iconst 0 dX0_init_49 (by decide) ?_
  refine v_put 0 7 .int n_X0_init_X0 tyX0 tyX0_ok nmX0 rfl (by decide) rfl m_X0_init_f35 rfl (by decide +kernel) rfl rfl dX0_init_50 hf (fun G _ hf => ?_)
  exact v_vret hr dX0_init_53 hE hf
theorem c_X0_init (l : Launch) (hfl : l.stackTraces = false) (this : Nat) : CM l yX0_init wsX0_init 1 12 [.ref this] vV (f_X0_init this) := CM.start hfl RX0 rfl (by decide +kernel) rfl (Nat.le_of_ble_eq_true rfl) (fun X G z Gf hl hn hr hf => e_X0_init_0 (by rw [hl]; exact hfl) hn hr ⟨rfl, rfl⟩ this G hf)
theorem dn_X0_init : yX0_init.cls ≠ "java/lang/invoke/MethodHandle" ∧ yX0_init.cls ≠ "java/lang/invoke/VarHandle" ∧ (parseMethodDescriptor yX0_init.desc).map (fun d => d.parameters.length) = some 0 := by decide +kernel
theorem m_X0_extend_f18 : Cond.fieldLink RX0 18 RX0 "bytes" "[I" ∈ wsX0_extend := by decide +kernel
theorem m_X0_extend_f9 : Cond.fieldLink RX0 9 RX0 "length" "I" ∈ wsX0_extend := by decide +kernel
theorem n_X0_extend_X0 : ∀ w ∈ u_ws RX0 TX0 8, w ∈ wsX0_extend := by decide +kernel
theorem m_X0_extend_itX4 : Cond.initialized RX4 ∈ wsX0_extend := by decide +kernel
theorem m_X0_extend_sy38 : Cond.static yX4_fill ∈ wsX0_extend := by decide +kernel
set_option maxRecDepth 100000 in
set_option maxHeartbeats 4000000 in
theorem e_X0_extend_0 {X : VX} {B : VB} {z : Unit} {Gf : GH}  (hfx : (xl X).stackTraces = false) (hn : (xme X).name = "extend") (hr : (xme X).sig.returnType = none) (hE : VE B (z, Gf))  (this : Nat) (p1 : Int32) (G : GH) (hf : (f_X0_extend this p1).1 G = some (z, Gf)) : V X RX0 cX0_extend 2 1 22 wsX0_extend B (QE X (vV z) Gf B) G 0 [(0, .ref this), (1, .int p1)] [] := by
  unfold f_X0_extend at hf
  refine v_aload_n 0 dX0_extend_0 rfl rfl ?_
  refine v_gr 0 2 n_X0_extend_X0 rfl (by decide) rfl m_X0_extend_f18 dX0_extend_1 hf (fun r1 hf => ?_)
  refine v_aload_n 0 dX0_extend_4 rfl rfl ?_
  refine v_gi 0 0 n_X0_extend_X0 rfl (by decide) rfl m_X0_extend_f9 dX0_extend_5 hf (fun x2 hf => ?_)
  refine v_iload_n 1 dX0_extend_8 rfl rfl ?_
  refine v_callNv (host := RX4) 3 [.ref r1, .int x2, .int p1] (c_X4_fill (xl X) hfx r1 x2 p1) gX0_extend_X4_fill_n38 (by decide +kernel) m_X0_extend_itX4 m_X0_extend_sy38 rfl dn_X4_fill (by decide) (by decide) rfl dX0_extend_9 (Nat.le_of_ble_eq_true rfl) rfl hE hf (fun _ G hf => ?_)
  refine v_aload_n 0 dX0_extend_12 rfl rfl ?_
  refine v_dup dX0_extend_13 rfl ?_
  refine v_gi 0 0 n_X0_extend_X0 rfl (by decide) rfl m_X0_extend_f9 dX0_extend_14 hf (fun x3 hf => ?_)
  refine v_iconst 1 dX0_extend_17 (by decide) ?_
  refine v_iadd dX0_extend_18 ?_
  refine v_put 0 0 .int n_X0_extend_X0 tyX0 tyX0_ok nmX0 rfl (by decide) rfl m_X0_extend_f9 rfl (by decide +kernel) rfl rfl dX0_extend_19 hf (fun G _ hf => ?_)
  exact v_vret hr dX0_extend_22 hE hf
theorem c_X0_extend (l : Launch) (hfl : l.stackTraces = false) (this : Nat) (p1 : Int32) : CM l yX0_extend wsX0_extend 1 22 [.ref this, .int p1] vV (f_X0_extend this p1) := CM.start hfl RX0 rfl (by decide +kernel) rfl (Nat.le_of_ble_eq_true rfl) (fun X G z Gf hl hn hr hf => e_X0_extend_0 (by rw [hl]; exact hfl) hn hr ⟨rfl, rfl⟩ this p1 G hf)
theorem dv_X0_extend : yX0_extend.cls = RX0 ∧ yX0_extend.cls ≠ "java/lang/invoke/MethodHandle" ∧ yX0_extend.cls ≠ "java/lang/invoke/VarHandle" ∧ (parseMethodDescriptor yX0_extend.desc).map (fun d => d.parameters.length) = some 1 := by decide +kernel
theorem m_X0_actAt_f22 : Cond.fieldLink RX0 22 RX0 "kinds" "[I" ∈ wsX0_actAt := by decide +kernel
theorem m_X0_actAt_itX4 : Cond.initialized RX4 ∈ wsX0_actAt := by decide +kernel
theorem m_X0_actAt_sy42 : Cond.static yX4_cell ∈ wsX0_actAt := by decide +kernel
theorem n_X0_actAt_X0 : ∀ w ∈ u_ws RX0 TX0 8, w ∈ wsX0_actAt := by decide +kernel
set_option maxRecDepth 100000 in
set_option maxHeartbeats 4000000 in
theorem e_X0_actAt_0 {X : VX} {B : VB} {z : Int32} {Gf : GH}  (hfx : (xl X).stackTraces = false) (hn : (xme X).name = "actAt") (hr : (xme X).sig.returnType = (some .int)) (hE : VE B (z, Gf))  (this : Nat) (p1 : Int32) (G : GH) (hf : (f_X0_actAt this p1).1 G = some (z, Gf)) : V X RX0 cX0_actAt 2 1 21 wsX0_actAt B (QE X (vI z) Gf B) G 0 [(0, .ref this), (1, .int p1)] [] := by
  unfold f_X0_actAt at hf
  refine v_aload_n 0 dX0_actAt_0 rfl rfl ?_
  refine v_gr 0 3 n_X0_actAt_X0 rfl (by decide) rfl m_X0_actAt_f22 dX0_actAt_1 hf (fun r1 hf => ?_)
  refine v_iload_n 1 dX0_actAt_4 rfl rfl ?_
  refine v_callNi (host := RX4) 2 [.ref r1, .int p1] (c_X4_cell (xl X) hfx r1 p1) gX0_actAt_X4_cell_n42 (by decide +kernel) m_X0_actAt_itX4 m_X0_actAt_sy42 rfl dn_X4_cell (by decide) (by decide) rfl dX0_actAt_5 (Nat.le_of_ble_eq_true rfl) rfl hE hf (fun x2 G hf => ?_)
  exact v_iret hr dX0_actAt_8 hE hf
theorem c_X0_actAt (l : Launch) (hfl : l.stackTraces = false) (this : Nat) (p1 : Int32) : CM l yX0_actAt wsX0_actAt 1 21 [.ref this, .int p1] vI (f_X0_actAt this p1) := CM.start hfl RX0 rfl (by decide +kernel) rfl (Nat.le_of_ble_eq_true rfl) (fun X G z Gf hl hn hr hf => e_X0_actAt_0 (by rw [hl]; exact hfl) hn hr ⟨rfl, rfl⟩ this p1 G hf)
theorem dv_X0_actAt : yX0_actAt.cls = RX0 ∧ yX0_actAt.cls ≠ "java/lang/invoke/MethodHandle" ∧ yX0_actAt.cls ≠ "java/lang/invoke/VarHandle" ∧ (parseMethodDescriptor yX0_actAt.desc).map (fun d => d.parameters.length) = some 1 := by decide +kernel
theorem m_X0_valueAt_f25 : Cond.fieldLink RX0 25 RX0 "values" "[I" ∈ wsX0_valueAt := by decide +kernel
theorem m_X0_valueAt_itX4 : Cond.initialized RX4 ∈ wsX0_valueAt := by decide +kernel
theorem m_X0_valueAt_sy42 : Cond.static yX4_cell ∈ wsX0_valueAt := by decide +kernel
theorem n_X0_valueAt_X0 : ∀ w ∈ u_ws RX0 TX0 8, w ∈ wsX0_valueAt := by decide +kernel
set_option maxRecDepth 100000 in
set_option maxHeartbeats 4000000 in
theorem e_X0_valueAt_0 {X : VX} {B : VB} {z : Int32} {Gf : GH}  (hfx : (xl X).stackTraces = false) (hn : (xme X).name = "valueAt") (hr : (xme X).sig.returnType = (some .int)) (hE : VE B (z, Gf))  (this : Nat) (p1 : Int32) (G : GH) (hf : (f_X0_valueAt this p1).1 G = some (z, Gf)) : V X RX0 cX0_valueAt 2 1 21 wsX0_valueAt B (QE X (vI z) Gf B) G 0 [(0, .ref this), (1, .int p1)] [] := by
  unfold f_X0_valueAt at hf
  refine v_aload_n 0 dX0_valueAt_0 rfl rfl ?_
  refine v_gr 0 4 n_X0_valueAt_X0 rfl (by decide) rfl m_X0_valueAt_f25 dX0_valueAt_1 hf (fun r1 hf => ?_)
  refine v_iload_n 1 dX0_valueAt_4 rfl rfl ?_
  refine v_callNi (host := RX4) 2 [.ref r1, .int p1] (c_X4_cell (xl X) hfx r1 p1) gX0_valueAt_X4_cell_n42 (by decide +kernel) m_X0_valueAt_itX4 m_X0_valueAt_sy42 rfl dn_X4_cell (by decide) (by decide) rfl dX0_valueAt_5 (Nat.le_of_ble_eq_true rfl) rfl hE hf (fun x2 G hf => ?_)
  exact v_iret hr dX0_valueAt_8 hE hf
theorem c_X0_valueAt (l : Launch) (hfl : l.stackTraces = false) (this : Nat) (p1 : Int32) : CM l yX0_valueAt wsX0_valueAt 1 21 [.ref this, .int p1] vI (f_X0_valueAt this p1) := CM.start hfl RX0 rfl (by decide +kernel) rfl (Nat.le_of_ble_eq_true rfl) (fun X G z Gf hl hn hr hf => e_X0_valueAt_0 (by rw [hl]; exact hfl) hn hr ⟨rfl, rfl⟩ this p1 G hf)
theorem dv_X0_valueAt : yX0_valueAt.cls = RX0 ∧ yX0_valueAt.cls ≠ "java/lang/invoke/MethodHandle" ∧ yX0_valueAt.cls ≠ "java/lang/invoke/VarHandle" ∧ (parseMethodDescriptor yX0_valueAt.desc).map (fun d => d.parameters.length) = some 1 := by decide +kernel
theorem m_X0_begin_f31 : Cond.fieldLink RX0 31 RX0 "negative" "Z" ∈ wsX0_begin := by decide +kernel
theorem m_X0_begin_f35 : Cond.fieldLink RX0 35 RX0 "number" "I" ∈ wsX0_begin := by decide +kernel
theorem m_X0_begin_f28 : Cond.fieldLink RX0 28 RX0 "kind" "I" ∈ wsX0_begin := by decide +kernel
theorem n_X0_begin_X0 : ∀ w ∈ u_ws RX0 TX0 8, w ∈ wsX0_begin := by decide +kernel
set_option maxRecDepth 100000 in
set_option maxHeartbeats 4000000 in
theorem e_X0_begin_0 {X : VX} {B : VB} {z : Int32} {Gf : GH}  (hfx : (xl X).stackTraces = false) (hn : (xme X).name = "begin") (hr : (xme X).sig.returnType = (some .int)) (hE : VE B (z, Gf))  (this : Nat) (p1 : Int32) (G : GH) (hf : (f_X0_begin this p1).1 G = some (z, Gf)) : V X RX0 cX0_begin 2 0 0 wsX0_begin B (QE X (vI z) Gf B) G 0 [(0, .ref this), (1, .int p1)] [] := by
  unfold f_X0_begin at hf
  refine v_aload_n 0 dX0_begin_0 rfl rfl ?_
  refine v_iconst 0 dX0_begin_1 (by decide) ?_
  refine v_put 0 6 .boolean n_X0_begin_X0 tyX0 tyX0_ok nmX0 rfl (by decide) rfl m_X0_begin_f31 rfl (by decide +kernel) (by decide) rfl dX0_begin_2 hf (fun G _ hf => ?_)
  refine v_aload_n 0 dX0_begin_5 rfl rfl ?_
  refine v_iconst 0 dX0_begin_6 (by decide) ?_
  refine v_put 0 7 .int n_X0_begin_X0 tyX0 tyX0_ok nmX0 rfl (by decide) rfl m_X0_begin_f35 rfl (by decide +kernel) rfl rfl dX0_begin_7 hf (fun G _ hf => ?_)
  refine v_iload_n 1 dX0_begin_10 rfl rfl ?_
  refine v_cases (c := p1 = 98) hf (fun c11_0 hf => ?_) (fun c11_0 hf => ?_)
  · refine v_lookup (off := 48) 59 dX0_begin_11 (by decide) (by rw [c11_0]; decide) (by decide) ?_
    refine v_aload_n 0 dX0_begin_59 rfl rfl ?_
    refine v_iconst 1 dX0_begin_60 (by decide) ?_
    refine v_put 0 5 .int n_X0_begin_X0 tyX0 tyX0_ok nmX0 rfl (by decide) rfl m_X0_begin_f28 rfl (by decide +kernel) rfl rfl dX0_begin_61 hf (fun G _ hf => ?_)
    refine v_iconst 1 dX0_begin_64 (by decide) ?_
    exact v_iret hr dX0_begin_65 hE hf
  · refine v_cases (c := p1 = 102) hf (fun c11_1 hf => ?_) (fun c11_1 hf => ?_)
    · refine v_lookup (off := 41) 52 dX0_begin_11 (by decide) (by rw [c11_1]; decide) (by decide) ?_
      refine v_aload_n 0 dX0_begin_52 rfl rfl ?_
      refine v_iconst 0 dX0_begin_53 (by decide) ?_
      refine v_put 0 5 .int n_X0_begin_X0 tyX0 tyX0_ok nmX0 rfl (by decide) rfl m_X0_begin_f28 rfl (by decide +kernel) rfl rfl dX0_begin_54 hf (fun G _ hf => ?_)
      refine v_iconst 1 dX0_begin_57 (by decide) ?_
      exact v_iret hr dX0_begin_58 hE hf
    · refine v_cases (c := p1 = 120) hf (fun c11_2 hf => ?_) (fun c11_2 hf => ?_)
      · refine v_lookup (off := 55) 66 dX0_begin_11 (by decide) (by rw [c11_2]; decide) (by decide) ?_
        refine v_aload_n 0 dX0_begin_66 rfl rfl ?_
        refine v_iconst 2 dX0_begin_67 (by decide) ?_
        refine v_put 0 5 .int n_X0_begin_X0 tyX0 tyX0_ok nmX0 rfl (by decide) rfl m_X0_begin_f28 rfl (by decide +kernel) rfl rfl dX0_begin_68 hf (fun G _ hf => ?_)
        refine v_iconst 5 dX0_begin_71 (by decide) ?_
        exact v_iret hr dX0_begin_72 hE hf
      · refine v_cases (c := p1 = 121) hf (fun c11_3 hf => ?_) (fun c11_3 hf => ?_)
        · refine v_lookup (off := 62) 73 dX0_begin_11 (by decide) (by rw [c11_3]; decide) (by decide) ?_
          refine v_aload_n 0 dX0_begin_73 rfl rfl ?_
          refine v_iconst 3 dX0_begin_74 (by decide) ?_
          refine v_put 0 5 .int n_X0_begin_X0 tyX0 tyX0_ok nmX0 rfl (by decide) rfl m_X0_begin_f28 rfl (by decide +kernel) rfl rfl dX0_begin_75 hf (fun G _ hf => ?_)
          refine v_iconst 5 dX0_begin_78 (by decide) ?_
          exact v_iret hr dX0_begin_79 hE hf
        · refine v_lookup (off := 69) 80 dX0_begin_11 (by decide) (lk_out c11_0 c11_1 c11_2 c11_3) (by decide) ?_
          refine v_iconst (-1) dX0_begin_80 (by decide) ?_
          exact v_iret hr dX0_begin_81 hE hf
theorem c_X0_begin (l : Launch) (hfl : l.stackTraces = false) (this : Nat) (p1 : Int32) : CM l yX0_begin wsX0_begin 0 0 [.ref this, .int p1] vI (f_X0_begin this p1) := CM.start hfl RX0 rfl (by decide +kernel) rfl (Nat.le_of_ble_eq_true rfl) (fun X G z Gf hl hn hr hf => e_X0_begin_0 (by rw [hl]; exact hfl) hn hr ⟨rfl, rfl⟩ this p1 G hf)
theorem dv_X0_begin : yX0_begin.cls = RX0 ∧ yX0_begin.cls ≠ "java/lang/invoke/MethodHandle" ∧ yX0_begin.cls ≠ "java/lang/invoke/VarHandle" ∧ (parseMethodDescriptor yX0_begin.desc).map (fun d => d.parameters.length) = some 1 := by decide +kernel
theorem m_X0_end_f22 : Cond.fieldLink RX0 22 RX0 "kinds" "[I" ∈ wsX0_end := by decide +kernel
theorem m_X0_end_f15 : Cond.fieldLink RX0 15 RX0 "acts" "I" ∈ wsX0_end := by decide +kernel
theorem m_X0_end_f28 : Cond.fieldLink RX0 28 RX0 "kind" "I" ∈ wsX0_end := by decide +kernel
theorem m_X0_end_f25 : Cond.fieldLink RX0 25 RX0 "values" "[I" ∈ wsX0_end := by decide +kernel
theorem m_X0_end_f31 : Cond.fieldLink RX0 31 RX0 "negative" "Z" ∈ wsX0_end := by decide +kernel
theorem m_X0_end_f35 : Cond.fieldLink RX0 35 RX0 "number" "I" ∈ wsX0_end := by decide +kernel
theorem n_X0_end_X0 : ∀ w ∈ u_ws RX0 TX0 8, w ∈ wsX0_end := by decide +kernel
theorem m_X0_end_itX4 : Cond.initialized RX4 ∈ wsX0_end := by decide +kernel
theorem m_X0_end_sy38 : Cond.static yX4_fill ∈ wsX0_end := by decide +kernel
set_option maxRecDepth 100000 in
set_option maxHeartbeats 4000000 in
theorem e_X0_end_0 {X : VX} {B : VB} {z : Unit} {Gf : GH}  (hfx : (xl X).stackTraces = false) (hn : (xme X).name = "end") (hr : (xme X).sig.returnType = none) (hE : VE B (z, Gf))  (this : Nat) (G : GH) (hf : (f_X0_end this).1 G = some (z, Gf)) : V X RX0 cX0_end 1 1 22 wsX0_end B (QE X (vV z) Gf B) G 0 [(0, .ref this)] [] := by
  unfold f_X0_end at hf
  refine v_aload_n 0 dX0_end_0 rfl rfl ?_
  refine v_gr 0 3 n_X0_end_X0 rfl (by decide) rfl m_X0_end_f22 dX0_end_1 hf (fun r1 hf => ?_)
  refine v_aload_n 0 dX0_end_4 rfl rfl ?_
  refine v_gi 0 1 n_X0_end_X0 rfl (by decide) rfl m_X0_end_f15 dX0_end_5 hf (fun x2 hf => ?_)
  refine v_aload_n 0 dX0_end_8 rfl rfl ?_
  refine v_gi 0 5 n_X0_end_X0 rfl (by decide) rfl m_X0_end_f28 dX0_end_9 hf (fun x3 hf => ?_)
  refine v_callNv (host := RX4) 3 [.ref r1, .int x2, .int x3] (c_X4_fill (xl X) hfx r1 x2 x3) gX0_end_X4_fill_n38 (by decide +kernel) m_X0_end_itX4 m_X0_end_sy38 rfl dn_X4_fill (by decide) (by decide) rfl dX0_end_12 (Nat.le_of_ble_eq_true rfl) rfl hE hf (fun _ G hf => ?_)
  refine v_aload_n 0 dX0_end_15 rfl rfl ?_
  refine v_gr 0 4 n_X0_end_X0 rfl (by decide) rfl m_X0_end_f25 dX0_end_16 hf (fun r4 hf => ?_)
  refine v_aload_n 0 dX0_end_19 rfl rfl ?_
  refine v_gi 0 1 n_X0_end_X0 rfl (by decide) rfl m_X0_end_f15 dX0_end_20 hf (fun x5 hf => ?_)
  refine v_aload_n 0 dX0_end_23 rfl rfl ?_
  refine v_gi 0 6 n_X0_end_X0 rfl (by decide) rfl m_X0_end_f31 dX0_end_24 hf (fun x6 hf => ?_)
  refine v_if_eq 38 dX0_end_27 (by decide) hf (fun _ hf => ?_) (fun _ hf => ?_)
  · refine v_aload_n 0 dX0_end_38 rfl rfl ?_
    refine v_gi 0 7 n_X0_end_X0 rfl (by decide) rfl m_X0_end_f35 dX0_end_39 hf (fun x7 hf => ?_)
    refine v_callNv (host := RX4) 3 [.ref r4, .int x5, .int x7] (c_X4_fill (xl X) hfx r4 x5 x7) gX0_end_X4_fill_n38 (by decide +kernel) m_X0_end_itX4 m_X0_end_sy38 rfl dn_X4_fill (by decide) (by decide) rfl dX0_end_42 (Nat.le_of_ble_eq_true rfl) rfl hE hf (fun _ G hf => ?_)
    refine v_aload_n 0 dX0_end_45 rfl rfl ?_
    refine v_dup dX0_end_46 rfl ?_
    refine v_gi 0 1 n_X0_end_X0 rfl (by decide) rfl m_X0_end_f15 dX0_end_47 hf (fun x8 hf => ?_)
    refine v_iconst 1 dX0_end_50 (by decide) ?_
    refine v_iadd dX0_end_51 ?_
    refine v_put 0 1 .int n_X0_end_X0 tyX0 tyX0_ok nmX0 rfl (by decide) rfl m_X0_end_f15 rfl (by decide +kernel) rfl rfl dX0_end_52 hf (fun G _ hf => ?_)
    exact v_vret hr dX0_end_55 hE hf
  · refine v_aload_n 0 dX0_end_30 rfl rfl ?_
    refine v_gi 0 7 n_X0_end_X0 rfl (by decide) rfl m_X0_end_f35 dX0_end_31 hf (fun x9 hf => ?_)
    refine v_ineg dX0_end_34 ?_
    refine v_goto 42 dX0_end_35 (by decide) ?_
    refine v_callNv (host := RX4) 3 [.ref r4, .int x5, .int (-x9)] (c_X4_fill (xl X) hfx r4 x5 (-x9)) gX0_end_X4_fill_n38 (by decide +kernel) m_X0_end_itX4 m_X0_end_sy38 rfl dn_X4_fill (by decide) (by decide) rfl dX0_end_42 (Nat.le_of_ble_eq_true rfl) rfl hE hf (fun _ G hf => ?_)
    refine v_aload_n 0 dX0_end_45 rfl rfl ?_
    refine v_dup dX0_end_46 rfl ?_
    refine v_gi 0 1 n_X0_end_X0 rfl (by decide) rfl m_X0_end_f15 dX0_end_47 hf (fun x10 hf => ?_)
    refine v_iconst 1 dX0_end_50 (by decide) ?_
    refine v_iadd dX0_end_51 ?_
    refine v_put 0 1 .int n_X0_end_X0 tyX0 tyX0_ok nmX0 rfl (by decide) rfl m_X0_end_f15 rfl (by decide +kernel) rfl rfl dX0_end_52 hf (fun G _ hf => ?_)
    exact v_vret hr dX0_end_55 hE hf
theorem c_X0_end (l : Launch) (hfl : l.stackTraces = false) (this : Nat) : CM l yX0_end wsX0_end 1 22 [.ref this] vV (f_X0_end this) := CM.start hfl RX0 rfl (by decide +kernel) rfl (Nat.le_of_ble_eq_true rfl) (fun X G z Gf hl hn hr hf => e_X0_end_0 (by rw [hl]; exact hfl) hn hr ⟨rfl, rfl⟩ this G hf)
theorem dv_X0_end : yX0_end.cls = RX0 ∧ yX0_end.cls ≠ "java/lang/invoke/MethodHandle" ∧ yX0_end.cls ≠ "java/lang/invoke/VarHandle" ∧ (parseMethodDescriptor yX0_end.desc).map (fun d => d.parameters.length) = some 0 := by decide +kernel
theorem m_X0_next_f35 : Cond.fieldLink RX0 35 RX0 "number" "I" ∈ wsX0_next := by decide +kernel
theorem n_X0_next_X0 : ∀ w ∈ u_ws RX0 TX0 8, w ∈ wsX0_next := by decide +kernel
theorem m_X0_next_f31 : Cond.fieldLink RX0 31 RX0 "negative" "Z" ∈ wsX0_next := by decide +kernel
set_option maxRecDepth 100000 in
set_option maxHeartbeats 4000000 in
theorem e_X0_next_28 {X : VX} {B : VB} {z : Int32} {Gf : GH}  (hfx : (xl X).stackTraces = false) (hn : (xme X).name = "next") (hr : (xme X).sig.returnType = (some .int)) (hE : VE B (z, Gf))  (this : Nat) (p1 : Int32) (p2 : Int32) (G : GH) (hf : (f_X0_next_28 this p1 p2).1 G = some (z, Gf)) : V X RX0 cX0_next 3 2 42 wsX0_next B (QE X (vI z) Gf B) G 28 [(0, .ref this), (1, .int p1), (2, .int p2)] [] := by
  unfold f_X0_next_28 at hf
  refine v_iload_n 2 dX0_next_28 rfl rfl ?_
  refine v_bipush 48 dX0_next_29 (by decide) ?_
  refine v_icmp_lt 74 dX0_next_31 (by decide) hf (fun _ hf => ?_) (fun _ hf => ?_)
  · refine v_iload_n 2 dX0_next_74 rfl rfl ?_
    refine v_bipush 59 dX0_next_75 (by decide) ?_
    refine v_icmp_ne 91 dX0_next_77 (by decide) hf (fun _ hf => ?_) (fun _ hf => ?_)
    · refine v_iconst (-1) dX0_next_91 (by decide) ?_
      exact v_iret hr dX0_next_92 hE hf
    · refine v_iload_n 1 dX0_next_80 rfl rfl ?_
      refine v_iconst 3 dX0_next_81 (by decide) ?_
      refine v_icmp_lt 91 dX0_next_82 (by decide) hf (fun _ hf => ?_) (fun _ hf => ?_)
      · refine v_iconst (-1) dX0_next_91 (by decide) ?_
        exact v_iret hr dX0_next_92 hE hf
      · refine v_aload_n 0 dX0_next_85 rfl rfl ?_
        refine v_callVv 0 0 [] (c_X0_end (xl X) hfx this) gX0_next_X0_end rfl dv_X0_end (by decide) (by decide) rfl rfl dX0_next_86 (Nat.le_of_ble_eq_true rfl) rfl hE hf (fun _ G hf => ?_)
        refine v_iconst 0 dX0_next_89 (by decide) ?_
        exact v_iret hr dX0_next_90 hE hf
  · refine v_iload_n 2 dX0_next_34 rfl rfl ?_
    refine v_bipush 57 dX0_next_35 (by decide) ?_
    refine v_icmp_gt 74 dX0_next_37 (by decide) hf (fun _ hf => ?_) (fun _ hf => ?_)
    · refine v_iload_n 2 dX0_next_74 rfl rfl ?_
      refine v_bipush 59 dX0_next_75 (by decide) ?_
      refine v_icmp_ne 91 dX0_next_77 (by decide) hf (fun _ hf => ?_) (fun _ hf => ?_)
      · refine v_iconst (-1) dX0_next_91 (by decide) ?_
        exact v_iret hr dX0_next_92 hE hf
      · refine v_iload_n 1 dX0_next_80 rfl rfl ?_
        refine v_iconst 3 dX0_next_81 (by decide) ?_
        refine v_icmp_lt 91 dX0_next_82 (by decide) hf (fun _ hf => ?_) (fun _ hf => ?_)
        · refine v_iconst (-1) dX0_next_91 (by decide) ?_
          exact v_iret hr dX0_next_92 hE hf
        · refine v_aload_n 0 dX0_next_85 rfl rfl ?_
          refine v_callVv 0 0 [] (c_X0_end (xl X) hfx this) gX0_next_X0_end rfl dv_X0_end (by decide) (by decide) rfl rfl dX0_next_86 (Nat.le_of_ble_eq_true rfl) rfl hE hf (fun _ G hf => ?_)
          refine v_iconst 0 dX0_next_89 (by decide) ?_
          exact v_iret hr dX0_next_90 hE hf
    · refine v_iload_n 1 dX0_next_40 rfl rfl ?_
      refine v_iconst 5 dX0_next_41 (by decide) ?_
      refine v_icmp_ge 74 dX0_next_42 (by decide) hf (fun _ hf => ?_) (fun _ hf => ?_)
      · refine v_iload_n 2 dX0_next_74 rfl rfl ?_
        refine v_bipush 59 dX0_next_75 (by decide) ?_
        refine v_icmp_ne 91 dX0_next_77 (by decide) hf (fun _ hf => ?_) (fun _ hf => ?_)
        · refine v_iconst (-1) dX0_next_91 (by decide) ?_
          exact v_iret hr dX0_next_92 hE hf
        · refine v_iload_n 1 dX0_next_80 rfl rfl ?_
          refine v_iconst 3 dX0_next_81 (by decide) ?_
          refine v_icmp_lt 91 dX0_next_82 (by decide) hf (fun _ hf => ?_) (fun _ hf => ?_)
          · refine v_iconst (-1) dX0_next_91 (by decide) ?_
            exact v_iret hr dX0_next_92 hE hf
          · refine v_aload_n 0 dX0_next_85 rfl rfl ?_
            refine v_callVv 0 0 [] (c_X0_end (xl X) hfx this) gX0_next_X0_end rfl dv_X0_end (by decide) (by decide) rfl rfl dX0_next_86 (Nat.le_of_ble_eq_true rfl) rfl hE hf (fun _ G hf => ?_)
            refine v_iconst 0 dX0_next_89 (by decide) ?_
            exact v_iret hr dX0_next_90 hE hf
      · refine v_aload_n 0 dX0_next_45 rfl rfl ?_
        refine v_aload_n 0 dX0_next_46 rfl rfl ?_
        refine v_gi 0 7 n_X0_next_X0 rfl (by decide) rfl m_X0_next_f35 dX0_next_47 hf (fun x1 hf => ?_)
        refine v_bipush 10 dX0_next_50 (by decide) ?_
        refine v_imul dX0_next_52 ?_
        refine v_iload_n 2 dX0_next_53 rfl rfl ?_
        refine v_bipush 48 dX0_next_54 (by decide) ?_
        refine v_isub dX0_next_56 ?_
        refine v_iadd dX0_next_57 ?_
        refine v_put 0 7 .int n_X0_next_X0 tyX0 tyX0_ok nmX0 rfl (by decide) rfl m_X0_next_f35 rfl (by decide +kernel) rfl rfl dX0_next_58 hf (fun G _ hf => ?_)
        refine v_iload_n 1 dX0_next_61 rfl rfl ?_
        refine v_iconst 3 dX0_next_62 (by decide) ?_
        refine v_icmp_ge 70 dX0_next_63 (by decide) hf (fun _ hf => ?_) (fun _ hf => ?_)
        · refine v_iload_n 1 dX0_next_70 rfl rfl ?_
          refine v_iconst 1 dX0_next_71 (by decide) ?_
          refine v_iadd dX0_next_72 ?_
          exact v_iret hr dX0_next_73 hE hf
        · refine v_iconst 3 dX0_next_66 (by decide) ?_
          refine v_goto 73 dX0_next_67 (by decide) ?_
          exact v_iret hr dX0_next_73 hE hf
set_option maxRecDepth 100000 in
set_option maxHeartbeats 4000000 in
theorem e_X0_next_0 {X : VX} {B : VB} {z : Int32} {Gf : GH}  (hfx : (xl X).stackTraces = false) (hn : (xme X).name = "next") (hr : (xme X).sig.returnType = (some .int)) (hE : VE B (z, Gf))  (this : Nat) (p1 : Int32) (p2 : Int32) (G : GH) (hf : (f_X0_next this p1 p2).1 G = some (z, Gf)) : V X RX0 cX0_next 3 2 42 wsX0_next B (QE X (vI z) Gf B) G 0 [(0, .ref this), (1, .int p1), (2, .int p2)] [] := by
  unfold f_X0_next at hf
  refine v_iload_n 1 dX0_next_0 rfl rfl ?_
  refine v_if_ne 10 dX0_next_1 (by decide) hf (fun _ hf => ?_) (fun _ hf => ?_)
  · refine v_iload_n 2 dX0_next_10 rfl rfl ?_
    refine v_bipush 45 dX0_next_11 (by decide) ?_
    refine v_icmp_ne 28 dX0_next_13 (by decide) hf (fun _ hf => ?_) (fun _ hf => ?_)
    · refine v_sub [0, 1, 2] rfl ?_
      exact e_X0_next_28 hfx hn hr hE this p1 p2 G hf
    · refine v_iload_n 1 dX0_next_16 rfl rfl ?_
      refine v_iconst 1 dX0_next_17 (by decide) ?_
      refine v_icmp_ne 28 dX0_next_18 (by decide) hf (fun _ hf => ?_) (fun _ hf => ?_)
      · refine v_sub [0, 1, 2] rfl ?_
        exact e_X0_next_28 hfx hn hr hE this p1 p2 G hf
      · refine v_aload_n 0 dX0_next_21 rfl rfl ?_
        refine v_iconst 1 dX0_next_22 (by decide) ?_
        refine v_put 0 6 .boolean n_X0_next_X0 tyX0 tyX0_ok nmX0 rfl (by decide) rfl m_X0_next_f31 rfl (by decide +kernel) (by decide) rfl dX0_next_23 hf (fun G _ hf => ?_)
        refine v_iconst 2 dX0_next_26 (by decide) ?_
        exact v_iret hr dX0_next_27 hE hf
  · refine v_aload_n 0 dX0_next_4 rfl rfl ?_
    refine v_iload_n 2 dX0_next_5 rfl rfl ?_
    refine v_callVi 0 1 [.int p2] (c_X0_begin (xl X) hfx this p2) gX0_next_X0_begin rfl dv_X0_begin (by decide) (by decide) rfl rfl dX0_next_6 (Nat.le_of_ble_eq_true rfl) rfl hE hf (fun x2 G hf => ?_)
    exact v_iret hr dX0_next_9 hE hf
theorem c_X0_next (l : Launch) (hfl : l.stackTraces = false) (this : Nat) (p1 : Int32) (p2 : Int32) : CM l yX0_next wsX0_next 2 42 [.ref this, .int p1, .int p2] vI (f_X0_next this p1 p2) := CM.start hfl RX0 rfl (by decide +kernel) rfl (Nat.le_of_ble_eq_true rfl) (fun X G z Gf hl hn hr hf => e_X0_next_0 (by rw [hl]; exact hfl) hn hr ⟨rfl, rfl⟩ this p1 p2 G hf)
theorem dv_X0_next : yX0_next.cls = RX0 ∧ yX0_next.cls ≠ "java/lang/invoke/MethodHandle" ∧ yX0_next.cls ≠ "java/lang/invoke/VarHandle" ∧ (parseMethodDescriptor yX0_next.desc).map (fun d => d.parameters.length) = some 2 := by decide +kernel
theorem m_X0_read_f15 : Cond.fieldLink RX0 15 RX0 "acts" "I" ∈ wsX0_read := by decide +kernel
theorem m_X0_read_f9 : Cond.fieldLink RX0 9 RX0 "length" "I" ∈ wsX0_read := by decide +kernel
theorem n_X0_read_X0 : ∀ w ∈ u_ws RX0 TX0 8, w ∈ wsX0_read := by decide +kernel
theorem m_X0_read_f18 : Cond.fieldLink RX0 18 RX0 "bytes" "[I" ∈ wsX0_read := by decide +kernel
theorem m_X0_read_itX4 : Cond.initialized RX4 ∈ wsX0_read := by decide +kernel
theorem m_X0_read_sy42 : Cond.static yX4_cell ∈ wsX0_read := by decide +kernel
set_option maxRecDepth 100000 in
set_option maxHeartbeats 4000000 in
theorem e_X0_read_9 {X : VX} {B : VB} {z : Int32} {Gf : GH}  (hfx : (xl X).stackTraces = false) (hn : (xme X).name = "read") (hr : (xme X).sig.returnType = (some .int)) (hE : VE B (z, Gf))  : ∀ (n : Nat) (this : Nat) (l1 : Int32) (l2 : Int32) (G : GH), (f_X0_read_9 n this l1 l2).1 G = some (z, Gf) → V X RX0 cX0_read 3 3 64 wsX0_read B (QE X (vI z) Gf B) G 9 [(0, .ref this), (1, .int l1), (2, .int l2)] [] := by
  intro n
  induction n with
  | zero =>
    intro this l1 l2 G hf
    have h0 : (none : Option (Int32 × GH)) = some (z, Gf) := hf
    cases h0
  | succ n ih =>
    intro this l1 l2 G hf
    rw [f_X0_read_9.eq_2] at hf
    refine v_iload_n 2 dX0_read_9 rfl rfl ?_
    refine v_aload_n 0 dX0_read_10 rfl rfl ?_
    refine v_gi 0 0 n_X0_read_X0 rfl (by decide) rfl m_X0_read_f9 dX0_read_11 hf (fun x1 hf => ?_)
    refine v_icmp_ge 44 dX0_read_14 (by decide) hf (fun _ hf => ?_) (fun _ hf => ?_)
    · refine v_iload_n 1 dX0_read_44 rfl rfl ?_
      refine v_if_ne 52 dX0_read_45 (by decide) hf (fun _ hf => ?_) (fun _ hf => ?_)
      · refine v_aload_n 0 dX0_read_52 rfl rfl ?_
        refine v_gi 0 0 n_X0_read_X0 rfl (by decide) rfl m_X0_read_f9 dX0_read_53 hf (fun x2 hf => ?_)
        exact v_iret hr dX0_read_56 hE hf
      · refine v_iconst (-1) dX0_read_48 (by decide) ?_
        refine v_goto 56 dX0_read_49 (by decide) ?_
        exact v_iret hr dX0_read_56 hE hf
    · refine v_aload_n 0 dX0_read_17 rfl rfl ?_
      refine v_iload_n 1 dX0_read_18 rfl rfl ?_
      refine v_aload_n 0 dX0_read_19 rfl rfl ?_
      refine v_gr 0 2 n_X0_read_X0 rfl (by decide) rfl m_X0_read_f18 dX0_read_20 hf (fun r3 hf => ?_)
      refine v_iload_n 2 dX0_read_23 rfl rfl ?_
      refine v_callNi (host := RX4) 2 [.ref r3, .int l2] (c_X4_cell (xl X) hfx r3 l2) gX0_read_X4_cell_n42 (by decide +kernel) m_X0_read_itX4 m_X0_read_sy42 rfl dn_X4_cell (by decide) (by decide) rfl dX0_read_24 (Nat.le_of_ble_eq_true rfl) rfl hE hf (fun x4 G hf => ?_)
      refine v_callVi 0 2 [.int l1, .int x4] (c_X0_next (xl X) hfx this l1 x4) gX0_read_X0_next rfl dv_X0_next (by decide) (by decide) rfl rfl dX0_read_27 (Nat.le_of_ble_eq_true rfl) rfl hE hf (fun x5 G hf => ?_)
      refine v_istore_n [(1, .int x5), (0, .ref this), (2, .int l2)] dX0_read_30 rfl (by decide) rfl ?_
      refine v_iload_n 0 dX0_read_31 rfl rfl ?_
      refine v_iconst (-1) dX0_read_32 (by decide) ?_
      refine v_icmp_ne 38 dX0_read_33 (by decide) hf (fun _ hf => ?_) (fun _ hf => ?_)
      · refine v_iinc 2 (l2 + 1) [(2, .int (l2 + 1)), (1, .int x5), (0, .ref this)] dX0_read_38 rfl (by rfl) (by decide) rfl ?_
        refine v_goto 9 dX0_read_41 (by decide) ?_
        refine v_sub [2, 1, 0] rfl ?_
        exact ih this x5 (l2 + 1) G hf
      · refine v_iload_n 2 dX0_read_36 rfl rfl ?_
        exact v_iret hr dX0_read_37 hE hf
set_option maxRecDepth 100000 in
set_option maxHeartbeats 4000000 in
theorem e_X0_read_0 {X : VX} {B : VB} {z : Int32} {Gf : GH}  (hfx : (xl X).stackTraces = false) (hn : (xme X).name = "read") (hr : (xme X).sig.returnType = (some .int)) (hE : VE B (z, Gf))  (this : Nat) (G : GH) (hf : (f_X0_read this).1 G = some (z, Gf)) : V X RX0 cX0_read 3 3 64 wsX0_read B (QE X (vI z) Gf B) G 0 [(0, .ref this)] [] := by
  unfold f_X0_read at hf
  refine v_aload_n 0 dX0_read_0 rfl rfl ?_
  refine v_iconst 0 dX0_read_1 (by decide) ?_
  refine v_put 0 1 .int n_X0_read_X0 tyX0 tyX0_ok nmX0 rfl (by decide) rfl m_X0_read_f15 rfl (by decide +kernel) rfl rfl dX0_read_2 hf (fun G _ hf => ?_)
  refine v_iconst 0 dX0_read_5 (by decide) ?_
  refine v_istore_n [(1, .int 0), (0, .ref this)] dX0_read_6 rfl (by decide) rfl ?_
  refine v_iconst 0 dX0_read_7 (by decide) ?_
  refine v_istore_n [(2, .int 0), (1, .int 0), (0, .ref this)] dX0_read_8 rfl (by decide) rfl ?_
  refine v_sub [2, 1, 0] rfl ?_
  exact e_X0_read_9 hfx hn hr hE FU this 0 0 G hf
theorem c_X0_read (l : Launch) (hfl : l.stackTraces = false) (this : Nat) : CM l yX0_read wsX0_read 3 64 [.ref this] vI (f_X0_read this) := CM.start hfl RX0 rfl (by decide +kernel) rfl (Nat.le_of_ble_eq_true rfl) (fun X G z Gf hl hn hr hf => e_X0_read_0 (by rw [hl]; exact hfl) hn hr ⟨rfl, rfl⟩ this G hf)
theorem dv_X0_read : yX0_read.cls = RX0 ∧ yX0_read.cls ≠ "java/lang/invoke/MethodHandle" ∧ yX0_read.cls ≠ "java/lang/invoke/VarHandle" ∧ (parseMethodDescriptor yX0_read.desc).map (fun d => d.parameters.length) = some 0 := by decide +kernel
