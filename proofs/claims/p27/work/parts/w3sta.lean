/-! walks of the state (class X1) -/
theorem m_X1_init_o3 : Cond.methodLink RX1 3 objectInit ∈ wsX1_init := by decide +kernel
theorem m_X1_init_oi : Cond.instanceMethod objectInit ∈ wsX1_init := by decide +kernel
theorem m_X1_init_oc : Cond.code objectInit ⟨#[0xb1]⟩ 1 none ∈ wsX1_init := by decide +kernel
theorem m_X1_init_f9 : Cond.fieldLink RX1 9 RX1 "held" "I" ∈ wsX1_init := by decide +kernel
theorem m_X1_init_f15 : Cond.fieldLink RX1 15 RX1 "rate" "I" ∈ wsX1_init := by decide +kernel
theorem m_X1_init_f18 : Cond.fieldLink RX1 18 RX1 "ratio" "I" ∈ wsX1_init := by decide +kernel
theorem m_X1_init_c21 : Cond.classLink RX1 21 RX3 ∈ wsX1_init := by decide +kernel
theorem m_X1_init_f23 : Cond.fieldLink RX1 23 RX1 "versions" "[LEndVersions$Version;" ∈ wsX1_init := by decide +kernel
theorem m_X1_init_ai : Cond.arrayClass .int ∈ wsX1_init := by decide +kernel
theorem m_X1_init_f27 : Cond.fieldLink RX1 27 RX1 "childMarks" "[I" ∈ wsX1_init := by decide +kernel
theorem n_X1_init_X1 : ∀ w ∈ u_ws RX1 TX1 5, w ∈ wsX1_init := by decide +kernel
set_option maxRecDepth 100000 in
set_option maxHeartbeats 4000000 in
theorem e_X1_init_0 {X : VX} {B : VB} {z : Unit} {Gf : GH}  (hfx : (xl X).stackTraces = false) (hn : (xme X).name = "<init>") (hr : (xme X).sig.returnType = none) (hE : VE B (z, Gf))  (this : Nat) (G : GH) (hf : (f_X1_init this).1 G = some (z, Gf)) : V X RX1 cX1_init 1 1 12 wsX1_init B (QE X (vV z) Gf B) G 0 [(0, .ref this)] [] := by
  unfold f_X1_init at hf
  refine v_aload_n 0 dX1_init_0 rfl rfl ?_
  refine v_objInit m_X1_init_o3 m_X1_init_oi m_X1_init_oc dX1_init_1 (by decide) (by decide) ?_
  refine v_aload_n 0 dX1_init_4 rfl rfl ?_
  refine v_iconst 1 dX1_init_5 (by decide) ?_
  refine v_put 1 0 .int n_X1_init_X1 tyX1 tyX1_ok nmX1 rfl (by decide) rfl m_X1_init_f9 rfl (by decide +kernel) rfl rfl dX1_init_6 hf (fun G _ hf => ?_)
  refine v_aload_n 0 dX1_init_9 rfl rfl ?_
  refine v_iconst 3 dX1_init_10 (by decide) ?_
  refine v_put 1 1 .int n_X1_init_X1 tyX1 tyX1_ok nmX1 rfl (by decide) rfl m_X1_init_f15 rfl (by decide +kernel) rfl rfl dX1_init_11 hf (fun G _ hf => ?_)
  refine v_aload_n 0 dX1_init_14 rfl rfl ?_
  refine v_iconst 3 dX1_init_15 (by decide) ?_
  refine v_put 1 2 .int n_X1_init_X1 tyX1 tyX1_ok nmX1 rfl (by decide) rfl m_X1_init_f18 rfl (by decide +kernel) rfl rfl dX1_init_16 hf (fun G _ hf => ?_)
  refine v_aload_n 0 dX1_init_19 rfl rfl ?_
  refine v_bipush 100 dX1_init_20 (by decide) ?_
  refine v_newq 4 (fun _ => rfl) (fun h => h.2.2.1) m_X1_init_c21 dX1_init_22 hE hf (fun a1 G hf => ?_)
  refine v_putF 1 3 (.array (.object "EndVersions$Version")) hn n_X1_init_X1 tyX1 tyX1_ok nmX1 rfl (by decide) rfl m_X1_init_f23 rfl rfl (by decide +kernel) rfl rfl dX1_init_25 hf (fun G _ hf => ?_)
  refine v_aload_n 0 dX1_init_28 rfl rfl ?_
  refine v_bipush 100 dX1_init_29 (by decide) ?_
  refine v_newi m_X1_init_ai dX1_init_31 hE hf (fun a2 G hf => ?_)
  refine v_putF 1 4 (.array .int) hn n_X1_init_X1 tyX1 tyX1_ok nmX1 rfl (by decide) rfl m_X1_init_f27 rfl rfl (by decide +kernel) rfl rfl dX1_init_33 hf (fun G _ hf => ?_)
  exact v_vret hr dX1_init_36 hE hf
theorem c_X1_init (l : Launch) (hfl : l.stackTraces = false) (this : Nat) : CM l yX1_init wsX1_init 1 12 [.ref this] vV (f_X1_init this) := CM.start hfl RX1 rfl (by decide +kernel) rfl (Nat.le_of_ble_eq_true rfl) (fun X G z Gf hl hn hr hf => e_X1_init_0 (by rw [hl]; exact hfl) hn hr ⟨rfl, rfl⟩ this G hf)
theorem dn_X1_init : yX1_init.cls ≠ "java/lang/invoke/MethodHandle" ∧ yX1_init.cls ≠ "java/lang/invoke/VarHandle" ∧ (parseMethodDescriptor yX1_init.desc).map (fun d => d.parameters.length) = some 0 := by decide +kernel
theorem m_X1_slot_c21 : Cond.classLink RX1 21 RX3 ∈ wsX1_slot := by decide +kernel
theorem m_X1_slot_inX3 : Cond.instantiable RX3 11 ∈ wsX1_slot := by decide +kernel
theorem m_X1_slot_itX3 : Cond.initialized RX3 ∈ wsX1_slot := by decide +kernel
theorem m_X1_slot_l47 : Cond.methodLink RX1 47 yX3_init ∈ wsX1_slot := by decide +kernel
theorem m_X1_slot_j47 : Cond.instanceMethod yX3_init ∈ wsX1_slot := by decide +kernel
theorem n_X1_slot_X3 : ∀ w ∈ u_ws RX3 TX3 11, w ∈ wsX1_slot := by decide +kernel
theorem m_X1_slot_f23 : Cond.fieldLink RX1 23 RX1 "versions" "[LEndVersions$Version;" ∈ wsX1_slot := by decide +kernel
theorem n_X1_slot_X1 : ∀ w ∈ u_ws RX1 TX1 5, w ∈ wsX1_slot := by decide +kernel
set_option maxRecDepth 100000 in
set_option maxHeartbeats 4000000 in
theorem e_X1_slot_0 {X : VX} {B : VB} {z : Nat} {Gf : GH}  (hfx : (xl X).stackTraces = false) (hn : (xme X).name = "slot") (hr : (xme X).sig.returnType = (some (.object "EndVersions$Version"))) (hE : VE B (z, Gf))  (this : Nat) (p1 : Int32) (G : GH) (hf : (f_X1_slot this p1).1 G = some (z, Gf)) : V X RX1 cX1_slot 3 2 32 wsX1_slot B (QE X (vR z) Gf B) G 0 [(0, .ref this), (1, .int p1)] [] := by
  unfold f_X1_slot at hf
  refine v_iload_n 1 dX1_slot_0 rfl rfl ?_
  refine v_if_lt 13 dX1_slot_1 (by decide) hf (fun _ hf => ?_) (fun _ hf => ?_)
  · refine v_newo 3 tyX3 n_X1_slot_X3 tyX3_ok rfl m_X1_slot_c21 m_X1_slot_inX3 m_X1_slot_itX3 dfX3 dX1_slot_13 hE hf (fun a1 G hf => ?_)
    refine v_dup dX1_slot_16 rfl ?_
    refine v_callI 0 [] (c_X3_init (xl X) hfx a1) gX1_slot_X3_init rfl m_X1_slot_itX3 m_X1_slot_l47 m_X1_slot_j47 rfl dn_X3_init (by decide) (by decide) rfl dX1_slot_17 (Nat.le_of_ble_eq_true rfl) rfl hE hf (fun G hf => ?_)
    exact v_aret hr dX1_slot_20 hE hf
  · refine v_iload_n 1 dX1_slot_4 rfl rfl ?_
    refine v_aload_n 0 dX1_slot_5 rfl rfl ?_
    refine v_gr 1 3 n_X1_slot_X1 rfl (by decide) rfl m_X1_slot_f23 dX1_slot_6 hf (fun r2 hf => ?_)
    refine v_len (t := 4) (fun _ => rfl) dX1_slot_9 hf (fun x3 hf => ?_)
    refine v_icmp_lt 21 dX1_slot_10 (by decide) hf (fun _ hf => ?_) (fun _ hf => ?_)
    · refine v_aload_n 0 dX1_slot_21 rfl rfl ?_
      refine v_gr 1 3 n_X1_slot_X1 rfl (by decide) rfl m_X1_slot_f23 dX1_slot_22 hf (fun r4 hf => ?_)
      refine v_iload_n 1 dX1_slot_25 rfl rfl ?_
      refine v_aldq (t := 4) (C := RX3) (fun _ => rfl) dX1_slot_26 hf (fun o5 hf => ?_)
      refine v_astoreq_n [(2, va_rf o5), (0, .ref this), (1, .int p1)] dX1_slot_27 rfl (by decide) rfl ?_
      refine v_aloadq_n 0 dX1_slot_28 rfl rfl ?_
      refine v_ifnonnull 47 dX1_slot_29 (by decide) hf (fun e_q6 hf => ?_) (fun q6 e_q6 hf => ?_)
      · refine v_newo 3 tyX3 n_X1_slot_X3 tyX3_ok rfl m_X1_slot_c21 m_X1_slot_inX3 m_X1_slot_itX3 dfX3 dX1_slot_32 hE hf (fun a7 G hf => ?_)
        refine v_dup dX1_slot_35 rfl ?_
        refine v_callI 0 [] (c_X3_init (xl X) hfx a7) gX1_slot_X3_init rfl m_X1_slot_itX3 m_X1_slot_l47 m_X1_slot_j47 rfl dn_X3_init (by decide) (by decide) rfl dX1_slot_36 (Nat.le_of_ble_eq_true rfl) rfl hE hf (fun G hf => ?_)
        refine v_astore_n [(2, .ref a7), (0, .ref this), (1, .int p1)] dX1_slot_39 rfl (by decide) rfl ?_
        refine v_aload_n 1 dX1_slot_40 rfl rfl ?_
        refine v_gr 1 3 n_X1_slot_X1 rfl (by decide) rfl m_X1_slot_f23 dX1_slot_41 hf (fun r8 hf => ?_)
        refine v_iload_n 2 dX1_slot_44 rfl rfl ?_
        refine v_aload_n 0 dX1_slot_45 rfl rfl ?_
        refine v_astq (t := 4) (C := RX3) (r := (some a7)) (fun _ => rfl) rfl dX1_slot_46 hf (fun G _ hf => ?_)
        refine v_aload_n 0 dX1_slot_47 rfl rfl ?_
        exact v_aret hr dX1_slot_48 hE hf
      · subst e_q6
        refine v_aload_n 0 dX1_slot_47 rfl rfl ?_
        exact v_aret hr dX1_slot_48 hE hf
    · refine v_newo 3 tyX3 n_X1_slot_X3 tyX3_ok rfl m_X1_slot_c21 m_X1_slot_inX3 m_X1_slot_itX3 dfX3 dX1_slot_13 hE hf (fun a9 G hf => ?_)
      refine v_dup dX1_slot_16 rfl ?_
      refine v_callI 0 [] (c_X3_init (xl X) hfx a9) gX1_slot_X3_init rfl m_X1_slot_itX3 m_X1_slot_l47 m_X1_slot_j47 rfl dn_X3_init (by decide) (by decide) rfl dX1_slot_17 (Nat.le_of_ble_eq_true rfl) rfl hE hf (fun G hf => ?_)
      exact v_aret hr dX1_slot_20 hE hf
theorem c_X1_slot (l : Launch) (hfl : l.stackTraces = false) (this : Nat) (p1 : Int32) : CM l yX1_slot wsX1_slot 2 32 [.ref this, .int p1] vR (f_X1_slot this p1) := CM.start hfl RX1 rfl (by decide +kernel) rfl (Nat.le_of_ble_eq_true rfl) (fun X G z Gf hl hn hr hf => e_X1_slot_0 (by rw [hl]; exact hfl) hn hr ⟨rfl, rfl⟩ this p1 G hf)
theorem dv_X1_slot : yX1_slot.cls = RX1 ∧ yX1_slot.cls ≠ "java/lang/invoke/MethodHandle" ∧ yX1_slot.cls ≠ "java/lang/invoke/VarHandle" ∧ (parseMethodDescriptor yX1_slot.desc).map (fun d => d.parameters.length) = some 1 := by decide +kernel
theorem m_X1_copyFrom_f9 : Cond.fieldLink RX1 9 RX1 "held" "I" ∈ wsX1_copyFrom := by decide +kernel
theorem m_X1_copyFrom_f15 : Cond.fieldLink RX1 15 RX1 "rate" "I" ∈ wsX1_copyFrom := by decide +kernel
theorem m_X1_copyFrom_f18 : Cond.fieldLink RX1 18 RX1 "ratio" "I" ∈ wsX1_copyFrom := by decide +kernel
theorem n_X1_copyFrom_X1 : ∀ w ∈ u_ws RX1 TX1 5, w ∈ wsX1_copyFrom := by decide +kernel
set_option maxRecDepth 100000 in
set_option maxHeartbeats 4000000 in
theorem e_X1_copyFrom_26 {X : VX} {B : VB} {z : Unit} {Gf : GH}  (hfx : (xl X).stackTraces = false) (hn : (xme X).name = "copyFrom") (hr : (xme X).sig.returnType = none) (hE : VE B (z, Gf))  : ∀ (n : Nat) (this : Nat) (p1 : Nat) (l2 : Int32) (G : GH), (f_X1_copyFrom_26 n this p1 l2).1 G = some (z, Gf) → V X RX1 cX1_copyFrom 3 3 54 wsX1_copyFrom B (QE X (vV z) Gf B) G 26 [(0, .ref this), (1, .ref p1), (2, .int l2)] [] := by
  intro n
  induction n with
  | zero =>
    intro this p1 l2 G hf
    have h0 : (none : Option (Unit × GH)) = some (z, Gf) := hf
    cases h0
  | succ n ih =>
    intro this p1 l2 G hf
    rw [f_X1_copyFrom_26.eq_2] at hf
    refine v_iload_n 2 dX1_copyFrom_26 rfl rfl ?_
    refine v_aload_n 0 dX1_copyFrom_27 rfl rfl ?_
    refine v_gi 1 0 n_X1_copyFrom_X1 rfl (by decide) rfl m_X1_copyFrom_f9 dX1_copyFrom_28 hf (fun x4 hf => ?_)
    refine v_icmp_ge 53 dX1_copyFrom_31 (by decide) hf (fun _ hf => ?_) (fun _ hf => ?_)
    · exact v_vret hr dX1_copyFrom_53 hE hf
    · refine v_aload_n 0 dX1_copyFrom_34 rfl rfl ?_
      refine v_iload_n 2 dX1_copyFrom_35 rfl rfl ?_
      refine v_callVr 1 1 [.int l2] (c_X1_slot (xl X) hfx this l2) gX1_copyFrom_X1_slot rfl dv_X1_slot (by decide) (by decide) rfl rfl dX1_copyFrom_36 (Nat.le_of_ble_eq_true rfl) rfl hE hf (fun r5 G hf => ?_)
      refine v_aload_n 1 dX1_copyFrom_39 rfl rfl ?_
      refine v_iload_n 2 dX1_copyFrom_40 rfl rfl ?_
      refine v_callVr 1 1 [.int l2] (c_X1_slot (xl X) hfx p1 l2) gX1_copyFrom_X1_slot rfl dv_X1_slot (by decide) (by decide) rfl rfl dX1_copyFrom_41 (Nat.le_of_ble_eq_true rfl) rfl hE hf (fun r6 G hf => ?_)
      refine v_callVv 3 1 [.ref r6] (c_X3_copyFrom (xl X) hfx r5 r6) gX1_copyFrom_X3_copyFrom rfl dv_X3_copyFrom (by decide) (by decide) rfl rfl dX1_copyFrom_44 (Nat.le_of_ble_eq_true rfl) rfl hE hf (fun _ G hf => ?_)
      refine v_iinc 2 (l2 + 1) [(2, .int (l2 + 1)), (0, .ref this), (1, .ref p1)] dX1_copyFrom_47 rfl (by rfl) (by decide) rfl ?_
      refine v_goto 26 dX1_copyFrom_50 (by decide) ?_
      refine v_sub [1, 2, 0] rfl ?_
      exact ih this p1 (l2 + 1) G hf
set_option maxRecDepth 100000 in
set_option maxHeartbeats 4000000 in
theorem e_X1_copyFrom_0 {X : VX} {B : VB} {z : Unit} {Gf : GH}  (hfx : (xl X).stackTraces = false) (hn : (xme X).name = "copyFrom") (hr : (xme X).sig.returnType = none) (hE : VE B (z, Gf))  (this : Nat) (p1 : Nat) (G : GH) (hf : (f_X1_copyFrom this p1).1 G = some (z, Gf)) : V X RX1 cX1_copyFrom 3 3 54 wsX1_copyFrom B (QE X (vV z) Gf B) G 0 [(0, .ref this), (1, .ref p1)] [] := by
  unfold f_X1_copyFrom at hf
  refine v_aload_n 0 dX1_copyFrom_0 rfl rfl ?_
  refine v_aload_n 1 dX1_copyFrom_1 rfl rfl ?_
  refine v_gi 1 0 n_X1_copyFrom_X1 rfl (by decide) rfl m_X1_copyFrom_f9 dX1_copyFrom_2 hf (fun x1 hf => ?_)
  refine v_put 1 0 .int n_X1_copyFrom_X1 tyX1 tyX1_ok nmX1 rfl (by decide) rfl m_X1_copyFrom_f9 rfl (by decide +kernel) rfl rfl dX1_copyFrom_5 hf (fun G _ hf => ?_)
  refine v_aload_n 0 dX1_copyFrom_8 rfl rfl ?_
  refine v_aload_n 1 dX1_copyFrom_9 rfl rfl ?_
  refine v_gi 1 1 n_X1_copyFrom_X1 rfl (by decide) rfl m_X1_copyFrom_f15 dX1_copyFrom_10 hf (fun x2 hf => ?_)
  refine v_put 1 1 .int n_X1_copyFrom_X1 tyX1 tyX1_ok nmX1 rfl (by decide) rfl m_X1_copyFrom_f15 rfl (by decide +kernel) rfl rfl dX1_copyFrom_13 hf (fun G _ hf => ?_)
  refine v_aload_n 0 dX1_copyFrom_16 rfl rfl ?_
  refine v_aload_n 1 dX1_copyFrom_17 rfl rfl ?_
  refine v_gi 1 2 n_X1_copyFrom_X1 rfl (by decide) rfl m_X1_copyFrom_f18 dX1_copyFrom_18 hf (fun x3 hf => ?_)
  refine v_put 1 2 .int n_X1_copyFrom_X1 tyX1 tyX1_ok nmX1 rfl (by decide) rfl m_X1_copyFrom_f18 rfl (by decide +kernel) rfl rfl dX1_copyFrom_21 hf (fun G _ hf => ?_)
  refine v_iconst 0 dX1_copyFrom_24 (by decide) ?_
  refine v_istore_n [(2, .int 0), (0, .ref this), (1, .ref p1)] dX1_copyFrom_25 rfl (by decide) rfl ?_
  refine v_sub [1, 2, 0] rfl ?_
  exact e_X1_copyFrom_26 hfx hn hr hE FU this p1 0 G hf
theorem c_X1_copyFrom (l : Launch) (hfl : l.stackTraces = false) (this : Nat) (p1 : Nat) : CM l yX1_copyFrom wsX1_copyFrom 3 54 [.ref this, .ref p1] vV (f_X1_copyFrom this p1) := CM.start hfl RX1 rfl (by decide +kernel) rfl (Nat.le_of_ble_eq_true rfl) (fun X G z Gf hl hn hr hf => e_X1_copyFrom_0 (by rw [hl]; exact hfl) hn hr ⟨rfl, rfl⟩ this p1 G hf)
theorem dv_X1_copyFrom : yX1_copyFrom.cls = RX1 ∧ yX1_copyFrom.cls ≠ "java/lang/invoke/MethodHandle" ∧ yX1_copyFrom.cls ≠ "java/lang/invoke/VarHandle" ∧ (parseMethodDescriptor yX1_copyFrom.desc).map (fun d => d.parameters.length) = some 1 := by decide +kernel
theorem m_X1_has_f9 : Cond.fieldLink RX1 9 RX1 "held" "I" ∈ wsX1_has := by decide +kernel
theorem n_X1_has_X1 : ∀ w ∈ u_ws RX1 TX1 5, w ∈ wsX1_has := by decide +kernel
set_option maxRecDepth 100000 in
set_option maxHeartbeats 4000000 in
theorem e_X1_has_0 {X : VX} {B : VB} {z : Int32} {Gf : GH}  (hfx : (xl X).stackTraces = false) (hn : (xme X).name = "has") (hr : (xme X).sig.returnType = (some .boolean)) (hE : VE B (z, Gf))  (this : Nat) (p1 : Int32) (G : GH) (hf : (f_X1_has this p1).1 G = some (z, Gf)) : V X RX1 cX1_has 2 0 0 wsX1_has B (QE X (vI z) Gf B) G 0 [(0, .ref this), (1, .int p1)] [] := by
  unfold f_X1_has at hf
  refine v_iload_n 1 dX1_has_0 rfl rfl ?_
  refine v_if_lt 16 dX1_has_1 (by decide) hf (fun _ hf => ?_) (fun _ hf => ?_)
  · refine v_iconst 0 dX1_has_16 (by decide) ?_
    exact v_zret hr dX1_has_17 hE hf
  · refine v_iload_n 1 dX1_has_4 rfl rfl ?_
    refine v_aload_n 0 dX1_has_5 rfl rfl ?_
    refine v_gi 1 0 n_X1_has_X1 rfl (by decide) rfl m_X1_has_f9 dX1_has_6 hf (fun x1 hf => ?_)
    refine v_icmp_ge 16 dX1_has_9 (by decide) hf (fun _ hf => ?_) (fun _ hf => ?_)
    · refine v_iconst 0 dX1_has_16 (by decide) ?_
      exact v_zret hr dX1_has_17 hE hf
    · refine v_iconst 1 dX1_has_12 (by decide) ?_
      refine v_goto 17 dX1_has_13 (by decide) ?_
      exact v_zret hr dX1_has_17 hE hf
theorem c_X1_has (l : Launch) (hfl : l.stackTraces = false) (this : Nat) (p1 : Int32) : CM l yX1_has wsX1_has 0 0 [.ref this, .int p1] vI (f_X1_has this p1) := CM.start hfl RX1 rfl (by decide +kernel) rfl (Nat.le_of_ble_eq_true rfl) (fun X G z Gf hl hn hr hf => e_X1_has_0 (by rw [hl]; exact hfl) hn hr ⟨rfl, rfl⟩ this p1 G hf)
theorem dv_X1_has : yX1_has.cls = RX1 ∧ yX1_has.cls ≠ "java/lang/invoke/MethodHandle" ∧ yX1_has.cls ≠ "java/lang/invoke/VarHandle" ∧ (parseMethodDescriptor yX1_has.desc).map (fun d => d.parameters.length) = some 1 := by decide +kernel
set_option maxRecDepth 100000 in
set_option maxHeartbeats 4000000 in
theorem e_X1_hasPlace_0 {X : VX} {B : VB} {z : Int32} {Gf : GH}  (hfx : (xl X).stackTraces = false) (hn : (xme X).name = "hasPlace") (hr : (xme X).sig.returnType = (some .boolean)) (hE : VE B (z, Gf))  (this : Nat) (p1 : Int32) (p2 : Int32) (G : GH) (hf : (f_X1_hasPlace this p1 p2).1 G = some (z, Gf)) : V X RX1 cX1_hasPlace 3 3 54 wsX1_hasPlace B (QE X (vI z) Gf B) G 0 [(0, .ref this), (1, .int p1), (2, .int p2)] [] := by
  unfold f_X1_hasPlace at hf
  refine v_aload_n 0 dX1_hasPlace_0 rfl rfl ?_
  refine v_iload_n 1 dX1_hasPlace_1 rfl rfl ?_
  refine v_callVi 1 1 [.int p1] (c_X1_has (xl X) hfx this p1) gX1_hasPlace_X1_has rfl dv_X1_has (by decide) (by decide) rfl rfl dX1_hasPlace_2 (Nat.le_of_ble_eq_true rfl) rfl hE hf (fun x1 G hf => ?_)
  refine v_if_eq 28 dX1_hasPlace_5 (by decide) hf (fun _ hf => ?_) (fun _ hf => ?_)
  · refine v_iconst 0 dX1_hasPlace_28 (by decide) ?_
    exact v_zret hr dX1_hasPlace_29 hE hf
  · refine v_iload_n 2 dX1_hasPlace_8 rfl rfl ?_
    refine v_if_lt 28 dX1_hasPlace_9 (by decide) hf (fun _ hf => ?_) (fun _ hf => ?_)
    · refine v_iconst 0 dX1_hasPlace_28 (by decide) ?_
      exact v_zret hr dX1_hasPlace_29 hE hf
    · refine v_iload_n 2 dX1_hasPlace_12 rfl rfl ?_
      refine v_aload_n 0 dX1_hasPlace_13 rfl rfl ?_
      refine v_iload_n 1 dX1_hasPlace_14 rfl rfl ?_
      refine v_callVr 1 1 [.int p1] (c_X1_slot (xl X) hfx this p1) gX1_hasPlace_X1_slot rfl dv_X1_slot (by decide) (by decide) rfl rfl dX1_hasPlace_15 (Nat.le_of_ble_eq_true rfl) rfl hE hf (fun r2 G hf => ?_)
      refine v_callVi 3 0 [] (c_X3_size (xl X) hfx r2) gX1_hasPlace_X3_size rfl dv_X3_size (by decide) (by decide) rfl rfl dX1_hasPlace_18 (Nat.le_of_ble_eq_true rfl) rfl hE hf (fun x3 G hf => ?_)
      refine v_icmp_ge 28 dX1_hasPlace_21 (by decide) hf (fun _ hf => ?_) (fun _ hf => ?_)
      · refine v_iconst 0 dX1_hasPlace_28 (by decide) ?_
        exact v_zret hr dX1_hasPlace_29 hE hf
      · refine v_iconst 1 dX1_hasPlace_24 (by decide) ?_
        refine v_goto 29 dX1_hasPlace_25 (by decide) ?_
        exact v_zret hr dX1_hasPlace_29 hE hf
theorem c_X1_hasPlace (l : Launch) (hfl : l.stackTraces = false) (this : Nat) (p1 : Int32) (p2 : Int32) : CM l yX1_hasPlace wsX1_hasPlace 3 54 [.ref this, .int p1, .int p2] vI (f_X1_hasPlace this p1 p2) := CM.start hfl RX1 rfl (by decide +kernel) rfl (Nat.le_of_ble_eq_true rfl) (fun X G z Gf hl hn hr hf => e_X1_hasPlace_0 (by rw [hl]; exact hfl) hn hr ⟨rfl, rfl⟩ this p1 p2 G hf)
theorem dv_X1_hasPlace : yX1_hasPlace.cls = RX1 ∧ yX1_hasPlace.cls ≠ "java/lang/invoke/MethodHandle" ∧ yX1_hasPlace.cls ≠ "java/lang/invoke/VarHandle" ∧ (parseMethodDescriptor yX1_hasPlace.desc).map (fun d => d.parameters.length) = some 2 := by decide +kernel
theorem m_X1_settingOf_f18 : Cond.fieldLink RX1 18 RX1 "ratio" "I" ∈ wsX1_settingOf := by decide +kernel
theorem n_X1_settingOf_X1 : ∀ w ∈ u_ws RX1 TX1 5, w ∈ wsX1_settingOf := by decide +kernel
theorem m_X1_settingOf_f15 : Cond.fieldLink RX1 15 RX1 "rate" "I" ∈ wsX1_settingOf := by decide +kernel
set_option maxRecDepth 100000 in
set_option maxHeartbeats 4000000 in
theorem e_X1_settingOf_0 {X : VX} {B : VB} {z : Int32} {Gf : GH}  (hfx : (xl X).stackTraces = false) (hn : (xme X).name = "settingOf") (hr : (xme X).sig.returnType = (some .int)) (hE : VE B (z, Gf))  (this : Nat) (p1 : Int32) (G : GH) (hf : (f_X1_settingOf this p1).1 G = some (z, Gf)) : V X RX1 cX1_settingOf 2 0 0 wsX1_settingOf B (QE X (vI z) Gf B) G 0 [(0, .ref this), (1, .int p1)] [] := by
  unfold f_X1_settingOf at hf
  refine v_iload_n 1 dX1_settingOf_0 rfl rfl ?_
  refine v_if_ne 11 dX1_settingOf_1 (by decide) hf (fun _ hf => ?_) (fun _ hf => ?_)
  · refine v_aload_n 0 dX1_settingOf_11 rfl rfl ?_
    refine v_gi 1 2 n_X1_settingOf_X1 rfl (by decide) rfl m_X1_settingOf_f18 dX1_settingOf_12 hf (fun x1 hf => ?_)
    exact v_iret hr dX1_settingOf_15 hE hf
  · refine v_aload_n 0 dX1_settingOf_4 rfl rfl ?_
    refine v_gi 1 1 n_X1_settingOf_X1 rfl (by decide) rfl m_X1_settingOf_f15 dX1_settingOf_5 hf (fun x2 hf => ?_)
    refine v_goto 15 dX1_settingOf_8 (by decide) ?_
    exact v_iret hr dX1_settingOf_15 hE hf
theorem c_X1_settingOf (l : Launch) (hfl : l.stackTraces = false) (this : Nat) (p1 : Int32) : CM l yX1_settingOf wsX1_settingOf 0 0 [.ref this, .int p1] vI (f_X1_settingOf this p1) := CM.start hfl RX1 rfl (by decide +kernel) rfl (Nat.le_of_ble_eq_true rfl) (fun X G z Gf hl hn hr hf => e_X1_settingOf_0 (by rw [hl]; exact hfl) hn hr ⟨rfl, rfl⟩ this p1 G hf)
theorem dv_X1_settingOf : yX1_settingOf.cls = RX1 ∧ yX1_settingOf.cls ≠ "java/lang/invoke/MethodHandle" ∧ yX1_settingOf.cls ≠ "java/lang/invoke/VarHandle" ∧ (parseMethodDescriptor yX1_settingOf.desc).map (fun d => d.parameters.length) = some 1 := by decide +kernel
theorem m_X1_changeSetting_f18 : Cond.fieldLink RX1 18 RX1 "ratio" "I" ∈ wsX1_changeSetting := by decide +kernel
theorem n_X1_changeSetting_X1 : ∀ w ∈ u_ws RX1 TX1 5, w ∈ wsX1_changeSetting := by decide +kernel
theorem m_X1_changeSetting_f15 : Cond.fieldLink RX1 15 RX1 "rate" "I" ∈ wsX1_changeSetting := by decide +kernel
set_option maxRecDepth 100000 in
set_option maxHeartbeats 4000000 in
theorem e_X1_changeSetting_0 {X : VX} {B : VB} {z : Unit} {Gf : GH}  (hfx : (xl X).stackTraces = false) (hn : (xme X).name = "changeSetting") (hr : (xme X).sig.returnType = none) (hE : VE B (z, Gf))  (this : Nat) (p1 : Int32) (p2 : Int32) (G : GH) (hf : (f_X1_changeSetting this p1 p2).1 G = some (z, Gf)) : V X RX1 cX1_changeSetting 3 0 0 wsX1_changeSetting B (QE X (vV z) Gf B) G 0 [(0, .ref this), (1, .int p1), (2, .int p2)] [] := by
  unfold f_X1_changeSetting at hf
  refine v_iload_n 1 dX1_changeSetting_0 rfl rfl ?_
  refine v_if_ne 12 dX1_changeSetting_1 (by decide) hf (fun _ hf => ?_) (fun _ hf => ?_)
  · refine v_aload_n 0 dX1_changeSetting_12 rfl rfl ?_
    refine v_iload_n 2 dX1_changeSetting_13 rfl rfl ?_
    refine v_put 1 2 .int n_X1_changeSetting_X1 tyX1 tyX1_ok nmX1 rfl (by decide) rfl m_X1_changeSetting_f18 rfl (by decide +kernel) rfl rfl dX1_changeSetting_14 hf (fun G _ hf => ?_)
    exact v_vret hr dX1_changeSetting_17 hE hf
  · refine v_aload_n 0 dX1_changeSetting_4 rfl rfl ?_
    refine v_iload_n 2 dX1_changeSetting_5 rfl rfl ?_
    refine v_put 1 1 .int n_X1_changeSetting_X1 tyX1 tyX1_ok nmX1 rfl (by decide) rfl m_X1_changeSetting_f15 rfl (by decide +kernel) rfl rfl dX1_changeSetting_6 hf (fun G _ hf => ?_)
    refine v_goto 17 dX1_changeSetting_9 (by decide) ?_
    exact v_vret hr dX1_changeSetting_17 hE hf
theorem c_X1_changeSetting (l : Launch) (hfl : l.stackTraces = false) (this : Nat) (p1 : Int32) (p2 : Int32) : CM l yX1_changeSetting wsX1_changeSetting 0 0 [.ref this, .int p1, .int p2] vV (f_X1_changeSetting this p1 p2) := CM.start hfl RX1 rfl (by decide +kernel) rfl (Nat.le_of_ble_eq_true rfl) (fun X G z Gf hl hn hr hf => e_X1_changeSetting_0 (by rw [hl]; exact hfl) hn hr ⟨rfl, rfl⟩ this p1 p2 G hf)
theorem dv_X1_changeSetting : yX1_changeSetting.cls = RX1 ∧ yX1_changeSetting.cls ≠ "java/lang/invoke/MethodHandle" ∧ yX1_changeSetting.cls ≠ "java/lang/invoke/VarHandle" ∧ (parseMethodDescriptor yX1_changeSetting.desc).map (fun d => d.parameters.length) = some 2 := by decide +kernel
theorem m_X1_left_f9 : Cond.fieldLink RX1 9 RX1 "held" "I" ∈ wsX1_left := by decide +kernel
theorem n_X1_left_X1 : ∀ w ∈ u_ws RX1 TX1 5, w ∈ wsX1_left := by decide +kernel
set_option maxRecDepth 100000 in
set_option maxHeartbeats 4000000 in
theorem e_X1_left_0 {X : VX} {B : VB} {z : Int32} {Gf : GH}  (hfx : (xl X).stackTraces = false) (hn : (xme X).name = "left") (hr : (xme X).sig.returnType = (some .int)) (hE : VE B (z, Gf))  (this : Nat) (G : GH) (hf : (f_X1_left this).1 G = some (z, Gf)) : V X RX1 cX1_left 1 0 0 wsX1_left B (QE X (vI z) Gf B) G 0 [(0, .ref this)] [] := by
  unfold f_X1_left at hf
  refine v_bipush 100 dX1_left_0 (by decide) ?_
  refine v_aload_n 0 dX1_left_2 rfl rfl ?_
  refine v_gi 1 0 n_X1_left_X1 rfl (by decide) rfl m_X1_left_f9 dX1_left_3 hf (fun x1 hf => ?_)
  refine v_isub dX1_left_6 ?_
  exact v_iret hr dX1_left_7 hE hf
theorem c_X1_left (l : Launch) (hfl : l.stackTraces = false) (this : Nat) : CM l yX1_left wsX1_left 0 0 [.ref this] vI (f_X1_left this) := CM.start hfl RX1 rfl (by decide +kernel) rfl (Nat.le_of_ble_eq_true rfl) (fun X G z Gf hl hn hr hf => e_X1_left_0 (by rw [hl]; exact hfl) hn hr ⟨rfl, rfl⟩ this G hf)
theorem dv_X1_left : yX1_left.cls = RX1 ∧ yX1_left.cls ≠ "java/lang/invoke/MethodHandle" ∧ yX1_left.cls ≠ "java/lang/invoke/VarHandle" ∧ (parseMethodDescriptor yX1_left.desc).map (fun d => d.parameters.length) = some 0 := by decide +kernel
set_option maxRecDepth 100000 in
set_option maxHeartbeats 4000000 in
theorem e_X1_allows_0 {X : VX} {B : VB} {z : Int32} {Gf : GH}  (hfx : (xl X).stackTraces = false) (hn : (xme X).name = "allows") (hr : (xme X).sig.returnType = (some .boolean)) (hE : VE B (z, Gf))  (this : Nat) (p1 : Int32) (p2 : Int32) (G : GH) (hf : (f_X1_allows this p1 p2).1 G = some (z, Gf)) : V X RX1 cX1_allows 3 3 54 wsX1_allows B (QE X (vI z) Gf B) G 0 [(0, .ref this), (1, .int p1), (2, .int p2)] [] := by
  unfold f_X1_allows at hf
  refine v_aload_n 0 dX1_allows_0 rfl rfl ?_
  refine v_callVi 1 0 [] (c_X1_left (xl X) hfx this) gX1_allows_X1_left rfl dv_X1_left (by decide) (by decide) rfl rfl dX1_allows_1 (Nat.le_of_ble_eq_true rfl) rfl hE hf (fun x1 G hf => ?_)
  refine v_if_le 23 dX1_allows_4 (by decide) hf (fun _ hf => ?_) (fun _ hf => ?_)
  · refine v_iconst 0 dX1_allows_23 (by decide) ?_
    exact v_zret hr dX1_allows_24 hE hf
  · refine v_aload_n 0 dX1_allows_7 rfl rfl ?_
    refine v_iload_n 1 dX1_allows_8 rfl rfl ?_
    refine v_callVr 1 1 [.int p1] (c_X1_slot (xl X) hfx this p1) gX1_allows_X1_slot rfl dv_X1_slot (by decide) (by decide) rfl rfl dX1_allows_9 (Nat.le_of_ble_eq_true rfl) rfl hE hf (fun r2 G hf => ?_)
    refine v_iload_n 2 dX1_allows_12 rfl rfl ?_
    refine v_callVi 3 1 [.int p2] (c_X3_permits (xl X) hfx r2 p2) gX1_allows_X3_permits rfl dv_X3_permits (by decide) (by decide) rfl rfl dX1_allows_13 (Nat.le_of_ble_eq_true rfl) rfl hE hf (fun x3 G hf => ?_)
    refine v_if_eq 23 dX1_allows_16 (by decide) hf (fun _ hf => ?_) (fun _ hf => ?_)
    · refine v_iconst 0 dX1_allows_23 (by decide) ?_
      exact v_zret hr dX1_allows_24 hE hf
    · refine v_iconst 1 dX1_allows_19 (by decide) ?_
      refine v_goto 24 dX1_allows_20 (by decide) ?_
      exact v_zret hr dX1_allows_24 hE hf
theorem c_X1_allows (l : Launch) (hfl : l.stackTraces = false) (this : Nat) (p1 : Int32) (p2 : Int32) : CM l yX1_allows wsX1_allows 3 54 [.ref this, .int p1, .int p2] vI (f_X1_allows this p1 p2) := CM.start hfl RX1 rfl (by decide +kernel) rfl (Nat.le_of_ble_eq_true rfl) (fun X G z Gf hl hn hr hf => e_X1_allows_0 (by rw [hl]; exact hfl) hn hr ⟨rfl, rfl⟩ this p1 p2 G hf)
theorem dv_X1_allows : yX1_allows.cls = RX1 ∧ yX1_allows.cls ≠ "java/lang/invoke/MethodHandle" ∧ yX1_allows.cls ≠ "java/lang/invoke/VarHandle" ∧ (parseMethodDescriptor yX1_allows.desc).map (fun d => d.parameters.length) = some 2 := by decide +kernel
theorem m_X1_grow_f9 : Cond.fieldLink RX1 9 RX1 "held" "I" ∈ wsX1_grow := by decide +kernel
theorem m_X1_grow_f54 : Cond.fieldLink RX1 54 RX3 "parent" "I" ∈ wsX1_grow := by decide +kernel
theorem m_X1_grow_f15 : Cond.fieldLink RX1 15 RX1 "rate" "I" ∈ wsX1_grow := by decide +kernel
theorem m_X1_grow_f18 : Cond.fieldLink RX1 18 RX1 "ratio" "I" ∈ wsX1_grow := by decide +kernel
theorem n_X1_grow_X1 : ∀ w ∈ u_ws RX1 TX1 5, w ∈ wsX1_grow := by decide +kernel
theorem n_X1_grow_X3 : ∀ w ∈ u_ws RX3 TX3 11, w ∈ wsX1_grow := by decide +kernel
set_option maxRecDepth 100000 in
set_option maxHeartbeats 4000000 in
theorem e_X1_grow_0 {X : VX} {B : VB} {z : Int32} {Gf : GH}  (hfx : (xl X).stackTraces = false) (hn : (xme X).name = "grow") (hr : (xme X).sig.returnType = (some .int)) (hE : VE B (z, Gf))  (this : Nat) (p1 : Int32) (p2 : Int32) (p3 : Int32) (G : GH) (hf : (f_X1_grow this p1 p2 p3).1 G = some (z, Gf)) : V X RX1 cX1_grow 6 4 94 wsX1_grow B (QE X (vI z) Gf B) G 0 [(0, .ref this), (1, .int p1), (2, .int p2), (3, .int p3)] [] := by
  unfold f_X1_grow at hf
  refine v_aload_n 0 dX1_grow_0 rfl rfl ?_
  refine v_gi 1 0 n_X1_grow_X1 rfl (by decide) rfl m_X1_grow_f9 dX1_grow_1 hf (fun x1 hf => ?_)
  refine v_istore [(4, .int x1), (0, .ref this), (1, .int p1), (2, .int p2), (3, .int p3)] dX1_grow_4 (by decide) rfl ?_
  refine v_aload_n 1 dX1_grow_6 rfl rfl ?_
  refine v_iload 0 dX1_grow_7 rfl ?_
  refine v_callVr 1 1 [.int x1] (c_X1_slot (xl X) hfx this x1) gX1_grow_X1_slot rfl dv_X1_slot (by decide) (by decide) rfl rfl dX1_grow_9 (Nat.le_of_ble_eq_true rfl) rfl hE hf (fun r2 G hf => ?_)
  refine v_astore [(5, .ref r2), (4, .int x1), (0, .ref this), (1, .int p1), (2, .int p2), (3, .int p3)] dX1_grow_12 (by decide) rfl ?_
  refine v_aload 0 dX1_grow_14 rfl ?_
  refine v_aload_n 2 dX1_grow_16 rfl rfl ?_
  refine v_iload_n 3 dX1_grow_17 rfl rfl ?_
  refine v_callVr 1 1 [.int p1] (c_X1_slot (xl X) hfx this p1) gX1_grow_X1_slot rfl dv_X1_slot (by decide) (by decide) rfl rfl dX1_grow_18 (Nat.le_of_ble_eq_true rfl) rfl hE hf (fun r3 G hf => ?_)
  refine v_callVv 3 1 [.ref r3] (c_X3_copyFrom (xl X) hfx r2 r3) gX1_grow_X3_copyFrom rfl dv_X3_copyFrom (by decide) (by decide) rfl rfl dX1_grow_21 (Nat.le_of_ble_eq_true rfl) rfl hE hf (fun _ G hf => ?_)
  refine v_aload 0 dX1_grow_24 rfl ?_
  refine v_iload_n 3 dX1_grow_26 rfl rfl ?_
  refine v_put 3 0 .int n_X1_grow_X3 tyX3 tyX3_ok nmX3 rfl (by decide) rfl m_X1_grow_f54 rfl (by decide +kernel) rfl rfl dX1_grow_27 hf (fun G _ hf => ?_)
  refine v_aload 0 dX1_grow_30 rfl ?_
  refine v_iload_n 4 dX1_grow_32 rfl rfl ?_
  refine v_iload_n 5 dX1_grow_33 rfl rfl ?_
  refine v_aload_n 2 dX1_grow_34 rfl rfl ?_
  refine v_gi 1 1 n_X1_grow_X1 rfl (by decide) rfl m_X1_grow_f15 dX1_grow_35 hf (fun x4 hf => ?_)
  refine v_aload_n 2 dX1_grow_38 rfl rfl ?_
  refine v_gi 1 2 n_X1_grow_X1 rfl (by decide) rfl m_X1_grow_f18 dX1_grow_39 hf (fun x5 hf => ?_)
  refine v_callVv 3 4 [.int p2, .int p3, .int x4, .int x5] (c_X3_perform (xl X) hfx r2 p2 p3 x4 x5) gX1_grow_X3_perform rfl dv_X3_perform (by decide) (by decide) rfl rfl dX1_grow_42 (Nat.le_of_ble_eq_true rfl) rfl hE hf (fun _ G hf => ?_)
  refine v_aload_n 2 dX1_grow_45 rfl rfl ?_
  refine v_dup dX1_grow_46 rfl ?_
  refine v_gi 1 0 n_X1_grow_X1 rfl (by decide) rfl m_X1_grow_f9 dX1_grow_47 hf (fun x6 hf => ?_)
  refine v_iconst 1 dX1_grow_50 (by decide) ?_
  refine v_iadd dX1_grow_51 ?_
  refine v_put 1 0 .int n_X1_grow_X1 tyX1 tyX1_ok nmX1 rfl (by decide) rfl m_X1_grow_f9 rfl (by decide +kernel) rfl rfl dX1_grow_52 hf (fun G _ hf => ?_)
  refine v_iload 1 dX1_grow_55 rfl ?_
  exact v_iret hr dX1_grow_57 hE hf
theorem c_X1_grow (l : Launch) (hfl : l.stackTraces = false) (this : Nat) (p1 : Int32) (p2 : Int32) (p3 : Int32) : CM l yX1_grow wsX1_grow 4 94 [.ref this, .int p1, .int p2, .int p3] vI (f_X1_grow this p1 p2 p3) := CM.start hfl RX1 rfl (by decide +kernel) rfl (Nat.le_of_ble_eq_true rfl) (fun X G z Gf hl hn hr hf => e_X1_grow_0 (by rw [hl]; exact hfl) hn hr ⟨rfl, rfl⟩ this p1 p2 p3 G hf)
theorem dv_X1_grow : yX1_grow.cls = RX1 ∧ yX1_grow.cls ≠ "java/lang/invoke/MethodHandle" ∧ yX1_grow.cls ≠ "java/lang/invoke/VarHandle" ∧ (parseMethodDescriptor yX1_grow.desc).map (fun d => d.parameters.length) = some 3 := by decide +kernel
theorem m_X1_growBy_f61 : Cond.fieldLink RX1 61 RX0 "acts" "I" ∈ wsX1_growBy := by decide +kernel
theorem n_X1_growBy_X0 : ∀ w ∈ u_ws RX0 TX0 8, w ∈ wsX1_growBy := by decide +kernel
set_option maxRecDepth 100000 in
set_option maxHeartbeats 4000000 in
theorem e_X1_growBy_5 {X : VX} {B : VB} {z : Int32} {Gf : GH}  (hfx : (xl X).stackTraces = false) (hn : (xme X).name = "growBy") (hr : (xme X).sig.returnType = (some .int)) (hE : VE B (z, Gf))  : ∀ (n : Nat) (this : Nat) (p1 : Nat) (p2 : Int32) (l4 : Int32) (G : GH), (f_X1_growBy_5 n this p1 p2 l4).1 G = some (z, Gf) → V X RX1 cX1_growBy 6 5 119 wsX1_growBy B (QE X (vI z) Gf B) G 5 [(0, .ref this), (1, .ref p1), (3, .int p2), (4, .int l4)] [] := by
  intro n
  induction n with
  | zero =>
    intro this p1 p2 l4 G hf
    have h0 : (none : Option (Int32 × GH)) = some (z, Gf) := hf
    cases h0
  | succ n ih =>
    intro this p1 p2 l4 G hf
    rw [f_X1_growBy_5.eq_2] at hf
    refine v_iload 3 dX1_growBy_5 rfl ?_
    refine v_aload_n 1 dX1_growBy_7 rfl rfl ?_
    refine v_gi 0 1 n_X1_growBy_X0 rfl (by decide) rfl m_X1_growBy_f61 dX1_growBy_8 hf (fun x1 hf => ?_)
    refine v_icmp_ge 55 dX1_growBy_11 (by decide) hf (fun _ hf => ?_) (fun _ hf => ?_)
    · refine v_aload_n 1 dX1_growBy_55 rfl rfl ?_
      refine v_gi 0 1 n_X1_growBy_X0 rfl (by decide) rfl m_X1_growBy_f61 dX1_growBy_56 hf (fun x2 hf => ?_)
      exact v_iret hr dX1_growBy_59 hE hf
    · refine v_aload_n 1 dX1_growBy_14 rfl rfl ?_
      refine v_iload 3 dX1_growBy_15 rfl ?_
      refine v_callVi 0 1 [.int l4] (c_X0_actAt (xl X) hfx p1 l4) gX1_growBy_X0_actAt rfl dv_X0_actAt (by decide) (by decide) rfl rfl dX1_growBy_17 (Nat.le_of_ble_eq_true rfl) rfl hE hf (fun x3 G hf => ?_)
      refine v_istore [(5, .int x3), (0, .ref this), (1, .ref p1), (3, .int p2), (4, .int l4)] dX1_growBy_20 (by decide) rfl ?_
      refine v_aload_n 1 dX1_growBy_22 rfl rfl ?_
      refine v_iload_n 3 dX1_growBy_23 rfl rfl ?_
      refine v_iload 0 dX1_growBy_24 rfl ?_
      refine v_callVi 1 2 [.int p2, .int x3] (c_X1_allows (xl X) hfx this p2 x3) gX1_growBy_X1_allows rfl dv_X1_allows (by decide) (by decide) rfl rfl dX1_growBy_26 (Nat.le_of_ble_eq_true rfl) rfl hE hf (fun x4 G hf => ?_)
      refine v_if_ne 35 dX1_growBy_29 (by decide) hf (fun _ hf => ?_) (fun _ hf => ?_)
      · refine v_aload_n 1 dX1_growBy_35 rfl rfl ?_
        refine v_iload_n 3 dX1_growBy_36 rfl rfl ?_
        refine v_iload 0 dX1_growBy_37 rfl ?_
        refine v_aload_n 2 dX1_growBy_39 rfl rfl ?_
        refine v_iload 4 dX1_growBy_40 rfl ?_
        refine v_callVi 0 1 [.int l4] (c_X0_valueAt (xl X) hfx p1 l4) gX1_growBy_X0_valueAt rfl dv_X0_valueAt (by decide) (by decide) rfl rfl dX1_growBy_42 (Nat.le_of_ble_eq_true rfl) rfl hE hf (fun x5 G hf => ?_)
        refine v_callVi 1 3 [.int p2, .int x3, .int x5] (c_X1_grow (xl X) hfx this p2 x3 x5) gX1_growBy_X1_grow rfl dv_X1_grow (by decide) (by decide) rfl rfl dX1_growBy_45 (Nat.le_of_ble_eq_true rfl) rfl hE hf (fun x6 G hf => ?_)
        refine v_istore_n [(3, .int x6), (5, .int x3), (0, .ref this), (1, .ref p1), (4, .int l4)] dX1_growBy_48 rfl (by decide) rfl ?_
        refine v_iinc 4 (l4 + 1) [(4, .int (l4 + 1)), (3, .int x6), (5, .int x3), (0, .ref this), (1, .ref p1)] dX1_growBy_49 rfl (by rfl) (by decide) rfl ?_
        refine v_goto 5 dX1_growBy_52 (by decide) ?_
        refine v_sub [3, 4, 1, 0] rfl ?_
        exact ih this p1 x6 (l4 + 1) G hf
      · refine v_iload 4 dX1_growBy_32 rfl ?_
        exact v_iret hr dX1_growBy_34 hE hf
set_option maxRecDepth 100000 in
set_option maxHeartbeats 4000000 in
theorem e_X1_growBy_0 {X : VX} {B : VB} {z : Int32} {Gf : GH}  (hfx : (xl X).stackTraces = false) (hn : (xme X).name = "growBy") (hr : (xme X).sig.returnType = (some .int)) (hE : VE B (z, Gf))  (this : Nat) (p1 : Nat) (p2 : Int32) (G : GH) (hf : (f_X1_growBy this p1 p2).1 G = some (z, Gf)) : V X RX1 cX1_growBy 6 5 119 wsX1_growBy B (QE X (vI z) Gf B) G 0 [(0, .ref this), (1, .ref p1), (2, .int p2)] [] := by
  unfold f_X1_growBy at hf
  refine v_iload_n 2 dX1_growBy_0 rfl rfl ?_
  refine v_istore_n [(3, .int p2), (0, .ref this), (1, .ref p1), (2, .int p2)] dX1_growBy_1 rfl (by decide) rfl ?_
  refine v_iconst 0 dX1_growBy_2 (by decide) ?_
  refine v_istore [(4, .int 0), (3, .int p2), (0, .ref this), (1, .ref p1), (2, .int p2)] dX1_growBy_3 (by decide) rfl ?_
  refine v_sub [2, 3, 1, 0] rfl ?_
  exact e_X1_growBy_5 hfx hn hr hE FU this p1 p2 0 G hf
theorem c_X1_growBy (l : Launch) (hfl : l.stackTraces = false) (this : Nat) (p1 : Nat) (p2 : Int32) : CM l yX1_growBy wsX1_growBy 5 119 [.ref this, .ref p1, .int p2] vI (f_X1_growBy this p1 p2) := CM.start hfl RX1 rfl (by decide +kernel) rfl (Nat.le_of_ble_eq_true rfl) (fun X G z Gf hl hn hr hf => e_X1_growBy_0 (by rw [hl]; exact hfl) hn hr ⟨rfl, rfl⟩ this p1 p2 G hf)
theorem dv_X1_growBy : yX1_growBy.cls = RX1 ∧ yX1_growBy.cls ≠ "java/lang/invoke/MethodHandle" ∧ yX1_growBy.cls ≠ "java/lang/invoke/VarHandle" ∧ (parseMethodDescriptor yX1_growBy.desc).map (fun d => d.parameters.length) = some 2 := by decide +kernel
theorem m_X1_childless_f9 : Cond.fieldLink RX1 9 RX1 "held" "I" ∈ wsX1_childless := by decide +kernel
theorem n_X1_childless_X1 : ∀ w ∈ u_ws RX1 TX1 5, w ∈ wsX1_childless := by decide +kernel
theorem m_X1_childless_f54 : Cond.fieldLink RX1 54 RX3 "parent" "I" ∈ wsX1_childless := by decide +kernel
theorem m_X1_childless_f27 : Cond.fieldLink RX1 27 RX1 "childMarks" "[I" ∈ wsX1_childless := by decide +kernel
theorem m_X1_childless_itX4 : Cond.initialized RX4 ∈ wsX1_childless := by decide +kernel
theorem m_X1_childless_sy96 : Cond.static yX4_fill ∈ wsX1_childless := by decide +kernel
theorem m_X1_childless_sy100 : Cond.static yX4_cell ∈ wsX1_childless := by decide +kernel
theorem n_X1_childless_X3 : ∀ w ∈ u_ws RX3 TX3 11, w ∈ wsX1_childless := by decide +kernel
set_option maxRecDepth 100000 in
set_option maxHeartbeats 4000000 in
theorem e_X1_childless_29 {X : VX} {B : VB} {z : Int32} {Gf : GH}  (hfx : (xl X).stackTraces = false) (hn : (xme X).name = "childless") (hr : (xme X).sig.returnType = (some .int)) (hE : VE B (z, Gf))  : ∀ (n : Nat) (this : Nat) (l1 : Int32) (l2 : Int32) (G : GH), (f_X1_childless_29 n this l1 l2).1 G = some (z, Gf) → V X RX1 cX1_childless 4 3 54 wsX1_childless B (QE X (vI z) Gf B) G 29 [(0, .ref this), (1, .int l1), (2, .int l2)] [] := by
  intro n
  induction n with
  | zero =>
    intro this l1 l2 G hf
    have h0 : (none : Option (Int32 × GH)) = some (z, Gf) := hf
    cases h0
  | succ n ih =>
    intro this l1 l2 G hf
    rw [f_X1_childless_29.eq_2] at hf
    refine v_iload_n 2 dX1_childless_29 rfl rfl ?_
    refine v_aload_n 0 dX1_childless_30 rfl rfl ?_
    refine v_gi 1 0 n_X1_childless_X1 rfl (by decide) rfl m_X1_childless_f9 dX1_childless_31 hf (fun x2 hf => ?_)
    refine v_icmp_ge 75 dX1_childless_34 (by decide) hf (fun _ hf => ?_) (fun _ hf => ?_)
    · refine v_aload_n 0 dX1_childless_75 rfl rfl ?_
      refine v_gi 1 0 n_X1_childless_X1 rfl (by decide) rfl m_X1_childless_f9 dX1_childless_76 hf (fun x3 hf => ?_)
      refine v_iload_n 1 dX1_childless_79 rfl rfl ?_
      refine v_isub dX1_childless_80 ?_
      exact v_iret hr dX1_childless_81 hE hf
    · refine v_aload_n 0 dX1_childless_37 rfl rfl ?_
      refine v_iload_n 2 dX1_childless_38 rfl rfl ?_
      refine v_callVr 1 1 [.int l2] (c_X1_slot (xl X) hfx this l2) gX1_childless_X1_slot rfl dv_X1_slot (by decide) (by decide) rfl rfl dX1_childless_39 (Nat.le_of_ble_eq_true rfl) rfl hE hf (fun r4 G hf => ?_)
      refine v_gi 3 0 n_X1_childless_X3 rfl (by decide) rfl m_X1_childless_f54 dX1_childless_42 hf (fun x5 hf => ?_)
      refine v_istore_n [(3, .int x5), (0, .ref this), (1, .int l1), (2, .int l2)] dX1_childless_45 rfl (by decide) rfl ?_
      refine v_aload_n 1 dX1_childless_46 rfl rfl ?_
      refine v_gr 1 4 n_X1_childless_X1 rfl (by decide) rfl m_X1_childless_f27 dX1_childless_47 hf (fun r6 hf => ?_)
      refine v_iload_n 0 dX1_childless_50 rfl rfl ?_
      refine v_callNi (host := RX4) 2 [.ref r6, .int x5] (c_X4_cell (xl X) hfx r6 x5) gX1_childless_X4_cell_n100 (by decide +kernel) m_X1_childless_itX4 m_X1_childless_sy100 rfl dn_X4_cell (by decide) (by decide) rfl dX1_childless_51 (Nat.le_of_ble_eq_true rfl) rfl hE hf (fun x7 G hf => ?_)
      refine v_if_ne 69 dX1_childless_54 (by decide) hf (fun _ hf => ?_) (fun _ hf => ?_)
      · refine v_iinc 3 (l2 + 1) [(2, .int (l2 + 1)), (3, .int x5), (0, .ref this), (1, .int l1)] dX1_childless_69 rfl (by rfl) (by decide) rfl ?_
        refine v_goto 29 dX1_childless_72 (by decide) ?_
        refine v_sub [2, 3, 0] rfl ?_
        exact ih this l1 (l2 + 1) G hf
      · refine v_aload_n 1 dX1_childless_57 rfl rfl ?_
        refine v_gr 1 4 n_X1_childless_X1 rfl (by decide) rfl m_X1_childless_f27 dX1_childless_58 hf (fun r8 hf => ?_)
        refine v_iload_n 0 dX1_childless_61 rfl rfl ?_
        refine v_iconst 1 dX1_childless_62 (by decide) ?_
        refine v_callNv (host := RX4) 3 [.ref r8, .int x5, .int 1] (c_X4_fill (xl X) hfx r8 x5 1) gX1_childless_X4_fill_n96 (by decide +kernel) m_X1_childless_itX4 m_X1_childless_sy96 rfl dn_X4_fill (by decide) (by decide) rfl dX1_childless_63 (Nat.le_of_ble_eq_true rfl) rfl hE hf (fun _ G hf => ?_)
        refine v_iinc 2 (l1 + 1) [(1, .int (l1 + 1)), (3, .int x5), (0, .ref this), (2, .int l2)] dX1_childless_66 rfl (by rfl) (by decide) rfl ?_
        refine v_iinc 3 (l2 + 1) [(2, .int (l2 + 1)), (1, .int (l1 + 1)), (3, .int x5), (0, .ref this)] dX1_childless_69 rfl (by rfl) (by decide) rfl ?_
        refine v_goto 29 dX1_childless_72 (by decide) ?_
        refine v_sub [3, 1, 0] rfl ?_
        exact ih this (l1 + 1) (l2 + 1) G hf
set_option maxRecDepth 100000 in
set_option maxHeartbeats 4000000 in
theorem e_X1_childless_2 {X : VX} {B : VB} {z : Int32} {Gf : GH}  (hfx : (xl X).stackTraces = false) (hn : (xme X).name = "childless") (hr : (xme X).sig.returnType = (some .int)) (hE : VE B (z, Gf))  : ∀ (n : Nat) (this : Nat) (l1 : Int32) (G : GH), (f_X1_childless_2 n this l1).1 G = some (z, Gf) → V X RX1 cX1_childless 4 3 54 wsX1_childless B (QE X (vI z) Gf B) G 2 [(0, .ref this), (1, .int l1)] [] := by
  intro n
  induction n with
  | zero =>
    intro this l1 G hf
    have h0 : (none : Option (Int32 × GH)) = some (z, Gf) := hf
    cases h0
  | succ n ih =>
    intro this l1 G hf
    rw [f_X1_childless_2.eq_2] at hf
    refine v_iload_n 1 dX1_childless_2 rfl rfl ?_
    refine v_aload_n 0 dX1_childless_3 rfl rfl ?_
    refine v_gi 1 0 n_X1_childless_X1 rfl (by decide) rfl m_X1_childless_f9 dX1_childless_4 hf (fun x1 hf => ?_)
    refine v_icmp_ge 25 dX1_childless_7 (by decide) hf (fun _ hf => ?_) (fun _ hf => ?_)
    · refine v_iconst 0 dX1_childless_25 (by decide) ?_
      refine v_istore_n [(1, .int 0), (0, .ref this)] dX1_childless_26 rfl (by decide) rfl ?_
      refine v_iconst 1 dX1_childless_27 (by decide) ?_
      refine v_istore_n [(2, .int 1), (1, .int 0), (0, .ref this)] dX1_childless_28 rfl (by decide) rfl ?_
      refine v_sub [2, 1, 0] rfl ?_
      exact e_X1_childless_29 hfx hn hr hE FU this 0 1 G hf
    · refine v_aload_n 0 dX1_childless_10 rfl rfl ?_
      refine v_gr 1 4 n_X1_childless_X1 rfl (by decide) rfl m_X1_childless_f27 dX1_childless_11 hf (fun r9 hf => ?_)
      refine v_iload_n 1 dX1_childless_14 rfl rfl ?_
      refine v_iconst 0 dX1_childless_15 (by decide) ?_
      refine v_callNv (host := RX4) 3 [.ref r9, .int l1, .int 0] (c_X4_fill (xl X) hfx r9 l1 0) gX1_childless_X4_fill_n96 (by decide +kernel) m_X1_childless_itX4 m_X1_childless_sy96 rfl dn_X4_fill (by decide) (by decide) rfl dX1_childless_16 (Nat.le_of_ble_eq_true rfl) rfl hE hf (fun _ G hf => ?_)
      refine v_iinc 1 (l1 + 1) [(1, .int (l1 + 1)), (0, .ref this)] dX1_childless_19 rfl (by rfl) (by decide) rfl ?_
      refine v_goto 2 dX1_childless_22 (by decide) ?_
      refine v_sub [1, 0] rfl ?_
      exact ih this (l1 + 1) G hf
set_option maxRecDepth 100000 in
set_option maxHeartbeats 4000000 in
theorem e_X1_childless_0 {X : VX} {B : VB} {z : Int32} {Gf : GH}  (hfx : (xl X).stackTraces = false) (hn : (xme X).name = "childless") (hr : (xme X).sig.returnType = (some .int)) (hE : VE B (z, Gf))  (this : Nat) (G : GH) (hf : (f_X1_childless this).1 G = some (z, Gf)) : V X RX1 cX1_childless 4 3 54 wsX1_childless B (QE X (vI z) Gf B) G 0 [(0, .ref this)] [] := by
  unfold f_X1_childless at hf
  refine v_iconst 0 dX1_childless_0 (by decide) ?_
  refine v_istore_n [(1, .int 0), (0, .ref this)] dX1_childless_1 rfl (by decide) rfl ?_
  refine v_sub [1, 0] rfl ?_
  exact e_X1_childless_2 hfx hn hr hE FU this 0 G hf
theorem c_X1_childless (l : Launch) (hfl : l.stackTraces = false) (this : Nat) : CM l yX1_childless wsX1_childless 3 54 [.ref this] vI (f_X1_childless this) := CM.start hfl RX1 rfl (by decide +kernel) rfl (Nat.le_of_ble_eq_true rfl) (fun X G z Gf hl hn hr hf => e_X1_childless_0 (by rw [hl]; exact hfl) hn hr ⟨rfl, rfl⟩ this G hf)
theorem dv_X1_childless : yX1_childless.cls = RX1 ∧ yX1_childless.cls ≠ "java/lang/invoke/MethodHandle" ∧ yX1_childless.cls ≠ "java/lang/invoke/VarHandle" ∧ (parseMethodDescriptor yX1_childless.desc).map (fun d => d.parameters.length) = some 0 := by decide +kernel
theorem m_X1_greatestFact_f9 : Cond.fieldLink RX1 9 RX1 "held" "I" ∈ wsX1_greatestFact := by decide +kernel
theorem m_X1_greatestFact_m107 : Cond.methodLink RX1 107 Lib.Math.max.name ∈ wsX1_greatestFact := by decide +kernel
theorem m_X1_greatestFact_msmax : Cond.static Lib.Math.max.name ∈ wsX1_greatestFact := by decide +kernel
theorem m_X1_greatestFact_mi : Cond.initialized "java/lang/Math" ∈ wsX1_greatestFact := by decide +kernel
theorem m_X1_greatestFact_mcmax : Cond.code Lib.Math.max.name Lib.Math.max.code 2 (some .int) ∈ wsX1_greatestFact := by decide +kernel
theorem n_X1_greatestFact_X1 : ∀ w ∈ u_ws RX1 TX1 5, w ∈ wsX1_greatestFact := by decide +kernel
set_option maxRecDepth 100000 in
set_option maxHeartbeats 4000000 in
theorem e_X1_greatestFact_4 {X : VX} {B : VB} {z : Int32} {Gf : GH}  (hfx : (xl X).stackTraces = false) (hn : (xme X).name = "greatestFact") (hr : (xme X).sig.returnType = (some .int)) (hE : VE B (z, Gf))  : ∀ (n : Nat) (this : Nat) (p1 : Int32) (l2 : Int32) (l3 : Int32) (G : GH), (f_X1_greatestFact_4 n this p1 l2 l3).1 G = some (z, Gf) → V X RX1 cX1_greatestFact 4 3 54 wsX1_greatestFact B (QE X (vI z) Gf B) G 4 [(0, .ref this), (1, .int p1), (2, .int l2), (3, .int l3)] [] := by
  intro n
  induction n with
  | zero =>
    intro this p1 l2 l3 G hf
    have h0 : (none : Option (Int32 × GH)) = some (z, Gf) := hf
    cases h0
  | succ n ih =>
    intro this p1 l2 l3 G hf
    rw [f_X1_greatestFact_4.eq_2] at hf
    refine v_iload_n 3 dX1_greatestFact_4 rfl rfl ?_
    refine v_aload_n 0 dX1_greatestFact_5 rfl rfl ?_
    refine v_gi 1 0 n_X1_greatestFact_X1 rfl (by decide) rfl m_X1_greatestFact_f9 dX1_greatestFact_6 hf (fun x1 hf => ?_)
    refine v_icmp_ge 32 dX1_greatestFact_9 (by decide) hf (fun _ hf => ?_) (fun _ hf => ?_)
    · refine v_iload_n 2 dX1_greatestFact_32 rfl rfl ?_
      exact v_iret hr dX1_greatestFact_33 hE hf
    · refine v_iload_n 2 dX1_greatestFact_12 rfl rfl ?_
      refine v_aload_n 0 dX1_greatestFact_13 rfl rfl ?_
      refine v_iload_n 3 dX1_greatestFact_14 rfl rfl ?_
      refine v_callVr 1 1 [.int l3] (c_X1_slot (xl X) hfx this l3) gX1_greatestFact_X1_slot rfl dv_X1_slot (by decide) (by decide) rfl rfl dX1_greatestFact_15 (Nat.le_of_ble_eq_true rfl) rfl hE hf (fun r2 G hf => ?_)
      refine v_iload_n 1 dX1_greatestFact_18 rfl rfl ?_
      refine v_callVi 3 1 [.int p1] (c_X3_fact (xl X) hfx r2 p1) gX1_greatestFact_X3_fact rfl dv_X3_fact (by decide) (by decide) rfl rfl dX1_greatestFact_19 (Nat.le_of_ble_eq_true rfl) rfl hE hf (fun x3 G hf => ?_)
      refine v_max m_X1_greatestFact_m107 m_X1_greatestFact_msmax m_X1_greatestFact_mi m_X1_greatestFact_mcmax dX1_greatestFact_22 (by decide) (Nat.le_of_ble_eq_true rfl) hE hf ?_
      refine v_istore_n [(2, .int (if l2 < x3 then x3 else l2)), (0, .ref this), (1, .int p1), (3, .int l3)] dX1_greatestFact_25 rfl (by decide) rfl ?_
      refine v_iinc 3 (l3 + 1) [(3, .int (l3 + 1)), (2, .int (if l2 < x3 then x3 else l2)), (0, .ref this), (1, .int p1)] dX1_greatestFact_26 rfl (by rfl) (by decide) rfl ?_
      refine v_goto 4 dX1_greatestFact_29 (by decide) ?_
      refine v_sub [2, 3, 1, 0] rfl ?_
      exact ih this p1 (if l2 < x3 then x3 else l2) (l3 + 1) G hf
set_option maxRecDepth 100000 in
set_option maxHeartbeats 4000000 in
theorem e_X1_greatestFact_0 {X : VX} {B : VB} {z : Int32} {Gf : GH}  (hfx : (xl X).stackTraces = false) (hn : (xme X).name = "greatestFact") (hr : (xme X).sig.returnType = (some .int)) (hE : VE B (z, Gf))  (this : Nat) (p1 : Int32) (G : GH) (hf : (f_X1_greatestFact this p1).1 G = some (z, Gf)) : V X RX1 cX1_greatestFact 4 3 54 wsX1_greatestFact B (QE X (vI z) Gf B) G 0 [(0, .ref this), (1, .int p1)] [] := by
  unfold f_X1_greatestFact at hf
  refine v_iconst 0 dX1_greatestFact_0 (by decide) ?_
  refine v_istore_n [(2, .int 0), (0, .ref this), (1, .int p1)] dX1_greatestFact_1 rfl (by decide) rfl ?_
  refine v_iconst 0 dX1_greatestFact_2 (by decide) ?_
  refine v_istore_n [(3, .int 0), (2, .int 0), (0, .ref this), (1, .int p1)] dX1_greatestFact_3 rfl (by decide) rfl ?_
  refine v_sub [2, 3, 1, 0] rfl ?_
  exact e_X1_greatestFact_4 hfx hn hr hE FU this p1 0 0 G hf
theorem c_X1_greatestFact (l : Launch) (hfl : l.stackTraces = false) (this : Nat) (p1 : Int32) : CM l yX1_greatestFact wsX1_greatestFact 3 54 [.ref this, .int p1] vI (f_X1_greatestFact this p1) := CM.start hfl RX1 rfl (by decide +kernel) rfl (Nat.le_of_ble_eq_true rfl) (fun X G z Gf hl hn hr hf => e_X1_greatestFact_0 (by rw [hl]; exact hfl) hn hr ⟨rfl, rfl⟩ this p1 G hf)
theorem dv_X1_greatestFact : yX1_greatestFact.cls = RX1 ∧ yX1_greatestFact.cls ≠ "java/lang/invoke/MethodHandle" ∧ yX1_greatestFact.cls ≠ "java/lang/invoke/VarHandle" ∧ (parseMethodDescriptor yX1_greatestFact.desc).map (fun d => d.parameters.length) = some 1 := by decide +kernel
theorem m_X1_sumOfFacts_f9 : Cond.fieldLink RX1 9 RX1 "held" "I" ∈ wsX1_sumOfFacts := by decide +kernel
theorem n_X1_sumOfFacts_X1 : ∀ w ∈ u_ws RX1 TX1 5, w ∈ wsX1_sumOfFacts := by decide +kernel
set_option maxRecDepth 100000 in
set_option maxHeartbeats 4000000 in
theorem e_X1_sumOfFacts_4 {X : VX} {B : VB} {z : Int32} {Gf : GH}  (hfx : (xl X).stackTraces = false) (hn : (xme X).name = "sumOfFacts") (hr : (xme X).sig.returnType = (some .int)) (hE : VE B (z, Gf))  : ∀ (n : Nat) (this : Nat) (p1 : Int32) (l2 : Int32) (l3 : Int32) (G : GH), (f_X1_sumOfFacts_4 n this p1 l2 l3).1 G = some (z, Gf) → V X RX1 cX1_sumOfFacts 4 3 54 wsX1_sumOfFacts B (QE X (vI z) Gf B) G 4 [(0, .ref this), (1, .int p1), (2, .int l2), (3, .int l3)] [] := by
  intro n
  induction n with
  | zero =>
    intro this p1 l2 l3 G hf
    have h0 : (none : Option (Int32 × GH)) = some (z, Gf) := hf
    cases h0
  | succ n ih =>
    intro this p1 l2 l3 G hf
    rw [f_X1_sumOfFacts_4.eq_2] at hf
    refine v_iload_n 3 dX1_sumOfFacts_4 rfl rfl ?_
    refine v_aload_n 0 dX1_sumOfFacts_5 rfl rfl ?_
    refine v_gi 1 0 n_X1_sumOfFacts_X1 rfl (by decide) rfl m_X1_sumOfFacts_f9 dX1_sumOfFacts_6 hf (fun x1 hf => ?_)
    refine v_icmp_ge 30 dX1_sumOfFacts_9 (by decide) hf (fun _ hf => ?_) (fun _ hf => ?_)
    · refine v_iload_n 2 dX1_sumOfFacts_30 rfl rfl ?_
      exact v_iret hr dX1_sumOfFacts_31 hE hf
    · refine v_iload_n 2 dX1_sumOfFacts_12 rfl rfl ?_
      refine v_aload_n 0 dX1_sumOfFacts_13 rfl rfl ?_
      refine v_iload_n 3 dX1_sumOfFacts_14 rfl rfl ?_
      refine v_callVr 1 1 [.int l3] (c_X1_slot (xl X) hfx this l3) gX1_sumOfFacts_X1_slot rfl dv_X1_slot (by decide) (by decide) rfl rfl dX1_sumOfFacts_15 (Nat.le_of_ble_eq_true rfl) rfl hE hf (fun r2 G hf => ?_)
      refine v_iload_n 1 dX1_sumOfFacts_18 rfl rfl ?_
      refine v_callVi 3 1 [.int p1] (c_X3_fact (xl X) hfx r2 p1) gX1_sumOfFacts_X3_fact rfl dv_X3_fact (by decide) (by decide) rfl rfl dX1_sumOfFacts_19 (Nat.le_of_ble_eq_true rfl) rfl hE hf (fun x3 G hf => ?_)
      refine v_iadd dX1_sumOfFacts_22 ?_
      refine v_istore_n [(2, .int (l2 + x3)), (0, .ref this), (1, .int p1), (3, .int l3)] dX1_sumOfFacts_23 rfl (by decide) rfl ?_
      refine v_iinc 3 (l3 + 1) [(3, .int (l3 + 1)), (2, .int (l2 + x3)), (0, .ref this), (1, .int p1)] dX1_sumOfFacts_24 rfl (by rfl) (by decide) rfl ?_
      refine v_goto 4 dX1_sumOfFacts_27 (by decide) ?_
      refine v_sub [2, 3, 1, 0] rfl ?_
      exact ih this p1 (l2 + x3) (l3 + 1) G hf
set_option maxRecDepth 100000 in
set_option maxHeartbeats 4000000 in
theorem e_X1_sumOfFacts_0 {X : VX} {B : VB} {z : Int32} {Gf : GH}  (hfx : (xl X).stackTraces = false) (hn : (xme X).name = "sumOfFacts") (hr : (xme X).sig.returnType = (some .int)) (hE : VE B (z, Gf))  (this : Nat) (p1 : Int32) (G : GH) (hf : (f_X1_sumOfFacts this p1).1 G = some (z, Gf)) : V X RX1 cX1_sumOfFacts 4 3 54 wsX1_sumOfFacts B (QE X (vI z) Gf B) G 0 [(0, .ref this), (1, .int p1)] [] := by
  unfold f_X1_sumOfFacts at hf
  refine v_iconst 0 dX1_sumOfFacts_0 (by decide) ?_
  refine v_istore_n [(2, .int 0), (0, .ref this), (1, .int p1)] dX1_sumOfFacts_1 rfl (by decide) rfl ?_
  refine v_iconst 0 dX1_sumOfFacts_2 (by decide) ?_
  refine v_istore_n [(3, .int 0), (2, .int 0), (0, .ref this), (1, .int p1)] dX1_sumOfFacts_3 rfl (by decide) rfl ?_
  refine v_sub [2, 3, 1, 0] rfl ?_
  exact e_X1_sumOfFacts_4 hfx hn hr hE FU this p1 0 0 G hf
theorem c_X1_sumOfFacts (l : Launch) (hfl : l.stackTraces = false) (this : Nat) (p1 : Int32) : CM l yX1_sumOfFacts wsX1_sumOfFacts 3 54 [.ref this, .int p1] vI (f_X1_sumOfFacts this p1) := CM.start hfl RX1 rfl (by decide +kernel) rfl (Nat.le_of_ble_eq_true rfl) (fun X G z Gf hl hn hr hf => e_X1_sumOfFacts_0 (by rw [hl]; exact hfl) hn hr ⟨rfl, rfl⟩ this p1 G hf)
theorem dv_X1_sumOfFacts : yX1_sumOfFacts.cls = RX1 ∧ yX1_sumOfFacts.cls ≠ "java/lang/invoke/MethodHandle" ∧ yX1_sumOfFacts.cls ≠ "java/lang/invoke/VarHandle" ∧ (parseMethodDescriptor yX1_sumOfFacts.desc).map (fun d => d.parameters.length) = some 1 := by decide +kernel
theorem m_X1_stalled_f9 : Cond.fieldLink RX1 9 RX1 "held" "I" ∈ wsX1_stalled := by decide +kernel
theorem m_X1_stalled_f113 : Cond.fieldLink RX1 113 RX3 "extra" "I" ∈ wsX1_stalled := by decide +kernel
theorem n_X1_stalled_X3 : ∀ w ∈ u_ws RX3 TX3 11, w ∈ wsX1_stalled := by decide +kernel
theorem n_X1_stalled_X1 : ∀ w ∈ u_ws RX1 TX1 5, w ∈ wsX1_stalled := by decide +kernel
set_option maxRecDepth 100000 in
set_option maxHeartbeats 4000000 in
theorem e_X1_stalled_4 {X : VX} {B : VB} {z : Int32} {Gf : GH}  (hfx : (xl X).stackTraces = false) (hn : (xme X).name = "stalled") (hr : (xme X).sig.returnType = (some .int)) (hE : VE B (z, Gf))  : ∀ (n : Nat) (this : Nat) (l1 : Int32) (l2 : Int32) (G : GH), (f_X1_stalled_4 n this l1 l2).1 G = some (z, Gf) → V X RX1 cX1_stalled 3 3 54 wsX1_stalled B (QE X (vI z) Gf B) G 4 [(0, .ref this), (1, .int l1), (2, .int l2)] [] := by
  intro n
  induction n with
  | zero =>
    intro this l1 l2 G hf
    have h0 : (none : Option (Int32 × GH)) = some (z, Gf) := hf
    cases h0
  | succ n ih =>
    intro this l1 l2 G hf
    rw [f_X1_stalled_4.eq_2] at hf
    refine v_iload_n 2 dX1_stalled_4 rfl rfl ?_
    refine v_aload_n 0 dX1_stalled_5 rfl rfl ?_
    refine v_gi 1 0 n_X1_stalled_X1 rfl (by decide) rfl m_X1_stalled_f9 dX1_stalled_6 hf (fun x1 hf => ?_)
    refine v_icmp_ge 32 dX1_stalled_9 (by decide) hf (fun _ hf => ?_) (fun _ hf => ?_)
    · refine v_iload_n 1 dX1_stalled_32 rfl rfl ?_
      exact v_iret hr dX1_stalled_33 hE hf
    · refine v_aload_n 0 dX1_stalled_12 rfl rfl ?_
      refine v_iload_n 2 dX1_stalled_13 rfl rfl ?_
      refine v_callVr 1 1 [.int l2] (c_X1_slot (xl X) hfx this l2) gX1_stalled_X1_slot rfl dv_X1_slot (by decide) (by decide) rfl rfl dX1_stalled_14 (Nat.le_of_ble_eq_true rfl) rfl hE hf (fun r2 G hf => ?_)
      refine v_gi 3 9 n_X1_stalled_X3 rfl (by decide) rfl m_X1_stalled_f113 dX1_stalled_17 hf (fun x3 hf => ?_)
      refine v_if_le 26 dX1_stalled_20 (by decide) hf (fun _ hf => ?_) (fun _ hf => ?_)
      · refine v_iinc 2 (l2 + 1) [(2, .int (l2 + 1)), (0, .ref this), (1, .int l1)] dX1_stalled_26 rfl (by rfl) (by decide) rfl ?_
        refine v_goto 4 dX1_stalled_29 (by decide) ?_
        refine v_sub [1, 2, 0] rfl ?_
        exact ih this l1 (l2 + 1) G hf
      · refine v_iinc 1 (l1 + 1) [(1, .int (l1 + 1)), (0, .ref this), (2, .int l2)] dX1_stalled_23 rfl (by rfl) (by decide) rfl ?_
        refine v_iinc 2 (l2 + 1) [(2, .int (l2 + 1)), (1, .int (l1 + 1)), (0, .ref this)] dX1_stalled_26 rfl (by rfl) (by decide) rfl ?_
        refine v_goto 4 dX1_stalled_29 (by decide) ?_
        refine v_sub [2, 1, 0] rfl ?_
        exact ih this (l1 + 1) (l2 + 1) G hf
set_option maxRecDepth 100000 in
set_option maxHeartbeats 4000000 in
theorem e_X1_stalled_0 {X : VX} {B : VB} {z : Int32} {Gf : GH}  (hfx : (xl X).stackTraces = false) (hn : (xme X).name = "stalled") (hr : (xme X).sig.returnType = (some .int)) (hE : VE B (z, Gf))  (this : Nat) (G : GH) (hf : (f_X1_stalled this).1 G = some (z, Gf)) : V X RX1 cX1_stalled 3 3 54 wsX1_stalled B (QE X (vI z) Gf B) G 0 [(0, .ref this)] [] := by
  unfold f_X1_stalled at hf
  refine v_iconst 0 dX1_stalled_0 (by decide) ?_
  refine v_istore_n [(1, .int 0), (0, .ref this)] dX1_stalled_1 rfl (by decide) rfl ?_
  refine v_iconst 0 dX1_stalled_2 (by decide) ?_
  refine v_istore_n [(2, .int 0), (1, .int 0), (0, .ref this)] dX1_stalled_3 rfl (by decide) rfl ?_
  refine v_sub [2, 1, 0] rfl ?_
  exact e_X1_stalled_4 hfx hn hr hE FU this 0 0 G hf
theorem c_X1_stalled (l : Launch) (hfl : l.stackTraces = false) (this : Nat) : CM l yX1_stalled wsX1_stalled 3 54 [.ref this] vI (f_X1_stalled this) := CM.start hfl RX1 rfl (by decide +kernel) rfl (Nat.le_of_ble_eq_true rfl) (fun X G z Gf hl hn hr hf => e_X1_stalled_0 (by rw [hl]; exact hfl) hn hr ⟨rfl, rfl⟩ this G hf)
theorem dv_X1_stalled : yX1_stalled.cls = RX1 ∧ yX1_stalled.cls ≠ "java/lang/invoke/MethodHandle" ∧ yX1_stalled.cls ≠ "java/lang/invoke/VarHandle" ∧ (parseMethodDescriptor yX1_stalled.desc).map (fun d => d.parameters.length) = some 0 := by decide +kernel
theorem m_X1_rebuilding_f9 : Cond.fieldLink RX1 9 RX1 "held" "I" ∈ wsX1_rebuilding := by decide +kernel
theorem n_X1_rebuilding_X1 : ∀ w ∈ u_ws RX1 TX1 5, w ∈ wsX1_rebuilding := by decide +kernel
set_option maxRecDepth 100000 in
set_option maxHeartbeats 4000000 in
theorem e_X1_rebuilding_4 {X : VX} {B : VB} {z : Int32} {Gf : GH}  (hfx : (xl X).stackTraces = false) (hn : (xme X).name = "rebuilding") (hr : (xme X).sig.returnType = (some .int)) (hE : VE B (z, Gf))  : ∀ (n : Nat) (this : Nat) (l1 : Int32) (l2 : Int32) (G : GH), (f_X1_rebuilding_4 n this l1 l2).1 G = some (z, Gf) → V X RX1 cX1_rebuilding 3 3 54 wsX1_rebuilding B (QE X (vI z) Gf B) G 4 [(0, .ref this), (1, .int l1), (2, .int l2)] [] := by
  intro n
  induction n with
  | zero =>
    intro this l1 l2 G hf
    have h0 : (none : Option (Int32 × GH)) = some (z, Gf) := hf
    cases h0
  | succ n ih =>
    intro this l1 l2 G hf
    rw [f_X1_rebuilding_4.eq_2] at hf
    refine v_iload_n 2 dX1_rebuilding_4 rfl rfl ?_
    refine v_aload_n 0 dX1_rebuilding_5 rfl rfl ?_
    refine v_gi 1 0 n_X1_rebuilding_X1 rfl (by decide) rfl m_X1_rebuilding_f9 dX1_rebuilding_6 hf (fun x1 hf => ?_)
    refine v_icmp_ge 32 dX1_rebuilding_9 (by decide) hf (fun _ hf => ?_) (fun _ hf => ?_)
    · refine v_iload_n 1 dX1_rebuilding_32 rfl rfl ?_
      exact v_iret hr dX1_rebuilding_33 hE hf
    · refine v_aload_n 0 dX1_rebuilding_12 rfl rfl ?_
      refine v_iload_n 2 dX1_rebuilding_13 rfl rfl ?_
      refine v_callVr 1 1 [.int l2] (c_X1_slot (xl X) hfx this l2) gX1_rebuilding_X1_slot rfl dv_X1_slot (by decide) (by decide) rfl rfl dX1_rebuilding_14 (Nat.le_of_ble_eq_true rfl) rfl hE hf (fun r2 G hf => ?_)
      refine v_callVi 3 0 [] (c_X3_isRebuilding (xl X) hfx r2) gX1_rebuilding_X3_isRebuilding rfl dv_X3_isRebuilding (by decide) (by decide) rfl rfl dX1_rebuilding_17 (Nat.le_of_ble_eq_true rfl) rfl hE hf (fun x3 G hf => ?_)
      refine v_if_eq 26 dX1_rebuilding_20 (by decide) hf (fun _ hf => ?_) (fun _ hf => ?_)
      · refine v_iinc 2 (l2 + 1) [(2, .int (l2 + 1)), (0, .ref this), (1, .int l1)] dX1_rebuilding_26 rfl (by rfl) (by decide) rfl ?_
        refine v_goto 4 dX1_rebuilding_29 (by decide) ?_
        refine v_sub [1, 2, 0] rfl ?_
        exact ih this l1 (l2 + 1) G hf
      · refine v_iinc 1 (l1 + 1) [(1, .int (l1 + 1)), (0, .ref this), (2, .int l2)] dX1_rebuilding_23 rfl (by rfl) (by decide) rfl ?_
        refine v_iinc 2 (l2 + 1) [(2, .int (l2 + 1)), (1, .int (l1 + 1)), (0, .ref this)] dX1_rebuilding_26 rfl (by rfl) (by decide) rfl ?_
        refine v_goto 4 dX1_rebuilding_29 (by decide) ?_
        refine v_sub [2, 1, 0] rfl ?_
        exact ih this (l1 + 1) (l2 + 1) G hf
set_option maxRecDepth 100000 in
set_option maxHeartbeats 4000000 in
theorem e_X1_rebuilding_0 {X : VX} {B : VB} {z : Int32} {Gf : GH}  (hfx : (xl X).stackTraces = false) (hn : (xme X).name = "rebuilding") (hr : (xme X).sig.returnType = (some .int)) (hE : VE B (z, Gf))  (this : Nat) (G : GH) (hf : (f_X1_rebuilding this).1 G = some (z, Gf)) : V X RX1 cX1_rebuilding 3 3 54 wsX1_rebuilding B (QE X (vI z) Gf B) G 0 [(0, .ref this)] [] := by
  unfold f_X1_rebuilding at hf
  refine v_iconst 0 dX1_rebuilding_0 (by decide) ?_
  refine v_istore_n [(1, .int 0), (0, .ref this)] dX1_rebuilding_1 rfl (by decide) rfl ?_
  refine v_iconst 0 dX1_rebuilding_2 (by decide) ?_
  refine v_istore_n [(2, .int 0), (1, .int 0), (0, .ref this)] dX1_rebuilding_3 rfl (by decide) rfl ?_
  refine v_sub [2, 1, 0] rfl ?_
  exact e_X1_rebuilding_4 hfx hn hr hE FU this 0 0 G hf
theorem c_X1_rebuilding (l : Launch) (hfl : l.stackTraces = false) (this : Nat) : CM l yX1_rebuilding wsX1_rebuilding 3 54 [.ref this] vI (f_X1_rebuilding this) := CM.start hfl RX1 rfl (by decide +kernel) rfl (Nat.le_of_ble_eq_true rfl) (fun X G z Gf hl hn hr hf => e_X1_rebuilding_0 (by rw [hl]; exact hfl) hn hr ⟨rfl, rfl⟩ this G hf)
theorem dv_X1_rebuilding : yX1_rebuilding.cls = RX1 ∧ yX1_rebuilding.cls ≠ "java/lang/invoke/MethodHandle" ∧ yX1_rebuilding.cls ≠ "java/lang/invoke/VarHandle" ∧ (parseMethodDescriptor yX1_rebuilding.desc).map (fun d => d.parameters.length) = some 0 := by decide +kernel
theorem m_X1_total_f9 : Cond.fieldLink RX1 9 RX1 "held" "I" ∈ wsX1_total := by decide +kernel
theorem n_X1_total_X1 : ∀ w ∈ u_ws RX1 TX1 5, w ∈ wsX1_total := by decide +kernel
set_option maxRecDepth 100000 in
set_option maxHeartbeats 4000000 in
theorem e_X1_total_0 {X : VX} {B : VB} {z : Int32} {Gf : GH}  (hfx : (xl X).stackTraces = false) (hn : (xme X).name = "total") (hr : (xme X).sig.returnType = (some .int)) (hE : VE B (z, Gf))  (this : Nat) (p1 : Int32) (G : GH) (hf : (f_X1_total this p1).1 G = some (z, Gf)) : V X RX1 cX1_total 2 4 77 wsX1_total B (QE X (vI z) Gf B) G 0 [(0, .ref this), (1, .int p1)] [] := by
  unfold f_X1_total at hf
  refine v_iload_n 1 dX1_total_0 rfl rfl ?_
  refine v_cases (c := p1 = 0) hf (fun c1_0 hf => ?_) (fun c1_0 hf => ?_)
  · refine v_tblIn (off := 43) 0 44 c1_0 dX1_total_1 (by decide) (by decide) (by decide) (by decide) ?_
    refine v_aload_n 0 dX1_total_44 rfl rfl ?_
    refine v_gi 1 0 n_X1_total_X1 rfl (by decide) rfl m_X1_total_f9 dX1_total_45 hf (fun x1 hf => ?_)
    exact v_iret hr dX1_total_48 hE hf
  · refine v_cases (c := p1 = 1) hf (fun c1_1 hf => ?_) (fun c1_1 hf => ?_)
    · refine v_tblIn (off := 48) 1 49 c1_1 dX1_total_1 (by decide) (by decide) (by decide) (by decide) ?_
      refine v_aload_n 0 dX1_total_49 rfl rfl ?_
      refine v_callVi 1 0 [] (c_X1_childless (xl X) hfx this) gX1_total_X1_childless rfl dv_X1_childless (by decide) (by decide) rfl rfl dX1_total_50 (Nat.le_of_ble_eq_true rfl) rfl hE hf (fun x2 G hf => ?_)
      exact v_iret hr dX1_total_53 hE hf
    · refine v_cases (c := p1 = 2) hf (fun c1_2 hf => ?_) (fun c1_2 hf => ?_)
      · refine v_tblIn (off := 53) 2 54 c1_2 dX1_total_1 (by decide) (by decide) (by decide) (by decide) ?_
        refine v_aload_n 0 dX1_total_54 rfl rfl ?_
        refine v_bipush 6 dX1_total_55 (by decide) ?_
        refine v_callVi 1 1 [.int 6] (c_X1_greatestFact (xl X) hfx this 6) gX1_total_X1_greatestFact rfl dv_X1_greatestFact (by decide) (by decide) rfl rfl dX1_total_57 (Nat.le_of_ble_eq_true rfl) rfl hE hf (fun x3 G hf => ?_)
        exact v_iret hr dX1_total_60 hE hf
      · refine v_cases (c := p1 = 3) hf (fun c1_3 hf => ?_) (fun c1_3 hf => ?_)
        · refine v_tblIn (off := 60) 3 61 c1_3 dX1_total_1 (by decide) (by decide) (by decide) (by decide) ?_
          refine v_aload_n 0 dX1_total_61 rfl rfl ?_
          refine v_bipush 6 dX1_total_62 (by decide) ?_
          refine v_callVi 1 1 [.int 6] (c_X1_sumOfFacts (xl X) hfx this 6) gX1_total_X1_sumOfFacts rfl dv_X1_sumOfFacts (by decide) (by decide) rfl rfl dX1_total_64 (Nat.le_of_ble_eq_true rfl) rfl hE hf (fun x4 G hf => ?_)
          exact v_iret hr dX1_total_67 hE hf
        · refine v_cases (c := p1 = 4) hf (fun c1_4 hf => ?_) (fun c1_4 hf => ?_)
          · refine v_tblIn (off := 67) 4 68 c1_4 dX1_total_1 (by decide) (by decide) (by decide) (by decide) ?_
            refine v_aload_n 0 dX1_total_68 rfl rfl ?_
            refine v_callVi 1 0 [] (c_X1_stalled (xl X) hfx this) gX1_total_X1_stalled rfl dv_X1_stalled (by decide) (by decide) rfl rfl dX1_total_69 (Nat.le_of_ble_eq_true rfl) rfl hE hf (fun x5 G hf => ?_)
            exact v_iret hr dX1_total_72 hE hf
          · refine v_cases (c := p1 = 5) hf (fun c1_5 hf => ?_) (fun c1_5 hf => ?_)
            · refine v_tblIn (off := 72) 5 73 c1_5 dX1_total_1 (by decide) (by decide) (by decide) (by decide) ?_
              refine v_aload_n 0 dX1_total_73 rfl rfl ?_
              refine v_bipush 7 dX1_total_74 (by decide) ?_
              refine v_callVi 1 1 [.int 7] (c_X1_sumOfFacts (xl X) hfx this 7) gX1_total_X1_sumOfFacts rfl dv_X1_sumOfFacts (by decide) (by decide) rfl rfl dX1_total_76 (Nat.le_of_ble_eq_true rfl) rfl hE hf (fun x6 G hf => ?_)
              exact v_iret hr dX1_total_79 hE hf
            · refine v_cases (c := p1 = 6) hf (fun c1_6 hf => ?_) (fun c1_6 hf => ?_)
              · refine v_tblIn (off := 79) 6 80 c1_6 dX1_total_1 (by decide) (by decide) (by decide) (by decide) ?_
                refine v_aload_n 0 dX1_total_80 rfl rfl ?_
                refine v_callVi 1 0 [] (c_X1_rebuilding (xl X) hfx this) gX1_total_X1_rebuilding rfl dv_X1_rebuilding (by decide) (by decide) rfl rfl dX1_total_81 (Nat.le_of_ble_eq_true rfl) rfl hE hf (fun x7 G hf => ?_)
                exact v_iret hr dX1_total_84 hE hf
              · refine v_tblOut 6 85 dX1_total_1 (by decide) rfl (lt_s (lt_s (lt_s (lt_s (lt_s (lt_s (lt_s lt_0 c1_0) c1_1) c1_2) c1_3) c1_4) c1_5) c1_6) (by decide) ?_
                refine v_aload_n 0 dX1_total_85 rfl rfl ?_
                refine v_bipush 9 dX1_total_86 (by decide) ?_
                refine v_callVi 1 1 [.int 9] (c_X1_greatestFact (xl X) hfx this 9) gX1_total_X1_greatestFact rfl dv_X1_greatestFact (by decide) (by decide) rfl rfl dX1_total_88 (Nat.le_of_ble_eq_true rfl) rfl hE hf (fun x8 G hf => ?_)
                exact v_iret hr dX1_total_91 hE hf
theorem c_X1_total (l : Launch) (hfl : l.stackTraces = false) (this : Nat) (p1 : Int32) : CM l yX1_total wsX1_total 4 77 [.ref this, .int p1] vI (f_X1_total this p1) := CM.start hfl RX1 rfl (by decide +kernel) rfl (Nat.le_of_ble_eq_true rfl) (fun X G z Gf hl hn hr hf => e_X1_total_0 (by rw [hl]; exact hfl) hn hr ⟨rfl, rfl⟩ this p1 G hf)
theorem dv_X1_total : yX1_total.cls = RX1 ∧ yX1_total.cls ≠ "java/lang/invoke/MethodHandle" ∧ yX1_total.cls ≠ "java/lang/invoke/VarHandle" ∧ (parseMethodDescriptor yX1_total.desc).map (fun d => d.parameters.length) = some 1 := by decide +kernel
theorem m_X1_meeting_f54 : Cond.fieldLink RX1 54 RX3 "parent" "I" ∈ wsX1_meeting := by decide +kernel
theorem n_X1_meeting_X3 : ∀ w ∈ u_ws RX3 TX3 11, w ∈ wsX1_meeting := by decide +kernel
set_option maxRecDepth 100000 in
set_option maxHeartbeats 4000000 in
theorem e_X1_meeting_8 {X : VX} {B : VB} {z : Int32} {Gf : GH}  (hfx : (xl X).stackTraces = false) (hn : (xme X).name = "meeting") (hr : (xme X).sig.returnType = (some .int)) (hE : VE B (z, Gf))  : ∀ (n : Nat) (this : Nat) (p1 : Int32) (p2 : Int32) (l5 : Int32) (G : GH), (f_X1_meeting_8 n this p1 p2 l5).1 G = some (z, Gf) → V X RX1 cX1_meeting 6 3 54 wsX1_meeting B (QE X (vI z) Gf B) G 8 [(0, .ref this), (3, .int p1), (4, .int p2), (5, .int l5)] [] := by
  intro n
  induction n with
  | zero =>
    intro this p1 p2 l5 G hf
    have h0 : (none : Option (Int32 × GH)) = some (z, Gf) := hf
    cases h0
  | succ n ih =>
    intro this p1 p2 l5 G hf
    rw [f_X1_meeting_8.eq_2] at hf
    refine v_iload 3 dX1_meeting_8 rfl ?_
    refine v_sipush 200 dX1_meeting_10 (by decide) ?_
    refine v_icmp_ge 57 dX1_meeting_13 (by decide) hf (fun _ hf => ?_) (fun _ hf => ?_)
    · refine v_iload_n 1 dX1_meeting_57 rfl rfl ?_
      exact v_iret hr dX1_meeting_58 hE hf
    · refine v_iload_n 1 dX1_meeting_16 rfl rfl ?_
      refine v_iload 2 dX1_meeting_17 rfl ?_
      refine v_icmp_eq 57 dX1_meeting_19 (by decide) hf (fun _ hf => ?_) (fun _ hf => ?_)
      · refine v_iload_n 1 dX1_meeting_57 rfl rfl ?_
        exact v_iret hr dX1_meeting_58 hE hf
      · refine v_iload_n 1 dX1_meeting_22 rfl rfl ?_
        refine v_iload 2 dX1_meeting_23 rfl ?_
        refine v_icmp_le 40 dX1_meeting_25 (by decide) hf (fun _ hf => ?_) (fun _ hf => ?_)
        · refine v_aload_n 0 dX1_meeting_40 rfl rfl ?_
          refine v_iload 2 dX1_meeting_41 rfl ?_
          refine v_callVr 1 1 [.int p2] (c_X1_slot (xl X) hfx this p2) gX1_meeting_X1_slot rfl dv_X1_slot (by decide) (by decide) rfl rfl dX1_meeting_43 (Nat.le_of_ble_eq_true rfl) rfl hE hf (fun r1 G hf => ?_)
          refine v_gi 3 0 n_X1_meeting_X3 rfl (by decide) rfl m_X1_meeting_f54 dX1_meeting_46 hf (fun x2 hf => ?_)
          refine v_istore [(4, .int x2), (0, .ref this), (3, .int p1), (5, .int l5)] dX1_meeting_49 (by decide) rfl ?_
          refine v_iinc 3 (l5 + 1) [(5, .int (l5 + 1)), (4, .int x2), (0, .ref this), (3, .int p1)] dX1_meeting_51 rfl (by rfl) (by decide) rfl ?_
          refine v_goto 8 dX1_meeting_54 (by decide) ?_
          refine v_sub [2, 3, 1, 0] rfl ?_
          exact ih this p1 x2 (l5 + 1) G hf
        · refine v_aload_n 0 dX1_meeting_28 rfl rfl ?_
          refine v_iload_n 1 dX1_meeting_29 rfl rfl ?_
          refine v_callVr 1 1 [.int p1] (c_X1_slot (xl X) hfx this p1) gX1_meeting_X1_slot rfl dv_X1_slot (by decide) (by decide) rfl rfl dX1_meeting_30 (Nat.le_of_ble_eq_true rfl) rfl hE hf (fun r3 G hf => ?_)
          refine v_gi 3 0 n_X1_meeting_X3 rfl (by decide) rfl m_X1_meeting_f54 dX1_meeting_33 hf (fun x4 hf => ?_)
          refine v_istore_n [(3, .int x4), (0, .ref this), (4, .int p2), (5, .int l5)] dX1_meeting_36 rfl (by decide) rfl ?_
          refine v_goto 51 dX1_meeting_37 (by decide) ?_
          refine v_iinc 3 (l5 + 1) [(5, .int (l5 + 1)), (3, .int x4), (0, .ref this), (4, .int p2)] dX1_meeting_51 rfl (by rfl) (by decide) rfl ?_
          refine v_goto 8 dX1_meeting_54 (by decide) ?_
          refine v_sub [2, 1, 3, 0] rfl ?_
          exact ih this x4 p2 (l5 + 1) G hf
set_option maxRecDepth 100000 in
set_option maxHeartbeats 4000000 in
theorem e_X1_meeting_0 {X : VX} {B : VB} {z : Int32} {Gf : GH}  (hfx : (xl X).stackTraces = false) (hn : (xme X).name = "meeting") (hr : (xme X).sig.returnType = (some .int)) (hE : VE B (z, Gf))  (this : Nat) (p1 : Int32) (p2 : Int32) (G : GH) (hf : (f_X1_meeting this p1 p2).1 G = some (z, Gf)) : V X RX1 cX1_meeting 6 3 54 wsX1_meeting B (QE X (vI z) Gf B) G 0 [(0, .ref this), (1, .int p1), (2, .int p2)] [] := by
  unfold f_X1_meeting at hf
  refine v_iload_n 1 dX1_meeting_0 rfl rfl ?_
  refine v_istore_n [(3, .int p1), (0, .ref this), (1, .int p1), (2, .int p2)] dX1_meeting_1 rfl (by decide) rfl ?_
  refine v_iload_n 3 dX1_meeting_2 rfl rfl ?_
  refine v_istore [(4, .int p2), (3, .int p1), (0, .ref this), (1, .int p1), (2, .int p2)] dX1_meeting_3 (by decide) rfl ?_
  refine v_iconst 0 dX1_meeting_5 (by decide) ?_
  refine v_istore [(5, .int 0), (4, .int p2), (3, .int p1), (0, .ref this), (1, .int p1), (2, .int p2)] dX1_meeting_6 (by decide) rfl ?_
  refine v_sub [3, 2, 1, 0] rfl ?_
  exact e_X1_meeting_8 hfx hn hr hE FU this p1 p2 0 G hf
theorem c_X1_meeting (l : Launch) (hfl : l.stackTraces = false) (this : Nat) (p1 : Int32) (p2 : Int32) : CM l yX1_meeting wsX1_meeting 3 54 [.ref this, .int p1, .int p2] vI (f_X1_meeting this p1 p2) := CM.start hfl RX1 rfl (by decide +kernel) rfl (Nat.le_of_ble_eq_true rfl) (fun X G z Gf hl hn hr hf => e_X1_meeting_0 (by rw [hl]; exact hfl) hn hr ⟨rfl, rfl⟩ this p1 p2 G hf)
theorem dv_X1_meeting : yX1_meeting.cls = RX1 ∧ yX1_meeting.cls ≠ "java/lang/invoke/MethodHandle" ∧ yX1_meeting.cls ≠ "java/lang/invoke/VarHandle" ∧ (parseMethodDescriptor yX1_meeting.desc).map (fun d => d.parameters.length) = some 2 := by decide +kernel
set_option maxRecDepth 100000 in
set_option maxHeartbeats 4000000 in
theorem e_X1_firstWithRowOf_2 {X : VX} {B : VB} {z : Int32} {Gf : GH}  (hfx : (xl X).stackTraces = false) (hn : (xme X).name = "firstWithRowOf") (hr : (xme X).sig.returnType = (some .int)) (hE : VE B (z, Gf))  : ∀ (n : Nat) (this : Nat) (p1 : Int32) (l2 : Int32) (G : GH), (f_X1_firstWithRowOf_2 n this p1 l2).1 G = some (z, Gf) → V X RX1 cX1_firstWithRowOf 3 3 65 wsX1_firstWithRowOf B (QE X (vI z) Gf B) G 2 [(0, .ref this), (1, .int p1), (2, .int l2)] [] := by
  intro n
  induction n with
  | zero =>
    intro this p1 l2 G hf
    have h0 : (none : Option (Int32 × GH)) = some (z, Gf) := hf
    cases h0
  | succ n ih =>
    intro this p1 l2 G hf
    rw [f_X1_firstWithRowOf_2.eq_2] at hf
    refine v_iload_n 2 dX1_firstWithRowOf_2 rfl rfl ?_
    refine v_iload_n 1 dX1_firstWithRowOf_3 rfl rfl ?_
    refine v_icmp_ge 31 dX1_firstWithRowOf_4 (by decide) hf (fun _ hf => ?_) (fun _ hf => ?_)
    · refine v_iload_n 1 dX1_firstWithRowOf_31 rfl rfl ?_
      exact v_iret hr dX1_firstWithRowOf_32 hE hf
    · refine v_aload_n 0 dX1_firstWithRowOf_7 rfl rfl ?_
      refine v_iload_n 2 dX1_firstWithRowOf_8 rfl rfl ?_
      refine v_callVr 1 1 [.int l2] (c_X1_slot (xl X) hfx this l2) gX1_firstWithRowOf_X1_slot rfl dv_X1_slot (by decide) (by decide) rfl rfl dX1_firstWithRowOf_9 (Nat.le_of_ble_eq_true rfl) rfl hE hf (fun r1 G hf => ?_)
      refine v_aload_n 0 dX1_firstWithRowOf_12 rfl rfl ?_
      refine v_iload_n 1 dX1_firstWithRowOf_13 rfl rfl ?_
      refine v_callVr 1 1 [.int p1] (c_X1_slot (xl X) hfx this p1) gX1_firstWithRowOf_X1_slot rfl dv_X1_slot (by decide) (by decide) rfl rfl dX1_firstWithRowOf_14 (Nat.le_of_ble_eq_true rfl) rfl hE hf (fun r2 G hf => ?_)
      refine v_callVi 3 1 [.ref r2] (c_X3_hasRowOf (xl X) hfx r1 r2) gX1_firstWithRowOf_X3_hasRowOf rfl dv_X3_hasRowOf (by decide) (by decide) rfl rfl dX1_firstWithRowOf_17 (Nat.le_of_ble_eq_true rfl) rfl hE hf (fun x3 G hf => ?_)
      refine v_if_eq 25 dX1_firstWithRowOf_20 (by decide) hf (fun _ hf => ?_) (fun _ hf => ?_)
      · refine v_iinc 2 (l2 + 1) [(2, .int (l2 + 1)), (0, .ref this), (1, .int p1)] dX1_firstWithRowOf_25 rfl (by rfl) (by decide) rfl ?_
        refine v_goto 2 dX1_firstWithRowOf_28 (by decide) ?_
        refine v_sub [1, 2, 0] rfl ?_
        exact ih this p1 (l2 + 1) G hf
      · refine v_iload_n 2 dX1_firstWithRowOf_23 rfl rfl ?_
        exact v_iret hr dX1_firstWithRowOf_24 hE hf
set_option maxRecDepth 100000 in
set_option maxHeartbeats 4000000 in
theorem e_X1_firstWithRowOf_0 {X : VX} {B : VB} {z : Int32} {Gf : GH}  (hfx : (xl X).stackTraces = false) (hn : (xme X).name = "firstWithRowOf") (hr : (xme X).sig.returnType = (some .int)) (hE : VE B (z, Gf))  (this : Nat) (p1 : Int32) (G : GH) (hf : (f_X1_firstWithRowOf this p1).1 G = some (z, Gf)) : V X RX1 cX1_firstWithRowOf 3 3 65 wsX1_firstWithRowOf B (QE X (vI z) Gf B) G 0 [(0, .ref this), (1, .int p1)] [] := by
  unfold f_X1_firstWithRowOf at hf
  refine v_iconst 0 dX1_firstWithRowOf_0 (by decide) ?_
  refine v_istore_n [(2, .int 0), (0, .ref this), (1, .int p1)] dX1_firstWithRowOf_1 rfl (by decide) rfl ?_
  refine v_sub [1, 2, 0] rfl ?_
  exact e_X1_firstWithRowOf_2 hfx hn hr hE FU this p1 0 G hf
theorem c_X1_firstWithRowOf (l : Launch) (hfl : l.stackTraces = false) (this : Nat) (p1 : Int32) : CM l yX1_firstWithRowOf wsX1_firstWithRowOf 3 65 [.ref this, .int p1] vI (f_X1_firstWithRowOf this p1) := CM.start hfl RX1 rfl (by decide +kernel) rfl (Nat.le_of_ble_eq_true rfl) (fun X G z Gf hl hn hr hf => e_X1_firstWithRowOf_0 (by rw [hl]; exact hfl) hn hr ⟨rfl, rfl⟩ this p1 G hf)
theorem dv_X1_firstWithRowOf : yX1_firstWithRowOf.cls = RX1 ∧ yX1_firstWithRowOf.cls ≠ "java/lang/invoke/MethodHandle" ∧ yX1_firstWithRowOf.cls ≠ "java/lang/invoke/VarHandle" ∧ (parseMethodDescriptor yX1_firstWithRowOf.desc).map (fun d => d.parameters.length) = some 1 := by decide +kernel
theorem m_X1_greatestCostOnWay_f124 : Cond.fieldLink RX1 124 RX3 "cost" "I" ∈ wsX1_greatestCostOnWay := by decide +kernel
theorem m_X1_greatestCostOnWay_m107 : Cond.methodLink RX1 107 Lib.Math.max.name ∈ wsX1_greatestCostOnWay := by decide +kernel
theorem m_X1_greatestCostOnWay_msmax : Cond.static Lib.Math.max.name ∈ wsX1_greatestCostOnWay := by decide +kernel
theorem m_X1_greatestCostOnWay_mi : Cond.initialized "java/lang/Math" ∈ wsX1_greatestCostOnWay := by decide +kernel
theorem m_X1_greatestCostOnWay_mcmax : Cond.code Lib.Math.max.name Lib.Math.max.code 2 (some .int) ∈ wsX1_greatestCostOnWay := by decide +kernel
theorem m_X1_greatestCostOnWay_f54 : Cond.fieldLink RX1 54 RX3 "parent" "I" ∈ wsX1_greatestCostOnWay := by decide +kernel
theorem n_X1_greatestCostOnWay_X3 : ∀ w ∈ u_ws RX3 TX3 11, w ∈ wsX1_greatestCostOnWay := by decide +kernel
set_option maxRecDepth 100000 in
set_option maxHeartbeats 4000000 in
theorem e_X1_greatestCostOnWay_7 {X : VX} {B : VB} {z : Int32} {Gf : GH}  (hfx : (xl X).stackTraces = false) (hn : (xme X).name = "greatestCostOnWay") (hr : (xme X).sig.returnType = (some .int)) (hE : VE B (z, Gf))  : ∀ (n : Nat) (this : Nat) (l2 : Int32) (p1 : Int32) (l4 : Int32) (G : GH), (f_X1_greatestCostOnWay_7 n this l2 p1 l4).1 G = some (z, Gf) → V X RX1 cX1_greatestCostOnWay 5 3 54 wsX1_greatestCostOnWay B (QE X (vI z) Gf B) G 7 [(0, .ref this), (2, .int l2), (3, .int p1), (4, .int l4)] [] := by
  intro n
  induction n with
  | zero =>
    intro this l2 p1 l4 G hf
    have h0 : (none : Option (Int32 × GH)) = some (z, Gf) := hf
    cases h0
  | succ n ih =>
    intro this l2 p1 l4 G hf
    rw [f_X1_greatestCostOnWay_7.eq_2] at hf
    refine v_iload 3 dX1_greatestCostOnWay_7 rfl ?_
    refine v_bipush 100 dX1_greatestCostOnWay_9 (by decide) ?_
    refine v_icmp_ge 47 dX1_greatestCostOnWay_11 (by decide) hf (fun _ hf => ?_) (fun _ hf => ?_)
    · refine v_iload_n 1 dX1_greatestCostOnWay_47 rfl rfl ?_
      exact v_iret hr dX1_greatestCostOnWay_48 hE hf
    · refine v_iload_n 2 dX1_greatestCostOnWay_14 rfl rfl ?_
      refine v_iconst (-1) dX1_greatestCostOnWay_15 (by decide) ?_
      refine v_icmp_eq 47 dX1_greatestCostOnWay_16 (by decide) hf (fun _ hf => ?_) (fun _ hf => ?_)
      · refine v_iload_n 1 dX1_greatestCostOnWay_47 rfl rfl ?_
        exact v_iret hr dX1_greatestCostOnWay_48 hE hf
      · refine v_iload_n 1 dX1_greatestCostOnWay_19 rfl rfl ?_
        refine v_aload_n 0 dX1_greatestCostOnWay_20 rfl rfl ?_
        refine v_iload_n 2 dX1_greatestCostOnWay_21 rfl rfl ?_
        refine v_callVr 1 1 [.int p1] (c_X1_slot (xl X) hfx this p1) gX1_greatestCostOnWay_X1_slot rfl dv_X1_slot (by decide) (by decide) rfl rfl dX1_greatestCostOnWay_22 (Nat.le_of_ble_eq_true rfl) rfl hE hf (fun r1 G hf => ?_)
        refine v_gi 3 8 n_X1_greatestCostOnWay_X3 rfl (by decide) rfl m_X1_greatestCostOnWay_f124 dX1_greatestCostOnWay_25 hf (fun x2 hf => ?_)
        refine v_max m_X1_greatestCostOnWay_m107 m_X1_greatestCostOnWay_msmax m_X1_greatestCostOnWay_mi m_X1_greatestCostOnWay_mcmax dX1_greatestCostOnWay_28 (by decide) (Nat.le_of_ble_eq_true rfl) hE hf ?_
        refine v_istore_n [(2, .int (if l2 < x2 then x2 else l2)), (0, .ref this), (3, .int p1), (4, .int l4)] dX1_greatestCostOnWay_31 rfl (by decide) rfl ?_
        refine v_aload_n 1 dX1_greatestCostOnWay_32 rfl rfl ?_
        refine v_iload_n 2 dX1_greatestCostOnWay_33 rfl rfl ?_
        refine v_callVr 1 1 [.int p1] (c_X1_slot (xl X) hfx this p1) gX1_greatestCostOnWay_X1_slot rfl dv_X1_slot (by decide) (by decide) rfl rfl dX1_greatestCostOnWay_34 (Nat.le_of_ble_eq_true rfl) rfl hE hf (fun r3 G hf => ?_)
        refine v_gi 3 0 n_X1_greatestCostOnWay_X3 rfl (by decide) rfl m_X1_greatestCostOnWay_f54 dX1_greatestCostOnWay_37 hf (fun x4 hf => ?_)
        refine v_istore_n [(3, .int x4), (2, .int (if l2 < x2 then x2 else l2)), (0, .ref this), (4, .int l4)] dX1_greatestCostOnWay_40 rfl (by decide) rfl ?_
        refine v_iinc 3 (l4 + 1) [(4, .int (l4 + 1)), (3, .int x4), (2, .int (if l2 < x2 then x2 else l2)), (0, .ref this)] dX1_greatestCostOnWay_41 rfl (by rfl) (by decide) rfl ?_
        refine v_goto 7 dX1_greatestCostOnWay_44 (by decide) ?_
        refine v_sub [3, 2, 1, 0] rfl ?_
        exact ih this (if l2 < x2 then x2 else l2) x4 (l4 + 1) G hf
set_option maxRecDepth 100000 in
set_option maxHeartbeats 4000000 in
theorem e_X1_greatestCostOnWay_0 {X : VX} {B : VB} {z : Int32} {Gf : GH}  (hfx : (xl X).stackTraces = false) (hn : (xme X).name = "greatestCostOnWay") (hr : (xme X).sig.returnType = (some .int)) (hE : VE B (z, Gf))  (this : Nat) (p1 : Int32) (G : GH) (hf : (f_X1_greatestCostOnWay this p1).1 G = some (z, Gf)) : V X RX1 cX1_greatestCostOnWay 5 3 54 wsX1_greatestCostOnWay B (QE X (vI z) Gf B) G 0 [(0, .ref this), (1, .int p1)] [] := by
  unfold f_X1_greatestCostOnWay at hf
  refine v_iconst 0 dX1_greatestCostOnWay_0 (by decide) ?_
  refine v_istore_n [(2, .int 0), (0, .ref this), (1, .int p1)] dX1_greatestCostOnWay_1 rfl (by decide) rfl ?_
  refine v_iload_n 2 dX1_greatestCostOnWay_2 rfl rfl ?_
  refine v_istore_n [(3, .int p1), (2, .int 0), (0, .ref this), (1, .int p1)] dX1_greatestCostOnWay_3 rfl (by decide) rfl ?_
  refine v_iconst 0 dX1_greatestCostOnWay_4 (by decide) ?_
  refine v_istore [(4, .int 0), (3, .int p1), (2, .int 0), (0, .ref this), (1, .int p1)] dX1_greatestCostOnWay_5 (by decide) rfl ?_
  refine v_sub [3, 2, 1, 0] rfl ?_
  exact e_X1_greatestCostOnWay_7 hfx hn hr hE FU this 0 p1 0 G hf
theorem c_X1_greatestCostOnWay (l : Launch) (hfl : l.stackTraces = false) (this : Nat) (p1 : Int32) : CM l yX1_greatestCostOnWay wsX1_greatestCostOnWay 3 54 [.ref this, .int p1] vI (f_X1_greatestCostOnWay this p1) := CM.start hfl RX1 rfl (by decide +kernel) rfl (Nat.le_of_ble_eq_true rfl) (fun X G z Gf hl hn hr hf => e_X1_greatestCostOnWay_0 (by rw [hl]; exact hfl) hn hr ⟨rfl, rfl⟩ this p1 G hf)
theorem dv_X1_greatestCostOnWay : yX1_greatestCostOnWay.cls = RX1 ∧ yX1_greatestCostOnWay.cls ≠ "java/lang/invoke/MethodHandle" ∧ yX1_greatestCostOnWay.cls ≠ "java/lang/invoke/VarHandle" ∧ (parseMethodDescriptor yX1_greatestCostOnWay.desc).map (fun d => d.parameters.length) = some 1 := by decide +kernel
theorem m_X1_sumOfCostsOnWay_f124 : Cond.fieldLink RX1 124 RX3 "cost" "I" ∈ wsX1_sumOfCostsOnWay := by decide +kernel
theorem m_X1_sumOfCostsOnWay_f54 : Cond.fieldLink RX1 54 RX3 "parent" "I" ∈ wsX1_sumOfCostsOnWay := by decide +kernel
theorem n_X1_sumOfCostsOnWay_X3 : ∀ w ∈ u_ws RX3 TX3 11, w ∈ wsX1_sumOfCostsOnWay := by decide +kernel
set_option maxRecDepth 100000 in
set_option maxHeartbeats 4000000 in
theorem e_X1_sumOfCostsOnWay_7 {X : VX} {B : VB} {z : Int32} {Gf : GH}  (hfx : (xl X).stackTraces = false) (hn : (xme X).name = "sumOfCostsOnWay") (hr : (xme X).sig.returnType = (some .int)) (hE : VE B (z, Gf))  : ∀ (n : Nat) (this : Nat) (l2 : Int32) (p1 : Int32) (l4 : Int32) (G : GH), (f_X1_sumOfCostsOnWay_7 n this l2 p1 l4).1 G = some (z, Gf) → V X RX1 cX1_sumOfCostsOnWay 5 3 54 wsX1_sumOfCostsOnWay B (QE X (vI z) Gf B) G 7 [(0, .ref this), (2, .int l2), (3, .int p1), (4, .int l4)] [] := by
  intro n
  induction n with
  | zero =>
    intro this l2 p1 l4 G hf
    have h0 : (none : Option (Int32 × GH)) = some (z, Gf) := hf
    cases h0
  | succ n ih =>
    intro this l2 p1 l4 G hf
    rw [f_X1_sumOfCostsOnWay_7.eq_2] at hf
    refine v_iload 3 dX1_sumOfCostsOnWay_7 rfl ?_
    refine v_bipush 100 dX1_sumOfCostsOnWay_9 (by decide) ?_
    refine v_icmp_ge 45 dX1_sumOfCostsOnWay_11 (by decide) hf (fun _ hf => ?_) (fun _ hf => ?_)
    · refine v_iload_n 1 dX1_sumOfCostsOnWay_45 rfl rfl ?_
      exact v_iret hr dX1_sumOfCostsOnWay_46 hE hf
    · refine v_iload_n 2 dX1_sumOfCostsOnWay_14 rfl rfl ?_
      refine v_iconst (-1) dX1_sumOfCostsOnWay_15 (by decide) ?_
      refine v_icmp_eq 45 dX1_sumOfCostsOnWay_16 (by decide) hf (fun _ hf => ?_) (fun _ hf => ?_)
      · refine v_iload_n 1 dX1_sumOfCostsOnWay_45 rfl rfl ?_
        exact v_iret hr dX1_sumOfCostsOnWay_46 hE hf
      · refine v_iload_n 1 dX1_sumOfCostsOnWay_19 rfl rfl ?_
        refine v_aload_n 0 dX1_sumOfCostsOnWay_20 rfl rfl ?_
        refine v_iload_n 2 dX1_sumOfCostsOnWay_21 rfl rfl ?_
        refine v_callVr 1 1 [.int p1] (c_X1_slot (xl X) hfx this p1) gX1_sumOfCostsOnWay_X1_slot rfl dv_X1_slot (by decide) (by decide) rfl rfl dX1_sumOfCostsOnWay_22 (Nat.le_of_ble_eq_true rfl) rfl hE hf (fun r1 G hf => ?_)
        refine v_gi 3 8 n_X1_sumOfCostsOnWay_X3 rfl (by decide) rfl m_X1_sumOfCostsOnWay_f124 dX1_sumOfCostsOnWay_25 hf (fun x2 hf => ?_)
        refine v_iadd dX1_sumOfCostsOnWay_28 ?_
        refine v_istore_n [(2, .int (l2 + x2)), (0, .ref this), (3, .int p1), (4, .int l4)] dX1_sumOfCostsOnWay_29 rfl (by decide) rfl ?_
        refine v_aload_n 1 dX1_sumOfCostsOnWay_30 rfl rfl ?_
        refine v_iload_n 2 dX1_sumOfCostsOnWay_31 rfl rfl ?_
        refine v_callVr 1 1 [.int p1] (c_X1_slot (xl X) hfx this p1) gX1_sumOfCostsOnWay_X1_slot rfl dv_X1_slot (by decide) (by decide) rfl rfl dX1_sumOfCostsOnWay_32 (Nat.le_of_ble_eq_true rfl) rfl hE hf (fun r3 G hf => ?_)
        refine v_gi 3 0 n_X1_sumOfCostsOnWay_X3 rfl (by decide) rfl m_X1_sumOfCostsOnWay_f54 dX1_sumOfCostsOnWay_35 hf (fun x4 hf => ?_)
        refine v_istore_n [(3, .int x4), (2, .int (l2 + x2)), (0, .ref this), (4, .int l4)] dX1_sumOfCostsOnWay_38 rfl (by decide) rfl ?_
        refine v_iinc 3 (l4 + 1) [(4, .int (l4 + 1)), (3, .int x4), (2, .int (l2 + x2)), (0, .ref this)] dX1_sumOfCostsOnWay_39 rfl (by rfl) (by decide) rfl ?_
        refine v_goto 7 dX1_sumOfCostsOnWay_42 (by decide) ?_
        refine v_sub [3, 2, 1, 0] rfl ?_
        exact ih this (l2 + x2) x4 (l4 + 1) G hf
set_option maxRecDepth 100000 in
set_option maxHeartbeats 4000000 in
theorem e_X1_sumOfCostsOnWay_0 {X : VX} {B : VB} {z : Int32} {Gf : GH}  (hfx : (xl X).stackTraces = false) (hn : (xme X).name = "sumOfCostsOnWay") (hr : (xme X).sig.returnType = (some .int)) (hE : VE B (z, Gf))  (this : Nat) (p1 : Int32) (G : GH) (hf : (f_X1_sumOfCostsOnWay this p1).1 G = some (z, Gf)) : V X RX1 cX1_sumOfCostsOnWay 5 3 54 wsX1_sumOfCostsOnWay B (QE X (vI z) Gf B) G 0 [(0, .ref this), (1, .int p1)] [] := by
  unfold f_X1_sumOfCostsOnWay at hf
  refine v_iconst 0 dX1_sumOfCostsOnWay_0 (by decide) ?_
  refine v_istore_n [(2, .int 0), (0, .ref this), (1, .int p1)] dX1_sumOfCostsOnWay_1 rfl (by decide) rfl ?_
  refine v_iload_n 2 dX1_sumOfCostsOnWay_2 rfl rfl ?_
  refine v_istore_n [(3, .int p1), (2, .int 0), (0, .ref this), (1, .int p1)] dX1_sumOfCostsOnWay_3 rfl (by decide) rfl ?_
  refine v_iconst 0 dX1_sumOfCostsOnWay_4 (by decide) ?_
  refine v_istore [(4, .int 0), (3, .int p1), (2, .int 0), (0, .ref this), (1, .int p1)] dX1_sumOfCostsOnWay_5 (by decide) rfl ?_
  refine v_sub [3, 2, 1, 0] rfl ?_
  exact e_X1_sumOfCostsOnWay_7 hfx hn hr hE FU this 0 p1 0 G hf
theorem c_X1_sumOfCostsOnWay (l : Launch) (hfl : l.stackTraces = false) (this : Nat) (p1 : Int32) : CM l yX1_sumOfCostsOnWay wsX1_sumOfCostsOnWay 3 54 [.ref this, .int p1] vI (f_X1_sumOfCostsOnWay this p1) := CM.start hfl RX1 rfl (by decide +kernel) rfl (Nat.le_of_ble_eq_true rfl) (fun X G z Gf hl hn hr hf => e_X1_sumOfCostsOnWay_0 (by rw [hl]; exact hfl) hn hr ⟨rfl, rfl⟩ this p1 G hf)
theorem dv_X1_sumOfCostsOnWay : yX1_sumOfCostsOnWay.cls = RX1 ∧ yX1_sumOfCostsOnWay.cls ≠ "java/lang/invoke/MethodHandle" ∧ yX1_sumOfCostsOnWay.cls ≠ "java/lang/invoke/VarHandle" ∧ (parseMethodDescriptor yX1_sumOfCostsOnWay.desc).map (fun d => d.parameters.length) = some 1 := by decide +kernel
