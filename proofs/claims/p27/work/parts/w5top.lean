/-! walks of the class itself (X4) -/
theorem m_X4_init_o3 : Cond.methodLink RX4 3 objectInit ∈ wsX4_init := by decide +kernel
theorem m_X4_init_oi : Cond.instanceMethod objectInit ∈ wsX4_init := by decide +kernel
theorem m_X4_init_oc : Cond.code objectInit ⟨#[0xb1]⟩ 1 none ∈ wsX4_init := by decide +kernel
theorem m_X4_init_c9 : Cond.classLink RX4 9 RX0 ∈ wsX4_init := by decide +kernel
theorem m_X4_init_inX0 : Cond.instantiable RX0 8 ∈ wsX4_init := by decide +kernel
theorem m_X4_init_itX0 : Cond.initialized RX0 ∈ wsX4_init := by decide +kernel
theorem m_X4_init_f12 : Cond.fieldLink RX4 12 RX4 "script" "LEndVersions$Script;" ∈ wsX4_init := by decide +kernel
theorem m_X4_init_c16 : Cond.classLink RX4 16 RX2 ∈ wsX4_init := by decide +kernel
theorem m_X4_init_inX2 : Cond.instantiable RX2 3 ∈ wsX4_init := by decide +kernel
theorem m_X4_init_itX2 : Cond.initialized RX2 ∈ wsX4_init := by decide +kernel
theorem m_X4_init_f19 : Cond.fieldLink RX4 19 RX4 "trial" "LEndVersions$Trial;" ∈ wsX4_init := by decide +kernel
theorem m_X4_init_c23 : Cond.classLink RX4 23 RX1 ∈ wsX4_init := by decide +kernel
theorem m_X4_init_f25 : Cond.fieldLink RX4 25 RX4 "saved" "[LEndVersions$State;" ∈ wsX4_init := by decide +kernel
theorem m_X4_init_inX1 : Cond.instantiable RX1 5 ∈ wsX4_init := by decide +kernel
theorem m_X4_init_itX1 : Cond.initialized RX1 ∈ wsX4_init := by decide +kernel
theorem m_X4_init_f30 : Cond.fieldLink RX4 30 RX4 "now" "LEndVersions$State;" ∈ wsX4_init := by decide +kernel
theorem m_X4_init_f34 : Cond.fieldLink RX4 34 RX4 "savedStates" "I" ∈ wsX4_init := by decide +kernel
theorem n_X4_init_X4 : ∀ w ∈ u_ws RX4 TX4 5, w ∈ wsX4_init := by decide +kernel
theorem m_X4_init_l29 : Cond.methodLink RX4 29 yX1_init ∈ wsX4_init := by decide +kernel
theorem m_X4_init_j29 : Cond.instanceMethod yX1_init ∈ wsX4_init := by decide +kernel
theorem n_X4_init_X1 : ∀ w ∈ u_ws RX1 TX1 5, w ∈ wsX4_init := by decide +kernel
theorem m_X4_init_l18 : Cond.methodLink RX4 18 yX2_init ∈ wsX4_init := by decide +kernel
theorem m_X4_init_j18 : Cond.instanceMethod yX2_init ∈ wsX4_init := by decide +kernel
theorem n_X4_init_X2 : ∀ w ∈ u_ws RX2 TX2 3, w ∈ wsX4_init := by decide +kernel
theorem m_X4_init_l11 : Cond.methodLink RX4 11 yX0_init ∈ wsX4_init := by decide +kernel
theorem m_X4_init_j11 : Cond.instanceMethod yX0_init ∈ wsX4_init := by decide +kernel
theorem n_X4_init_X0 : ∀ w ∈ u_ws RX0 TX0 8, w ∈ wsX4_init := by decide +kernel
set_option maxRecDepth 100000 in
set_option maxHeartbeats 4000000 in
theorem e_X4_init_0 {X : VX} {B : VB} {z : Unit} {Gf : GH}  (hfx : (xl X).stackTraces = false) (hn : (xme X).name = "<init>") (hr : (xme X).sig.returnType = none) (hE : VE B (z, Gf))  (this : Nat) (G : GH) (hf : (f_X4_init this).1 G = some (z, Gf)) : V X RX4 cX4_init 1 3 52 wsX4_init B (QE X (vV z) Gf B) G 0 [(0, .ref this)] [] := by
  unfold f_X4_init at hf
  refine v_aload_n 0 dX4_init_0 rfl rfl ?_
  refine v_objInit m_X4_init_o3 m_X4_init_oi m_X4_init_oc dX4_init_1 (by decide) (by decide) ?_
  refine v_aload_n 0 dX4_init_4 rfl rfl ?_
  refine v_newo 0 tyX0 n_X4_init_X0 tyX0_ok rfl m_X4_init_c9 m_X4_init_inX0 m_X4_init_itX0 dfX0 dX4_init_5 hE hf (fun a1 G hf => ?_)
  refine v_dup dX4_init_8 rfl ?_
  refine v_callI 0 [] (c_X0_init (xl X) hfx a1) gX4_init_X0_init rfl m_X4_init_itX0 m_X4_init_l11 m_X4_init_j11 rfl dn_X0_init (by decide) (by decide) rfl dX4_init_9 (Nat.le_of_ble_eq_true rfl) rfl hE hf (fun G hf => ?_)
  refine v_putF 4 0 (.object "EndVersions$Script") hn n_X4_init_X4 tyX4 tyX4_ok nmX4 rfl (by decide) rfl m_X4_init_f12 rfl rfl (by decide +kernel) rfl rfl dX4_init_12 hf (fun G _ hf => ?_)
  refine v_aload_n 0 dX4_init_15 rfl rfl ?_
  refine v_newo 2 tyX2 n_X4_init_X2 tyX2_ok rfl m_X4_init_c16 m_X4_init_inX2 m_X4_init_itX2 dfX2 dX4_init_16 hE hf (fun a2 G hf => ?_)
  refine v_dup dX4_init_19 rfl ?_
  refine v_callI 0 [] (c_X2_init (xl X) hfx a2) gX4_init_X2_init rfl m_X4_init_itX2 m_X4_init_l18 m_X4_init_j18 rfl dn_X2_init (by decide) (by decide) rfl dX4_init_20 (Nat.le_of_ble_eq_true rfl) rfl hE hf (fun G hf => ?_)
  refine v_putF 4 1 (.object "EndVersions$Trial") hn n_X4_init_X4 tyX4 tyX4_ok nmX4 rfl (by decide) rfl m_X4_init_f19 rfl rfl (by decide +kernel) rfl rfl dX4_init_23 hf (fun G _ hf => ?_)
  refine v_aload_n 0 dX4_init_26 rfl rfl ?_
  refine v_iconst 4 dX4_init_27 (by decide) ?_
  refine v_newq 3 (fun _ => rfl) (fun h => h.2.1) m_X4_init_c23 dX4_init_28 hE hf (fun a3 G hf => ?_)
  refine v_putF 4 2 (.array (.object "EndVersions$State")) hn n_X4_init_X4 tyX4 tyX4_ok nmX4 rfl (by decide) rfl m_X4_init_f25 rfl rfl (by decide +kernel) rfl rfl dX4_init_31 hf (fun G _ hf => ?_)
  refine v_aload_n 0 dX4_init_34 rfl rfl ?_
  refine v_newo 1 tyX1 n_X4_init_X1 tyX1_ok rfl m_X4_init_c23 m_X4_init_inX1 m_X4_init_itX1 dfX1 dX4_init_35 hE hf (fun a4 G hf => ?_)
  refine v_dup dX4_init_38 rfl ?_
  refine v_callI 0 [] (c_X1_init (xl X) hfx a4) gX4_init_X1_init rfl m_X4_init_itX1 m_X4_init_l29 m_X4_init_j29 rfl dn_X1_init (by decide) (by decide) rfl dX4_init_39 (Nat.le_of_ble_eq_true rfl) rfl hE hf (fun G hf => ?_)
  refine v_put 4 3 (.object "EndVersions$State") n_X4_init_X4 tyX4 tyX4_ok nmX4 rfl (by decide) rfl m_X4_init_f30 rfl (by decide +kernel) rfl rfl dX4_init_42 hf (fun G _ hf => ?_)
  refine v_aload_n 0 dX4_init_45 rfl rfl ?_
  refine v_iconst 0 dX4_init_46 (by decide) ?_
  refine v_put 4 4 .int n_X4_init_X4 tyX4 tyX4_ok nmX4 rfl (by decide) rfl m_X4_init_f34 rfl (by decide +kernel) rfl rfl dX4_init_47 hf (fun G _ hf => ?_)
  exact v_vret hr dX4_init_50 hE hf
theorem c_X4_init (l : Launch) (hfl : l.stackTraces = false) (this : Nat) : CM l yX4_init wsX4_init 3 52 [.ref this] vV (f_X4_init this) := CM.start hfl RX4 rfl (by decide +kernel) rfl (Nat.le_of_ble_eq_true rfl) (fun X G z Gf hl hn hr hf => e_X4_init_0 (by rw [hl]; exact hfl) hn hr ⟨rfl, rfl⟩ this G hf)
theorem dn_X4_init : yX4_init.cls ≠ "java/lang/invoke/MethodHandle" ∧ yX4_init.cls ≠ "java/lang/invoke/VarHandle" ∧ (parseMethodDescriptor yX4_init.desc).map (fun d => d.parameters.length) = some 0 := by decide +kernel
set_option maxRecDepth 100000 in
set_option maxHeartbeats 4000000 in
theorem e_X4_isRate_0 {X : VX} {B : VB} {z : Int32} {Gf : GH}  (hfx : (xl X).stackTraces = false) (hn : (xme X).name = "isRate") (hr : (xme X).sig.returnType = (some .boolean)) (hE : VE B (z, Gf))  (p1 : Int32) (G : GH) (hf : (f_X4_isRate p1).1 G = some (z, Gf)) : V X RX4 cX4_isRate 1 0 0 wsX4_isRate B (QE X (vI z) Gf B) G 0 [(0, .int p1)] [] := by
  unfold f_X4_isRate at hf
  refine v_iload_n 0 dX4_isRate_0 rfl rfl ?_
  refine v_iconst 1 dX4_isRate_1 (by decide) ?_
  refine v_icmp_lt 15 dX4_isRate_2 (by decide) hf (fun _ hf => ?_) (fun _ hf => ?_)
  · refine v_iconst 0 dX4_isRate_15 (by decide) ?_
    exact v_zret hr dX4_isRate_16 hE hf
  · refine v_iload_n 0 dX4_isRate_5 rfl rfl ?_
    refine v_bipush 9 dX4_isRate_6 (by decide) ?_
    refine v_icmp_gt 15 dX4_isRate_8 (by decide) hf (fun _ hf => ?_) (fun _ hf => ?_)
    · refine v_iconst 0 dX4_isRate_15 (by decide) ?_
      exact v_zret hr dX4_isRate_16 hE hf
    · refine v_iconst 1 dX4_isRate_11 (by decide) ?_
      refine v_goto 16 dX4_isRate_12 (by decide) ?_
      exact v_zret hr dX4_isRate_16 hE hf
theorem c_X4_isRate (l : Launch) (hfl : l.stackTraces = false) (p1 : Int32) : CM l yX4_isRate wsX4_isRate 0 0 [.int p1] vI (f_X4_isRate p1) := CM.start hfl RX4 rfl (by decide +kernel) rfl (Nat.le_of_ble_eq_true rfl) (fun X G z Gf hl hn hr hf => e_X4_isRate_0 (by rw [hl]; exact hfl) hn hr ⟨rfl, rfl⟩ p1 G hf)
theorem dn_X4_isRate : yX4_isRate.cls ≠ "java/lang/invoke/MethodHandle" ∧ yX4_isRate.cls ≠ "java/lang/invoke/VarHandle" ∧ (parseMethodDescriptor yX4_isRate.desc).map (fun d => d.parameters.length) = some 1 := by decide +kernel
set_option maxRecDepth 100000 in
set_option maxHeartbeats 4000000 in
theorem e_X4_isRatio_0 {X : VX} {B : VB} {z : Int32} {Gf : GH}  (hfx : (xl X).stackTraces = false) (hn : (xme X).name = "isRatio") (hr : (xme X).sig.returnType = (some .boolean)) (hE : VE B (z, Gf))  (p1 : Int32) (G : GH) (hf : (f_X4_isRatio p1).1 G = some (z, Gf)) : V X RX4 cX4_isRatio 1 0 0 wsX4_isRatio B (QE X (vI z) Gf B) G 0 [(0, .int p1)] [] := by
  unfold f_X4_isRatio at hf
  refine v_iload_n 0 dX4_isRatio_0 rfl rfl ?_
  refine v_iconst 2 dX4_isRatio_1 (by decide) ?_
  refine v_icmp_lt 14 dX4_isRatio_2 (by decide) hf (fun _ hf => ?_) (fun _ hf => ?_)
  · refine v_iconst 0 dX4_isRatio_14 (by decide) ?_
    exact v_zret hr dX4_isRatio_15 hE hf
  · refine v_iload_n 0 dX4_isRatio_5 rfl rfl ?_
    refine v_iconst 5 dX4_isRatio_6 (by decide) ?_
    refine v_icmp_gt 14 dX4_isRatio_7 (by decide) hf (fun _ hf => ?_) (fun _ hf => ?_)
    · refine v_iconst 0 dX4_isRatio_14 (by decide) ?_
      exact v_zret hr dX4_isRatio_15 hE hf
    · refine v_iconst 1 dX4_isRatio_10 (by decide) ?_
      refine v_goto 15 dX4_isRatio_11 (by decide) ?_
      exact v_zret hr dX4_isRatio_15 hE hf
theorem c_X4_isRatio (l : Launch) (hfl : l.stackTraces = false) (p1 : Int32) : CM l yX4_isRatio wsX4_isRatio 0 0 [.int p1] vI (f_X4_isRatio p1) := CM.start hfl RX4 rfl (by decide +kernel) rfl (Nat.le_of_ble_eq_true rfl) (fun X G z Gf hl hn hr hf => e_X4_isRatio_0 (by rw [hl]; exact hfl) hn hr ⟨rfl, rfl⟩ p1 G hf)
theorem dn_X4_isRatio : yX4_isRatio.cls ≠ "java/lang/invoke/MethodHandle" ∧ yX4_isRatio.cls ≠ "java/lang/invoke/VarHandle" ∧ (parseMethodDescriptor yX4_isRatio.desc).map (fun d => d.parameters.length) = some 1 := by decide +kernel
set_option maxRecDepth 100000 in
set_option maxHeartbeats 4000000 in
theorem e_X4_isSettingValue_0 {X : VX} {B : VB} {z : Int32} {Gf : GH}  (hfx : (xl X).stackTraces = false) (hn : (xme X).name = "isSettingValue") (hr : (xme X).sig.returnType = (some .boolean)) (hE : VE B (z, Gf))  (p1 : Int32) (p2 : Int32) (G : GH) (hf : (f_X4_isSettingValue p1 p2).1 G = some (z, Gf)) : V X RX4 cX4_isSettingValue 2 1 20 wsX4_isSettingValue B (QE X (vI z) Gf B) G 0 [(0, .int p1), (1, .int p2)] [] := by
  unfold f_X4_isSettingValue at hf
  refine v_iload_n 0 dX4_isSettingValue_0 rfl rfl ?_
  refine v_if_ne 11 dX4_isSettingValue_1 (by decide) hf (fun _ hf => ?_) (fun _ hf => ?_)
  · refine v_iload_n 0 dX4_isSettingValue_11 rfl rfl ?_
    refine v_iconst 1 dX4_isSettingValue_12 (by decide) ?_
    refine v_icmp_ne 27 dX4_isSettingValue_13 (by decide) hf (fun _ hf => ?_) (fun _ hf => ?_)
    · refine v_iconst 0 dX4_isSettingValue_27 (by decide) ?_
      exact v_zret hr dX4_isSettingValue_28 hE hf
    · refine v_iload_n 1 dX4_isSettingValue_16 rfl rfl ?_
      refine v_callSi 1 [.int p2] (c_X4_isRatio (xl X) hfx p2) gX4_isSettingValue_X4_isRatio rfl dn_X4_isRatio (by decide) (by decide) rfl dX4_isSettingValue_17 (Nat.le_of_ble_eq_true rfl) rfl hE hf (fun x1 G hf => ?_)
      refine v_if_eq 27 dX4_isSettingValue_20 (by decide) hf (fun _ hf => ?_) (fun _ hf => ?_)
      · refine v_iconst 0 dX4_isSettingValue_27 (by decide) ?_
        exact v_zret hr dX4_isSettingValue_28 hE hf
      · refine v_iconst 1 dX4_isSettingValue_23 (by decide) ?_
        refine v_goto 28 dX4_isSettingValue_24 (by decide) ?_
        exact v_zret hr dX4_isSettingValue_28 hE hf
  · refine v_iload_n 1 dX4_isSettingValue_4 rfl rfl ?_
    refine v_callSi 1 [.int p2] (c_X4_isRate (xl X) hfx p2) gX4_isSettingValue_X4_isRate rfl dn_X4_isRate (by decide) (by decide) rfl dX4_isSettingValue_5 (Nat.le_of_ble_eq_true rfl) rfl hE hf (fun x2 G hf => ?_)
    refine v_if_ne 23 dX4_isSettingValue_8 (by decide) hf (fun _ hf => ?_) (fun _ hf => ?_)
    · refine v_iconst 1 dX4_isSettingValue_23 (by decide) ?_
      refine v_goto 28 dX4_isSettingValue_24 (by decide) ?_
      exact v_zret hr dX4_isSettingValue_28 hE hf
    · refine v_iload_n 0 dX4_isSettingValue_11 rfl rfl ?_
      refine v_iconst 1 dX4_isSettingValue_12 (by decide) ?_
      refine v_icmp_ne 27 dX4_isSettingValue_13 (by decide) hf (fun _ hf => ?_) (fun _ hf => ?_)
      · refine v_iconst 0 dX4_isSettingValue_27 (by decide) ?_
        exact v_zret hr dX4_isSettingValue_28 hE hf
      · refine v_iload_n 1 dX4_isSettingValue_16 rfl rfl ?_
        refine v_callSi 1 [.int p2] (c_X4_isRatio (xl X) hfx p2) gX4_isSettingValue_X4_isRatio rfl dn_X4_isRatio (by decide) (by decide) rfl dX4_isSettingValue_17 (Nat.le_of_ble_eq_true rfl) rfl hE hf (fun x3 G hf => ?_)
        refine v_if_eq 27 dX4_isSettingValue_20 (by decide) hf (fun _ hf => ?_) (fun _ hf => ?_)
        · refine v_iconst 0 dX4_isSettingValue_27 (by decide) ?_
          exact v_zret hr dX4_isSettingValue_28 hE hf
        · refine v_iconst 1 dX4_isSettingValue_23 (by decide) ?_
          refine v_goto 28 dX4_isSettingValue_24 (by decide) ?_
          exact v_zret hr dX4_isSettingValue_28 hE hf
theorem c_X4_isSettingValue (l : Launch) (hfl : l.stackTraces = false) (p1 : Int32) (p2 : Int32) : CM l yX4_isSettingValue wsX4_isSettingValue 1 20 [.int p1, .int p2] vI (f_X4_isSettingValue p1 p2) := CM.start hfl RX4 rfl (by decide +kernel) rfl (Nat.le_of_ble_eq_true rfl) (fun X G z Gf hl hn hr hf => e_X4_isSettingValue_0 (by rw [hl]; exact hfl) hn hr ⟨rfl, rfl⟩ p1 p2 G hf)
theorem dn_X4_isSettingValue : yX4_isSettingValue.cls ≠ "java/lang/invoke/MethodHandle" ∧ yX4_isSettingValue.cls ≠ "java/lang/invoke/VarHandle" ∧ (parseMethodDescriptor yX4_isSettingValue.desc).map (fun d => d.parameters.length) = some 2 := by decide +kernel
theorem m_X4_moveOldestSavedToEnd_f25 : Cond.fieldLink RX4 25 RX4 "saved" "[LEndVersions$State;" ∈ wsX4_moveOldestSavedToEnd := by decide +kernel
theorem n_X4_moveOldestSavedToEnd_X4 : ∀ w ∈ u_ws RX4 TX4 5, w ∈ wsX4_moveOldestSavedToEnd := by decide +kernel
set_option maxRecDepth 100000 in
set_option maxHeartbeats 4000000 in
theorem e_X4_moveOldestSavedToEnd_2 {X : VX} {B : VB} {z : Unit} {Gf : GH}  (hfx : (xl X).stackTraces = false) (hn : (xme X).name = "moveOldestSavedToEnd") (hr : (xme X).sig.returnType = none) (hE : VE B (z, Gf))  : ∀ (n : Nat) (this : Nat) (l1 : Int32) (G : GH), (f_X4_moveOldestSavedToEnd_2 n this l1).1 G = some (z, Gf) → V X RX4 cX4_moveOldestSavedToEnd 3 0 0 wsX4_moveOldestSavedToEnd B (QE X (vV z) Gf B) G 2 [(0, .ref this), (1, .int l1)] [] := by
  intro n
  induction n with
  | zero =>
    intro this l1 G hf
    have h0 : (none : Option (Unit × GH)) = some (z, Gf) := hf
    cases h0
  | succ n ih =>
    intro this l1 G hf
    rw [f_X4_moveOldestSavedToEnd_2.eq_2] at hf
    refine v_iload_n 1 dX4_moveOldestSavedToEnd_2 rfl rfl ?_
    refine v_aload_n 0 dX4_moveOldestSavedToEnd_3 rfl rfl ?_
    refine v_gr 4 2 n_X4_moveOldestSavedToEnd_X4 rfl (by decide) rfl m_X4_moveOldestSavedToEnd_f25 dX4_moveOldestSavedToEnd_4 hf (fun r1 hf => ?_)
    refine v_len (t := 3) (fun _ => rfl) dX4_moveOldestSavedToEnd_7 hf (fun x2 hf => ?_)
    refine v_icmp_ge 47 dX4_moveOldestSavedToEnd_8 (by decide) hf (fun _ hf => ?_) (fun _ hf => ?_)
    · exact v_vret hr dX4_moveOldestSavedToEnd_47 hE hf
    · refine v_aload_n 0 dX4_moveOldestSavedToEnd_11 rfl rfl ?_
      refine v_gr 4 2 n_X4_moveOldestSavedToEnd_X4 rfl (by decide) rfl m_X4_moveOldestSavedToEnd_f25 dX4_moveOldestSavedToEnd_12 hf (fun r3 hf => ?_)
      refine v_iload_n 1 dX4_moveOldestSavedToEnd_15 rfl rfl ?_
      refine v_iconst 1 dX4_moveOldestSavedToEnd_16 (by decide) ?_
      refine v_isub dX4_moveOldestSavedToEnd_17 ?_
      refine v_aldq (t := 3) (C := RX1) (fun _ => rfl) dX4_moveOldestSavedToEnd_18 hf (fun o4 hf => ?_)
      refine v_astoreq_n [(2, va_rf o4), (0, .ref this), (1, .int l1)] dX4_moveOldestSavedToEnd_19 rfl (by decide) rfl ?_
      refine v_aload_n 1 dX4_moveOldestSavedToEnd_20 rfl rfl ?_
      refine v_gr 4 2 n_X4_moveOldestSavedToEnd_X4 rfl (by decide) rfl m_X4_moveOldestSavedToEnd_f25 dX4_moveOldestSavedToEnd_21 hf (fun r5 hf => ?_)
      refine v_iload_n 2 dX4_moveOldestSavedToEnd_24 rfl rfl ?_
      refine v_iconst 1 dX4_moveOldestSavedToEnd_25 (by decide) ?_
      refine v_isub dX4_moveOldestSavedToEnd_26 ?_
      refine v_aload_n 1 dX4_moveOldestSavedToEnd_27 rfl rfl ?_
      refine v_gr 4 2 n_X4_moveOldestSavedToEnd_X4 rfl (by decide) rfl m_X4_moveOldestSavedToEnd_f25 dX4_moveOldestSavedToEnd_28 hf (fun r6 hf => ?_)
      refine v_iload_n 2 dX4_moveOldestSavedToEnd_31 rfl rfl ?_
      refine v_aldq (t := 3) (C := RX1) (fun _ => rfl) dX4_moveOldestSavedToEnd_32 hf (fun o7 hf => ?_)
      refine v_astq (t := 3) (C := RX1) (r := o7) (fun _ => rfl) rfl dX4_moveOldestSavedToEnd_33 hf (fun G _ hf => ?_)
      refine v_aload_n 1 dX4_moveOldestSavedToEnd_34 rfl rfl ?_
      refine v_gr 4 2 n_X4_moveOldestSavedToEnd_X4 rfl (by decide) rfl m_X4_moveOldestSavedToEnd_f25 dX4_moveOldestSavedToEnd_35 hf (fun r8 hf => ?_)
      refine v_iload_n 2 dX4_moveOldestSavedToEnd_38 rfl rfl ?_
      refine v_aloadq_n 0 dX4_moveOldestSavedToEnd_39 rfl rfl ?_
      refine v_astq (t := 3) (C := RX1) (r := o4) (fun _ => rfl) rfl dX4_moveOldestSavedToEnd_40 hf (fun G _ hf => ?_)
      refine v_iinc 2 (l1 + 1) [(1, .int (l1 + 1)), (2, va_rf o4), (0, .ref this)] dX4_moveOldestSavedToEnd_41 rfl (by rfl) (by decide) rfl ?_
      refine v_goto 2 dX4_moveOldestSavedToEnd_44 (by decide) ?_
      refine v_sub [2, 0] rfl ?_
      exact ih this (l1 + 1) G hf
set_option maxRecDepth 100000 in
set_option maxHeartbeats 4000000 in
theorem e_X4_moveOldestSavedToEnd_0 {X : VX} {B : VB} {z : Unit} {Gf : GH}  (hfx : (xl X).stackTraces = false) (hn : (xme X).name = "moveOldestSavedToEnd") (hr : (xme X).sig.returnType = none) (hE : VE B (z, Gf))  (this : Nat) (G : GH) (hf : (f_X4_moveOldestSavedToEnd this).1 G = some (z, Gf)) : V X RX4 cX4_moveOldestSavedToEnd 3 0 0 wsX4_moveOldestSavedToEnd B (QE X (vV z) Gf B) G 0 [(0, .ref this)] [] := by
  unfold f_X4_moveOldestSavedToEnd at hf
  refine v_iconst 1 dX4_moveOldestSavedToEnd_0 (by decide) ?_
  refine v_istore_n [(1, .int 1), (0, .ref this)] dX4_moveOldestSavedToEnd_1 rfl (by decide) rfl ?_
  refine v_sub [1, 0] rfl ?_
  exact e_X4_moveOldestSavedToEnd_2 hfx hn hr hE FU this 1 G hf
theorem c_X4_moveOldestSavedToEnd (l : Launch) (hfl : l.stackTraces = false) (this : Nat) : CM l yX4_moveOldestSavedToEnd wsX4_moveOldestSavedToEnd 0 0 [.ref this] vV (f_X4_moveOldestSavedToEnd this) := CM.start hfl RX4 rfl (by decide +kernel) rfl (Nat.le_of_ble_eq_true rfl) (fun X G z Gf hl hn hr hf => e_X4_moveOldestSavedToEnd_0 (by rw [hl]; exact hfl) hn hr ⟨rfl, rfl⟩ this G hf)
theorem dv_X4_moveOldestSavedToEnd : yX4_moveOldestSavedToEnd.cls = RX4 ∧ yX4_moveOldestSavedToEnd.cls ≠ "java/lang/invoke/MethodHandle" ∧ yX4_moveOldestSavedToEnd.cls ≠ "java/lang/invoke/VarHandle" ∧ (parseMethodDescriptor yX4_moveOldestSavedToEnd.desc).map (fun d => d.parameters.length) = some 0 := by decide +kernel
theorem m_X4_save_f34 : Cond.fieldLink RX4 34 RX4 "savedStates" "I" ∈ wsX4_save := by decide +kernel
theorem m_X4_save_f25 : Cond.fieldLink RX4 25 RX4 "saved" "[LEndVersions$State;" ∈ wsX4_save := by decide +kernel
theorem m_X4_save_c23 : Cond.classLink RX4 23 RX1 ∈ wsX4_save := by decide +kernel
theorem m_X4_save_inX1 : Cond.instantiable RX1 5 ∈ wsX4_save := by decide +kernel
theorem m_X4_save_itX1 : Cond.initialized RX1 ∈ wsX4_save := by decide +kernel
theorem m_X4_save_f30 : Cond.fieldLink RX4 30 RX4 "now" "LEndVersions$State;" ∈ wsX4_save := by decide +kernel
theorem n_X4_save_X4 : ∀ w ∈ u_ws RX4 TX4 5, w ∈ wsX4_save := by decide +kernel
theorem m_X4_save_l29 : Cond.methodLink RX4 29 yX1_init ∈ wsX4_save := by decide +kernel
theorem m_X4_save_j29 : Cond.instanceMethod yX1_init ∈ wsX4_save := by decide +kernel
theorem n_X4_save_X1 : ∀ w ∈ u_ws RX1 TX1 5, w ∈ wsX4_save := by decide +kernel
set_option maxRecDepth 100000 in
set_option maxHeartbeats 4000000 in
theorem e_X4_save_17 {X : VX} {B : VB} {z : Unit} {Gf : GH}  (hfx : (xl X).stackTraces = false) (hn : (xme X).name = "save") (hr : (xme X).sig.returnType = none) (hE : VE B (z, Gf))  (this : Nat) (G : GH) (hf : (f_X4_save_17 this).1 G = some (z, Gf)) : V X RX4 cX4_save 2 4 76 wsX4_save B (QE X (vV z) Gf B) G 17 [(0, .ref this)] [] := by
  unfold f_X4_save_17 at hf
  refine v_aload_n 0 dX4_save_17 rfl rfl ?_
  refine v_gi 4 4 n_X4_save_X4 rfl (by decide) rfl m_X4_save_f34 dX4_save_18 hf (fun x2 hf => ?_)
  refine v_if_lt 36 dX4_save_21 (by decide) hf (fun _ hf => ?_) (fun _ hf => ?_)
  · exact v_vret hr dX4_save_36 hE hf
  · refine v_aload_n 0 dX4_save_24 rfl rfl ?_
    refine v_gi 4 4 n_X4_save_X4 rfl (by decide) rfl m_X4_save_f34 dX4_save_25 hf (fun x3 hf => ?_)
    refine v_aload_n 0 dX4_save_28 rfl rfl ?_
    refine v_gr 4 2 n_X4_save_X4 rfl (by decide) rfl m_X4_save_f25 dX4_save_29 hf (fun r4 hf => ?_)
    refine v_len (t := 3) (fun _ => rfl) dX4_save_32 hf (fun x5 hf => ?_)
    refine v_icmp_lt 37 dX4_save_33 (by decide) hf (fun _ hf => ?_) (fun _ hf => ?_)
    · refine v_aload_n 0 dX4_save_37 rfl rfl ?_
      refine v_gr 4 2 n_X4_save_X4 rfl (by decide) rfl m_X4_save_f25 dX4_save_38 hf (fun r6 hf => ?_)
      refine v_aload_n 0 dX4_save_41 rfl rfl ?_
      refine v_gi 4 4 n_X4_save_X4 rfl (by decide) rfl m_X4_save_f34 dX4_save_42 hf (fun x7 hf => ?_)
      refine v_aldq (t := 3) (C := RX1) (fun _ => rfl) dX4_save_45 hf (fun o8 hf => ?_)
      refine v_astoreq_n [(1, va_rf o8), (0, .ref this)] dX4_save_46 rfl (by decide) rfl ?_
      refine v_aloadq_n 0 dX4_save_47 rfl rfl ?_
      refine v_ifnonnull 69 dX4_save_48 (by decide) hf (fun e_q9 hf => ?_) (fun q9 e_q9 hf => ?_)
      · refine v_newo 1 tyX1 n_X4_save_X1 tyX1_ok rfl m_X4_save_c23 m_X4_save_inX1 m_X4_save_itX1 dfX1 dX4_save_51 hE hf (fun a10 G hf => ?_)
        refine v_dup dX4_save_54 rfl ?_
        refine v_callI 0 [] (c_X1_init (xl X) hfx a10) gX4_save_X1_init rfl m_X4_save_itX1 m_X4_save_l29 m_X4_save_j29 rfl dn_X1_init (by decide) (by decide) rfl dX4_save_55 (Nat.le_of_ble_eq_true rfl) rfl hE hf (fun G hf => ?_)
        refine v_astore_n [(1, .ref a10), (0, .ref this)] dX4_save_58 rfl (by decide) rfl ?_
        refine v_aload_n 1 dX4_save_59 rfl rfl ?_
        refine v_gr 4 2 n_X4_save_X4 rfl (by decide) rfl m_X4_save_f25 dX4_save_60 hf (fun r11 hf => ?_)
        refine v_aload_n 1 dX4_save_63 rfl rfl ?_
        refine v_gi 4 4 n_X4_save_X4 rfl (by decide) rfl m_X4_save_f34 dX4_save_64 hf (fun x12 hf => ?_)
        refine v_aload_n 0 dX4_save_67 rfl rfl ?_
        refine v_astq (t := 3) (C := RX1) (r := (some a10)) (fun _ => rfl) rfl dX4_save_68 hf (fun G _ hf => ?_)
        refine v_aload_n 0 dX4_save_69 rfl rfl ?_
        refine v_aload_n 1 dX4_save_70 rfl rfl ?_
        refine v_gr 4 3 n_X4_save_X4 rfl (by decide) rfl m_X4_save_f30 dX4_save_71 hf (fun r13 hf => ?_)
        refine v_callVv 1 1 [.ref r13] (c_X1_copyFrom (xl X) hfx a10 r13) gX4_save_X1_copyFrom rfl dv_X1_copyFrom (by decide) (by decide) rfl rfl dX4_save_74 (Nat.le_of_ble_eq_true rfl) rfl hE hf (fun _ G hf => ?_)
        refine v_aload_n 1 dX4_save_77 rfl rfl ?_
        refine v_dup dX4_save_78 rfl ?_
        refine v_gi 4 4 n_X4_save_X4 rfl (by decide) rfl m_X4_save_f34 dX4_save_79 hf (fun x14 hf => ?_)
        refine v_iconst 1 dX4_save_82 (by decide) ?_
        refine v_iadd dX4_save_83 ?_
        refine v_put 4 4 .int n_X4_save_X4 tyX4 tyX4_ok nmX4 rfl (by decide) rfl m_X4_save_f34 rfl (by decide +kernel) rfl rfl dX4_save_84 hf (fun G _ hf => ?_)
        exact v_vret hr dX4_save_87 hE hf
      · subst e_q9
        refine v_aload_n 0 dX4_save_69 rfl rfl ?_
        refine v_aload_n 1 dX4_save_70 rfl rfl ?_
        refine v_gr 4 3 n_X4_save_X4 rfl (by decide) rfl m_X4_save_f30 dX4_save_71 hf (fun r15 hf => ?_)
        refine v_callVv 1 1 [.ref r15] (c_X1_copyFrom (xl X) hfx q9 r15) gX4_save_X1_copyFrom rfl dv_X1_copyFrom (by decide) (by decide) rfl rfl dX4_save_74 (Nat.le_of_ble_eq_true rfl) rfl hE hf (fun _ G hf => ?_)
        refine v_aload_n 1 dX4_save_77 rfl rfl ?_
        refine v_dup dX4_save_78 rfl ?_
        refine v_gi 4 4 n_X4_save_X4 rfl (by decide) rfl m_X4_save_f34 dX4_save_79 hf (fun x16 hf => ?_)
        refine v_iconst 1 dX4_save_82 (by decide) ?_
        refine v_iadd dX4_save_83 ?_
        refine v_put 4 4 .int n_X4_save_X4 tyX4 tyX4_ok nmX4 rfl (by decide) rfl m_X4_save_f34 rfl (by decide +kernel) rfl rfl dX4_save_84 hf (fun G _ hf => ?_)
        exact v_vret hr dX4_save_87 hE hf
    · exact v_vret hr dX4_save_36 hE hf
set_option maxRecDepth 100000 in
set_option maxHeartbeats 4000000 in
theorem e_X4_save_0 {X : VX} {B : VB} {z : Unit} {Gf : GH}  (hfx : (xl X).stackTraces = false) (hn : (xme X).name = "save") (hr : (xme X).sig.returnType = none) (hE : VE B (z, Gf))  (this : Nat) (G : GH) (hf : (f_X4_save this).1 G = some (z, Gf)) : V X RX4 cX4_save 2 4 76 wsX4_save B (QE X (vV z) Gf B) G 0 [(0, .ref this)] [] := by
  unfold f_X4_save at hf
  refine v_aload_n 0 dX4_save_0 rfl rfl ?_
  refine v_gi 4 4 n_X4_save_X4 rfl (by decide) rfl m_X4_save_f34 dX4_save_1 hf (fun x1 hf => ?_)
  refine v_iconst 4 dX4_save_4 (by decide) ?_
  refine v_icmp_lt 17 dX4_save_5 (by decide) hf (fun _ hf => ?_) (fun _ hf => ?_)
  · refine v_sub [0] rfl ?_
    exact e_X4_save_17 hfx hn hr hE this G hf
  · refine v_aload_n 0 dX4_save_8 rfl rfl ?_
    refine v_callVv 4 0 [] (c_X4_moveOldestSavedToEnd (xl X) hfx this) gX4_save_X4_moveOldestSavedToEnd rfl dv_X4_moveOldestSavedToEnd (by decide) (by decide) rfl rfl dX4_save_9 (Nat.le_of_ble_eq_true rfl) rfl hE hf (fun _ G hf => ?_)
    refine v_aload_n 0 dX4_save_12 rfl rfl ?_
    refine v_iconst 3 dX4_save_13 (by decide) ?_
    refine v_put 4 4 .int n_X4_save_X4 tyX4 tyX4_ok nmX4 rfl (by decide) rfl m_X4_save_f34 rfl (by decide +kernel) rfl rfl dX4_save_14 hf (fun G _ hf => ?_)
    refine v_sub [0] rfl ?_
    exact e_X4_save_17 hfx hn hr hE this G hf
theorem c_X4_save (l : Launch) (hfl : l.stackTraces = false) (this : Nat) : CM l yX4_save wsX4_save 4 76 [.ref this] vV (f_X4_save this) := CM.start hfl RX4 rfl (by decide +kernel) rfl (Nat.le_of_ble_eq_true rfl) (fun X G z Gf hl hn hr hf => e_X4_save_0 (by rw [hl]; exact hfl) hn hr ⟨rfl, rfl⟩ this G hf)
theorem dv_X4_save : yX4_save.cls = RX4 ∧ yX4_save.cls ≠ "java/lang/invoke/MethodHandle" ∧ yX4_save.cls ≠ "java/lang/invoke/VarHandle" ∧ (parseMethodDescriptor yX4_save.desc).map (fun d => d.parameters.length) = some 0 := by decide +kernel
theorem m_X4_set_f30 : Cond.fieldLink RX4 30 RX4 "now" "LEndVersions$State;" ∈ wsX4_set := by decide +kernel
theorem n_X4_set_X4 : ∀ w ∈ u_ws RX4 TX4 5, w ∈ wsX4_set := by decide +kernel
theorem m_X4_set_c42 : Cond.classLink RX4 42 "java/lang/IllegalArgumentException" ∈ wsX4_set := by decide +kernel
theorem m_X4_set_i42 : Cond.initialized "java/lang/IllegalArgumentException" ∈ wsX4_set := by decide +kernel
theorem at_X4_set_46 : ∀ w ∈ (vx_atS RX4 46 "java/lang/IllegalArgumentException" ["java/lang/RuntimeException", "java/lang/Exception"]).filter goodWord, w ∈ wsX4_set := by decide +kernel
set_option maxRecDepth 100000 in
set_option maxHeartbeats 4000000 in
theorem e_X4_set_0 {X : VX} {B : VB} {z : (String ⊕ Int32)} {Gf : GH}  (hfx : (xl X).stackTraces = false) (hn : ∀ x ∈ (xc X).exceptionTable.toList, False) (hr : (xme X).sig.returnType = (some .int)) (hE : VE B (z, Gf))  (this : Nat) (p1 : Int32) (p2 : Int32) (G : GH) (hf : (f_X4_set this p1 p2).1 G = some (z, Gf)) : V X RX4 cX4_set 4 6 97 wsX4_set B (XQ X (xmap vI z) Gf B) G 0 [(0, .ref this), (1, .int p1), (2, .int p2)] [] := by
  unfold f_X4_set at hf
  refine v_iload_n 1 dX4_set_0 rfl rfl ?_
  refine v_iload_n 2 dX4_set_1 rfl rfl ?_
  refine v_callSi 2 [.int p1, .int p2] (c_X4_isSettingValue (xl X) hfx p1 p2) gX4_set_X4_isSettingValue rfl dn_X4_isSettingValue (by decide) (by decide) rfl dX4_set_2 (Nat.le_of_ble_eq_true rfl) rfl hE hf (fun x1 G hf => ?_)
  refine v_if_ne 18 dX4_set_5 (by decide) hf (fun _ hf => ?_) (fun _ hf => ?_)
  · refine v_aload_n 0 dX4_set_18 rfl rfl ?_
    refine v_callVv 4 0 [] (c_X4_save (xl X) hfx this) gX4_set_X4_save rfl dv_X4_save (by decide) (by decide) rfl rfl dX4_set_19 (Nat.le_of_ble_eq_true rfl) rfl hE hf (fun _ G hf => ?_)
    refine v_aload_n 0 dX4_set_22 rfl rfl ?_
    refine v_gr 4 3 n_X4_set_X4 rfl (by decide) rfl m_X4_set_f30 dX4_set_23 hf (fun r2 hf => ?_)
    refine v_iload_n 1 dX4_set_26 rfl rfl ?_
    refine v_callVi 1 1 [.int p1] (c_X1_settingOf (xl X) hfx r2 p1) gX4_set_X1_settingOf rfl dv_X1_settingOf (by decide) (by decide) rfl rfl dX4_set_27 (Nat.le_of_ble_eq_true rfl) rfl hE hf (fun x3 G hf => ?_)
    refine v_istore_n [(3, .int x3), (0, .ref this), (1, .int p1), (2, .int p2)] dX4_set_30 rfl (by decide) rfl ?_
    refine v_aload_n 1 dX4_set_31 rfl rfl ?_
    refine v_gr 4 3 n_X4_set_X4 rfl (by decide) rfl m_X4_set_f30 dX4_set_32 hf (fun r4 hf => ?_)
    refine v_iload_n 2 dX4_set_35 rfl rfl ?_
    refine v_iload_n 3 dX4_set_36 rfl rfl ?_
    refine v_callVv 1 2 [.int p1, .int p2] (c_X1_changeSetting (xl X) hfx r4 p1 p2) gX4_set_X1_changeSetting rfl dv_X1_changeSetting (by decide) (by decide) rfl rfl dX4_set_37 (Nat.le_of_ble_eq_true rfl) rfl hE hf (fun _ G hf => ?_)
    refine v_iload_n 0 dX4_set_40 rfl rfl ?_
    exact v_xiret hr dX4_set_41 hE hf
  · exact v_throw (is := 44) (ic := 46) (text := "no such setting or value") (names := ["java/lang/RuntimeException", "java/lang/Exception"]) rfl hn m_X4_set_c42 m_X4_set_i42 at_X4_set_46 (by decide +kernel) (by decide +kernel) (by decide +kernel) (by decide +kernel) (by decide +kernel) dX4_set_8 dX4_set_11 dX4_set_12 dX4_set_14 dX4_set_17 (by decide) (by decide) hE hf
theorem c_X4_set (l : Launch) (hfl : l.stackTraces = false) (this : Nat) (p1 : Int32) (p2 : Int32) : CX l yX4_set wsX4_set 6 97 [.ref this, .int p1, .int p2] vI (f_X4_set this p1 p2) := CX.start hfl RX4 rfl (by decide +kernel) rfl (Nat.le_of_ble_eq_true rfl) (fun X G z Gf hl hn hr hf => e_X4_set_0 (by rw [hl]; exact hfl) hn hr ⟨rfl, rfl⟩ this p1 p2 G hf)
theorem dv_X4_set : yX4_set.cls = RX4 ∧ yX4_set.cls ≠ "java/lang/invoke/MethodHandle" ∧ yX4_set.cls ≠ "java/lang/invoke/VarHandle" ∧ (parseMethodDescriptor yX4_set.desc).map (fun d => d.parameters.length) = some 2 := by decide +kernel
theorem m_X4_requireVersion_f30 : Cond.fieldLink RX4 30 RX4 "now" "LEndVersions$State;" ∈ wsX4_requireVersion := by decide +kernel
theorem m_X4_requireVersion_c195 : Cond.classLink RX4 195 "java/lang/IndexOutOfBoundsException" ∈ wsX4_requireVersion := by decide +kernel
theorem m_X4_requireVersion_i195 : Cond.initialized "java/lang/IndexOutOfBoundsException" ∈ wsX4_requireVersion := by decide +kernel
theorem at_X4_requireVersion_199 : ∀ w ∈ (vx_atS RX4 199 "java/lang/IndexOutOfBoundsException" ["java/lang/RuntimeException", "java/lang/Exception"]).filter goodWord, w ∈ wsX4_requireVersion := by decide +kernel
theorem n_X4_requireVersion_X4 : ∀ w ∈ u_ws RX4 TX4 5, w ∈ wsX4_requireVersion := by decide +kernel
set_option maxRecDepth 100000 in
set_option maxHeartbeats 4000000 in
theorem e_X4_requireVersion_0 {X : VX} {B : VB} {z : (String ⊕ Unit)} {Gf : GH}  (hfx : (xl X).stackTraces = false) (hn : ∀ x ∈ (xc X).exceptionTable.toList, False) (hr : (xme X).sig.returnType = none) (hE : VE B (z, Gf))  (this : Nat) (p1 : Int32) (G : GH) (hf : (f_X4_requireVersion this p1).1 G = some (z, Gf)) : V X RX4 cX4_requireVersion 2 6 90 wsX4_requireVersion B (XQ X (xmap vV z) Gf B) G 0 [(0, .ref this), (1, .int p1)] [] := by
  unfold f_X4_requireVersion at hf
  refine v_aload_n 0 dX4_requireVersion_0 rfl rfl ?_
  refine v_gr 4 3 n_X4_requireVersion_X4 rfl (by decide) rfl m_X4_requireVersion_f30 dX4_requireVersion_1 hf (fun r1 hf => ?_)
  refine v_iload_n 1 dX4_requireVersion_4 rfl rfl ?_
  refine v_callVi 1 1 [.int p1] (c_X1_has (xl X) hfx r1 p1) gX4_requireVersion_X1_has rfl dv_X1_has (by decide) (by decide) rfl rfl dX4_requireVersion_5 (Nat.le_of_ble_eq_true rfl) rfl hE hf (fun x2 G hf => ?_)
  refine v_if_ne 21 dX4_requireVersion_8 (by decide) hf (fun _ hf => ?_) (fun _ hf => ?_)
  · exact v_xvret hr dX4_requireVersion_21 hE hf
  · exact v_throw (is := 197) (ic := 199) (text := "no such version") (names := ["java/lang/RuntimeException", "java/lang/Exception"]) rfl hn m_X4_requireVersion_c195 m_X4_requireVersion_i195 at_X4_requireVersion_199 (by decide +kernel) (by decide +kernel) (by decide +kernel) (by decide +kernel) (by decide +kernel) dX4_requireVersion_11 dX4_requireVersion_14 dX4_requireVersion_15 dX4_requireVersion_17 dX4_requireVersion_20 (by decide) (by decide) hE hf
theorem c_X4_requireVersion (l : Launch) (hfl : l.stackTraces = false) (this : Nat) (p1 : Int32) : CX l yX4_requireVersion wsX4_requireVersion 6 90 [.ref this, .int p1] vV (f_X4_requireVersion this p1) := CX.start hfl RX4 rfl (by decide +kernel) rfl (Nat.le_of_ble_eq_true rfl) (fun X G z Gf hl hn hr hf => e_X4_requireVersion_0 (by rw [hl]; exact hfl) hn hr ⟨rfl, rfl⟩ this p1 G hf)
theorem dv_X4_requireVersion : yX4_requireVersion.cls = RX4 ∧ yX4_requireVersion.cls ≠ "java/lang/invoke/MethodHandle" ∧ yX4_requireVersion.cls ≠ "java/lang/invoke/VarHandle" ∧ (parseMethodDescriptor yX4_requireVersion.desc).map (fun d => d.parameters.length) = some 1 := by decide +kernel
theorem m_X4_push_c42 : Cond.classLink RX4 42 "java/lang/IllegalArgumentException" ∈ wsX4_push := by decide +kernel
theorem m_X4_push_i42 : Cond.initialized "java/lang/IllegalArgumentException" ∈ wsX4_push := by decide +kernel
theorem at_X4_push_46 : ∀ w ∈ (vx_atS RX4 46 "java/lang/IllegalArgumentException" ["java/lang/RuntimeException", "java/lang/Exception"]).filter goodWord, w ∈ wsX4_push := by decide +kernel
theorem m_X4_push_f30 : Cond.fieldLink RX4 30 RX4 "now" "LEndVersions$State;" ∈ wsX4_push := by decide +kernel
theorem n_X4_push_X4 : ∀ w ∈ u_ws RX4 TX4 5, w ∈ wsX4_push := by decide +kernel
theorem m_X4_push_c69 : Cond.classLink RX4 69 "java/lang/IllegalStateException" ∈ wsX4_push := by decide +kernel
theorem m_X4_push_i69 : Cond.initialized "java/lang/IllegalStateException" ∈ wsX4_push := by decide +kernel
theorem at_X4_push_73 : ∀ w ∈ (vx_atS RX4 73 "java/lang/IllegalStateException" ["java/lang/RuntimeException", "java/lang/Exception"]).filter goodWord, w ∈ wsX4_push := by decide +kernel
set_option maxRecDepth 100000 in
set_option maxHeartbeats 4000000 in
theorem e_X4_push_38 {X : VX} {B : VB} {z : (String ⊕ Int32)} {Gf : GH}  (hfx : (xl X).stackTraces = false) (hn : ∀ x ∈ (xc X).exceptionTable.toList, False) (hr : (xme X).sig.returnType = (some .int)) (hE : VE B (z, Gf))  (this : Nat) (p1 : Int32) (p2 : Int32) (s0 : Int32) (G : GH) (hf : (f_X4_push_38 this p1 p2 s0).1 G = some (z, Gf)) : V X RX4 cX4_push 5 7 119 wsX4_push B (XQ X (xmap vI z) Gf B) G 38 [(0, .ref this), (1, .int p1), (2, .int p2)] [.int s0] := by
  unfold f_X4_push_38 at hf
  refine v_istore [(4, .int s0), (0, .ref this), (1, .int p1), (2, .int p2)] dX4_push_38 (by decide) rfl ?_
  refine v_aload_n 1 dX4_push_40 rfl rfl ?_
  refine v_gr 4 3 n_X4_push_X4 rfl (by decide) rfl m_X4_push_f30 dX4_push_41 hf (fun r1 hf => ?_)
  refine v_iload_n 2 dX4_push_44 rfl rfl ?_
  refine v_iload 0 dX4_push_45 rfl ?_
  refine v_callVi 1 2 [.int p1, .int s0] (c_X1_allows (xl X) hfx r1 p1 s0) gX4_push_X1_allows rfl dv_X1_allows (by decide) (by decide) rfl rfl dX4_push_47 (Nat.le_of_ble_eq_true rfl) rfl hE hf (fun x2 G hf => ?_)
  refine v_if_ne 63 dX4_push_50 (by decide) hf (fun _ hf => ?_) (fun _ hf => ?_)
  · refine v_aload_n 1 dX4_push_63 rfl rfl ?_
    refine v_callVv 4 0 [] (c_X4_save (xl X) hfx this) gX4_push_X4_save rfl dv_X4_save (by decide) (by decide) rfl rfl dX4_push_64 (Nat.le_of_ble_eq_true rfl) rfl hE hf (fun _ G hf => ?_)
    refine v_aload_n 1 dX4_push_67 rfl rfl ?_
    refine v_gr 4 3 n_X4_push_X4 rfl (by decide) rfl m_X4_push_f30 dX4_push_68 hf (fun r3 hf => ?_)
    refine v_iload_n 2 dX4_push_71 rfl rfl ?_
    refine v_iload 0 dX4_push_72 rfl ?_
    refine v_iload_n 3 dX4_push_74 rfl rfl ?_
    refine v_callVi 1 3 [.int p1, .int s0, .int p2] (c_X1_grow (xl X) hfx r3 p1 s0 p2) gX4_push_X1_grow rfl dv_X1_grow (by decide) (by decide) rfl rfl dX4_push_75 (Nat.le_of_ble_eq_true rfl) rfl hE hf (fun x4 G hf => ?_)
    exact v_xiret hr dX4_push_78 hE hf
  · exact v_throw (is := 71) (ic := 73) (text := "the row or the versions are full") (names := ["java/lang/RuntimeException", "java/lang/Exception"]) rfl hn m_X4_push_c69 m_X4_push_i69 at_X4_push_73 (by decide +kernel) (by decide +kernel) (by decide +kernel) (by decide +kernel) (by decide +kernel) dX4_push_53 dX4_push_56 dX4_push_57 dX4_push_59 dX4_push_62 (by decide) (by decide) hE hf
set_option maxRecDepth 100000 in
set_option maxHeartbeats 4000000 in
theorem e_X4_push_0 {X : VX} {B : VB} {z : (String ⊕ Int32)} {Gf : GH}  (hfx : (xl X).stackTraces = false) (hn : ∀ x ∈ (xc X).exceptionTable.toList, False) (hr : (xme X).sig.returnType = (some .int)) (hE : VE B (z, Gf))  (this : Nat) (p1 : Int32) (p2 : Int32) (p3 : Int32) (G : GH) (hf : (f_X4_push this p1 p2 p3).1 G = some (z, Gf)) : V X RX4 cX4_push 5 7 119 wsX4_push B (XQ X (xmap vI z) Gf B) G 0 [(0, .ref this), (1, .int p1), (2, .int p2), (3, .int p3)] [] := by
  unfold f_X4_push at hf
  refine v_aload_n 0 dX4_push_0 rfl rfl ?_
  refine v_iload_n 1 dX4_push_1 rfl rfl ?_
  refine v_xcallVv hn 4 1 [.int p1] (c_X4_requireVersion (xl X) hfx this p1) gX4_push_X4_requireVersion rfl dv_X4_requireVersion (by decide) (by decide) rfl rfl dX4_push_2 (Nat.le_of_ble_eq_true rfl) rfl hE hf (fun _ G hf => ?_)
  refine v_iload_n 2 dX4_push_5 rfl rfl ?_
  refine v_sipush (-999) dX4_push_6 (by decide) ?_
  refine v_icmp_lt 19 dX4_push_9 (by decide) hf (fun _ hf => ?_) (fun _ hf => ?_)
  · exact v_throw (is := 64) (ic := 46) (text := "value out of range") (names := ["java/lang/RuntimeException", "java/lang/Exception"]) rfl hn m_X4_push_c42 m_X4_push_i42 at_X4_push_46 (by decide +kernel) (by decide +kernel) (by decide +kernel) (by decide +kernel) (by decide +kernel) dX4_push_19 dX4_push_22 dX4_push_23 dX4_push_25 dX4_push_28 (by decide) (by decide) hE hf
  · refine v_iload_n 2 dX4_push_12 rfl rfl ?_
    refine v_sipush 999 dX4_push_13 (by decide) ?_
    refine v_icmp_le 29 dX4_push_16 (by decide) hf (fun _ hf => ?_) (fun _ hf => ?_)
    · refine v_iload_n 3 dX4_push_29 rfl rfl ?_
      refine v_if_eq 37 dX4_push_30 (by decide) hf (fun _ hf => ?_) (fun _ hf => ?_)
      · refine v_iconst 1 dX4_push_37 (by decide) ?_
        refine v_sub [0, 1, 2] rfl ?_
        exact e_X4_push_38 hfx hn hr hE this p1 p2 1 G hf
      · refine v_iconst 0 dX4_push_33 (by decide) ?_
        refine v_goto 38 dX4_push_34 (by decide) ?_
        refine v_sub [0, 1, 2] rfl ?_
        exact e_X4_push_38 hfx hn hr hE this p1 p2 0 G hf
    · exact v_throw (is := 64) (ic := 46) (text := "value out of range") (names := ["java/lang/RuntimeException", "java/lang/Exception"]) rfl hn m_X4_push_c42 m_X4_push_i42 at_X4_push_46 (by decide +kernel) (by decide +kernel) (by decide +kernel) (by decide +kernel) (by decide +kernel) dX4_push_19 dX4_push_22 dX4_push_23 dX4_push_25 dX4_push_28 (by decide) (by decide) hE hf
theorem c_X4_push (l : Launch) (hfl : l.stackTraces = false) (this : Nat) (p1 : Int32) (p2 : Int32) (p3 : Int32) : CX l yX4_push wsX4_push 7 119 [.ref this, .int p1, .int p2, .int p3] vI (f_X4_push this p1 p2 p3) := CX.start hfl RX4 rfl (by decide +kernel) rfl (Nat.le_of_ble_eq_true rfl) (fun X G z Gf hl hn hr hf => e_X4_push_0 (by rw [hl]; exact hfl) hn hr ⟨rfl, rfl⟩ this p1 p2 p3 G hf)
theorem dv_X4_push : yX4_push.cls = RX4 ∧ yX4_push.cls ≠ "java/lang/invoke/MethodHandle" ∧ yX4_push.cls ≠ "java/lang/invoke/VarHandle" ∧ (parseMethodDescriptor yX4_push.desc).map (fun d => d.parameters.length) = some 3 := by decide +kernel
theorem m_X4_pop_f30 : Cond.fieldLink RX4 30 RX4 "now" "LEndVersions$State;" ∈ wsX4_pop := by decide +kernel
theorem n_X4_pop_X4 : ∀ w ∈ u_ws RX4 TX4 5, w ∈ wsX4_pop := by decide +kernel
theorem m_X4_pop_c69 : Cond.classLink RX4 69 "java/lang/IllegalStateException" ∈ wsX4_pop := by decide +kernel
theorem m_X4_pop_i69 : Cond.initialized "java/lang/IllegalStateException" ∈ wsX4_pop := by decide +kernel
theorem at_X4_pop_73 : ∀ w ∈ (vx_atS RX4 73 "java/lang/IllegalStateException" ["java/lang/RuntimeException", "java/lang/Exception"]).filter goodWord, w ∈ wsX4_pop := by decide +kernel
theorem m_X4_pop_c88 : Cond.classLink RX4 88 "java/util/NoSuchElementException" ∈ wsX4_pop := by decide +kernel
theorem m_X4_pop_i88 : Cond.initialized "java/util/NoSuchElementException" ∈ wsX4_pop := by decide +kernel
theorem at_X4_pop_92 : ∀ w ∈ (vx_atE RX4 92 nseC [nseR, nseE]).filter goodWord, w ∈ wsX4_pop := by decide +kernel
set_option maxRecDepth 100000 in
set_option maxHeartbeats 4000000 in
theorem e_X4_pop_38 {X : VX} {B : VB} {z : (String ⊕ Int32)} {Gf : GH}  (hfx : (xl X).stackTraces = false) (hn : ∀ x ∈ (xc X).exceptionTable.toList, False) (hr : (xme X).sig.returnType = (some .int)) (hE : VE B (z, Gf))  (this : Nat) (p1 : Int32) (s0 : Int32) (G : GH) (hf : (f_X4_pop_38 this p1 s0).1 G = some (z, Gf)) : V X RX4 cX4_pop 4 7 119 wsX4_pop B (XQ X (xmap vI z) Gf B) G 38 [(0, .ref this), (1, .int p1)] [.int s0] := by
  unfold f_X4_pop_38 at hf
  refine v_istore_n [(3, .int s0), (0, .ref this), (1, .int p1)] dX4_pop_38 rfl (by decide) rfl ?_
  refine v_aload_n 1 dX4_pop_39 rfl rfl ?_
  refine v_gr 4 3 n_X4_pop_X4 rfl (by decide) rfl m_X4_pop_f30 dX4_pop_40 hf (fun r4 hf => ?_)
  refine v_iload_n 2 dX4_pop_43 rfl rfl ?_
  refine v_iload_n 0 dX4_pop_44 rfl rfl ?_
  refine v_callVi 1 2 [.int p1, .int s0] (c_X1_allows (xl X) hfx r4 p1 s0) gX4_pop_X1_allows rfl dv_X1_allows (by decide) (by decide) rfl rfl dX4_pop_45 (Nat.le_of_ble_eq_true rfl) rfl hE hf (fun x5 G hf => ?_)
  refine v_if_ne 61 dX4_pop_48 (by decide) hf (fun _ hf => ?_) (fun _ hf => ?_)
  · refine v_aload_n 1 dX4_pop_61 rfl rfl ?_
    refine v_callVv 4 0 [] (c_X4_save (xl X) hfx this) gX4_pop_X4_save rfl dv_X4_save (by decide) (by decide) rfl rfl dX4_pop_62 (Nat.le_of_ble_eq_true rfl) rfl hE hf (fun _ G hf => ?_)
    refine v_aload_n 1 dX4_pop_65 rfl rfl ?_
    refine v_gr 4 3 n_X4_pop_X4 rfl (by decide) rfl m_X4_pop_f30 dX4_pop_66 hf (fun r6 hf => ?_)
    refine v_iload_n 2 dX4_pop_69 rfl rfl ?_
    refine v_iload_n 0 dX4_pop_70 rfl rfl ?_
    refine v_iconst 0 dX4_pop_71 (by decide) ?_
    refine v_callVi 1 3 [.int p1, .int s0, .int 0] (c_X1_grow (xl X) hfx r6 p1 s0 0) gX4_pop_X1_grow rfl dv_X1_grow (by decide) (by decide) rfl rfl dX4_pop_72 (Nat.le_of_ble_eq_true rfl) rfl hE hf (fun x7 G hf => ?_)
    exact v_xiret hr dX4_pop_75 hE hf
  · exact v_throw (is := 93) (ic := 73) (text := "the versions are full") (names := ["java/lang/RuntimeException", "java/lang/Exception"]) rfl hn m_X4_pop_c69 m_X4_pop_i69 at_X4_pop_73 (by decide +kernel) (by decide +kernel) (by decide +kernel) (by decide +kernel) (by decide +kernel) dX4_pop_51 dX4_pop_54 dX4_pop_55 dX4_pop_57 dX4_pop_60 (by decide) (by decide) hE hf
set_option maxRecDepth 100000 in
set_option maxHeartbeats 4000000 in
theorem e_X4_pop_0 {X : VX} {B : VB} {z : (String ⊕ Int32)} {Gf : GH}  (hfx : (xl X).stackTraces = false) (hn : ∀ x ∈ (xc X).exceptionTable.toList, False) (hr : (xme X).sig.returnType = (some .int)) (hE : VE B (z, Gf))  (this : Nat) (p1 : Int32) (p2 : Int32) (G : GH) (hf : (f_X4_pop this p1 p2).1 G = some (z, Gf)) : V X RX4 cX4_pop 4 7 119 wsX4_pop B (XQ X (xmap vI z) Gf B) G 0 [(0, .ref this), (1, .int p1), (2, .int p2)] [] := by
  unfold f_X4_pop at hf
  refine v_aload_n 0 dX4_pop_0 rfl rfl ?_
  refine v_iload_n 1 dX4_pop_1 rfl rfl ?_
  refine v_xcallVv hn 4 1 [.int p1] (c_X4_requireVersion (xl X) hfx this p1) gX4_pop_X4_requireVersion rfl dv_X4_requireVersion (by decide) (by decide) rfl rfl dX4_pop_2 (Nat.le_of_ble_eq_true rfl) rfl hE hf (fun _ G hf => ?_)
  refine v_aload_n 0 dX4_pop_5 rfl rfl ?_
  refine v_gr 4 3 n_X4_pop_X4 rfl (by decide) rfl m_X4_pop_f30 dX4_pop_6 hf (fun r1 hf => ?_)
  refine v_iload_n 1 dX4_pop_9 rfl rfl ?_
  refine v_callVr 1 1 [.int p1] (c_X1_slot (xl X) hfx r1 p1) gX4_pop_X1_slot rfl dv_X1_slot (by decide) (by decide) rfl rfl dX4_pop_10 (Nat.le_of_ble_eq_true rfl) rfl hE hf (fun r2 G hf => ?_)
  refine v_callVi 3 0 [] (c_X3_size (xl X) hfx r2) gX4_pop_X3_size rfl dv_X3_size (by decide) (by decide) rfl rfl dX4_pop_13 (Nat.le_of_ble_eq_true rfl) rfl hE hf (fun x3 G hf => ?_)
  refine v_if_ne 29 dX4_pop_16 (by decide) hf (fun _ hf => ?_) (fun _ hf => ?_)
  · refine v_iload_n 2 dX4_pop_29 rfl rfl ?_
    refine v_if_eq 37 dX4_pop_30 (by decide) hf (fun _ hf => ?_) (fun _ hf => ?_)
    · refine v_iconst 3 dX4_pop_37 (by decide) ?_
      refine v_sub [0, 1] rfl ?_
      exact e_X4_pop_38 hfx hn hr hE this p1 3 G hf
    · refine v_iconst 2 dX4_pop_33 (by decide) ?_
      refine v_goto 38 dX4_pop_34 (by decide) ?_
      refine v_sub [0, 1] rfl ?_
      exact e_X4_pop_38 hfx hn hr hE this p1 2 G hf
  · exact v_throwE (is := 90) (text := "the row is empty") hn m_X4_pop_c88 m_X4_pop_i88 at_X4_pop_92 (by decide +kernel) (by decide +kernel) (by decide +kernel) dX4_pop_19 dX4_pop_22 dX4_pop_23 dX4_pop_25 dX4_pop_28 (by decide) (by decide) hE hf
theorem c_X4_pop (l : Launch) (hfl : l.stackTraces = false) (this : Nat) (p1 : Int32) (p2 : Int32) : CX l yX4_pop wsX4_pop 7 119 [.ref this, .int p1, .int p2] vI (f_X4_pop this p1 p2) := CX.start hfl RX4 rfl (by decide +kernel) rfl (Nat.le_of_ble_eq_true rfl) (fun X G z Gf hl hn hr hf => e_X4_pop_0 (by rw [hl]; exact hfl) hn hr ⟨rfl, rfl⟩ this p1 p2 G hf)
theorem dv_X4_pop : yX4_pop.cls = RX4 ∧ yX4_pop.cls ≠ "java/lang/invoke/MethodHandle" ∧ yX4_pop.cls ≠ "java/lang/invoke/VarHandle" ∧ (parseMethodDescriptor yX4_pop.desc).map (fun d => d.parameters.length) = some 2 := by decide +kernel
theorem m_X4_drop_f30 : Cond.fieldLink RX4 30 RX4 "now" "LEndVersions$State;" ∈ wsX4_drop := by decide +kernel
theorem m_X4_drop_f95 : Cond.fieldLink RX4 95 RX1 "held" "I" ∈ wsX4_drop := by decide +kernel
theorem n_X4_drop_X1 : ∀ w ∈ u_ws RX1 TX1 5, w ∈ wsX4_drop := by decide +kernel
theorem n_X4_drop_X4 : ∀ w ∈ u_ws RX4 TX4 5, w ∈ wsX4_drop := by decide +kernel
theorem m_X4_drop_c69 : Cond.classLink RX4 69 "java/lang/IllegalStateException" ∈ wsX4_drop := by decide +kernel
theorem m_X4_drop_i69 : Cond.initialized "java/lang/IllegalStateException" ∈ wsX4_drop := by decide +kernel
theorem at_X4_drop_73 : ∀ w ∈ (vx_atS RX4 73 "java/lang/IllegalStateException" ["java/lang/RuntimeException", "java/lang/Exception"]).filter goodWord, w ∈ wsX4_drop := by decide +kernel
set_option maxRecDepth 100000 in
set_option maxHeartbeats 4000000 in
theorem e_X4_drop_0 {X : VX} {B : VB} {z : (String ⊕ Int32)} {Gf : GH}  (hfx : (xl X).stackTraces = false) (hn : ∀ x ∈ (xc X).exceptionTable.toList, False) (hr : (xme X).sig.returnType = (some .int)) (hE : VE B (z, Gf))  (this : Nat) (G : GH) (hf : (f_X4_drop this).1 G = some (z, Gf)) : V X RX4 cX4_drop 1 6 97 wsX4_drop B (XQ X (xmap vI z) Gf B) G 0 [(0, .ref this)] [] := by
  unfold f_X4_drop at hf
  refine v_aload_n 0 dX4_drop_0 rfl rfl ?_
  refine v_gr 4 3 n_X4_drop_X4 rfl (by decide) rfl m_X4_drop_f30 dX4_drop_1 hf (fun r1 hf => ?_)
  refine v_gi 1 0 n_X4_drop_X1 rfl (by decide) rfl m_X4_drop_f95 dX4_drop_4 hf (fun x2 hf => ?_)
  refine v_iconst 1 dX4_drop_7 (by decide) ?_
  refine v_icmp_gt 21 dX4_drop_8 (by decide) hf (fun _ hf => ?_) (fun _ hf => ?_)
  · refine v_aload_n 0 dX4_drop_21 rfl rfl ?_
    refine v_callVv 4 0 [] (c_X4_save (xl X) hfx this) gX4_drop_X4_save rfl dv_X4_save (by decide) (by decide) rfl rfl dX4_drop_22 (Nat.le_of_ble_eq_true rfl) rfl hE hf (fun _ G hf => ?_)
    refine v_aload_n 0 dX4_drop_25 rfl rfl ?_
    refine v_gr 4 3 n_X4_drop_X4 rfl (by decide) rfl m_X4_drop_f30 dX4_drop_26 hf (fun r3 hf => ?_)
    refine v_dup dX4_drop_29 rfl ?_
    refine v_gi 1 0 n_X4_drop_X1 rfl (by decide) rfl m_X4_drop_f95 dX4_drop_30 hf (fun x4 hf => ?_)
    refine v_iconst 1 dX4_drop_33 (by decide) ?_
    refine v_isub dX4_drop_34 ?_
    refine v_put 1 0 .int n_X4_drop_X1 tyX1 tyX1_ok nmX1 rfl (by decide) rfl m_X4_drop_f95 rfl (by decide +kernel) rfl rfl dX4_drop_35 hf (fun G _ hf => ?_)
    refine v_aload_n 0 dX4_drop_38 rfl rfl ?_
    refine v_gr 4 3 n_X4_drop_X4 rfl (by decide) rfl m_X4_drop_f30 dX4_drop_39 hf (fun r5 hf => ?_)
    refine v_gi 1 0 n_X4_drop_X1 rfl (by decide) rfl m_X4_drop_f95 dX4_drop_42 hf (fun x6 hf => ?_)
    exact v_xiret hr dX4_drop_45 hE hf
  · exact v_throw (is := 98) (ic := 73) (text := "there is the version 0 alone") (names := ["java/lang/RuntimeException", "java/lang/Exception"]) rfl hn m_X4_drop_c69 m_X4_drop_i69 at_X4_drop_73 (by decide +kernel) (by decide +kernel) (by decide +kernel) (by decide +kernel) (by decide +kernel) dX4_drop_11 dX4_drop_14 dX4_drop_15 dX4_drop_17 dX4_drop_20 (by decide) (by decide) hE hf
theorem c_X4_drop (l : Launch) (hfl : l.stackTraces = false) (this : Nat) : CX l yX4_drop wsX4_drop 6 97 [.ref this] vI (f_X4_drop this) := CX.start hfl RX4 rfl (by decide +kernel) rfl (Nat.le_of_ble_eq_true rfl) (fun X G z Gf hl hn hr hf => e_X4_drop_0 (by rw [hl]; exact hfl) hn hr ⟨rfl, rfl⟩ this G hf)
theorem dv_X4_drop : yX4_drop.cls = RX4 ∧ yX4_drop.cls ≠ "java/lang/invoke/MethodHandle" ∧ yX4_drop.cls ≠ "java/lang/invoke/VarHandle" ∧ (parseMethodDescriptor yX4_drop.desc).map (fun d => d.parameters.length) = some 0 := by decide +kernel
theorem m_X4_clear_f30 : Cond.fieldLink RX4 30 RX4 "now" "LEndVersions$State;" ∈ wsX4_clear := by decide +kernel
theorem m_X4_clear_f95 : Cond.fieldLink RX4 95 RX1 "held" "I" ∈ wsX4_clear := by decide +kernel
theorem n_X4_clear_X1 : ∀ w ∈ u_ws RX1 TX1 5, w ∈ wsX4_clear := by decide +kernel
theorem n_X4_clear_X4 : ∀ w ∈ u_ws RX4 TX4 5, w ∈ wsX4_clear := by decide +kernel
set_option maxRecDepth 100000 in
set_option maxHeartbeats 4000000 in
theorem e_X4_clear_0 {X : VX} {B : VB} {z : Int32} {Gf : GH}  (hfx : (xl X).stackTraces = false) (hn : (xme X).name = "clear") (hr : (xme X).sig.returnType = (some .int)) (hE : VE B (z, Gf))  (this : Nat) (G : GH) (hf : (f_X4_clear this).1 G = some (z, Gf)) : V X RX4 cX4_clear 2 5 97 wsX4_clear B (QE X (vI z) Gf B) G 0 [(0, .ref this)] [] := by
  unfold f_X4_clear at hf
  refine v_aload_n 0 dX4_clear_0 rfl rfl ?_
  refine v_callVv 4 0 [] (c_X4_save (xl X) hfx this) gX4_clear_X4_save rfl dv_X4_save (by decide) (by decide) rfl rfl dX4_clear_1 (Nat.le_of_ble_eq_true rfl) rfl hE hf (fun _ G hf => ?_)
  refine v_aload_n 0 dX4_clear_4 rfl rfl ?_
  refine v_gr 4 3 n_X4_clear_X4 rfl (by decide) rfl m_X4_clear_f30 dX4_clear_5 hf (fun r1 hf => ?_)
  refine v_gi 1 0 n_X4_clear_X1 rfl (by decide) rfl m_X4_clear_f95 dX4_clear_8 hf (fun x2 hf => ?_)
  refine v_iconst 1 dX4_clear_11 (by decide) ?_
  refine v_isub dX4_clear_12 ?_
  refine v_istore_n [(1, .int (x2 - 1)), (0, .ref this)] dX4_clear_13 rfl (by decide) rfl ?_
  refine v_aload_n 1 dX4_clear_14 rfl rfl ?_
  refine v_gr 4 3 n_X4_clear_X4 rfl (by decide) rfl m_X4_clear_f30 dX4_clear_15 hf (fun r3 hf => ?_)
  refine v_iconst 1 dX4_clear_18 (by decide) ?_
  refine v_put 1 0 .int n_X4_clear_X1 tyX1 tyX1_ok nmX1 rfl (by decide) rfl m_X4_clear_f95 rfl (by decide +kernel) rfl rfl dX4_clear_19 hf (fun G _ hf => ?_)
  refine v_iload_n 0 dX4_clear_22 rfl rfl ?_
  exact v_iret hr dX4_clear_23 hE hf
theorem c_X4_clear (l : Launch) (hfl : l.stackTraces = false) (this : Nat) : CM l yX4_clear wsX4_clear 5 97 [.ref this] vI (f_X4_clear this) := CM.start hfl RX4 rfl (by decide +kernel) rfl (Nat.le_of_ble_eq_true rfl) (fun X G z Gf hl hn hr hf => e_X4_clear_0 (by rw [hl]; exact hfl) hn hr ⟨rfl, rfl⟩ this G hf)
theorem dv_X4_clear : yX4_clear.cls = RX4 ∧ yX4_clear.cls ≠ "java/lang/invoke/MethodHandle" ∧ yX4_clear.cls ≠ "java/lang/invoke/VarHandle" ∧ (parseMethodDescriptor yX4_clear.desc).map (fun d => d.parameters.length) = some 0 := by decide +kernel
theorem m_X4_version_c42 : Cond.classLink RX4 42 "java/lang/IllegalArgumentException" ∈ wsX4_version := by decide +kernel
theorem m_X4_version_i42 : Cond.initialized "java/lang/IllegalArgumentException" ∈ wsX4_version := by decide +kernel
theorem at_X4_version_46 : ∀ w ∈ (vx_atS RX4 46 "java/lang/IllegalArgumentException" ["java/lang/RuntimeException", "java/lang/Exception"]).filter goodWord, w ∈ wsX4_version := by decide +kernel
theorem m_X4_version_f30 : Cond.fieldLink RX4 30 RX4 "now" "LEndVersions$State;" ∈ wsX4_version := by decide +kernel
theorem n_X4_version_X4 : ∀ w ∈ u_ws RX4 TX4 5, w ∈ wsX4_version := by decide +kernel
set_option maxRecDepth 100000 in
set_option maxHeartbeats 4000000 in
theorem e_X4_version_0 {X : VX} {B : VB} {z : (String ⊕ Int32)} {Gf : GH}  (hfx : (xl X).stackTraces = false) (hn : ∀ x ∈ (xc X).exceptionTable.toList, False) (hr : (xme X).sig.returnType = (some .int)) (hE : VE B (z, Gf))  (this : Nat) (p1 : Int32) (p2 : Int32) (G : GH) (hf : (f_X4_version this p1 p2).1 G = some (z, Gf)) : V X RX4 cX4_version 3 7 111 wsX4_version B (XQ X (xmap vI z) Gf B) G 0 [(0, .ref this), (1, .int p1), (2, .int p2)] [] := by
  unfold f_X4_version at hf
  refine v_aload_n 0 dX4_version_0 rfl rfl ?_
  refine v_iload_n 1 dX4_version_1 rfl rfl ?_
  refine v_xcallVv hn 4 1 [.int p1] (c_X4_requireVersion (xl X) hfx this p1) gX4_version_X4_requireVersion rfl dv_X4_requireVersion (by decide) (by decide) rfl rfl dX4_version_2 (Nat.le_of_ble_eq_true rfl) rfl hE hf (fun _ G hf => ?_)
  refine v_iload_n 2 dX4_version_5 rfl rfl ?_
  refine v_if_lt 15 dX4_version_6 (by decide) hf (fun _ hf => ?_) (fun _ hf => ?_)
  · exact v_throw (is := 100) (ic := 46) (text := "no such fact of a version") (names := ["java/lang/RuntimeException", "java/lang/Exception"]) rfl hn m_X4_version_c42 m_X4_version_i42 at_X4_version_46 (by decide +kernel) (by decide +kernel) (by decide +kernel) (by decide +kernel) (by decide +kernel) dX4_version_15 dX4_version_18 dX4_version_19 dX4_version_21 dX4_version_24 (by decide) (by decide) hE hf
  · refine v_iload_n 2 dX4_version_9 rfl rfl ?_
    refine v_bipush 10 dX4_version_10 (by decide) ?_
    refine v_icmp_lt 25 dX4_version_12 (by decide) hf (fun _ hf => ?_) (fun _ hf => ?_)
    · refine v_aload_n 0 dX4_version_25 rfl rfl ?_
      refine v_gr 4 3 n_X4_version_X4 rfl (by decide) rfl m_X4_version_f30 dX4_version_26 hf (fun r1 hf => ?_)
      refine v_iload_n 1 dX4_version_29 rfl rfl ?_
      refine v_callVr 1 1 [.int p1] (c_X1_slot (xl X) hfx r1 p1) gX4_version_X1_slot rfl dv_X1_slot (by decide) (by decide) rfl rfl dX4_version_30 (Nat.le_of_ble_eq_true rfl) rfl hE hf (fun r2 G hf => ?_)
      refine v_iload_n 2 dX4_version_33 rfl rfl ?_
      refine v_callVi 3 1 [.int p2] (c_X3_fact (xl X) hfx r2 p2) gX4_version_X3_fact rfl dv_X3_fact (by decide) (by decide) rfl rfl dX4_version_34 (Nat.le_of_ble_eq_true rfl) rfl hE hf (fun x3 G hf => ?_)
      exact v_xiret hr dX4_version_37 hE hf
    · exact v_throw (is := 100) (ic := 46) (text := "no such fact of a version") (names := ["java/lang/RuntimeException", "java/lang/Exception"]) rfl hn m_X4_version_c42 m_X4_version_i42 at_X4_version_46 (by decide +kernel) (by decide +kernel) (by decide +kernel) (by decide +kernel) (by decide +kernel) dX4_version_15 dX4_version_18 dX4_version_19 dX4_version_21 dX4_version_24 (by decide) (by decide) hE hf
theorem c_X4_version (l : Launch) (hfl : l.stackTraces = false) (this : Nat) (p1 : Int32) (p2 : Int32) : CX l yX4_version wsX4_version 7 111 [.ref this, .int p1, .int p2] vI (f_X4_version this p1 p2) := CX.start hfl RX4 rfl (by decide +kernel) rfl (Nat.le_of_ble_eq_true rfl) (fun X G z Gf hl hn hr hf => e_X4_version_0 (by rw [hl]; exact hfl) hn hr ⟨rfl, rfl⟩ this p1 p2 G hf)
theorem dv_X4_version : yX4_version.cls = RX4 ∧ yX4_version.cls ≠ "java/lang/invoke/MethodHandle" ∧ yX4_version.cls ≠ "java/lang/invoke/VarHandle" ∧ (parseMethodDescriptor yX4_version.desc).map (fun d => d.parameters.length) = some 2 := by decide +kernel
theorem m_X4_value_f30 : Cond.fieldLink RX4 30 RX4 "now" "LEndVersions$State;" ∈ wsX4_value := by decide +kernel
theorem m_X4_value_f107 : Cond.fieldLink RX4 107 RX3 "moved" "I" ∈ wsX4_value := by decide +kernel
theorem n_X4_value_X3 : ∀ w ∈ u_ws RX3 TX3 11, w ∈ wsX4_value := by decide +kernel
theorem n_X4_value_X4 : ∀ w ∈ u_ws RX4 TX4 5, w ∈ wsX4_value := by decide +kernel
theorem m_X4_value_c69 : Cond.classLink RX4 69 "java/lang/IllegalStateException" ∈ wsX4_value := by decide +kernel
theorem m_X4_value_i69 : Cond.initialized "java/lang/IllegalStateException" ∈ wsX4_value := by decide +kernel
theorem at_X4_value_73 : ∀ w ∈ (vx_atS RX4 73 "java/lang/IllegalStateException" ["java/lang/RuntimeException", "java/lang/Exception"]).filter goodWord, w ∈ wsX4_value := by decide +kernel
set_option maxRecDepth 100000 in
set_option maxHeartbeats 4000000 in
theorem e_X4_value_0 {X : VX} {B : VB} {z : (String ⊕ Int32)} {Gf : GH}  (hfx : (xl X).stackTraces = false) (hn : ∀ x ∈ (xc X).exceptionTable.toList, False) (hr : (xme X).sig.returnType = (some .int)) (hE : VE B (z, Gf))  (this : Nat) (p1 : Int32) (G : GH) (hf : (f_X4_value this p1).1 G = some (z, Gf)) : V X RX4 cX4_value 2 7 111 wsX4_value B (XQ X (xmap vI z) Gf B) G 0 [(0, .ref this), (1, .int p1)] [] := by
  unfold f_X4_value at hf
  refine v_aload_n 0 dX4_value_0 rfl rfl ?_
  refine v_iload_n 1 dX4_value_1 rfl rfl ?_
  refine v_xcallVv hn 4 1 [.int p1] (c_X4_requireVersion (xl X) hfx this p1) gX4_value_X4_requireVersion rfl dv_X4_requireVersion (by decide) (by decide) rfl rfl dX4_value_2 (Nat.le_of_ble_eq_true rfl) rfl hE hf (fun _ G hf => ?_)
  refine v_iload_n 1 dX4_value_5 rfl rfl ?_
  refine v_if_ne 19 dX4_value_6 (by decide) hf (fun _ hf => ?_) (fun _ hf => ?_)
  · refine v_aload_n 0 dX4_value_19 rfl rfl ?_
    refine v_gr 4 3 n_X4_value_X4 rfl (by decide) rfl m_X4_value_f30 dX4_value_20 hf (fun r1 hf => ?_)
    refine v_iload_n 1 dX4_value_23 rfl rfl ?_
    refine v_callVr 1 1 [.int p1] (c_X1_slot (xl X) hfx r1 p1) gX4_value_X1_slot rfl dv_X1_slot (by decide) (by decide) rfl rfl dX4_value_24 (Nat.le_of_ble_eq_true rfl) rfl hE hf (fun r2 G hf => ?_)
    refine v_gi 3 2 n_X4_value_X3 rfl (by decide) rfl m_X4_value_f107 dX4_value_27 hf (fun x3 hf => ?_)
    exact v_xiret hr dX4_value_30 hE hf
  · exact v_throw (is := 105) (ic := 73) (text := "no act made the version 0") (names := ["java/lang/RuntimeException", "java/lang/Exception"]) rfl hn m_X4_value_c69 m_X4_value_i69 at_X4_value_73 (by decide +kernel) (by decide +kernel) (by decide +kernel) (by decide +kernel) (by decide +kernel) dX4_value_9 dX4_value_12 dX4_value_13 dX4_value_15 dX4_value_18 (by decide) (by decide) hE hf
theorem c_X4_value (l : Launch) (hfl : l.stackTraces = false) (this : Nat) (p1 : Int32) : CX l yX4_value wsX4_value 7 111 [.ref this, .int p1] vI (f_X4_value this p1) := CX.start hfl RX4 rfl (by decide +kernel) rfl (Nat.le_of_ble_eq_true rfl) (fun X G z Gf hl hn hr hf => e_X4_value_0 (by rw [hl]; exact hfl) hn hr ⟨rfl, rfl⟩ this p1 G hf)
theorem dv_X4_value : yX4_value.cls = RX4 ∧ yX4_value.cls ≠ "java/lang/invoke/MethodHandle" ∧ yX4_value.cls ≠ "java/lang/invoke/VarHandle" ∧ (parseMethodDescriptor yX4_value.desc).map (fun d => d.parameters.length) = some 1 := by decide +kernel
theorem m_X4_requirePlace_f30 : Cond.fieldLink RX4 30 RX4 "now" "LEndVersions$State;" ∈ wsX4_requirePlace := by decide +kernel
theorem m_X4_requirePlace_c195 : Cond.classLink RX4 195 "java/lang/IndexOutOfBoundsException" ∈ wsX4_requirePlace := by decide +kernel
theorem m_X4_requirePlace_i195 : Cond.initialized "java/lang/IndexOutOfBoundsException" ∈ wsX4_requirePlace := by decide +kernel
theorem at_X4_requirePlace_199 : ∀ w ∈ (vx_atS RX4 199 "java/lang/IndexOutOfBoundsException" ["java/lang/RuntimeException", "java/lang/Exception"]).filter goodWord, w ∈ wsX4_requirePlace := by decide +kernel
theorem n_X4_requirePlace_X4 : ∀ w ∈ u_ws RX4 TX4 5, w ∈ wsX4_requirePlace := by decide +kernel
set_option maxRecDepth 100000 in
set_option maxHeartbeats 4000000 in
theorem e_X4_requirePlace_0 {X : VX} {B : VB} {z : (String ⊕ Unit)} {Gf : GH}  (hfx : (xl X).stackTraces = false) (hn : ∀ x ∈ (xc X).exceptionTable.toList, False) (hr : (xme X).sig.returnType = none) (hE : VE B (z, Gf))  (this : Nat) (p1 : Int32) (p2 : Int32) (G : GH) (hf : (f_X4_requirePlace this p1 p2).1 G = some (z, Gf)) : V X RX4 cX4_requirePlace 3 6 90 wsX4_requirePlace B (XQ X (xmap vV z) Gf B) G 0 [(0, .ref this), (1, .int p1), (2, .int p2)] [] := by
  unfold f_X4_requirePlace at hf
  refine v_aload_n 0 dX4_requirePlace_0 rfl rfl ?_
  refine v_gr 4 3 n_X4_requirePlace_X4 rfl (by decide) rfl m_X4_requirePlace_f30 dX4_requirePlace_1 hf (fun r1 hf => ?_)
  refine v_iload_n 1 dX4_requirePlace_4 rfl rfl ?_
  refine v_iload_n 2 dX4_requirePlace_5 rfl rfl ?_
  refine v_callVi 1 2 [.int p1, .int p2] (c_X1_hasPlace (xl X) hfx r1 p1 p2) gX4_requirePlace_X1_hasPlace rfl dv_X1_hasPlace (by decide) (by decide) rfl rfl dX4_requirePlace_6 (Nat.le_of_ble_eq_true rfl) rfl hE hf (fun x2 G hf => ?_)
  refine v_if_ne 22 dX4_requirePlace_9 (by decide) hf (fun _ hf => ?_) (fun _ hf => ?_)
  · exact v_xvret hr dX4_requirePlace_22 hE hf
  · exact v_throw (is := 203) (ic := 199) (text := "no such version or place") (names := ["java/lang/RuntimeException", "java/lang/Exception"]) rfl hn m_X4_requirePlace_c195 m_X4_requirePlace_i195 at_X4_requirePlace_199 (by decide +kernel) (by decide +kernel) (by decide +kernel) (by decide +kernel) (by decide +kernel) dX4_requirePlace_12 dX4_requirePlace_15 dX4_requirePlace_16 dX4_requirePlace_18 dX4_requirePlace_21 (by decide) (by decide) hE hf
theorem c_X4_requirePlace (l : Launch) (hfl : l.stackTraces = false) (this : Nat) (p1 : Int32) (p2 : Int32) : CX l yX4_requirePlace wsX4_requirePlace 6 90 [.ref this, .int p1, .int p2] vV (f_X4_requirePlace this p1 p2) := CX.start hfl RX4 rfl (by decide +kernel) rfl (Nat.le_of_ble_eq_true rfl) (fun X G z Gf hl hn hr hf => e_X4_requirePlace_0 (by rw [hl]; exact hfl) hn hr ⟨rfl, rfl⟩ this p1 p2 G hf)
theorem dv_X4_requirePlace : yX4_requirePlace.cls = RX4 ∧ yX4_requirePlace.cls ≠ "java/lang/invoke/MethodHandle" ∧ yX4_requirePlace.cls ≠ "java/lang/invoke/VarHandle" ∧ (parseMethodDescriptor yX4_requirePlace.desc).map (fun d => d.parameters.length) = some 2 := by decide +kernel
theorem m_X4_at_f30 : Cond.fieldLink RX4 30 RX4 "now" "LEndVersions$State;" ∈ wsX4_at := by decide +kernel
theorem n_X4_at_X4 : ∀ w ∈ u_ws RX4 TX4 5, w ∈ wsX4_at := by decide +kernel
set_option maxRecDepth 100000 in
set_option maxHeartbeats 4000000 in
theorem e_X4_at_0 {X : VX} {B : VB} {z : (String ⊕ Int32)} {Gf : GH}  (hfx : (xl X).stackTraces = false) (hn : ∀ x ∈ (xc X).exceptionTable.toList, False) (hr : (xme X).sig.returnType = (some .int)) (hE : VE B (z, Gf))  (this : Nat) (p1 : Int32) (p2 : Int32) (G : GH) (hf : (f_X4_at this p1 p2).1 G = some (z, Gf)) : V X RX4 cX4_at 3 7 112 wsX4_at B (XQ X (xmap vI z) Gf B) G 0 [(0, .ref this), (1, .int p1), (2, .int p2)] [] := by
  unfold f_X4_at at hf
  refine v_aload_n 0 dX4_at_0 rfl rfl ?_
  refine v_iload_n 1 dX4_at_1 rfl rfl ?_
  refine v_iload_n 2 dX4_at_2 rfl rfl ?_
  refine v_xcallVv hn 4 2 [.int p1, .int p2] (c_X4_requirePlace (xl X) hfx this p1 p2) gX4_at_X4_requirePlace rfl dv_X4_requirePlace (by decide) (by decide) rfl rfl dX4_at_3 (Nat.le_of_ble_eq_true rfl) rfl hE hf (fun _ G hf => ?_)
  refine v_aload_n 0 dX4_at_6 rfl rfl ?_
  refine v_gr 4 3 n_X4_at_X4 rfl (by decide) rfl m_X4_at_f30 dX4_at_7 hf (fun r1 hf => ?_)
  refine v_iload_n 1 dX4_at_10 rfl rfl ?_
  refine v_callVr 1 1 [.int p1] (c_X1_slot (xl X) hfx r1 p1) gX4_at_X1_slot rfl dv_X1_slot (by decide) (by decide) rfl rfl dX4_at_11 (Nat.le_of_ble_eq_true rfl) rfl hE hf (fun r2 G hf => ?_)
  refine v_iload_n 2 dX4_at_14 rfl rfl ?_
  refine v_callVi 3 1 [.int p2] (c_X3_look (xl X) hfx r2 p2) gX4_at_X3_look rfl dv_X3_look (by decide) (by decide) rfl rfl dX4_at_15 (Nat.le_of_ble_eq_true rfl) rfl hE hf (fun x3 G hf => ?_)
  exact v_xiret hr dX4_at_18 hE hf
theorem c_X4_at (l : Launch) (hfl : l.stackTraces = false) (this : Nat) (p1 : Int32) (p2 : Int32) : CX l yX4_at wsX4_at 7 112 [.ref this, .int p1, .int p2] vI (f_X4_at this p1 p2) := CX.start hfl RX4 rfl (by decide +kernel) rfl (Nat.le_of_ble_eq_true rfl) (fun X G z Gf hl hn hr hf => e_X4_at_0 (by rw [hl]; exact hfl) hn hr ⟨rfl, rfl⟩ this p1 p2 G hf)
theorem dv_X4_at : yX4_at.cls = RX4 ∧ yX4_at.cls ≠ "java/lang/invoke/MethodHandle" ∧ yX4_at.cls ≠ "java/lang/invoke/VarHandle" ∧ (parseMethodDescriptor yX4_at.desc).map (fun d => d.parameters.length) = some 2 := by decide +kernel
theorem m_X4_steps_f30 : Cond.fieldLink RX4 30 RX4 "now" "LEndVersions$State;" ∈ wsX4_steps := by decide +kernel
theorem m_X4_steps_f116 : Cond.fieldLink RX4 116 RX3 "front" "I" ∈ wsX4_steps := by decide +kernel
theorem n_X4_steps_X3 : ∀ w ∈ u_ws RX3 TX3 11, w ∈ wsX4_steps := by decide +kernel
theorem n_X4_steps_X4 : ∀ w ∈ u_ws RX4 TX4 5, w ∈ wsX4_steps := by decide +kernel
set_option maxRecDepth 100000 in
set_option maxHeartbeats 4000000 in
theorem e_X4_steps_0 {X : VX} {B : VB} {z : (String ⊕ Int32)} {Gf : GH}  (hfx : (xl X).stackTraces = false) (hn : ∀ x ∈ (xc X).exceptionTable.toList, False) (hr : (xme X).sig.returnType = (some .int)) (hE : VE B (z, Gf))  (this : Nat) (p1 : Int32) (p2 : Int32) (G : GH) (hf : (f_X4_steps this p1 p2).1 G = some (z, Gf)) : V X RX4 cX4_steps 4 7 112 wsX4_steps B (XQ X (xmap vI z) Gf B) G 0 [(0, .ref this), (1, .int p1), (2, .int p2)] [] := by
  unfold f_X4_steps at hf
  refine v_aload_n 0 dX4_steps_0 rfl rfl ?_
  refine v_iload_n 1 dX4_steps_1 rfl rfl ?_
  refine v_iload_n 2 dX4_steps_2 rfl rfl ?_
  refine v_xcallVv hn 4 2 [.int p1, .int p2] (c_X4_requirePlace (xl X) hfx this p1 p2) gX4_steps_X4_requirePlace rfl dv_X4_requirePlace (by decide) (by decide) rfl rfl dX4_steps_3 (Nat.le_of_ble_eq_true rfl) rfl hE hf (fun _ G hf => ?_)
  refine v_aload_n 0 dX4_steps_6 rfl rfl ?_
  refine v_gr 4 3 n_X4_steps_X4 rfl (by decide) rfl m_X4_steps_f30 dX4_steps_7 hf (fun r1 hf => ?_)
  refine v_iload_n 1 dX4_steps_10 rfl rfl ?_
  refine v_callVr 1 1 [.int p1] (c_X1_slot (xl X) hfx r1 p1) gX4_steps_X1_slot rfl dv_X1_slot (by decide) (by decide) rfl rfl dX4_steps_11 (Nat.le_of_ble_eq_true rfl) rfl hE hf (fun r2 G hf => ?_)
  refine v_astore_n [(3, .ref r2), (0, .ref this), (1, .int p1), (2, .int p2)] dX4_steps_14 rfl (by decide) rfl ?_
  refine v_iload_n 3 dX4_steps_15 rfl rfl ?_
  refine v_aload_n 0 dX4_steps_16 rfl rfl ?_
  refine v_gi 3 4 n_X4_steps_X3 rfl (by decide) rfl m_X4_steps_f116 dX4_steps_17 hf (fun x3 hf => ?_)
  refine v_icmp_ge 29 dX4_steps_20 (by decide) hf (fun _ hf => ?_) (fun _ hf => ?_)
  · refine v_aload_n 0 dX4_steps_29 rfl rfl ?_
    refine v_callVi 3 0 [] (c_X3_size (xl X) hfx r2) gX4_steps_X3_size rfl dv_X3_size (by decide) (by decide) rfl rfl dX4_steps_30 (Nat.le_of_ble_eq_true rfl) rfl hE hf (fun x4 G hf => ?_)
    refine v_iload_n 3 dX4_steps_33 rfl rfl ?_
    refine v_isub dX4_steps_34 ?_
    exact v_xiret hr dX4_steps_35 hE hf
  · refine v_iload_n 3 dX4_steps_23 rfl rfl ?_
    refine v_iconst 1 dX4_steps_24 (by decide) ?_
    refine v_iadd dX4_steps_25 ?_
    refine v_goto 35 dX4_steps_26 (by decide) ?_
    exact v_xiret hr dX4_steps_35 hE hf
theorem c_X4_steps (l : Launch) (hfl : l.stackTraces = false) (this : Nat) (p1 : Int32) (p2 : Int32) : CX l yX4_steps wsX4_steps 7 112 [.ref this, .int p1, .int p2] vI (f_X4_steps this p1 p2) := CX.start hfl RX4 rfl (by decide +kernel) rfl (Nat.le_of_ble_eq_true rfl) (fun X G z Gf hl hn hr hf => e_X4_steps_0 (by rw [hl]; exact hfl) hn hr ⟨rfl, rfl⟩ this p1 p2 G hf)
theorem dv_X4_steps : yX4_steps.cls = RX4 ∧ yX4_steps.cls ≠ "java/lang/invoke/MethodHandle" ∧ yX4_steps.cls ≠ "java/lang/invoke/VarHandle" ∧ (parseMethodDescriptor yX4_steps.desc).map (fun d => d.parameters.length) = some 2 := by decide +kernel
theorem m_X4_count_c42 : Cond.classLink RX4 42 "java/lang/IllegalArgumentException" ∈ wsX4_count := by decide +kernel
theorem m_X4_count_i42 : Cond.initialized "java/lang/IllegalArgumentException" ∈ wsX4_count := by decide +kernel
theorem at_X4_count_46 : ∀ w ∈ (vx_atS RX4 46 "java/lang/IllegalArgumentException" ["java/lang/RuntimeException", "java/lang/Exception"]).filter goodWord, w ∈ wsX4_count := by decide +kernel
theorem m_X4_count_f30 : Cond.fieldLink RX4 30 RX4 "now" "LEndVersions$State;" ∈ wsX4_count := by decide +kernel
theorem n_X4_count_X4 : ∀ w ∈ u_ws RX4 TX4 5, w ∈ wsX4_count := by decide +kernel
set_option maxRecDepth 100000 in
set_option maxHeartbeats 4000000 in
theorem e_X4_count_0 {X : VX} {B : VB} {z : (String ⊕ Int32)} {Gf : GH}  (hfx : (xl X).stackTraces = false) (hn : ∀ x ∈ (xc X).exceptionTable.toList, False) (hr : (xme X).sig.returnType = (some .int)) (hE : VE B (z, Gf))  (this : Nat) (p1 : Int32) (G : GH) (hf : (f_X4_count this p1).1 G = some (z, Gf)) : V X RX4 cX4_count 2 6 98 wsX4_count B (XQ X (xmap vI z) Gf B) G 0 [(0, .ref this), (1, .int p1)] [] := by
  unfold f_X4_count at hf
  refine v_iload_n 1 dX4_count_0 rfl rfl ?_
  refine v_if_lt 10 dX4_count_1 (by decide) hf (fun _ hf => ?_) (fun _ hf => ?_)
  · exact v_throw (is := 119) (ic := 46) (text := "no such number") (names := ["java/lang/RuntimeException", "java/lang/Exception"]) rfl hn m_X4_count_c42 m_X4_count_i42 at_X4_count_46 (by decide +kernel) (by decide +kernel) (by decide +kernel) (by decide +kernel) (by decide +kernel) dX4_count_10 dX4_count_13 dX4_count_14 dX4_count_16 dX4_count_19 (by decide) (by decide) hE hf
  · refine v_iload_n 1 dX4_count_4 rfl rfl ?_
    refine v_bipush 8 dX4_count_5 (by decide) ?_
    refine v_icmp_lt 20 dX4_count_7 (by decide) hf (fun _ hf => ?_) (fun _ hf => ?_)
    · refine v_aload_n 0 dX4_count_20 rfl rfl ?_
      refine v_gr 4 3 n_X4_count_X4 rfl (by decide) rfl m_X4_count_f30 dX4_count_21 hf (fun r1 hf => ?_)
      refine v_iload_n 1 dX4_count_24 rfl rfl ?_
      refine v_callVi 1 1 [.int p1] (c_X1_total (xl X) hfx r1 p1) gX4_count_X1_total rfl dv_X1_total (by decide) (by decide) rfl rfl dX4_count_25 (Nat.le_of_ble_eq_true rfl) rfl hE hf (fun x2 G hf => ?_)
      exact v_xiret hr dX4_count_28 hE hf
    · exact v_throw (is := 119) (ic := 46) (text := "no such number") (names := ["java/lang/RuntimeException", "java/lang/Exception"]) rfl hn m_X4_count_c42 m_X4_count_i42 at_X4_count_46 (by decide +kernel) (by decide +kernel) (by decide +kernel) (by decide +kernel) (by decide +kernel) dX4_count_10 dX4_count_13 dX4_count_14 dX4_count_16 dX4_count_19 (by decide) (by decide) hE hf
theorem c_X4_count (l : Launch) (hfl : l.stackTraces = false) (this : Nat) (p1 : Int32) : CX l yX4_count wsX4_count 6 98 [.ref this, .int p1] vI (f_X4_count this p1) := CX.start hfl RX4 rfl (by decide +kernel) rfl (Nat.le_of_ble_eq_true rfl) (fun X G z Gf hl hn hr hf => e_X4_count_0 (by rw [hl]; exact hfl) hn hr ⟨rfl, rfl⟩ this p1 G hf)
theorem dv_X4_count : yX4_count.cls = RX4 ∧ yX4_count.cls ≠ "java/lang/invoke/MethodHandle" ∧ yX4_count.cls ≠ "java/lang/invoke/VarHandle" ∧ (parseMethodDescriptor yX4_count.desc).map (fun d => d.parameters.length) = some 1 := by decide +kernel
theorem m_X4_setting_f30 : Cond.fieldLink RX4 30 RX4 "now" "LEndVersions$State;" ∈ wsX4_setting := by decide +kernel
theorem n_X4_setting_X4 : ∀ w ∈ u_ws RX4 TX4 5, w ∈ wsX4_setting := by decide +kernel
theorem m_X4_setting_c42 : Cond.classLink RX4 42 "java/lang/IllegalArgumentException" ∈ wsX4_setting := by decide +kernel
theorem m_X4_setting_i42 : Cond.initialized "java/lang/IllegalArgumentException" ∈ wsX4_setting := by decide +kernel
theorem at_X4_setting_46 : ∀ w ∈ (vx_atS RX4 46 "java/lang/IllegalArgumentException" ["java/lang/RuntimeException", "java/lang/Exception"]).filter goodWord, w ∈ wsX4_setting := by decide +kernel
set_option maxRecDepth 100000 in
set_option maxHeartbeats 4000000 in
theorem e_X4_setting_0 {X : VX} {B : VB} {z : (String ⊕ Int32)} {Gf : GH}  (hfx : (xl X).stackTraces = false) (hn : ∀ x ∈ (xc X).exceptionTable.toList, False) (hr : (xme X).sig.returnType = (some .int)) (hE : VE B (z, Gf))  (this : Nat) (p1 : Int32) (G : GH) (hf : (f_X4_setting this p1).1 G = some (z, Gf)) : V X RX4 cX4_setting 2 6 90 wsX4_setting B (XQ X (xmap vI z) Gf B) G 0 [(0, .ref this), (1, .int p1)] [] := by
  unfold f_X4_setting at hf
  refine v_iload_n 1 dX4_setting_0 rfl rfl ?_
  refine v_if_eq 19 dX4_setting_1 (by decide) hf (fun _ hf => ?_) (fun _ hf => ?_)
  · refine v_aload_n 0 dX4_setting_19 rfl rfl ?_
    refine v_gr 4 3 n_X4_setting_X4 rfl (by decide) rfl m_X4_setting_f30 dX4_setting_20 hf (fun r1 hf => ?_)
    refine v_iload_n 1 dX4_setting_23 rfl rfl ?_
    refine v_callVi 1 1 [.int p1] (c_X1_settingOf (xl X) hfx r1 p1) gX4_setting_X1_settingOf rfl dv_X1_settingOf (by decide) (by decide) rfl rfl dX4_setting_24 (Nat.le_of_ble_eq_true rfl) rfl hE hf (fun x2 G hf => ?_)
    exact v_xiret hr dX4_setting_27 hE hf
  · refine v_iload_n 1 dX4_setting_4 rfl rfl ?_
    refine v_iconst 1 dX4_setting_5 (by decide) ?_
    refine v_icmp_eq 19 dX4_setting_6 (by decide) hf (fun _ hf => ?_) (fun _ hf => ?_)
    · refine v_aload_n 0 dX4_setting_19 rfl rfl ?_
      refine v_gr 4 3 n_X4_setting_X4 rfl (by decide) rfl m_X4_setting_f30 dX4_setting_20 hf (fun r3 hf => ?_)
      refine v_iload_n 1 dX4_setting_23 rfl rfl ?_
      refine v_callVi 1 1 [.int p1] (c_X1_settingOf (xl X) hfx r3 p1) gX4_setting_X1_settingOf rfl dv_X1_settingOf (by decide) (by decide) rfl rfl dX4_setting_24 (Nat.le_of_ble_eq_true rfl) rfl hE hf (fun x4 G hf => ?_)
      exact v_xiret hr dX4_setting_27 hE hf
    · exact v_throw (is := 124) (ic := 46) (text := "no such setting") (names := ["java/lang/RuntimeException", "java/lang/Exception"]) rfl hn m_X4_setting_c42 m_X4_setting_i42 at_X4_setting_46 (by decide +kernel) (by decide +kernel) (by decide +kernel) (by decide +kernel) (by decide +kernel) dX4_setting_9 dX4_setting_12 dX4_setting_13 dX4_setting_15 dX4_setting_18 (by decide) (by decide) hE hf
theorem c_X4_setting (l : Launch) (hfl : l.stackTraces = false) (this : Nat) (p1 : Int32) : CX l yX4_setting wsX4_setting 6 90 [.ref this, .int p1] vI (f_X4_setting this p1) := CX.start hfl RX4 rfl (by decide +kernel) rfl (Nat.le_of_ble_eq_true rfl) (fun X G z Gf hl hn hr hf => e_X4_setting_0 (by rw [hl]; exact hfl) hn hr ⟨rfl, rfl⟩ this p1 G hf)
theorem dv_X4_setting : yX4_setting.cls = RX4 ∧ yX4_setting.cls ≠ "java/lang/invoke/MethodHandle" ∧ yX4_setting.cls ≠ "java/lang/invoke/VarHandle" ∧ (parseMethodDescriptor yX4_setting.desc).map (fun d => d.parameters.length) = some 1 := by decide +kernel
theorem m_X4_common_f30 : Cond.fieldLink RX4 30 RX4 "now" "LEndVersions$State;" ∈ wsX4_common := by decide +kernel
theorem n_X4_common_X4 : ∀ w ∈ u_ws RX4 TX4 5, w ∈ wsX4_common := by decide +kernel
set_option maxRecDepth 100000 in
set_option maxHeartbeats 4000000 in
theorem e_X4_common_0 {X : VX} {B : VB} {z : (String ⊕ Int32)} {Gf : GH}  (hfx : (xl X).stackTraces = false) (hn : ∀ x ∈ (xc X).exceptionTable.toList, False) (hr : (xme X).sig.returnType = (some .int)) (hE : VE B (z, Gf))  (this : Nat) (p1 : Int32) (p2 : Int32) (G : GH) (hf : (f_X4_common this p1 p2).1 G = some (z, Gf)) : V X RX4 cX4_common 3 7 111 wsX4_common B (XQ X (xmap vI z) Gf B) G 0 [(0, .ref this), (1, .int p1), (2, .int p2)] [] := by
  unfold f_X4_common at hf
  refine v_aload_n 0 dX4_common_0 rfl rfl ?_
  refine v_iload_n 1 dX4_common_1 rfl rfl ?_
  refine v_xcallVv hn 4 1 [.int p1] (c_X4_requireVersion (xl X) hfx this p1) gX4_common_X4_requireVersion rfl dv_X4_requireVersion (by decide) (by decide) rfl rfl dX4_common_2 (Nat.le_of_ble_eq_true rfl) rfl hE hf (fun _ G hf => ?_)
  refine v_aload_n 0 dX4_common_5 rfl rfl ?_
  refine v_iload_n 2 dX4_common_6 rfl rfl ?_
  refine v_xcallVv hn 4 1 [.int p2] (c_X4_requireVersion (xl X) hfx this p2) gX4_common_X4_requireVersion rfl dv_X4_requireVersion (by decide) (by decide) rfl rfl dX4_common_7 (Nat.le_of_ble_eq_true rfl) rfl hE hf (fun _ G hf => ?_)
  refine v_aload_n 0 dX4_common_10 rfl rfl ?_
  refine v_gr 4 3 n_X4_common_X4 rfl (by decide) rfl m_X4_common_f30 dX4_common_11 hf (fun r1 hf => ?_)
  refine v_iload_n 1 dX4_common_14 rfl rfl ?_
  refine v_iload_n 2 dX4_common_15 rfl rfl ?_
  refine v_callVi 1 2 [.int p1, .int p2] (c_X1_meeting (xl X) hfx r1 p1 p2) gX4_common_X1_meeting rfl dv_X1_meeting (by decide) (by decide) rfl rfl dX4_common_16 (Nat.le_of_ble_eq_true rfl) rfl hE hf (fun x2 G hf => ?_)
  exact v_xiret hr dX4_common_19 hE hf
theorem c_X4_common (l : Launch) (hfl : l.stackTraces = false) (this : Nat) (p1 : Int32) (p2 : Int32) : CX l yX4_common wsX4_common 7 111 [.ref this, .int p1, .int p2] vI (f_X4_common this p1 p2) := CX.start hfl RX4 rfl (by decide +kernel) rfl (Nat.le_of_ble_eq_true rfl) (fun X G z Gf hl hn hr hf => e_X4_common_0 (by rw [hl]; exact hfl) hn hr ⟨rfl, rfl⟩ this p1 p2 G hf)
theorem dv_X4_common : yX4_common.cls = RX4 ∧ yX4_common.cls ≠ "java/lang/invoke/MethodHandle" ∧ yX4_common.cls ≠ "java/lang/invoke/VarHandle" ∧ (parseMethodDescriptor yX4_common.desc).map (fun d => d.parameters.length) = some 2 := by decide +kernel
theorem m_X4_same_f30 : Cond.fieldLink RX4 30 RX4 "now" "LEndVersions$State;" ∈ wsX4_same := by decide +kernel
theorem n_X4_same_X4 : ∀ w ∈ u_ws RX4 TX4 5, w ∈ wsX4_same := by decide +kernel
set_option maxRecDepth 100000 in
set_option maxHeartbeats 4000000 in
theorem e_X4_same_0 {X : VX} {B : VB} {z : (String ⊕ Int32)} {Gf : GH}  (hfx : (xl X).stackTraces = false) (hn : ∀ x ∈ (xc X).exceptionTable.toList, False) (hr : (xme X).sig.returnType = (some .boolean)) (hE : VE B (z, Gf))  (this : Nat) (p1 : Int32) (p2 : Int32) (G : GH) (hf : (f_X4_same this p1 p2).1 G = some (z, Gf)) : V X RX4 cX4_same 3 7 111 wsX4_same B (XQ X (xmap vI z) Gf B) G 0 [(0, .ref this), (1, .int p1), (2, .int p2)] [] := by
  unfold f_X4_same at hf
  refine v_aload_n 0 dX4_same_0 rfl rfl ?_
  refine v_iload_n 1 dX4_same_1 rfl rfl ?_
  refine v_xcallVv hn 4 1 [.int p1] (c_X4_requireVersion (xl X) hfx this p1) gX4_same_X4_requireVersion rfl dv_X4_requireVersion (by decide) (by decide) rfl rfl dX4_same_2 (Nat.le_of_ble_eq_true rfl) rfl hE hf (fun _ G hf => ?_)
  refine v_aload_n 0 dX4_same_5 rfl rfl ?_
  refine v_iload_n 2 dX4_same_6 rfl rfl ?_
  refine v_xcallVv hn 4 1 [.int p2] (c_X4_requireVersion (xl X) hfx this p2) gX4_same_X4_requireVersion rfl dv_X4_requireVersion (by decide) (by decide) rfl rfl dX4_same_7 (Nat.le_of_ble_eq_true rfl) rfl hE hf (fun _ G hf => ?_)
  refine v_aload_n 0 dX4_same_10 rfl rfl ?_
  refine v_gr 4 3 n_X4_same_X4 rfl (by decide) rfl m_X4_same_f30 dX4_same_11 hf (fun r1 hf => ?_)
  refine v_iload_n 1 dX4_same_14 rfl rfl ?_
  refine v_callVr 1 1 [.int p1] (c_X1_slot (xl X) hfx r1 p1) gX4_same_X1_slot rfl dv_X1_slot (by decide) (by decide) rfl rfl dX4_same_15 (Nat.le_of_ble_eq_true rfl) rfl hE hf (fun r2 G hf => ?_)
  refine v_aload_n 0 dX4_same_18 rfl rfl ?_
  refine v_gr 4 3 n_X4_same_X4 rfl (by decide) rfl m_X4_same_f30 dX4_same_19 hf (fun r3 hf => ?_)
  refine v_iload_n 2 dX4_same_22 rfl rfl ?_
  refine v_callVr 1 1 [.int p2] (c_X1_slot (xl X) hfx r3 p2) gX4_same_X1_slot rfl dv_X1_slot (by decide) (by decide) rfl rfl dX4_same_23 (Nat.le_of_ble_eq_true rfl) rfl hE hf (fun r4 G hf => ?_)
  refine v_callVi 3 1 [.ref r4] (c_X3_hasRowOf (xl X) hfx r2 r4) gX4_same_X3_hasRowOf rfl dv_X3_hasRowOf (by decide) (by decide) rfl rfl dX4_same_26 (Nat.le_of_ble_eq_true rfl) rfl hE hf (fun x5 G hf => ?_)
  exact v_xzret hr dX4_same_29 hE hf
theorem c_X4_same (l : Launch) (hfl : l.stackTraces = false) (this : Nat) (p1 : Int32) (p2 : Int32) : CX l yX4_same wsX4_same 7 111 [.ref this, .int p1, .int p2] vI (f_X4_same this p1 p2) := CX.start hfl RX4 rfl (by decide +kernel) rfl (Nat.le_of_ble_eq_true rfl) (fun X G z Gf hl hn hr hf => e_X4_same_0 (by rw [hl]; exact hfl) hn hr ⟨rfl, rfl⟩ this p1 p2 G hf)
theorem dv_X4_same : yX4_same.cls = RX4 ∧ yX4_same.cls ≠ "java/lang/invoke/MethodHandle" ∧ yX4_same.cls ≠ "java/lang/invoke/VarHandle" ∧ (parseMethodDescriptor yX4_same.desc).map (fun d => d.parameters.length) = some 2 := by decide +kernel
theorem m_X4_firstLike_f30 : Cond.fieldLink RX4 30 RX4 "now" "LEndVersions$State;" ∈ wsX4_firstLike := by decide +kernel
theorem n_X4_firstLike_X4 : ∀ w ∈ u_ws RX4 TX4 5, w ∈ wsX4_firstLike := by decide +kernel
set_option maxRecDepth 100000 in
set_option maxHeartbeats 4000000 in
theorem e_X4_firstLike_0 {X : VX} {B : VB} {z : (String ⊕ Int32)} {Gf : GH}  (hfx : (xl X).stackTraces = false) (hn : ∀ x ∈ (xc X).exceptionTable.toList, False) (hr : (xme X).sig.returnType = (some .int)) (hE : VE B (z, Gf))  (this : Nat) (p1 : Int32) (G : GH) (hf : (f_X4_firstLike this p1).1 G = some (z, Gf)) : V X RX4 cX4_firstLike 2 7 111 wsX4_firstLike B (XQ X (xmap vI z) Gf B) G 0 [(0, .ref this), (1, .int p1)] [] := by
  unfold f_X4_firstLike at hf
  refine v_aload_n 0 dX4_firstLike_0 rfl rfl ?_
  refine v_iload_n 1 dX4_firstLike_1 rfl rfl ?_
  refine v_xcallVv hn 4 1 [.int p1] (c_X4_requireVersion (xl X) hfx this p1) gX4_firstLike_X4_requireVersion rfl dv_X4_requireVersion (by decide) (by decide) rfl rfl dX4_firstLike_2 (Nat.le_of_ble_eq_true rfl) rfl hE hf (fun _ G hf => ?_)
  refine v_aload_n 0 dX4_firstLike_5 rfl rfl ?_
  refine v_gr 4 3 n_X4_firstLike_X4 rfl (by decide) rfl m_X4_firstLike_f30 dX4_firstLike_6 hf (fun r1 hf => ?_)
  refine v_iload_n 1 dX4_firstLike_9 rfl rfl ?_
  refine v_callVi 1 1 [.int p1] (c_X1_firstWithRowOf (xl X) hfx r1 p1) gX4_firstLike_X1_firstWithRowOf rfl dv_X1_firstWithRowOf (by decide) (by decide) rfl rfl dX4_firstLike_10 (Nat.le_of_ble_eq_true rfl) rfl hE hf (fun x2 G hf => ?_)
  exact v_xiret hr dX4_firstLike_13 hE hf
theorem c_X4_firstLike (l : Launch) (hfl : l.stackTraces = false) (this : Nat) (p1 : Int32) : CX l yX4_firstLike wsX4_firstLike 7 111 [.ref this, .int p1] vI (f_X4_firstLike this p1) := CX.start hfl RX4 rfl (by decide +kernel) rfl (Nat.le_of_ble_eq_true rfl) (fun X G z Gf hl hn hr hf => e_X4_firstLike_0 (by rw [hl]; exact hfl) hn hr ⟨rfl, rfl⟩ this p1 G hf)
theorem dv_X4_firstLike : yX4_firstLike.cls = RX4 ∧ yX4_firstLike.cls ≠ "java/lang/invoke/MethodHandle" ∧ yX4_firstLike.cls ≠ "java/lang/invoke/VarHandle" ∧ (parseMethodDescriptor yX4_firstLike.desc).map (fun d => d.parameters.length) = some 1 := by decide +kernel
theorem m_X4_worst_f30 : Cond.fieldLink RX4 30 RX4 "now" "LEndVersions$State;" ∈ wsX4_worst := by decide +kernel
theorem n_X4_worst_X4 : ∀ w ∈ u_ws RX4 TX4 5, w ∈ wsX4_worst := by decide +kernel
set_option maxRecDepth 100000 in
set_option maxHeartbeats 4000000 in
theorem e_X4_worst_0 {X : VX} {B : VB} {z : (String ⊕ Int32)} {Gf : GH}  (hfx : (xl X).stackTraces = false) (hn : ∀ x ∈ (xc X).exceptionTable.toList, False) (hr : (xme X).sig.returnType = (some .int)) (hE : VE B (z, Gf))  (this : Nat) (p1 : Int32) (G : GH) (hf : (f_X4_worst this p1).1 G = some (z, Gf)) : V X RX4 cX4_worst 2 7 111 wsX4_worst B (XQ X (xmap vI z) Gf B) G 0 [(0, .ref this), (1, .int p1)] [] := by
  unfold f_X4_worst at hf
  refine v_aload_n 0 dX4_worst_0 rfl rfl ?_
  refine v_iload_n 1 dX4_worst_1 rfl rfl ?_
  refine v_xcallVv hn 4 1 [.int p1] (c_X4_requireVersion (xl X) hfx this p1) gX4_worst_X4_requireVersion rfl dv_X4_requireVersion (by decide) (by decide) rfl rfl dX4_worst_2 (Nat.le_of_ble_eq_true rfl) rfl hE hf (fun _ G hf => ?_)
  refine v_aload_n 0 dX4_worst_5 rfl rfl ?_
  refine v_gr 4 3 n_X4_worst_X4 rfl (by decide) rfl m_X4_worst_f30 dX4_worst_6 hf (fun r1 hf => ?_)
  refine v_iload_n 1 dX4_worst_9 rfl rfl ?_
  refine v_callVi 1 1 [.int p1] (c_X1_greatestCostOnWay (xl X) hfx r1 p1) gX4_worst_X1_greatestCostOnWay rfl dv_X1_greatestCostOnWay (by decide) (by decide) rfl rfl dX4_worst_10 (Nat.le_of_ble_eq_true rfl) rfl hE hf (fun x2 G hf => ?_)
  exact v_xiret hr dX4_worst_13 hE hf
theorem c_X4_worst (l : Launch) (hfl : l.stackTraces = false) (this : Nat) (p1 : Int32) : CX l yX4_worst wsX4_worst 7 111 [.ref this, .int p1] vI (f_X4_worst this p1) := CX.start hfl RX4 rfl (by decide +kernel) rfl (Nat.le_of_ble_eq_true rfl) (fun X G z Gf hl hn hr hf => e_X4_worst_0 (by rw [hl]; exact hfl) hn hr ⟨rfl, rfl⟩ this p1 G hf)
theorem dv_X4_worst : yX4_worst.cls = RX4 ∧ yX4_worst.cls ≠ "java/lang/invoke/MethodHandle" ∧ yX4_worst.cls ≠ "java/lang/invoke/VarHandle" ∧ (parseMethodDescriptor yX4_worst.desc).map (fun d => d.parameters.length) = some 1 := by decide +kernel
theorem m_X4_mean_f30 : Cond.fieldLink RX4 30 RX4 "now" "LEndVersions$State;" ∈ wsX4_mean := by decide +kernel
theorem m_X4_mean_f140 : Cond.fieldLink RX4 140 RX3 "depth" "I" ∈ wsX4_mean := by decide +kernel
theorem n_X4_mean_X4 : ∀ w ∈ u_ws RX4 TX4 5, w ∈ wsX4_mean := by decide +kernel
theorem n_X4_mean_X3 : ∀ w ∈ u_ws RX3 TX3 11, w ∈ wsX4_mean := by decide +kernel
set_option maxRecDepth 100000 in
set_option maxHeartbeats 4000000 in
theorem e_X4_mean_0 {X : VX} {B : VB} {z : (String ⊕ UInt64)} {Gf : GH}  (hfx : (xl X).stackTraces = false) (hn : ∀ x ∈ (xc X).exceptionTable.toList, False) (hr : (xme X).sig.returnType = (some .double)) (hE : VE B (z, Gf))  (this : Nat) (p1 : Int32) (G : GH) (hf : (f_X4_mean this p1).1 G = some (z, Gf)) : V X RX4 cX4_mean 3 7 111 wsX4_mean B (XQ X (xmap vD z) Gf B) G 0 [(0, .ref this), (1, .int p1)] [] := by
  unfold f_X4_mean at hf
  refine v_aload_n 0 dX4_mean_0 rfl rfl ?_
  refine v_iload_n 1 dX4_mean_1 rfl rfl ?_
  refine v_xcallVv hn 4 1 [.int p1] (c_X4_requireVersion (xl X) hfx this p1) gX4_mean_X4_requireVersion rfl dv_X4_requireVersion (by decide) (by decide) rfl rfl dX4_mean_2 (Nat.le_of_ble_eq_true rfl) rfl hE hf (fun _ G hf => ?_)
  refine v_aload_n 0 dX4_mean_5 rfl rfl ?_
  refine v_gr 4 3 n_X4_mean_X4 rfl (by decide) rfl m_X4_mean_f30 dX4_mean_6 hf (fun r1 hf => ?_)
  refine v_iload_n 1 dX4_mean_9 rfl rfl ?_
  refine v_callVr 1 1 [.int p1] (c_X1_slot (xl X) hfx r1 p1) gX4_mean_X1_slot rfl dv_X1_slot (by decide) (by decide) rfl rfl dX4_mean_10 (Nat.le_of_ble_eq_true rfl) rfl hE hf (fun r2 G hf => ?_)
  refine v_gi 3 3 n_X4_mean_X3 rfl (by decide) rfl m_X4_mean_f140 dX4_mean_13 hf (fun x3 hf => ?_)
  refine v_istore_n [(2, .int x3), (0, .ref this), (1, .int p1)] dX4_mean_16 rfl (by decide) rfl ?_
  refine v_iload_n 0 dX4_mean_17 rfl rfl ?_
  refine v_if_gt 23 dX4_mean_18 (by decide) hf (fun _ hf => ?_) (fun _ hf => ?_)
  · refine v_aload_n 1 dX4_mean_23 rfl rfl ?_
    refine v_gr 4 3 n_X4_mean_X4 rfl (by decide) rfl m_X4_mean_f30 dX4_mean_24 hf (fun r4 hf => ?_)
    refine v_iload_n 2 dX4_mean_27 rfl rfl ?_
    refine v_callVi 1 1 [.int p1] (c_X1_sumOfCostsOnWay (xl X) hfx r4 p1) gX4_mean_X1_sumOfCostsOnWay rfl dv_X1_sumOfCostsOnWay (by decide) (by decide) rfl rfl dX4_mean_28 (Nat.le_of_ble_eq_true rfl) rfl hE hf (fun x5 G hf => ?_)
    refine v_i2d dX4_mean_31 ?_
    refine v_iload_n 0 dX4_mean_32 rfl rfl ?_
    refine v_i2d dX4_mean_33 ?_
    refine v_ddiv dX4_mean_34 hf (fun d6 hf => ?_)
    exact v_xdret hr dX4_mean_35 hE hf
  · refine v_dconst0 dX4_mean_21 ?_
    exact v_xdret hr dX4_mean_22 hE hf
theorem c_X4_mean (l : Launch) (hfl : l.stackTraces = false) (this : Nat) (p1 : Int32) : CX l yX4_mean wsX4_mean 7 111 [.ref this, .int p1] vD (f_X4_mean this p1) := CX.start hfl RX4 rfl (by decide +kernel) rfl (Nat.le_of_ble_eq_true rfl) (fun X G z Gf hl hn hr hf => e_X4_mean_0 (by rw [hl]; exact hfl) hn hr ⟨rfl, rfl⟩ this p1 G hf)
theorem dv_X4_mean : yX4_mean.cls = RX4 ∧ yX4_mean.cls ≠ "java/lang/invoke/MethodHandle" ∧ yX4_mean.cls ≠ "java/lang/invoke/VarHandle" ∧ (parseMethodDescriptor yX4_mean.desc).map (fun d => d.parameters.length) = some 1 := by decide +kernel
theorem m_X4_append_c42 : Cond.classLink RX4 42 "java/lang/IllegalArgumentException" ∈ wsX4_append := by decide +kernel
theorem m_X4_append_i42 : Cond.initialized "java/lang/IllegalArgumentException" ∈ wsX4_append := by decide +kernel
theorem at_X4_append_46 : ∀ w ∈ (vx_atS RX4 46 "java/lang/IllegalArgumentException" ["java/lang/RuntimeException", "java/lang/Exception"]).filter goodWord, w ∈ wsX4_append := by decide +kernel
theorem m_X4_append_f12 : Cond.fieldLink RX4 12 RX4 "script" "LEndVersions$Script;" ∈ wsX4_append := by decide +kernel
theorem m_X4_append_f148 : Cond.fieldLink RX4 148 RX0 "length" "I" ∈ wsX4_append := by decide +kernel
theorem n_X4_append_X0 : ∀ w ∈ u_ws RX0 TX0 8, w ∈ wsX4_append := by decide +kernel
theorem n_X4_append_X4 : ∀ w ∈ u_ws RX4 TX4 5, w ∈ wsX4_append := by decide +kernel
theorem m_X4_append_c69 : Cond.classLink RX4 69 "java/lang/IllegalStateException" ∈ wsX4_append := by decide +kernel
theorem m_X4_append_i69 : Cond.initialized "java/lang/IllegalStateException" ∈ wsX4_append := by decide +kernel
theorem at_X4_append_73 : ∀ w ∈ (vx_atS RX4 73 "java/lang/IllegalStateException" ["java/lang/RuntimeException", "java/lang/Exception"]).filter goodWord, w ∈ wsX4_append := by decide +kernel
set_option maxRecDepth 100000 in
set_option maxHeartbeats 4000000 in
theorem e_X4_append_0 {X : VX} {B : VB} {z : (String ⊕ Int32)} {Gf : GH}  (hfx : (xl X).stackTraces = false) (hn : ∀ x ∈ (xc X).exceptionTable.toList, False) (hr : (xme X).sig.returnType = (some .int)) (hE : VE B (z, Gf))  (this : Nat) (p1 : Int32) (G : GH) (hf : (f_X4_append this p1).1 G = some (z, Gf)) : V X RX4 cX4_append 2 6 90 wsX4_append B (XQ X (xmap vI z) Gf B) G 0 [(0, .ref this), (1, .int p1)] [] := by
  unfold f_X4_append at hf
  refine v_iload_n 1 dX4_append_0 rfl rfl ?_
  refine v_if_lt 10 dX4_append_1 (by decide) hf (fun _ hf => ?_) (fun _ hf => ?_)
  · exact v_throw (is := 146) (ic := 46) (text := "byte out of range") (names := ["java/lang/RuntimeException", "java/lang/Exception"]) rfl hn m_X4_append_c42 m_X4_append_i42 at_X4_append_46 (by decide +kernel) (by decide +kernel) (by decide +kernel) (by decide +kernel) (by decide +kernel) dX4_append_10 dX4_append_13 dX4_append_14 dX4_append_16 dX4_append_19 (by decide) (by decide) hE hf
  · refine v_iload_n 1 dX4_append_4 rfl rfl ?_
    refine v_bipush 127 dX4_append_5 (by decide) ?_
    refine v_icmp_le 20 dX4_append_7 (by decide) hf (fun _ hf => ?_) (fun _ hf => ?_)
    · refine v_aload_n 0 dX4_append_20 rfl rfl ?_
      refine v_gr 4 0 n_X4_append_X4 rfl (by decide) rfl m_X4_append_f12 dX4_append_21 hf (fun r1 hf => ?_)
      refine v_gi 0 0 n_X4_append_X0 rfl (by decide) rfl m_X4_append_f148 dX4_append_24 hf (fun x2 hf => ?_)
      refine v_bipush 100 dX4_append_27 (by decide) ?_
      refine v_icmp_lt 42 dX4_append_29 (by decide) hf (fun _ hf => ?_) (fun _ hf => ?_)
      · refine v_aload_n 0 dX4_append_42 rfl rfl ?_
        refine v_gr 4 0 n_X4_append_X4 rfl (by decide) rfl m_X4_append_f12 dX4_append_43 hf (fun r3 hf => ?_)
        refine v_iload_n 1 dX4_append_46 rfl rfl ?_
        refine v_callVv 0 1 [.int p1] (c_X0_extend (xl X) hfx r3 p1) gX4_append_X0_extend rfl dv_X0_extend (by decide) (by decide) rfl rfl dX4_append_47 (Nat.le_of_ble_eq_true rfl) rfl hE hf (fun _ G hf => ?_)
        refine v_aload_n 0 dX4_append_50 rfl rfl ?_
        refine v_gr 4 0 n_X4_append_X4 rfl (by decide) rfl m_X4_append_f12 dX4_append_51 hf (fun r4 hf => ?_)
        refine v_gi 0 0 n_X4_append_X0 rfl (by decide) rfl m_X4_append_f148 dX4_append_54 hf (fun x5 hf => ?_)
        exact v_xiret hr dX4_append_57 hE hf
      · exact v_throw (is := 151) (ic := 73) (text := "the text is full") (names := ["java/lang/RuntimeException", "java/lang/Exception"]) rfl hn m_X4_append_c69 m_X4_append_i69 at_X4_append_73 (by decide +kernel) (by decide +kernel) (by decide +kernel) (by decide +kernel) (by decide +kernel) dX4_append_32 dX4_append_35 dX4_append_36 dX4_append_38 dX4_append_41 (by decide) (by decide) hE hf
    · exact v_throw (is := 146) (ic := 46) (text := "byte out of range") (names := ["java/lang/RuntimeException", "java/lang/Exception"]) rfl hn m_X4_append_c42 m_X4_append_i42 at_X4_append_46 (by decide +kernel) (by decide +kernel) (by decide +kernel) (by decide +kernel) (by decide +kernel) dX4_append_10 dX4_append_13 dX4_append_14 dX4_append_16 dX4_append_19 (by decide) (by decide) hE hf
theorem c_X4_append (l : Launch) (hfl : l.stackTraces = false) (this : Nat) (p1 : Int32) : CX l yX4_append wsX4_append 6 90 [.ref this, .int p1] vI (f_X4_append this p1) := CX.start hfl RX4 rfl (by decide +kernel) rfl (Nat.le_of_ble_eq_true rfl) (fun X G z Gf hl hn hr hf => e_X4_append_0 (by rw [hl]; exact hfl) hn hr ⟨rfl, rfl⟩ this p1 G hf)
theorem dv_X4_append : yX4_append.cls = RX4 ∧ yX4_append.cls ≠ "java/lang/invoke/MethodHandle" ∧ yX4_append.cls ≠ "java/lang/invoke/VarHandle" ∧ (parseMethodDescriptor yX4_append.desc).map (fun d => d.parameters.length) = some 1 := by decide +kernel
theorem m_X4_clearText_f12 : Cond.fieldLink RX4 12 RX4 "script" "LEndVersions$Script;" ∈ wsX4_clearText := by decide +kernel
theorem m_X4_clearText_f148 : Cond.fieldLink RX4 148 RX0 "length" "I" ∈ wsX4_clearText := by decide +kernel
theorem n_X4_clearText_X0 : ∀ w ∈ u_ws RX0 TX0 8, w ∈ wsX4_clearText := by decide +kernel
theorem n_X4_clearText_X4 : ∀ w ∈ u_ws RX4 TX4 5, w ∈ wsX4_clearText := by decide +kernel
set_option maxRecDepth 100000 in
set_option maxHeartbeats 4000000 in
theorem e_X4_clearText_0 {X : VX} {B : VB} {z : Int32} {Gf : GH}  (hfx : (xl X).stackTraces = false) (hn : (xme X).name = "clearText") (hr : (xme X).sig.returnType = (some .int)) (hE : VE B (z, Gf))  (this : Nat) (G : GH) (hf : (f_X4_clearText this).1 G = some (z, Gf)) : V X RX4 cX4_clearText 2 0 0 wsX4_clearText B (QE X (vI z) Gf B) G 0 [(0, .ref this)] [] := by
  unfold f_X4_clearText at hf
  refine v_aload_n 0 dX4_clearText_0 rfl rfl ?_
  refine v_gr 4 0 n_X4_clearText_X4 rfl (by decide) rfl m_X4_clearText_f12 dX4_clearText_1 hf (fun r1 hf => ?_)
  refine v_gi 0 0 n_X4_clearText_X0 rfl (by decide) rfl m_X4_clearText_f148 dX4_clearText_4 hf (fun x2 hf => ?_)
  refine v_istore_n [(1, .int x2), (0, .ref this)] dX4_clearText_7 rfl (by decide) rfl ?_
  refine v_aload_n 1 dX4_clearText_8 rfl rfl ?_
  refine v_gr 4 0 n_X4_clearText_X4 rfl (by decide) rfl m_X4_clearText_f12 dX4_clearText_9 hf (fun r3 hf => ?_)
  refine v_iconst 0 dX4_clearText_12 (by decide) ?_
  refine v_put 0 0 .int n_X4_clearText_X0 tyX0 tyX0_ok nmX0 rfl (by decide) rfl m_X4_clearText_f148 rfl (by decide +kernel) rfl rfl dX4_clearText_13 hf (fun G _ hf => ?_)
  refine v_iload_n 0 dX4_clearText_16 rfl rfl ?_
  exact v_iret hr dX4_clearText_17 hE hf
theorem c_X4_clearText (l : Launch) (hfl : l.stackTraces = false) (this : Nat) : CM l yX4_clearText wsX4_clearText 0 0 [.ref this] vI (f_X4_clearText this) := CM.start hfl RX4 rfl (by decide +kernel) rfl (Nat.le_of_ble_eq_true rfl) (fun X G z Gf hl hn hr hf => e_X4_clearText_0 (by rw [hl]; exact hfl) hn hr ⟨rfl, rfl⟩ this G hf)
theorem dv_X4_clearText : yX4_clearText.cls = RX4 ∧ yX4_clearText.cls ≠ "java/lang/invoke/MethodHandle" ∧ yX4_clearText.cls ≠ "java/lang/invoke/VarHandle" ∧ (parseMethodDescriptor yX4_clearText.desc).map (fun d => d.parameters.length) = some 0 := by decide +kernel
theorem m_X4_run_f12 : Cond.fieldLink RX4 12 RX4 "script" "LEndVersions$Script;" ∈ wsX4_run := by decide +kernel
theorem m_X4_run_f30 : Cond.fieldLink RX4 30 RX4 "now" "LEndVersions$State;" ∈ wsX4_run := by decide +kernel
theorem n_X4_run_X4 : ∀ w ∈ u_ws RX4 TX4 5, w ∈ wsX4_run := by decide +kernel
set_option maxRecDepth 100000 in
set_option maxHeartbeats 4000000 in
theorem e_X4_run_0 {X : VX} {B : VB} {z : (String ⊕ Int32)} {Gf : GH}  (hfx : (xl X).stackTraces = false) (hn : ∀ x ∈ (xc X).exceptionTable.toList, False) (hr : (xme X).sig.returnType = (some .int)) (hE : VE B (z, Gf))  (this : Nat) (p1 : Int32) (G : GH) (hf : (f_X4_run this p1).1 G = some (z, Gf)) : V X RX4 cX4_run 3 7 144 wsX4_run B (XQ X (xmap vI z) Gf B) G 0 [(0, .ref this), (1, .int p1)] [] := by
  unfold f_X4_run at hf
  refine v_aload_n 0 dX4_run_0 rfl rfl ?_
  refine v_iload_n 1 dX4_run_1 rfl rfl ?_
  refine v_xcallVv hn 4 1 [.int p1] (c_X4_requireVersion (xl X) hfx this p1) gX4_run_X4_requireVersion rfl dv_X4_requireVersion (by decide) (by decide) rfl rfl dX4_run_2 (Nat.le_of_ble_eq_true rfl) rfl hE hf (fun _ G hf => ?_)
  refine v_aload_n 0 dX4_run_5 rfl rfl ?_
  refine v_gr 4 0 n_X4_run_X4 rfl (by decide) rfl m_X4_run_f12 dX4_run_6 hf (fun r1 hf => ?_)
  refine v_callVi 0 0 [] (c_X0_read (xl X) hfx r1) gX4_run_X0_read rfl dv_X0_read (by decide) (by decide) rfl rfl dX4_run_9 (Nat.le_of_ble_eq_true rfl) rfl hE hf (fun x2 G hf => ?_)
  refine v_istore_n [(2, .int x2), (0, .ref this), (1, .int p1)] dX4_run_12 rfl (by decide) rfl ?_
  refine v_iload_n 0 dX4_run_13 rfl rfl ?_
  refine v_iconst (-1) dX4_run_14 (by decide) ?_
  refine v_icmp_eq 23 dX4_run_15 (by decide) hf (fun _ hf => ?_) (fun _ hf => ?_)
  · refine v_aload_n 1 dX4_run_23 rfl rfl ?_
    refine v_callVv 4 0 [] (c_X4_save (xl X) hfx this) gX4_run_X4_save rfl dv_X4_save (by decide) (by decide) rfl rfl dX4_run_24 (Nat.le_of_ble_eq_true rfl) rfl hE hf (fun _ G hf => ?_)
    refine v_aload_n 1 dX4_run_27 rfl rfl ?_
    refine v_gr 4 3 n_X4_run_X4 rfl (by decide) rfl m_X4_run_f30 dX4_run_28 hf (fun r3 hf => ?_)
    refine v_aload_n 1 dX4_run_31 rfl rfl ?_
    refine v_gr 4 0 n_X4_run_X4 rfl (by decide) rfl m_X4_run_f12 dX4_run_32 hf (fun r4 hf => ?_)
    refine v_iload_n 2 dX4_run_35 rfl rfl ?_
    refine v_callVi 1 2 [.ref r4, .int p1] (c_X1_growBy (xl X) hfx r3 r4 p1) gX4_run_X1_growBy rfl dv_X1_growBy (by decide) (by decide) rfl rfl dX4_run_36 (Nat.le_of_ble_eq_true rfl) rfl hE hf (fun x5 G hf => ?_)
    exact v_xiret hr dX4_run_39 hE hf
  · refine v_bipush (-10) dX4_run_18 (by decide) ?_
    refine v_iload_n 0 dX4_run_20 rfl rfl ?_
    refine v_isub dX4_run_21 ?_
    exact v_xiret hr dX4_run_22 hE hf
theorem c_X4_run (l : Launch) (hfl : l.stackTraces = false) (this : Nat) (p1 : Int32) : CX l yX4_run wsX4_run 7 144 [.ref this, .int p1] vI (f_X4_run this p1) := CX.start hfl RX4 rfl (by decide +kernel) rfl (Nat.le_of_ble_eq_true rfl) (fun X G z Gf hl hn hr hf => e_X4_run_0 (by rw [hl]; exact hfl) hn hr ⟨rfl, rfl⟩ this p1 G hf)
theorem dv_X4_run : yX4_run.cls = RX4 ∧ yX4_run.cls ≠ "java/lang/invoke/MethodHandle" ∧ yX4_run.cls ≠ "java/lang/invoke/VarHandle" ∧ (parseMethodDescriptor yX4_run.desc).map (fun d => d.parameters.length) = some 1 := by decide +kernel
theorem m_X4_requireRate_c42 : Cond.classLink RX4 42 "java/lang/IllegalArgumentException" ∈ wsX4_requireRate := by decide +kernel
theorem m_X4_requireRate_i42 : Cond.initialized "java/lang/IllegalArgumentException" ∈ wsX4_requireRate := by decide +kernel
theorem at_X4_requireRate_46 : ∀ w ∈ (vx_atS RX4 46 "java/lang/IllegalArgumentException" ["java/lang/RuntimeException", "java/lang/Exception"]).filter goodWord, w ∈ wsX4_requireRate := by decide +kernel
set_option maxRecDepth 100000 in
set_option maxHeartbeats 4000000 in
theorem e_X4_requireRate_0 {X : VX} {B : VB} {z : (String ⊕ Unit)} {Gf : GH}  (hfx : (xl X).stackTraces = false) (hn : ∀ x ∈ (xc X).exceptionTable.toList, False) (hr : (xme X).sig.returnType = none) (hE : VE B (z, Gf))  (p1 : Int32) (G : GH) (hf : (f_X4_requireRate p1).1 G = some (z, Gf)) : V X RX4 cX4_requireRate 1 6 90 wsX4_requireRate B (XQ X (xmap vV z) Gf B) G 0 [(0, .int p1)] [] := by
  unfold f_X4_requireRate at hf
  refine v_iload_n 0 dX4_requireRate_0 rfl rfl ?_
  refine v_callSi 1 [.int p1] (c_X4_isRate (xl X) hfx p1) gX4_requireRate_X4_isRate rfl dn_X4_isRate (by decide) (by decide) rfl dX4_requireRate_1 (Nat.le_of_ble_eq_true rfl) rfl hE hf (fun x1 G hf => ?_)
  refine v_if_ne 17 dX4_requireRate_4 (by decide) hf (fun _ hf => ?_) (fun _ hf => ?_)
  · exact v_xvret hr dX4_requireRate_17 hE hf
  · exact v_throw (is := 208) (ic := 46) (text := "rate out of range") (names := ["java/lang/RuntimeException", "java/lang/Exception"]) rfl hn m_X4_requireRate_c42 m_X4_requireRate_i42 at_X4_requireRate_46 (by decide +kernel) (by decide +kernel) (by decide +kernel) (by decide +kernel) (by decide +kernel) dX4_requireRate_7 dX4_requireRate_10 dX4_requireRate_11 dX4_requireRate_13 dX4_requireRate_16 (by decide) (by decide) hE hf
theorem c_X4_requireRate (l : Launch) (hfl : l.stackTraces = false) (p1 : Int32) : CX l yX4_requireRate wsX4_requireRate 6 90 [.int p1] vV (f_X4_requireRate p1) := CX.start hfl RX4 rfl (by decide +kernel) rfl (Nat.le_of_ble_eq_true rfl) (fun X G z Gf hl hn hr hf => e_X4_requireRate_0 (by rw [hl]; exact hfl) hn hr ⟨rfl, rfl⟩ p1 G hf)
theorem dn_X4_requireRate : yX4_requireRate.cls ≠ "java/lang/invoke/MethodHandle" ∧ yX4_requireRate.cls ≠ "java/lang/invoke/VarHandle" ∧ (parseMethodDescriptor yX4_requireRate.desc).map (fun d => d.parameters.length) = some 1 := by decide +kernel
theorem m_X4_requireReadableText_f12 : Cond.fieldLink RX4 12 RX4 "script" "LEndVersions$Script;" ∈ wsX4_requireReadableText := by decide +kernel
theorem m_X4_requireReadableText_c69 : Cond.classLink RX4 69 "java/lang/IllegalStateException" ∈ wsX4_requireReadableText := by decide +kernel
theorem m_X4_requireReadableText_i69 : Cond.initialized "java/lang/IllegalStateException" ∈ wsX4_requireReadableText := by decide +kernel
theorem at_X4_requireReadableText_73 : ∀ w ∈ (vx_atS RX4 73 "java/lang/IllegalStateException" ["java/lang/RuntimeException", "java/lang/Exception"]).filter goodWord, w ∈ wsX4_requireReadableText := by decide +kernel
theorem n_X4_requireReadableText_X4 : ∀ w ∈ u_ws RX4 TX4 5, w ∈ wsX4_requireReadableText := by decide +kernel
set_option maxRecDepth 100000 in
set_option maxHeartbeats 4000000 in
theorem e_X4_requireReadableText_0 {X : VX} {B : VB} {z : (String ⊕ Unit)} {Gf : GH}  (hfx : (xl X).stackTraces = false) (hn : ∀ x ∈ (xc X).exceptionTable.toList, False) (hr : (xme X).sig.returnType = none) (hE : VE B (z, Gf))  (this : Nat) (G : GH) (hf : (f_X4_requireReadableText this).1 G = some (z, Gf)) : V X RX4 cX4_requireReadableText 1 6 90 wsX4_requireReadableText B (XQ X (xmap vV z) Gf B) G 0 [(0, .ref this)] [] := by
  unfold f_X4_requireReadableText at hf
  refine v_aload_n 0 dX4_requireReadableText_0 rfl rfl ?_
  refine v_gr 4 0 n_X4_requireReadableText_X4 rfl (by decide) rfl m_X4_requireReadableText_f12 dX4_requireReadableText_1 hf (fun r1 hf => ?_)
  refine v_callVi 0 0 [] (c_X0_read (xl X) hfx r1) gX4_requireReadableText_X0_read rfl dv_X0_read (by decide) (by decide) rfl rfl dX4_requireReadableText_4 (Nat.le_of_ble_eq_true rfl) rfl hE hf (fun x2 G hf => ?_)
  refine v_iconst (-1) dX4_requireReadableText_7 (by decide) ?_
  refine v_icmp_eq 21 dX4_requireReadableText_8 (by decide) hf (fun _ hf => ?_) (fun _ hf => ?_)
  · exact v_xvret hr dX4_requireReadableText_21 hE hf
  · exact v_throw (is := 210) (ic := 73) (text := "the text has a syntax error") (names := ["java/lang/RuntimeException", "java/lang/Exception"]) rfl hn m_X4_requireReadableText_c69 m_X4_requireReadableText_i69 at_X4_requireReadableText_73 (by decide +kernel) (by decide +kernel) (by decide +kernel) (by decide +kernel) (by decide +kernel) dX4_requireReadableText_11 dX4_requireReadableText_14 dX4_requireReadableText_15 dX4_requireReadableText_17 dX4_requireReadableText_20 (by decide) (by decide) hE hf
theorem c_X4_requireReadableText (l : Launch) (hfl : l.stackTraces = false) (this : Nat) : CX l yX4_requireReadableText wsX4_requireReadableText 6 90 [.ref this] vV (f_X4_requireReadableText this) := CX.start hfl RX4 rfl (by decide +kernel) rfl (Nat.le_of_ble_eq_true rfl) (fun X G z Gf hl hn hr hf => e_X4_requireReadableText_0 (by rw [hl]; exact hfl) hn hr ⟨rfl, rfl⟩ this G hf)
theorem dv_X4_requireReadableText : yX4_requireReadableText.cls = RX4 ∧ yX4_requireReadableText.cls ≠ "java/lang/invoke/MethodHandle" ∧ yX4_requireReadableText.cls ≠ "java/lang/invoke/VarHandle" ∧ (parseMethodDescriptor yX4_requireReadableText.desc).map (fun d => d.parameters.length) = some 0 := by decide +kernel
theorem m_X4_stalls_f19 : Cond.fieldLink RX4 19 RX4 "trial" "LEndVersions$Trial;" ∈ wsX4_stalls := by decide +kernel
theorem m_X4_stalls_f12 : Cond.fieldLink RX4 12 RX4 "script" "LEndVersions$Script;" ∈ wsX4_stalls := by decide +kernel
theorem m_X4_stalls_f30 : Cond.fieldLink RX4 30 RX4 "now" "LEndVersions$State;" ∈ wsX4_stalls := by decide +kernel
theorem m_X4_stalls_f173 : Cond.fieldLink RX4 173 RX2 "stalled" "I" ∈ wsX4_stalls := by decide +kernel
theorem n_X4_stalls_X2 : ∀ w ∈ u_ws RX2 TX2 3, w ∈ wsX4_stalls := by decide +kernel
theorem n_X4_stalls_X4 : ∀ w ∈ u_ws RX4 TX4 5, w ∈ wsX4_stalls := by decide +kernel
set_option maxRecDepth 100000 in
set_option maxHeartbeats 4000000 in
theorem e_X4_stalls_0 {X : VX} {B : VB} {z : (String ⊕ Int32)} {Gf : GH}  (hfx : (xl X).stackTraces = false) (hn : ∀ x ∈ (xc X).exceptionTable.toList, False) (hr : (xme X).sig.returnType = (some .int)) (hE : VE B (z, Gf))  (this : Nat) (p1 : Int32) (p2 : Int32) (G : GH) (hf : (f_X4_stalls this p1 p2).1 G = some (z, Gf)) : V X RX4 cX4_stalls 3 7 120 wsX4_stalls B (XQ X (xmap vI z) Gf B) G 0 [(0, .ref this), (1, .int p1), (2, .int p2)] [] := by
  unfold f_X4_stalls at hf
  refine v_aload_n 0 dX4_stalls_0 rfl rfl ?_
  refine v_iload_n 1 dX4_stalls_1 rfl rfl ?_
  refine v_xcallVv hn 4 1 [.int p1] (c_X4_requireVersion (xl X) hfx this p1) gX4_stalls_X4_requireVersion rfl dv_X4_requireVersion (by decide) (by decide) rfl rfl dX4_stalls_2 (Nat.le_of_ble_eq_true rfl) rfl hE hf (fun _ G hf => ?_)
  refine v_iload_n 2 dX4_stalls_5 rfl rfl ?_
  refine v_xcallSv hn 1 [.int p2] (c_X4_requireRate (xl X) hfx p2) gX4_stalls_X4_requireRate rfl dn_X4_requireRate (by decide) (by decide) rfl dX4_stalls_6 (Nat.le_of_ble_eq_true rfl) rfl hE hf (fun _ G hf => ?_)
  refine v_aload_n 0 dX4_stalls_9 rfl rfl ?_
  refine v_xcallVv hn 4 0 [] (c_X4_requireReadableText (xl X) hfx this) gX4_stalls_X4_requireReadableText rfl dv_X4_requireReadableText (by decide) (by decide) rfl rfl dX4_stalls_10 (Nat.le_of_ble_eq_true rfl) rfl hE hf (fun _ G hf => ?_)
  refine v_aload_n 0 dX4_stalls_13 rfl rfl ?_
  refine v_gr 4 1 n_X4_stalls_X4 rfl (by decide) rfl m_X4_stalls_f19 dX4_stalls_14 hf (fun r1 hf => ?_)
  refine v_aload_n 0 dX4_stalls_17 rfl rfl ?_
  refine v_gr 4 0 n_X4_stalls_X4 rfl (by decide) rfl m_X4_stalls_f12 dX4_stalls_18 hf (fun r2 hf => ?_)
  refine v_aload_n 0 dX4_stalls_21 rfl rfl ?_
  refine v_gr 4 3 n_X4_stalls_X4 rfl (by decide) rfl m_X4_stalls_f30 dX4_stalls_22 hf (fun r3 hf => ?_)
  refine v_iload_n 1 dX4_stalls_25 rfl rfl ?_
  refine v_iload_n 2 dX4_stalls_26 rfl rfl ?_
  refine v_callVv 2 4 [.ref r2, .ref r3, .int p1, .int p2] (c_X2_play (xl X) hfx r1 r2 r3 p1 p2) gX4_stalls_X2_play rfl dv_X2_play (by decide) (by decide) rfl rfl dX4_stalls_27 (Nat.le_of_ble_eq_true rfl) rfl hE hf (fun _ G hf => ?_)
  refine v_aload_n 0 dX4_stalls_30 rfl rfl ?_
  refine v_gr 4 1 n_X4_stalls_X4 rfl (by decide) rfl m_X4_stalls_f19 dX4_stalls_31 hf (fun r4 hf => ?_)
  refine v_gi 2 0 n_X4_stalls_X2 rfl (by decide) rfl m_X4_stalls_f173 dX4_stalls_34 hf (fun x5 hf => ?_)
  exact v_xiret hr dX4_stalls_37 hE hf
theorem c_X4_stalls (l : Launch) (hfl : l.stackTraces = false) (this : Nat) (p1 : Int32) (p2 : Int32) : CX l yX4_stalls wsX4_stalls 7 120 [.ref this, .int p1, .int p2] vI (f_X4_stalls this p1 p2) := CX.start hfl RX4 rfl (by decide +kernel) rfl (Nat.le_of_ble_eq_true rfl) (fun X G z Gf hl hn hr hf => e_X4_stalls_0 (by rw [hl]; exact hfl) hn hr ⟨rfl, rfl⟩ this p1 p2 G hf)
theorem dv_X4_stalls : yX4_stalls.cls = RX4 ∧ yX4_stalls.cls ≠ "java/lang/invoke/MethodHandle" ∧ yX4_stalls.cls ≠ "java/lang/invoke/VarHandle" ∧ (parseMethodDescriptor yX4_stalls.desc).map (fun d => d.parameters.length) = some 2 := by decide +kernel
theorem m_X4_worstWith_f19 : Cond.fieldLink RX4 19 RX4 "trial" "LEndVersions$Trial;" ∈ wsX4_worstWith := by decide +kernel
theorem m_X4_worstWith_f12 : Cond.fieldLink RX4 12 RX4 "script" "LEndVersions$Script;" ∈ wsX4_worstWith := by decide +kernel
theorem m_X4_worstWith_f30 : Cond.fieldLink RX4 30 RX4 "now" "LEndVersions$State;" ∈ wsX4_worstWith := by decide +kernel
theorem m_X4_worstWith_f176 : Cond.fieldLink RX4 176 RX2 "greatestCost" "I" ∈ wsX4_worstWith := by decide +kernel
theorem n_X4_worstWith_X2 : ∀ w ∈ u_ws RX2 TX2 3, w ∈ wsX4_worstWith := by decide +kernel
theorem n_X4_worstWith_X4 : ∀ w ∈ u_ws RX4 TX4 5, w ∈ wsX4_worstWith := by decide +kernel
set_option maxRecDepth 100000 in
set_option maxHeartbeats 4000000 in
theorem e_X4_worstWith_0 {X : VX} {B : VB} {z : (String ⊕ Int32)} {Gf : GH}  (hfx : (xl X).stackTraces = false) (hn : ∀ x ∈ (xc X).exceptionTable.toList, False) (hr : (xme X).sig.returnType = (some .int)) (hE : VE B (z, Gf))  (this : Nat) (p1 : Int32) (p2 : Int32) (G : GH) (hf : (f_X4_worstWith this p1 p2).1 G = some (z, Gf)) : V X RX4 cX4_worstWith 3 7 120 wsX4_worstWith B (XQ X (xmap vI z) Gf B) G 0 [(0, .ref this), (1, .int p1), (2, .int p2)] [] := by
  unfold f_X4_worstWith at hf
  refine v_aload_n 0 dX4_worstWith_0 rfl rfl ?_
  refine v_iload_n 1 dX4_worstWith_1 rfl rfl ?_
  refine v_xcallVv hn 4 1 [.int p1] (c_X4_requireVersion (xl X) hfx this p1) gX4_worstWith_X4_requireVersion rfl dv_X4_requireVersion (by decide) (by decide) rfl rfl dX4_worstWith_2 (Nat.le_of_ble_eq_true rfl) rfl hE hf (fun _ G hf => ?_)
  refine v_iload_n 2 dX4_worstWith_5 rfl rfl ?_
  refine v_xcallSv hn 1 [.int p2] (c_X4_requireRate (xl X) hfx p2) gX4_worstWith_X4_requireRate rfl dn_X4_requireRate (by decide) (by decide) rfl dX4_worstWith_6 (Nat.le_of_ble_eq_true rfl) rfl hE hf (fun _ G hf => ?_)
  refine v_aload_n 0 dX4_worstWith_9 rfl rfl ?_
  refine v_xcallVv hn 4 0 [] (c_X4_requireReadableText (xl X) hfx this) gX4_worstWith_X4_requireReadableText rfl dv_X4_requireReadableText (by decide) (by decide) rfl rfl dX4_worstWith_10 (Nat.le_of_ble_eq_true rfl) rfl hE hf (fun _ G hf => ?_)
  refine v_aload_n 0 dX4_worstWith_13 rfl rfl ?_
  refine v_gr 4 1 n_X4_worstWith_X4 rfl (by decide) rfl m_X4_worstWith_f19 dX4_worstWith_14 hf (fun r1 hf => ?_)
  refine v_aload_n 0 dX4_worstWith_17 rfl rfl ?_
  refine v_gr 4 0 n_X4_worstWith_X4 rfl (by decide) rfl m_X4_worstWith_f12 dX4_worstWith_18 hf (fun r2 hf => ?_)
  refine v_aload_n 0 dX4_worstWith_21 rfl rfl ?_
  refine v_gr 4 3 n_X4_worstWith_X4 rfl (by decide) rfl m_X4_worstWith_f30 dX4_worstWith_22 hf (fun r3 hf => ?_)
  refine v_iload_n 1 dX4_worstWith_25 rfl rfl ?_
  refine v_iload_n 2 dX4_worstWith_26 rfl rfl ?_
  refine v_callVv 2 4 [.ref r2, .ref r3, .int p1, .int p2] (c_X2_play (xl X) hfx r1 r2 r3 p1 p2) gX4_worstWith_X2_play rfl dv_X2_play (by decide) (by decide) rfl rfl dX4_worstWith_27 (Nat.le_of_ble_eq_true rfl) rfl hE hf (fun _ G hf => ?_)
  refine v_aload_n 0 dX4_worstWith_30 rfl rfl ?_
  refine v_gr 4 1 n_X4_worstWith_X4 rfl (by decide) rfl m_X4_worstWith_f19 dX4_worstWith_31 hf (fun r4 hf => ?_)
  refine v_gi 2 1 n_X4_worstWith_X2 rfl (by decide) rfl m_X4_worstWith_f176 dX4_worstWith_34 hf (fun x5 hf => ?_)
  exact v_xiret hr dX4_worstWith_37 hE hf
theorem c_X4_worstWith (l : Launch) (hfl : l.stackTraces = false) (this : Nat) (p1 : Int32) (p2 : Int32) : CX l yX4_worstWith wsX4_worstWith 7 120 [.ref this, .int p1, .int p2] vI (f_X4_worstWith this p1 p2) := CX.start hfl RX4 rfl (by decide +kernel) rfl (Nat.le_of_ble_eq_true rfl) (fun X G z Gf hl hn hr hf => e_X4_worstWith_0 (by rw [hl]; exact hfl) hn hr ⟨rfl, rfl⟩ this p1 p2 G hf)
theorem dv_X4_worstWith : yX4_worstWith.cls = RX4 ∧ yX4_worstWith.cls ≠ "java/lang/invoke/MethodHandle" ∧ yX4_worstWith.cls ≠ "java/lang/invoke/VarHandle" ∧ (parseMethodDescriptor yX4_worstWith.desc).map (fun d => d.parameters.length) = some 2 := by decide +kernel
theorem m_X4_leastRate_f19 : Cond.fieldLink RX4 19 RX4 "trial" "LEndVersions$Trial;" ∈ wsX4_leastRate := by decide +kernel
theorem m_X4_leastRate_f12 : Cond.fieldLink RX4 12 RX4 "script" "LEndVersions$Script;" ∈ wsX4_leastRate := by decide +kernel
theorem m_X4_leastRate_f30 : Cond.fieldLink RX4 30 RX4 "now" "LEndVersions$State;" ∈ wsX4_leastRate := by decide +kernel
theorem m_X4_leastRate_f173 : Cond.fieldLink RX4 173 RX2 "stalled" "I" ∈ wsX4_leastRate := by decide +kernel
theorem n_X4_leastRate_X2 : ∀ w ∈ u_ws RX2 TX2 3, w ∈ wsX4_leastRate := by decide +kernel
theorem n_X4_leastRate_X4 : ∀ w ∈ u_ws RX4 TX4 5, w ∈ wsX4_leastRate := by decide +kernel
set_option maxRecDepth 100000 in
set_option maxHeartbeats 4000000 in
theorem e_X4_leastRate_11 {X : VX} {B : VB} {z : (String ⊕ Int32)} {Gf : GH}  (hfx : (xl X).stackTraces = false) (hn : ∀ x ∈ (xc X).exceptionTable.toList, False) (hr : (xme X).sig.returnType = (some .int)) (hE : VE B (z, Gf))  : ∀ (n : Nat) (this : Nat) (p1 : Int32) (l2 : Int32) (G : GH), (f_X4_leastRate_11 n this p1 l2).1 G = some (z, Gf) → V X RX4 cX4_leastRate 3 7 120 wsX4_leastRate B (XQ X (xmap vI z) Gf B) G 11 [(0, .ref this), (1, .int p1), (2, .int l2)] [] := by
  intro n
  induction n with
  | zero =>
    intro this p1 l2 G hf
    have h0 : (none : Option ((String ⊕ Int32) × GH)) = some (z, Gf) := hf
    cases h0
  | succ n ih =>
    intro this p1 l2 G hf
    rw [f_X4_leastRate_11.eq_2] at hf
    refine v_iload_n 2 dX4_leastRate_11 rfl rfl ?_
    refine v_bipush 9 dX4_leastRate_12 (by decide) ?_
    refine v_icmp_gt 52 dX4_leastRate_14 (by decide) hf (fun _ hf => ?_) (fun _ hf => ?_)
    · refine v_iconst (-1) dX4_leastRate_52 (by decide) ?_
      exact v_xiret hr dX4_leastRate_53 hE hf
    · refine v_aload_n 0 dX4_leastRate_17 rfl rfl ?_
      refine v_gr 4 1 n_X4_leastRate_X4 rfl (by decide) rfl m_X4_leastRate_f19 dX4_leastRate_18 hf (fun r1 hf => ?_)
      refine v_aload_n 0 dX4_leastRate_21 rfl rfl ?_
      refine v_gr 4 0 n_X4_leastRate_X4 rfl (by decide) rfl m_X4_leastRate_f12 dX4_leastRate_22 hf (fun r2 hf => ?_)
      refine v_aload_n 0 dX4_leastRate_25 rfl rfl ?_
      refine v_gr 4 3 n_X4_leastRate_X4 rfl (by decide) rfl m_X4_leastRate_f30 dX4_leastRate_26 hf (fun r3 hf => ?_)
      refine v_iload_n 1 dX4_leastRate_29 rfl rfl ?_
      refine v_iload_n 2 dX4_leastRate_30 rfl rfl ?_
      refine v_callVv 2 4 [.ref r2, .ref r3, .int p1, .int l2] (c_X2_play (xl X) hfx r1 r2 r3 p1 l2) gX4_leastRate_X2_play rfl dv_X2_play (by decide) (by decide) rfl rfl dX4_leastRate_31 (Nat.le_of_ble_eq_true rfl) rfl hE hf (fun _ G hf => ?_)
      refine v_aload_n 0 dX4_leastRate_34 rfl rfl ?_
      refine v_gr 4 1 n_X4_leastRate_X4 rfl (by decide) rfl m_X4_leastRate_f19 dX4_leastRate_35 hf (fun r4 hf => ?_)
      refine v_gi 2 0 n_X4_leastRate_X2 rfl (by decide) rfl m_X4_leastRate_f173 dX4_leastRate_38 hf (fun x5 hf => ?_)
      refine v_if_ne 46 dX4_leastRate_41 (by decide) hf (fun _ hf => ?_) (fun _ hf => ?_)
      · refine v_iinc 2 (l2 + 1) [(2, .int (l2 + 1)), (0, .ref this), (1, .int p1)] dX4_leastRate_46 rfl (by rfl) (by decide) rfl ?_
        refine v_goto 11 dX4_leastRate_49 (by decide) ?_
        refine v_sub [1, 2, 0] rfl ?_
        exact ih this p1 (l2 + 1) G hf
      · refine v_iload_n 2 dX4_leastRate_44 rfl rfl ?_
        exact v_xiret hr dX4_leastRate_45 hE hf
set_option maxRecDepth 100000 in
set_option maxHeartbeats 4000000 in
theorem e_X4_leastRate_0 {X : VX} {B : VB} {z : (String ⊕ Int32)} {Gf : GH}  (hfx : (xl X).stackTraces = false) (hn : ∀ x ∈ (xc X).exceptionTable.toList, False) (hr : (xme X).sig.returnType = (some .int)) (hE : VE B (z, Gf))  (this : Nat) (p1 : Int32) (G : GH) (hf : (f_X4_leastRate this p1).1 G = some (z, Gf)) : V X RX4 cX4_leastRate 3 7 120 wsX4_leastRate B (XQ X (xmap vI z) Gf B) G 0 [(0, .ref this), (1, .int p1)] [] := by
  unfold f_X4_leastRate at hf
  refine v_aload_n 0 dX4_leastRate_0 rfl rfl ?_
  refine v_iload_n 1 dX4_leastRate_1 rfl rfl ?_
  refine v_xcallVv hn 4 1 [.int p1] (c_X4_requireVersion (xl X) hfx this p1) gX4_leastRate_X4_requireVersion rfl dv_X4_requireVersion (by decide) (by decide) rfl rfl dX4_leastRate_2 (Nat.le_of_ble_eq_true rfl) rfl hE hf (fun _ G hf => ?_)
  refine v_aload_n 0 dX4_leastRate_5 rfl rfl ?_
  refine v_xcallVv hn 4 0 [] (c_X4_requireReadableText (xl X) hfx this) gX4_leastRate_X4_requireReadableText rfl dv_X4_requireReadableText (by decide) (by decide) rfl rfl dX4_leastRate_6 (Nat.le_of_ble_eq_true rfl) rfl hE hf (fun _ G hf => ?_)
  refine v_iconst 1 dX4_leastRate_9 (by decide) ?_
  refine v_istore_n [(2, .int 1), (0, .ref this), (1, .int p1)] dX4_leastRate_10 rfl (by decide) rfl ?_
  refine v_sub [1, 2, 0] rfl ?_
  exact e_X4_leastRate_11 hfx hn hr hE FU this p1 1 G hf
theorem c_X4_leastRate (l : Launch) (hfl : l.stackTraces = false) (this : Nat) (p1 : Int32) : CX l yX4_leastRate wsX4_leastRate 7 120 [.ref this, .int p1] vI (f_X4_leastRate this p1) := CX.start hfl RX4 rfl (by decide +kernel) rfl (Nat.le_of_ble_eq_true rfl) (fun X G z Gf hl hn hr hf => e_X4_leastRate_0 (by rw [hl]; exact hfl) hn hr ⟨rfl, rfl⟩ this p1 G hf)
theorem dv_X4_leastRate : yX4_leastRate.cls = RX4 ∧ yX4_leastRate.cls ≠ "java/lang/invoke/MethodHandle" ∧ yX4_leastRate.cls ≠ "java/lang/invoke/VarHandle" ∧ (parseMethodDescriptor yX4_leastRate.desc).map (fun d => d.parameters.length) = some 1 := by decide +kernel
theorem m_X4_undo_f34 : Cond.fieldLink RX4 34 RX4 "savedStates" "I" ∈ wsX4_undo := by decide +kernel
theorem m_X4_undo_c69 : Cond.classLink RX4 69 "java/lang/IllegalStateException" ∈ wsX4_undo := by decide +kernel
theorem m_X4_undo_i69 : Cond.initialized "java/lang/IllegalStateException" ∈ wsX4_undo := by decide +kernel
theorem at_X4_undo_73 : ∀ w ∈ (vx_atS RX4 73 "java/lang/IllegalStateException" ["java/lang/RuntimeException", "java/lang/Exception"]).filter goodWord, w ∈ wsX4_undo := by decide +kernel
theorem m_X4_undo_f25 : Cond.fieldLink RX4 25 RX4 "saved" "[LEndVersions$State;" ∈ wsX4_undo := by decide +kernel
theorem m_X4_undo_f30 : Cond.fieldLink RX4 30 RX4 "now" "LEndVersions$State;" ∈ wsX4_undo := by decide +kernel
theorem n_X4_undo_X4 : ∀ w ∈ u_ws RX4 TX4 5, w ∈ wsX4_undo := by decide +kernel
set_option maxRecDepth 100000 in
set_option maxHeartbeats 4000000 in
theorem e_X4_undo_30 {X : VX} {B : VB} {z : (String ⊕ Int32)} {Gf : GH}  (hfx : (xl X).stackTraces = false) (hn : ∀ x ∈ (xc X).exceptionTable.toList, False) (hr : (xme X).sig.returnType = (some .int)) (hE : VE B (z, Gf))  (this : Nat) (l1 : Int32) (s0 : Option Nat) (G : GH) (hf : (f_X4_undo_30 this l1 s0).1 G = some (z, Gf)) : V X RX4 cX4_undo 3 6 90 wsX4_undo B (XQ X (xmap vI z) Gf B) G 30 [(0, .ref this), (1, .int l1)] [va_rf s0] := by
  unfold f_X4_undo_30 at hf
  refine v_astoreq_n [(2, va_rf s0), (0, .ref this), (1, .int l1)] dX4_undo_30 rfl (by decide) rfl ?_
  refine v_aloadq_n 0 dX4_undo_31 rfl rfl ?_
  refine v_ifnonnull 45 dX4_undo_32 (by decide) hf (fun e_q2 hf => ?_) (fun q2 e_q2 hf => ?_)
  · exact v_throw (is := 179) (ic := 73) (text := "there is no saved state") (names := ["java/lang/RuntimeException", "java/lang/Exception"]) rfl hn m_X4_undo_c69 m_X4_undo_i69 at_X4_undo_73 (by decide +kernel) (by decide +kernel) (by decide +kernel) (by decide +kernel) (by decide +kernel) dX4_undo_35 dX4_undo_38 dX4_undo_39 dX4_undo_41 dX4_undo_44 (by decide) (by decide) hE hf
  · subst e_q2
    refine v_aload_n 1 dX4_undo_45 rfl rfl ?_
    refine v_gr 4 2 n_X4_undo_X4 rfl (by decide) rfl m_X4_undo_f25 dX4_undo_46 hf (fun r3 hf => ?_)
    refine v_iload_n 2 dX4_undo_49 rfl rfl ?_
    refine v_aload_n 1 dX4_undo_50 rfl rfl ?_
    refine v_gr 4 3 n_X4_undo_X4 rfl (by decide) rfl m_X4_undo_f30 dX4_undo_51 hf (fun r4 hf => ?_)
    refine v_astq (t := 3) (C := RX1) (r := (some r4)) (fun _ => rfl) rfl dX4_undo_54 hf (fun G _ hf => ?_)
    refine v_aload_n 1 dX4_undo_55 rfl rfl ?_
    refine v_aload_n 0 dX4_undo_56 rfl rfl ?_
    refine v_put 4 3 (.object "EndVersions$State") n_X4_undo_X4 tyX4 tyX4_ok nmX4 rfl (by decide) rfl m_X4_undo_f30 rfl (by decide +kernel) rfl rfl dX4_undo_57 hf (fun G _ hf => ?_)
    refine v_aload_n 1 dX4_undo_60 rfl rfl ?_
    refine v_iload_n 2 dX4_undo_61 rfl rfl ?_
    refine v_put 4 4 .int n_X4_undo_X4 tyX4 tyX4_ok nmX4 rfl (by decide) rfl m_X4_undo_f34 rfl (by decide +kernel) rfl rfl dX4_undo_62 hf (fun G _ hf => ?_)
    refine v_iload_n 2 dX4_undo_65 rfl rfl ?_
    exact v_xiret hr dX4_undo_66 hE hf
set_option maxRecDepth 100000 in
set_option maxHeartbeats 4000000 in
theorem e_X4_undo_20 {X : VX} {B : VB} {z : (String ⊕ Int32)} {Gf : GH}  (hfx : (xl X).stackTraces = false) (hn : ∀ x ∈ (xc X).exceptionTable.toList, False) (hr : (xme X).sig.returnType = (some .int)) (hE : VE B (z, Gf))  (this : Nat) (l1 : Int32) (G : GH) (hf : (f_X4_undo_20 this l1).1 G = some (z, Gf)) : V X RX4 cX4_undo 3 6 90 wsX4_undo B (XQ X (xmap vI z) Gf B) G 20 [(0, .ref this), (1, .int l1)] [] := by
  unfold f_X4_undo_20 at hf
  refine v_null dX4_undo_20 ?_
  refine v_goto 30 dX4_undo_21 (by decide) ?_
  refine v_sub [0, 1] rfl ?_
  exact e_X4_undo_30 hfx hn hr hE this l1 (none : Option Nat) G hf
set_option maxRecDepth 100000 in
set_option maxHeartbeats 4000000 in
theorem e_X4_undo_0 {X : VX} {B : VB} {z : (String ⊕ Int32)} {Gf : GH}  (hfx : (xl X).stackTraces = false) (hn : ∀ x ∈ (xc X).exceptionTable.toList, False) (hr : (xme X).sig.returnType = (some .int)) (hE : VE B (z, Gf))  (this : Nat) (G : GH) (hf : (f_X4_undo this).1 G = some (z, Gf)) : V X RX4 cX4_undo 3 6 90 wsX4_undo B (XQ X (xmap vI z) Gf B) G 0 [(0, .ref this)] [] := by
  unfold f_X4_undo at hf
  refine v_aload_n 0 dX4_undo_0 rfl rfl ?_
  refine v_gi 4 4 n_X4_undo_X4 rfl (by decide) rfl m_X4_undo_f34 dX4_undo_1 hf (fun x1 hf => ?_)
  refine v_iconst 1 dX4_undo_4 (by decide) ?_
  refine v_isub dX4_undo_5 ?_
  refine v_istore_n [(1, .int (x1 - 1)), (0, .ref this)] dX4_undo_6 rfl (by decide) rfl ?_
  refine v_iload_n 0 dX4_undo_7 rfl rfl ?_
  refine v_if_lt 20 dX4_undo_8 (by decide) hf (fun _ hf => ?_) (fun _ hf => ?_)
  · refine v_sub [1, 0] rfl ?_
    exact e_X4_undo_20 hfx hn hr hE this (x1 - 1) G hf
  · refine v_iload_n 0 dX4_undo_11 rfl rfl ?_
    refine v_aload_n 1 dX4_undo_12 rfl rfl ?_
    refine v_gr 4 2 n_X4_undo_X4 rfl (by decide) rfl m_X4_undo_f25 dX4_undo_13 hf (fun r5 hf => ?_)
    refine v_len (t := 3) (fun _ => rfl) dX4_undo_16 hf (fun x6 hf => ?_)
    refine v_icmp_lt 24 dX4_undo_17 (by decide) hf (fun _ hf => ?_) (fun _ hf => ?_)
    · refine v_aload_n 1 dX4_undo_24 rfl rfl ?_
      refine v_gr 4 2 n_X4_undo_X4 rfl (by decide) rfl m_X4_undo_f25 dX4_undo_25 hf (fun r7 hf => ?_)
      refine v_iload_n 0 dX4_undo_28 rfl rfl ?_
      refine v_aldq (t := 3) (C := RX1) (fun _ => rfl) dX4_undo_29 hf (fun o8 hf => ?_)
      refine v_sub [1, 0] rfl ?_
      exact e_X4_undo_30 hfx hn hr hE this (x1 - 1) o8 G hf
    · refine v_sub [1, 0] rfl ?_
      exact e_X4_undo_20 hfx hn hr hE this (x1 - 1) G hf
theorem c_X4_undo (l : Launch) (hfl : l.stackTraces = false) (this : Nat) : CX l yX4_undo wsX4_undo 6 90 [.ref this] vI (f_X4_undo this) := CX.start hfl RX4 rfl (by decide +kernel) rfl (Nat.le_of_ble_eq_true rfl) (fun X G z Gf hl hn hr hf => e_X4_undo_0 (by rw [hl]; exact hfl) hn hr ⟨rfl, rfl⟩ this G hf)
theorem dv_X4_undo : yX4_undo.cls = RX4 ∧ yX4_undo.cls ≠ "java/lang/invoke/MethodHandle" ∧ yX4_undo.cls ≠ "java/lang/invoke/VarHandle" ∧ (parseMethodDescriptor yX4_undo.desc).map (fun d => d.parameters.length) = some 0 := by decide +kernel
theorem m_X4_mixed_k215 : Cond.constantLong RX4 215 (31) ∈ wsX4_mixed := by decide +kernel
set_option maxRecDepth 100000 in
set_option maxHeartbeats 4000000 in
theorem e_X4_mixed_0 {X : VX} {B : VB} {z : Int64} {Gf : GH}  (hfx : (xl X).stackTraces = false) (hn : (xme X).name = "mixed") (hr : (xme X).sig.returnType = (some .long)) (hE : VE B (z, Gf))  (p1 : Int64) (p2 : Int32) (G : GH) (hf : (f_X4_mixed p1 p2).1 G = some (z, Gf)) : V X RX4 cX4_mixed 3 0 0 wsX4_mixed B (QE X (vL z) Gf B) G 0 [(0, .long p1), (2, .int p2)] [] := by
  unfold f_X4_mixed at hf
  refine v_ldc2 m_X4_mixed_k215 dX4_mixed_0 ?_
  refine v_lload_n 0 dX4_mixed_3 rfl rfl ?_
  refine v_lmul dX4_mixed_4 ?_
  refine v_iload_n 1 dX4_mixed_5 rfl rfl ?_
  refine v_i2l dX4_mixed_6 ?_
  refine v_ladd dX4_mixed_7 ?_
  exact v_lret hr dX4_mixed_8 hE hf
theorem c_X4_mixed (l : Launch) (hfl : l.stackTraces = false) (p1 : Int64) (p2 : Int32) : CM l yX4_mixed wsX4_mixed 0 0 [.long p1, .int p2] vL (f_X4_mixed p1 p2) := CM.start hfl RX4 rfl (by decide +kernel) rfl (Nat.le_of_ble_eq_true rfl) (fun X G z Gf hl hn hr hf => e_X4_mixed_0 (by rw [hl]; exact hfl) hn hr ⟨rfl, rfl⟩ p1 p2 G hf)
theorem dn_X4_mixed : yX4_mixed.cls ≠ "java/lang/invoke/MethodHandle" ∧ yX4_mixed.cls ≠ "java/lang/invoke/VarHandle" ∧ (parseMethodDescriptor yX4_mixed.desc).map (fun d => d.parameters.length) = some 2 := by decide +kernel
set_option maxRecDepth 100000 in
set_option maxHeartbeats 4000000 in
theorem e_X4_mixedWith_38 {X : VX} {B : VB} {z : Int64} {Gf : GH}  (hfx : (xl X).stackTraces = false) (hn : (xme X).name = "mixedWith") (hr : (xme X).sig.returnType = (some .long)) (hE : VE B (z, Gf))  : ∀ (n : Nat) (p2 : Nat) (p1 : Int64) (l5 : Int32) (l6 : Int32) (G : GH), (f_X4_mixedWith_38 n p2 p1 l5 l6).1 G = some (z, Gf) → V X RX4 cX4_mixedWith 7 2 42 wsX4_mixedWith B (QE X (vL z) Gf B) G 38 [(2, .ref p2), (3, .long p1), (5, .int l5), (6, .int l6)] [] := by
  intro n
  induction n with
  | zero =>
    intro p2 p1 l5 l6 G hf
    have h0 : (none : Option (Int64 × GH)) = some (z, Gf) := hf
    cases h0
  | succ n ih =>
    intro p2 p1 l5 l6 G hf
    rw [f_X4_mixedWith_38.eq_2] at hf
    refine v_iload 3 dX4_mixedWith_38 rfl ?_
    refine v_iload 2 dX4_mixedWith_40 rfl ?_
    refine v_icmp_ge 62 dX4_mixedWith_42 (by decide) hf (fun _ hf => ?_) (fun _ hf => ?_)
    · refine v_lload_n 1 dX4_mixedWith_62 rfl rfl ?_
      exact v_lret hr dX4_mixedWith_63 hE hf
    · refine v_lload_n 1 dX4_mixedWith_45 rfl rfl ?_
      refine v_aload_n 0 dX4_mixedWith_46 rfl rfl ?_
      refine v_iload 3 dX4_mixedWith_47 rfl ?_
      refine v_callVi 3 1 [.int l6] (c_X3_look (xl X) hfx p2 l6) gX4_mixedWith_X3_look rfl dv_X3_look (by decide) (by decide) rfl rfl dX4_mixedWith_49 (Nat.le_of_ble_eq_true rfl) rfl hE hf (fun x2 G hf => ?_)
      refine v_callSl 2 [.long p1, .int x2] (c_X4_mixed (xl X) hfx p1 x2) gX4_mixedWith_X4_mixed rfl dn_X4_mixed (by decide) (by decide) rfl dX4_mixedWith_52 (Nat.le_of_ble_eq_true rfl) rfl hE hf (fun r3 G hf => ?_)
      refine v_lstore_n [(3, .long r3), (2, .ref p2), (5, .int l5), (6, .int l6)] dX4_mixedWith_55 rfl (by decide) rfl ?_
      refine v_iinc 3 (l6 + 1) [(6, .int (l6 + 1)), (3, .long r3), (2, .ref p2), (5, .int l5)] dX4_mixedWith_56 rfl (by rfl) (by decide) rfl ?_
      refine v_goto 38 dX4_mixedWith_59 (by decide) ?_
      refine v_sub [2, 1, 3, 0] rfl ?_
      exact ih p2 r3 l5 (l6 + 1) G hf
set_option maxRecDepth 100000 in
set_option maxHeartbeats 4000000 in
theorem e_X4_mixedWith_5 {X : VX} {B : VB} {z : Int64} {Gf : GH}  (hfx : (xl X).stackTraces = false) (hn : (xme X).name = "mixedWith") (hr : (xme X).sig.returnType = (some .long)) (hE : VE B (z, Gf))  : ∀ (n : Nat) (p2 : Nat) (p1 : Int64) (l5 : Int32) (G : GH), (f_X4_mixedWith_5 n p2 p1 l5).1 G = some (z, Gf) → V X RX4 cX4_mixedWith 7 2 42 wsX4_mixedWith B (QE X (vL z) Gf B) G 5 [(2, .ref p2), (3, .long p1), (5, .int l5)] [] := by
  intro n
  induction n with
  | zero =>
    intro p2 p1 l5 G hf
    have h0 : (none : Option (Int64 × GH)) = some (z, Gf) := hf
    cases h0
  | succ n ih =>
    intro p2 p1 l5 G hf
    rw [f_X4_mixedWith_5.eq_2] at hf
    refine v_iload 2 dX4_mixedWith_5 rfl ?_
    refine v_bipush 10 dX4_mixedWith_7 (by decide) ?_
    refine v_icmp_ge 29 dX4_mixedWith_9 (by decide) hf (fun _ hf => ?_) (fun _ hf => ?_)
    · refine v_aload_n 0 dX4_mixedWith_29 rfl rfl ?_
      refine v_callVi 3 0 [] (c_X3_size (xl X) hfx p2) gX4_mixedWith_X3_size rfl dv_X3_size (by decide) (by decide) rfl rfl dX4_mixedWith_30 (Nat.le_of_ble_eq_true rfl) rfl hE hf (fun x1 G hf => ?_)
      refine v_istore [(5, .int x1), (2, .ref p2), (3, .long p1)] dX4_mixedWith_33 (by decide) rfl ?_
      refine v_iconst 0 dX4_mixedWith_35 (by decide) ?_
      refine v_istore [(6, .int 0), (5, .int x1), (2, .ref p2), (3, .long p1)] dX4_mixedWith_36 (by decide) rfl ?_
      refine v_sub [2, 3, 1, 0] rfl ?_
      exact e_X4_mixedWith_38 hfx hn hr hE FU p2 p1 x1 0 G hf
    · refine v_lload_n 1 dX4_mixedWith_12 rfl rfl ?_
      refine v_aload_n 0 dX4_mixedWith_13 rfl rfl ?_
      refine v_iload 2 dX4_mixedWith_14 rfl ?_
      refine v_callVi 3 1 [.int l5] (c_X3_fact (xl X) hfx p2 l5) gX4_mixedWith_X3_fact rfl dv_X3_fact (by decide) (by decide) rfl rfl dX4_mixedWith_16 (Nat.le_of_ble_eq_true rfl) rfl hE hf (fun x4 G hf => ?_)
      refine v_callSl 2 [.long p1, .int x4] (c_X4_mixed (xl X) hfx p1 x4) gX4_mixedWith_X4_mixed rfl dn_X4_mixed (by decide) (by decide) rfl dX4_mixedWith_19 (Nat.le_of_ble_eq_true rfl) rfl hE hf (fun r5 G hf => ?_)
      refine v_lstore_n [(3, .long r5), (2, .ref p2), (5, .int l5)] dX4_mixedWith_22 rfl (by decide) rfl ?_
      refine v_iinc 2 (l5 + 1) [(5, .int (l5 + 1)), (3, .long r5), (2, .ref p2)] dX4_mixedWith_23 rfl (by rfl) (by decide) rfl ?_
      refine v_goto 5 dX4_mixedWith_26 (by decide) ?_
      refine v_sub [2, 1, 0] rfl ?_
      exact ih p2 r5 (l5 + 1) G hf
set_option maxRecDepth 100000 in
set_option maxHeartbeats 4000000 in
theorem e_X4_mixedWith_0 {X : VX} {B : VB} {z : Int64} {Gf : GH}  (hfx : (xl X).stackTraces = false) (hn : (xme X).name = "mixedWith") (hr : (xme X).sig.returnType = (some .long)) (hE : VE B (z, Gf))  (p1 : Int64) (p2 : Nat) (G : GH) (hf : (f_X4_mixedWith p1 p2).1 G = some (z, Gf)) : V X RX4 cX4_mixedWith 7 2 42 wsX4_mixedWith B (QE X (vL z) Gf B) G 0 [(0, .long p1), (2, .ref p2)] [] := by
  unfold f_X4_mixedWith at hf
  refine v_lload_n 0 dX4_mixedWith_0 rfl rfl ?_
  refine v_lstore_n [(3, .long p1), (0, .long p1), (2, .ref p2)] dX4_mixedWith_1 rfl (by decide) rfl ?_
  refine v_iconst 0 dX4_mixedWith_2 (by decide) ?_
  refine v_istore [(5, .int 0), (3, .long p1), (0, .long p1), (2, .ref p2)] dX4_mixedWith_3 (by decide) rfl ?_
  refine v_sub [3, 1, 0] rfl ?_
  exact e_X4_mixedWith_5 hfx hn hr hE FU p2 p1 0 G hf
theorem c_X4_mixedWith (l : Launch) (hfl : l.stackTraces = false) (p1 : Int64) (p2 : Nat) : CM l yX4_mixedWith wsX4_mixedWith 2 42 [.long p1, .ref p2] vL (f_X4_mixedWith p1 p2) := CM.start hfl RX4 rfl (by decide +kernel) rfl (Nat.le_of_ble_eq_true rfl) (fun X G z Gf hl hn hr hf => e_X4_mixedWith_0 (by rw [hl]; exact hfl) hn hr ⟨rfl, rfl⟩ p1 p2 G hf)
theorem dn_X4_mixedWith : yX4_mixedWith.cls ≠ "java/lang/invoke/MethodHandle" ∧ yX4_mixedWith.cls ≠ "java/lang/invoke/VarHandle" ∧ (parseMethodDescriptor yX4_mixedWith.desc).map (fun d => d.parameters.length) = some 2 := by decide +kernel
theorem m_X4_digest_k181 : Cond.constantLong RX4 181 (3767) ∈ wsX4_digest := by decide +kernel
theorem m_X4_digest_f12 : Cond.fieldLink RX4 12 RX4 "script" "LEndVersions$Script;" ∈ wsX4_digest := by decide +kernel
theorem m_X4_digest_f148 : Cond.fieldLink RX4 148 RX0 "length" "I" ∈ wsX4_digest := by decide +kernel
theorem m_X4_digest_f30 : Cond.fieldLink RX4 30 RX4 "now" "LEndVersions$State;" ∈ wsX4_digest := by decide +kernel
theorem m_X4_digest_f95 : Cond.fieldLink RX4 95 RX1 "held" "I" ∈ wsX4_digest := by decide +kernel
theorem m_X4_digest_f34 : Cond.fieldLink RX4 34 RX4 "savedStates" "I" ∈ wsX4_digest := by decide +kernel
theorem n_X4_digest_X4 : ∀ w ∈ u_ws RX4 TX4 5, w ∈ wsX4_digest := by decide +kernel
theorem n_X4_digest_X1 : ∀ w ∈ u_ws RX1 TX1 5, w ∈ wsX4_digest := by decide +kernel
theorem n_X4_digest_X0 : ∀ w ∈ u_ws RX0 TX0 8, w ∈ wsX4_digest := by decide +kernel
set_option maxRecDepth 100000 in
set_option maxHeartbeats 4000000 in
theorem e_X4_digest_69 {X : VX} {B : VB} {z : Int64} {Gf : GH}  (hfx : (xl X).stackTraces = false) (hn : (xme X).name = "digest") (hr : (xme X).sig.returnType = (some .long)) (hE : VE B (z, Gf))  : ∀ (n : Nat) (this : Nat) (l1 : Int64) (l3 : Int32) (G : GH), (f_X4_digest_69 n this l1 l3).1 G = some (z, Gf) → V X RX4 cX4_digest 4 5 98 wsX4_digest B (QE X (vL z) Gf B) G 69 [(0, .ref this), (1, .long l1), (3, .int l3)] [] := by
  intro n
  induction n with
  | zero =>
    intro this l1 l3 G hf
    have h0 : (none : Option (Int64 × GH)) = some (z, Gf) := hf
    cases h0
  | succ n ih =>
    intro this l1 l3 G hf
    rw [f_X4_digest_69.eq_2] at hf
    refine v_iload_n 2 dX4_digest_69 rfl rfl ?_
    refine v_aload_n 0 dX4_digest_70 rfl rfl ?_
    refine v_gr 4 3 n_X4_digest_X4 rfl (by decide) rfl m_X4_digest_f30 dX4_digest_71 hf (fun r10 hf => ?_)
    refine v_gi 1 0 n_X4_digest_X1 rfl (by decide) rfl m_X4_digest_f95 dX4_digest_74 hf (fun x11 hf => ?_)
    refine v_icmp_ge 99 dX4_digest_77 (by decide) hf (fun _ hf => ?_) (fun _ hf => ?_)
    · refine v_lload_n 1 dX4_digest_99 rfl rfl ?_
      refine v_aload_n 0 dX4_digest_100 rfl rfl ?_
      refine v_gi 4 4 n_X4_digest_X4 rfl (by decide) rfl m_X4_digest_f34 dX4_digest_101 hf (fun x12 hf => ?_)
      refine v_callSl 2 [.long l1, .int x12] (c_X4_mixed (xl X) hfx l1 x12) gX4_digest_X4_mixed rfl dn_X4_mixed (by decide) (by decide) rfl dX4_digest_104 (Nat.le_of_ble_eq_true rfl) rfl hE hf (fun r13 G hf => ?_)
      exact v_lret hr dX4_digest_107 hE hf
    · refine v_lload_n 1 dX4_digest_80 rfl rfl ?_
      refine v_aload_n 0 dX4_digest_81 rfl rfl ?_
      refine v_gr 4 3 n_X4_digest_X4 rfl (by decide) rfl m_X4_digest_f30 dX4_digest_82 hf (fun r14 hf => ?_)
      refine v_iload_n 2 dX4_digest_85 rfl rfl ?_
      refine v_callVr 1 1 [.int l3] (c_X1_slot (xl X) hfx r14 l3) gX4_digest_X1_slot rfl dv_X1_slot (by decide) (by decide) rfl rfl dX4_digest_86 (Nat.le_of_ble_eq_true rfl) rfl hE hf (fun r15 G hf => ?_)
      refine v_callSl 2 [.long l1, .ref r15] (c_X4_mixedWith (xl X) hfx l1 r15) gX4_digest_X4_mixedWith rfl dn_X4_mixedWith (by decide) (by decide) rfl dX4_digest_89 (Nat.le_of_ble_eq_true rfl) rfl hE hf (fun r16 G hf => ?_)
      refine v_lstore_n [(1, .long r16), (0, .ref this), (3, .int l3)] dX4_digest_92 rfl (by decide) rfl ?_
      refine v_iinc 2 (l3 + 1) [(3, .int (l3 + 1)), (1, .long r16), (0, .ref this)] dX4_digest_93 rfl (by rfl) (by decide) rfl ?_
      refine v_goto 69 dX4_digest_96 (by decide) ?_
      refine v_sub [2, 1, 0] rfl ?_
      exact ih this r16 (l3 + 1) G hf
set_option maxRecDepth 100000 in
set_option maxHeartbeats 4000000 in
theorem e_X4_digest_16 {X : VX} {B : VB} {z : Int64} {Gf : GH}  (hfx : (xl X).stackTraces = false) (hn : (xme X).name = "digest") (hr : (xme X).sig.returnType = (some .long)) (hE : VE B (z, Gf))  : ∀ (n : Nat) (this : Nat) (l1 : Int64) (l3 : Int32) (G : GH), (f_X4_digest_16 n this l1 l3).1 G = some (z, Gf) → V X RX4 cX4_digest 4 5 98 wsX4_digest B (QE X (vL z) Gf B) G 16 [(0, .ref this), (1, .long l1), (3, .int l3)] [] := by
  intro n
  induction n with
  | zero =>
    intro this l1 l3 G hf
    have h0 : (none : Option (Int64 × GH)) = some (z, Gf) := hf
    cases h0
  | succ n ih =>
    intro this l1 l3 G hf
    rw [f_X4_digest_16.eq_2] at hf
    refine v_iload_n 2 dX4_digest_16 rfl rfl ?_
    refine v_bipush 8 dX4_digest_17 (by decide) ?_
    refine v_icmp_ge 41 dX4_digest_19 (by decide) hf (fun _ hf => ?_) (fun _ hf => ?_)
    · refine v_lload_n 1 dX4_digest_41 rfl rfl ?_
      refine v_aload_n 0 dX4_digest_42 rfl rfl ?_
      refine v_gr 4 3 n_X4_digest_X4 rfl (by decide) rfl m_X4_digest_f30 dX4_digest_43 hf (fun r4 hf => ?_)
      refine v_iconst 0 dX4_digest_46 (by decide) ?_
      refine v_callVi 1 1 [.int 0] (c_X1_settingOf (xl X) hfx r4 0) gX4_digest_X1_settingOf rfl dv_X1_settingOf (by decide) (by decide) rfl rfl dX4_digest_47 (Nat.le_of_ble_eq_true rfl) rfl hE hf (fun x5 G hf => ?_)
      refine v_callSl 2 [.long l1, .int x5] (c_X4_mixed (xl X) hfx l1 x5) gX4_digest_X4_mixed rfl dn_X4_mixed (by decide) (by decide) rfl dX4_digest_50 (Nat.le_of_ble_eq_true rfl) rfl hE hf (fun r6 G hf => ?_)
      refine v_lstore_n [(1, .long r6), (0, .ref this), (3, .int l3)] dX4_digest_53 rfl (by decide) rfl ?_
      refine v_lload_n 0 dX4_digest_54 rfl rfl ?_
      refine v_aload_n 1 dX4_digest_55 rfl rfl ?_
      refine v_gr 4 3 n_X4_digest_X4 rfl (by decide) rfl m_X4_digest_f30 dX4_digest_56 hf (fun r7 hf => ?_)
      refine v_iconst 1 dX4_digest_59 (by decide) ?_
      refine v_callVi 1 1 [.int 1] (c_X1_settingOf (xl X) hfx r7 1) gX4_digest_X1_settingOf rfl dv_X1_settingOf (by decide) (by decide) rfl rfl dX4_digest_60 (Nat.le_of_ble_eq_true rfl) rfl hE hf (fun x8 G hf => ?_)
      refine v_callSl 2 [.long r6, .int x8] (c_X4_mixed (xl X) hfx r6 x8) gX4_digest_X4_mixed rfl dn_X4_mixed (by decide) (by decide) rfl dX4_digest_63 (Nat.le_of_ble_eq_true rfl) rfl hE hf (fun r9 G hf => ?_)
      refine v_lstore_n [(1, .long r9), (0, .ref this), (3, .int l3)] dX4_digest_66 rfl (by decide) rfl ?_
      refine v_iconst 0 dX4_digest_67 (by decide) ?_
      refine v_istore_n [(3, .int 0), (1, .long r9), (0, .ref this)] dX4_digest_68 rfl (by decide) rfl ?_
      refine v_sub [2, 1, 0] rfl ?_
      exact e_X4_digest_69 hfx hn hr hE FU this r9 0 G hf
    · refine v_lload_n 1 dX4_digest_22 rfl rfl ?_
      refine v_aload_n 0 dX4_digest_23 rfl rfl ?_
      refine v_gr 4 3 n_X4_digest_X4 rfl (by decide) rfl m_X4_digest_f30 dX4_digest_24 hf (fun r17 hf => ?_)
      refine v_iload_n 2 dX4_digest_27 rfl rfl ?_
      refine v_callVi 1 1 [.int l3] (c_X1_total (xl X) hfx r17 l3) gX4_digest_X1_total rfl dv_X1_total (by decide) (by decide) rfl rfl dX4_digest_28 (Nat.le_of_ble_eq_true rfl) rfl hE hf (fun x18 G hf => ?_)
      refine v_callSl 2 [.long l1, .int x18] (c_X4_mixed (xl X) hfx l1 x18) gX4_digest_X4_mixed rfl dn_X4_mixed (by decide) (by decide) rfl dX4_digest_31 (Nat.le_of_ble_eq_true rfl) rfl hE hf (fun r19 G hf => ?_)
      refine v_lstore_n [(1, .long r19), (0, .ref this), (3, .int l3)] dX4_digest_34 rfl (by decide) rfl ?_
      refine v_iinc 2 (l3 + 1) [(3, .int (l3 + 1)), (1, .long r19), (0, .ref this)] dX4_digest_35 rfl (by rfl) (by decide) rfl ?_
      refine v_goto 16 dX4_digest_38 (by decide) ?_
      refine v_sub [2, 1, 0] rfl ?_
      exact ih this r19 (l3 + 1) G hf
set_option maxRecDepth 100000 in
set_option maxHeartbeats 4000000 in
theorem e_X4_digest_0 {X : VX} {B : VB} {z : Int64} {Gf : GH}  (hfx : (xl X).stackTraces = false) (hn : (xme X).name = "digest") (hr : (xme X).sig.returnType = (some .long)) (hE : VE B (z, Gf))  (this : Nat) (G : GH) (hf : (f_X4_digest this).1 G = some (z, Gf)) : V X RX4 cX4_digest 4 5 98 wsX4_digest B (QE X (vL z) Gf B) G 0 [(0, .ref this)] [] := by
  unfold f_X4_digest at hf
  refine v_ldc2 m_X4_digest_k181 dX4_digest_0 ?_
  refine v_aload_n 0 dX4_digest_3 rfl rfl ?_
  refine v_gr 4 0 n_X4_digest_X4 rfl (by decide) rfl m_X4_digest_f12 dX4_digest_4 hf (fun r1 hf => ?_)
  refine v_gi 0 0 n_X4_digest_X0 rfl (by decide) rfl m_X4_digest_f148 dX4_digest_7 hf (fun x2 hf => ?_)
  refine v_callSl 2 [.long (3767 : Int64), .int x2] (c_X4_mixed (xl X) hfx (3767 : Int64) x2) gX4_digest_X4_mixed rfl dn_X4_mixed (by decide) (by decide) rfl dX4_digest_10 (Nat.le_of_ble_eq_true rfl) rfl hE hf (fun r3 G hf => ?_)
  refine v_lstore_n [(1, .long r3), (0, .ref this)] dX4_digest_13 rfl (by decide) rfl ?_
  refine v_iconst 0 dX4_digest_14 (by decide) ?_
  refine v_istore_n [(3, .int 0), (1, .long r3), (0, .ref this)] dX4_digest_15 rfl (by decide) rfl ?_
  refine v_sub [2, 1, 0] rfl ?_
  exact e_X4_digest_16 hfx hn hr hE FU this r3 0 G hf
theorem c_X4_digest (l : Launch) (hfl : l.stackTraces = false) (this : Nat) : CM l yX4_digest wsX4_digest 5 98 [.ref this] vL (f_X4_digest this) := CM.start hfl RX4 rfl (by decide +kernel) rfl (Nat.le_of_ble_eq_true rfl) (fun X G z Gf hl hn hr hf => e_X4_digest_0 (by rw [hl]; exact hfl) hn hr ⟨rfl, rfl⟩ this G hf)
theorem dv_X4_digest : yX4_digest.cls = RX4 ∧ yX4_digest.cls ≠ "java/lang/invoke/MethodHandle" ∧ yX4_digest.cls ≠ "java/lang/invoke/VarHandle" ∧ (parseMethodDescriptor yX4_digest.desc).map (fun d => d.parameters.length) = some 0 := by decide +kernel
