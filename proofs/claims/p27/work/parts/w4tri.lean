/-! walks of the trial (class X2) -/
theorem m_X2_init_o1 : Cond.methodLink RX2 1 objectInit ∈ wsX2_init := by decide +kernel
theorem m_X2_init_oi : Cond.instanceMethod objectInit ∈ wsX2_init := by decide +kernel
theorem m_X2_init_oc : Cond.code objectInit ⟨#[0xb1]⟩ 1 none ∈ wsX2_init := by decide +kernel
theorem m_X2_init_f7 : Cond.fieldLink RX2 7 RX2 "stalled" "I" ∈ wsX2_init := by decide +kernel
theorem m_X2_init_f13 : Cond.fieldLink RX2 13 RX2 "greatestCost" "I" ∈ wsX2_init := by decide +kernel
theorem m_X2_init_c16 : Cond.classLink RX2 16 RX3 ∈ wsX2_init := by decide +kernel
theorem m_X2_init_inX3 : Cond.instantiable RX3 11 ∈ wsX2_init := by decide +kernel
theorem m_X2_init_itX3 : Cond.initialized RX3 ∈ wsX2_init := by decide +kernel
theorem m_X2_init_f19 : Cond.fieldLink RX2 19 RX2 "row" "LEndVersions$Version;" ∈ wsX2_init := by decide +kernel
theorem n_X2_init_X2 : ∀ w ∈ u_ws RX2 TX2 3, w ∈ wsX2_init := by decide +kernel
theorem m_X2_init_l18 : Cond.methodLink RX2 18 yX3_init ∈ wsX2_init := by decide +kernel
theorem m_X2_init_j18 : Cond.instanceMethod yX3_init ∈ wsX2_init := by decide +kernel
theorem n_X2_init_X3 : ∀ w ∈ u_ws RX3 TX3 11, w ∈ wsX2_init := by decide +kernel
set_option maxRecDepth 100000 in
set_option maxHeartbeats 4000000 in
theorem e_X2_init_0 {X : VX} {B : VB} {z : Unit} {Gf : GH}  (hfx : (xl X).stackTraces = false) (hn : (xme X).name = "<init>") (hr : (xme X).sig.returnType = none) (hE : VE B (z, Gf))  (this : Nat) (G : GH) (hf : (f_X2_init this).1 G = some (z, Gf)) : V X RX2 cX2_init 1 2 32 wsX2_init B (QE X (vV z) Gf B) G 0 [(0, .ref this)] [] := by
  unfold f_X2_init at hf
  refine v_aload_n 0 dX2_init_0 rfl rfl ?_
  refine v_objInit m_X2_init_o1 m_X2_init_oi m_X2_init_oc dX2_init_1 (by decide) (by decide) ?_
  refine v_aload_n 0 dX2_init_4 rfl rfl ?_
  refine v_iconst 0 dX2_init_5 (by decide) ?_
  refine v_put 2 0 .int n_X2_init_X2 tyX2 tyX2_ok nmX2 rfl (by decide) rfl m_X2_init_f7 rfl (by decide +kernel) rfl rfl dX2_init_6 hf (fun G _ hf => ?_)
  refine v_aload_n 0 dX2_init_9 rfl rfl ?_
  refine v_iconst 0 dX2_init_10 (by decide) ?_
  refine v_put 2 1 .int n_X2_init_X2 tyX2 tyX2_ok nmX2 rfl (by decide) rfl m_X2_init_f13 rfl (by decide +kernel) rfl rfl dX2_init_11 hf (fun G _ hf => ?_)
  refine v_aload_n 0 dX2_init_14 rfl rfl ?_
  refine v_newo 3 tyX3 n_X2_init_X3 tyX3_ok rfl m_X2_init_c16 m_X2_init_inX3 m_X2_init_itX3 dfX3 dX2_init_15 hE hf (fun a1 G hf => ?_)
  refine v_dup dX2_init_18 rfl ?_
  refine v_callI 0 [] (c_X3_init (xl X) hfx a1) gX2_init_X3_init rfl m_X2_init_itX3 m_X2_init_l18 m_X2_init_j18 rfl dn_X3_init (by decide) (by decide) rfl dX2_init_19 (Nat.le_of_ble_eq_true rfl) rfl hE hf (fun G hf => ?_)
  refine v_putF 2 2 (.object "EndVersions$Version") hn n_X2_init_X2 tyX2 tyX2_ok nmX2 rfl (by decide) rfl m_X2_init_f19 rfl rfl (by decide +kernel) rfl rfl dX2_init_22 hf (fun G _ hf => ?_)
  exact v_vret hr dX2_init_25 hE hf
theorem c_X2_init (l : Launch) (hfl : l.stackTraces = false) (this : Nat) : CM l yX2_init wsX2_init 2 32 [.ref this] vV (f_X2_init this) := CM.start hfl RX2 rfl (by decide +kernel) rfl (Nat.le_of_ble_eq_true rfl) (fun X G z Gf hl hn hr hf => e_X2_init_0 (by rw [hl]; exact hfl) hn hr ⟨rfl, rfl⟩ this G hf)
theorem dn_X2_init : yX2_init.cls ≠ "java/lang/invoke/MethodHandle" ∧ yX2_init.cls ≠ "java/lang/invoke/VarHandle" ∧ (parseMethodDescriptor yX2_init.desc).map (fun d => d.parameters.length) = some 0 := by decide +kernel
theorem m_X2_play_f7 : Cond.fieldLink RX2 7 RX2 "stalled" "I" ∈ wsX2_play := by decide +kernel
theorem m_X2_play_f13 : Cond.fieldLink RX2 13 RX2 "greatestCost" "I" ∈ wsX2_play := by decide +kernel
theorem m_X2_play_f19 : Cond.fieldLink RX2 19 RX2 "row" "LEndVersions$Version;" ∈ wsX2_play := by decide +kernel
theorem m_X2_play_f33 : Cond.fieldLink RX2 33 RX0 "acts" "I" ∈ wsX2_play := by decide +kernel
theorem m_X2_play_m42 : Cond.methodLink RX2 42 Lib.Math.min.name ∈ wsX2_play := by decide +kernel
theorem m_X2_play_msmin : Cond.static Lib.Math.min.name ∈ wsX2_play := by decide +kernel
theorem m_X2_play_mi : Cond.initialized "java/lang/Math" ∈ wsX2_play := by decide +kernel
theorem m_X2_play_mcmin : Cond.code Lib.Math.min.name Lib.Math.min.code 2 (some .int) ∈ wsX2_play := by decide +kernel
theorem m_X2_play_f59 : Cond.fieldLink RX2 59 RX1 "ratio" "I" ∈ wsX2_play := by decide +kernel
theorem m_X2_play_f66 : Cond.fieldLink RX2 66 RX3 "extra" "I" ∈ wsX2_play := by decide +kernel
theorem m_X2_play_f69 : Cond.fieldLink RX2 69 RX3 "cost" "I" ∈ wsX2_play := by decide +kernel
theorem m_X2_play_m72 : Cond.methodLink RX2 72 Lib.Math.max.name ∈ wsX2_play := by decide +kernel
theorem m_X2_play_msmax : Cond.static Lib.Math.max.name ∈ wsX2_play := by decide +kernel
theorem m_X2_play_mcmax : Cond.code Lib.Math.max.name Lib.Math.max.code 2 (some .int) ∈ wsX2_play := by decide +kernel
theorem n_X2_play_X2 : ∀ w ∈ u_ws RX2 TX2 3, w ∈ wsX2_play := by decide +kernel
theorem n_X2_play_X3 : ∀ w ∈ u_ws RX3 TX3 11, w ∈ wsX2_play := by decide +kernel
theorem n_X2_play_X1 : ∀ w ∈ u_ws RX1 TX1 5, w ∈ wsX2_play := by decide +kernel
theorem n_X2_play_X0 : ∀ w ∈ u_ws RX0 TX0 8, w ∈ wsX2_play := by decide +kernel
set_option maxRecDepth 100000 in
set_option maxHeartbeats 4000000 in
theorem e_X2_play_38 {X : VX} {B : VB} {z : Unit} {Gf : GH}  (hfx : (xl X).stackTraces = false) (hn : (xme X).name = "play") (hr : (xme X).sig.returnType = none) (hE : VE B (z, Gf))  : ∀ (n : Nat) (this : Nat) (p1 : Nat) (p2 : Nat) (p4 : Int32) (l5 : Int32) (l6 : Int32) (G : GH), (f_X2_play_38 n this p1 p2 p4 l5 l6).1 G = some (z, Gf) → V X RX2 cX2_play 7 4 94 wsX2_play B (QE X (vV z) Gf B) G 38 [(0, .ref this), (1, .ref p1), (2, .ref p2), (4, .int p4), (5, .int l5), (6, .int l6)] [] := by
  intro n
  induction n with
  | zero =>
    intro this p1 p2 p4 l5 l6 G hf
    have h0 : (none : Option (Unit × GH)) = some (z, Gf) := hf
    cases h0
  | succ n ih =>
    intro this p1 p2 p4 l5 l6 G hf
    rw [f_X2_play_38.eq_2] at hf
    refine v_iload 5 dX2_play_38 rfl ?_
    refine v_iload 4 dX2_play_40 rfl ?_
    refine v_icmp_ge 130 dX2_play_42 (by decide) hf (fun _ hf => ?_) (fun _ hf => ?_)
    · exact v_vret hr dX2_play_130 hE hf
    · refine v_aload_n 0 dX2_play_45 rfl rfl ?_
      refine v_gr 2 2 n_X2_play_X2 rfl (by decide) rfl m_X2_play_f19 dX2_play_46 hf (fun r5 hf => ?_)
      refine v_aload_n 1 dX2_play_49 rfl rfl ?_
      refine v_iload 5 dX2_play_50 rfl ?_
      refine v_callVi 0 1 [.int l6] (c_X0_actAt (xl X) hfx p1 l6) gX2_play_X0_actAt rfl dv_X0_actAt (by decide) (by decide) rfl rfl dX2_play_52 (Nat.le_of_ble_eq_true rfl) rfl hE hf (fun x6 G hf => ?_)
      refine v_callVi 3 1 [.int x6] (c_X3_permits (xl X) hfx r5 x6) gX2_play_X3_permits rfl dv_X3_permits (by decide) (by decide) rfl rfl dX2_play_55 (Nat.le_of_ble_eq_true rfl) rfl hE hf (fun x7 G hf => ?_)
      refine v_if_eq 130 dX2_play_58 (by decide) hf (fun _ hf => ?_) (fun _ hf => ?_)
      · exact v_vret hr dX2_play_130 hE hf
      · refine v_aload_n 0 dX2_play_61 rfl rfl ?_
        refine v_gr 2 2 n_X2_play_X2 rfl (by decide) rfl m_X2_play_f19 dX2_play_62 hf (fun r8 hf => ?_)
        refine v_aload_n 1 dX2_play_65 rfl rfl ?_
        refine v_iload 5 dX2_play_66 rfl ?_
        refine v_callVi 0 1 [.int l6] (c_X0_actAt (xl X) hfx p1 l6) gX2_play_X0_actAt rfl dv_X0_actAt (by decide) (by decide) rfl rfl dX2_play_68 (Nat.le_of_ble_eq_true rfl) rfl hE hf (fun x9 G hf => ?_)
        refine v_aload_n 1 dX2_play_71 rfl rfl ?_
        refine v_iload 5 dX2_play_72 rfl ?_
        refine v_callVi 0 1 [.int l6] (c_X0_valueAt (xl X) hfx p1 l6) gX2_play_X0_valueAt rfl dv_X0_valueAt (by decide) (by decide) rfl rfl dX2_play_74 (Nat.le_of_ble_eq_true rfl) rfl hE hf (fun x10 G hf => ?_)
        refine v_iload 3 dX2_play_77 rfl ?_
        refine v_aload_n 2 dX2_play_79 rfl rfl ?_
        refine v_gi 1 2 n_X2_play_X1 rfl (by decide) rfl m_X2_play_f59 dX2_play_80 hf (fun x11 hf => ?_)
        refine v_callVv 3 4 [.int x9, .int x10, .int p4, .int x11] (c_X3_perform (xl X) hfx r8 x9 x10 p4 x11) gX2_play_X3_perform rfl dv_X3_perform (by decide) (by decide) rfl rfl dX2_play_83 (Nat.le_of_ble_eq_true rfl) rfl hE hf (fun _ G hf => ?_)
        refine v_aload_n 0 dX2_play_86 rfl rfl ?_
        refine v_gr 2 2 n_X2_play_X2 rfl (by decide) rfl m_X2_play_f19 dX2_play_87 hf (fun r12 hf => ?_)
        refine v_gi 3 9 n_X2_play_X3 rfl (by decide) rfl m_X2_play_f66 dX2_play_90 hf (fun x13 hf => ?_)
        refine v_if_le 106 dX2_play_93 (by decide) hf (fun _ hf => ?_) (fun _ hf => ?_)
        · refine v_aload_n 0 dX2_play_106 rfl rfl ?_
          refine v_aload_n 0 dX2_play_107 rfl rfl ?_
          refine v_gi 2 1 n_X2_play_X2 rfl (by decide) rfl m_X2_play_f13 dX2_play_108 hf (fun x14 hf => ?_)
          refine v_aload_n 0 dX2_play_111 rfl rfl ?_
          refine v_gr 2 2 n_X2_play_X2 rfl (by decide) rfl m_X2_play_f19 dX2_play_112 hf (fun r15 hf => ?_)
          refine v_gi 3 8 n_X2_play_X3 rfl (by decide) rfl m_X2_play_f69 dX2_play_115 hf (fun x16 hf => ?_)
          refine v_max m_X2_play_m72 m_X2_play_msmax m_X2_play_mi m_X2_play_mcmax dX2_play_118 (by decide) (Nat.le_of_ble_eq_true rfl) hE hf ?_
          refine v_put 2 1 .int n_X2_play_X2 tyX2 tyX2_ok nmX2 rfl (by decide) rfl m_X2_play_f13 rfl (by decide +kernel) rfl rfl dX2_play_121 hf (fun G _ hf => ?_)
          refine v_iinc 5 (l6 + 1) [(6, .int (l6 + 1)), (0, .ref this), (1, .ref p1), (2, .ref p2), (4, .int p4), (5, .int l5)] dX2_play_124 rfl (by rfl) (by decide) rfl ?_
          refine v_goto 38 dX2_play_127 (by decide) ?_
          refine v_sub [1, 2, 3, 4, 5, 0] rfl ?_
          exact ih this p1 p2 p4 l5 (l6 + 1) G hf
        · refine v_aload_n 0 dX2_play_96 rfl rfl ?_
          refine v_dup dX2_play_97 rfl ?_
          refine v_gi 2 0 n_X2_play_X2 rfl (by decide) rfl m_X2_play_f7 dX2_play_98 hf (fun x17 hf => ?_)
          refine v_iconst 1 dX2_play_101 (by decide) ?_
          refine v_iadd dX2_play_102 ?_
          refine v_put 2 0 .int n_X2_play_X2 tyX2 tyX2_ok nmX2 rfl (by decide) rfl m_X2_play_f7 rfl (by decide +kernel) rfl rfl dX2_play_103 hf (fun G _ hf => ?_)
          refine v_aload_n 0 dX2_play_106 rfl rfl ?_
          refine v_aload_n 0 dX2_play_107 rfl rfl ?_
          refine v_gi 2 1 n_X2_play_X2 rfl (by decide) rfl m_X2_play_f13 dX2_play_108 hf (fun x18 hf => ?_)
          refine v_aload_n 0 dX2_play_111 rfl rfl ?_
          refine v_gr 2 2 n_X2_play_X2 rfl (by decide) rfl m_X2_play_f19 dX2_play_112 hf (fun r19 hf => ?_)
          refine v_gi 3 8 n_X2_play_X3 rfl (by decide) rfl m_X2_play_f69 dX2_play_115 hf (fun x20 hf => ?_)
          refine v_max m_X2_play_m72 m_X2_play_msmax m_X2_play_mi m_X2_play_mcmax dX2_play_118 (by decide) (Nat.le_of_ble_eq_true rfl) hE hf ?_
          refine v_put 2 1 .int n_X2_play_X2 tyX2 tyX2_ok nmX2 rfl (by decide) rfl m_X2_play_f13 rfl (by decide +kernel) rfl rfl dX2_play_121 hf (fun G _ hf => ?_)
          refine v_iinc 5 (l6 + 1) [(6, .int (l6 + 1)), (0, .ref this), (1, .ref p1), (2, .ref p2), (4, .int p4), (5, .int l5)] dX2_play_124 rfl (by rfl) (by decide) rfl ?_
          refine v_goto 38 dX2_play_127 (by decide) ?_
          refine v_sub [1, 2, 3, 4, 5, 0] rfl ?_
          exact ih this p1 p2 p4 l5 (l6 + 1) G hf
set_option maxRecDepth 100000 in
set_option maxHeartbeats 4000000 in
theorem e_X2_play_0 {X : VX} {B : VB} {z : Unit} {Gf : GH}  (hfx : (xl X).stackTraces = false) (hn : (xme X).name = "play") (hr : (xme X).sig.returnType = none) (hE : VE B (z, Gf))  (this : Nat) (p1 : Nat) (p2 : Nat) (p3 : Int32) (p4 : Int32) (G : GH) (hf : (f_X2_play this p1 p2 p3 p4).1 G = some (z, Gf)) : V X RX2 cX2_play 7 4 94 wsX2_play B (QE X (vV z) Gf B) G 0 [(0, .ref this), (1, .ref p1), (2, .ref p2), (3, .int p3), (4, .int p4)] [] := by
  unfold f_X2_play at hf
  refine v_aload_n 0 dX2_play_0 rfl rfl ?_
  refine v_iconst 0 dX2_play_1 (by decide) ?_
  refine v_put 2 0 .int n_X2_play_X2 tyX2 tyX2_ok nmX2 rfl (by decide) rfl m_X2_play_f7 rfl (by decide +kernel) rfl rfl dX2_play_2 hf (fun G _ hf => ?_)
  refine v_aload_n 0 dX2_play_5 rfl rfl ?_
  refine v_iconst 0 dX2_play_6 (by decide) ?_
  refine v_put 2 1 .int n_X2_play_X2 tyX2 tyX2_ok nmX2 rfl (by decide) rfl m_X2_play_f13 rfl (by decide +kernel) rfl rfl dX2_play_7 hf (fun G _ hf => ?_)
  refine v_aload_n 0 dX2_play_10 rfl rfl ?_
  refine v_gr 2 2 n_X2_play_X2 rfl (by decide) rfl m_X2_play_f19 dX2_play_11 hf (fun r1 hf => ?_)
  refine v_aload_n 2 dX2_play_14 rfl rfl ?_
  refine v_iload_n 3 dX2_play_15 rfl rfl ?_
  refine v_callVr 1 1 [.int p3] (c_X1_slot (xl X) hfx p2 p3) gX2_play_X1_slot rfl dv_X1_slot (by decide) (by decide) rfl rfl dX2_play_16 (Nat.le_of_ble_eq_true rfl) rfl hE hf (fun r2 G hf => ?_)
  refine v_callVv 3 1 [.ref r2] (c_X3_copyFrom (xl X) hfx r1 r2) gX2_play_X3_copyFrom rfl dv_X3_copyFrom (by decide) (by decide) rfl rfl dX2_play_19 (Nat.le_of_ble_eq_true rfl) rfl hE hf (fun _ G hf => ?_)
  refine v_aload_n 1 dX2_play_22 rfl rfl ?_
  refine v_gi 0 1 n_X2_play_X0 rfl (by decide) rfl m_X2_play_f33 dX2_play_23 hf (fun x3 hf => ?_)
  refine v_aload_n 2 dX2_play_26 rfl rfl ?_
  refine v_callVi 1 0 [] (c_X1_left (xl X) hfx p2) gX2_play_X1_left rfl dv_X1_left (by decide) (by decide) rfl rfl dX2_play_27 (Nat.le_of_ble_eq_true rfl) rfl hE hf (fun x4 G hf => ?_)
  refine v_min m_X2_play_m42 m_X2_play_msmin m_X2_play_mi m_X2_play_mcmin dX2_play_30 (by decide) (Nat.le_of_ble_eq_true rfl) hE hf ?_
  refine v_istore [(5, .int (if x4 < x3 then x4 else x3)), (0, .ref this), (1, .ref p1), (2, .ref p2), (3, .int p3), (4, .int p4)] dX2_play_33 (by decide) rfl ?_
  refine v_iconst 0 dX2_play_35 (by decide) ?_
  refine v_istore [(6, .int 0), (5, .int (if x4 < x3 then x4 else x3)), (0, .ref this), (1, .ref p1), (2, .ref p2), (3, .int p3), (4, .int p4)] dX2_play_36 (by decide) rfl ?_
  refine v_sub [2, 3, 4, 6, 1, 0] rfl ?_
  exact e_X2_play_38 hfx hn hr hE FU this p1 p2 p4 (if x4 < x3 then x4 else x3) 0 G hf
theorem c_X2_play (l : Launch) (hfl : l.stackTraces = false) (this : Nat) (p1 : Nat) (p2 : Nat) (p3 : Int32) (p4 : Int32) : CM l yX2_play wsX2_play 4 94 [.ref this, .ref p1, .ref p2, .int p3, .int p4] vV (f_X2_play this p1 p2 p3 p4) := CM.start hfl RX2 rfl (by decide +kernel) rfl (Nat.le_of_ble_eq_true rfl) (fun X G z Gf hl hn hr hf => e_X2_play_0 (by rw [hl]; exact hfl) hn hr ⟨rfl, rfl⟩ this p1 p2 p3 p4 G hf)
theorem dv_X2_play : yX2_play.cls = RX2 ∧ yX2_play.cls ≠ "java/lang/invoke/MethodHandle" ∧ yX2_play.cls ≠ "java/lang/invoke/VarHandle" ∧ (parseMethodDescriptor yX2_play.desc).map (fun d => d.parameters.length) = some 4 := by decide +kernel
