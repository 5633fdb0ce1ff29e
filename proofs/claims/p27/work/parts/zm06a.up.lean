/-! walk of the law's up (printed by wip/p27/all.py) -/
theorem m_L_up_k8 : Cond.constant RL 8 2147483647 ∈ wsL_up := by decide +kernel
set_option maxRecDepth 100000 in
set_option maxHeartbeats 4000000 in
theorem e_L_up_0 {X : VX} {B : VB} {z : Int32} {Gf : GH}  (hfx : (xl X).stackTraces = false) (hn : (xme X).name = "up") (hr : (xme X).sig.returnType = (some .int)) (hE : VE B (z, Gf))  (p1 : Int32) (p2 : Int32) (G : GH) (hf : (f_L_up p1 p2).1 G = some (z, Gf)) : V X RL cL_up 2 0 0 wsL_up B (QE X (vI z) Gf B) G 0 [(0, .int p1), (1, .int p2)] [] := by
  unfold f_L_up at hf
  refine v_iload_n 0 dL_up_0 rfl rfl ?_
  refine v_ldci m_L_up_k8 dL_up_1 ?_
  refine v_iand dL_up_3 ?_
  refine v_iload_n 1 dL_up_4 rfl rfl ?_
  refine v_irem dL_up_5 hf (fun x1 hf => ?_)
  exact v_iret hr dL_up_6 hE hf
theorem c_L_up (l : Launch) (hfl : l.stackTraces = false) (p1 : Int32) (p2 : Int32) : CM l yL_up wsL_up 0 0 [.int p1, .int p2] vI (f_L_up p1 p2) := CM.start hfl RL rfl (by decide +kernel) rfl (Nat.le_of_ble_eq_true rfl) (fun X G z Gf hl hn hr hf => e_L_up_0 (by rw [hl]; exact hfl) hn hr ⟨rfl, rfl⟩ p1 p2 G hf)
theorem dn_L_up : yL_up.cls ≠ "java/lang/invoke/MethodHandle" ∧ yL_up.cls ≠ "java/lang/invoke/VarHandle" ∧ (parseMethodDescriptor yL_up.desc).map (fun d => d.parameters.length) = some 2 := by decide +kernel
