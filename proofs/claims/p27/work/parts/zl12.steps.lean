/-! LAW, steps: the class's calls as the law makes them, one call a step. -/
theorem yr0 (E1 E2 E3 : String) (x : Int) : yr 0 E1 E2 E3 x = .inr (iI x) := rfl
theorem i_le {x y : Int32} {a b : Int} (hx : x = iI a) (hy : y = iI b) (h : (-2147483648 ≤ a ∧ a < 2147483648) ∧ (-2147483648 ≤ b ∧ b < 2147483648) ∧ a ≤ b) : x ≤ y := by
  rw [hx, hy, iI_le h.1.1 h.1.2 h.2.1.1 h.2.1.2]
  exact h.2.2
theorem i_nle {x y : Int32} {a b : Int} (hx : x = iI a) (hy : y = iI b) (h : (-2147483648 ≤ a ∧ a < 2147483648) ∧ (-2147483648 ≤ b ∧ b < 2147483648) ∧ b < a) : ¬ x ≤ y := by
  rw [hx, hy, iI_le h.1.1 h.1.2 h.2.1.1 h.2.1.2]
  omega
theorem i_lt {x y : Int32} {a b : Int} (hx : x = iI a) (hy : y = iI b) (h : (-2147483648 ≤ a ∧ a < 2147483648) ∧ (-2147483648 ≤ b ∧ b < 2147483648) ∧ a < b) : x < y := by
  rw [hx, hy, iI_lt h.1.1 h.1.2 h.2.1.1 h.2.1.2]
  exact h.2.2
theorem i_nlt {x y : Int32} {a b : Int} (hx : x = iI a) (hy : y = iI b) (h : (-2147483648 ≤ a ∧ a < 2147483648) ∧ (-2147483648 ≤ b ∧ b < 2147483648) ∧ b ≤ a) : ¬ x < y := by
  rw [hx, hy, iI_lt h.1.1 h.1.2 h.2.1.1 h.2.1.2]
  omega
theorem i_eq {x y : Int32} {a b : Int} (hx : x = iI a) (hy : y = iI b) (h : a = b) : x = y := by
  rw [hx, hy, h]
theorem i_ne {x y : Int32} {a b : Int} (hx : x = iI a) (hy : y = iI b) (h : (-2147483648 ≤ a ∧ a < 2147483648) ∧ (-2147483648 ≤ b ∧ b < 2147483648) ∧ a ≠ b) : ¬ x = y := by
  rw [hx, hy, iI_eq h.1.1 h.1.2 h.2.1.1 h.2.1.2]
  exact h.2.2
theorem iI_s (i : Nat) : iI (i : Int) + 1 = iI ((i + 1 : Nat) : Int) := by rw [lz1, iI_add]; rfl
section Steps
variable {G : GH} {ow : Nat → Nat} {p : Nat} {w : WW} {P : Nat}
theorem t_q {α β : Type} {F : MX α} {K : α → MX β} {x : α} {y : String ⊕ β} {w1 w2 : WW} (h : RepC G ow p w P) (hf : RT F G ow p w P (.inr x) w1 0) (kk : ∀ G' ow' P', RepC G' ow' p w1 P' → RT (K x) G' ow' p w1 P' y w2 0) : RT (mbind (mchk p 4) (fun _ => xbind F K)) G ow p w P y w2 0 := rt_ck h (rt_xin hf kk)
theorem t_m {α β : Type} {F : MM α} {K : α → MM β} {x : α} {y : β} {w1 w2 : WW} (h : RepC G ow p w P) (hf : RT F G ow p w P x w1 0) (kk : ∀ G' ow' P', RepC G' ow' p w1 P' → RT (K x) G' ow' p w1 P' y w2 0) : RT (mbind (mchk p 4) (fun _ => mbind F K)) G ow p w P y w2 0 := rt_ck h (rt_bind0 hf kk)
theorem t_pure {α : Type} {x : α} (h : RepC G ow p w P) : RT (mpure x : MM α) G ow p w P x w 0 := (rc_pure h).rt
/-- a step that reads nothing of the heap -/
theorem t_val {α β : Type} {F : MM α} {K : α → MM β} {x : α} {y : β} {w2 : WW} (h : RepC G ow p w P) (hf : F.1 G = some (x, G)) (k : RT (K x) G ow p w P y w2 0) : RT (mbind F K) G ow p w P y w2 0 := rt_eq k (mbind_ok hf)
theorem t_ret {b : Int32} (h : RepC G ow p w P) (hb : b = 0 ∨ b = 1) : RT (mbind (mbool b) (fun _ => (mpure (.inr b) : MX Int32))) G ow p w P (.inr b) w 0 := by
  refine t_val (x := ()) h ?_ (t_pure h)
  rcases hb with e | e <;> subst e <;> rfl
theorem t_true (h : RepC G ow p w P) : RT (mbind (mbool 1) (fun _ => (mpure (.inr 1) : MX Int32))) G ow p w P (.inr 1) w 0 := t_ret h (Or.inr rfl)
theorem q_up {x y : Int32} {n : Int} (hy : y = iI n) (hn : 1 ≤ n ∧ n ≤ 100000) (H : GH) : ∃ k : Nat, (k : Int) < n ∧ (f_L_up x y).1 H = some (iI k, H) := by
  have hmod : ∃ r : Int, 0 ≤ r ∧ r < n ∧ (x &&& 2147483647) - (x &&& 2147483647) / y * y = iI r := by
    have hx : ∃ m : Int, 0 ≤ m ∧ m < 2147483648 ∧ (x &&& 2147483647) = iI m := by
      have hmsb : (x &&& 2147483647).toBitVec.msb = false := by
        rw [Int32.toBitVec_and, BitVec.msb_and, show (2147483647 : Int32).toBitVec.msb = false by decide, Bool.and_false]
      refine ⟨(x &&& 2147483647).toInt, ?_, Int32.toInt_lt _, (Int32.ofInt_toInt _).symm⟩
      show 0 ≤ (x &&& 2147483647).toBitVec.toInt
      rw [BitVec.toInt_eq_toNat_of_msb hmsb]
      exact Int.natCast_nonneg _
    obtain ⟨m, m1, m2, m3⟩ := hx
    refine ⟨m % n, Int.emod_nonneg _ (by omega), Int.emod_lt_of_pos _ (by omega), ?_⟩
    rw [m3, hy, iI_div m1 m2 (by omega) (by omega), iI_mul, iI_sub]
    congr 1
    rw [Int.emod_def, Int.mul_comm n]
  obtain ⟨r, r1, r2, r3⟩ := hmod
  refine ⟨r.toNat, by omega, ?_⟩
  unfold f_L_up
  have hne : ¬ y = 0 := by
    rw [hy, show (0 : Int32) = iI 0 from rfl, iI_eq (by omega) (by omega) (by omega) (by omega)]
    omega
  have h1 : (mrem (x &&& 2147483647) y).1 H = some (iI r.toNat, H) := by
    show Option.map _ (if y = 0 then none else some _) = _
    rw [if_neg hne, r3, Int.toNat_of_nonneg r1]
    rfl
  exact mbind_ok h1
theorem irg_s {a : Int} (h : -2147483648 ≤ a ∧ a < 2147483648) : irg a := h
theorem inV_t {s : SS} {v : Nat} (hv : v < s.2.2.1) : inV s (v : Int) = true := decide_eq_true ⟨by omega, by omega⟩
theorem irg_v {w : WW} (hw : WI w) {v : Nat} (hv : v < w.1.2.2.1) : irg (v : Int) := by
  have := hw.1.2.2.1
  unfold irg
  omega
theorem q_ver (hw : WI w) (h : RepC G ow p w P) {a b : Int32} {v : Nat} {k : Int} (ha : a = iI v) (hb : b = iI k) (hv : v < w.1.2.2.1) (hk : 0 ≤ k ∧ k ≤ 9) : RT (f_X4_version p a b) G ow p w P (.inr (iI (fct (w.1.2.2.2 v).1 k))) w 0 := by
  have h1 := inV_t hv
  have t := (c_version hw h (irg_v hw hv) (irg_s (a := k) (by omega))).rt
  rw [if_pos h1, if_pos hk, if_pos ⟨h1, hk⟩, Int.toNat_natCast, ← ha, ← hb] at t
  exact t
theorem q_value (hw : WI w) (h : RepC G ow p w P) {a : Int32} {v : Nat} (ha : a = iI v) (hv : v < w.1.2.2.1) (h0 : 0 < v) : RT (f_X4_value p a) G ow p w P (.inr (iI ((w.1.2.2.2 v).1 2))) w 0 := by
  have h1 := inV_t hv
  have h2 : (v : Int) ≠ 0 := by omega
  have t := (c_value hw h (irg_v hw hv)).rt
  rw [if_pos h1, if_pos h2, if_pos ⟨h1, h2⟩, Int.toNat_natCast, ← ha] at t
  exact t
theorem pl_t {s : SS} {v j : Nat} (hv : v < s.2.2.1) (hj : (j : Int) < sz (s.2.2.2 v)) : (inV s (v : Int) && decide (0 ≤ (j : Int) ∧ (j : Int) < sz (s.2.2.2 (v : Int).toNat))) = true := by
  rw [inV_t hv, Int.toNat_natCast, Bool.true_and]
  exact decide_eq_true ⟨by omega, hj⟩
theorem irg_j {w : WW} (hw : WI w) {v j : Nat} (hv : v < w.1.2.2.1) (hj : (j : Int) < sz (w.1.2.2.2 v)) : irg (j : Int) := by
  have := (hw.1.2.2.2 v hv).1
  unfold VBn at this
  unfold sz at hj
  unfold irg
  omega
theorem q_at (hw : WI w) (h : RepC G ow p w P) {a b : Int32} {v j : Nat} (ha : a = iI v) (hb : b = iI j) (hv : v < w.1.2.2.1) (hj : (j : Int) < sz (w.1.2.2.2 v)) : RT (f_X4_at p a b) G ow p w P (.inr (iI ((w.1.2.2.2 v).2 j))) w 0 := by
  have h1 := pl_t hv hj
  have t := (c_at hw h (irg_v hw hv) (irg_j hw hv hj)).rt
  rw [if_pos h1, if_pos h1, Int.toNat_natCast, Int.toNat_natCast, ← ha, ← hb] at t
  exact t
theorem q_steps (hw : WI w) (h : RepC G ow p w P) {a b : Int32} {v j : Nat} (ha : a = iI v) (hb : b = iI j) (hv : v < w.1.2.2.1) (hj : (j : Int) < sz (w.1.2.2.2 v)) : RT (f_X4_steps p a b) G ow p w P (.inr (iI (if (j : Int) < (w.1.2.2.2 v).1 4 then (j : Int) + 1 else sz (w.1.2.2.2 v) - j))) w 0 := by
  have h1 := pl_t hv hj
  have t := (c_steps hw h (irg_v hw hv) (irg_j hw hv hj)).rt
  rw [if_pos h1, if_pos h1, Int.toNat_natCast, ← ha, ← hb] at t
  exact t
theorem q_count (hw : WI w) (h : RepC G ow p w P) {b : Int32} {k : Nat} (hb : b = iI k) (hk : k ≤ 7) : RT (f_X4_count p b) G ow p w P (.inr (iI (totF w.1 k))) w 0 := by
  have h1 : 0 ≤ (k : Int) ∧ (k : Int) ≤ 7 := by omega
  have t := (c_count hw h (irg_s (a := (k : Int)) (by omega))).rt
  rw [if_pos h1, if_pos h1, Int.toNat_natCast, ← hb] at t
  exact t
theorem q_set0 (hw : WI w) (h : RepC G ow p w P) : RT (f_X4_setting p 0) G ow p w P (.inr (iI w.1.1)) w 0 := (c_setting hw h (k := 0) (by unfold irg; omega)).rt
theorem q_set1 (hw : WI w) (h : RepC G ow p w P) : RT (f_X4_setting p 1) G ow p w P (.inr (iI w.1.2.1)) w 0 := (c_setting hw h (k := 1) (by unfold irg; omega)).rt
theorem inV2_t {s : SS} {a b : Nat} (ha : a < s.2.2.1) (hb : b < s.2.2.1) : (inV s (a : Int) && inV s (b : Int)) = true := by rw [inV_t ha, inV_t hb]; rfl
theorem q_common (hw : WI w) (h : RepC G ow p w P) {a b : Int32} {u v : Nat} (ha : a = iI u) (hb : b = iI v) (hu : u < w.1.2.2.1) (hv : v < w.1.2.2.1) : RT (f_X4_common p a b) G ow p w P (.inr (iI (mtF w.1 200 u v : Nat))) w 0 := by
  have h1 := inV2_t hu hv
  have t := (c_common hw h (irg_v hw hu) (irg_v hw hv)).rt
  rw [if_pos h1, if_pos h1, Int.toNat_natCast, Int.toNat_natCast, ← ha, ← hb] at t
  exact t
theorem q_same (hw : WI w) (h : RepC G ow p w P) {a b : Int32} {u v : Nat} (ha : a = iI u) (hb : b = iI v) (hu : u < w.1.2.2.1) (hv : v < w.1.2.2.1) : RT (f_X4_same p a b) G ow p w P (.inr (iI (b2i (sameRow (w.1.2.2.2 u).1 (w.1.2.2.2 u).2 (w.1.2.2.2 v).1 (w.1.2.2.2 v).2)))) w 0 := by
  have h1 := inV2_t hu hv
  have t := (c_same hw h (irg_v hw hu) (irg_v hw hv)).rt
  rw [if_pos h1, h1, Bool.true_and, Int.toNat_natCast, Int.toNat_natCast, ← ha, ← hb] at t
  exact t
theorem q_like (hw : WI w) (h : RepC G ow p w P) {a : Int32} {v : Nat} (ha : a = iI v) (hv : v < w.1.2.2.1) : RT (f_X4_firstLike p a) G ow p w P (.inr (iI (flF w.1 v v 0 : Nat))) w 0 := by
  have h1 := inV_t hv
  have t := (c_firstLike hw h (irg_v hw hv)).rt
  rw [if_pos h1, if_pos h1, Int.toNat_natCast, ← ha] at t
  exact t
theorem q_worst (hw : WI w) (h : RepC G ow p w P) {a : Int32} {v : Nat} (ha : a = iI v) (hv : v < w.1.2.2.1) : RT (f_X4_worst p a) G ow p w P (.inr (iI (wmF w.1 100 v))) w 0 := by
  have h1 := inV_t hv
  have t := (c_worst hw h (irg_v hw hv)).rt
  rw [if_pos h1, if_pos h1, Int.toNat_natCast, ← ha] at t
  exact t
theorem q_mean (hw : WI w) (h : RepC G ow p w P) {a : Int32} {v : Nat} (ha : a = iI v) (hv : v < w.1.2.2.1) : RT (f_X4_mean p a) G ow p w P (.inr (mnF w.1 v)) w 0 := by
  have h1 := inV_t hv
  have t := (c_mean hw h (irg_v hw hv)).rt
  rw [if_pos h1, if_pos h1, Int.toNat_natCast, ← ha] at t
  exact t
theorem q_stalls (hw : WI w) (h : RepC G ow p w P) {a b : Int32} {v : Nat} {r : Int} (ha : a = iI v) (hb : b = iI r) (hv : v < w.1.2.2.1) (hr : 1 ≤ r ∧ r ≤ 9) (ht : (wT w).1 = -1) : RT (f_X4_stalls p a b) G ow p w P (.inr (iI (wbF w.1 (wT w).2 v r true))) w 0 := by
  have h1 := inV_t hv
  have e : tRate w v r = 0 := by
    unfold tRate
    rw [if_pos h1, if_pos hr, if_pos ht]
  have t := c_stalls hw h (irg_v hw hv) (irg_s (a := r) (by omega))
  rw [if_pos e, e, Int.toNat_natCast, ← ha, ← hb] at t
  exact t
theorem q_worstWith (hw : WI w) (h : RepC G ow p w P) {a b : Int32} {v : Nat} {r : Int} (ha : a = iI v) (hb : b = iI r) (hv : v < w.1.2.2.1) (hr : 1 ≤ r ∧ r ≤ 9) (ht : (wT w).1 = -1) : RT (f_X4_worstWith p a b) G ow p w P (.inr (iI (wbF w.1 (wT w).2 v r false))) w 0 := by
  have h1 := inV_t hv
  have e : tRate w v r = 0 := by
    unfold tRate
    rw [if_pos h1, if_pos hr, if_pos ht]
  have t := c_worstWith hw h (irg_v hw hv) (irg_s (a := r) (by omega))
  rw [if_pos e, e, Int.toNat_natCast, ← ha, ← hb] at t
  exact t
theorem q_least (hw : WI w) (h : RepC G ow p w P) {a : Int32} {v : Nat} (ha : a = iI v) (hv : v < w.1.2.2.1) (ht : (wT w).1 = -1) : RT (f_X4_leastRate p a) G ow p w P (.inr (iI (lrF w.1 (wT w).2 v 9 1))) w 0 := by
  have h1 := inV_t hv
  have e : tLeast w v = 0 := by
    unfold tLeast
    rw [if_pos h1, if_pos ht]
  have t := c_leastRate hw h (irg_v hw hv)
  rw [if_pos e, e, Int.toNat_natCast, ← ha] at t
  exact t
theorem q_run (hw : WI w) (h : RepC G ow p w P) {a : Int32} {v : Nat} (ha : a = iI v) (hv : v < w.1.2.2.1) (ht : (wT w).1 = -1) : RT (f_X4_run p a) G ow p w P (.inr (iI ((allF w.1 (wT w).2 v).2 : Nat))) (wSave w (allF w.1 (wT w).2 v).1) 0 := by
  have h1 := inV_t hv
  have t := c_run hw h (irg_v hw hv)
  rw [if_pos h1, if_pos h1, if_pos ht, if_pos ⟨h1, ht⟩, Int.toNat_natCast, ← ha] at t
  exact t
theorem q_set (hw : WI w) (h : RepC G ow p w P) {a b : Int32} {k x : Int} (ha : a = iI k) (hb : b = iI x) (ho : okS k x = true) : RT (f_X4_set p a b) G ow p w P (.inr (iI (if k = 0 then w.1.1 else w.1.2.1))) (wSave w (sSet w.1 k x)) 0 := by
  have hr := of_decide_eq_true ho
  have t := (c_set hw h (irg_s (a := k) (by omega)) (irg_s (a := x) (by omega))).rt
  rw [if_pos ho, if_pos ho, if_pos ho, ← ha, ← hb] at t
  exact t
theorem q_append (hw : WI w) (h : RepC G ow p w P) {a : Int32} {x : Int} (ha : a = iI x) (hx : 0 ≤ x ∧ x ≤ 127) (hl : w.2.2.2.1 < 100) : RT (f_X4_append p a) G ow p w P (.inr (iI ((w.2.2.2.1 : Int) + 1))) (w.1, w.2.1, w.2.2.1, w.2.2.2.1 + 1, va_up w.2.2.2.2 w.2.2.2.1 x) 0 := by
  have t := c_append hw h (irg_s (a := x) (by omega))
  rw [if_pos hx, if_pos hx, if_pos hx, if_pos hl, if_pos hl, if_pos hl, ← ha] at t
  exact t
end Steps
