/-! PURE PART 2: the version: its cell, and what its methods do -/
def vcl (v : Nat → Int) (r : Nat) : LE := .inr (3, [.int (iI (v 0)), .int (iI (v 1)), .int (iI (v 2)), .int (iI (v 3)), .int (iI (v 4)), .int (iI (v 5)), .int (iI (v 6)), .int (iI (v 7)), .int (iI (v 8)), .int (iI (v 9)), .ref r])
theorem gi_v0 (v : Nat → Int) (r : Nat) : gint (some (vcl v r)) 3 0 = some (iI (v 0)) := rfl
theorem gp_v0 (v : Nat → Int) (r : Nat) (x : Int) : gput (some (vcl v r)) 3 0 (.int (iI x)) = some (vcl (va_up v 0 x) r) := rfl
theorem gi_v1 (v : Nat → Int) (r : Nat) : gint (some (vcl v r)) 3 1 = some (iI (v 1)) := rfl
theorem gp_v1 (v : Nat → Int) (r : Nat) (x : Int) : gput (some (vcl v r)) 3 1 (.int (iI x)) = some (vcl (va_up v 1 x) r) := rfl
theorem gi_v2 (v : Nat → Int) (r : Nat) : gint (some (vcl v r)) 3 2 = some (iI (v 2)) := rfl
theorem gp_v2 (v : Nat → Int) (r : Nat) (x : Int) : gput (some (vcl v r)) 3 2 (.int (iI x)) = some (vcl (va_up v 2 x) r) := rfl
theorem gi_v3 (v : Nat → Int) (r : Nat) : gint (some (vcl v r)) 3 3 = some (iI (v 3)) := rfl
theorem gp_v3 (v : Nat → Int) (r : Nat) (x : Int) : gput (some (vcl v r)) 3 3 (.int (iI x)) = some (vcl (va_up v 3 x) r) := rfl
theorem gi_v4 (v : Nat → Int) (r : Nat) : gint (some (vcl v r)) 3 4 = some (iI (v 4)) := rfl
theorem gp_v4 (v : Nat → Int) (r : Nat) (x : Int) : gput (some (vcl v r)) 3 4 (.int (iI x)) = some (vcl (va_up v 4 x) r) := rfl
theorem gi_v5 (v : Nat → Int) (r : Nat) : gint (some (vcl v r)) 3 5 = some (iI (v 5)) := rfl
theorem gp_v5 (v : Nat → Int) (r : Nat) (x : Int) : gput (some (vcl v r)) 3 5 (.int (iI x)) = some (vcl (va_up v 5 x) r) := rfl
theorem gi_v6 (v : Nat → Int) (r : Nat) : gint (some (vcl v r)) 3 6 = some (iI (v 6)) := rfl
theorem gp_v6 (v : Nat → Int) (r : Nat) (x : Int) : gput (some (vcl v r)) 3 6 (.int (iI x)) = some (vcl (va_up v 6 x) r) := rfl
theorem gi_v7 (v : Nat → Int) (r : Nat) : gint (some (vcl v r)) 3 7 = some (iI (v 7)) := rfl
theorem gp_v7 (v : Nat → Int) (r : Nat) (x : Int) : gput (some (vcl v r)) 3 7 (.int (iI x)) = some (vcl (va_up v 7 x) r) := rfl
theorem gi_v8 (v : Nat → Int) (r : Nat) : gint (some (vcl v r)) 3 8 = some (iI (v 8)) := rfl
theorem gp_v8 (v : Nat → Int) (r : Nat) (x : Int) : gput (some (vcl v r)) 3 8 (.int (iI x)) = some (vcl (va_up v 8 x) r) := rfl
theorem gi_v9 (v : Nat → Int) (r : Nat) : gint (some (vcl v r)) 3 9 = some (iI (v 9)) := rfl
theorem gp_v9 (v : Nat → Int) (r : Nat) (x : Int) : gput (some (vcl v r)) 3 9 (.int (iI x)) = some (vcl (va_up v 9 x) r) := rfl
theorem gr_v (v : Nat → Int) (r : Nat) : gref (some (vcl v r)) 3 10 = some r := rfl
theorem gis_v (v : Nat → Int) (r : Nat) : gis (some (vcl v r)) 3 = true := rfl
theorem gar_ic {a n : Nat} {f : Nat → Int32} {G : GH} (h : G.1 a = some (ic n f)) : garr a 0 G = some (n, .inl f) := garr_ok h
theorem up_same {α : Type} {f : Nat → α} {k : Nat} {v : α} (h : f k = v) : va_up f k v = f := by
  funext j
  by_cases hj : j = k
  · subst hj; simp [va_up, h]
  · simp [va_up, hj]
theorem GH_same {G : GH} {a : Nat} {e : LE} (h : G.1 a = some e) : (va_up G.1 a (some e), G.2) = G := by rw [up_same h]
/-- what the version's stages do to its ten numbers: 0 parent, 1 kind, 2 moved, 3 depth, 4 front, 5 back, 6 debt, 7 goal, 8 cost, 9 extra -/
def sEnd (v : Nat → Int) : Nat → Int := va_up (va_up (va_up (va_up v 4 (v 7)) 5 (v 4 + v 5 - v 7)) 6 0) 7 (-1)
def sGoal (v : Nat → Int) (ch : Int) : Nat → Int := if 0 < v 6 then va_up v 7 (min (max (v 7 + ch) 0) (v 4 + v 5)) else v
def sPay1 (v : Nat → Int) (rate : Int) : Nat → Int := va_up (va_up v 8 (v 8 + min rate (v 6))) 6 (v 6 - min rate (v 6))
def sPay (v : Nat → Int) (rate : Int) : Nat → Int := if 0 < v 6 then (if v 6 - min rate (v 6) = 0 then sEnd (sPay1 v rate) else sPay1 v rate) else v
def sBegin (v : Nat → Int) (ratio : Int) : Nat → Int := if 0 < v 6 then v else if ratio * min (v 4) (v 5) + 1 < max (v 4) (v 5) then va_up (va_up v 6 (v 4 + v 5)) 7 ((v 4 + v 5) / 2) else v
section VerL
variable {G : GH} {a r : Nat} {v : Nat → Int} {f : Nat → Int32}
theorem size_run (h : G.1 a = some (vcl v r)) : (f_X3_size a).1 G = some (iI (v 4 + v 5), G) := by
  simp only [f_X3_size, mb_assoc, mb_pure, mb_ite, ite_run, pure_run, ev_gi, ev_gr, ev_chk, ev_put, ev_len, ev_ali, ev_asi, ev_bool, Option.elim_some, eq_self, if_true, if_false, iI_add, iI_sub, iI_mul, iI_neg, lz0, lz1, lz2, lz3, lz4, lz5, lz6, lz7, lz8, lz9, lz10, lz40, lz100, lzm1, or_true, true_or, h, gi_v0, gi_v1, gi_v2, gi_v3, gi_v4, gi_v5, gi_v6, gi_v7, gi_v8, gi_v9, gr_v, gis_v, gp_v0, gp_v1, gp_v2, gp_v3, gp_v4, gp_v5, gp_v6, gp_v7, gp_v8, gp_v9, up_self, up_idem, up_ne]
theorem isReb_run (h : G.1 a = some (vcl v r)) (b : -100000 ≤ v 6 ∧ v 6 ≤ 100000) : (f_X3_isRebuilding a).1 G = some (iI (if 0 < v 6 then 1 else 0), G) := by
  by_cases hd : v 6 ≤ 0
  · have hd2 : ¬ 0 < v 6 := by omega
    simp (disch := omega) only [f_X3_isRebuilding, mb_assoc, mb_pure, mb_ite, ite_run, pure_run, ev_gi, ev_gr, ev_chk, ev_put, ev_len, ev_ali, ev_asi, ev_bool, Option.elim_some, eq_self, if_true, if_false, iI_add, iI_sub, iI_mul, iI_neg, lz0, lz1, lz2, lz3, lz4, lz5, lz6, lz7, lz8, lz9, lz10, lz40, lz100, lzm1, or_true, true_or, h, gi_v0, gi_v1, gi_v2, gi_v3, gi_v4, gi_v5, gi_v6, gi_v7, gi_v8, gi_v9, gr_v, gis_v, gp_v0, gp_v1, gp_v2, gp_v3, gp_v4, gp_v5, gp_v6, gp_v7, gp_v8, gp_v9, up_self, up_idem, up_ne, iI_le, hd, hd2]
  · have hd2 : 0 < v 6 := by omega
    simp (disch := omega) only [f_X3_isRebuilding, mb_assoc, mb_pure, mb_ite, ite_run, pure_run, ev_gi, ev_gr, ev_chk, ev_put, ev_len, ev_ali, ev_asi, ev_bool, Option.elim_some, eq_self, if_true, if_false, iI_add, iI_sub, iI_mul, iI_neg, lz0, lz1, lz2, lz3, lz4, lz5, lz6, lz7, lz8, lz9, lz10, lz40, lz100, lzm1, or_true, true_or, h, gi_v0, gi_v1, gi_v2, gi_v3, gi_v4, gi_v5, gi_v6, gi_v7, gi_v8, gi_v9, gr_v, gis_v, gp_v0, gp_v1, gp_v2, gp_v3, gp_v4, gp_v5, gp_v6, gp_v7, gp_v8, gp_v9, up_self, up_idem, up_ne, iI_le, hd, hd2]
theorem cell_run {n : Nat} (hr : G.1 r = some (ic n f)) {z : Int} (h0 : 0 ≤ z) (h1 : z < n) (hn : n ≤ 100000) : (f_X4_cell r (iI z)).1 G = some (f z.toNat, G) := by
  have e1 : ¬ (z < 0) := by omega
  have e2 : ¬ ((n : Int) ≤ z) := by omega
  have e3 : ¬ (n ≤ z.toNat) := by omega
  simp (disch := omega) only [f_X4_cell, mb_assoc, mb_pure, mb_ite, ite_run, pure_run, ev_gi, ev_gr, ev_chk, ev_put, ev_len, ev_ali, ev_asi, ev_bool, Option.elim_some, eq_self, if_true, if_false, iI_add, iI_sub, iI_mul, iI_neg, lz0, lz1, lz2, lz3, lz4, lz5, lz6, lz7, lz8, lz9, lz10, lz40, lz100, lzm1, or_true, true_or, gar_ic hr, hr, gai_ic, iI_lt, iI_le, iI_cl, e1, e2, e3, or_self]
theorem fill_run {n : Nat} (hr : G.1 r = some (ic n f)) {z : Int} {x : Int32} (h0 : 0 ≤ z) (h1 : z < n) (hn : n ≤ 100000) : (f_X4_fill r (iI z) x).1 G = some ((), (va_up G.1 r (some (ic n (upd f z.toNat x))), G.2)) := by
  have e1 : ¬ (z < 0) := by omega
  have e2 : ¬ ((n : Int) ≤ z) := by omega
  have e3 : ¬ (n ≤ z.toNat) := by omega
  simp (disch := omega) only [f_X4_fill, mb_assoc, mb_pure, mb_ite, ite_run, pure_run, ev_gi, ev_gr, ev_chk, ev_put, ev_len, ev_ali, ev_asi, ev_bool, Option.elim_some, eq_self, if_true, if_false, iI_add, iI_sub, iI_mul, iI_neg, lz0, lz1, lz2, lz3, lz4, lz5, lz6, lz7, lz8, lz9, lz10, lz40, lz100, lzm1, or_true, true_or, gar_ic hr, hr, gai_ic, iI_lt, iI_le, iI_cl, e1, e2, e3, or_self]
theorem look_run (h : G.1 a = some (vcl v r)) (hr : G.1 r = some (ic 40 f)) {z : Int} (h0 : 0 ≤ z) (h1 : z < 40) : (f_X3_look a (iI z)).1 G = some (f z.toNat, G) := by
  simp only [f_X3_look, mb_assoc, mb_pure, mb_ite, ite_run, pure_run, ev_gi, ev_gr, ev_chk, ev_put, ev_len, ev_ali, ev_asi, ev_bool, Option.elim_some, eq_self, if_true, if_false, iI_add, iI_sub, iI_mul, iI_neg, lz0, lz1, lz2, lz3, lz4, lz5, lz6, lz7, lz8, lz9, lz10, lz40, lz100, lzm1, or_true, true_or, h, gi_v0, gi_v1, gi_v2, gi_v3, gi_v4, gi_v5, gi_v6, gi_v7, gi_v8, gi_v9, gr_v, gis_v, gp_v0, gp_v1, gp_v2, gp_v3, gp_v4, gp_v5, gp_v6, gp_v7, gp_v8, gp_v9, up_self, up_idem, up_ne]
  rw [mbind_ok (cell_run hr h0 (by omega) (by omega))]
  rfl
theorem goal_run (h : G.1 a = some (vcl v r)) (b : (-100000 ≤ v 6 ∧ v 6 ≤ 100000) ∧ (-100000 ≤ v 4 ∧ v 4 ≤ 100000) ∧ (-100000 ≤ v 5 ∧ v 5 ≤ 100000) ∧ (-100000 ≤ v 7 ∧ v 7 ≤ 100000)) {ch : Int} (hc : -100000 ≤ ch ∧ ch ≤ 100000) : (f_X3_moveGoal a (iI ch)).1 G = some ((), (va_up G.1 a (some (vcl (sGoal v ch) r)), G.2)) := by
  simp only [f_X3_moveGoal, ev_chk, h, gis_v, if_true]
  rw [mbind_ok (isReb_run h b.1)]
  by_cases hd : 0 < v 6
  · simp (disch := omega) only [sGoal, hd, if_true, iI_eq, mb_assoc, mb_pure, mb_ite, ite_run, pure_run, ev_gi, ev_gr, ev_chk, ev_put, ev_len, ev_ali, ev_asi, ev_bool, Option.elim_some, eq_self, if_true, if_false, iI_add, iI_sub, iI_mul, iI_neg, lz0, lz1, lz2, lz3, lz4, lz5, lz6, lz7, lz8, lz9, lz10, lz40, lz100, lzm1, or_true, true_or, h, gi_v0, gi_v1, gi_v2, gi_v3, gi_v4, gi_v5, gi_v6, gi_v7, gi_v8, gi_v9, gr_v, gis_v, gp_v0, gp_v1, gp_v2, gp_v3, gp_v4, gp_v5, gp_v6, gp_v7, gp_v8, gp_v9, up_self, up_idem, up_ne, Int.one_ne_zero]
    rw [mbind_ok (size_run h)]
    simp (disch := omega) only [iI_max, iI_min, mb_assoc, mb_pure, mb_ite, ite_run, pure_run, ev_gi, ev_gr, ev_chk, ev_put, ev_len, ev_ali, ev_asi, ev_bool, Option.elim_some, eq_self, if_true, if_false, iI_add, iI_sub, iI_mul, iI_neg, lz0, lz1, lz2, lz3, lz4, lz5, lz6, lz7, lz8, lz9, lz10, lz40, lz100, lzm1, or_true, true_or, h, gi_v0, gi_v1, gi_v2, gi_v3, gi_v4, gi_v5, gi_v6, gi_v7, gi_v8, gi_v9, gr_v, gis_v, gp_v0, gp_v1, gp_v2, gp_v3, gp_v4, gp_v5, gp_v6, gp_v7, gp_v8, gp_v9, up_self, up_idem, up_ne]
  · simp (disch := omega) only [sGoal, hd, if_false, iI_eq, mb_assoc, mb_pure, mb_ite, ite_run, pure_run, ev_gi, ev_gr, ev_chk, ev_put, ev_len, ev_ali, ev_asi, ev_bool, Option.elim_some, eq_self, if_true, if_false, iI_add, iI_sub, iI_mul, iI_neg, lz0, lz1, lz2, lz3, lz4, lz5, lz6, lz7, lz8, lz9, lz10, lz40, lz100, lzm1, or_true, true_or, h, GH_same h]
theorem end_run (h : G.1 a = some (vcl v r)) : (f_X3_endRebuild a).1 G = some ((), (va_up G.1 a (some (vcl (sEnd v) r)), G.2)) := by
  simp only [f_X3_endRebuild, ev_chk, h, gis_v, if_true]
  rw [mbind_ok (size_run h)]
  simp only [mb_assoc, mb_pure, mb_ite, ite_run, pure_run, ev_gi, ev_gr, ev_chk, ev_put, ev_len, ev_ali, ev_asi, ev_bool, Option.elim_some, eq_self, if_true, if_false, iI_add, iI_sub, iI_mul, iI_neg, lz0, lz1, lz2, lz3, lz4, lz5, lz6, lz7, lz8, lz9, lz10, lz40, lz100, lzm1, or_true, true_or, h, gi_v0, gi_v1, gi_v2, gi_v3, gi_v4, gi_v5, gi_v6, gi_v7, gi_v8, gi_v9, gr_v, gis_v, gp_v0, gp_v1, gp_v2, gp_v3, gp_v4, gp_v5, gp_v6, gp_v7, gp_v8, gp_v9, up_self, up_idem, up_ne]
  rfl
theorem pay_run (h : G.1 a = some (vcl v r)) (b : (-100000 ≤ v 6 ∧ v 6 ≤ 100000)) {rate : Int} (hc : -100000 ≤ rate ∧ rate ≤ 100000) : (f_X3_pay a (iI rate)).1 G = some ((), (va_up G.1 a (some (vcl (sPay v rate) r)), G.2)) := by
  simp only [f_X3_pay, ev_chk, h, gis_v, if_true]
  rw [mbind_ok (isReb_run h b)]
  by_cases hd : 0 < v 6
  · simp (disch := omega) only [sPay, hd, if_true, iI_eq, mb_assoc, mb_pure, mb_ite, ite_run, pure_run, ev_gi, ev_gr, ev_chk, ev_put, ev_len, ev_ali, ev_asi, ev_bool, Option.elim_some, eq_self, if_true, if_false, iI_add, iI_sub, iI_mul, iI_neg, lz0, lz1, lz2, lz3, lz4, lz5, lz6, lz7, lz8, lz9, lz10, lz40, lz100, lzm1, or_true, true_or, h, gi_v0, gi_v1, gi_v2, gi_v3, gi_v4, gi_v5, gi_v6, gi_v7, gi_v8, gi_v9, gr_v, gis_v, gp_v0, gp_v1, gp_v2, gp_v3, gp_v4, gp_v5, gp_v6, gp_v7, gp_v8, gp_v9, up_self, up_idem, up_ne, Int.one_ne_zero, iI_min]
    split
    · have h2 : (va_up G.1 a (some (vcl (sPay1 v rate) r)), G.2).1 a = some (vcl (sPay1 v rate) r) := up_self _ _ _
      have e2 := end_run (G := (va_up G.1 a (some (vcl (sPay1 v rate) r)), G.2)) h2
      rw [show va_up (va_up v 8 (v 8 + min rate (v 6))) 6 (v 6 - min rate (v 6)) = sPay1 v rate from rfl]
      rw [mbind_ok e2]
      simp only [pure_run, up_idem]
    · rfl
  · simp (disch := omega) only [sPay, hd, if_false, iI_eq, mb_assoc, mb_pure, mb_ite, ite_run, pure_run, ev_gi, ev_gr, ev_chk, ev_put, ev_len, ev_ali, ev_asi, ev_bool, Option.elim_some, eq_self, if_true, if_false, iI_add, iI_sub, iI_mul, iI_neg, lz0, lz1, lz2, lz3, lz4, lz5, lz6, lz7, lz8, lz9, lz10, lz40, lz100, lzm1, or_true, true_or, h, GH_same h]
theorem begin_run (h : G.1 a = some (vcl v r)) (b : (-100000 ≤ v 6 ∧ v 6 ≤ 100000)) (b4 : 0 ≤ v 4 ∧ v 4 ≤ 100000) (b5 : 0 ≤ v 5 ∧ v 5 ≤ 100000) {ratio : Int} (hc : 0 ≤ ratio ∧ ratio ≤ 5) : (f_X3_beginRebuild a (iI ratio)).1 G = some ((), (va_up G.1 a (some (vcl (sBegin v ratio) r)), G.2)) := by
  simp only [f_X3_beginRebuild, ev_chk, h, gis_v, if_true]
  rw [mbind_ok (isReb_run h b)]
  have hm1 : 0 ≤ ratio * min (v 4) (v 5) := Int.mul_nonneg hc.1 (by omega)
  have hm2 : ratio * min (v 4) (v 5) ≤ 5 * min (v 4) (v 5) := Int.mul_le_mul_of_nonneg_right hc.2 (by omega)
  by_cases hd : 0 < v 6
  · simp (disch := omega) only [sBegin, hd, if_true, if_false, iI_eq, mb_assoc, mb_pure, mb_ite, ite_run, pure_run, ev_gi, ev_gr, ev_chk, ev_put, ev_len, ev_ali, ev_asi, ev_bool, Option.elim_some, eq_self, if_true, if_false, iI_add, iI_sub, iI_mul, iI_neg, lz0, lz1, lz2, lz3, lz4, lz5, lz6, lz7, lz8, lz9, lz10, lz40, lz100, lzm1, or_true, true_or, h, GH_same h, Int.one_ne_zero]
  · simp (disch := omega) only [sBegin, hd, if_true, if_false, iI_eq, mb_assoc, mb_pure, mb_ite, ite_run, pure_run, ev_gi, ev_gr, ev_chk, ev_put, ev_len, ev_ali, ev_asi, ev_bool, Option.elim_some, eq_self, if_true, if_false, iI_add, iI_sub, iI_mul, iI_neg, lz0, lz1, lz2, lz3, lz4, lz5, lz6, lz7, lz8, lz9, lz10, lz40, lz100, lzm1, or_true, true_or, h, gi_v0, gi_v1, gi_v2, gi_v3, gi_v4, gi_v5, gi_v6, gi_v7, gi_v8, gi_v9, gr_v, gis_v, gp_v0, gp_v1, gp_v2, gp_v3, gp_v4, gp_v5, gp_v6, gp_v7, gp_v8, gp_v9, up_self, up_idem, up_ne, iI_min, iI_max, iI_le]
    by_cases hg : ratio * min (v 4) (v 5) + 1 < max (v 4) (v 5)
    · have hg2 : ¬ max (v 4) (v 5) ≤ ratio * min (v 4) (v 5) + 1 := by omega
      simp only [hg, hg2, if_true, if_false]
      rw [mbind_ok (size_run h)]
      simp only [mb_assoc, mb_pure, mb_ite, ite_run, pure_run, ev_gi, ev_gr, ev_chk, ev_put, ev_len, ev_ali, ev_asi, ev_bool, Option.elim_some, eq_self, if_true, if_false, iI_add, iI_sub, iI_mul, iI_neg, lz0, lz1, lz2, lz3, lz4, lz5, lz6, lz7, lz8, lz9, lz10, lz40, lz100, lzm1, or_true, true_or, h, gi_v0, gi_v1, gi_v2, gi_v3, gi_v4, gi_v5, gi_v6, gi_v7, gi_v8, gi_v9, gr_v, gis_v, gp_v0, gp_v1, gp_v2, gp_v3, gp_v4, gp_v5, gp_v6, gp_v7, gp_v8, gp_v9, up_self, up_idem, up_ne]
      rw [mbind_ok (size_run (v := va_up v 6 (v 4 + v 5)) (r := r) (up_self _ _ _))]
      simp (disch := omega) only [mb_assoc, mb_pure, mb_ite, ite_run, pure_run, ev_gi, ev_gr, ev_chk, ev_put, ev_len, ev_ali, ev_asi, ev_bool, Option.elim_some, eq_self, if_true, if_false, iI_add, iI_sub, iI_mul, iI_neg, lz0, lz1, lz2, lz3, lz4, lz5, lz6, lz7, lz8, lz9, lz10, lz40, lz100, lzm1, or_true, true_or, h, gi_v0, gi_v1, gi_v2, gi_v3, gi_v4, gi_v5, gi_v6, gi_v7, gi_v8, gi_v9, gr_v, gis_v, gp_v0, gp_v1, gp_v2, gp_v3, gp_v4, gp_v5, gp_v6, gp_v7, gp_v8, gp_v9, up_self, up_idem, up_ne, iI_div]
    · have hg2 : max (v 4) (v 5) ≤ ratio * min (v 4) (v 5) + 1 := by omega
      simp only [hg, hg2, if_true, if_false, GH_same h, pure_run]
end VerL
