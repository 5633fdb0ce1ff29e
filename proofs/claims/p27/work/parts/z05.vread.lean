/-! PURE PART 5: reading versions, copying them, new ones -/
def fct (v : Nat → Int) (k : Int) : Int := if k = 0 then v 0 else if k = 1 then v 4 + v 5 else if k = 2 then v 4 else if k = 3 then v 5 else if k = 4 then v 6 else if k = 5 then v 7 else if k = 6 then v 8 else if k = 7 then v 9 else if k = 8 then v 1 else if k = 9 then v 3 else -1
theorem fact_run {G : GH} {a r : Nat} {v : Nat → Int} (h : G.1 a = some (vcl v r)) {k : Int} (hk : 0 ≤ k ∧ k ≤ 9) : (f_X3_fact a (iI k)).1 G = some (iI (fct v k), G) := by
  have : k = 0 ∨ k = 1 ∨ k = 2 ∨ k = 3 ∨ k = 4 ∨ k = 5 ∨ k = 6 ∨ k = 7 ∨ k = 8 ∨ k = 9 := by omega
  rcases this with e | e | e | e | e | e | e | e | e | e <;> subst e <;> unfold f_X3_fact
  · rw [if_pos (by decide)]
    simp only [mb_assoc, mb_pure, mb_ite, ite_run, pure_run, ev_gi, ev_gr, ev_chk, ev_put, ev_len, ev_ali, ev_asi, ev_bool, Option.elim_some, eq_self, if_true, if_false, iI_add, iI_sub, iI_mul, iI_neg, lz0, lz1, lz2, lz3, lz4, lz5, lz6, lz7, lz8, lz9, lz10, lz40, lz100, lzm1, or_true, true_or, h, gi_v0, gi_v1, gi_v2, gi_v3, gi_v4, gi_v5, gi_v6, gi_v7, gi_v8, gi_v9, gr_v, gis_v, gp_v0, gp_v1, gp_v2, gp_v3, gp_v4, gp_v5, gp_v6, gp_v7, gp_v8, gp_v9, up_self, up_idem, up_ne]
    rfl
  · rw [if_neg (by decide), if_pos (by decide)]
    simp only [ev_chk, h, gis_v, if_true]
    rw [mbind_ok (size_run h)]
    rfl
  · rw [if_neg (by decide), if_neg (by decide), if_pos (by decide)]
    simp only [mb_assoc, mb_pure, mb_ite, ite_run, pure_run, ev_gi, ev_gr, ev_chk, ev_put, ev_len, ev_ali, ev_asi, ev_bool, Option.elim_some, eq_self, if_true, if_false, iI_add, iI_sub, iI_mul, iI_neg, lz0, lz1, lz2, lz3, lz4, lz5, lz6, lz7, lz8, lz9, lz10, lz40, lz100, lzm1, or_true, true_or, h, gi_v0, gi_v1, gi_v2, gi_v3, gi_v4, gi_v5, gi_v6, gi_v7, gi_v8, gi_v9, gr_v, gis_v, gp_v0, gp_v1, gp_v2, gp_v3, gp_v4, gp_v5, gp_v6, gp_v7, gp_v8, gp_v9, up_self, up_idem, up_ne]
    rfl
  · rw [if_neg (by decide), if_neg (by decide), if_neg (by decide), if_pos (by decide)]
    simp only [mb_assoc, mb_pure, mb_ite, ite_run, pure_run, ev_gi, ev_gr, ev_chk, ev_put, ev_len, ev_ali, ev_asi, ev_bool, Option.elim_some, eq_self, if_true, if_false, iI_add, iI_sub, iI_mul, iI_neg, lz0, lz1, lz2, lz3, lz4, lz5, lz6, lz7, lz8, lz9, lz10, lz40, lz100, lzm1, or_true, true_or, h, gi_v0, gi_v1, gi_v2, gi_v3, gi_v4, gi_v5, gi_v6, gi_v7, gi_v8, gi_v9, gr_v, gis_v, gp_v0, gp_v1, gp_v2, gp_v3, gp_v4, gp_v5, gp_v6, gp_v7, gp_v8, gp_v9, up_self, up_idem, up_ne]
    rfl
  · rw [if_neg (by decide), if_neg (by decide), if_neg (by decide), if_neg (by decide), if_pos (by decide)]
    simp only [mb_assoc, mb_pure, mb_ite, ite_run, pure_run, ev_gi, ev_gr, ev_chk, ev_put, ev_len, ev_ali, ev_asi, ev_bool, Option.elim_some, eq_self, if_true, if_false, iI_add, iI_sub, iI_mul, iI_neg, lz0, lz1, lz2, lz3, lz4, lz5, lz6, lz7, lz8, lz9, lz10, lz40, lz100, lzm1, or_true, true_or, h, gi_v0, gi_v1, gi_v2, gi_v3, gi_v4, gi_v5, gi_v6, gi_v7, gi_v8, gi_v9, gr_v, gis_v, gp_v0, gp_v1, gp_v2, gp_v3, gp_v4, gp_v5, gp_v6, gp_v7, gp_v8, gp_v9, up_self, up_idem, up_ne]
    rfl
  · rw [if_neg (by decide), if_neg (by decide), if_neg (by decide), if_neg (by decide), if_neg (by decide), if_pos (by decide)]
    simp only [mb_assoc, mb_pure, mb_ite, ite_run, pure_run, ev_gi, ev_gr, ev_chk, ev_put, ev_len, ev_ali, ev_asi, ev_bool, Option.elim_some, eq_self, if_true, if_false, iI_add, iI_sub, iI_mul, iI_neg, lz0, lz1, lz2, lz3, lz4, lz5, lz6, lz7, lz8, lz9, lz10, lz40, lz100, lzm1, or_true, true_or, h, gi_v0, gi_v1, gi_v2, gi_v3, gi_v4, gi_v5, gi_v6, gi_v7, gi_v8, gi_v9, gr_v, gis_v, gp_v0, gp_v1, gp_v2, gp_v3, gp_v4, gp_v5, gp_v6, gp_v7, gp_v8, gp_v9, up_self, up_idem, up_ne]
    rfl
  · rw [if_neg (by decide), if_neg (by decide), if_neg (by decide), if_neg (by decide), if_neg (by decide), if_neg (by decide), if_pos (by decide)]
    simp only [mb_assoc, mb_pure, mb_ite, ite_run, pure_run, ev_gi, ev_gr, ev_chk, ev_put, ev_len, ev_ali, ev_asi, ev_bool, Option.elim_some, eq_self, if_true, if_false, iI_add, iI_sub, iI_mul, iI_neg, lz0, lz1, lz2, lz3, lz4, lz5, lz6, lz7, lz8, lz9, lz10, lz40, lz100, lzm1, or_true, true_or, h, gi_v0, gi_v1, gi_v2, gi_v3, gi_v4, gi_v5, gi_v6, gi_v7, gi_v8, gi_v9, gr_v, gis_v, gp_v0, gp_v1, gp_v2, gp_v3, gp_v4, gp_v5, gp_v6, gp_v7, gp_v8, gp_v9, up_self, up_idem, up_ne]
    rfl
  · rw [if_neg (by decide), if_neg (by decide), if_neg (by decide), if_neg (by decide), if_neg (by decide), if_neg (by decide), if_neg (by decide), if_pos (by decide)]
    simp only [mb_assoc, mb_pure, mb_ite, ite_run, pure_run, ev_gi, ev_gr, ev_chk, ev_put, ev_len, ev_ali, ev_asi, ev_bool, Option.elim_some, eq_self, if_true, if_false, iI_add, iI_sub, iI_mul, iI_neg, lz0, lz1, lz2, lz3, lz4, lz5, lz6, lz7, lz8, lz9, lz10, lz40, lz100, lzm1, or_true, true_or, h, gi_v0, gi_v1, gi_v2, gi_v3, gi_v4, gi_v5, gi_v6, gi_v7, gi_v8, gi_v9, gr_v, gis_v, gp_v0, gp_v1, gp_v2, gp_v3, gp_v4, gp_v5, gp_v6, gp_v7, gp_v8, gp_v9, up_self, up_idem, up_ne]
    rfl
  · rw [if_neg (by decide), if_neg (by decide), if_neg (by decide), if_neg (by decide), if_neg (by decide), if_neg (by decide), if_neg (by decide), if_neg (by decide), if_pos (by decide)]
    simp only [mb_assoc, mb_pure, mb_ite, ite_run, pure_run, ev_gi, ev_gr, ev_chk, ev_put, ev_len, ev_ali, ev_asi, ev_bool, Option.elim_some, eq_self, if_true, if_false, iI_add, iI_sub, iI_mul, iI_neg, lz0, lz1, lz2, lz3, lz4, lz5, lz6, lz7, lz8, lz9, lz10, lz40, lz100, lzm1, or_true, true_or, h, gi_v0, gi_v1, gi_v2, gi_v3, gi_v4, gi_v5, gi_v6, gi_v7, gi_v8, gi_v9, gr_v, gis_v, gp_v0, gp_v1, gp_v2, gp_v3, gp_v4, gp_v5, gp_v6, gp_v7, gp_v8, gp_v9, up_self, up_idem, up_ne]
    rfl
  · rw [if_neg (by decide), if_neg (by decide), if_neg (by decide), if_neg (by decide), if_neg (by decide), if_neg (by decide), if_neg (by decide), if_neg (by decide), if_neg (by decide), if_pos (by decide)]
    simp only [mb_assoc, mb_pure, mb_ite, ite_run, pure_run, ev_gi, ev_gr, ev_chk, ev_put, ev_len, ev_ali, ev_asi, ev_bool, Option.elim_some, eq_self, if_true, if_false, iI_add, iI_sub, iI_mul, iI_neg, lz0, lz1, lz2, lz3, lz4, lz5, lz6, lz7, lz8, lz9, lz10, lz40, lz100, lzm1, or_true, true_or, h, gi_v0, gi_v1, gi_v2, gi_v3, gi_v4, gi_v5, gi_v6, gi_v7, gi_v8, gi_v9, gr_v, gis_v, gp_v0, gp_v1, gp_v2, gp_v3, gp_v4, gp_v5, gp_v6, gp_v7, gp_v8, gp_v9, up_self, up_idem, up_ne]
    rfl
def eqFrom (g g' : Nat → Int) : Nat → Nat → Bool
  | 0, _ => true
  | d + 1, m => if g m = g' m then eqFrom g g' d (m + 1) else false
/-- two versions have the same row -/
def sameRow (v g w g' : Nat → Int) : Bool := decide (v 4 + v 5 = w 4 + w 5) && eqFrom g g' (v 4 + v 5).toNat 0
section Two
variable {G : GH} {a r b q : Nat} {v g w g' : Nat → Int}
theorem hasRow_loop (ha : G.1 a = some (vcl v r)) (hr : G.1 r = some (icz 40 g)) (hb : G.1 b = some (vcl w q)) (hq : G.1 q = some (icz 40 g')) (n : Nat) (hn : n ≤ 40) (hg : ∀ j, j < n → -100000 ≤ g j ∧ g j ≤ 100000) (hg' : ∀ j, j < n → -100000 ≤ g' j ∧ g' j ≤ 100000) :
    ∀ d fu m, m + d = n → d < fu → (f_X3_hasRowOf_17 fu a b (iI n) (iI m)).1 G = some (iI (b2i (eqFrom g g' d m)), G)
  | _, 0, _, _, h => absurd h (by omega)
  | 0, fu + 1, m, e, _ => by
    unfold f_X3_hasRowOf_17
    have : m = n := by omega
    subst this
    rw [if_pos (by rw [iI_le (by omega) (by omega) (by omega) (by omega)]; omega)]
    rfl
  | d + 1, fu + 1, m, e, h => by
    unfold f_X3_hasRowOf_17
    rw [if_neg (by rw [iI_le (by omega) (by omega) (by omega) (by omega)]; omega)]
    simp only [ev_chk, ha, gis_v, if_true]
    rw [mbind_ok (look_run ha hr (by omega) (by omega))]
    simp only [ev_chk, hb, gis_v, if_true]
    rw [mbind_ok (look_run hb hq (by omega) (by omega))]
    rw [show ((m : Int)).toNat = m by omega]
    have h1 := hg m (by omega)
    have h2 := hg' m (by omega)
    unfold eqFrom
    by_cases h3 : g m = g' m
    · rw [if_pos (by rw [h3]), if_pos h3]
      rw [show iI (m : Int) + 1 = iI ((m + 1 : Nat) : Int) by rw [lz1, iI_add]; congr 1]
      exact hasRow_loop ha hr hb hq n hn hg hg' d fu (m + 1) (by omega) (by omega)
    · rw [if_neg (by rw [iI_eq (by omega) (by omega) (by omega) (by omega)]; exact h3), if_neg h3]
      rfl
theorem hasRow_run (ha : G.1 a = some (vcl v r)) (hr : G.1 r = some (icz 40 g)) (hb : G.1 b = some (vcl w q)) (hq : G.1 q = some (icz 40 g')) (hv : VBn v) (hw : VBn w) (hg : ∀ j : Nat, (j : Int) < v 4 + v 5 → -100000 ≤ g j ∧ g j ≤ 100000) (hg' : ∀ j : Nat, (j : Int) < w 4 + w 5 → -100000 ≤ g' j ∧ g' j ≤ 100000) :
    (f_X3_hasRowOf a b).1 G = some (iI (b2i (sameRow v g w g')), G) := by
  unfold VBn at hv hw
  unfold f_X3_hasRowOf sameRow
  simp only [ev_chk, ha, gis_v, if_true]
  rw [mbind_ok (size_run ha)]
  simp only [ev_chk, hb, gis_v, if_true]
  rw [mbind_ok (size_run hb)]
  by_cases h : v 4 + v 5 = w 4 + w 5
  · rw [if_pos (by rw [h])]
    have e : iI (v 4 + v 5) = iI (((v 4 + v 5).toNat : Nat) : Int) := by congr 1; omega
    have e0 := hasRow_loop ha hr hb hq (v 4 + v 5).toNat (by omega) (fun j hj => hg j (by omega)) (fun j hj => hg' j (by omega)) (v 4 + v 5).toNat FU 0 (by omega) (by unfold FU; omega)
    rw [show iI ((0 : Nat) : Int) = 0 from rfl] at e0
    rw [e, e0]
    simp [h]
  · rw [if_neg (by rw [iI_eq (by omega) (by omega) (by omega) (by omega)]; exact h)]
    simp only [h, decide_false, Bool.false_and]
    rfl
end Two
theorem permits_run {G : GH} {a r : Nat} {v : Nat → Int} (h : G.1 a = some (vcl v r)) (hv : VBn v) {kind : Int} (hk : 0 ≤ kind ∧ kind ≤ 3) : (f_X3_permits a (iI kind)).1 G = some (iI (b2i (if kind < 2 then decide (v 4 + v 5 < 40) else decide (0 < v 4 + v 5))), G) := by
  unfold VBn at hv
  unfold f_X3_permits
  rw [mbind_ok (isPush_run (a := 0) (r := 1) (by decide) G hk)]
  by_cases h2 : kind < 2
  · rw [if_pos h2, if_neg (show ¬ iI 1 = 0 by decide), if_pos h2]
    simp only [ev_chk, h, gis_v, if_true]
    rw [mbind_ok (size_run h)]
    by_cases h3 : v 4 + v 5 < 40
    · rw [if_neg (by rw [lz40, iI_le (by omega) (by omega) (by omega) (by omega)]; omega)]
      simp only [h3, decide_true]
      rfl
    · rw [if_pos (by rw [lz40, iI_le (by omega) (by omega) (by omega) (by omega)]; omega)]
      simp only [h3, decide_false]
      rfl
  · rw [if_neg h2, if_pos (show iI 0 = 0 from rfl), if_neg h2]
    simp only [ev_chk, h, gis_v, if_true]
    rw [mbind_ok (size_run h)]
    by_cases h3 : 0 < v 4 + v 5
    · rw [if_neg (by rw [lz0, iI_le (by omega) (by omega) (by omega) (by omega)]; omega)]
      simp only [h3, decide_true]
      rfl
    · rw [if_pos (by rw [lz0, iI_le (by omega) (by omega) (by omega) (by omega)]; omega)]
      simp only [h3, decide_false]
      rfl
/-- the row of a copy -/
def cpR (g gb : Nat → Int) (n : Nat) : Nat → Int := fun j => if 0 ≤ j ∧ j < 0 + n then gb (0 + (j - 0)) else g j
theorem copy_v {G : GH} {a r b q : Nat} (har : a ≠ r) (hba : b ≠ a) (hbr : b ≠ r) (hqa : q ≠ a) (hqr : q ≠ r) (v g w g' : Nat → Int) (hb : G.1 b = some (vcl w q)) (hq : G.1 q = some (icz 40 g')) (hw : 0 ≤ w 4 + w 5 ∧ w 4 + w 5 ≤ 40) :
    (f_X3_copyFrom a b).1 (VH G a r v g) = some ((), VH G a r w (cpR g g' (w 4 + w 5).toNat)) := by
  have hb' : ∀ v g, (VH G a r v g).1 b = some (vcl w q) := fun v g => by
    show va_up (va_up G.1 r (some (icz 40 g))) a (some (vcl v r)) b = _
    rw [up_ne _ _ hba, up_ne _ _ hbr, hb]
  have hq' : ∀ v g, (VH G a r v g).1 q = some (icz 40 g') := fun v g => by
    show va_up (va_up G.1 r (some (icz 40 g))) a (some (vcl v r)) q = _
    rw [up_ne _ _ hqa, up_ne _ _ hqr, hq]
  have hu : ∀ (f : Nat → Option LE) e, va_up f a e b = f b := fun f e => up_ne f e hba
  unfold f_X3_copyFrom
  simp only [ev_gi, ev_put, ev_chk, VH_a har, hu, hb', gi_v0, gi_v1, gi_v2, gi_v3, gi_v4, gi_v5, gi_v6, gi_v7, gi_v8, gi_v9, gr_v, gis_v, gp_v0, gp_v1, gp_v2, gp_v3, gp_v4, gp_v5, gp_v6, gp_v7, gp_v8, gp_v9, up_self, up_idem, up_ne, Option.elim_some, VH_ua har, if_true]
  rw [mbind_ok (size_run (hb' _ _))]
  rw [if_neg (by rw [lz0, iI_lt (by omega) (by omega) (by omega) (by omega)]; omega)]
  simp only [ev_gr, VH_a har, hb', gi_v0, gi_v1, gi_v2, gi_v3, gi_v4, gi_v5, gi_v6, gi_v7, gi_v8, gi_v9, gr_v, gis_v, gp_v0, gp_v1, gp_v2, gp_v3, gp_v4, gp_v5, gp_v6, gp_v7, gp_v8, gp_v9, up_self, up_idem, up_ne, Option.elim_some]
  simp only [ev_len, garr_ok (VH_r har _ _), garr_ok (hq' _ _), Option.elim_some]
  rw [if_neg (by rw [iI_lt (by omega) (by omega) (by omega) (by omega)]; omega)]
  simp only [ev_gr, ev_len, VH_a har, hb', gi_v0, gi_v1, gi_v2, gi_v3, gi_v4, gi_v5, gi_v6, gi_v7, gi_v8, gi_v9, gr_v, gis_v, gp_v0, gp_v1, gp_v2, gp_v3, gp_v4, gp_v5, gp_v6, gp_v7, gp_v8, gp_v9, up_self, up_idem, up_ne, Option.elim_some, garr_ok (VH_r har _ _), garr_ok (hq' _ _)]
  rw [if_neg (by rw [iI_lt (by omega) (by omega) (by omega) (by omega)]; omega)]
  simp only [ev_gr, VH_a har, hb', gi_v0, gi_v1, gi_v2, gi_v3, gi_v4, gi_v5, gi_v6, gi_v7, gi_v8, gi_v9, gr_v, gis_v, gp_v0, gp_v1, gp_v2, gp_v3, gp_v4, gp_v5, gp_v6, gp_v7, gp_v8, gp_v9, up_self, up_idem, up_ne, Option.elim_some]
  rw [ev_copy _ q r 0 0 (iI (w 4 + w 5)) _ (40, fun j => iI (g' j)) (40, fun j => iI (g j)) (by rw [hq']; rfl) (by rw [VH_r har]; rfl) (by
    rw [lz0, iI_lt (by omega) (by omega) (by omega) (by omega), iI_lt (by omega) (by omega) (by omega) (by omega), iI_cl (by omega) (by omega), iI_cl (by omega) (by omega)]
    dsimp only
    refine ⟨by omega, by omega, by omega, by omega, by omega, hqr⟩)]
  dsimp only
  rw [cpy_iI, lz0, iI_cl (by omega) (by omega), iI_cl (by omega) (by omega)]
  have := VH_ur (G := G) har w g (cpR g g' (w 4 + w 5).toNat)
  rw [← this]
  rfl
theorem cpR_ok (g g' : Nat → Int) (n j : Nat) (h : j < n) : cpR g g' n j = g' j := by
  unfold cpR
  rw [if_pos (by omega)]
  congr 1
  omega
/-- a version as it is made -/
def dv : Nat → Int := fun k => if k = 0 then -1 else if k = 1 then -1 else if k = 7 then -1 else 0
def wcl (v : Nat → Int) : LE := .inr (3, [.int (iI (v 0)), .int (iI (v 1)), .int (iI (v 2)), .int (iI (v 3)), .int (iI (v 4)), .int (iI (v 5)), .int (iI (v 6)), .int (iI (v 7)), .int (iI (v 8)), .int (iI (v 9)), .null])
theorem gp_w0 (v : Nat → Int) (x : Int) : gput (some (wcl v)) 3 0 (.int (iI x)) = some (wcl (va_up v 0 x)) := rfl
theorem gp_w1 (v : Nat → Int) (x : Int) : gput (some (wcl v)) 3 1 (.int (iI x)) = some (wcl (va_up v 1 x)) := rfl
theorem gp_w2 (v : Nat → Int) (x : Int) : gput (some (wcl v)) 3 2 (.int (iI x)) = some (wcl (va_up v 2 x)) := rfl
theorem gp_w3 (v : Nat → Int) (x : Int) : gput (some (wcl v)) 3 3 (.int (iI x)) = some (wcl (va_up v 3 x)) := rfl
theorem gp_w4 (v : Nat → Int) (x : Int) : gput (some (wcl v)) 3 4 (.int (iI x)) = some (wcl (va_up v 4 x)) := rfl
theorem gp_w5 (v : Nat → Int) (x : Int) : gput (some (wcl v)) 3 5 (.int (iI x)) = some (wcl (va_up v 5 x)) := rfl
theorem gp_w6 (v : Nat → Int) (x : Int) : gput (some (wcl v)) 3 6 (.int (iI x)) = some (wcl (va_up v 6 x)) := rfl
theorem gp_w7 (v : Nat → Int) (x : Int) : gput (some (wcl v)) 3 7 (.int (iI x)) = some (wcl (va_up v 7 x)) := rfl
theorem gp_w8 (v : Nat → Int) (x : Int) : gput (some (wcl v)) 3 8 (.int (iI x)) = some (wcl (va_up v 8 x)) := rfl
theorem gp_w9 (v : Nat → Int) (x : Int) : gput (some (wcl v)) 3 9 (.int (iI x)) = some (wcl (va_up v 9 x)) := rfl
theorem gp_w (v : Nat → Int) (r : Nat) : gput (some (wcl v)) 3 10 (.ref r) = some (vcl v r) := rfl
theorem newver {β : Type} (G : GH) (K : Nat → MM β) : (mbind (mnewo 3 [.int 0, .int 0, .int 0, .int 0, .int 0, .int 0, .int 0, .int 0, .int 0, .int 0, .null] 11) (fun a1 => mbind (f_X3_init a1) (fun _ => K a1))).1 G = (K G.2.1).1 (va_up (va_up G.1 (G.2.1 + 1) (some (icz 40 (fun _ => 0)))) G.2.1 (some (vcl dv (G.2.1 + 1))), G.2.1 + 2, G.2.2.1 + 2, G.2.2.2 + 51) := by
  rw [ev_newo]
  refine mbind_ok (a := ()) ?_
  rw [show (.inr (3, [.int 0, .int 0, .int 0, .int 0, .int 0, .int 0, .int 0, .int 0, .int 0, .int 0, .null]) : LE) = wcl (fun _ => 0) from rfl]
  unfold f_X3_init
  rw [lzm1, lz0]
  simp only [ev_put, up_self, up_idem, Option.elim_some, gp_w0, gp_w1, gp_w2, gp_w3, gp_w4, gp_w5, gp_w6, gp_w7, gp_w8, gp_w9, ev_newi _ 40 (by decide)]
  rw [up_ne _ _ (show G.2.1 ≠ G.2.1 + 1 by omega), up_self]
  simp only [gp_w, Option.elim_some, pure_run]
  rw [up_comm _ _ _ (show G.2.1 ≠ G.2.1 + 1 by omega), up_idem, up_comm _ _ _ (show G.2.1 + 1 ≠ G.2.1 by omega)]
  rfl
