/-! PURE PART 3: the version's methods on a heap whose two cells are named: VH; what an act does: sAct, sRow -/
def icz (n : Nat) (g : Nat → Int) : LE := ic n (fun j => iI (g j))
theorem upd_iI (g : Nat → Int) (k : Nat) (x : Int) : upd (fun j => iI (g j)) k (iI x) = fun j => iI (va_up g k x j) := by
  funext j
  by_cases h : j = k <;> simp [upd, va_up, h]
theorem cpy_iI (g g' : Nat → Int) (s d n : Nat) : va_cpy (fun j => iI (g j)) (fun j => iI (g' j)) s d n = fun j => iI (if d ≤ j ∧ j < d + n then g (s + (j - d)) else g' j) := by
  funext j
  unfold va_cpy
  split <;> rfl
def VH (G : GH) (a r : Nat) (v : Nat → Int) (g : Nat → Int) : GH := (va_up (va_up G.1 r (some (icz 40 g))) a (some (vcl v r)), G.2)
theorem VH_id {G : GH} {a r : Nat} {v g : Nat → Int} (h : G.1 a = some (vcl v r)) (hr : G.1 r = some (icz 40 g)) : VH G a r v g = G := by
  unfold VH
  rw [up_same hr, up_same h]
theorem VH_a {G : GH} {a : Nat} {r : Nat} (har : a ≠ r) (v : Nat → Int) (g : Nat → Int) : (VH G a r v g).1 a = some (vcl v r) := up_self _ _ _
theorem VH_r {G : GH} {a : Nat} {r : Nat} (har : a ≠ r) (v : Nat → Int) (g : Nat → Int) : (VH G a r v g).1 r = some (icz 40 g) := by
  show va_up (va_up G.1 r (some (icz 40 g))) a (some (vcl v r)) r = _
  rw [up_ne _ _ (Ne.symm har), up_self]
theorem VH_ua {G : GH} {a : Nat} {r : Nat} (har : a ≠ r) (v : Nat → Int) (g : Nat → Int) (v' : Nat → Int) : ((va_up (VH G a r v g).1 a (some (vcl v' r)), (VH G a r v g).2) : GH) = VH G a r v' g := by
  unfold VH
  simp only [up_idem]
theorem VH_ur {G : GH} {a : Nat} {r : Nat} (har : a ≠ r) (v : Nat → Int) (g : Nat → Int) (g' : Nat → Int) : ((va_up (VH G a r v g).1 r (some (icz 40 g')), (VH G a r v g).2) : GH) = VH G a r v g' := by
  unfold VH
  dsimp only
  rw [up_comm _ _ _ (Ne.symm har), up_idem]
theorem size_v {G : GH} {a : Nat} {r : Nat} (har : a ≠ r) (v : Nat → Int) (g : Nat → Int) : (f_X3_size a).1 (VH G a r v g) = some (iI (v 4 + v 5), VH G a r v g) := size_run (VH_a har v g)
theorem reb_v {G : GH} {a : Nat} {r : Nat} (har : a ≠ r) (v : Nat → Int) (g : Nat → Int) (b : -100000 ≤ v 6 ∧ v 6 ≤ 100000) : (f_X3_isRebuilding a).1 (VH G a r v g) = some (iI (if 0 < v 6 then 1 else 0), VH G a r v g) := isReb_run (VH_a har v g) b
theorem look_v {G : GH} {a : Nat} {r : Nat} (har : a ≠ r) (v : Nat → Int) (g : Nat → Int) {z : Int} (h0 : 0 ≤ z) (h1 : z < 40) : (f_X3_look a (iI z)).1 (VH G a r v g) = some (iI (g z.toNat), VH G a r v g) := look_run (VH_a har v g) (VH_r har v g) h0 h1
theorem fill_v {G : GH} {a : Nat} {r : Nat} (har : a ≠ r) (v : Nat → Int) (g : Nat → Int) {z x : Int} (h0 : 0 ≤ z) (h1 : z < 40) : (f_X4_fill r (iI z) (iI x)).1 (VH G a r v g) = some ((), VH G a r v (va_up g z.toNat x)) := by
  rw [fill_run (VH_r har v g) h0 (by omega) (by omega), upd_iI]
  exact congrArg (fun q => some ((), q)) (VH_ur har v g _)
theorem goal_v {G : GH} {a : Nat} {r : Nat} (har : a ≠ r) (v : Nat → Int) (g : Nat → Int) (b : (-100000 ≤ v 6 ∧ v 6 ≤ 100000) ∧ (-100000 ≤ v 4 ∧ v 4 ≤ 100000) ∧ (-100000 ≤ v 5 ∧ v 5 ≤ 100000) ∧ (-100000 ≤ v 7 ∧ v 7 ≤ 100000)) {ch : Int} (hc : -100000 ≤ ch ∧ ch ≤ 100000) : (f_X3_moveGoal a (iI ch)).1 (VH G a r v g) = some ((), VH G a r (sGoal v ch) g) := by
  rw [goal_run (VH_a har v g) b hc, VH_ua har]
theorem end_v {G : GH} {a : Nat} {r : Nat} (har : a ≠ r) (v : Nat → Int) (g : Nat → Int) : (f_X3_endRebuild a).1 (VH G a r v g) = some ((), VH G a r (sEnd v) g) := by
  rw [end_run (VH_a har v g), VH_ua har]
theorem pay_v {G : GH} {a : Nat} {r : Nat} (har : a ≠ r) (v : Nat → Int) (g : Nat → Int) (b : (-100000 ≤ v 6 ∧ v 6 ≤ 100000)) {rate : Int} (hc : -100000 ≤ rate ∧ rate ≤ 100000) : (f_X3_pay a (iI rate)).1 (VH G a r v g) = some ((), VH G a r (sPay v rate) g) := by
  rw [pay_run (VH_a har v g) b hc, VH_ua har]
theorem begin_v {G : GH} {a : Nat} {r : Nat} (har : a ≠ r) (v : Nat → Int) (g : Nat → Int) (b : (-100000 ≤ v 6 ∧ v 6 ≤ 100000)) (b4 : 0 ≤ v 4 ∧ v 4 ≤ 100000) (b5 : 0 ≤ v 5 ∧ v 5 ≤ 100000) {ratio : Int} (hc : 0 ≤ ratio ∧ ratio ≤ 5) : (f_X3_beginRebuild a (iI ratio)).1 (VH G a r v g) = some ((), VH G a r (sBegin v ratio) g) := by
  rw [begin_run (VH_a har v g) b b4 b5 hc, VH_ua har]
def shf (g : Nat → Int) (m : Nat) (x : Int) : Nat → Int := fun j => if j = 0 then x else if j ≤ m then g (j - 1) else g j
def shb (g : Nat → Int) (m l : Nat) : Nat → Int := fun j => if m ≤ j ∧ j < l then g (j + 1) else g j
theorem shf_0 (g : Nat → Int) (x : Int) : shf g 0 x = va_up g 0 x := by
  funext j
  unfold shf va_up
  by_cases h : j = 0
  · simp [h]
  · have : ¬ j ≤ 0 := by omega
    simp [h, this]
theorem shf_s (g : Nat → Int) (m : Nat) (x : Int) : shf (va_up g (m + 1) (g m)) m x = shf g (m + 1) x := by
  funext j
  unfold shf va_up
  by_cases h : j = 0
  · simp [h]
  · by_cases h2 : j ≤ m
    · have h3 : ¬ j - 1 = m + 1 := by omega
      have h4 : j ≤ m + 1 := by omega
      simp [h, h2, h3, h4]
    · by_cases h3 : j = m + 1
      · subst h3
        simp
      · have h4 : ¬ j ≤ m + 1 := by omega
        simp [h, h2, h3, h4]
theorem shb_0 (g : Nat → Int) (l : Nat) : shb g l l = g := by
  funext j
  unfold shb
  rw [if_neg (by omega)]
theorem shb_s (g : Nat → Int) (m l : Nat) (h : m < l) : shb (va_up g m (g (m + 1))) (m + 1) l = shb g m l := by
  funext j
  unfold shb va_up
  by_cases h1 : j = m
  · subst h1
    simp [h]
  · by_cases h2 : m + 1 ≤ j ∧ j < l
    · have h3 : m ≤ j ∧ j < l := by omega
      have h4 : ¬ j + 1 = m := by omega
      simp [h2, h3, h4]
    · have h3 : ¬ (m ≤ j ∧ j < l) := by omega
      simp only [h2, h3, h1, if_false]
/-- the numbers of a version are small -/
def VBn (v : Nat → Int) : Prop := (0 ≤ v 4 ∧ v 4 ≤ 40) ∧ (0 ≤ v 5 ∧ v 5 ≤ 40) ∧ v 4 + v 5 ≤ 40 ∧ (0 ≤ v 6 ∧ v 6 ≤ 40) ∧ (-1 ≤ v 7 ∧ v 7 ≤ 40) ∧ (0 < v 6 → 0 ≤ v 7 ∧ v 7 ≤ v 4 + v 5) ∧ (v 6 = 0 → v 7 = -1) ∧ (0 ≤ v 8 ∧ v 8 ≤ 300) ∧ (0 ≤ v 9 ∧ v 9 ≤ 300) ∧ (0 ≤ v 3 ∧ v 3 ≤ 100) ∧ (-1 ≤ v 0 ∧ v 0 ≤ 99) ∧ (-1 ≤ v 1 ∧ v 1 ≤ 3) ∧ (-999 ≤ v 2 ∧ v 2 ≤ 999)
def sPart (v : Nat → Int) (fr : Bool) : Int := if fr = true then v 4 else v 5
def sF1 (v : Nat → Int) : Nat → Int := if 0 < v 6 then sEnd (va_up v 9 (v 9 + v 6)) else v
def sF2 (v : Nat → Int) (fr : Bool) : Nat → Int := if sPart v fr = 0 then va_up v 9 (v 9 + (v 4 + v 5 - 1)) else v
def sF3 (v : Nat → Int) : Nat → Int := va_up v 8 (v 8 + v 9)
def sFetch (v : Nat → Int) (fr : Bool) : Nat → Int := if 0 < sPart v fr then v else sF3 (sF2 (sF1 v) fr)
def sGone (v : Nat → Int) (fr : Bool) : Nat → Int := if (if fr = true then 0 < v 4 else v 5 = 0) then va_up v 4 (v 4 - 1) else va_up v 5 (v 5 - 1)
def sTake (v : Nat → Int) (fr : Bool) (mv : Int) : Nat → Int := sGoal (sGone (va_up v 2 mv) fr) (if fr = true then -1 else 0)
def sPut (v : Nat → Int) (fr : Bool) (x : Int) : Nat → Int := if fr = true then sGoal (va_up (va_up v 2 x) 4 (v 4 + 1)) 1 else sGoal (va_up (va_up v 2 x) 5 (v 5 + 1)) 0
def sStart (v : Nat → Int) (kind : Int) : Nat → Int := va_up (va_up (va_up (va_up v 1 kind) 3 (v 3 + 1)) 8 0) 9 0
def sCost (v : Nat → Int) : Nat → Int := va_up v 8 (v 8 + 1)
def sMv (v g : Nat → Int) (kind : Int) : Int := g (if kind = 2 then 0 else (v 4 + v 5 - 1).toNat)
def sAct (v g : Nat → Int) (kind x rate ratio : Int) : Nat → Int :=
  sBegin (sPay (sCost (if kind < 2 then sPut (sStart v kind) (decide (kind = 0)) x else sTake (sFetch (sStart v kind) (decide (kind = 2))) (decide (kind = 2)) (sMv v g kind))) rate) ratio
def b2i (b : Bool) : Int := if b = true then 1 else 0
theorem fetch3_v {G : GH} {a : Nat} {r : Nat} (har : a ≠ r) (v g : Nat → Int) : (mbind (mgi a 3 8) (fun x4 => (mbind (mgi a 3 9) (fun x5 => (mbind (mput a 3 8 (.int (x4 + x5))) (fun _ => (mpure ()))))))).1 (VH G a r v g) = some ((), VH G a r (sF3 v) g) := by
  simp only [mb_assoc, mb_pure, mb_ite, ite_run, pure_run, ev_gi, ev_gr, ev_chk, ev_put, ev_len, ev_ali, ev_asi, ev_bool, Option.elim_some, eq_self, if_true, if_false, iI_add, iI_sub, iI_mul, iI_neg, lz0, lz1, lz2, lz3, lz4, lz5, lz6, lz7, lz8, lz9, lz10, lz40, lz100, lzm1, or_true, true_or, VH_a har, gi_v0, gi_v1, gi_v2, gi_v3, gi_v4, gi_v5, gi_v6, gi_v7, gi_v8, gi_v9, gr_v, gis_v, gp_v0, gp_v1, gp_v2, gp_v3, gp_v4, gp_v5, gp_v6, gp_v7, gp_v8, gp_v9, up_self, up_idem, up_ne, VH_ua har]
  rfl
theorem fetch58_v {G : GH} {a : Nat} {r : Nat} (har : a ≠ r) (v g : Nat → Int) (fr : Bool) (b : -100000 ≤ sPart v fr ∧ sPart v fr ≤ 100000) : (f_X3_fetchFromOtherPart_58 a (iI (sPart v fr))).1 (VH G a r v g) = some ((), VH G a r (sF3 (sF2 v fr)) g) := by
  unfold f_X3_fetchFromOtherPart_58 sF2
  by_cases h : sPart v fr = 0
  · rw [if_pos (by rw [h]; rfl), if_pos h]
    simp only [mb_assoc, mb_pure, mb_ite, ite_run, pure_run, ev_gi, ev_gr, ev_chk, ev_put, ev_len, ev_ali, ev_asi, ev_bool, Option.elim_some, eq_self, if_true, if_false, iI_add, iI_sub, iI_mul, iI_neg, lz0, lz1, lz2, lz3, lz4, lz5, lz6, lz7, lz8, lz9, lz10, lz40, lz100, lzm1, or_true, true_or, VH_a har, gi_v0, gi_v1, gi_v2, gi_v3, gi_v4, gi_v5, gi_v6, gi_v7, gi_v8, gi_v9, gr_v, gis_v, gp_v0, gp_v1, gp_v2, gp_v3, gp_v4, gp_v5, gp_v6, gp_v7, gp_v8, gp_v9, up_self, up_idem, up_ne]
    rw [mbind_ok (size_v har v g)]
    simp only [mb_assoc, mb_pure, mb_ite, ite_run, pure_run, ev_gi, ev_gr, ev_chk, ev_put, ev_len, ev_ali, ev_asi, ev_bool, Option.elim_some, eq_self, if_true, if_false, iI_add, iI_sub, iI_mul, iI_neg, lz0, lz1, lz2, lz3, lz4, lz5, lz6, lz7, lz8, lz9, lz10, lz40, lz100, lzm1, or_true, true_or, VH_a har, gi_v0, gi_v1, gi_v2, gi_v3, gi_v4, gi_v5, gi_v6, gi_v7, gi_v8, gi_v9, gr_v, gis_v, gp_v0, gp_v1, gp_v2, gp_v3, gp_v4, gp_v5, gp_v6, gp_v7, gp_v8, gp_v9, up_self, up_idem, up_ne, VH_ua har]
    rfl
  · rw [if_neg (by rw [lz0, iI_eq (by omega) (by omega) (by omega) (by omega)]; exact h), if_neg h]
    exact fetch3_v har v g
theorem fetch43_v {G : GH} {a : Nat} {r : Nat} (har : a ≠ r) (v g : Nat → Int) (fr : Bool) (b : -100000 ≤ sPart v fr ∧ sPart v fr ≤ 100000) : (f_X3_fetchFromOtherPart_43 a (iI (b2i fr))).1 (VH G a r v g) = some ((), VH G a r (sF3 (sF2 v fr)) g) := by
  rw [← fetch58_v har v g fr b]
  unfold f_X3_fetchFromOtherPart_43
  cases fr
  · rw [if_pos (show iI (b2i false) = 0 from rfl)]
    simp only [ev_gi, VH_a har, gi_v0, gi_v1, gi_v2, gi_v3, gi_v4, gi_v5, gi_v6, gi_v7, gi_v8, gi_v9, gr_v, gis_v, gp_v0, gp_v1, gp_v2, gp_v3, gp_v4, gp_v5, gp_v6, gp_v7, gp_v8, gp_v9, up_self, up_idem, up_ne, Option.elim_some]
    rfl
  · rw [if_neg (show ¬ iI (b2i true) = 0 by decide)]
    simp only [ev_gi, VH_a har, gi_v0, gi_v1, gi_v2, gi_v3, gi_v4, gi_v5, gi_v6, gi_v7, gi_v8, gi_v9, gr_v, gis_v, gp_v0, gp_v1, gp_v2, gp_v3, gp_v4, gp_v5, gp_v6, gp_v7, gp_v8, gp_v9, up_self, up_idem, up_ne, Option.elim_some]
    rfl
theorem fetch15_v {G : GH} {a : Nat} {r : Nat} (har : a ≠ r) (v g : Nat → Int) (fr : Bool) (h4 : -1000 ≤ v 4 ∧ v 4 ≤ 1000) (h5 : -1000 ≤ v 5 ∧ v 5 ≤ 1000) (h6 : -1000 ≤ v 6 ∧ v 6 ≤ 1000) (h7 : -1000 ≤ v 7 ∧ v 7 ≤ 1000) : (f_X3_fetchFromOtherPart_15 a (iI (b2i fr)) (iI (sPart v fr))).1 (VH G a r v g) = some ((), VH G a r (sFetch v fr) g) := by
  have hb : -100000 ≤ sPart v fr ∧ sPart v fr ≤ 100000 := by unfold sPart; split <;> omega
  unfold f_X3_fetchFromOtherPart_15 sFetch
  by_cases h : 0 < sPart v fr
  · rw [if_neg (by rw [lz0, iI_le (by omega) (by omega) (by omega) (by omega)]; omega), if_pos h]
    rfl
  · rw [if_pos (by rw [lz0, iI_le (by omega) (by omega) (by omega) (by omega)]; omega), if_neg h]
    simp only [ev_chk, VH_a har, gis_v, if_true]
    rw [mbind_ok (reb_v har v g (by omega))]
    by_cases hd : 0 < v 6
    · rw [if_pos hd, if_neg (by decide)]
      have e1 : sF1 v = sEnd (va_up v 9 (v 9 + v 6)) := if_pos hd
      simp only [mb_assoc, mb_pure, mb_ite, ite_run, pure_run, ev_gi, ev_gr, ev_chk, ev_put, ev_len, ev_ali, ev_asi, ev_bool, Option.elim_some, eq_self, if_true, if_false, iI_add, iI_sub, iI_mul, iI_neg, lz0, lz1, lz2, lz3, lz4, lz5, lz6, lz7, lz8, lz9, lz10, lz40, lz100, lzm1, or_true, true_or, VH_a har, gi_v0, gi_v1, gi_v2, gi_v3, gi_v4, gi_v5, gi_v6, gi_v7, gi_v8, gi_v9, gr_v, gis_v, gp_v0, gp_v1, gp_v2, gp_v3, gp_v4, gp_v5, gp_v6, gp_v7, gp_v8, gp_v9, up_self, up_idem, up_ne, VH_ua har]
      rw [mbind_ok (end_v har _ g)]
      rw [← e1]
      apply fetch43_v har
      rw [e1]
      unfold sPart sEnd
      simp only [va_up]
      split <;> simp <;> omega
    · rw [if_neg hd, if_pos (show iI 0 = 0 from rfl)]
      have e1 : sF1 v = v := if_neg hd
      rw [e1]
      exact fetch43_v har v g fr hb
theorem fetch_v {G : GH} {a : Nat} {r : Nat} (har : a ≠ r) (v g : Nat → Int) (fr : Bool) (h4 : -1000 ≤ v 4 ∧ v 4 ≤ 1000) (h5 : -1000 ≤ v 5 ∧ v 5 ≤ 1000) (h6 : -1000 ≤ v 6 ∧ v 6 ≤ 1000) (h7 : -1000 ≤ v 7 ∧ v 7 ≤ 1000) : (f_X3_fetchFromOtherPart a (iI (b2i fr))).1 (VH G a r v g) = some ((), VH G a r (sFetch v fr) g) := by
  rw [← fetch15_v har v g fr h4 h5 h6 h7]
  unfold f_X3_fetchFromOtherPart
  cases fr
  · rw [if_pos (show iI (b2i false) = 0 from rfl)]
    simp only [ev_gi, VH_a har, gi_v0, gi_v1, gi_v2, gi_v3, gi_v4, gi_v5, gi_v6, gi_v7, gi_v8, gi_v9, gr_v, gis_v, gp_v0, gp_v1, gp_v2, gp_v3, gp_v4, gp_v5, gp_v6, gp_v7, gp_v8, gp_v9, up_self, up_idem, up_ne, Option.elim_some]
    rfl
  · rw [if_neg (show ¬ iI (b2i true) = 0 by decide)]
    simp only [ev_gi, VH_a har, gi_v0, gi_v1, gi_v2, gi_v3, gi_v4, gi_v5, gi_v6, gi_v7, gi_v8, gi_v9, gr_v, gis_v, gp_v0, gp_v1, gp_v2, gp_v3, gp_v4, gp_v5, gp_v6, gp_v7, gp_v8, gp_v9, up_self, up_idem, up_ne, Option.elim_some]
    rfl
theorem put17_v {G : GH} {a : Nat} {r : Nat} (har : a ≠ r) (x : Int) : ∀ (m fu : Nat) (v g : Nat → Int), m < fu → m < 40 → (0 ≤ v 4 ∧ v 4 ≤ 1000) → (0 ≤ v 5 ∧ v 5 ≤ 1000) → (-1000 ≤ v 6 ∧ v 6 ≤ 1000) → (-1000 ≤ v 7 ∧ v 7 ≤ 1000) →
    (f_X3_put_17 fu a (iI x) (iI m)).1 (VH G a r v g) = some ((), VH G a r (sGoal (va_up v 4 (v 4 + 1)) 1) (shf g m x))
  | 0, 0, _, _, h, _, _, _, _, _ => absurd h (by omega)
  | 0, fu + 1, v, g, _, _, h4, h5, h6, h7 => by
    unfold f_X3_put_17
    rw [if_pos (show iI ((0 : Nat) : Int) ≤ 0 by decide)]
    simp only [ev_gr, VH_a har, gi_v0, gi_v1, gi_v2, gi_v3, gi_v4, gi_v5, gi_v6, gi_v7, gi_v8, gi_v9, gr_v, gis_v, gp_v0, gp_v1, gp_v2, gp_v3, gp_v4, gp_v5, gp_v6, gp_v7, gp_v8, gp_v9, up_self, up_idem, up_ne, Option.elim_some]
    rw [lz0, mbind_ok (fill_v har v g (by omega) (by omega)), shf_0]
    simp only [mb_assoc, mb_pure, mb_ite, ite_run, pure_run, ev_gi, ev_gr, ev_chk, ev_put, ev_len, ev_ali, ev_asi, ev_bool, Option.elim_some, eq_self, if_true, if_false, iI_add, iI_sub, iI_mul, iI_neg, lz0, lz1, lz2, lz3, lz4, lz5, lz6, lz7, lz8, lz9, lz10, lz40, lz100, lzm1, or_true, true_or, VH_a har, gi_v0, gi_v1, gi_v2, gi_v3, gi_v4, gi_v5, gi_v6, gi_v7, gi_v8, gi_v9, gr_v, gis_v, gp_v0, gp_v1, gp_v2, gp_v3, gp_v4, gp_v5, gp_v6, gp_v7, gp_v8, gp_v9, up_self, up_idem, up_ne, VH_ua har]
    refine mbind_ok (goal_v har _ _ ?_ (by omega))
    simp only [va_up]
    simp
    omega
  | m + 1, 0, _, _, h, _, _, _, _, _ => absurd h (by omega)
  | m + 1, fu + 1, v, g, h, hm, h4, h5, h6, h7 => by
    unfold f_X3_put_17
    rw [if_neg (by rw [lz0, iI_le (by omega) (by omega) (by omega) (by omega)]; omega)]
    simp only [ev_gr, ev_chk, VH_a har, gi_v0, gi_v1, gi_v2, gi_v3, gi_v4, gi_v5, gi_v6, gi_v7, gi_v8, gi_v9, gr_v, gis_v, gp_v0, gp_v1, gp_v2, gp_v3, gp_v4, gp_v5, gp_v6, gp_v7, gp_v8, gp_v9, up_self, up_idem, up_ne, Option.elim_some, if_true]
    rw [show iI ((m + 1 : Nat) : Int) - 1 = iI (m : Int) by rw [lz1, iI_sub]; congr 1; omega]
    rw [mbind_ok (look_v har v g (by omega) (by omega)), mbind_ok (fill_v har v g (by omega) (by omega))]
    rw [show iI ((m + 1 : Nat) : Int) + (-1) = iI (m : Int) by rw [lzm1, iI_add]; congr 1; omega]
    rw [put17_v har x m fu v _ (by omega) (by omega) h4 h5 h6 h7]
    rw [show ((m : Int)).toNat = m by omega, show (((m + 1 : Nat) : Int)).toNat = m + 1 by omega, shf_s]
theorem put_v {G : GH} {a : Nat} {r : Nat} (har : a ≠ r) (v g : Nat → Int) (fr : Bool) (x : Int) (h4 : 0 ≤ v 4 ∧ v 4 ≤ 1000) (h5 : 0 ≤ v 5 ∧ v 5 ≤ 1000) (h6 : -1000 ≤ v 6 ∧ v 6 ≤ 1000) (h7 : -1000 ≤ v 7 ∧ v 7 ≤ 1000) (hs : v 4 + v 5 < 40) : (f_X3_put a (iI x) (iI (b2i fr))).1 (VH G a r v g) = some ((), VH G a r (sPut v fr x) (if fr = true then shf g (v 4 + v 5).toNat x else va_up g (v 4 + v 5).toNat x)) := by
  unfold f_X3_put
  simp only [ev_chk, VH_a har, gis_v, if_true]
  rw [mbind_ok (size_v har v g)]
  simp only [ev_put, VH_a har, gi_v0, gi_v1, gi_v2, gi_v3, gi_v4, gi_v5, gi_v6, gi_v7, gi_v8, gi_v9, gr_v, gis_v, gp_v0, gp_v1, gp_v2, gp_v3, gp_v4, gp_v5, gp_v6, gp_v7, gp_v8, gp_v9, up_self, up_idem, up_ne, Option.elim_some, VH_ua har]
  cases fr
  · rw [if_pos (show iI (b2i false) = 0 from rfl)]
    simp only [ev_gr, VH_a har, gi_v0, gi_v1, gi_v2, gi_v3, gi_v4, gi_v5, gi_v6, gi_v7, gi_v8, gi_v9, gr_v, gis_v, gp_v0, gp_v1, gp_v2, gp_v3, gp_v4, gp_v5, gp_v6, gp_v7, gp_v8, gp_v9, up_self, up_idem, up_ne, Option.elim_some]
    rw [mbind_ok (fill_v har _ g (by omega) (by omega))]
    simp only [mb_assoc, mb_pure, mb_ite, ite_run, pure_run, ev_gi, ev_gr, ev_chk, ev_put, ev_len, ev_ali, ev_asi, ev_bool, Option.elim_some, eq_self, if_true, if_false, iI_add, iI_sub, iI_mul, iI_neg, lz0, lz1, lz2, lz3, lz4, lz5, lz6, lz7, lz8, lz9, lz10, lz40, lz100, lzm1, or_true, true_or, VH_a har, gi_v0, gi_v1, gi_v2, gi_v3, gi_v4, gi_v5, gi_v6, gi_v7, gi_v8, gi_v9, gr_v, gis_v, gp_v0, gp_v1, gp_v2, gp_v3, gp_v4, gp_v5, gp_v6, gp_v7, gp_v8, gp_v9, up_self, up_idem, up_ne, VH_ua har]
    refine mbind_ok (goal_v har _ _ ?_ (by omega))
    simp only [va_up]
    simp
    omega
  · rw [if_neg (show ¬ iI (b2i true) = 0 by decide)]
    have e : iI (v 4 + v 5) = iI (((v 4 + v 5).toNat : Nat) : Int) := by congr 1; omega
    rw [e, put17_v har x (v 4 + v 5).toNat FU (va_up v 2 x) g (by unfold FU; omega) (by omega) h4 h5 h6 h7]
    rfl
theorem take87_v {G : GH} {a : Nat} {r : Nat} (har : a ≠ r) (v g : Nat → Int) (fr : Bool) (b : Bool) (h4 : -1000 ≤ v 4 ∧ v 4 ≤ 1000) (h5 : -1000 ≤ v 5 ∧ v 5 ≤ 1000) (h6 : -1000 ≤ v 6 ∧ v 6 ≤ 1000) (h7 : -1000 ≤ v 7 ∧ v 7 ≤ 1000) : (f_X3_take_87 a (iI (b2i fr)) (iI (b2i b))).1 (VH G a r v g) = some ((), VH G a r (sGoal (if b = true then va_up v 4 (v 4 - 1) else va_up v 5 (v 5 - 1)) (if fr = true then -1 else 0)) g) := by
  unfold f_X3_take_87
  cases b
  · rw [if_pos (show iI (b2i false) = 0 from rfl)]
    simp only [mb_assoc, mb_pure, mb_ite, ite_run, pure_run, ev_gi, ev_gr, ev_chk, ev_put, ev_len, ev_ali, ev_asi, ev_bool, Option.elim_some, eq_self, if_true, if_false, iI_add, iI_sub, iI_mul, iI_neg, lz0, lz1, lz2, lz3, lz4, lz5, lz6, lz7, lz8, lz9, lz10, lz40, lz100, lzm1, or_true, true_or, VH_a har, gi_v0, gi_v1, gi_v2, gi_v3, gi_v4, gi_v5, gi_v6, gi_v7, gi_v8, gi_v9, gr_v, gis_v, gp_v0, gp_v1, gp_v2, gp_v3, gp_v4, gp_v5, gp_v6, gp_v7, gp_v8, gp_v9, up_self, up_idem, up_ne, VH_ua har]
    cases fr
    · rw [if_pos (show iI (b2i false) = iI 0 from rfl)]
      refine mbind_ok (goal_v har _ _ ?_ (by omega))
      simp only [va_up]
      simp
      omega
    · rw [if_neg (show ¬ iI (b2i true) = iI 0 by decide)]
      refine mbind_ok (goal_v har _ _ ?_ (by omega))
      simp only [va_up]
      simp
      omega
  · rw [if_neg (show ¬ iI (b2i true) = 0 by decide)]
    simp only [mb_assoc, mb_pure, mb_ite, ite_run, pure_run, ev_gi, ev_gr, ev_chk, ev_put, ev_len, ev_ali, ev_asi, ev_bool, Option.elim_some, eq_self, if_true, if_false, iI_add, iI_sub, iI_mul, iI_neg, lz0, lz1, lz2, lz3, lz4, lz5, lz6, lz7, lz8, lz9, lz10, lz40, lz100, lzm1, or_true, true_or, VH_a har, gi_v0, gi_v1, gi_v2, gi_v3, gi_v4, gi_v5, gi_v6, gi_v7, gi_v8, gi_v9, gr_v, gis_v, gp_v0, gp_v1, gp_v2, gp_v3, gp_v4, gp_v5, gp_v6, gp_v7, gp_v8, gp_v9, up_self, up_idem, up_ne, VH_ua har]
    cases fr
    · rw [if_pos (show iI (b2i false) = iI 0 from rfl)]
      refine mbind_ok (goal_v har _ _ ?_ (by omega))
      simp only [va_up]
      simp
      omega
    · rw [if_neg (show ¬ iI (b2i true) = iI 0 by decide)]
      refine mbind_ok (goal_v har _ _ ?_ (by omega))
      simp only [va_up]
      simp
      omega
theorem take56_v {G : GH} {a : Nat} {r : Nat} (har : a ≠ r) (v g : Nat → Int) (fr : Bool) (h4 : -1000 ≤ v 4 ∧ v 4 ≤ 1000) (h5 : -1000 ≤ v 5 ∧ v 5 ≤ 1000) (h6 : -1000 ≤ v 6 ∧ v 6 ≤ 1000) (h7 : -1000 ≤ v 7 ∧ v 7 ≤ 1000) : (f_X3_take_56 a (iI (b2i fr))).1 (VH G a r v g) = some ((), VH G a r (sGoal (sGone v fr) (if fr = true then -1 else 0)) g) := by
  unfold f_X3_take_56 sGone
  cases fr
  · rw [if_pos (show iI (b2i false) = 0 from rfl)]
    simp only [ev_gi, VH_a har, gi_v0, gi_v1, gi_v2, gi_v3, gi_v4, gi_v5, gi_v6, gi_v7, gi_v8, gi_v9, gr_v, gis_v, gp_v0, gp_v1, gp_v2, gp_v3, gp_v4, gp_v5, gp_v6, gp_v7, gp_v8, gp_v9, up_self, up_idem, up_ne, Option.elim_some]
    by_cases h : v 5 = 0
    · rw [if_pos (by rw [h]; rfl)]
      simp only [h]
      exact take87_v har v g false true h4 h5 h6 h7
    · rw [if_neg (by rw [lz0, iI_eq (by omega) (by omega) (by omega) (by omega)]; exact h)]
      simp only [h]
      exact take87_v har v g false false h4 h5 h6 h7
  · rw [if_neg (show ¬ iI (b2i true) = 0 by decide)]
    simp only [ev_gi, VH_a har, gi_v0, gi_v1, gi_v2, gi_v3, gi_v4, gi_v5, gi_v6, gi_v7, gi_v8, gi_v9, gr_v, gis_v, gp_v0, gp_v1, gp_v2, gp_v3, gp_v4, gp_v5, gp_v6, gp_v7, gp_v8, gp_v9, up_self, up_idem, up_ne, Option.elim_some]
    by_cases h : 0 < v 4
    · rw [if_neg (by rw [lz0, iI_le (by omega) (by omega) (by omega) (by omega)]; omega)]
      simp only [h, if_true]
      exact take87_v har v g true true h4 h5 h6 h7
    · rw [if_pos (by rw [lz0, iI_le (by omega) (by omega) (by omega) (by omega)]; omega)]
      simp only [h, if_true, if_false]
      exact take87_v har v g true false h4 h5 h6 h7
theorem take30_v {G : GH} {a : Nat} {r : Nat} (har : a ≠ r) (v : Nat → Int) (p : Int32) (l : Nat) (hl : l < 40) : ∀ (d fu m : Nat) (g : Nat → Int), m + d = l → d < fu →
    (f_X3_take_30 fu a p (iI l) (iI m)).1 (VH G a r v g) = (f_X3_take_56 a p).1 (VH G a r v (shb g m l))
  | _, 0, _, _, _, h => absurd h (by omega)
  | 0, fu + 1, m, g, e, _ => by
    unfold f_X3_take_30
    have : m = l := by omega
    subst this
    rw [if_pos (by rw [iI_le (by omega) (by omega) (by omega) (by omega)]; omega), shb_0]
  | d + 1, fu + 1, m, g, e, h => by
    unfold f_X3_take_30
    rw [if_neg (by rw [iI_le (by omega) (by omega) (by omega) (by omega)]; omega)]
    simp only [ev_gr, ev_chk, VH_a har, gi_v0, gi_v1, gi_v2, gi_v3, gi_v4, gi_v5, gi_v6, gi_v7, gi_v8, gi_v9, gr_v, gis_v, gp_v0, gp_v1, gp_v2, gp_v3, gp_v4, gp_v5, gp_v6, gp_v7, gp_v8, gp_v9, up_self, up_idem, up_ne, Option.elim_some, if_true]
    rw [show iI (m : Int) + 1 = iI ((m + 1 : Nat) : Int) by rw [lz1, iI_add]; congr 1]
    rw [mbind_ok (look_v har v g (by omega) (by omega)), mbind_ok (fill_v har v g (by omega) (by omega))]
    rw [take30_v har v p l hl d fu (m + 1) _ (by omega) (by omega)]
    rw [show ((m : Int)).toNat = m by omega, show (((m + 1 : Nat) : Int)).toNat = m + 1 by omega, shb_s g m l (by omega)]
theorem take_v {G : GH} {a : Nat} {r : Nat} (har : a ≠ r) (v g : Nat → Int) (fr : Bool) (h4 : 0 ≤ v 4 ∧ v 4 ≤ 1000) (h5 : 0 ≤ v 5 ∧ v 5 ≤ 1000) (h6 : -1000 ≤ v 6 ∧ v 6 ≤ 1000) (h7 : -1000 ≤ v 7 ∧ v 7 ≤ 1000) (hs : v 4 + v 5 ≤ 40) (hp : 0 < v 4 + v 5) : (f_X3_take a (iI (b2i fr))).1 (VH G a r v g) = some ((), VH G a r (sTake v fr (g (if fr = true then 0 else (v 4 + v 5 - 1).toNat))) (if fr = true then shb g 0 (v 4 + v 5 - 1).toNat else g)) := by
  unfold f_X3_take
  simp only [ev_chk, VH_a har, gis_v, if_true]
  rw [mbind_ok (size_v har v g)]
  cases fr
  · rw [if_pos (show iI (b2i false) = 0 from rfl)]
    unfold f_X3_take_18
    simp only [ev_chk, VH_a har, gis_v, if_true]
    rw [lz1, iI_sub, mbind_ok (look_v har v g (by omega) (by omega))]
    simp only [ev_put, VH_a har, gi_v0, gi_v1, gi_v2, gi_v3, gi_v4, gi_v5, gi_v6, gi_v7, gi_v8, gi_v9, gr_v, gis_v, gp_v0, gp_v1, gp_v2, gp_v3, gp_v4, gp_v5, gp_v6, gp_v7, gp_v8, gp_v9, up_self, up_idem, up_ne, Option.elim_some, VH_ua har]
    rw [if_pos (show iI (b2i false) = 0 from rfl)]
    exact take56_v har _ g false (by simp [va_up]; omega) (by simp [va_up]; omega) (by simp [va_up]; omega) (by simp [va_up]; omega)
  · rw [if_neg (show ¬ iI (b2i true) = 0 by decide)]
    unfold f_X3_take_18
    simp only [ev_chk, VH_a har, gis_v, if_true]
    rw [lz0, mbind_ok (look_v har v g (by omega) (by omega))]
    simp only [ev_put, VH_a har, gi_v0, gi_v1, gi_v2, gi_v3, gi_v4, gi_v5, gi_v6, gi_v7, gi_v8, gi_v9, gr_v, gis_v, gp_v0, gp_v1, gp_v2, gp_v3, gp_v4, gp_v5, gp_v6, gp_v7, gp_v8, gp_v9, up_self, up_idem, up_ne, Option.elim_some, VH_ua har]
    rw [if_neg (show ¬ iI (b2i true) = iI 0 by decide)]
    have e : iI (v 4 + v 5) - 1 = iI (((v 4 + v 5 - 1).toNat : Nat) : Int) := by rw [lz1, iI_sub]; congr 1; omega
    have e0 := take30_v (G := G) har (va_up v 2 (g (Int.toNat 0))) (iI (b2i true)) (v 4 + v 5 - 1).toNat (by omega) (v 4 + v 5 - 1).toNat FU 0 g (by omega) (by unfold FU; omega)
    rw [show iI ((0 : Nat) : Int) = iI 0 from rfl] at e0
    rw [e, e0]
    exact take56_v har _ _ true (by simp [va_up]; omega) (by simp [va_up]; omega) (by simp [va_up]; omega) (by simp [va_up]; omega)
