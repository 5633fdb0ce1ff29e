/-! PURE PART 4: perform, and what an act does to small numbers and rows -/
def cRow (g : Nat → Int) (kind x : Int) (n : Nat) : Nat → Int := if kind = 0 then shf g n x else if kind = 1 then va_up g n x else if kind = 2 then shb g 0 (n - 1) else g
def sRow (g : Nat → Int) (kind x : Int) (n : Nat) : Nat → Int := if kind = 0 then (fun j => if j = 0 then x else g (j - 1)) else if kind = 1 then va_up g n x else if kind = 2 then (fun j => g (j + 1)) else g
theorem row_ok {g row : Nat → Int} {n : Nat} (h : ∀ j, j < n → g j = row j) (kind x : Int) (hk : 0 ≤ kind ∧ kind ≤ 3) : ∀ j, j < (if kind < 2 then n + 1 else n - 1) → cRow g kind x n j = sRow row kind x n j := by
  intro j hj
  unfold cRow sRow
  by_cases h0 : kind = 0
  · simp only [h0, if_true]
    rw [if_pos (by omega)] at hj
    unfold shf
    by_cases h1 : j = 0
    · simp [h1]
    · have h2 : j ≤ n := by omega
      simp only [h1, h2, if_true, if_false]
      exact h _ (by omega)
  · by_cases h1 : kind = 1
    · simp only [h1, if_true]
      rw [if_pos (by omega)] at hj
      simp only [show ¬ ((1 : Int) = 0) by decide, if_false]
      unfold va_up
      by_cases h2 : j = n
      · simp [h2]
      · simp only [h2, if_false]
        exact h _ (by omega)
    · rw [if_neg (by omega)] at hj
      by_cases h2 : kind = 2
      · simp only [h2, if_true, show ¬ ((2 : Int) = 0) by decide, show ¬ ((2 : Int) = 1) by decide, if_false]
        unfold shb
        rw [if_pos (by omega)]
        exact h _ (by omega)
      · simp only [h0, h1, h2, if_false]
        exact h _ (by omega)
/-- the stages of an act keep the numbers small: the four first, the size, the greatest cost and extra -/
def ST (v : Nat → Int) (z0 z1 z2 z3 n c e : Int) : Prop := v 0 = z0 ∧ v 1 = z1 ∧ v 2 = z2 ∧ v 3 = z3 ∧ v 4 + v 5 = n ∧ 0 ≤ v 4 ∧ 0 ≤ v 5 ∧ n ≤ 40 ∧ (0 ≤ v 6 ∧ v 6 ≤ 40) ∧ (0 < v 6 → 0 ≤ v 7 ∧ v 7 ≤ n) ∧ (v 6 = 0 → v 7 = -1) ∧ (0 ≤ v 8 ∧ v 8 ≤ c) ∧ (0 ≤ v 9 ∧ v 9 ≤ e)
theorem st_start {v : Nat → Int} (h : VBn v) (kind : Int) : ST (sStart v kind) (v 0) kind (v 2) (v 3 + 1) (v 4 + v 5) 0 0 := by
  unfold ST sStart
  unfold VBn at h
  simp [va_up]
  omega
section Stage
variable {v : Nat → Int} {z0 z1 z2 z3 n c e : Int}
theorem st_cost (h : ST v z0 z1 z2 z3 n c e) : ST (sCost v) z0 z1 z2 z3 n (c + 1) e := by
  unfold ST at h ⊢
  unfold sCost
  simp [va_up]
  omega
theorem st_end (h : ST v z0 z1 z2 z3 n c e) (hd : 0 < v 6) : ST (sEnd v) z0 z1 z2 z3 n c e := by
  unfold ST at h ⊢
  unfold sEnd
  simp [va_up]
  omega
theorem st_pay (h : ST v z0 z1 z2 z3 n c e) {rate : Int} (hr : 0 ≤ rate ∧ rate ≤ 9) : ST (sPay v rate) z0 z1 z2 z3 n (c + 9) e := by
  unfold sPay
  by_cases hd : 0 < v 6
  · rw [if_pos hd]
    by_cases h2 : v 6 - min rate (v 6) = 0
    · rw [if_pos h2]
      unfold ST at h ⊢
      unfold sEnd sPay1
      simp [va_up]
      omega
    · rw [if_neg h2]
      unfold ST at h ⊢
      unfold sPay1
      simp [va_up]
      omega
  · rw [if_neg hd]
    unfold ST at h ⊢
    omega
theorem st_begin (h : ST v z0 z1 z2 z3 n c e) {ratio : Int} (hr : 0 ≤ ratio ∧ ratio ≤ 5) : ST (sBegin v ratio) z0 z1 z2 z3 n c e := by
  unfold sBegin
  by_cases hd : 0 < v 6
  · rw [if_pos hd]
    exact h
  · rw [if_neg hd]
    have hm1 : 0 ≤ ratio * min (v 4) (v 5) := Int.mul_nonneg hr.1 (by unfold ST at h; omega)
    by_cases h2 : ratio * min (v 4) (v 5) + 1 < max (v 4) (v 5)
    · rw [if_pos h2]
      unfold ST at h ⊢
      simp [va_up]
      omega
    · rw [if_neg h2]
      exact h
/-- the goal may stand one off before it is moved -/
def SG (v : Nat → Int) (z0 z1 z2 z3 n c e : Int) : Prop := v 0 = z0 ∧ v 1 = z1 ∧ v 2 = z2 ∧ v 3 = z3 ∧ v 4 + v 5 = n ∧ 0 ≤ v 4 ∧ 0 ≤ v 5 ∧ (0 ≤ n ∧ n ≤ 40) ∧ (0 ≤ v 6 ∧ v 6 ≤ 40) ∧ (0 < v 6 → 0 ≤ v 7 ∧ v 7 ≤ n + 1) ∧ (v 6 = 0 → v 7 = -1) ∧ (0 ≤ v 8 ∧ v 8 ≤ c) ∧ (0 ≤ v 9 ∧ v 9 ≤ e)
theorem sg_goal (h : SG v z0 z1 z2 z3 n c e) (ch : Int) : ST (sGoal v ch) z0 z1 z2 z3 n c e := by
  unfold sGoal
  split
  · unfold SG at h
    unfold ST
    simp [va_up]
    omega
  · unfold SG at h
    unfold ST
    omega
theorem st_put (h : ST v z0 z1 z2 z3 n c e) (fr : Bool) (x : Int) (hn : n < 40) : ST (sPut v fr x) z0 z1 x z3 (n + 1) c e := by
  unfold sPut
  cases fr
  · refine sg_goal ?_ _
    unfold ST at h
    unfold SG
    simp [va_up]
    omega
  · refine sg_goal ?_ _
    unfold ST at h
    unfold SG
    simp [va_up]
    omega
theorem st_take (h : ST v z0 z1 z2 z3 n c e) (fr : Bool) (x : Int) (hn : 0 < n) : ST (sTake v fr x) z0 z1 x z3 (n - 1) c e := by
  unfold sTake
  refine sg_goal ?_ _
  unfold sGone
  unfold ST at h
  cases fr
  · simp only [Bool.false_eq_true, if_false]
    by_cases h5 : v 5 = 0
    · rw [if_pos (by simp [va_up]; exact h5)]
      unfold SG
      simp [va_up]
      omega
    · rw [if_neg (by simp [va_up]; exact h5)]
      unfold SG
      simp [va_up]
      omega
  · simp only [if_true]
    by_cases h5 : 0 < v 4
    · rw [if_pos (by simp [va_up]; exact h5)]
      unfold SG
      simp [va_up]
      omega
    · rw [if_neg (by simp [va_up]; omega)]
      unfold SG
      simp [va_up]
      omega
theorem st_fetch (h : ST v z0 z1 z2 z3 n 0 0) (fr : Bool) (hn : 0 < n) : ST (sFetch v fr) z0 z1 z2 z3 n 80 80 := by
  unfold sFetch
  split
  · unfold ST at h ⊢
    omega
  · have h1 : ST (sF1 v) z0 z1 z2 z3 n 0 40 := by
      unfold sF1
      split
      · refine st_end ?_ ?_
        · unfold ST at h ⊢
          simp [va_up]
          omega
        · simp [va_up]
          omega
      · unfold ST at h ⊢
        omega
    have h2 : ST (sF2 (sF1 v) fr) z0 z1 z2 z3 n 0 80 := by
      unfold sF2
      split
      · unfold ST at h1 ⊢
        simp [va_up]
        omega
      · unfold ST at h1 ⊢
        omega
    unfold sF3
    unfold ST at h2 ⊢
    simp [va_up]
    omega
end Stage
theorem st_act {v : Nat → Int} (h : VBn v) (g : Nat → Int) {kind x rate ratio : Int} (hk : 0 ≤ kind ∧ kind ≤ 3) (hr : 0 ≤ rate ∧ rate ≤ 9) (hq : 0 ≤ ratio ∧ ratio ≤ 5) (hp : if kind < 2 then v 4 + v 5 < 40 else 0 < v 4 + v 5) :
    ST (sAct v g kind x rate ratio) (v 0) kind (if kind < 2 then x else sMv v g kind) (v 3 + 1) (v 4 + v 5 + if kind < 2 then 1 else -1) 90 80 := by
  unfold sAct
  refine st_begin ?_ hq
  refine st_pay (c := 81) ?_ hr
  refine st_cost (c := 80) ?_
  have h0 := st_start h kind
  by_cases h2 : kind < 2
  · simp only [h2, if_true] at hp ⊢
    have := st_put h0 (decide (kind = 0)) x hp
    unfold ST at this ⊢
    omega
  · simp only [h2, if_false] at hp ⊢
    exact st_take (st_fetch h0 _ hp) _ _ hp
theorem vb_act {v : Nat → Int} (h : VBn v) (g : Nat → Int) {kind x rate ratio : Int} (hk : 0 ≤ kind ∧ kind ≤ 3) (hr : 0 ≤ rate ∧ rate ≤ 9) (hq : 0 ≤ ratio ∧ ratio ≤ 5) (hp : if kind < 2 then v 4 + v 5 < 40 else 0 < v 4 + v 5) (hx : -999 ≤ x ∧ x ≤ 999) (hg : ∀ j : Nat, (j : Int) < v 4 + v 5 → -999 ≤ g j ∧ g j ≤ 999) (h3 : v 3 < 100) : VBn (sAct v g kind x rate ratio) := by
  have hs := st_act h g (x := x) hk hr hq hp
  have hm : -999 ≤ (if kind < 2 then x else sMv v g kind) ∧ (if kind < 2 then x else sMv v g kind) ≤ 999 := by
    split
    · exact hx
    · rename_i h2
      rw [if_neg h2] at hp
      unfold sMv
      split
      · exact hg 0 (by omega)
      · exact hg _ (by omega)
  unfold ST at hs
  unfold VBn at h ⊢
  split at hs <;> omega
theorem gp_v8z (v : Nat → Int) (r : Nat) : gput (some (vcl v r)) 3 8 (.int 0) = some (vcl (va_up v 8 0) r) := rfl
theorem gp_v9z (v : Nat → Int) (r : Nat) : gput (some (vcl v r)) 3 9 (.int 0) = some (vcl (va_up v 9 0) r) := rfl
theorem isPush_run {a : Nat} {r : Nat} (har : a ≠ r) (G : GH) {kind : Int} (hk : 0 ≤ kind ∧ kind ≤ 3) : (f_X4_isPush (iI kind)).1 G = some (iI (if kind < 2 then 1 else 0), G) := by
  have : kind = 0 ∨ kind = 1 ∨ kind = 2 ∨ kind = 3 := by omega
  rcases this with h | h | h | h <;> subst h <;> rfl
theorem isAtFront_run {a : Nat} {r : Nat} (har : a ≠ r) (G : GH) {kind : Int} (hk : 0 ≤ kind ∧ kind ≤ 3) : (f_X4_isAtFront (iI kind)).1 G = some (iI (b2i (decide (kind = 0 ∨ kind = 2))), G) := by
  have : kind = 0 ∨ kind = 1 ∨ kind = 2 ∨ kind = 3 := by omega
  rcases this with h | h | h | h <;> subst h <;> rfl
theorem tail_v {G : GH} {a : Nat} {r : Nat} (har : a ≠ r) (w g : Nat → Int) {rate ratio : Int} {z0 z1 z2 z3 n c e : Int} (h : ST w z0 z1 z2 z3 n c e) (hc : c ≤ 200) (hr : 0 ≤ rate ∧ rate ≤ 9) (hq : 0 ≤ ratio ∧ ratio ≤ 5) :
    (mbind (mgi a 3 8) (fun x5 => (mbind (mput a 3 8 (.int (x5 + 1))) (fun _ => (mbind (mchk a 3) (fun _ => mbind (f_X3_pay a (iI rate)) (fun _ => (mbind (mchk a 3) (fun _ => mbind (f_X3_beginRebuild a (iI ratio)) (fun _ => (mpure ()))))))))))).1 (VH G a r w g)
      = some ((), VH G a r (sBegin (sPay (sCost w) rate) ratio) g) := by
  have h1 := st_cost h
  have h2 := st_pay h1 hr
  simp only [mb_assoc, mb_pure, mb_ite, ite_run, pure_run, ev_gi, ev_gr, ev_chk, ev_put, ev_len, ev_ali, ev_asi, ev_bool, Option.elim_some, eq_self, if_true, if_false, iI_add, iI_sub, iI_mul, iI_neg, lz0, lz1, lz2, lz3, lz4, lz5, lz6, lz7, lz8, lz9, lz10, lz40, lz100, lzm1, or_true, true_or, VH_a har, gi_v0, gi_v1, gi_v2, gi_v3, gi_v4, gi_v5, gi_v6, gi_v7, gi_v8, gi_v9, gr_v, gis_v, gp_v0, gp_v1, gp_v2, gp_v3, gp_v4, gp_v5, gp_v6, gp_v7, gp_v8, gp_v9, up_self, up_idem, up_ne, VH_ua har]
  have e1 : va_up w 8 (w 8 + 1) = sCost w := rfl
  rw [e1, mbind_ok (pay_v har _ _ (by unfold ST at h1; omega) (by omega))]
  simp only [mb_assoc, mb_pure, mb_ite, ite_run, pure_run, ev_gi, ev_gr, ev_chk, ev_put, ev_len, ev_ali, ev_asi, ev_bool, Option.elim_some, eq_self, if_true, if_false, iI_add, iI_sub, iI_mul, iI_neg, lz0, lz1, lz2, lz3, lz4, lz5, lz6, lz7, lz8, lz9, lz10, lz40, lz100, lzm1, or_true, true_or, VH_a har, gi_v0, gi_v1, gi_v2, gi_v3, gi_v4, gi_v5, gi_v6, gi_v7, gi_v8, gi_v9, gr_v, gis_v, gp_v0, gp_v1, gp_v2, gp_v3, gp_v4, gp_v5, gp_v6, gp_v7, gp_v8, gp_v9, up_self, up_idem, up_ne, VH_ua har]
  refine mbind_ok (begin_v har _ _ ?_ ?_ ?_ hq)
  · unfold ST at h2; omega
  · unfold ST at h2; omega
  · unfold ST at h2; omega
theorem perform_v {G : GH} {a : Nat} {r : Nat} (har : a ≠ r) (v g : Nat → Int) {kind x rate ratio : Int} (h : VBn v) (hk : 0 ≤ kind ∧ kind ≤ 3) (hr : 0 ≤ rate ∧ rate ≤ 9) (hq : 0 ≤ ratio ∧ ratio ≤ 5) (hp : if kind < 2 then v 4 + v 5 < 40 else 0 < v 4 + v 5) :
    (f_X3_perform a (iI kind) (iI x) (iI rate) (iI ratio)).1 (VH G a r v g) = some ((), VH G a r (sAct v g kind x rate ratio) (cRow g kind x (v 4 + v 5).toNat)) := by
  have h0 := st_start h kind
  unfold f_X3_perform
  simp only [ev_gi, ev_put, VH_a har, gi_v0, gi_v1, gi_v2, gi_v3, gi_v4, gi_v5, gi_v6, gi_v7, gi_v8, gi_v9, gr_v, gis_v, gp_v0, gp_v1, gp_v2, gp_v3, gp_v4, gp_v5, gp_v6, gp_v7, gp_v8, gp_v9, up_self, up_idem, up_ne, gp_v8z, gp_v9z, Option.elim_some, VH_ua har, lz1, iI_add]
  have e0 : va_up (va_up (va_up (va_up v 1 kind) 3 (va_up v 1 kind 3 + 1)) 8 0) 9 0 = sStart v kind := rfl
  rw [e0, mbind_ok (isAtFront_run har _ hk), mbind_ok (isPush_run har _ hk)]
  by_cases h2 : kind < 2
  · rw [if_pos h2] at hp ⊢
    rw [if_neg (show ¬ iI 1 = 0 by decide)]
    simp only [ev_chk, VH_a har, gis_v, if_true]
    have e4 : (sStart v kind) 4 + (sStart v kind) 5 = v 4 + v 5 := rfl
    have hw : decide (kind = 0 ∨ kind = 2) = decide (kind = 0) := decide_eq_decide.mpr (by omega)
    rw [hw, mbind_ok (put_v har (sStart v kind) g (decide (kind = 0)) x (by unfold ST at h0; omega) (by unfold ST at h0; omega) (by unfold ST at h0; omega) (by unfold ST at h0; omega) (by rw [e4]; exact hp))]
    rw [e4]
    have hsp := st_put h0 (decide (kind = 0)) x hp
    have ht := tail_v (G := G) har (sPut (sStart v kind) (decide (kind = 0)) x) (if (decide (kind = 0)) = true then shf g (v 4 + v 5).toNat x else va_up g (v 4 + v 5).toNat x) hsp (by omega) hr hq
    rw [lz1] at ht
    refine ht.trans ?_
    unfold sAct cRow
    rw [if_pos h2]
    by_cases hk0 : kind = 0
    · simp [hk0]
    · have hk1 : kind = 1 := by omega
      simp [hk1]
  · rw [if_neg h2] at hp ⊢
    rw [if_pos (show iI 0 = 0 from rfl)]
    simp only [ev_chk, VH_a har, gis_v, if_true]
    have hw : decide (kind = 0 ∨ kind = 2) = decide (kind = 2) := decide_eq_decide.mpr (by omega)
    have hf := st_fetch h0 (decide (kind = 2)) hp
    rw [hw, mbind_ok (fetch_v har (sStart v kind) g (decide (kind = 2)) (by unfold ST at h0; omega) (by unfold ST at h0; omega) (by unfold ST at h0; omega) (by unfold ST at h0; omega))]
    simp only [ev_chk, VH_a har, gis_v, if_true]
    have e4 : (sFetch (sStart v kind) (decide (kind = 2))) 4 + (sFetch (sStart v kind) (decide (kind = 2))) 5 = v 4 + v 5 := by unfold ST at hf; omega
    rw [mbind_ok (take_v har (sFetch (sStart v kind) (decide (kind = 2))) g (decide (kind = 2)) (by unfold ST at hf; omega) (by unfold ST at hf; omega) (by unfold ST at hf; omega) (by unfold ST at hf; omega) (by unfold ST at hf; omega) (by unfold ST at hf; omega))]
    rw [e4]
    have hst := st_take hf (decide (kind = 2)) (g (if (decide (kind = 2)) = true then 0 else (v 4 + v 5 - 1).toNat)) hp
    have ht := tail_v (G := G) har _ (if (decide (kind = 2)) = true then shb g 0 (v 4 + v 5 - 1).toNat else g) hst (by omega) hr hq
    rw [lz1] at ht
    refine ht.trans ?_
    unfold sAct cRow sMv
    rw [if_neg h2]
    by_cases hk2 : kind = 2
    · have e5 : (v 4 + v 5 - 1).toNat = (v 4 + v 5).toNat - 1 := by omega
      simp [hk2, e5]
    · have hk3 : kind = 3 := by omega
      simp [hk3]
