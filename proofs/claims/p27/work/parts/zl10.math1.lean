/-! LAW, numbers 1: what an act leaves in a version's numbers beside its parent's. -/
theorem goal_k (v : Nat → Int) (ch : Int) {k : Nat} (hk : k ≠ 7) : sGoal v ch k = v k := by
  unfold sGoal
  split
  · exact up_ne _ _ hk
  · rfl
theorem put_k (v : Nat → Int) (fr : Bool) (x : Int) : sPut v fr x 1 = v 1 ∧ sPut v fr x 2 = x ∧ sPut v fr x 6 = v 6 ∧ sPut v fr x 8 = v 8 ∧ sPut v fr x 9 = v 9 := by
  unfold sPut
  split
  · rw [goal_k _ _ (by decide), goal_k _ _ (by decide), goal_k _ _ (by decide), goal_k _ _ (by decide), goal_k _ _ (by decide)]
    exact ⟨rfl, rfl, rfl, rfl, rfl⟩
  · rw [goal_k _ _ (by decide), goal_k _ _ (by decide), goal_k _ _ (by decide), goal_k _ _ (by decide), goal_k _ _ (by decide)]
    exact ⟨rfl, rfl, rfl, rfl, rfl⟩
theorem take_k (v : Nat → Int) (fr : Bool) (mv : Int) : sTake v fr mv 1 = v 1 ∧ sTake v fr mv 2 = mv ∧ sTake v fr mv 6 = v 6 ∧ sTake v fr mv 8 = v 8 ∧ sTake v fr mv 9 = v 9 := by
  unfold sTake
  rw [goal_k _ _ (by decide), goal_k _ _ (by decide), goal_k _ _ (by decide), goal_k _ _ (by decide), goal_k _ _ (by decide)]
  unfold sGone
  by_cases hc : (if fr = true then 0 < va_up v 2 mv 4 else va_up v 2 mv 5 = 0)
  · rw [if_pos hc]
    exact ⟨rfl, rfl, rfl, rfl, rfl⟩
  · rw [if_neg hc]
    exact ⟨rfl, rfl, rfl, rfl, rfl⟩
theorem pay_k (v : Nat → Int) (rate : Int) : sPay v rate 1 = v 1 ∧ sPay v rate 2 = v 2 ∧ sPay v rate 6 = (if 0 < v 6 then v 6 - min rate (v 6) else v 6) ∧ sPay v rate 8 = v 8 + (if 0 < v 6 then min rate (v 6) else 0) ∧ sPay v rate 9 = v 9 := by
  unfold sPay
  by_cases h : 0 < v 6
  · rw [if_pos h, if_pos h, if_pos h]
    by_cases h2 : v 6 - min rate (v 6) = 0
    · rw [if_pos h2]
      refine ⟨rfl, rfl, ?_, rfl, rfl⟩
      rw [h2]
      rfl
    · rw [if_neg h2]
      exact ⟨rfl, rfl, rfl, rfl, rfl⟩
  · rw [if_neg h, if_neg h, if_neg h]
    exact ⟨rfl, rfl, rfl, by omega, rfl⟩
theorem begin_k (v : Nat → Int) (ratio : Int) : sBegin v ratio 1 = v 1 ∧ sBegin v ratio 2 = v 2 ∧ (0 < v 6 → sBegin v ratio 6 = v 6) ∧ sBegin v ratio 8 = v 8 ∧ sBegin v ratio 9 = v 9 := by
  unfold sBegin
  by_cases h : 0 < v 6
  · rw [if_pos h]
    exact ⟨rfl, rfl, fun _ => rfl, rfl, rfl⟩
  · rw [if_neg h]
    split
    · exact ⟨rfl, rfl, fun hh => absurd hh h, rfl, rfl⟩
    · exact ⟨rfl, rfl, fun hh => absurd hh h, rfl, rfl⟩
theorem begin_rb (v : Nat → Int) (ratio : Int) (h4 : 0 ≤ v 4) (h5 : 0 ≤ v 5) (h6 : 0 ≤ v 6) (hr : 0 ≤ ratio ∧ ratio ≤ 5) (h0 : sBegin v ratio 6 = 0) : max (sBegin v ratio 4) (sBegin v ratio 5) ≤ 5 * min (sBegin v ratio 4) (sBegin v ratio 5) + 1 := by
  unfold sBegin at h0 ⊢
  by_cases h : 0 < v 6
  · rw [if_pos h] at h0
    omega
  · rw [if_neg h] at h0 ⊢
    have hm : ratio * min (v 4) (v 5) ≤ 5 * min (v 4) (v 5) := Int.mul_le_mul_of_nonneg_right hr.2 (by omega)
    have hm0 : 0 ≤ ratio * min (v 4) (v 5) := Int.mul_nonneg hr.1 (by omega)
    by_cases h2 : ratio * min (v 4) (v 5) + 1 < max (v 4) (v 5)
    · rw [if_pos h2] at h0
      have h3 : v 4 + v 5 = 0 := h0
      omega
    · rw [if_neg h2]
      omega
/-- what fetching leaves where the end's part is empty: no debt, and the extra steps are the cost -/
theorem fetch_k (v : Nat → Int) (fr : Bool) (h6 : 0 ≤ v 6) (h8 : v 8 = 0) (h9 : v 9 = 0) (hn : 0 < v 4 + v 5) (hp : sPart v fr = 0) : sFetch v fr 1 = v 1 ∧ sFetch v fr 6 = 0 ∧ sFetch v fr 8 = sFetch v fr 9 ∧ v 6 ≤ sFetch v fr 9 := by
  unfold sFetch
  rw [if_neg (by omega)]
  unfold sF3 sF2 sF1
  by_cases h : 0 < v 6
  · rw [if_pos h]
    split
    · refine ⟨rfl, rfl, ?_, ?_⟩
      · show v 8 + (v 9 + v 6 + (v 7 + (v 4 + v 5 - v 7) - 1)) = v 9 + v 6 + (v 7 + (v 4 + v 5 - v 7) - 1)
        omega
      · show v 6 ≤ v 9 + v 6 + (v 7 + (v 4 + v 5 - v 7) - 1)
        omega
    · refine ⟨rfl, rfl, ?_, ?_⟩
      · show v 8 + (v 9 + v 6) = v 9 + v 6
        omega
      · show v 6 ≤ v 9 + v 6
        omega
  · rw [if_neg h, if_pos hp]
    refine ⟨rfl, ?_, ?_, ?_⟩
    · show v 6 = 0
      omega
    · show v 8 + (v 9 + (v 4 + v 5 - 1)) = v 9 + (v 4 + v 5 - 1)
      omega
    · show v 6 ≤ v 9 + (v 4 + v 5 - 1)
      omega
/-- a version's numbers beside its parent's numbers u and its parent's row g -/
def PC (v u g : Nat → Int) : Prop :=
  (0 < v 9 → v 8 = v 9 + 1 ∧ 2 ≤ v 1 ∧ (v 1 = 2 → u 4 = 0) ∧ (v 1 = 3 → u 5 = 0)) ∧
  (v 9 = 0 → 1 ≤ v 8 ∧ v 8 ≤ 10 ∧ v 8 - 1 ≤ u 6 ∧ (0 < u 6 → 2 ≤ v 8 ∧ (0 < v 6 → v 8 - 1 < u 6 → v 6 = u 6 - (v 8 - 1)))) ∧
  (v 1 = 2 → v 2 = g 0) ∧ (v 1 = 3 → v 2 = g (u 4 + u 5 - 1).toNat) ∧ 0 ≤ v 9
def RB (v : Nat → Int) : Prop := v 6 = 0 → max (v 4) (v 5) ≤ 5 * min (v 4) (v 5) + 1
theorem pc_act {v : Nat → Int} (h : VBn v) (g : Nat → Int) {kind x rate ratio : Int} (hk : 0 ≤ kind ∧ kind ≤ 3) (hr : 1 ≤ rate ∧ rate ≤ 9) (hp : if kind < 2 then v 4 + v 5 < 40 else 0 < v 4 + v 5) : PC (sAct v g kind x rate ratio) v g := by
  unfold VBn at h
  unfold sAct
  by_cases h2 : kind < 2
  · rw [if_pos h2]
    obtain ⟨a1, a2, a6, a8, a9⟩ := put_k (sStart v kind) (decide (kind = 0)) x
    generalize sPut (sStart v kind) (decide (kind = 0)) x = w1 at a1 a2 a6 a8 a9 ⊢
    have b1 : w1 1 = kind := a1
    have b6 : w1 6 = v 6 := a6
    have b8 : w1 8 = 0 := a8
    have b9 : w1 9 = 0 := a9
    obtain ⟨c1, c2, c6, c8, c9⟩ := pay_k (sCost w1) rate
    obtain ⟨d1, d2, d6, d8, d9⟩ := begin_k (sPay (sCost w1) rate) ratio
    have e1 : sCost w1 1 = w1 1 := rfl
    have e6 : sCost w1 6 = w1 6 := rfl
    have e8 : sCost w1 8 = w1 8 + 1 := rfl
    have e9 : sCost w1 9 = w1 9 := rfl
    rw [e6] at c6 c8
    rw [e8] at c8
    generalize sBegin (sPay (sCost w1) rate) ratio = w3 at *
    generalize sPay (sCost w1) rate = w2 at *
    generalize sCost w1 = w9 at *
    refine ⟨fun hh => by omega, fun _ => ?_, fun hh => by omega, fun hh => by omega, by omega⟩
    by_cases hd : 0 < v 6
    · rw [b6, if_pos hd] at c6 c8
      refine ⟨by omega, by omega, by omega, fun _ => ⟨by omega, fun q1 q2 => ?_⟩⟩
      have := d6 (by omega)
      omega
    · rw [b6, if_neg hd] at c6 c8
      exact ⟨by omega, by omega, by omega, fun hh => absurd hh hd⟩
  · rw [if_neg h2] at hp
    rw [if_neg h2]
    have hfr : (decide (kind = 2) = true ∧ kind = 2) ∨ (decide (kind = 2) = false ∧ kind = 3) := by
      by_cases e : kind = 2
      · exact Or.inl ⟨decide_eq_true e, e⟩
      · exact Or.inr ⟨decide_eq_false e, by omega⟩
    have hs4 : sPart (sStart v kind) true = v 4 := rfl
    have hs5 : sPart (sStart v kind) false = v 5 := rfl
    obtain ⟨a1, a2, a6, a8, a9⟩ := take_k (sFetch (sStart v kind) (decide (kind = 2))) (decide (kind = 2)) (sMv v g kind)
    generalize sTake (sFetch (sStart v kind) (decide (kind = 2))) (decide (kind = 2)) (sMv v g kind) = w1 at a1 a2 a6 a8 a9 ⊢
    obtain ⟨c1, c2, c6, c8, c9⟩ := pay_k (sCost w1) rate
    obtain ⟨d1, d2, d6, d8, d9⟩ := begin_k (sPay (sCost w1) rate) ratio
    have e1 : sCost w1 1 = w1 1 := rfl
    have e2 : sCost w1 2 = w1 2 := rfl
    have e6 : sCost w1 6 = w1 6 := rfl
    have e8 : sCost w1 8 = w1 8 + 1 := rfl
    have e9 : sCost w1 9 = w1 9 := rfl
    rw [e6] at c6 c8
    rw [e8] at c8
    have hmv2 : kind = 2 → sMv v g kind = g 0 := fun e => by unfold sMv; rw [if_pos e]
    have hmv3 : kind = 3 → sMv v g kind = g (v 4 + v 5 - 1).toNat := fun e => by unfold sMv; rw [if_neg (by omega)]
    generalize sBegin (sPay (sCost w1) rate) ratio = w3 at *
    generalize sPay (sCost w1) rate = w2 at *
    generalize sCost w1 = w9 at *
    by_cases hp0 : 0 < sPart (sStart v kind) (decide (kind = 2))
    · have hf : sFetch (sStart v kind) (decide (kind = 2)) = sStart v kind := by
        unfold sFetch
        rw [if_pos hp0]
      rw [hf] at a1 a6 a8 a9
      have b1 : w1 1 = kind := a1
      have b6 : w1 6 = v 6 := a6
      have b8 : w1 8 = 0 := a8
      have b9 : w1 9 = 0 := a9
      refine ⟨fun hh => by omega, fun _ => ?_, fun hh => ?_, fun hh => ?_, by omega⟩
      · by_cases hd : 0 < v 6
        · rw [b6, if_pos hd] at c6 c8
          refine ⟨by omega, by omega, by omega, fun _ => ⟨by omega, fun q1 q2 => ?_⟩⟩
          have := d6 (by omega)
          omega
        · rw [b6, if_neg hd] at c6 c8
          exact ⟨by omega, by omega, by omega, fun hh => absurd hh hd⟩
      · have := hmv2 (by omega)
        omega
      · have := hmv3 (by omega)
        omega
    · have hz : sPart (sStart v kind) (decide (kind = 2)) = 0 := by
        rcases hfr with ⟨e, -⟩ | ⟨e, -⟩
        · rw [e] at hp0 ⊢
          omega
        · rw [e] at hp0 ⊢
          omega
      obtain ⟨f1, f6, f8, f9⟩ := fetch_k (sStart v kind) (decide (kind = 2)) (by show 0 ≤ v 6; omega) rfl rfl (by show 0 < v 4 + v 5; omega) hz
      have g1 : sStart v kind 1 = kind := rfl
      have g6 : sStart v kind 6 = v 6 := rfl
      have b6 : w1 6 = 0 := a6.trans f6
      rw [b6, if_neg (by omega)] at c6 c8
      have h45 : (kind = 2 → v 4 = 0) ∧ (kind = 3 → v 5 = 0) := by
        rcases hfr with ⟨e, e'⟩ | ⟨e, e'⟩
        · rw [e] at hz
          exact ⟨fun _ => by omega, fun hh => by omega⟩
        · rw [e] at hz
          exact ⟨fun hh => by omega, fun _ => by omega⟩
      refine ⟨fun hh => ⟨by omega, by omega, fun hh => h45.1 (by omega), fun hh => h45.2 (by omega)⟩, fun hh => ⟨by omega, by omega, by omega, fun hh => by omega⟩, fun hh => ?_, fun hh => ?_, by omega⟩
      · have := hmv2 (by omega)
        omega
      · have := hmv3 (by omega)
        omega
theorem rb_act {v : Nat → Int} (h : VBn v) (g : Nat → Int) {kind x rate ratio : Int} (hk : 0 ≤ kind ∧ kind ≤ 3) (hr : 0 ≤ rate ∧ rate ≤ 9) (hq : 0 ≤ ratio ∧ ratio ≤ 5) (hp : if kind < 2 then v 4 + v 5 < 40 else 0 < v 4 + v 5) : RB (sAct v g kind x rate ratio) := by
  intro h0
  have hw : ∃ z0 z1 z2 z3 n c e, ST (sPay (sCost (if kind < 2 then sPut (sStart v kind) (decide (kind = 0)) x else sTake (sFetch (sStart v kind) (decide (kind = 2))) (decide (kind = 2)) (sMv v g kind))) rate) z0 z1 z2 z3 n c e := by
    have h0 := st_start h kind
    by_cases h2 : kind < 2
    · simp only [h2, if_true] at hp ⊢
      exact ⟨_, _, _, _, _, _, _, st_pay (st_cost (st_put h0 (decide (kind = 0)) x hp)) hr⟩
    · simp only [h2, if_false] at hp ⊢
      exact ⟨_, _, _, _, _, _, _, st_pay (st_cost (st_take (st_fetch h0 _ hp) _ _ hp)) hr⟩
  obtain ⟨z0, z1, z2, z3, n, c, e, hw⟩ := hw
  unfold ST at hw
  unfold sAct at h0 ⊢
  exact begin_rb _ ratio (by omega) (by omega) (by omega) hq h0
/-- each version beside its parent -/
def SJ (s : SS) : Prop := ∀ i, i < s.2.2.1 → RB (s.2.2.2 i).1 ∧ (0 < i → PC (s.2.2.2 i).1 (s.2.2.2 (par s i)).1 (s.2.2.2 (par s i)).2)
theorem sj_of {s s' : SS} (hs : SI s) (h : SJ s) {n : Nat} (hn : n ≤ s.2.2.1) (he : ∀ i, i < n → s'.2.2.2 i = s.2.2.2 i) : ∀ i, i < n → RB (s'.2.2.2 i).1 ∧ (0 < i → PC (s'.2.2.2 i).1 (s'.2.2.2 (par s' i)).1 (s'.2.2.2 (par s' i)).2) := by
  intro i hi
  have h1 := h i (by omega)
  have hp : par s' i = par s i := by unfold par; rw [he i hi]
  rw [hp, he i hi]
  refine ⟨h1.1, fun h0 => ?_⟩
  have h2 := par_dep hs (i := i) (by omega) h0
  rw [he (par s i) (by omega)]
  exact h1.2 h0
theorem sj_grow {s : SS} (hs : SI s) (h : SJ s) (hh : s.2.2.1 < 100) {v : Nat} (hv : v < s.2.2.1) {kind x : Int} (hk : 0 ≤ kind ∧ kind ≤ 3) (hp : pmt (s.2.2.2 v).1 kind = true) : SJ (sGrow s v kind x) := by
  intro i hi
  have hi' : i < s.2.2.1 + 1 := hi
  by_cases e : i = s.2.2.1
  · subst e
    have hb := (hs.2.2.2 v hv).1
    have hb2 : VBn (va_up (s.2.2.2 v).1 0 (v : Int)) := by
      have h9 : ∀ k, k ≠ 0 → va_up (s.2.2.2 v).1 0 (v : Int) k = (s.2.2.2 v).1 k := fun k hk => up_ne _ _ hk
      unfold VBn at hb ⊢
      rw [h9 4 (by decide), h9 5 (by decide), h9 6 (by decide), h9 7 (by decide), h9 8 (by decide), h9 9 (by decide), h9 3 (by decide), h9 1 (by decide), h9 2 (by decide), up_self]
      omega
    have hp2 : if kind < 2 then va_up (s.2.2.2 v).1 0 (v : Int) 4 + va_up (s.2.2.2 v).1 0 (v : Int) 5 < 40 else 0 < va_up (s.2.2.2 v).1 0 (v : Int) 4 + va_up (s.2.2.2 v).1 0 (v : Int) 5 := by
      rw [up_ne _ _ (by decide), up_ne _ _ (by decide)]
      unfold pmt at hp
      split
      · rename_i h2
        rw [if_pos h2] at hp
        exact of_decide_eq_true hp
      · rename_i h2
        rw [if_neg h2] at hp
        exact of_decide_eq_true hp
    have hst := st_act hb2 (s.2.2.2 v).2 (x := x) hk (rate := s.1) (ratio := s.2.1) (by have := hs.1; omega) (by have := hs.2.1; omega) hp2
    have e1 : ((sGrow s v kind x).2.2.2 s.2.2.1).1 = sAct (va_up (s.2.2.2 v).1 0 (v : Int)) (s.2.2.2 v).2 kind x s.1 s.2.1 := by
      unfold sGrow
      dsimp only
      rw [up_self]
    have hpar : par (sGrow s v kind x) s.2.2.1 = v := by
      unfold par
      rw [e1, hst.1, up_self]
      exact Int.toNat_natCast v
    have e2 : (sGrow s v kind x).2.2.2 v = s.2.2.2 v := by
      unfold sGrow
      exact up_ne _ _ (by omega)
    rw [hpar, e1, e2]
    exact ⟨rb_act hb2 _ hk (by have := hs.1; omega) (by have := hs.2.1; omega) hp2, fun _ => pc_act hb2 _ hk hs.1 hp2⟩
  · exact sj_of hs h (Nat.le_refl _) (fun j hj => by unfold sGrow; exact up_ne _ _ (by omega)) i (by omega)
theorem sj_held {s : SS} (h : SJ s) {n : Nat} (hn : n ≤ s.2.2.1) : SJ (sHeld s n) := fun i hi => h i (Nat.lt_of_lt_of_le hi hn)
theorem sj_set {s : SS} (h : SJ s) {k x : Int} : SJ (sSet s k x) := by
  unfold sSet
  split
  · exact h
  · exact h
theorem dA_sj {m : Nat} {ks vs : Nat → Int} (hk : KV m ks vs) : ∀ d i s v, i + d ≤ m → SI s → SJ s → v < s.2.2.1 → SJ (dA ks vs d i s v).1
  | 0, i, s, v, _, _, hj, _ => by
    unfold dA
    exact hj
  | d + 1, i, s, v, h, hs, hj, hv => by
    unfold dA
    split
    · rename_i hc
      rw [Bool.and_eq_true] at hc
      have h1 : s.2.2.1 < 100 := of_decide_eq_true hc.1
      exact dA_sj hk d (i + 1) _ _ (by omega) (si_grow hs h1 hv (hk i (by omega)).1 (hk i (by omega)).2 hc.2) (sj_grow hs hj h1 hv (hk i (by omega)).1 hc.2) (by show s.2.2.1 < s.2.2.1 + 1; omega)
    · exact hj
/-- the world's states: each version beside its parent -/
def WJ (w : WW) : Prop := SJ w.1 ∧ ∀ i, i < w.2.2.1 → SJ (w.2.1 i)
theorem wj_save {w : WW} (h : WJ w) {s : SS} (hs : SJ s) : WJ (wSave w s) := by
  refine ⟨hs, ?_⟩
  intro i hi
  have hi' : i < nSv w.2.2.1 := hi
  show SJ (sSv w.2.1 w.2.2.1 w.1 i)
  unfold nSv at hi'
  unfold sSv
  by_cases h4 : w.2.2.1 < 4
  · rw [if_pos h4] at hi' ⊢
    by_cases e : i = w.2.2.1
    · rw [e, up_self]
      exact h.1
    · rw [up_ne _ _ e]
      exact h.2 i (by omega)
  · rw [if_neg h4] at hi' ⊢
    by_cases e : i = 3
    · rw [e, up_self]
      exact h.1
    · rw [up_ne _ _ e]
      have h5 := h.2 (i + 1)
      exact h5 (by omega)
