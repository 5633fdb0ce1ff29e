/-! PURE PART 9: the state's totals and questions; grow -/
noncomputable def totF (s : SS) (k : Nat) : Int := match k with
  | 0 => s.2.2.1
  | 1 => chF s s.2.2.1
  | 2 => maxF s 6 s.2.2.1
  | 3 => sumF s 6 s.2.2.1
  | 4 => stF s s.2.2.1
  | 5 => sumF s 7 s.2.2.1
  | 6 => rbF s s.2.2.1
  | _ => maxF s 9 s.2.2.1
def inV (s : SS) (z : Int) : Bool := decide (0 ≤ z ∧ z < s.2.2.1)
def pmt (v : Nat → Int) (kind : Int) : Bool := if kind < 2 then decide (v 4 + v 5 < 40) else decide (0 < v 4 + v 5)
/-- the state with one version more -/
def sGrow (s : SS) (k : Nat) (kind x : Int) : SS := (s.1, s.2.1, s.2.2.1 + 1, va_up s.2.2.2 s.2.2.1 (sAct (va_up (s.2.2.2 k).1 0 k) (s.2.2.2 k).2 kind x s.1 s.2.1, sRow (s.2.2.2 k).2 kind x (sz (s.2.2.2 k)).toNat))
theorem tot_run {L : Nat} {p : Nat} {va : Nat} {ma : Nat} {s : SS} {G : GH} {ow : Nat → Nat} {refs : Nat → Option Nat} (hL : 0 < L) (hs : SI s) (h : SX G ow L p va ma refs s) {k : Nat} (hk : k < 8) : RO (f_X1_total p (iI k)) G ow L p va ma refs s (iI (totF s k)) := by
  have hb : ∀ {F : MM Int32} {x : Int}, RO F G ow L p va ma refs s (iI x) → RO (mbind (mchk p 1) (fun _ => mbind F (fun x2 => mpure x2))) G ow L p va ma refs s (iI x) := by
    intro F x hF
    obtain ⟨G', ow', refs', h1, h2⟩ := hF
    refine ⟨G', ow', refs', ?_, h2⟩
    simp only [ev_chk, h.1.1, gis_s, if_true]
    exact mbind_ok h1
  have : k = 0 ∨ k = 1 ∨ k = 2 ∨ k = 3 ∨ k = 4 ∨ k = 5 ∨ k = 6 ∨ k = 7 := by omega
  rcases this with e | e | e | e | e | e | e | e <;> subst e <;> unfold f_X1_total
  · rw [if_pos (by decide)]
    refine ro_eq (ro_pure h) ?_
    simp only [ev_gi, h.1.1, gi_s0, Option.elim_some]
    rfl
  · rw [if_neg (by decide), if_pos (by decide)]
    rw [show totF s 1 = chF s s.2.2.1 from rfl]
    refine hb (F := f_X1_childless p) ?_
    exact (ch_run hL hs h)
  · rw [if_neg (by decide), if_neg (by decide), if_pos (by decide)]
    rw [show totF s 2 = maxF s 6 s.2.2.1 from rfl]
    rw [lz6]
    exact hb (maxF_run hL hs h (k := 6) (by omega))
  · rw [if_neg (by decide), if_neg (by decide), if_neg (by decide), if_pos (by decide)]
    rw [show totF s 3 = sumF s 6 s.2.2.1 from rfl]
    rw [lz6]
    exact hb (sumF_run hL hs h (k := 6) (by omega))
  · rw [if_neg (by decide), if_neg (by decide), if_neg (by decide), if_neg (by decide), if_pos (by decide)]
    rw [show totF s 4 = stF s s.2.2.1 from rfl]
    refine hb (F := f_X1_stalled p) ?_
    exact (stF_run hL hs h)
  · rw [if_neg (by decide), if_neg (by decide), if_neg (by decide), if_neg (by decide), if_neg (by decide), if_pos (by decide)]
    rw [show totF s 5 = sumF s 7 s.2.2.1 from rfl]
    rw [lz7]
    exact hb (sumF_run hL hs h (k := 7) (by omega))
  · rw [if_neg (by decide), if_neg (by decide), if_neg (by decide), if_neg (by decide), if_neg (by decide), if_neg (by decide), if_pos (by decide)]
    rw [show totF s 6 = rbF s s.2.2.1 from rfl]
    refine hb (F := f_X1_rebuilding p) ?_
    exact (rbF_run hL hs h)
  · rw [if_neg (by decide), if_neg (by decide), if_neg (by decide), if_neg (by decide), if_neg (by decide), if_neg (by decide), if_neg (by decide)]
    rw [show totF s 7 = maxF s 9 s.2.2.1 from rfl]
    rw [lz9]
    exact hb (maxF_run hL hs h (k := 9) (by omega))
theorem has_run {L : Nat} {p : Nat} {va : Nat} {ma : Nat} {s : SS} {G : GH} {ow : Nat → Nat} {refs : Nat → Option Nat} (hL : 0 < L) (hs : SI s) (h : SX G ow L p va ma refs s) {z : Int} (hz : -2147483648 ≤ z ∧ z < 2147483648) : (f_X1_has p (iI z)).1 G = some (iI (b2i (inV s z)), G) := by
  have h100 := hs.2.2.1
  unfold f_X1_has inV
  by_cases h0 : z < 0
  · rw [if_pos (by rw [lz0, iI_lt (by omega) (by omega) (by omega) (by omega)]; exact h0), decide_eq_false (by omega)]
    rfl
  · rw [if_neg (by rw [lz0, iI_lt (by omega) (by omega) (by omega) (by omega)]; exact h0)]
    simp only [ev_gi, h.1.1, gi_s0, Option.elim_some]
    by_cases h1 : z < s.2.2.1
    · rw [if_neg (by rw [iI_le (by omega) (by omega) (by omega) (by omega)]; omega), decide_eq_true (by omega)]
      rfl
    · rw [if_pos (by rw [iI_le (by omega) (by omega) (by omega) (by omega)]; omega), decide_eq_false (by omega)]
      rfl
theorem setg_run {L : Nat} {p : Nat} {va : Nat} {ma : Nat} {s : SS} {G : GH} {ow : Nat → Nat} {refs : Nat → Option Nat} (hL : 0 < L) (hs : SI s) (h : SX G ow L p va ma refs s) {k : Int} (hk : k = 0 ∨ k = 1) : (f_X1_settingOf p (iI k)).1 G = some (iI (if k = 0 then s.1 else s.2.1), G) := by
  unfold f_X1_settingOf
  rcases hk with e | e <;> subst e
  · rw [if_pos (by decide)]
    simp only [ev_gi, h.1.1, gi_s1, Option.elim_some]
    rfl
  · rw [if_neg (by decide)]
    simp only [ev_gi, h.1.1, gi_s2, Option.elim_some]
    rfl
theorem left_run {L : Nat} {p : Nat} {va : Nat} {ma : Nat} {s : SS} {G : GH} {ow : Nat → Nat} {refs : Nat → Option Nat} (hL : 0 < L) (hs : SI s) (h : SX G ow L p va ma refs s) : (f_X1_left p).1 G = some (iI (100 - s.2.2.1), G) := by
  unfold f_X1_left
  simp only [ev_gi, h.1.1, gi_s0, Option.elim_some]
  rw [lz100, iI_sub]
  rfl
theorem hasPlace_run {L : Nat} {p : Nat} {va : Nat} {ma : Nat} {s : SS} {G : GH} {ow : Nat → Nat} {refs : Nat → Option Nat} (hL : 0 < L) (hs : SI s) (h : SX G ow L p va ma refs s) {z y : Int} (hz : -2147483648 ≤ z ∧ z < 2147483648) (hy : -2147483648 ≤ y ∧ y < 2147483648) : RO (f_X1_hasPlace p (iI z) (iI y)) G ow L p va ma refs s (iI (b2i (inV s z && decide (0 ≤ y ∧ y < sz (s.2.2.2 z.toNat))))) := by
  have h100 := hs.2.2.1
  have hh := has_run hL hs h hz
  by_cases h0 : inV s z = true
  · have hv : 0 ≤ z ∧ z < s.2.2.1 := of_decide_eq_true h0
    rw [h0] at hh ⊢
    by_cases h1 : y < 0
    · refine ro_eq (ro_pure h) ?_
      unfold f_X1_hasPlace
      simp only [ev_chk, h.1.1, gis_s, if_true]
      rw [mbind_ok hh, if_neg (by decide), if_pos (by rw [lz0, iI_lt (by omega) (by omega) (by omega) (by omega)]; exact h1), decide_eq_false (by omega)]
      rfl
    · refine ro_eq (F' := mbind (f_X1_slot p (iI (z.toNat : Nat))) (fun r2 => (mbind (mchk r2 3) (fun _ => mbind (f_X3_size r2) (fun x3 => (if x3 ≤ iI y then (mbind (mbool 0) (fun _ => mpure 0)) else (mbind (mbool 1) (fun _ => mpure 1)))))))) ?_ ?_
      · refine ro_slot hL hs h (show z.toNat < s.2.2.1 by omega) ?_
        intro G' ow' refs' q r g h2 _ hq m3 m4 m5 _
        have hvb := vbn_of hL hs (show z.toNat < s.2.2.1 by omega)
        unfold VBn at hvb
        refine ro_eq (ro_pure h2) ?_
        simp only [ev_chk, m3, gis_v, if_true]
        rw [mbind_ok (size_run m3)]
        unfold sz
        by_cases h3 : y < (s.2.2.2 z.toNat).1 4 + (s.2.2.2 z.toNat).1 5
        · rw [if_neg (by rw [iI_le (by omega) (by omega) (by omega) (by omega)]; omega), decide_eq_true (by omega)]
          rfl
        · rw [if_pos (by rw [iI_le (by omega) (by omega) (by omega) (by omega)]; omega), decide_eq_false (by omega)]
          rfl
      · unfold f_X1_hasPlace
        simp only [ev_chk, h.1.1, gis_s, if_true]
        rw [mbind_ok hh, if_neg (by decide), if_neg (by rw [lz0, iI_lt (by omega) (by omega) (by omega) (by omega)]; exact h1)]
        simp only [ev_chk, h.1.1, gis_s, if_true]
        rw [show iI z = iI ((z.toNat : Nat) : Int) by congr 1; omega]
  · rw [Bool.not_eq_true] at h0
    rw [h0] at hh ⊢
    refine ro_eq (ro_pure h) ?_
    unfold f_X1_hasPlace
    simp only [ev_chk, h.1.1, gis_s, if_true]
    rw [mbind_ok hh, if_pos (by decide)]
    rfl
theorem allows_run {L : Nat} {p : Nat} {va : Nat} {ma : Nat} {s : SS} {G : GH} {ow : Nat → Nat} {refs : Nat → Option Nat} (hL : 0 < L) (hs : SI s) (h : SX G ow L p va ma refs s) {v : Nat} (hv : v < s.2.2.1) {kind : Int} (hk : 0 ≤ kind ∧ kind ≤ 3) : RO (f_X1_allows p (iI v) (iI kind)) G ow L p va ma refs s (iI (b2i (decide (s.2.2.1 < 100) && pmt (s.2.2.2 v).1 kind))) := by
  have h100 := hs.2.2.1
  have hl := left_run hL hs h
  by_cases h0 : s.2.2.1 < 100
  · rw [decide_eq_true h0]
    refine ro_eq (F' := mbind (f_X1_slot p (iI v)) (fun r2 => (mbind (mchk r2 3) (fun _ => mbind (f_X3_permits r2 (iI kind)) (fun x3 => (if x3 = 0 then (mbind (mbool 0) (fun _ => mpure 0)) else (mbind (mbool 1) (fun _ => mpure 1)))))))) ?_ ?_
    · refine ro_slot hL hs h hv ?_
      intro G' ow' refs' q r g h2 _ hq m3 m4 m5 _
      refine ro_eq (ro_pure h2) ?_
      simp only [ev_chk, m3, gis_v, if_true]
      rw [mbind_ok (permits_run m3 (vbn_of hL hs hv) hk)]
      rw [show (if kind < 2 then decide ((s.2.2.2 v).1 4 + (s.2.2.2 v).1 5 < 40) else decide (0 < (s.2.2.2 v).1 4 + (s.2.2.2 v).1 5)) = pmt (s.2.2.2 v).1 kind from rfl]
      cases pmt (s.2.2.2 v).1 kind
      · rw [if_pos (by decide)]; rfl
      · rw [if_neg (by decide)]; rfl
    · unfold f_X1_allows
      simp only [ev_chk, h.1.1, gis_s, if_true]
      rw [mbind_ok hl, if_neg (by rw [lz0, iI_le (by omega) (by omega) (by omega) (by omega)]; omega)]
      simp only [ev_chk, h.1.1, gis_s, if_true]
  · rw [decide_eq_false h0]
    refine ro_eq (ro_pure h) ?_
    unfold f_X1_allows
    simp only [ev_chk, h.1.1, gis_s, if_true]
    rw [mbind_ok hl, if_pos (by rw [lz0, iI_le (by omega) (by omega) (by omega) (by omega)]; omega)]
    rfl
theorem sAct_congr {v g g' : Nat → Int} {kind x rate ratio : Int} (h : ¬ kind < 2 → sMv v g kind = sMv v g' kind) : sAct v g kind x rate ratio = sAct v g' kind x rate ratio := by
  unfold sAct
  by_cases h2 : kind < 2
  · simp [h2]
  · rw [h h2]
/-- the state's cells when a version is added -/
theorem SC.grow {G : GH} {ow : Nat → Nat} {L p va ma : Nat} {refs : Nat → Option Nat} {s s' : SS} (h : SC G ow L p va ma refs s) (hh : s.2.2.1 < 100) {q r : Nat} (hq : refs s.2.2.1 = some q) (hr : ow r = L + 4 + 2 * s.2.2.1) {v' g' row' : Nat → Int}
    (hs' : s' = (s.1, s.2.1, s.2.2.1 + 1, va_up s.2.2.2 s.2.2.1 (v', row'))) (hrow : ∀ j : Nat, (j : Int) < v' 4 + v' 5 → g' j = row' j) (hL : 0 < L) :
    SC (va_up (VH G q r v' g').1 p (some (scl s' va ma)), G.2) ow L p va ma refs s' := by
  subst hs'
  obtain ⟨k1, ⟨mx, k2⟩, k3, k4, k5, k6, k7, k8⟩ := h
  have hql := (k7 _ hh q hq).1
  have hF : ∀ a, ow a ≠ L → ow a ≠ L + 3 + 2 * s.2.2.1 → ow a ≠ L + 4 + 2 * s.2.2.1 → va_up (VH G q r v' g').1 p (some (scl (s.1, s.2.1, s.2.2.1 + 1, va_up s.2.2.2 s.2.2.1 (v', row')) va ma)) a = G.1 a := fun a h1 h2 h3 => by
    rw [up_ne _ _ (fun e => h1 (by rw [e, k4]))]
    show va_up (va_up G.1 r _) q _ a = _
    rw [up_ne _ _ (fun e => h2 (by rw [e, hql])), up_ne _ _ (fun e => h3 (by rw [e, hr]))]
  have hqp : q ≠ p := fun e => by rw [e, k4] at hql; omega
  have hrp : r ≠ p := fun e => by rw [e, k4] at hr; omega
  have hqr : q ≠ r := fun e => by rw [e, hr] at hql; omega
  refine ⟨up_self _ _ _, ⟨mx, ?_⟩, ?_, k4, k5, k6, ?_, ?_⟩
  · exact (hF ma (by omega) (by omega) (by omega)).trans k2
  · exact (hF va (by omega) (by omega) (by omega)).trans k3
  · intro i hi q1 hq1
    by_cases hi2 : i = s.2.2.1
    · subst hi2
      rw [hq] at hq1
      cases hq1
      refine ⟨hql, r, v', g', hr, ?_, ?_, ?_⟩
      · show va_up (VH G q r v' g').1 p _ q = _
        rw [up_ne _ _ hqp]
        exact VH_a hqr v' g'
      · show va_up (VH G q r v' g').1 p _ r = _
        rw [up_ne _ _ hrp]
        exact VH_r hqr v' g'
      · intro _
        show v' = (va_up s.2.2.2 s.2.2.1 (v', row') s.2.2.1).1 ∧ ∀ j : Nat, (j : Int) < sz (va_up s.2.2.2 s.2.2.1 (v', row') s.2.2.1) → g' j = (va_up s.2.2.2 s.2.2.1 (v', row') s.2.2.1).2 j
        rw [up_self]
        exact ⟨rfl, hrow⟩
    · obtain ⟨m1, r1, v1, g1, m2, m3, m4, m5⟩ := k7 i hi q1 hq1
      refine ⟨m1, r1, v1, g1, m2, (hF q1 (by omega) (by omega) (by omega)).trans m3, (hF r1 (by omega) (by omega) (by omega)).trans m4, ?_⟩
      intro hlt
      have hlt' : i < s.2.2.1 + 1 := hlt
      show v1 = (va_up s.2.2.2 s.2.2.1 (v', row') i).1 ∧ ∀ j : Nat, (j : Int) < sz (va_up s.2.2.2 s.2.2.1 (v', row') i) → g1 j = (va_up s.2.2.2 s.2.2.1 (v', row') i).2 j
      rw [up_ne _ _ hi2]
      exact m5 (by omega)
  · intro i hi hn
    have hi' : i < s.2.2.1 + 1 := hi
    have hi2 : i ≠ s.2.2.1 := fun e => by rw [e, hq] at hn; cases hn
    show va_up s.2.2.2 s.2.2.1 (v', row') i = dfl
    rw [up_ne _ _ hi2]
    exact k8 i (by omega) hn
theorem sRow_kind {g : Nat → Int} {kind x y : Int} {n : Nat} (h : kind < 2 → x = y) : sRow g kind x n = sRow g kind y n := by
  unfold sRow
  by_cases h2 : kind < 2
  · rw [h h2]
  · have a0 : ¬ kind = 0 := by omega
    have a1 : ¬ kind = 1 := by omega
    simp only [a0, a1, if_false]
theorem si_grow {s : SS} (hs : SI s) (hh : s.2.2.1 < 100) {k : Nat} (hk : k < s.2.2.1) {kind x : Int} (hkd : 0 ≤ kind ∧ kind ≤ 3) (hx : -999 ≤ x ∧ x ≤ 999) (hp : pmt (s.2.2.2 k).1 kind = true) : SI (sGrow s k kind x) := by
  obtain ⟨h1, h2, h3, h4⟩ := hs
  have hk4 := h4 k hk
  have hvb := hk4.1
  have hvb' : VBn (va_up (s.2.2.2 k).1 0 k) := by
    unfold VBn at hvb ⊢
    simp [va_up]
    omega
  have hp' : if kind < 2 then (va_up (s.2.2.2 k).1 0 k) 4 + (va_up (s.2.2.2 k).1 0 k) 5 < 40 else 0 < (va_up (s.2.2.2 k).1 0 k) 4 + (va_up (s.2.2.2 k).1 0 k) 5 := by
    unfold pmt at hp
    simp only [va_up]
    simp
    split at hp <;> rename_i hc <;> simp only [hc, if_true, if_false] <;> exact of_decide_eq_true hp
  have hst := st_act hvb' (s.2.2.2 k).2 (x := x) (rate := s.1) (ratio := s.2.1) hkd (by omega) (by omega) hp'
  have hvn := vb_act hvb' (s.2.2.2 k).2 (x := x) (rate := s.1) (ratio := s.2.1) hkd (by omega) (by omega) hp' hx (fun j hj => hk4.2.1 j hj) (by have := hk4.2.2.2.2; show (s.2.2.2 k).1 3 < 100; omega)
  have hu : ∀ i, i < s.2.2.1 → (sGrow s k kind x).2.2.2 i = s.2.2.2 i := fun i hi => by
    show va_up s.2.2.2 s.2.2.1 _ i = _
    rw [up_ne _ _ (by omega)]
  have hn : (sGrow s k kind x).2.2.2 s.2.2.1 = (sAct (va_up (s.2.2.2 k).1 0 k) (s.2.2.2 k).2 kind x s.1 s.2.1, sRow (s.2.2.2 k).2 kind x (sz (s.2.2.2 k)).toNat) := up_self _ _ _
  refine ⟨h1, h2, ⟨?_, ?_⟩, ?_⟩
  · show 1 ≤ s.2.2.1 + 1
    omega
  · show s.2.2.1 + 1 ≤ 100
    omega
  · intro i hi
    have hi' : i < s.2.2.1 + 1 := hi
    by_cases hi2 : i = s.2.2.1
    · subst hi2
      unfold SIv
      rw [hn]
      unfold ST at hst
      obtain ⟨t0, t1, t2, t3, t4, _⟩ := hst
      have e0 : (va_up (s.2.2.2 k).1 0 (k : Int)) 0 = k := up_self _ _ _
      have e3 : (va_up (s.2.2.2 k).1 0 (k : Int)) 3 = (s.2.2.2 k).1 3 := up_ne _ _ (by decide)
      have e4 : (va_up (s.2.2.2 k).1 0 (k : Int)) 4 = (s.2.2.2 k).1 4 := up_ne _ _ (by decide)
      have e5 : (va_up (s.2.2.2 k).1 0 (k : Int)) 5 = (s.2.2.2 k).1 5 := up_ne _ _ (by decide)
      rw [e0] at t0
      rw [e3] at t3
      rw [e4, e5] at t4 hp'
      refine ⟨hvn, ?_, fun e => absurd e (by omega), fun _ => ⟨k, hk, t0, by rw [hu k hk]; exact t3, by dsimp only; rw [t1]; exact hkd, ?_, ?_⟩, ?_⟩
      · intro j hj
        have hj' : (j : Int) < (s.2.2.2 k).1 4 + (s.2.2.2 k).1 5 + if kind < 2 then 1 else -1 := by rw [← t4]; exact hj
        show -999 ≤ sRow (s.2.2.2 k).2 kind x (sz (s.2.2.2 k)).toNat j ∧ sRow (s.2.2.2 k).2 kind x (sz (s.2.2.2 k)).toNat j ≤ 999
        have hrg : ∀ j : Nat, (j : Int) < sz (s.2.2.2 k) → -999 ≤ (s.2.2.2 k).2 j ∧ (s.2.2.2 k).2 j ≤ 999 := hk4.2.1
        unfold VBn at hvb
        unfold sRow sz at *
        by_cases c0 : kind = 0
        · rw [if_pos c0]
          rw [if_pos (by omega)] at hj'
          split
          · exact hx
          · exact hrg _ (by omega)
        · rw [if_neg c0]
          by_cases c1 : kind = 1
          · rw [if_pos c1]
            rw [if_pos (by omega)] at hj'
            unfold va_up
            split
            · exact hx
            · exact hrg _ (by omega)
          · rw [if_neg c1]
            rw [if_neg (by omega)] at hj'
            split
            · exact hrg _ (by omega)
            · exact hrg _ (by omega)
      · rw [hu k hk]
        show sRow (s.2.2.2 k).2 kind x (sz (s.2.2.2 k)).toNat = sRow (s.2.2.2 k).2 ((sAct (va_up (s.2.2.2 k).1 0 k) (s.2.2.2 k).2 kind x s.1 s.2.1) 1) ((sAct (va_up (s.2.2.2 k).1 0 k) (s.2.2.2 k).2 kind x s.1 s.2.1) 2) (sz (s.2.2.2 k)).toNat
        rw [t1]
        exact sRow_kind (fun hc => by rw [t2, if_pos hc])
      · rw [hu k hk]
        show (sAct _ _ kind x s.1 s.2.1) 4 + (sAct _ _ kind x s.1 s.2.1) 5 = _
        rw [t4]
        show _ = sz (s.2.2.2 k) + if (sAct (va_up (s.2.2.2 k).1 0 k) (s.2.2.2 k).2 kind x s.1 s.2.1) 1 < 2 then 1 else -1
        simp only [t1]
        rfl
      · have := hk4.2.2.2.2
        dsimp only
        rw [t3]
        omega
    · have hi3 : i < s.2.2.1 := by omega
      have := h4 i hi3
      unfold SIv at this ⊢
      rw [hu i hi3, hu 0 (by omega)]
      refine ⟨this.1, this.2.1, this.2.2.1, ?_, this.2.2.2.2⟩
      intro h0
      obtain ⟨m, c1, c2⟩ := this.2.2.2.1 h0
      rw [← hu m (by omega)] at c2
      exact ⟨m, c1, c2⟩
