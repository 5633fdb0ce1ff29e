/-! PURE PART 10: grow runs; a state is copied to another; new states -/
theorem lab_ne {ow : Nat → Nat} {a b : Nat} (h : ow a ≠ ow b) : a ≠ b := fun e => h (by rw [e])
theorem grow_run {L p va ma : Nat} {s : SS} {G : GH} {ow : Nat → Nat} {refs : Nat → Option Nat} (hL : 0 < L) (hs : SI s) (h : SX G ow L p va ma refs s) (hh : s.2.2.1 < 100) {k : Nat} (hk : k < s.2.2.1) {kind x : Int} (hkd : 0 ≤ kind ∧ kind ≤ 3) (hp : pmt (s.2.2.2 k).1 kind = true) :
    ∃ G' ow' refs', (f_X1_grow p (iI k) (iI kind) (iI x)).1 G = some (iI s.2.2.1, G') ∧ SX G' ow' L p va ma refs' (sGrow s k kind x) ∧ SP L G ow refs G' ow' refs' := by
  obtain ⟨q2, G1, ow1, refs1, a1, a2, a3, a4, _⟩ := slot_run h.1 hL h.2 hh
  obtain ⟨q3, G2, ow2, refs2, b1, b2, b3, b4, _⟩ := slot_run a3 hL a4.2.2.1 (show k < 100 by omega)
  have a5 : refs2 s.2.2.1 = some q2 := b4.2.2.2.1 _ _ a2
  obtain ⟨lq2, r2, v2, g2, lr2, c1, c2, _⟩ := b3.2.2.2.2.2.2.1 _ hh q2 a5
  obtain ⟨lq3, r3, g3, lr3, d1, d2, d3⟩ := b3.live (by omega) hk b2
  have lp : ow2 p = L := b3.2.2.2.1
  have hvb := (hs.2.2.2 k hk).1
  have har : q2 ≠ r2 := lab_ne (ow := ow2) (by omega)
  have hp2 : p ≠ q2 := lab_ne (ow := ow2) (by omega)
  have hp3 : p ≠ r2 := lab_ne (ow := ow2) (by omega)
  have hcp := copy_v (G := G2) har (lab_ne (ow := ow2) (show ow2 q3 ≠ ow2 q2 by omega)) (lab_ne (ow := ow2) (show ow2 q3 ≠ ow2 r2 by omega)) (lab_ne (ow := ow2) (show ow2 r3 ≠ ow2 q2 by omega)) (lab_ne (ow := ow2) (show ow2 r3 ≠ ow2 r2 by omega)) v2 g2 (s.2.2.2 k).1 g3 d1 d2 (by unfold VBn at hvb; omega)
  rw [VH_id c1 c2] at hcp
  have hvb' : VBn (va_up (s.2.2.2 k).1 0 k) := by
    unfold VBn at hvb ⊢
    have := hs.2.2.1
    simp [va_up]
    omega
  have hpp : if kind < 2 then (va_up (s.2.2.2 k).1 0 k) 4 + (va_up (s.2.2.2 k).1 0 k) 5 < 40 else 0 < (va_up (s.2.2.2 k).1 0 k) 4 + (va_up (s.2.2.2 k).1 0 k) 5 := by
    unfold pmt at hp
    simp only [va_up]
    simp
    split at hp <;> rename_i hc <;> simp only [hc, if_true, if_false] <;> exact of_decide_eq_true hp
  have hpf := perform_v (G := G2) har (va_up (s.2.2.2 k).1 0 k) (cpR g2 g3 (sz (s.2.2.2 k)).toNat) (kind := kind) (x := x) (rate := s.1) (ratio := s.2.1) hvb' hkd (by have := hs.1; omega) (by have := hs.2.1; omega) hpp
  have hst := st_act hvb' (cpR g2 g3 (sz (s.2.2.2 k)).toNat) (x := x) (rate := s.1) (ratio := s.2.1) hkd (by have := hs.1; omega) (by have := hs.2.1; omega) hpp
  have e4 : (va_up (s.2.2.2 k).1 0 (k : Int)) 4 = (s.2.2.2 k).1 4 := up_ne _ _ (by decide)
  have e5 : (va_up (s.2.2.2 k).1 0 (k : Int)) 5 = (s.2.2.2 k).1 5 := up_ne _ _ (by decide)
  have hP : ∀ v g, (VH G2 q2 r2 v g).1 p = some (scl s va ma) := fun v g => by
    show va_up (va_up G2.1 r2 _) q2 _ p = _
    rw [up_ne _ _ hp2, up_ne _ _ hp3]
    exact b3.1
  have hu : ∀ (f : Nat → Option LE) e, va_up f q2 e p = f p := fun f e => up_ne f e hp2
  have hcong : sAct (va_up (s.2.2.2 k).1 0 k) (cpR g2 g3 (sz (s.2.2.2 k)).toNat) kind x s.1 s.2.1 = sAct (va_up (s.2.2.2 k).1 0 k) (s.2.2.2 k).2 kind x s.1 s.2.1 := by
    refine sAct_congr (fun hc => ?_)
    rw [if_neg hc] at hpp
    unfold VBn at hvb
    unfold sMv
    simp only [e4, e5] at hpp ⊢
    split
    · rw [cpR_ok _ _ _ _ (by unfold sz; omega), d3 0 (by unfold sz; omega)]
    · rw [cpR_ok _ _ _ _ (by unfold sz; omega), d3 _ (by unfold sz; omega)]
  refine ⟨(va_up (VH G2 q2 r2 (sAct (va_up (s.2.2.2 k).1 0 k) (s.2.2.2 k).2 kind x s.1 s.2.1) (cRow (cpR g2 g3 (sz (s.2.2.2 k)).toNat) kind x (sz (s.2.2.2 k)).toNat)).1 p (some (scl (sGrow s k kind x) va ma)), G2.2), ow2, refs2, ?_, ⟨SC.grow b3 hh a5 lr2 rfl ?_ hL, b4.2.2.1⟩, (a4.tr b4).tr (SP.loc b4.2.2.1 ?_)⟩
  · unfold f_X1_grow
    simp only [ev_gi, ev_chk, h.1.1, gi_s0, gis_s, if_true, Option.elim_some]
    rw [mbind_ok a1]
    simp only [ev_chk, a3.1, gis_s, if_true]
    rw [mbind_ok b1]
    simp only [ev_chk, c1, gis_v, if_true]
    rw [mbind_ok hcp]
    simp only [ev_put, ev_gi, ev_chk, VH_a har, gi_v0, gi_v1, gi_v2, gi_v3, gi_v4, gi_v5, gi_v6, gi_v7, gi_v8, gi_v9, gr_v, gis_v, gp_v0, gp_v1, gp_v2, gp_v3, gp_v4, gp_v5, gp_v6, gp_v7, gp_v8, gp_v9, up_self, up_idem, up_ne, gi_s1, gi_s2, hu, hP, Option.elim_some, VH_ua har, if_true]
    rw [show (s.2.2.2 k).1 4 + (s.2.2.2 k).1 5 = sz (s.2.2.2 k) from rfl, mbind_ok hpf]
    rw [hcong, e4, e5]
    simp only [ev_put, ev_gi, hP, gi_s0, Option.elim_some]
    rw [lz1, iI_add, show ((s.2.2.1 : Nat) : Int) + 1 = ((s.2.2.1 + 1 : Nat) : Int) by omega]
    simp only [gp_s0, Option.elim_some, pure_run]
    rfl
  · intro j hj
    unfold ST at hst
    rw [hcong] at hst
    rw [hst.2.2.2.2.1, e4, e5] at hj
    refine row_ok (n := (sz (s.2.2.2 k)).toNat) (fun i hi => ?_) kind x hkd j ?_
    · rw [cpR_ok _ _ _ _ hi]
      exact d3 i (by omega)
    · unfold VBn at hvb
      unfold sz
      split at hj <;> rename_i hc <;> simp only [hc, if_true, if_false] <;> omega
  · intro a ha hl
    rw [up_ne _ _ (lab_ne (ow := ow2) (by omega))]
    show va_up (va_up G2.1 r2 _) q2 _ a = _
    rw [up_ne _ _ (lab_ne (ow := ow2) (by omega)), up_ne _ _ (lab_ne (ow := ow2) (by omega))]
/-- from one heap to another: what changes is labelled in LB; P counts what may still be made -/
def WQ (LB : Nat → Prop) (G : GH) (ow : Nat → Nat) (P : Nat) (G' : GH) (ow' : Nat → Nat) (P' : Nat) : Prop :=
  (∀ a, ow a ≠ 0 → ow' a = ow a) ∧ (∀ a, ow a ≠ 0 → ¬ LB (ow a) → G'.1 a = G.1 a) ∧ GW G' ow' ∧ G'.2.2.1 + 2 * P' ≤ G.2.2.1 + 2 * P ∧ G'.2.2.2 + 51 * P' ≤ G.2.2.2 + 51 * P
theorem WQ.rf {LB : Nat → Prop} {G : GH} {ow : Nat → Nat} {P : Nat} (h : GW G ow) : WQ LB G ow P G ow P := ⟨fun _ _ => rfl, fun _ _ _ => rfl, h, Nat.le_refl _, Nat.le_refl _⟩
theorem WQ.tr {LB : Nat → Prop} {G G1 G2 : GH} {ow ow1 ow2 : Nat → Nat} {P P1 P2 : Nat} (h : WQ LB G ow P G1 ow1 P1) (k : WQ LB G1 ow1 P1 G2 ow2 P2) : WQ LB G ow P G2 ow2 P2 := by
  obtain ⟨h1, h2, h3, h4, h5⟩ := h
  obtain ⟨k1, k2, k3, k4, k5⟩ := k
  refine ⟨fun a ha => ?_, fun a ha hl => ?_, k3, by omega, by omega⟩
  · rw [k1 a (by rw [h1 a ha]; exact ha), h1 a ha]
  · rw [k2 a (by rw [h1 a ha]; exact ha) (by rw [h1 a ha]; exact hl), h2 a ha hl]
theorem WQ.mono {LB LB' : Nat → Prop} {G G' : GH} {ow ow' : Nat → Nat} {P P' : Nat} (h : WQ LB G ow P G' ow' P') (hb : ∀ l, LB l → LB' l) : WQ LB' G ow P G' ow' P' :=
  ⟨h.1, fun a ha hl => h.2.1 a ha (fun hh => hl (hb _ hh)), h.2.2⟩
theorem SP.wq {L : Nat} {G G' : GH} {ow ow' : Nat → Nat} {refs refs' : Nat → Option Nat} (h : SP L G ow refs G' ow' refs') (c : Nat) : WQ (fun l => L ≤ l ∧ l < L + 300) G ow (c + cnt refs 100) G' ow' (c + cnt refs' 100) := by
  obtain ⟨h1, h2, h3, h4, h5, h6⟩ := h
  exact ⟨h1, fun a ha hl => h2 a ha (by omega), h3, by omega, by omega⟩
theorem WQ.loc {LB : Nat → Prop} {G : GH} {ow : Nat → Nat} {P : Nat} (h : GW G ow) {f : Nat → Option LE} (hf : ∀ a, ow a ≠ 0 → ¬ LB (ow a) → f a = G.1 a) : WQ LB G ow P (f, G.2) ow P := ⟨fun _ _ => rfl, hf, h, Nat.le_refl _, Nat.le_refl _⟩
/-- the same for whoever asks the living versions alone -/
theorem SC.congr {G : GH} {ow : Nat → Nat} {L p va ma : Nat} {refs : Nat → Option Nat} {s s' : SS} (h : SC G ow L p va ma refs s) (h1 : s.1 = s'.1) (h2 : s.2.1 = s'.2.1) (h3 : s.2.2.1 = s'.2.2.1) (h4 : ∀ i, i < s.2.2.1 → s.2.2.2 i = s'.2.2.2 i) : SC G ow L p va ma refs s' := by
  obtain ⟨k1, k2, k3, k4, k5, k6, k7, k8⟩ := h
  refine ⟨?_, k2, k3, k4, k5, k6, ?_, ?_⟩
  · rw [k1]
    unfold scl
    rw [h1, h2, h3]
  · intro i hi q hq
    obtain ⟨m1, r, v, g, m2, m3, m4, m5⟩ := k7 i hi q hq
    refine ⟨m1, r, v, g, m2, m3, m4, fun hl => ?_⟩
    have hl' : i < s.2.2.1 := by omega
    rw [← h4 i hl']
    exact m5 hl'
  · intro i hi hn
    rw [← h4 i (by omega)]
    exact k8 i (by omega) hn
/-- whatever the room held, its cells hold some state with any rate, ratio and number -/
theorem SC.any {G : GH} {ow : Nat → Nat} {L p va ma : Nat} {refs : Nat → Option Nat} {s : SS} (h : SC G ow L p va ma refs s) (hL : 0 < L) : ∃ vs, ∀ (x y : Int) (n : Nat), n ≤ 100 → SC (va_up G.1 p (some (scl (x, y, n, vs) va ma)), G.2) ow L p va ma refs (x, y, n, vs) := by
  obtain ⟨k1, ⟨mx, k2⟩, k3, k4, k5, k6, k7, k8⟩ := h
  have hF : ∀ (c : LE) a, ow a ≠ L → va_up G.1 p (some c) a = G.1 a := fun c a ha => up_ne _ _ (fun e => ha (by rw [e, k4]))
  have hex : ∀ i, ∃ w : SV, i < 100 → (∀ q, refs i = some q → ∃ r, ow q = L + 3 + 2 * i ∧ ow r = L + 4 + 2 * i ∧ G.1 q = some (vcl w.1 r) ∧ G.1 r = some (icz 40 w.2)) ∧ (refs i = none → w = dfl) := by
    intro i
    by_cases hi : i < 100
    · cases hr : refs i with
      | none => exact ⟨dfl, fun _ => ⟨fun q hq => (by cases hq), fun _ => rfl⟩⟩
      | some q =>
        obtain ⟨m1, r, v, g, m2, m3, m4, m5⟩ := k7 i hi q hr
        exact ⟨(v, g), fun _ => ⟨fun q' hq => (by cases hq; exact ⟨r, m1, m2, m3, m4⟩), fun hh => (by cases hh)⟩⟩
    · exact ⟨dfl, fun h => absurd h hi⟩
  refine ⟨fun i => Classical.choose (hex i), fun x y n hn => ?_⟩
  refine ⟨up_self _ _ _, ⟨mx, (hF _ ma (by omega)).trans k2⟩, (hF _ va (by omega)).trans k3, k4, k5, k6, ?_, ?_⟩
  · intro i hi q hq
    obtain ⟨r, c1, c2, c3, c4⟩ := (Classical.choose_spec (hex i) hi).1 q hq
    exact ⟨c1, r, _, _, c2, (hF _ q (by omega)).trans c3, (hF _ r (by omega)).trans c4, fun _ => ⟨rfl, fun _ _ => rfl⟩⟩
  · intro i hi hq
    have hi' : i < n := hi
    exact (Classical.choose_spec (hex i) (by omega)).2 hq
/-- one version's cells are laid anew -/
theorem SC.lay {G : GH} {ow : Nat → Nat} {L p va ma : Nat} {refs : Nat → Option Nat} {s : SS} (h : SC G ow L p va ma refs s) {i q r : Nat} (hi : i < 100) (hq : refs i = some q) (hr : ow r = L + 4 + 2 * i) {v' g' row' : Nat → Int} (hrow : ∀ j : Nat, (j : Int) < v' 4 + v' 5 → g' j = row' j) :
    SC (VH G q r v' g') ow L p va ma refs (s.1, s.2.1, s.2.2.1, va_up s.2.2.2 i (v', row')) := by
  obtain ⟨k1, ⟨mx, k2⟩, k3, k4, k5, k6, k7, k8⟩ := h
  have hql := (k7 _ hi q hq).1
  have hF : ∀ a, ow a ≠ L + 3 + 2 * i → ow a ≠ L + 4 + 2 * i → (VH G q r v' g').1 a = G.1 a := fun a h2 h3 => by
    show va_up (va_up G.1 r _) q _ a = _
    rw [up_ne _ _ (fun e => h2 (by rw [e, hql])), up_ne _ _ (fun e => h3 (by rw [e, hr]))]
  have hqr : q ≠ r := lab_ne (ow := ow) (by omega)
  refine ⟨(hF p (by omega) (by omega)).trans k1, ⟨mx, (hF ma (by omega) (by omega)).trans k2⟩, (hF va (by omega) (by omega)).trans k3, k4, k5, k6, ?_, ?_⟩
  · intro j hj q1 hq1
    by_cases hji : j = i
    · subst hji
      rw [hq] at hq1
      cases hq1
      refine ⟨hql, r, v', g', hr, VH_a hqr v' g', VH_r hqr v' g', fun _ => ?_⟩
      show v' = (va_up s.2.2.2 j (v', row') j).1 ∧ ∀ j' : Nat, (j' : Int) < sz (va_up s.2.2.2 j (v', row') j) → g' j' = (va_up s.2.2.2 j (v', row') j).2 j'
      rw [up_self]
      exact ⟨rfl, hrow⟩
    · obtain ⟨m1, r1, v1, g1, m2, m3, m4, m5⟩ := k7 j hj q1 hq1
      refine ⟨m1, r1, v1, g1, m2, (hF q1 (by omega) (by omega)).trans m3, (hF r1 (by omega) (by omega)).trans m4, fun hlt => ?_⟩
      show v1 = (va_up s.2.2.2 i (v', row') j).1 ∧ ∀ j' : Nat, (j' : Int) < sz (va_up s.2.2.2 i (v', row') j) → g1 j' = (va_up s.2.2.2 i (v', row') j).2 j'
      rw [up_ne _ _ hji]
      exact m5 hlt
  · intro j hj hn
    have hji : j ≠ i := fun e => by rw [e, hq] at hn; cases hn
    show va_up s.2.2.2 i (v', row') j = dfl
    rw [up_ne _ _ hji]
    exact k8 j hj hn
