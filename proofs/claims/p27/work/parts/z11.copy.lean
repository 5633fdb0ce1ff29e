/-! PURE PART 11: a state is copied into another room; a new state -/
def inR (L : Nat) (l : Nat) : Prop := L ≤ l ∧ l < L + 300
theorem cp_loop {L : Nat} {p : Nat} {va : Nat} {ma : Nat} {L2 : Nat} {p2 : Nat} {va2 : Nat} {ma2 : Nat} {s2 : SS} (hL : 0 < L) (hL2 : 0 < L2) (hd : L + 300 ≤ L2 ∨ L2 + 300 ≤ L) (hs : SI s2) : ∀ d fu m G ow rA rB vs, m + d = s2.2.2.1 → d < fu → SX G ow L p va ma rA (s2.1, s2.2.1, s2.2.2.1, vs) → SX G ow L2 p2 va2 ma2 rB s2 → (∀ i, i < m → vs i = s2.2.2.2 i) →
    ∃ G' ow' rA' rB', (f_X1_copyFrom_26 fu p p2 (iI m)).1 G = some ((), G') ∧ SX G' ow' L p va ma rA' s2 ∧ SX G' ow' L2 p2 va2 ma2 rB' s2 ∧ (∀ j q, rA j = some q → rA' j = some q) ∧ (∀ j q, rB j = some q → rB' j = some q) ∧ WQ (fun l => inR L l ∨ inR L2 l) G ow (cnt rA 100 + cnt rB 100) G' ow' (cnt rA' 100 + cnt rB' 100)
  | _, 0, _, _, _, _, _, _, _, h, _, _, _ => absurd h (by omega)
  | 0, fu + 1, m, G, ow, rA, rB, vs, e, _, hA, hB, hv => by
    have h100 := hs.2.2.1
    refine ⟨G, ow, rA, rB, ?_, ⟨SC.congr hA.1 rfl rfl rfl (fun i hi => hv i (by have hi' : i < s2.2.2.1 := hi; omega)), hA.2⟩, hB, fun _ _ h => h, fun _ _ h => h, WQ.rf hA.2⟩
    unfold f_X1_copyFrom_26
    simp only [ev_gi, hA.1.1, gi_s0, Option.elim_some]
    rw [if_pos (by rw [iI_le (by omega) (by omega) (by omega) (by omega)]; omega)]
    rfl
  | d + 1, fu + 1, m, G, ow, rA, rB, vs, e, hf, hA, hB, hv => by
    have h100 := hs.2.2.1
    have hm : m < s2.2.2.1 := by omega
    obtain ⟨q, G1, ow1, rA1, a1, a2, a3, a4, _⟩ := slot_run hA.1 hL hA.2 (show m < 100 by omega)
    have hB1 : SC G1 ow1 L2 p2 va2 ma2 rB s2 := hB.1.frame hL2 a4.1 (fun a h1 h2 => a4.2.1 a (by omega) (by omega))
    obtain ⟨q3, G2, ow2, rB2, b1, b2, b3, b4, _⟩ := slot_run hB1 hL2 a4.2.2.1 (show m < 100 by omega)
    have hA2 : SC G2 ow2 L p va ma rA1 (s2.1, s2.2.1, s2.2.2.1, vs) := a3.frame hL b4.1 (fun a h1 h2 => b4.2.1 a (by omega) (by omega))
    obtain ⟨lq, r, v0, g0, lr, c1, c2, _⟩ := hA2.2.2.2.2.2.2.1 m (by omega) q a2
    obtain ⟨lq3, r3, g3, lr3, d1, d2, d3⟩ := b3.live h100.2 hm b2
    have hvb := (hs.2.2.2 m hm).1
    have har : q ≠ r := lab_ne (ow := ow2) (by omega)
    have hcp := copy_v (G := G2) har (lab_ne (ow := ow2) (show ow2 q3 ≠ ow2 q by omega)) (lab_ne (ow := ow2) (show ow2 q3 ≠ ow2 r by omega)) (lab_ne (ow := ow2) (show ow2 r3 ≠ ow2 q by omega)) (lab_ne (ow := ow2) (show ow2 r3 ≠ ow2 r by omega)) v0 g0 (s2.2.2.2 m).1 g3 d1 d2 (by unfold VBn at hvb; omega)
    rw [VH_id c1 c2] at hcp
    have hlay := hA2.lay (i := m) (by omega) a2 lr (v' := (s2.2.2.2 m).1) (g' := cpR g0 g3 ((s2.2.2.2 m).1 4 + (s2.2.2.2 m).1 5).toNat) (row' := (s2.2.2.2 m).2) (fun j hj => by
      rw [cpR_ok _ _ _ _ (by omega)]
      exact d3 j hj)
    have hchg : ∀ a, ow2 a ≠ 0 → ¬ inR L (ow2 a) → (VH G2 q r (s2.2.2.2 m).1 (cpR g0 g3 ((s2.2.2.2 m).1 4 + (s2.2.2.2 m).1 5).toNat)).1 a = G2.1 a := fun a _ hl => by
      unfold inR at hl
      show va_up (va_up G2.1 r _) q _ a = _
      rw [up_ne _ _ (lab_ne (ow := ow2) (by omega)), up_ne _ _ (lab_ne (ow := ow2) (by omega))]
    have hB3 : SC (VH G2 q r (s2.2.2.2 m).1 (cpR g0 g3 ((s2.2.2.2 m).1 4 + (s2.2.2.2 m).1 5).toNat)) ow2 L2 p2 va2 ma2 rB2 s2 := b3.frame hL2 (fun _ _ => rfl) (fun a h1 h2 => hchg a (by omega) (by unfold inR; omega))
    obtain ⟨G', ow', rA', rB', e1, e2, e3, e4, e5, e6⟩ := cp_loop hL hL2 hd hs d fu (m + 1) (VH G2 q r (s2.2.2.2 m).1 (cpR g0 g3 ((s2.2.2.2 m).1 4 + (s2.2.2.2 m).1 5).toNat)) ow2 rA1 rB2 (va_up vs m ((s2.2.2.2 m).1, (s2.2.2.2 m).2)) (by omega) (by omega) ⟨hlay, b4.2.2.1⟩ ⟨hB3, b4.2.2.1⟩ (fun i hi => by
      by_cases him : i = m
      · rw [him, up_self]
      · rw [up_ne _ _ him]
        exact hv i (by omega))
    refine ⟨G', ow', rA', rB', ?_, e2, e3, fun j x hx => e4 j x (a4.2.2.2.1 j x hx), fun j x hx => e5 j x (b4.2.2.2.1 j x hx), ?_⟩
    · unfold f_X1_copyFrom_26
      simp only [ev_gi, hA.1.1, gi_s0, Option.elim_some]
      rw [if_neg (by rw [iI_le (by omega) (by omega) (by omega) (by omega)]; omega)]
      simp only [ev_chk, hA.1.1, gis_s, if_true]
      rw [mbind_ok a1]
      simp only [ev_chk, hB1.1, gis_s, if_true]
      rw [mbind_ok b1]
      simp only [ev_chk, c1, gis_v, if_true]
      rw [mbind_ok hcp, lz1, iI_add]
      exact e1
    · have w1 := (a4.wq (cnt rB 100)).mono (LB' := fun l => inR L l ∨ inR L2 l) (fun l hl => Or.inl hl)
      have w2 := (b4.wq (cnt rA1 100)).mono (LB' := fun l => inR L l ∨ inR L2 l) (fun l hl => Or.inr hl)
      have w3 : WQ (fun l => inR L l ∨ inR L2 l) G2 ow2 (cnt rA1 100 + cnt rB2 100) (VH G2 q r (s2.2.2.2 m).1 (cpR g0 g3 ((s2.2.2.2 m).1 4 + (s2.2.2.2 m).1 5).toNat)) ow2 (cnt rA1 100 + cnt rB2 100) := WQ.loc b4.2.2.1 (fun a ha hl => hchg a ha (fun hh => hl (Or.inl hh)))
      rw [Nat.add_comm (cnt rB 100), Nat.add_comm (cnt rB 100)] at w1
      exact ((w1.tr w2).tr w3).tr e6
theorem cp_run {L : Nat} {p : Nat} {va : Nat} {ma : Nat} {L2 : Nat} {p2 : Nat} {va2 : Nat} {ma2 : Nat} {s2 : SS} (hL : 0 < L) (hL2 : 0 < L2) (hd : L + 300 ≤ L2 ∨ L2 + 300 ≤ L) (hs : SI s2) {s : SS} {G : GH} {ow : Nat → Nat} {rA rB : Nat → Option Nat} (hA : SX G ow L p va ma rA s) (hB : SX G ow L2 p2 va2 ma2 rB s2) :
    ∃ G' ow' rA' rB', (f_X1_copyFrom p p2).1 G = some ((), G') ∧ SX G' ow' L p va ma rA' s2 ∧ SX G' ow' L2 p2 va2 ma2 rB' s2 ∧ (∀ j q, rA j = some q → rA' j = some q) ∧ (∀ j q, rB j = some q → rB' j = some q) ∧ WQ (fun l => inR L l ∨ inR L2 l) G ow (cnt rA 100 + cnt rB 100) G' ow' (cnt rA' 100 + cnt rB' 100) := by
  have h100 := hs.2.2.1
  obtain ⟨vs, hvs⟩ := hA.1.any hL
  have hA1 := hvs s2.1 s2.2.1 s2.2.2.1 h100.2
  have lp : ow p = L := hA.1.2.2.2.1
  have lp2 : ow p2 = L2 := hB.1.2.2.2.1
  have hpp : p2 ≠ p := lab_ne (ow := ow) (by omega)
  have hchg : ∀ (c : LE) a, ow a ≠ 0 → ¬ inR L (ow a) → va_up G.1 p (some c) a = G.1 a := fun c a _ hl => by
    unfold inR at hl
    exact up_ne _ _ (lab_ne (ow := ow) (by omega))
  have hB1 : SC (va_up G.1 p (some (scl (s2.1, s2.2.1, s2.2.2.1, vs) va ma)), G.2) ow L2 p2 va2 ma2 rB s2 := hB.1.frame hL2 (fun _ _ => rfl) (fun a h1 h2 => hchg _ a (by omega) (by unfold inR; omega))
  obtain ⟨G', ow', rA', rB', e1, e2, e3, e4, e5, e6⟩ := cp_loop hL hL2 hd hs s2.2.2.1 FU 0 _ ow rA rB vs (by omega) (by unfold FU; omega) ⟨hA1, hA.2⟩ ⟨hB1, hB.2⟩ (fun i hi => absurd hi (by omega))
  refine ⟨G', ow', rA', rB', ?_, e2, e3, e4, e5, (WQ.loc hA.2 (fun a ha hl => hchg _ a ha (fun hh => hl (Or.inl hh)))).tr e6⟩
  have hu : ∀ (f : Nat → Option LE) e, va_up f p e p2 = f p2 := fun f e => up_ne f e hpp
  unfold f_X1_copyFrom
  simp only [ev_gi, ev_put, hu, hA.1.1, hB.1.1, gi_s0, gi_s1, gi_s2, gp_s0, gp_s1, gp_s2, Option.elim_some, up_self, up_idem]
  have es : scl (s2.1, s2.2.1, s2.2.2.1, s.2.2.2) va ma = scl (s2.1, s2.2.1, s2.2.2.1, vs) va ma := rfl
  rw [show (f_X1_copyFrom_26 FU p p2 0) = f_X1_copyFrom_26 FU p p2 (iI ((0 : Nat) : Int)) from congrArg (f_X1_copyFrom_26 FU p p2) (show (0 : Int32) = iI ((0 : Nat) : Int) from rfl)]
  rw [es]
  exact e1
def s00 : SS := (3, 3, 1, fun _ => dfl)
theorem si_00 : SI s00 := by
  refine ⟨by decide, by decide, by decide, fun i hi => ?_⟩
  have hi' : i < 1 := hi
  have : i = 0 := by omega
  subst this
  refine ⟨?_, fun j hj => ?_, fun _ => rfl, fun h => absurd h (by omega), by decide⟩
  · show VBn dv
    unfold VBn
    decide
  · show -999 ≤ (0 : Int) ∧ (0 : Int) ≤ 999
    decide
theorem newstate {β : Type} (G : GH) (K : Nat → MM β) : (mbind (mnewo 1 [.int 0, .int 0, .int 0, .null, .null] 5) (fun a1 => mbind (f_X1_init a1) (fun _ => K a1))).1 G
    = (K G.2.1).1 (va_up (va_up (va_up G.1 (G.2.1 + 2) (some (icz 100 (fun _ => 0)))) (G.2.1 + 1) (some (qc 4 100 (fun _ => none)))) G.2.1 (some (scl s00 (G.2.1 + 1) (G.2.1 + 2))), G.2.1 + 3, G.2.2.1 + 3, G.2.2.2 + 205) := by
  rw [ev_newo]
  refine mbind_ok (a := ()) ?_
  have hn : ∀ (a b c d e : Value), ((.inr (1, [a, b, c, d, e]) : LE)) = .inr (1, [a, b, c, d, e]) := fun _ _ _ _ _ => rfl
  have p0 : ∀ a b c d e x : Value, gput (some (.inr (1, [a, b, c, d, e]) : LE)) 1 0 x = some (.inr (1, [x, b, c, d, e])) := fun _ _ _ _ _ _ => rfl
  have p1 : ∀ a b c d e x : Value, gput (some (.inr (1, [a, b, c, d, e]) : LE)) 1 1 x = some (.inr (1, [a, x, c, d, e])) := fun _ _ _ _ _ _ => rfl
  have p2 : ∀ a b c d e x : Value, gput (some (.inr (1, [a, b, c, d, e]) : LE)) 1 2 x = some (.inr (1, [a, b, x, d, e])) := fun _ _ _ _ _ _ => rfl
  have p3 : ∀ a b c d e x : Value, gput (some (.inr (1, [a, b, c, d, e]) : LE)) 1 3 x = some (.inr (1, [a, b, c, x, e])) := fun _ _ _ _ _ _ => rfl
  have p4 : ∀ a b c d e x : Value, gput (some (.inr (1, [a, b, c, d, e]) : LE)) 1 4 x = some (.inr (1, [a, b, c, d, x])) := fun _ _ _ _ _ _ => rfl
  have n1 : G.2.1 ≠ G.2.1 + 1 := by omega
  have n2 : G.2.1 ≠ G.2.1 + 2 := by omega
  have n2' : G.2.1 ≠ G.2.1 + 1 + 1 := by omega
  unfold f_X1_init
  simp only [ev_put, up_self, up_idem, Option.elim_some, p0, p1, p2, p3, p4, ev_newq _ 4 100 (by decide), ev_newi _ 100 (by decide), up_ne _ _ n1, up_ne _ _ n2', pure_run]
  have hc1 : ∀ (f : Nat → Option LE) (x y : Option LE) (z : Option LE) (w : Option LE), va_up (va_up (va_up (va_up (va_up f G.2.1 x) (G.2.1 + 1) y) G.2.1 z) (G.2.1 + 1 + 1) w) G.2.1 w = va_up (va_up (va_up (va_up (va_up f G.2.1 x) (G.2.1 + 1) y) G.2.1 z) (G.2.1 + 1 + 1) w) G.2.1 w := fun _ _ _ _ _ => rfl
  congr 3
  funext a
  unfold va_up
  by_cases h0 : a = G.2.1
  · subst h0
    simp <;> rfl
  · by_cases h1 : a = G.2.1 + 1
    · subst h1
      simp <;> rfl
    · by_cases h2 : a = G.2.1 + 2
      · subst h2
        simp <;> rfl
      · simp [h0, h1, h2]
/-- the new state's room -/
theorem sx_new {G : GH} {ow : Nat → Nat} (hw : GW G ow) (L : Nat) (hL : 0 < L) (c : Nat) :
    SX (va_up (va_up (va_up G.1 (G.2.1 + 2) (some (icz 100 (fun _ => 0)))) (G.2.1 + 1) (some (qc 4 100 (fun _ => none)))) G.2.1 (some (scl s00 (G.2.1 + 1) (G.2.1 + 2))), G.2.1 + 3, G.2.2.1 + 3, G.2.2.2 + 205) (va_up (va_up (va_up ow G.2.1 L) (G.2.1 + 1) (L + 1)) (G.2.1 + 2) (L + 2)) L G.2.1 (G.2.1 + 1) (G.2.1 + 2) (fun _ => none) s00
    ∧ WQ (fun _ => False) G ow (c + 105) (va_up (va_up (va_up G.1 (G.2.1 + 2) (some (icz 100 (fun _ => 0)))) (G.2.1 + 1) (some (qc 4 100 (fun _ => none)))) G.2.1 (some (scl s00 (G.2.1 + 1) (G.2.1 + 2))), G.2.1 + 3, G.2.2.1 + 3, G.2.2.2 + 205) (va_up (va_up (va_up ow G.2.1 L) (G.2.1 + 1) (L + 1)) (G.2.1 + 2) (L + 2)) (c + cnt (fun _ => none) 100) := by
  have hlt : ∀ a, ow a ≠ 0 → a ≠ G.2.1 ∧ a ≠ G.2.1 + 1 ∧ a ≠ G.2.1 + 2 := fun a ha => by have := hw a ha; omega
  have hgw : GW (va_up (va_up (va_up G.1 (G.2.1 + 2) (some (icz 100 (fun _ => 0)))) (G.2.1 + 1) (some (qc 4 100 (fun _ => none)))) G.2.1 (some (scl s00 (G.2.1 + 1) (G.2.1 + 2))), G.2.1 + 3, G.2.2.1 + 3, G.2.2.2 + 205) (va_up (va_up (va_up ow G.2.1 L) (G.2.1 + 1) (L + 1)) (G.2.1 + 2) (L + 2)) := by
    intro a ha
    show a < G.2.1 + 3
    by_cases h1 : a = G.2.1 + 2
    · omega
    · by_cases h2 : a = G.2.1 + 1
      · omega
      · by_cases h3 : a = G.2.1
        · omega
        · rw [up_ne _ _ h1, up_ne _ _ h2, up_ne _ _ h3] at ha
          have := hw a ha
          omega
  have hc : cnt (fun _ => none) 100 = 100 := by decide
  refine ⟨⟨⟨up_self _ _ _, ⟨fun _ => 0, ?_⟩, ?_, ?_, ?_, up_self _ _ _, fun i _ q hq => (by cases hq), fun i _ _ => rfl⟩, hgw⟩, fun a ha => ?_, fun a ha _ => ?_, hgw, ?_, ?_⟩
  · show va_up (va_up (va_up _ _ _) _ _) _ _ (G.2.1 + 2) = _
    rw [up_ne _ _ (by omega), up_ne _ _ (by omega), up_self]
  · show va_up (va_up (va_up _ _ _) _ _) _ _ (G.2.1 + 1) = _
    rw [up_ne _ _ (by omega), up_self]
  · rw [up_ne _ _ (by omega), up_ne _ _ (by omega), up_self]
  · rw [up_ne _ _ (by omega), up_self]
  · obtain ⟨a1, a2, a3⟩ := hlt a ha
    rw [up_ne _ _ a3, up_ne _ _ a2, up_ne _ _ a1]
  · obtain ⟨a1, a2, a3⟩ := hlt a ha
    show va_up (va_up (va_up _ _ _) _ _) _ _ a = _
    rw [up_ne _ _ a1, up_ne _ _ a2, up_ne _ _ a3]
  · show G.2.2.1 + 3 + 2 * (c + cnt _ 100) ≤ _
    rw [hc]
    omega
  · show G.2.2.2 + 205 + 51 * (c + cnt _ 100) ≤ _
    rw [hc]
    omega
