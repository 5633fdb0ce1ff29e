/-! PURE PART 51: stalls, worstWith, leastRate of the class; its digest -/
theorem rate_run {G : GH} {ow : Nat → Nat} {p : Nat} {w : WW} {P : Nat} (hw : WI w) (h : RepC G ow p w P) {x : Int} (hx : irg x) (H : GH) : (f_X4_requireRate (iI x)).1 H = if 1 ≤ x ∧ x ≤ 9 then some (.inr (), H) else (mthrow exA : MX Unit).1 H := by
  have hx' := hx
  unfold irg at hx'
  unfold f_X4_requireRate f_X4_isRate
  by_cases h1 : x < 1
  · rw [if_pos (by rw [lz1, iI_lt (by omega) (by omega) (by omega) (by omega)]; exact h1), if_neg (by omega)]
    rfl
  · rw [if_neg (by rw [lz1, iI_lt (by omega) (by omega) (by omega) (by omega)]; exact h1)]
    by_cases h2 : 9 < x
    · rw [if_pos (by rw [lz9, iI_lt (by omega) (by omega) (by omega) (by omega)]; exact h2), if_neg (by omega)]
      rfl
    · rw [if_neg (by rw [lz9, iI_lt (by omega) (by omega) (by omega) (by omega)]; exact h2), if_pos (by omega)]
      rfl
theorem c_rrt {G : GH} {ow : Nat → Nat} {p : Nat} {w : WW} {P : Nat} (hw : WI w) (h : RepC G ow p w P) : ∃ ads G' t', (f_X4_requireReadableText p).1 G = (if (wT w).1 = -1 then some (.inr (), G') else (mthrow exS : MX Unit).1 G') ∧ RepC G' ow p w P ∧ CT G ow P G' ow P 0 ∧ SF G' ow p w ads t' := by
  have hp := wt_pos w.2.2.2.2 w.2.2.2.1 0 0 tt0
  have hlen := hw.2.2.2.1
  have hp' : -1 ≤ (wT w).1 ∧ (wT w).1 ≤ 100 := by unfold wT; omega
  obtain ⟨ads, G2, t', bt, r1, r2, r3, r4, r5, r6, r7, r8, r9, r10, r11⟩ := c_read hw h
  refine ⟨ads, G2, t', ?_, r2, r3, r4, r5, r6, ⟨_, r7⟩, r8, r9, r10, r11⟩
  unfold f_X4_requireReadableText
  rw [r1]
  by_cases h2 : (wT w).1 = -1
  · rw [if_pos (by rw [h2]; rfl), if_pos h2]
    rfl
  · rw [if_neg (by rw [lzm1, iI_eq (by omega) (by omega) (by omega) (by omega)]; exact h2), if_neg h2]
    rfl
/-- a trial is asked -/
theorem c_ask {G : GH} {ow : Nat → Nat} {p : Nat} {w : WW} {P : Nat} (hw : WI w) (h : RepC G ow p w P) {ads : Nat → Nat} {t : TT} (hsf : SF G ow p w ads t) {u : Nat} (hu : u < w.1.2.2.1) {r : Int} (hr : 1 ≤ r ∧ r ≤ 9) : ∃ tp tr G' ow' P', (∀ {β : Type} (K : Nat → MM β), (mbind (mgr p 4 1) (fun r1 => (mbind (mgr p 4 0) (fun r2 => (mbind (mgr p 4 3) (fun r3 => (mbind (mchk r1 2) (fun _ => mbind (f_X2_play r1 r2 r3 (iI u) (iI r)) (fun _ => (mbind (mgr p 4 1) K)))))))))).1 G = (K tp).1 G') ∧ RepC G' ow' p w P' ∧ CW G ow P G' ow' P' 0 ∧ G'.1 tp = some (tcl (wbF w.1 (wT w).2 u r true) (wbF w.1 (wT w).2 u r false) tr) := by
  obtain ⟨ads0, tp, sa, np, tr, G', ow', P', k1, k2, ⟨a, b, k3⟩, k4, k5, k6, k7, k8⟩ := c_play hw h hsf hu hr
  refine ⟨tp, tr, G', ow', P', fun K => ?_, k5, k6, k8⟩
  rw [ev_gr, k1, xr1, Option.elim_some, ev_gr, k1, xr0, Option.elim_some, ev_gr, k1, xr3, Option.elim_some, ev_chk, k3, tis, if_pos rfl, k2, mbind_ok k4, ev_gr, k7, xr1, Option.elim_some]
theorem c_stalls {G : GH} {ow : Nat → Nat} {p : Nat} {w : WW} {P : Nat} (hw : WI w) (h : RepC G ow p w P) {a r : Int} (ha : irg a) (hr : irg r) : RT (f_X4_stalls p (iI a) (iI r)) G ow p w P (yr (tRate w a r) exI exA exS (if tRate w a r = 0 then wbF w.1 (wT w).2 a.toNat r true else 0)) w (ye (tRate w a r)) := by
  unfold f_X4_stalls
  refine rt_ck h ?_
  by_cases h1 : inV w.1 a = true
  · have h1' : 0 ≤ a ∧ a < w.1.2.2.1 := of_decide_eq_true h1
    have ea : iI a = iI ((a.toNat : Nat) : Int) := by congr 1; omega
    refine rt_xin (rc_rv1 hw h ha h1).rt (fun G1 ow1 P1 h' => ?_)
    have hrr := rate_run hw h' hr G1
    by_cases h2 : 1 ≤ r ∧ r ≤ 9
    · rw [if_pos h2] at hrr
      obtain ⟨ads, G2, t', k1, k2, k3, k4⟩ := c_rrt hw h'
      have hck : ∀ F : MX Int32, (mbind (mchk p 4) (fun _ => F)).1 G1 = F.1 G1 := fun F => by
        obtain ⟨b0, b1, b2, b3, b4, b5, b6, b7, b8, b9, b10, _, _⟩ := h'.now
        rw [ev_chk, b10]
        rfl
      by_cases h3 : (wT w).1 = -1
      · rw [if_pos h3] at k1
        obtain ⟨tp, tr, G3, ow3, P3, q1, q2, q3, q4⟩ := c_ask hw k2 k4 (u := a.toNat) (by omega) h2
        rw [show tRate w a r = 0 by unfold tRate; rw [if_pos h1, if_pos h2, if_pos h3], if_pos rfl]
        refine ⟨G3, ow3, P3, ?_, q2, k3.tr q3.ct⟩
        refine (xbind_ok hrr).trans ?_
        rw [hck]
        refine (xbind_ok k1).trans ?_
        rw [ea, q1, ev_gi, q4, tg0, Option.elim_some]
        rfl
      · rw [if_neg h3] at k1
        obtain ⟨G3, ow3, P3, q1, q2, q3⟩ := (rc_thr (α := Unit) (E := exS) k2).rt
        rw [q1] at k1
        rw [show tRate w a r = 3 by unfold tRate; rw [if_pos h1, if_pos h2, if_neg h3], if_neg (show ¬ (3 : Int) = 0 by decide)]
        have c3 := k3.tr q3
        rw [Nat.zero_add] at c3
        refine ⟨G3, ow3, P3, ?_, q2, c3⟩
        refine (xbind_ok hrr).trans ?_
        rw [hck]
        exact xbind_out k1
    · rw [if_neg h2] at hrr
      obtain ⟨G3, ow3, P3, q1, q2, q3⟩ := (rc_thr (α := Unit) (E := exA) h').rt
      rw [q1] at hrr
      rw [show tRate w a r = 2 by unfold tRate; rw [if_pos h1, if_neg h2], if_neg (show ¬ (2 : Int) = 0 by decide)]
      exact ⟨G3, ow3, P3, xbind_out hrr, q2, q3⟩
  · rw [show tRate w a r = 1 by unfold tRate; rw [if_neg h1], if_neg (show ¬ (1 : Int) = 0 by decide)]
    rw [Bool.not_eq_true] at h1
    exact rt_xout (rc_rv0 hw h ha h1).rt
theorem c_worstWith {G : GH} {ow : Nat → Nat} {p : Nat} {w : WW} {P : Nat} (hw : WI w) (h : RepC G ow p w P) {a r : Int} (ha : irg a) (hr : irg r) : RT (f_X4_worstWith p (iI a) (iI r)) G ow p w P (yr (tRate w a r) exI exA exS (if tRate w a r = 0 then wbF w.1 (wT w).2 a.toNat r false else 0)) w (ye (tRate w a r)) := by
  unfold f_X4_worstWith
  refine rt_ck h ?_
  by_cases h1 : inV w.1 a = true
  · have h1' : 0 ≤ a ∧ a < w.1.2.2.1 := of_decide_eq_true h1
    have ea : iI a = iI ((a.toNat : Nat) : Int) := by congr 1; omega
    refine rt_xin (rc_rv1 hw h ha h1).rt (fun G1 ow1 P1 h' => ?_)
    have hrr := rate_run hw h' hr G1
    by_cases h2 : 1 ≤ r ∧ r ≤ 9
    · rw [if_pos h2] at hrr
      obtain ⟨ads, G2, t', k1, k2, k3, k4⟩ := c_rrt hw h'
      have hck : ∀ F : MX Int32, (mbind (mchk p 4) (fun _ => F)).1 G1 = F.1 G1 := fun F => by
        obtain ⟨b0, b1, b2, b3, b4, b5, b6, b7, b8, b9, b10, _, _⟩ := h'.now
        rw [ev_chk, b10]
        rfl
      by_cases h3 : (wT w).1 = -1
      · rw [if_pos h3] at k1
        obtain ⟨tp, tr, G3, ow3, P3, q1, q2, q3, q4⟩ := c_ask hw k2 k4 (u := a.toNat) (by omega) h2
        rw [show tRate w a r = 0 by unfold tRate; rw [if_pos h1, if_pos h2, if_pos h3], if_pos rfl]
        refine ⟨G3, ow3, P3, ?_, q2, k3.tr q3.ct⟩
        refine (xbind_ok hrr).trans ?_
        rw [hck]
        refine (xbind_ok k1).trans ?_
        rw [ea, q1, ev_gi, q4, tg1, Option.elim_some]
        rfl
      · rw [if_neg h3] at k1
        obtain ⟨G3, ow3, P3, q1, q2, q3⟩ := (rc_thr (α := Unit) (E := exS) k2).rt
        rw [q1] at k1
        rw [show tRate w a r = 3 by unfold tRate; rw [if_pos h1, if_pos h2, if_neg h3], if_neg (show ¬ (3 : Int) = 0 by decide)]
        have c3 := k3.tr q3
        rw [Nat.zero_add] at c3
        refine ⟨G3, ow3, P3, ?_, q2, c3⟩
        refine (xbind_ok hrr).trans ?_
        rw [hck]
        exact xbind_out k1
    · rw [if_neg h2] at hrr
      obtain ⟨G3, ow3, P3, q1, q2, q3⟩ := (rc_thr (α := Unit) (E := exA) h').rt
      rw [q1] at hrr
      rw [show tRate w a r = 2 by unfold tRate; rw [if_pos h1, if_neg h2], if_neg (show ¬ (2 : Int) = 0 by decide)]
      exact ⟨G3, ow3, P3, xbind_out hrr, q2, q3⟩
  · rw [show tRate w a r = 1 by unfold tRate; rw [if_neg h1], if_neg (show ¬ (1 : Int) = 0 by decide)]
    rw [Bool.not_eq_true] at h1
    exact rt_xout (rc_rv0 hw h ha h1).rt
theorem clr_loop {p : Nat} {w : WW} (hw : WI w) {ads : Nat → Nat} {t : TT} {u : Nat} (hu : u < w.1.2.2.1) : ∀ (d fu r : Nat) (G : GH) (ow : Nat → Nat) (P : Nat), r + d = 10 → 1 ≤ r → d < fu → RepC G ow p w P → SF G ow p w ads t → ∃ G' ow' P', (f_X4_leastRate_11 fu p (iI u) (iI r)).1 G = some (.inr (iI (lrF w.1 (wT w).2 u d r)), G') ∧ RepC G' ow' p w P' ∧ CW G ow P G' ow' P' 0
  | _, 0, _, _, _, _, _, _, h, _, _ => absurd h (by omega)
  | 0, fu + 1, r, G, ow, P, e, _, _, h, _ => by
    refine ⟨G, ow, P, ?_, h, CW.rf h.gw⟩
    rw [f_X4_leastRate_11, if_pos (by rw [lz9, iI_lt (by omega) (by omega) (by omega) (by omega)]; omega)]
    rfl
  | d + 1, fu + 1, r, G, ow, P, e, hr1, hf, h, hsf => by
    obtain ⟨tp, tr, G3, ow3, P3, q1, q2, q3, q4⟩ := c_ask hw h hsf hu (r := (r : Int)) (by omega)
    have hb : 0 ≤ wbF w.1 (wT w).2 u r true ∧ wbF w.1 (wT w).2 u r true ≤ 1000 := by
      have hk := wt_kv hw
      have h1 := dA_n (wT w).2.2.2.2.2.1 (wT w).2.2.2.2.2.2 (wT w).2.2.2.2.1 0 (sSet w.1 0 r) u
      have h2 := stC_b (allF (sSet w.1 0 r) (wT w).2 u).1 w.1.2.2.1 (allF (sSet w.1 0 r) (wT w).2 u).2
      unfold wbF
      rw [if_pos rfl]
      unfold allF at h2 ⊢
      have h3 := hk.1
      omega
    rw [f_X4_leastRate_11, if_neg (by rw [lz9, iI_lt (by omega) (by omega) (by omega) (by omega)]; omega), q1, ev_gi, q4, tg0, Option.elim_some]
    unfold lrF
    by_cases h0 : wbF w.1 (wT w).2 u r true = 0
    · rw [if_pos (by rw [h0]; rfl), if_pos h0]
      exact ⟨G3, ow3, P3, rfl, q2, q3⟩
    · obtain ⟨G4, ow4, P4, g1, g2, g3⟩ := clr_loop hw hu d fu (r + 1) G3 ow3 P3 (by omega) (by omega) (by omega) q2 (hsf.cw q3)
      rw [if_neg (by rw [lz0, iI_eq (by omega) (by omega) (by omega) (by omega)]; exact h0), if_neg h0, show iI (r : Int) + 1 = iI ((r + 1 : Nat) : Int) by rw [lz1, iI_add]; rfl]
      exact ⟨G4, ow4, P4, g1, g2, q3.tr g3⟩
theorem c_leastRate {G : GH} {ow : Nat → Nat} {p : Nat} {w : WW} {P : Nat} (hw : WI w) (h : RepC G ow p w P) {a : Int} (ha : irg a) : RT (f_X4_leastRate p (iI a)) G ow p w P (yr (tLeast w a) exI exS exS (if tLeast w a = 0 then lrF w.1 (wT w).2 a.toNat 9 1 else 0)) w (ye (tLeast w a)) := by
  unfold f_X4_leastRate
  refine rt_ck h ?_
  by_cases h1 : inV w.1 a = true
  · have h1' : 0 ≤ a ∧ a < w.1.2.2.1 := of_decide_eq_true h1
    have ea : iI a = iI ((a.toNat : Nat) : Int) := by congr 1; omega
    refine rt_xin (rc_rv1 hw h ha h1).rt (fun G1 ow1 P1 h' => ?_)
    refine rt_ck h' ?_
    obtain ⟨ads, G2, t', k1, k2, k3, k4⟩ := c_rrt hw h'
    by_cases h3 : (wT w).1 = -1
    · rw [if_pos h3] at k1
      obtain ⟨G3, ow3, P3, q1, q2, q3⟩ := clr_loop hw (u := a.toNat) (by omega) 9 FU 1 G2 ow1 P1 (by decide) (by decide) (by decide) k2 k4
      rw [show tLeast w a = 0 by unfold tLeast; rw [if_pos h1, if_pos h3], if_pos rfl]
      refine ⟨G3, ow3, P3, ?_, q2, k3.tr q3.ct⟩
      refine (xbind_ok k1).trans ?_
      rw [show iI ((1 : Nat) : Int) = 1 from rfl, ← ea] at q1
      exact q1
    · rw [if_neg h3] at k1
      obtain ⟨G3, ow3, P3, q1, q2, q3⟩ := (rc_thr (α := Unit) (E := exS) k2).rt
      rw [q1] at k1
      rw [show tLeast w a = 2 by unfold tLeast; rw [if_pos h1, if_neg h3], if_neg (show ¬ (2 : Int) = 0 by decide)]
      have c3 := k3.tr q3
      rw [Nat.zero_add] at c3
      exact ⟨G3, ow3, P3, xbind_out k1, q2, c3⟩
  · rw [show tLeast w a = 1 by unfold tLeast; rw [if_neg h1], if_neg (show ¬ (1 : Int) = 0 by decide)]
    rw [Bool.not_eq_true] at h1
    exact rt_xout (rc_rv0 hw h ha h1).rt
