/-! LAW: runs: the text is run from a version; it does as was told for the rate. -/
theorem lr_ok (s : SS) (t : TT) (v : Nat) : ∀ d r, d + r = 10 → 1 ≤ r → (lrF s t v d r = -1 ∧ ∀ k : Nat, r ≤ k → k ≤ 9 → wbF s t v k true ≠ 0) ∨ ∃ L : Nat, lrF s t v d r = L ∧ r ≤ L ∧ L ≤ 9 ∧ wbF s t v L true = 0 ∧ ∀ k : Nat, r ≤ k → k < L → wbF s t v k true ≠ 0
  | 0, r, h, _ => Or.inl ⟨rfl, fun k k1 k2 => by omega⟩
  | d + 1, r, h, h1 => by
    unfold lrF
    by_cases e : wbF s t v r true = 0
    · rw [if_pos e]
      exact Or.inr ⟨r, rfl, Nat.le_refl _, by omega, e, fun k k1 k2 => by omega⟩
    · rw [if_neg e]
      rcases lr_ok s t v d (r + 1) (by omega) (by omega) with ⟨h2, h3⟩ | ⟨L, h2, h3, h4, h5, h6⟩
      · refine Or.inl ⟨h2, fun k k1 k2 => ?_⟩
        by_cases ek : k = r
        · rw [ek]
          exact e
        · exact h3 k (by omega) k2
      · refine Or.inr ⟨L, h2, by omega, h4, h5, fun k k1 k2 => ?_⟩
        by_cases ek : k = r
        · rw [ek]
          exact e
        · exact h6 k (by omega) k2
theorem wb_b (s : SS) (t : TT) (v : Nat) (r : Int) : 0 ≤ wbF s t v r true ∧ wbF s t v r true ≤ (allF (sSet s 0 r) t v).2 := stC_b _ _ _
theorem act_par (v g : Nat → Int) (z kind x rate ratio : Int) : sAct (va_up v 0 z) g kind x rate ratio 0 = z := by
  rw [up0_act, up_self]
theorem dA_par (ks vs : Nat → Int) : ∀ d i s v, ∀ j, i + j < (dA ks vs d i s v).2 → ((dA ks vs d i s v).1.2.2.2 (s.2.2.1 + j)).1 0 = if j = 0 then (v : Int) else ((s.2.2.1 + j - 1 : Nat) : Int)
  | 0, i, s, v, j, h => by
    unfold dA at h
    dsimp only at h
    omega
  | d + 1, i, s, v, j, h => by
    unfold dA at h ⊢
    by_cases hc : (decide (s.2.2.1 < 100) && pmt (s.2.2.2 v).1 (ks i)) = true
    · rw [if_pos hc] at h ⊢
      by_cases e : j = 0
      · subst e
        rw [if_pos rfl, (dA_old ks vs d (i + 1) (sGrow s v (ks i) (vs i)) s.2.2.1).2.2 (s.2.2.1 + 0) (by show s.2.2.1 + 0 < s.2.2.1 + 1; omega)]
        unfold sGrow
        dsimp only
        rw [Nat.add_zero, up_self]
        exact act_par _ _ _ _ _ _ _
      · have ih := dA_par ks vs d (i + 1) (sGrow s v (ks i) (vs i)) s.2.2.1 (j - 1) (by omega)
        have e1 : (sGrow s v (ks i) (vs i)).2.2.1 = s.2.2.1 + 1 := rfl
        rw [e1, show s.2.2.1 + 1 + (j - 1) = s.2.2.1 + j by omega] at ih
        rw [ih, if_neg e]
        by_cases e2 : j - 1 = 0
        · rw [if_pos e2, show s.2.2.1 + j - 1 = s.2.2.1 by omega]
        · rw [if_neg e2]
    · rw [if_neg hc] at h
      dsimp only at h
      omega
section Runs
variable {p : Nat}
/-- the versions that were made, one after the other -/
theorem r168 {w : WW} (hw : WI w) {N m v dn : Nat} {st wo : Int} (hN : N + dn = w.1.2.2.1) (hdn : dn ≤ m) (hm : m ≤ 50) (hv : v < N) (hst : st = stC w.1 N dn) (hwo : wo = mxC w.1 N dn) (hpar : ∀ j, j < dn → (w.1.2.2.2 (N + j)).1 0 = if j = 0 then (v : Int) else ((N + j - 1 : Nat) : Int)) : ∀ (d fu j : Nat) (G : GH) (ow : Nat → Nat) (P : Nat), j + d = dn → d < fu → RepC G ow p w P → RT (f_L_runs_168 fu p (iI (N : Int)) (iI (m : Int)) (iI (v : Int)) (iI st) (iI wo) (iI (dn : Int)) (iI (stC w.1 N j)) (iI (mxC w.1 N j)) (iI ((N + j : Nat) : Int))) G ow p w P (.inr 1) w 0
  | _, 0, _, _, _, _, _, hf, _ => absurd hf (by omega)
  | 0, fu + 1, j, G, ow, P, hj, hf, hR => by
    have hn := hw.1.2.2.1
    have e : j = dn := by omega
    subst e
    rw [f_L_runs_168]
    rw [if_pos (i_le (iI_add _ _) rfl (by omega)), if_neg (i_nlt rfl lz0 (by omega)), if_neg (i_nlt rfl rfl (by omega))]
    refine t_q hR (q_c0 hw hR) (fun G ow P hR => ?_)
    rw [if_pos (i_eq rfl (iI_add _ _) (by omega)), if_pos (i_eq rfl rfl hst.symm), if_pos (i_eq rfl rfl hwo.symm)]
    exact t_true hR
  | d + 1, fu + 1, j, G, ow, P, hj, hf, hR => by
    have hn := hw.1.2.2.1
    have hk : N + j < w.1.2.2.1 := by omega
    have hb := (hw.1.2.2.2 (N + j) hk).1
    unfold VBn at hb
    have mb := mxC_b hw.1 N j (by omega)
    have e1 : stC w.1 N (j + 1) = stC w.1 N j + (if 0 < (w.1.2.2.2 (N + j)).1 9 then 1 else 0) := rfl
    have e2 : mxC w.1 N (j + 1) = max (mxC w.1 N j) ((w.1.2.2.2 (N + j)).1 8) := rfl
    have hp := hpar j (by omega)
    have hpd := par_dep hw.1 hk (by omega)
    have r224 : ∀ (s1 g : Int), s1 = stC w.1 N (j + 1) → g = mxC w.1 N (j + 1) → ∀ G ow P, RepC G ow p w P → RT (f_L_runs_224 (fun y0 y1 y2 y3 y4 y5 y6 y7 y8 y9 => f_L_runs_168 fu y0 y1 y2 y3 y4 y5 y6 y7 y8 y9) p (iI (N : Int)) (iI (m : Int)) (iI (v : Int)) (iI st) (iI wo) (iI (dn : Int)) (iI s1) (iI ((N + j : Nat) : Int)) (iI g)) G ow p w P (.inr 1) w 0 := by
      intro s1 g h1 h2 G ow P hR
      subst h1
      subst h2
      unfold f_L_runs_224
      refine t_q hR (q_par hw hR rfl hk (by omega)) (fun G ow P hR => ?_)
      rw [iI_s, show N + j + 1 = N + (j + 1) by omega]
      have go := r168 hw hN hdn hm hv hst hwo hpar d fu (j + 1) G ow P (by omega) (by omega) hR
      by_cases e0 : j = 0
      · rw [if_pos e0] at hp
        rw [if_pos (i_eq rfl rfl (by omega)), if_pos (i_eq rfl rfl (by omega))]
        exact go
      · rw [if_neg e0] at hp
        rw [if_neg (i_ne rfl rfl (by omega)), if_pos (i_eq rfl (iI_p (j := N + j - 1) (by omega)) (by omega))]
        exact go
    have r195 : ∀ (z : Int), stC w.1 N j + z = stC w.1 N (j + 1) → ∀ G ow P, RepC G ow p w P → RT (f_L_runs_195 (fun y0 y1 y2 y3 y4 y5 y6 y7 y8 y9 => f_L_runs_168 fu y0 y1 y2 y3 y4 y5 y6 y7 y8 y9) p (iI (N : Int)) (iI (m : Int)) (iI (v : Int)) (iI st) (iI wo) (iI (dn : Int)) (iI (mxC w.1 N j)) (iI ((N + j : Nat) : Int)) (iI z) (iI (stC w.1 N j))) G ow p w P (.inr 1) w 0 := by
      intro z hz G ow P hR
      unfold f_L_runs_195
      refine t_q hR (q_v6 hw hR rfl hk) (fun G ow P hR => ?_)
      rw [iI_add]
      by_cases hle : (w.1.2.2.2 (N + j)).1 8 ≤ mxC w.1 N j
      · rw [if_pos (i_le rfl rfl (by omega))]
        exact r224 _ _ hz (by omega) G ow P hR
      · rw [if_neg (i_nle rfl rfl (by omega))]
        refine t_q hR (q_v6 hw hR rfl hk) (fun G ow P hR => ?_)
        exact r224 _ _ hz (by omega) G ow P hR
    rw [f_L_runs_168]
    rw [if_neg (i_nle (iI_add _ _) rfl (by omega))]
    refine t_q hR (q_v7 hw hR rfl hk) (fun G ow P hR => ?_)
    by_cases hx : (w.1.2.2.2 (N + j)).1 9 ≤ 0
    · rw [if_pos (i_le rfl lz0 (by omega))]
      exact r195 0 (by rw [e1, if_neg (by omega)]) G ow P hR
    · rw [if_neg (i_nle rfl lz0 (by omega))]
      exact r195 1 (by rw [e1, if_pos (by omega)]) G ow P hR
/-- what holds of a world between calls -/
def WG (w : WW) : Prop := WI w ∧ WJ w
theorem r97 {w : WW} (hg : WG w) (ht : (wT w).1 = -1) {m v : Nat} (hm : (wT w).2.2.2.2.1 = m) (hv : v < w.1.2.2.1) {r : Int} (hr : 1 ≤ r ∧ r ≤ 9) {G : GH} {ow : Nat → Nat} {P : Nat} (hR : RepC G ow p w P) : RP (f_L_runs_97 p (iI (w.1.2.2.1 : Int)) (iI (m : Int)) (iI (v : Int)) (iI r)) G ow p w P (fun z w1 => z = .inr 1 ∧ WG w1) := by
  obtain ⟨hw, hj⟩ := hg
  have hkv := wt_kv hw
  have hok : okS 0 r = true := decide_eq_true (Or.inl ⟨rfl, hr⟩)
  unfold f_L_runs_97
  refine rp_q hR (q_c0 hw hR) (fun G ow P hR => ?_)
  rw [if_pos rfl]
  refine rp_q hR (q_stalls hw hR rfl rfl hv hr ht) (fun G ow P hR => ?_)
  refine rp_q hR (q_worstWith hw hR rfl rfl hv hr ht) (fun G ow P hR => ?_)
  refine rp_q hR (q_set (k := 0) hw hR lz0 rfl hok) (fun G ow P hR => ?_)
  have hw2 : WI (wSave w (sSet w.1 0 r)) := wi_save hw (si_set hw.1 hok)
  have hj2 : WJ (wSave w (sSet w.1 0 r)) := wj_save hj (sj_set hj.1)
  have hr0 := hw.1.1
  rw [if_pos rfl, if_neg (i_nlt rfl lz1 (by omega))]
  refine rp_q hR (q_set0 hw2 hR) (fun G ow P hR => ?_)
  rw [if_pos (show iI (wSave w (sSet w.1 0 r)).1.1 = iI r from rfl)]
  refine rp_q hR (q_run (v := v) hw2 hR rfl hv ht) (fun G ow P hR => ?_)
  have hs2 : SI (sSet w.1 0 r) := si_set hw.1 hok
  have hd := dA_n (wT w).2.2.2.2.2.1 (wT w).2.2.2.2.2.2 (wT w).2.2.2.2.1 0 (sSet w.1 0 r) v
  have hw3 : WI (wSave (wSave w (sSet w.1 0 r)) (allF (sSet w.1 0 r) (wT w).2 v).1) := wi_save hw2 (dA_si hkv.2 _ 0 _ v (by omega) hs2 hv)
  have hj3 : WJ (wSave (wSave w (sSet w.1 0 r)) (allF (sSet w.1 0 r) (wT w).2 v).1) := wj_save hj2 (dA_sj hkv.2 _ 0 _ v (by omega) hs2 (sj_set hj.1) hv)
  have hpar := dA_par (wT w).2.2.2.2.2.1 (wT w).2.2.2.2.2.2 (wT w).2.2.2.2.1 0 (sSet w.1 0 r) v
  have e1 : (sSet w.1 0 r).2.2.1 = w.1.2.2.1 := rfl
  rw [e1] at hd hpar
  have hn := hw.1.2.2.1
  have h := r168 (p := p) (w := wSave (wSave w (sSet w.1 0 r)) (allF (sSet w.1 0 r) (wT w).2 v).1) hw3 (N := w.1.2.2.1) (m := m) (v := v) (dn := (allF (sSet w.1 0 r) (wT w).2 v).2) (st := wbF w.1 (wT w).2 v r true) (wo := wbF w.1 (wT w).2 v r false) (by have := hd.2.2; show w.1.2.2.1 + (dA _ _ _ _ _ _).2 = (dA _ _ _ _ _ _).1.2.2.1; omega) (by have := hd.2.1; show (dA _ _ _ _ _ _).2 ≤ m; omega) (by omega) hv rfl rfl (fun j hjj => hpar j (by rw [Nat.zero_add]; exact hjj)) (allF (sSet w.1 0 r) (wT w).2 v).2 FU 0 G ow P (by omega) (by have := hd.2.1; have h9 : (allF (sSet w.1 0 r) (wT w).2 v).2 = (dA (wT w).2.2.2.2.2.1 (wT w).2.2.2.2.2.2 (wT w).2.2.2.2.1 0 (sSet w.1 0 r) v).2 := rfl; unfold FU; omega) hR
  exact rp_of h ⟨rfl, hw3, hj3⟩
theorem r44 {w : WW} (hg : WG w) (ht : (wT w).1 = -1) {m v : Nat} (hm : (wT w).2.2.2.2.1 = m) (hv : v < w.1.2.2.1) {r : Int} (hr : 1 ≤ r ∧ r ≤ 9) {L : Int} {E : Nat} (hE : (E : Int) = if 0 ≤ L then L else 10) (hE9 : 1 ≤ E ∧ E ≤ 10) (hL : -1 ≤ L ∧ L ≤ 9) (hL0 : 0 ≤ L → 1 ≤ L ∧ wbF w.1 (wT w).2 v L true = 0) (hno : ∀ k : Nat, 1 ≤ k → k < E → wbF w.1 (wT w).2 v k true ≠ 0) : ∀ (d fu k : Nat) (G : GH) (ow : Nat → Nat) (P : Nat), 1 ≤ k → k + d = E → d < fu → RepC G ow p w P → RP (f_L_runs_44 fu p (iI (w.1.2.2.1 : Int)) (iI (m : Int)) (iI (v : Int)) (iI r) (iI L) (iI (k : Int))) G ow p w P (fun z w1 => z = .inr 1 ∧ WG w1)
  | _, 0, _, _, _, _, _, _, hf, _ => absurd hf (by omega)
  | d, fu + 1, k, G, ow, P, hk, hkd, hf, hR => by
    have hw := hg.1
    have key : RP (f_L_runs_58 (fun y0 y1 y2 y3 y4 y5 y6 => f_L_runs_44 fu y0 y1 y2 y3 y4 y5 y6) p (iI (w.1.2.2.1 : Int)) (iI (m : Int)) (iI (v : Int)) (iI r) (iI L) (iI (k : Int)) (iI (E : Int)) (iI (k : Int))) G ow p w P (fun z w1 => z = .inr 1 ∧ WG w1) := by
      unfold f_L_runs_58
      cases d with
      | zero =>
        rw [if_pos (i_le rfl rfl (by omega))]
        by_cases e : L ≤ 0
        · rw [if_pos (i_le rfl lz0 (by omega))]
          exact r97 hg ht hm hv hr hR
        · have h0 := hL0 (by omega)
          rw [if_neg (i_nle rfl lz0 (by omega))]
          refine rp_q hR (q_stalls hw hR rfl rfl hv (by omega) ht) (fun G ow P hR => ?_)
          rw [if_pos (i_eq rfl lz0 h0.2)]
          exact r97 hg ht hm hv hr hR
      | succ d =>
        rw [if_neg (i_nle rfl rfl (by omega))]
        refine rp_q hR (q_stalls (r := k) hw hR rfl rfl hv (by omega) ht) (fun G ow P hR => ?_)
        have h1 := hno k hk (by omega)
        have h2 := wb_b w.1 (wT w).2 v k
        have h3 := dA_n (wT w).2.2.2.2.2.1 (wT w).2.2.2.2.2.2 (wT w).2.2.2.2.1 0 (sSet w.1 0 (k : Int)) v
        have h4 : (allF (sSet w.1 0 (k : Int)) (wT w).2 v).2 = (dA (wT w).2.2.2.2.2.1 (wT w).2.2.2.2.2.2 (wT w).2.2.2.2.1 0 (sSet w.1 0 (k : Int)) v).2 := rfl
        have h5 := (wt_kv hw).1
        rw [if_pos (i_le lz1 rfl (by omega)), iI_s]
        exact r44 hg ht hm hv hr hE hE9 hL hL0 hno d fu (k + 1) G ow P (by omega) (by omega) (by omega) hR
    rw [f_L_runs_44]
    by_cases e : 0 ≤ L
    · rw [if_pos e] at hE
      rw [if_pos (i_le lz0 rfl (by omega))]
      rw [hE] at key
      exact key
    · rw [if_neg e] at hE
      rw [if_neg (i_nle lz0 rfl (by omega)), lz10]
      rw [hE] at key
      exact key
theorem l_runs {w : WW} (hg : WG w) {q1 q2 : Int32} {G : GH} {ow : Nat → Nat} {P : Nat} (hR : RepC G ow p w P) : RP (f_L_runs p q1 q2) G ow p w P (fun z w1 => z = .inr 1 ∧ WG w1) := by
  unfold f_L_runs
  refine rp_q hR (q_c0 hg.1 hR) (fun G ow P hR => ?_)
  refine rp_x (l_types hg.1 hR) (fun a w1 G ow P ha hR => ?_)
  obtain ⟨m, rfl, hm, hw1, ⟨f1, f2, f3⟩, ht, hm2⟩ := ha
  have hg1 : WG w1 := ⟨hw1, by show SJ w1.1; rw [f1]; exact hg.2.1, fun i hi => by rw [f2]; exact hg.2.2 i (by rw [← f3]; exact hi)⟩
  have hn := hw1.1.2.2.1
  rw [← f1]
  obtain ⟨v, v1, v2⟩ := q_up (x := q2) (y := iI (w1.1.2.2.1 : Int)) (n := w1.1.2.2.1) rfl (by omega) G
  refine rp_val v2 ?_
  obtain ⟨r, r1, r2⟩ := q_up (x := q2 >>> (8 &&& 31)) (y := 9) (n := 9) rfl (by omega) G
  refine rp_val r2 ?_
  have hv : v < w1.1.2.2.1 := by omega
  refine rp_q hR (q_least hw1 hR rfl hv ht) (fun G ow P hR => ?_)
  rw [lz1, iI_add]
  rcases lr_ok w1.1 (wT w1).2 v 9 1 (by omega) (by omega) with ⟨h1, h2⟩ | ⟨L, h1, h2, h3, h4, h5⟩
  · rw [h1]
    exact r44 hg1 ht hm2 hv (by omega) (E := 10) (by rw [if_neg (by omega)]; rfl) (by omega) (by omega) (fun hh => absurd hh (by omega)) (fun k k1 k2 => h2 k k1 (by omega)) 9 FU 1 G ow P (by omega) (by omega) (by unfold FU; omega) hR
  · rw [h1]
    exact r44 hg1 ht hm2 hv (by omega) (E := L) (by rw [if_pos (by omega)]) (by omega) (by omega) (fun _ => ⟨by omega, h4⟩) (fun k k1 k2 => h5 k k1 k2) (L - 1) FU 1 G ow P (by omega) (by omega) (by unfold FU; omega) hR
end Runs
