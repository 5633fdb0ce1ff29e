/-! PURE PART 50: stalls, worstWith, leastRate of the class -/
theorem RepC.tri {G : GH} {ow : Nat → Nat} {p : Nat} {w : WW} {P : Nat} (h : RepC G ow p w P) : ∃ ads0 tp sa np tr tx a b v g, ow p = 1 ∧ G.1 p = some (xcl ads0 tp sa np w.2.2.1) ∧ ow tp = 2 ∧ ow tr = 3 ∧ ow tx = 4 ∧ G.1 tp = some (tcl a b tr) ∧ G.1 tr = some (vcl v tx) ∧ G.1 tx = some (icz 40 g) ∧ ∀ a' b' v' g', RepC (TH G tp tr tx a' b' v' g') ow p w P ∧ CW G ow P (TH G tp tr tx a' b' v' g') ow P 0 := by
  obtain ⟨ads, tp, sa, srefs, n, R, h1, h2, ⟨tr, tx, v, g, a, b, o1, o2, o3, c1, c2, c3⟩, h4, h5, h6, h7⟩ := h
  have e1 : tp ≠ tr := lab_ne (ow := ow) (by omega)
  have e2 : tp ≠ tx := lab_ne (ow := ow) (by omega)
  have e3 : tr ≠ tx := lab_ne (ow := ow) (by omega)
  have out : ∀ a' b' v' g' q, (ow q < 2 ∨ 5 ≤ ow q) → (TH G tp tr tx a' b' v' g').1 q = G.1 q := fun a' b' v' g' q hq => th_out e1 e2 e3 a' b' v' g' (lab_ne (ow := ow) (by omega)) (lab_ne (ow := ow) (by omega)) (lab_ne (ow := ow) (by omega))
  refine ⟨ads 0, tp, sa, n.2.1, tr, tx, a, b, v, g, h1.1, h1.2, o1, o2, o3, c1, c2, c3, fun a' b' v' g' => ?_⟩
  have hg : GW (TH G tp tr tx a' b' v' g') ow := h4.2
  have h61 := h6.1
  refine ⟨⟨ads, tp, sa, srefs, n, R, ?_, ?_, ⟨tr, tx, v', g', a', b', o1, o2, o3, th_tp e1 e2 e3 _ _ _ _, th_tr e1 e2 e3 _ _ _ _, th_tx e1 e2 e3 _ _ _ _⟩, ?_, ?_, h6, h7⟩, fun _ _ => rfl, fun q ha hb => out _ _ _ _ q (by omega), hg, Nat.le_refl _, Nat.le_refl _, fun q hq => ?_⟩
  · exact PO.fr (fun _ _ => rfl) h1 (fun q hq => out _ _ _ _ q (by omega))
  · exact PS.fr (fun _ _ => rfl) h2 (fun q ha hb => out _ _ _ _ q (by omega))
  · exact RSX.fr (fun _ _ => rfl) h4 (by omega) hg (fun q ha hb => out _ _ _ _ q (by omega))
  · exact PV.fr (fun _ _ => rfl) h5 (fun i hi => by have := (h6.2 i hi).1; omega) hg (fun q hq => out _ _ _ _ q (by omega)) (fun i hi q ha hb => by have := (h6.2 i hi).1; exact out _ _ _ _ q (by omega))
  · rw [out _ _ _ _ q (by omega)]
    exact ⟨rfl, rfl⟩
theorem xcl_1 {a b c d a' b' c' d' : Nat} {k k' : Int} (h : some (xcl a b c d k) = some (xcl a' b' c' d' k')) : b = b' := Option.some.inj (congrArg (fun o => gref o 4 1) h)
theorem xcl_3 {a b c d a' b' c' d' : Nat} {k k' : Int} (h : some (xcl a b c d k) = some (xcl a' b' c' d' k')) : d = d' := Option.some.inj (congrArg (fun o => gref o 4 3) h)
theorem tcl_2 {a b a' b' : Int} {r r' : Nat} (h : some (tcl a b r) = some (tcl a' b' r')) : r = r' := Option.some.inj (congrArg (fun o => gref o 2 2) h)
theorem vcl_10 {v v' : Nat → Int} {r r' : Nat} (h : some (vcl v r) = some (vcl v' r')) : r = r' := Option.some.inj (congrArg (fun o => gref o 3 10) h)
theorem RepC.tri2 {G : GH} {ow : Nat → Nat} {p : Nat} {w : WW} {P : Nat} (h : RepC G ow p w P) {ads0 tp sa np tr tx : Nat} {a b k : Int} {v : Nat → Int} (hp : G.1 p = some (xcl ads0 tp sa np k)) (ht : G.1 tp = some (tcl a b tr)) (hr : G.1 tr = some (vcl v tx)) (a' b' : Int) (v' g' : Nat → Int) : RepC (TH G tp tr tx a' b' v' g') ow p w P ∧ CW G ow P (TH G tp tr tx a' b' v' g') ow P 0 := by
  obtain ⟨x1, x2, x3, x4, x5, x6, x7, x8, x9, x10, k1, k2, k3, k4, k5, k6, k7, k8, k9⟩ := h.tri
  have e1 : x2 = tp := xcl_1 (k2.symm.trans hp)
  subst e1
  have e2 : x5 = tr := tcl_2 (k6.symm.trans ht)
  subst e2
  have e3 : x6 = tx := vcl_10 (k7.symm.trans hr)
  subst e3
  exact k9 a' b' v' g'
/-- the script stands read in the heap -/
def SF (G : GH) (ow : Nat → Nat) (p : Nat) (w : WW) (ads : Nat → Nat) (t : TT) : Prop := (∀ k, k ∈ KS → ow (ads k) = 60 + k) ∧ gref (G.1 p) 4 0 = some (ads 0) ∧ ow p = 1 ∧ (∃ n, G.1 (ads 0) = some (sob ads (tz n t))) ∧ G.1 (ads 4) = some (icz 50 t.2.2.2.2.1) ∧ G.1 (ads 5) = some (icz 50 t.2.2.2.2.2) ∧ t.2.2.2.1 = (wT w).2.2.2.2.1 ∧ ∀ j, j < t.2.2.2.1 → t.2.2.2.2.1 j = (wT w).2.2.2.2.2.1 j ∧ t.2.2.2.2.2 j = (wT w).2.2.2.2.2.2 j
theorem SF.cw {G G' : GH} {ow ow' : Nat → Nat} {p P P' e : Nat} {w : WW} {ads : Nat → Nat} {t : TT} (h : SF G ow p w ads t) (k : CW G ow P G' ow' P' e) : SF G' ow' p w ads t := by
  obtain ⟨h1, h2, h3, ⟨n, h4⟩, h5, h6, h7⟩ := h
  have k6 : ∀ k, k ∈ KS → k < 6 := by decide
  have kk : ∀ j, j ∈ KS → G'.1 (ads j) = G.1 (ads j) := fun j hj => k.2.1 _ (by rw [h1 j hj]; omega) (by have := k6 j hj; rw [h1 j hj]; omega)
  exact ⟨fun j hj => by rw [k.1 _ (by rw [h1 j hj]; omega)]; exact h1 j hj, by rw [(k.2.2.2.2.2 p h3).1]; exact h2, by rw [k.1 _ (by omega)]; exact h3, ⟨n, by rw [kk 0 (by decide)]; exact h4⟩, by rw [kk 4 (by decide)]; exact h5, by rw [kk 5 (by decide)]; exact h6, h7⟩
theorem c_play {G : GH} {ow : Nat → Nat} {p : Nat} {w : WW} {P : Nat} (hw : WI w) (h : RepC G ow p w P) {ads : Nat → Nat} {t : TT} (hsf : SF G ow p w ads t) {u : Nat} (hu : u < w.1.2.2.1) {r : Int} (hr : 1 ≤ r ∧ r ≤ 9) :
    ∃ ads0 tp sa np tr G' ow' P', G.1 p = some (xcl ads0 tp sa np w.2.2.1) ∧ ads0 = ads 0 ∧ (∃ a b, G.1 tp = some (tcl a b tr)) ∧ (f_X2_play tp (ads 0) np (iI u) (iI r)).1 G = some ((), G') ∧ RepC G' ow' p w P' ∧ CW G ow P G' ow' P' 0 ∧ G'.1 p = some (xcl ads0 tp sa np w.2.2.1) ∧ G'.1 tp = some (tcl (wbF w.1 (wT w).2 u r true) (wbF w.1 (wT w).2 u r false) tr) := by
  obtain ⟨s1, s2, s3, ⟨n, s4⟩, s5, s6, s7, s8⟩ := hsf
  obtain ⟨ads0, tp, sa, np, tr, tx, a, b, v, g, k1, k2, k3, k4, k5, k6, k7, k8, k9⟩ := h.tri
  have e1 : tp ≠ tr := lab_ne (ow := ow) (by omega)
  have e2 : tp ≠ tx := lab_ne (ow := ow) (by omega)
  have e3 : tr ≠ tx := lab_ne (ow := ow) (by omega)
  obtain ⟨c0, c1⟩ := k9 0 0 v g
  have hid := th_id e1 e2 e3 a b v g k6 k7 k8
  obtain ⟨G0, hG0⟩ : ∃ G0, G0 = TH G tp tr tx 0 0 v g := ⟨_, rfl⟩
  rw [← hG0] at c0 c1
  have out : ∀ q, (ow q < 2 ∨ 5 ≤ ow q) → G0.1 q = G.1 q := fun q hq => by
    rw [hG0]
    exact th_out e1 e2 e3 0 0 v g (lab_ne (ow := ow) (by omega)) (lab_ne (ow := ow) (by omega)) (lab_ne (ow := ow) (by omega))
  have hp0 : G0.1 p = some (xcl ads0 tp sa np w.2.2.1) := by rw [out p (by omega)]; exact k2
  obtain ⟨y1, y2, y3, L, np', va, ma, refs, n1, n2, n3, n4, n5⟩ := c0.now
  have enp : np' = np := xcl_3 (n3.symm.trans hp0)
  subst enp
  have h100 := hw.1.2.2.1
  obtain ⟨q, G1, ow1, refs1, a1, a2, a3, a4, _⟩ := slot_run n4.1 (by omega) n4.2 (show u < 100 by omega)
  obtain ⟨P1, b1, b2⟩ := n5 G1 ow1 refs1 w.1 ⟨a3, a4.2.2.1⟩ a4
  have lab1 : ∀ x, ow x ≠ 0 → ow1 x = ow x := a4.1
  have keep1 : ∀ x, ow x ≠ 0 → ow x < 1000 → G1.1 x = G0.1 x := fun x hx hy => a4.2.1 x hx (by omega)
  have t1 : G1.1 tp = some (tcl 0 0 tr) := by rw [keep1 tp (by omega) (by omega), hG0]; exact th_tp e1 e2 e3 _ _ _ _
  have t2 : G1.1 tr = some (vcl v tx) := by rw [keep1 tr (by omega) (by omega), hG0]; exact th_tr e1 e2 e3 _ _ _ _
  have t3 : G1.1 tx = some (icz 40 g) := by rw [keep1 tx (by omega) (by omega), hG0]; exact th_tx e1 e2 e3 _ _ _ _
  have hp1 : G1.1 p = some (xcl ads0 tp sa np' w.2.2.1) := by rw [keep1 p (by omega) (by omega)]; exact hp0
  obtain ⟨lq, r3, g3, lr3, d1, d2, d3⟩ := a3.live h100.2 hu a2
  have hvb := (hw.1.2.2.2 u hu).1
  have l1 := lab1 tp (by omega)
  have l2 := lab1 tr (by omega)
  have l3 := lab1 tx (by omega)
  have ln : ow1 np' = L := a3.2.2.2.1
  have hcp := copy_v (G := (va_up G1.1 tp (some (tcl 0 0 tr)), G1.2)) e3 (b := q) (q := r3) (lab_ne (ow := ow1) (by omega)) (lab_ne (ow := ow1) (by omega)) (lab_ne (ow := ow1) (by omega)) (lab_ne (ow := ow1) (by omega)) v g (w.1.2.2.2 u).1 g3 (by show va_up G1.1 tp _ q = _; rw [up_ne _ _ (lab_ne (ow := ow1) (by omega))]; exact d1) (by show va_up G1.1 tp _ r3 = _; rw [up_ne _ _ (lab_ne (ow := ow1) (by omega))]; exact d2) (by unfold VBn at hvb; omega)
  have hid1 := th_id e1 e2 e3 0 0 v g t1 t2 t3
  have hcp2 : (f_X3_copyFrom tr q).1 G1 = some ((), TH G1 tp tr tx 0 0 (w.1.2.2.2 u).1 (cpR g g3 (sz (w.1.2.2.2 u)).toNat)) := by
    have e : (f_X3_copyFrom tr q).1 G1 = (f_X3_copyFrom tr q).1 (TH G1 tp tr tx 0 0 v g) := by rw [hid1]
    rw [e]
    exact hcp
  have hkv := wt_kv hw
  have hm : t.2.2.2.1 ≤ 50 := by omega
  have hkv' : KV t.2.2.2.1 t.2.2.2.2.1 t.2.2.2.2.2 := fun j hj => by
    rw [(s8 j hj).1, (s8 j hj).2]
    exact hkv.2 j (by omega)
  have o0 := s1 0 (by decide)
  have o4 := s1 4 (by decide)
  have o5 := s1 5 (by decide)
  have q0 : G1.1 (ads 0) = some (sob ads (tz n t)) := by rw [keep1 _ (by omega) (by omega), out _ (by omega)]; exact s4
  have q4 : G1.1 (ads 4) = some (icz 50 t.2.2.2.2.1) := by rw [keep1 _ (by omega) (by omega), out _ (by omega)]; exact s5
  have q5 : G1.1 (ads 5) = some (icz 50 t.2.2.2.2.2) := by rw [keep1 _ (by omega) (by omega), out _ (by omega)]; exact s6
  have z0 := lab1 (ads 0) (by omega)
  have z4 := lab1 (ads 4) (by omega)
  have z5 := lab1 (ads 5) (by omega)
  have ho : ∀ x, (x = ads 0 ∨ x = ads 4 ∨ x = ads 5 ∨ x = np') → x ≠ tp ∧ x ≠ tr ∧ x ≠ tx := by
    intro x hx
    rcases hx with e | e | e | e <;> subst e <;> exact ⟨lab_ne (ow := ow1) (by omega), lab_ne (ow := ow1) (by omega), lab_ne (ow := ow1) (by omega)⟩
  have hdep := dep_b hw.1 hu
  obtain ⟨most, hmost⟩ : ∃ most, most = min t.2.2.2.1 (100 - w.1.2.2.1) := ⟨_, rfl⟩
  obtain ⟨v2, g2, hl⟩ := pl_loop (G := G1) e1 e2 e3 hw.1 hm hkv' hr q0 q4 q5 a3.1 ho (most := most) (by omega) most FU 0 0 0 (w.1.2.2.2 u).1 (cpR g g3 (sz (w.1.2.2.2 u)).toNat) (by omega) (by unfold FU; omega) hvb (fun j hj => by
    rw [cpR_ok _ _ _ _ (by unfold sz; omega), d3 j hj]
    exact (hw.1.2.2.2 u hu).2.1 j hj) (by omega) (by omega) (by omega)
  have hset := si_set0 hw.1 hr
  have hpd := pl_dA hkv' t.2.2.2.1 0 (sSet w.1 0 r) u ((w.1.2.2.2 u).1 0) (cpR g g3 (sz (w.1.2.2.2 u)).toNat) 0 0 (by omega) hset hu (fun j hj => by
    rw [cpR_ok _ _ _ _ (by have hj' : (j : Int) < sz (w.1.2.2.2 u) := hj; omega), d3 j hj]
    rfl) (by decide)
  have eall : dA t.2.2.2.2.1 t.2.2.2.2.2 t.2.2.2.1 0 (sSet w.1 0 r) u = allF (sSet w.1 0 r) (wT w).2 u := by
    unfold allF
    rw [s7] at s8 ⊢
    exact dA_congr (m := (wT w).2.2.2.2.1) (fun j hj => ⟨(s8 j hj).1, fun _ => (s8 j hj).2⟩) _ _ _ _ (by omega)
  have hsi := dA_si hkv' t.2.2.2.1 0 (sSet w.1 0 r) u (by omega) hset hu
  have hn0 := dA_n t.2.2.2.2.1 t.2.2.2.2.2 t.2.2.2.1 0 (sSet w.1 0 r) u
  rw [eall] at hpd hsi hn0
  have hmx := mxC_b hsi w.1.2.2.1 (allF (sSet w.1 0 r) (wT w).2 u).2 (by have e : (sSet w.1 0 r).2.2.1 = w.1.2.2.1 := rfl; rw [e] at hn0; omega)
  rw [show va_up ((sSet w.1 0 r).2.2.2 u).1 0 ((w.1.2.2.2 u).1 0) = (w.1.2.2.2 u).1 from up_same rfl, Nat.sub_zero, show (sSet w.1 0 r).1 = r from rfl, show (sSet w.1 0 r).2.1 = w.1.2.1 from rfl, show (sSet w.1 0 r).2.2.1 = w.1.2.2.1 from rfl, ← hmost, Int.zero_add, show max 0 (mxC (allF (sSet w.1 0 r) (wT w).2 u).1 w.1.2.2.1 (allF (sSet w.1 0 r) (wT w).2 u).2) = mxC (allF (sSet w.1 0 r) (wT w).2 u).1 w.1.2.2.1 (allF (sSet w.1 0 r) (wT w).2 u).2 by omega] at hpd
  rw [hpd] at hl
  dsimp only at hl
  obtain ⟨f1, f2⟩ := b1.tri2 hp1 t1 t2 (stC (allF (sSet w.1 0 r) (wT w).2 u).1 w.1.2.2.1 (allF (sSet w.1 0 r) (wT w).2 u).2) (mxC (allF (sSet w.1 0 r) (wT w).2 u).1 w.1.2.2.1 (allF (sSet w.1 0 r) (wT w).2 u).2) v2 g2
  have hcw := (c1.tr b2).tr f2
  have eads : ads0 = ads 0 := by
    rw [k2] at s2
    exact Option.some.inj s2
  refine ⟨ads0, tp, sa, np', tr, _, ow1, P1, k2, eads, ⟨a, b, k6⟩, ?_, f1, hcw, ?_, ?_⟩
  · unfold f_X2_play
    have p1 : ∀ K : Unit → MM Unit, (mbind (mput tp 2 0 (.int 0)) (fun _ => mbind (mput tp 2 1 (.int 0)) K)).1 G = (K ()).1 G0 := by
      intro K
      rw [show (Value.int 0) = Value.int (iI 0) from rfl, ev_put, k6, tp0, Option.elim_some]
      have u1 : ((va_up G.1 tp (some (tcl 0 b tr)), G.2) : GH) = TH G tp tr tx 0 b v g := by
        have := th_up (G := G) e1 e2 e3 a b v g 0 b
        rw [hid] at this
        exact this
      rw [u1, ev_put, th_tp e1 e2 e3, tp1, Option.elim_some, th_up e1 e2 e3, ← hG0]
    rw [p1]
    have g0 : G0.1 tp = some (tcl 0 0 tr) := by rw [hG0]; exact th_tp e1 e2 e3 _ _ _ _
    rw [ev_gr, g0, tr2, Option.elim_some, ev_chk, n4.1.1, gis_s, if_pos rfl, mbind_ok a1, ev_chk, t2, gis_v, if_pos rfl, mbind_ok hcp2, ev_gi]
    have r0 : (TH G1 tp tr tx 0 0 (w.1.2.2.2 u).1 (cpR g g3 (sz (w.1.2.2.2 u)).toNat)).1 (ads 0) = some (sob ads (tz n t)) := by
      have hh := ho (ads 0) (Or.inl rfl)
      rw [th_out e1 e2 e3 _ _ _ _ hh.1 hh.2.1 hh.2.2]
      exact q0
    have rn : (TH G1 tp tr tx 0 0 (w.1.2.2.2 u).1 (cpR g g3 (sz (w.1.2.2.2 u)).toNat)).1 np' = some (scl w.1 va ma) := by
      have hh := ho np' (Or.inr (Or.inr (Or.inr rfl)))
      rw [th_out e1 e2 e3 _ _ _ _ hh.1 hh.2.1 hh.2.2]
      exact a3.1
    rw [r0, show gint (some (sob ads (tz n t))) 0 1 = some (iI t.2.2.2.1) from rfl, Option.elim_some, ev_chk, rn, gis_s, if_pos rfl]
    have hleft : (f_X1_left np').1 (TH G1 tp tr tx 0 0 (w.1.2.2.2 u).1 (cpR g g3 (sz (w.1.2.2.2 u)).toNat)) = some (iI (100 - w.1.2.2.1), TH G1 tp tr tx 0 0 (w.1.2.2.2 u).1 (cpR g g3 (sz (w.1.2.2.2 u)).toNat)) := by
      unfold f_X1_left
      rw [ev_gi, rn, gi_s0, Option.elim_some, lz100, iI_sub]
      rfl
    rw [mbind_ok hleft, iI_min (by omega) (by omega) (by omega) (by omega), show min (t.2.2.2.1 : Int) (100 - w.1.2.2.1) = (most : Int) by omega, show (0 : Int32) = iI ((0 : Nat) : Int) from rfl]
    exact hl
  · have hh := k1
    rw [th_out e1 e2 e3 _ _ _ _ (lab_ne (ow := ow) (by omega)) (lab_ne (ow := ow) (by omega)) (lab_ne (ow := ow) (by omega))]
    exact hp1
  · rw [th_tp e1 e2 e3]
    rfl
