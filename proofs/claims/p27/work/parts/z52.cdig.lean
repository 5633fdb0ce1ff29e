/-! PURE PART 52: the class's digest -/
theorem dgR_congr {g g' : Nat → Int} : ∀ (d k : Nat) (h : Int64), (∀ j, k ≤ j → j < k + d → g j = g' j) → dgR g d k h = dgR g' d k h
  | 0, _, _, _ => rfl
  | d + 1, k, h, e => by
    unfold dgR
    rw [e k (by omega) (by omega), dgR_congr d (k + 1) _ (fun j a b => e j (by omega) (by omega))]
theorem mw38 {G : GH} {q : Nat} {r : Nat} {v : Nat → Int} {g : Nat → Int} (h1 : G.1 q = some (vcl v r)) (h2 : G.1 r = some (icz 40 g)) {n : Nat} (hn : n ≤ 40) : ∀ (d fu k : Nat) (h : Int64), k + d = n → d < fu → (f_X4_mixedWith_38 fu q h (iI n) (iI k)).1 G = some (dgR g d k h, G)
  | _, 0, _, _, _, h => absurd h (by omega)
  | 0, fu + 1, k, h, e, _ => by
    rw [f_X4_mixedWith_38, if_pos (by rw [iI_le (by omega) (by omega) (by omega) (by omega)]; omega)]
    rfl
  | d + 1, fu + 1, k, h, e, hf => by
    have ih := mw38 h1 h2 hn d fu (k + 1) (dmx h (g k)) (by omega) (by omega)
    rw [f_X4_mixedWith_38, if_neg (by rw [iI_le (by omega) (by omega) (by omega) (by omega)]; omega), ev_chk, h1, gis_v, if_pos rfl, mbind_ok (look_run h1 h2 (z := (k : Int)) (by omega) (by omega)), show ((k : Int)).toNat = k by omega, show iI (k : Int) + 1 = iI ((k + 1 : Nat) : Int) by rw [lz1, iI_add]; rfl]
    exact ih
theorem mw5 {G : GH} {q : Nat} {r : Nat} {v : Nat → Int} {g : Nat → Int} (h1 : G.1 q = some (vcl v r)) (h2 : G.1 r = some (icz 40 g)) (hv : 0 ≤ v 4 + v 5 ∧ v 4 + v 5 ≤ 40) : ∀ (d fu k : Nat) (h : Int64), k + d = 10 → d < fu → (f_X4_mixedWith_5 fu q h (iI k)).1 G = some (dgR g (v 4 + v 5).toNat 0 (dgF v d k h), G)
  | _, 0, _, _, _, h => absurd h (by omega)
  | 0, fu + 1, k, h, e, _ => by
    have e38 := mw38 h1 h2 (n := (v 4 + v 5).toNat) (by omega) (v 4 + v 5).toNat FU 0 h (by omega) (by unfold FU; omega)
    rw [show iI ((0 : Nat) : Int) = 0 from rfl, show (((v 4 + v 5).toNat : Nat) : Int) = v 4 + v 5 by omega] at e38
    rw [f_X4_mixedWith_5, if_pos (by rw [lz10, iI_le (by omega) (by omega) (by omega) (by omega)]; omega), ev_chk, h1, gis_v, if_pos rfl, mbind_ok (size_run h1)]
    exact e38
  | d + 1, fu + 1, k, h, e, hf => by
    have ih := mw5 h1 h2 hv d fu (k + 1) (dmx h (fct v k)) (by omega) (by omega)
    rw [f_X4_mixedWith_5, if_neg (by rw [lz10, iI_le (by omega) (by omega) (by omega) (by omega)]; omega), ev_chk, h1, gis_v, if_pos rfl, mbind_ok (fact_run h1 (k := (k : Int)) (by omega)), show iI (k : Int) + 1 = iI ((k + 1 : Nat) : Int) by rw [lz1, iI_add]; rfl]
    exact ih
theorem mw_run {G : GH} {q : Nat} {r : Nat} {v : Nat → Int} {g : Nat → Int} (h1 : G.1 q = some (vcl v r)) (h2 : G.1 r = some (icz 40 g)) (hv : 0 ≤ v 4 + v 5 ∧ v 4 + v 5 ≤ 40) (h : Int64) : (f_X4_mixedWith h q).1 G = some (dgR g (v 4 + v 5).toNat 0 (dgF v 10 0 h), G) := by
  have e := mw5 h1 h2 hv 10 FU 0 h (by decide) (by decide)
  rw [show iI ((0 : Nat) : Int) = 0 from rfl] at e
  exact e
theorem d69_c {p : Nat} {w : WW} (hw : WI w) : ∀ (d fu i : Nat) (G : GH) (ow : Nat → Nat) (P : Nat) (h : Int64), i + d = w.1.2.2.1 → d < fu → RepC G ow p w P → RC (f_X4_digest_69 fu p h (iI i)) G ow p w P (dmx (dgV w.1 d i h) w.2.2.1) w 0
  | _, 0, _, _, _, _, _, _, h, _ => absurd h (by omega)
  | 0, fu + 1, i, G, ow, P, h, e, _, hR => by
    have h100 := hw.1.2.2.1
    obtain ⟨ads0, tp, sa, L, np, va, ma, refs, a1, a2, a3, a4, a5⟩ := hR.now
    rw [f_X4_digest_69]
    refine rc_eq (rc_pure (x := dmx (dgV w.1 0 i h) w.2.2.1) hR) ?_
    rw [rc_held hR, if_pos (by rw [iI_le (by omega) (by omega) (by omega) (by omega)]; omega), ev_gi, a3, xg4, Option.elim_some]
    rfl
  | d + 1, fu + 1, i, G, ow, P, h, e, hf, hR => by
    have h100 := hw.1.2.2.1
    rw [f_X4_digest_69]
    obtain ⟨K, hK⟩ : ∃ K : Int64 → MM Int64, K = (fun r16 => f_X4_digest_69 fu p r16 (iI i + 1)) := ⟨_, rfl⟩
    refine rc_eq (F' := mbind (mgr p 4 3) (fun r => mbind (mchk r 1) (fun _ => mbind (mbind (f_X1_slot r (iI i)) (fun r15 => f_X4_mixedWith h r15)) K))) ?_ (by
      rw [rc_held hR, if_neg (by rw [iI_le (by omega) (by omega) (by omega) (by omega)]; omega), hK]
      simp only [mb_assoc])
    refine rc_ro hR (T := fun r => mbind (f_X1_slot r (iI i)) (fun r15 => f_X4_mixedWith h r15)) (x := dgR (w.1.2.2.2 i).2 (sz (w.1.2.2.2 i)).toNat 0 (dgF (w.1.2.2.2 i).1 10 0 h)) (fun L np va ma refs hL hx => ?_) (fun G2 ow2 P2 h2 => ?_)
    · refine ro_slot (by omega) hw.1 hx (by omega) (fun G2 ow2 refs2 q r g h2' _ _ m3 m4 m5 _ => ro_of h2' ?_)
      have hvb := (hw.1.2.2.2 i (by omega)).1
      unfold VBn at hvb
      rw [mw_run m3 m4 (by omega) h]
      unfold sz
      rw [dgR_congr (g := g) (g' := (w.1.2.2.2 i).2) _ _ _ (fun j _ hj => m5 j (by unfold sz; omega))]
    · rw [hK]
      dsimp only
      rw [show iI (i : Int) + 1 = iI ((i + 1 : Nat) : Int) by rw [lz1, iI_add]; rfl]
      exact d69_c hw d fu (i + 1) G2 ow2 P2 _ (by omega) (by omega) h2
theorem d16_c {p : Nat} {w : WW} (hw : WI w) : ∀ (d fu k : Nat) (G : GH) (ow : Nat → Nat) (P : Nat) (h : Int64), k + d = 8 → d < fu → RepC G ow p w P → RC (f_X4_digest_16 fu p h (iI k)) G ow p w P (dmx (dgV w.1 w.1.2.2.1 0 (dmx (dmx (dgT w.1 d k h) w.1.1) w.1.2.1)) w.2.2.1) w 0
  | _, 0, _, _, _, _, _, _, h, _ => absurd h (by omega)
  | 0, fu + 1, k, G, ow, P, h, e, _, hR => by
    have h100 := hw.1.2.2.1
    rw [f_X4_digest_16, if_pos (by rw [lz8, iI_le (by omega) (by omega) (by omega) (by omega)]; omega)]
    refine rc_ro hR (T := fun r => f_X1_settingOf r 0) (x := iI w.1.1) (fun L np va ma refs hL hx => ro_of hx (by
      have := setg_run (by omega) hw.1 hx (k := 0) (Or.inl rfl)
      rw [if_pos rfl] at this
      exact this)) (fun G2 ow2 P2 h2 => ?_)
    refine rc_ro (K := fun x8 => mbind (f_X4_mixed (dmx h w.1.1) x8) (fun r9 => f_X4_digest_69 FU p r9 0)) h2 (T := fun r => f_X1_settingOf r 1) (x := iI w.1.2.1) (fun L np va ma refs hL hx => ro_of hx (by
      have := setg_run (by omega) hw.1 hx (k := 1) (Or.inr rfl)
      rw [if_neg (by decide)] at this
      exact this)) (fun G3 ow3 P3 h3 => ?_)
    have e69 := d69_c hw w.1.2.2.1 FU 0 G3 ow3 P3 (dmx (dmx h w.1.1) w.1.2.1) (by omega) (by unfold FU; omega) h3
    rw [show iI ((0 : Nat) : Int) = 0 from rfl] at e69
    exact e69
  | d + 1, fu + 1, k, G, ow, P, h, e, hf, hR => by
    rw [f_X4_digest_16, if_neg (by rw [lz8, iI_le (by omega) (by omega) (by omega) (by omega)]; omega)]
    refine rc_ro hR (T := fun r => f_X1_total r (iI k)) (x := iI (totF w.1 k)) (fun L np va ma refs hL hx => tot_run (by omega) hw.1 hx (by omega)) (fun G2 ow2 P2 h2 => ?_)
    have ih := d16_c hw d fu (k + 1) G2 ow2 P2 (dmx h (totF w.1 k)) (by omega) (by omega) h2
    rw [show iI ((k + 1 : Nat) : Int) = iI (k : Int) + 1 by rw [lz1, iI_add]; rfl] at ih
    exact ih
theorem c_digest {G : GH} {ow : Nat → Nat} {p : Nat} {w : WW} {P : Nat} (hw : WI w) (h : RepC G ow p w P) : RT (f_X4_digest p) G ow p w P (dgW w) w 0 := by
  obtain ⟨ads, tp, sa, np, bt, t, h1, h2, h3, h4, h5, h6, h7, h8⟩ := h.txt
  have e16 := (d16_c hw 8 FU 0 G ow P (dmx 3767 w.2.2.2.1) (by decide) (by decide) h).rt
  rw [show iI ((0 : Nat) : Int) = 0 from rfl] at e16
  refine rt_eq e16 ?_
  unfold f_X4_digest
  have e0 : ∀ K : Int32 → MM Int64, (mbind (mgi (ads 0) 0 0) K).1 G = (K (iI w.2.2.2.1)).1 G := fun K => by
    have q := sh_g0 (G := G) h1 (w.2.2.2.1 : Int) bt t K
    rw [h5] at q
    exact q
  rw [ev_gr, h4, xr0, Option.elim_some, e0]
  rfl
