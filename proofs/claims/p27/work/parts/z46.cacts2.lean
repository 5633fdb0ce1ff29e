/-! PURE PART 46: set, push, pop, drop, clear, undo of the class -/
/-- the head of a state's cell is written -/
theorem sx_hdr {G : GH} {ow : Nat → Nat} {L p va ma : Nat} {refs : Nat → Option Nat} {s : SS} (h : SX G ow L p va ma refs s) (hL : 0 < L) {x y : Int} {n : Nat} (hn : n ≤ s.2.2.1) : SX (va_up G.1 p (some (scl (x, y, n, s.2.2.2) va ma)), G.2) ow L p va ma refs (x, y, n, s.2.2.2) ∧ SP L G ow refs (va_up G.1 p (some (scl (x, y, n, s.2.2.2) va ma)), G.2) ow refs := by
  obtain ⟨⟨k1, ⟨mk, k2⟩, k3, k4, k5, k6, k7, k8⟩, hg⟩ := h
  have keep : ∀ (c : LE) a, ow a ≠ L → va_up G.1 p (some c) a = G.1 a := fun c a ha => up_ne _ _ (fun e => ha (by rw [e, k4]))
  refine ⟨⟨⟨up_self _ _ _, ⟨mk, ?_⟩, ?_, k4, k5, k6, fun i hi q hq => ?_, fun i hi hq => k8 i (Nat.lt_of_lt_of_le hi hn) hq⟩, hg⟩, SP.loc hg (fun a ha hl => keep _ a (by omega))⟩
  · show va_up G.1 p _ ma = _
    rw [keep _ ma (by omega), k2]
  · show va_up G.1 p _ va = _
    rw [keep _ va (by omega), k3]
  · obtain ⟨m1, r, v, g, m2, m3, m4, m5⟩ := k7 i hi q hq
    refine ⟨m1, r, v, g, m2, ?_, ?_, fun hl => m5 (Nat.lt_of_lt_of_le hl hn)⟩
    · show va_up G.1 p _ q = _
      rw [keep _ q (by omega), m3]
    · show va_up G.1 p _ r = _
      rw [keep _ r (by omega), m4]
theorem rc_det {α β : Type} {G : GH} {ow : Nat → Nat} {p : Nat} {w : WW} {P : Nat} {F : MM α} {K : α → MM β} {x : α} {y : β} {w' : WW} {e : Nat} (q : F.1 G = some (x, G)) (k : RC (K x) G ow p w P y w' e) : RC (mbind F K) G ow p w P y w' e := rc_eq k (mbind_ok q)
theorem rc_chg {G : GH} {ow : Nat → Nat} {p : Nat} {w : WW} {P : Nat} (h : RepC G ow p w P) {α : Type} {T : Nat → MM α} {y : α} {s' : SS} (k : ∀ L np va ma refs ads0 tp sa, 1000 ≤ L → ow p = 1 → G.1 p = some (xcl ads0 tp sa np w.2.2.1) → SX G ow L np va ma refs w.1 → ∃ G' ow' refs', (T np).1 G = some (y, G') ∧ SX G' ow' L np va ma refs' s' ∧ SP L G ow refs G' ow' refs') : RC (mbind (mgr p 4 3) T) G ow p w P y (s', w.2) 0 := by
  obtain ⟨ads0, tp, sa, L, np, va, ma, refs, a1, a2, a3, a4, a5⟩ := h.now
  obtain ⟨G', ow', refs', b1, b2, b3⟩ := k L np va ma refs ads0 tp sa a1 a2 a3 a4
  obtain ⟨P', c1, c2⟩ := a5 G' ow' refs' s' b2 b3
  refine ⟨G', ow', P', ?_, c1, c2⟩
  rw [ev_gr, a3]
  exact b1
theorem rc_held {G : GH} {ow : Nat → Nat} {p : Nat} {w : WW} {P : Nat} (h : RepC G ow p w P) {α : Type} (K : Int32 → MM α) : (mbind (mgr p 4 3) (fun r => mbind (mgi r 1 0) K)).1 G = (K (iI w.1.2.2.1)).1 G := by
  obtain ⟨ads0, tp, sa, L, np, va, ma, refs, a1, a2, a3, a4, a5⟩ := h.now
  rw [ev_gr, a3, xr3, Option.elim_some, ev_gi, a4.1.1, gi_s0, Option.elim_some]
theorem isSet_run {G : GH} {ow : Nat → Nat} {p : Nat} {w : WW} {P : Nat} (hw : WI w) (h : RepC G ow p w P) {k x : Int} (hk : irg k) (hx : irg x) : (f_X4_isSettingValue (iI k) (iI x)).1 G = some (iI (b2i (okS k x)), G) := by
  have hk' := hk
  have hx' := hx
  unfold irg at hk' hx'
  have hrate : ∀ H : GH, (f_X4_isRate (iI x)).1 H = some (iI (b2i (decide (1 ≤ x ∧ x ≤ 9))), H) := by
    intro H
    unfold f_X4_isRate
    by_cases h1 : x < 1
    · rw [if_pos (by rw [lz1, iI_lt (by omega) (by omega) (by omega) (by omega)]; exact h1), decide_eq_false (by omega)]
      rfl
    · rw [if_neg (by rw [lz1, iI_lt (by omega) (by omega) (by omega) (by omega)]; exact h1)]
      by_cases h2 : 9 < x
      · rw [if_pos (by rw [lz9, iI_lt (by omega) (by omega) (by omega) (by omega)]; exact h2), decide_eq_false (by omega)]
        rfl
      · rw [if_neg (by rw [lz9, iI_lt (by omega) (by omega) (by omega) (by omega)]; exact h2), decide_eq_true (by omega)]
        rfl
  have hratio : ∀ H : GH, (f_X4_isRatio (iI x)).1 H = some (iI (b2i (decide (2 ≤ x ∧ x ≤ 5))), H) := by
    intro H
    unfold f_X4_isRatio
    by_cases h1 : x < 2
    · rw [if_pos (by rw [lz2, iI_lt (by omega) (by omega) (by omega) (by omega)]; exact h1), decide_eq_false (by omega)]
      rfl
    · rw [if_neg (by rw [lz2, iI_lt (by omega) (by omega) (by omega) (by omega)]; exact h1)]
      by_cases h2 : 5 < x
      · rw [if_pos (by rw [lz5, iI_lt (by omega) (by omega) (by omega) (by omega)]; exact h2), decide_eq_false (by omega)]
        rfl
      · rw [if_neg (by rw [lz5, iI_lt (by omega) (by omega) (by omega) (by omega)]; exact h2), decide_eq_true (by omega)]
        rfl
  unfold f_X4_isSettingValue okS
  by_cases h0 : k = 0
  · rw [if_pos (show iI k = 0 by rw [h0]; rfl), mbind_ok (hrate _)]
    by_cases h1 : 1 ≤ x ∧ x ≤ 9
    · rw [decide_eq_true h1, if_neg (show ¬ iI (b2i true) = 0 by decide), decide_eq_true (by omega)]
      rfl
    · rw [decide_eq_false h1, if_pos (show iI (b2i false) = 0 from rfl), if_neg (show ¬ iI k = 1 by rw [h0]; decide), decide_eq_false (by omega)]
      rfl
  · rw [if_neg (show ¬ iI k = 0 by rw [lz0, iI_eq (by omega) (by omega) (by omega) (by omega)]; exact h0)]
    by_cases h2 : k = 1
    · rw [if_pos (show iI k = 1 by rw [h2]; rfl), mbind_ok (hratio _)]
      by_cases h1 : 2 ≤ x ∧ x ≤ 5
      · rw [decide_eq_true h1, if_neg (show ¬ iI (b2i true) = 0 by decide), decide_eq_true (by omega)]
        rfl
      · rw [decide_eq_false h1, if_pos (show iI (b2i false) = 0 from rfl), decide_eq_false (by omega)]
        rfl
    · rw [if_neg (show ¬ iI k = 1 by rw [lz1, iI_eq (by omega) (by omega) (by omega) (by omega)]; exact h2), decide_eq_false (by omega)]
      rfl
theorem c_set {G : GH} {ow : Nat → Nat} {p : Nat} {w : WW} {P : Nat} (hw : WI w) (h : RepC G ow p w P) {k x : Int} (hk : irg k) (hx : irg x) : RC (f_X4_set p (iI k) (iI x)) G ow p w P (yr (if okS k x = true then 0 else 1) exA exA exA (if okS k x = true then (if k = 0 then w.1.1 else w.1.2.1) else 0)) (if okS k x = true then wSave w (sSet w.1 k x) else w) (ye (if okS k x = true then 0 else 1)) := by
  have hk' := hk
  have hx' := hx
  unfold irg at hk' hx'
  have hi := isSet_run (G := G) hw h hk hx
  unfold f_X4_set
  by_cases ho : okS k x = true
  · have ho' := of_decide_eq_true ho
    have hk01 : k = 0 ∨ k = 1 := by omega
    rw [ho] at hi
    rw [if_pos ho, if_pos ho, if_pos ho]
    refine rc_det hi ?_
    rw [if_neg (show ¬ iI (b2i true) = 0 by decide)]
    refine rc_ck h (rc_bind0 (c_save hw h) (fun G1 ow1 P1 h1 => ?_))
    have hw1 := wi_save hw hw.1
    refine rc_ro h1 (T := fun r => f_X1_settingOf r (iI k)) (x := iI (if k = 0 then w.1.1 else w.1.2.1)) (fun L np va ma refs hL hx => ro_of hx (setg_run (by omega) hw.1 hx hk01)) (fun G2 ow2 P2 h2 => ?_)
    refine rc_chg h2 (s' := sSet w.1 k x) (fun L np va ma refs ads0 tp sa hL hp hpc hx => ?_)
    have hd := sx_hdr hx (by omega) (x := (sSet w.1 k x).1) (y := (sSet w.1 k x).2.1) (n := w.1.2.2.1) (Nat.le_refl _)
    rcases hk01 with e | e
    · subst e
      refine ⟨_, ow2, refs, ?_, hd.1, hd.2⟩
      rw [ev_chk, hx.1.1, gis_s, if_pos rfl]
      unfold f_X1_changeSetting
      rw [if_pos (show iI 0 = 0 from rfl), mb_assoc, ev_put, hx.1.1, gp_s1]
      rfl
    · subst e
      refine ⟨_, ow2, refs, ?_, hd.1, hd.2⟩
      rw [ev_chk, hx.1.1, gis_s, if_pos rfl]
      unfold f_X1_changeSetting
      rw [if_neg (show ¬ iI 1 = 0 by decide), mb_assoc, ev_put, hx.1.1, gp_s2]
      rfl
  · rw [if_neg ho, if_neg ho, if_neg ho]
    rw [Bool.not_eq_true] at ho
    rw [ho] at hi
    refine rc_det hi ?_
    rw [if_pos (show iI (b2i false) = 0 from rfl)]
    exact rc_thr h
theorem c_grow {G : GH} {ow : Nat → Nat} {p : Nat} {w : WW} {P : Nat} (hw : WI w) (h : RepC G ow p w P) {v : Nat} (hv : v < w.1.2.2.1) {kind x : Int} (hk : 0 ≤ kind ∧ kind ≤ 3) (hh : w.1.2.2.1 < 100) (hp : pmt (w.1.2.2.2 v).1 kind = true) : RC (mbind (mchk p 4) (fun _ => mbind (f_X4_save p) (fun _ => (mbind (mgr p 4 3) (fun r3 => (mbind (mchk r3 1) (fun _ => mbind (f_X1_grow r3 (iI v) (iI kind) (iI x)) (fun x4 => (mpure (.inr x4) : MX Int32))))))))) G ow p w P (.inr (iI w.1.2.2.1)) (wSave w (sGrow w.1 v kind x)) 0 := by
  refine rc_ck h (rc_bind0 (c_save hw h) (fun G1 ow1 P1 h1 => ?_))
  refine rc_chg h1 (s' := sGrow w.1 v kind x) (fun L np va ma refs ads0 tp sa hL hp' hpc hx => ?_)
  obtain ⟨G2, ow2, refs2, g1, g2, g3⟩ := grow_run (by omega) hw.1 hx hh hv hk (x := x) hp
  refine ⟨G2, ow2, refs2, ?_, g2, g3⟩
  rw [ev_chk, hx.1.1, gis_s, if_pos rfl, mbind_ok g1]
  rfl
theorem c_push {G : GH} {ow : Nat → Nat} {p : Nat} {w : WW} {P : Nat} (hw : WI w) (h : RepC G ow p w P) {a x : Int} (ha : irg a) (hx : irg x) (fr : Bool) : RC (f_X4_push p (iI a) (iI x) (iI (b2i fr))) G ow p w P (yr (tPush w.1 a x) exI exA exS (if tPush w.1 a x = 0 then (w.1.2.2.1 : Int) else 0)) (if tPush w.1 a x = 0 then wSave w (sGrow w.1 a.toNat (kPush fr) x) else w) (ye (tPush w.1 a x)) := by
  have hx' := hx
  unfold irg at hx'
  have h38 : ∀ G' ow' P', RepC G' ow' p w P' → inV w.1 a = true → (-999 ≤ x ∧ x ≤ 999) → RC (f_X4_push_38 p (iI a) (iI x) (iI (kPush fr))) G' ow' p w P' (yr (tPush w.1 a x) exI exA exS (if tPush w.1 a x = 0 then (w.1.2.2.1 : Int) else 0)) (if tPush w.1 a x = 0 then wSave w (sGrow w.1 a.toNat (kPush fr) x) else w) (ye (tPush w.1 a x)) := by
    intro G' ow' P' h' h1 h2
    have h1' : 0 ≤ a ∧ a < w.1.2.2.1 := of_decide_eq_true h1
    have ea : iI a = iI ((a.toNat : Nat) : Int) := by congr 1; omega
    have hkp : 0 ≤ kPush fr ∧ kPush fr ≤ 3 := by unfold kPush; split <;> decide
    have hk2 : kPush fr < 2 := by unfold kPush; split <;> decide
    have hpm : pmt (w.1.2.2.2 a.toNat).1 (kPush fr) = decide (sz (w.1.2.2.2 a.toNat) < 40) := by
      unfold pmt
      rw [if_pos hk2]
      rfl
    unfold f_X4_push_38
    rw [ea]
    refine rc_ro h' (T := fun r => f_X1_allows r (iI ((a.toNat : Nat) : Int)) (iI (kPush fr))) (fun L np va ma refs hL hx => allows_run (by omega) hw.1 hx (by omega) hkp) (fun G2 ow2 P2 h2' => ?_)
    by_cases h3 : sz (w.1.2.2.2 a.toNat) < 40 ∧ w.1.2.2.1 < 100
    · have hp : pmt (w.1.2.2.2 a.toNat).1 (kPush fr) = true := by rw [hpm]; exact decide_eq_true h3.1
      rw [show tPush w.1 a x = 0 by unfold tPush; rw [if_pos h1, if_pos h2, if_pos h3], if_pos rfl, if_pos rfl, hp, decide_eq_true h3.2, if_neg (show ¬ iI (b2i (true && true)) = 0 by decide)]
      exact c_grow hw h2' (by omega) hkp h3.2 hp
    · have hf : (decide (w.1.2.2.1 < 100) && pmt (w.1.2.2.2 a.toNat).1 (kPush fr)) = false := by
        rw [hpm, Bool.and_eq_false_iff]
        by_cases h4 : w.1.2.2.1 < 100
        · exact Or.inr (decide_eq_false (fun hh => h3 ⟨hh, h4⟩))
        · exact Or.inl (decide_eq_false h4)
      rw [show tPush w.1 a x = 3 by unfold tPush; rw [if_pos h1, if_pos h2, if_neg h3], if_neg (show ¬ (3 : Int) = 0 by decide), if_neg (show ¬ (3 : Int) = 0 by decide), hf, if_pos (show iI (b2i false) = 0 from rfl)]
      exact rc_thr h2'
  unfold f_X4_push
  refine rc_ck h ?_
  by_cases h1 : inV w.1 a = true
  · refine rc_xin (rc_rv1 hw h ha h1) (fun G' ow' P' h' => ?_)
    by_cases h2 : -999 ≤ x ∧ x ≤ 999
    · rw [if_neg (by rw [show (-999 : Int32) = iI (-999) from rfl, iI_lt (by omega) (by omega) (by omega) (by omega)]; omega), if_pos (by rw [show (999 : Int32) = iI 999 from rfl, iI_le (by omega) (by omega) (by omega) (by omega)]; omega)]
      cases fr with
      | false =>
        rw [if_pos (show iI (b2i false) = 0 from rfl)]
        exact h38 G' ow' P' h' h1 h2
      | true =>
        rw [if_neg (show ¬ iI (b2i true) = 0 by decide)]
        exact h38 G' ow' P' h' h1 h2
    · rw [show tPush w.1 a x = 2 by unfold tPush; rw [if_pos h1, if_neg h2], if_neg (show ¬ (2 : Int) = 0 by decide), if_neg (show ¬ (2 : Int) = 0 by decide)]
      by_cases h3 : x < -999
      · rw [if_pos (by rw [show (-999 : Int32) = iI (-999) from rfl, iI_lt (by omega) (by omega) (by omega) (by omega)]; omega)]
        exact rc_thr h'
      · rw [if_neg (by rw [show (-999 : Int32) = iI (-999) from rfl, iI_lt (by omega) (by omega) (by omega) (by omega)]; omega), if_neg (by rw [show (999 : Int32) = iI 999 from rfl, iI_le (by omega) (by omega) (by omega) (by omega)]; omega)]
        exact rc_thr h'
  · rw [show tPush w.1 a x = 1 by unfold tPush; rw [if_neg h1], if_neg (show ¬ (1 : Int) = 0 by decide), if_neg (show ¬ (1 : Int) = 0 by decide)]
    rw [Bool.not_eq_true] at h1
    exact rc_xout (rc_rv0 hw h ha h1)
theorem c_pop {G : GH} {ow : Nat → Nat} {p : Nat} {w : WW} {P : Nat} (hw : WI w) (h : RepC G ow p w P) {a : Int} (ha : irg a) (fr : Bool) : RC (f_X4_pop p (iI a) (iI (b2i fr))) G ow p w P (yr (tPop w.1 a) exI exN exS (if tPop w.1 a = 0 then (w.1.2.2.1 : Int) else 0)) (if tPop w.1 a = 0 then wSave w (sGrow w.1 a.toNat (kPop fr) 0) else w) (ye (tPop w.1 a)) := by
  have h38 : ∀ G' ow' P', RepC G' ow' p w P' → inV w.1 a = true → 0 < sz (w.1.2.2.2 a.toNat) → RC (f_X4_pop_38 p (iI a) (iI (kPop fr))) G' ow' p w P' (yr (tPop w.1 a) exI exN exS (if tPop w.1 a = 0 then (w.1.2.2.1 : Int) else 0)) (if tPop w.1 a = 0 then wSave w (sGrow w.1 a.toNat (kPop fr) 0) else w) (ye (tPop w.1 a)) := by
    intro G' ow' P' h' h1 h2
    have h1' : 0 ≤ a ∧ a < w.1.2.2.1 := of_decide_eq_true h1
    have ea : iI a = iI ((a.toNat : Nat) : Int) := by congr 1; omega
    have hkp : 0 ≤ kPop fr ∧ kPop fr ≤ 3 := by unfold kPop; split <;> decide
    have hk2 : ¬ kPop fr < 2 := by unfold kPop; split <;> decide
    have hpm : pmt (w.1.2.2.2 a.toNat).1 (kPop fr) = true := by
      unfold pmt
      rw [if_neg hk2]
      exact decide_eq_true h2
    unfold f_X4_pop_38
    rw [ea]
    refine rc_ro h' (T := fun r => f_X1_allows r (iI ((a.toNat : Nat) : Int)) (iI (kPop fr))) (fun L np va ma refs hL hx => allows_run (by omega) hw.1 hx (by omega) hkp) (fun G2 ow2 P2 h2' => ?_)
    rw [hpm]
    by_cases h3 : w.1.2.2.1 < 100
    · rw [show tPop w.1 a = 0 by unfold tPop; rw [if_pos h1, if_pos h2, if_pos h3], if_pos rfl, if_pos rfl, decide_eq_true h3, if_neg (show ¬ iI (b2i (true && true)) = 0 by decide)]
      exact c_grow hw h2' (x := 0) (by omega) hkp h3 hpm
    · rw [show tPop w.1 a = 3 by unfold tPop; rw [if_pos h1, if_pos h2, if_neg h3], if_neg (show ¬ (3 : Int) = 0 by decide), if_neg (show ¬ (3 : Int) = 0 by decide), decide_eq_false h3, if_pos (show iI (b2i (false && true)) = 0 from rfl)]
      exact rc_thr h2'
  unfold f_X4_pop
  refine rc_ck h ?_
  by_cases h1 : inV w.1 a = true
  · have h1' : 0 ≤ a ∧ a < w.1.2.2.1 := of_decide_eq_true h1
    have ea : iI a = iI ((a.toNat : Nat) : Int) := by congr 1; omega
    have hvb := (hw.1.2.2.2 a.toNat (by omega)).1
    unfold VBn at hvb
    refine rc_xin (rc_rv1 hw h ha h1) (fun G' ow' P' h' => ?_)
    obtain ⟨K, hK⟩ : ∃ K : Int32 → MX Int32, K = (fun x3 => (if x3 = 0 then (mthrow "java/util/NoSuchElementException") else (if iI (b2i fr) = 0 then (f_X4_pop_38 p (iI a) 3) else (f_X4_pop_38 p (iI a) 2)))) := ⟨_, rfl⟩
    refine rc_eq (F' := mbind (mgr p 4 3) (fun r => mbind (mchk r 1) (fun _ => mbind (mbind (f_X1_slot r (iI a)) (fun r2 => mbind (mchk r2 3) (fun _ => f_X3_size r2))) K))) ?_ (by rw [hK]; simp only [mb_assoc])
    refine rc_ro h' (T := fun r => mbind (f_X1_slot r (iI a)) (fun r2 => mbind (mchk r2 3) (fun _ => f_X3_size r2))) (x := iI (sz (w.1.2.2.2 a.toNat))) (fun L np va ma refs hL hx => ?_) (fun G2 ow2 P2 h2' => ?_)
    · rw [ea]
      refine ro_slot (by omega) hw.1 hx (by omega) (fun G2 ow2 refs2 q r g h2' _ _ m3 m4 m5 _ => ro_of h2' ?_)
      rw [ev_chk, m3, gis_v, if_pos rfl]
      exact size_run m3
    · rw [hK]
      dsimp only
      by_cases h2 : 0 < sz (w.1.2.2.2 a.toNat)
      · have h2'' := h2
        unfold sz at h2''
        rw [if_neg (show ¬ iI (sz (w.1.2.2.2 a.toNat)) = 0 by unfold sz; rw [lz0, iI_eq (by omega) (by omega) (by omega) (by omega)]; omega)]
        cases fr with
        | false =>
          rw [if_pos (show iI (b2i false) = 0 from rfl)]
          exact h38 G2 ow2 P2 h2' h1 h2
        | true =>
          rw [if_neg (show ¬ iI (b2i true) = 0 by decide)]
          exact h38 G2 ow2 P2 h2' h1 h2
      · have h2'' := h2
        unfold sz at h2''
        rw [if_pos (show iI (sz (w.1.2.2.2 a.toNat)) = 0 by unfold sz; rw [lz0, iI_eq (by omega) (by omega) (by omega) (by omega)]; omega), show tPop w.1 a = 2 by unfold tPop; rw [if_pos h1, if_neg h2], if_neg (show ¬ (2 : Int) = 0 by decide), if_neg (show ¬ (2 : Int) = 0 by decide)]
        exact rc_thr h2'
  · rw [show tPop w.1 a = 1 by unfold tPop; rw [if_neg h1], if_neg (show ¬ (1 : Int) = 0 by decide), if_neg (show ¬ (1 : Int) = 0 by decide)]
    rw [Bool.not_eq_true] at h1
    exact rc_xout (rc_rv0 hw h ha h1)
theorem c_drop {G : GH} {ow : Nat → Nat} {p : Nat} {w : WW} {P : Nat} (hw : WI w) (h : RepC G ow p w P) : RC (f_X4_drop p) G ow p w P (yr (if 1 < w.1.2.2.1 then 0 else 1) exS exS exS (if 1 < w.1.2.2.1 then (w.1.2.2.1 : Int) - 1 else 0)) (if 1 < w.1.2.2.1 then wSave w (sHeld w.1 (w.1.2.2.1 - 1)) else w) (ye (if 1 < w.1.2.2.1 then 0 else 1)) := by
  have h100 := hw.1.2.2.1
  unfold f_X4_drop
  refine rc_eq (F' := if 1 < iI (w.1.2.2.1 : Int) then (mbind (mchk p 4) (fun _ => mbind (f_X4_save p) (fun _ => (mbind (mgr p 4 3) (fun r3 => (mbind (mgi r3 1 0) (fun x4 => (mbind (mput r3 1 0 (.int (x4 - 1))) (fun _ => (mbind (mgr p 4 3) (fun r5 => (mbind (mgi r5 1 0) (fun x6 => (mpure (.inr x6))))))))))))))) else (mthrow "java/lang/IllegalStateException")) ?_ (rc_held h _)
  by_cases h1 : 1 < w.1.2.2.1
  · rw [if_pos h1, if_pos h1, if_pos h1, if_pos (by rw [lz1, iI_lt (by omega) (by omega) (by omega) (by omega)]; omega)]
    refine rc_ck h (rc_bind0 (c_save hw h) (fun G1 ow1 P1 h' => ?_))
    refine rc_chg h' (s' := sHeld w.1 (w.1.2.2.1 - 1)) (fun L np va ma refs ads0 tp sa hL hp hpc hx => ?_)
    have hd := sx_hdr hx (by omega) (x := w.1.1) (y := w.1.2.1) (n := w.1.2.2.1 - 1) (by show w.1.2.2.1 - 1 ≤ w.1.2.2.1; omega)
    have hpn : p ≠ np := lab_ne (ow := ow1) (by rw [hp, hx.1.2.2.2.1]; omega)
    refine ⟨_, ow1, refs, ?_, hd.1, hd.2⟩
    rw [ev_gi, hx.1.1, gi_s0, Option.elim_some, lz1, iI_sub, show ((wSave w w.1).1.2.2.1 : Int) - 1 = ((w.1.2.2.1 - 1 : Nat) : Int) by show (w.1.2.2.1 : Int) - 1 = _; omega, ev_put, hx.1.1, gp_s0, Option.elim_some, ev_gr]
    dsimp only
    rw [up_ne _ _ hpn, hpc, xr3, Option.elim_some, ev_gi]
    dsimp only
    rw [up_self, gi_s0, Option.elim_some, show (w.1.2.2.1 : Int) - 1 = ((w.1.2.2.1 - 1 : Nat) : Int) by omega]
    rfl
  · rw [if_neg h1, if_neg h1, if_neg h1, if_neg (by rw [lz1, iI_lt (by omega) (by omega) (by omega) (by omega)]; omega)]
    exact rc_thr h
theorem c_clear {G : GH} {ow : Nat → Nat} {p : Nat} {w : WW} {P : Nat} (hw : WI w) (h : RepC G ow p w P) : RC (f_X4_clear p) G ow p w P (iI ((w.1.2.2.1 : Int) - 1)) (wSave w (sHeld w.1 1)) 0 := by
  have h100 := hw.1.2.2.1
  unfold f_X4_clear
  refine rc_ck h (rc_bind0 (c_save hw h) (fun G1 ow1 P1 h' => ?_))
  refine rc_chg h' (s' := sHeld w.1 1) (fun L np va ma refs ads0 tp sa hL hp hpc hx => ?_)
  have hd := sx_hdr hx (by omega) (x := w.1.1) (y := w.1.2.1) (n := 1) (by show 1 ≤ w.1.2.2.1; omega)
  refine ⟨_, ow1, refs, ?_, hd.1, hd.2⟩
  rw [ev_gi, hx.1.1, gi_s0, Option.elim_some, ev_gr, hpc, xr3, Option.elim_some, show (Value.int 1) = Value.int (iI ((1 : Nat) : Int)) from rfl, ev_put, hx.1.1, gp_s0, Option.elim_some, lz1, iI_sub]
  rfl
theorem c_undo {G : GH} {ow : Nat → Nat} {p : Nat} {w : WW} {P : Nat} (hw : WI w) (h : RepC G ow p w P) : RC (f_X4_undo p) G ow p w P (yr (if 0 < w.2.2.1 then 0 else 1) exS exS exS (if 0 < w.2.2.1 then (w.2.2.1 : Int) - 1 else 0)) (if 0 < w.2.2.1 then (w.2.1 (w.2.2.1 - 1), w.2.1, w.2.2.1 - 1, w.2.2.2) else w) (ye (if 0 < w.2.2.1 then 0 else 1)) := by
  have h4 := hw.2.2.1
  have hh := h
  obtain ⟨ads, tp, sa, srefs, ⟨L, np, va, ma, refs⟩, R, h1, h2, h3, h5, ⟨k1, k2, k3⟩, ⟨hL, hR⟩, h7⟩ := h
  have hL' : 1000 ≤ L := hL
  have h12 : G.1 p = some (xcl (ads 0) tp sa np w.2.2.1) := h1.2
  have hpa : p ≠ sa := lab_ne (ow := ow) (by rw [h1.1, k1]; decide)
  by_cases hn : 0 < w.2.2.1
  · rw [if_pos hn, if_pos hn, if_pos hn]
    obtain ⟨m, hm⟩ : ∃ m, w.2.2.1 = m + 1 := ⟨w.2.2.1 - 1, by omega⟩
    obtain ⟨q, hq⟩ : ∃ q, srefs m = some q := by
      cases hq : srefs m with
      | none => exact absurd ((k3 m (by omega)).2 hq) (by omega)
      | some q => exact ⟨q, rfl⟩
    obtain ⟨m1, s, m2, m3⟩ := (k3 m (by omega)).1 q hq
    have hsv : s = w.2.1 m := m3 (by omega)
    subst hsv
    obtain ⟨r1, r2, r3⟩ := hR m (by omega)
    have r2' : L + 300 ≤ (R m).1 ∨ (R m).1 + 300 ≤ L := r2
    have hnp : G.1 np = some (scl w.1 va ma) := h5.1.1
    have keep : ∀ (c c' : LE) a, ow a ≠ 1 → ow a ≠ 5 → va_up (va_up G.1 sa (some c)) p (some c') a = G.1 a := fun c c' a ha hb => by
      rw [up_ne _ _ (fun e => ha (by rw [e, h1.1])), up_ne _ _ (fun e => hb (by rw [e, k1]))]
    obtain ⟨G2, hG2⟩ : ∃ G2 : GH, G2 = (va_up (va_up G.1 sa (some (qc 3 4 (va_up srefs m (some np))))) p (some (xcl (ads 0) tp sa q (m : Nat))), G.2) := ⟨_, rfl⟩
    have hg : GW G2 ow := by rw [hG2]; exact h5.2
    have kp : ∀ a, ow a ≠ 1 → ow a ≠ 5 → G2.1 a = G.1 a := fun a ha hb => by rw [hG2]; exact keep _ _ a ha hb
    have hR' : ∀ i, i < 4 → (R i).1 ≥ 1000 := fun i hi => (hR i hi).1
    refine ⟨G2, ow, P, ?_, ⟨ads, tp, sa, va_up srefs m (some np), R m, va_up R m (L, np, va, ma, refs), ⟨h1.1, ?_⟩, ?_, ?_, ?_, ⟨k1, ?_, fun i hi => ⟨fun x hx => ?_, fun hx => ?_⟩⟩, ⟨r1, fun i hi => ?_⟩, ?_⟩, fun _ _ => rfl, fun a ha hb => kp a (by omega) (by omega), hg, ?_, ?_, fun a ha => ?_⟩
    · unfold f_X4_undo
      rw [ev_gi, h12, xg4, Option.elim_some, lz1, iI_sub, hm, show ((m + 1 : Nat) : Int) - 1 = (m : Int) by omega, if_neg (by rw [lz0, iI_lt (by omega) (by omega) (by omega) (by omega)]; omega), ev_gr, h12, xr2, Option.elim_some, ev_len, qc_arr k2, Option.elim_some]
      dsimp only
      rw [if_pos (by rw [iI_lt (by omega) (by omega) (by omega) (by omega)]; omega), ev_gr, h12, xr2, Option.elim_some, ev_alq, k2, gaq_qc, Option.elim_some, if_neg (by rw [lz0, iI_lt (by omega) (by omega) (by omega) (by omega), iI_cl (by omega) (by omega)]; dsimp only; omega), iI_cl (by omega) (by omega), show ((m : Int)).toNat = m by omega]
      dsimp only
      rw [hq]
      unfold f_X4_undo_30
      have hfit : gfit (some np) G 1 = true := by
        show gis (G.1 np) 1 = true
        rw [hnp]
        rfl
      rw [mnull_s, ev_gr, h12, xr2, Option.elim_some, ev_gr, h12, xr3, Option.elim_some, ev_asq, hfit, if_pos rfl, k2, gaq_qc, Option.elim_some, if_neg (by rw [lz0, iI_lt (by omega) (by omega) (by omega) (by omega), iI_cl (by omega) (by omega)]; dsimp only; omega), iI_cl (by omega) (by omega), show ((m : Int)).toNat = m by omega]
      dsimp only
      rw [ev_put]
      dsimp only
      rw [up_ne _ _ hpa, h12, xp3, Option.elim_some, ev_put]
      dsimp only
      rw [up_self, xp4, Option.elim_some, up_idem, hG2]
      rfl
    · rw [hG2]
      show va_up _ p _ p = _
      rw [up_self, m1, hm]
      rfl
    · exact PS.fr (fun _ _ => rfl) h2 (fun a ha hb => kp a (by omega) (by omega))
    · exact PT.fr (fun _ _ => rfl) h3 (fun a ha hb => kp a (by omega) (by omega))
    · have e : w.2.2.1 - 1 = m := by omega
      show RSX G2 ow (R m) (w.2.1 (w.2.2.1 - 1))
      rw [e]
      exact m2.fr (fun _ _ => rfl) (by omega) hg (fun a ha hb => kp a (by omega) (by omega))
    · rw [hG2]
      show va_up (va_up G.1 sa _) p _ sa = _
      rw [up_ne _ _ (Ne.symm hpa), up_self]
    · by_cases e : i = m
      · subst e
        rw [up_self] at hx
        cases hx
        rw [up_self]
        refine ⟨rfl, w.1, RSX.fr (r := (L, np, va, ma, refs)) (fun _ _ => rfl) h5 (by show 0 < L; omega) hg (fun a ha hb => kp a (by have ha' : L ≤ ow a := ha; omega) (by have ha' : L ≤ ow a := ha; omega)), fun hh => ?_⟩
        have hh' : i < w.2.2.1 - 1 := hh
        omega
      · rw [up_ne _ _ e] at hx
        rw [up_ne _ _ e]
        obtain ⟨o1, s', o2, o3⟩ := (k3 i hi).1 x hx
        have := hR' i hi
        refine ⟨o1, s', o2.fr (fun _ _ => rfl) (by omega) hg (fun a ha hb => kp a (by omega) (by omega)), fun hh => ?_⟩
        have hh' : i < w.2.2.1 - 1 := hh
        exact o3 (by omega)
    · show w.2.2.1 - 1 ≤ i
      by_cases e : i = m
      · rw [e, up_self] at hx
        cases hx
      · rw [up_ne _ _ e] at hx
        have := (k3 i hi).2 hx
        omega
    · by_cases e : i = m
      · subst e
        rw [up_self]
        refine ⟨hL, ?_, fun j hj hji => ?_⟩
        · show (R i).1 + 300 ≤ L ∨ L + 300 ≤ (R i).1
          omega
        · rw [up_ne _ _ hji]
          exact (hR j hj).2.1
      · rw [up_ne _ _ e]
        have t1 := hR i hi
        refine ⟨t1.1, r3 i hi e, fun j hj hji => ?_⟩
        by_cases e2 : j = m
        · subst e2
          rw [up_self]
          have t2 : L + 300 ≤ (R i).1 ∨ (R i).1 + 300 ≤ L := t1.2.1
          show (R i).1 + 300 ≤ L ∨ L + 300 ≤ (R i).1
          omega
        · rw [up_ne _ _ e2]
          exact t1.2.2 j hj hji
    · have hpu : ∀ i, i < 4 → (if i = m then pu (va_up R m (L, np, va, ma, refs)) (va_up srefs m (some np)) i = cnt refs 100 ∧ pu R srefs i = cnt (R m).2.2.2.2 100 else pu (va_up R m (L, np, va, ma, refs)) (va_up srefs m (some np)) i = pu R srefs i) := by
        intro i hi
        by_cases e : i = m
        · rw [if_pos e]
          subst e
          rw [pu_some hq, pu_some (up_self _ _ _), up_self]
          exact ⟨rfl, rfl⟩
        · rw [if_neg e]
          exact pu_eq (up_ne _ _ e) (up_ne _ _ e)
      have p0 := hpu 0 (by decide)
      have p1 := hpu 1 (by decide)
      have p2 := hpu 2 (by decide)
      have p3 := hpu 3 (by decide)
      rw [h7]
      unfold pot
      dsimp only
      have : m = 0 ∨ m = 1 ∨ m = 2 ∨ m = 3 := by omega
      rcases this with e | e | e | e <;> rw [e] at p0 p1 p2 p3 ⊢ <;> simp only [if_true, Nat.reduceEqDiff, if_false] at p0 p1 p2 p3 <;> omega
    · rw [hG2]
      exact Nat.le_refl _
    · rw [hG2]
      exact Nat.le_refl _
    · rw [hG2]
      show gref (va_up (va_up G.1 sa _) p _ a) 4 0 = _ ∧ gref (va_up (va_up G.1 sa _) p _ a) 4 1 = _
      by_cases e : a = p
      · rw [e, up_self, h12]
        exact ⟨rfl, rfl⟩
      · rw [up_ne _ _ e, up_ne _ _ (fun e2 => by rw [e2, k1] at ha; omega)]
        exact ⟨rfl, rfl⟩
  · rw [if_neg hn, if_neg hn, if_neg hn]
    have e0 : w.2.2.1 = 0 := by omega
    refine rc_eq (rc_thr hh) ?_
    unfold f_X4_undo
    rw [ev_gi, h12, xg4, Option.elim_some, lz1, iI_sub, e0, if_pos (by rw [lz0, iI_lt (by omega) (by omega) (by omega) (by omega)]; omega)]
    unfold f_X4_undo_20 f_X4_undo_30
    rw [mnull_n]
    rfl
