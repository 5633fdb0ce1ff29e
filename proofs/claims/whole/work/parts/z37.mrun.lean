/-! PURE PART 37: run, stalls, worstWith, leastRate of the reference -/
def stC (s : SS) (a : Nat) : Nat → Int
  | 0 => 0
  | n + 1 => stC s a n + if 0 < (s.2.2.2 (a + n)).1 9 then 1 else 0
def mxC (s : SS) (a : Nat) : Nat → Int
  | 0 => 0
  | n + 1 => max (mxC s a n) ((s.2.2.2 (a + n)).1 8)
/-- all acts that were read, from a version on -/
def allF (s : SS) (t : TT) (v : Nat) : SS × Nat := dA t.2.2.2.2.1 t.2.2.2.2.2 t.2.2.2.1 0 s v
/-- what the acts would be with a rate: those that stall, or the greatest cost -/
def wbF (s : SS) (t : TT) (v : Nat) (rate : Int) (q : Bool) : Int := if q = true then stC (allF (sSet s 0 rate) t v).1 s.2.2.1 (allF (sSet s 0 rate) t v).2 else mxC (allF (sSet s 0 rate) t v).1 s.2.2.1 (allF (sSet s 0 rate) t v).2
def lrF (s : SS) (t : TT) (v : Nat) : Nat → Nat → Int
  | 0, _ => -1
  | d + 1, r => if wbF s t v r true = 0 then r else lrF s t v d (r + 1)
theorem stC_b (s : SS) (a : Nat) : ∀ n, 0 ≤ stC s a n ∧ stC s a n ≤ n
  | 0 => by unfold stC; omega
  | n + 1 => by
    have := stC_b s a n
    unfold stC
    split <;> omega
theorem mxC_b {s : SS} (hs : SI s) (a : Nat) : ∀ n, a + n ≤ s.2.2.1 → 0 ≤ mxC s a n ∧ mxC s a n ≤ 300
  | 0, _ => by unfold mxC; omega
  | n + 1, h => by
    have h1 := mxC_b hs a n (by omega)
    have h2 := (hs.2.2.2 (a + n) (by omega)).1
    unfold VBn at h2
    unfold mxC
    omega
theorem wt_kv {w : WW} (hw : WI w) : (wT w).2.2.2.2.1 ≤ 50 ∧ KV (wT w).2.2.2.2.1 (wT w).2.2.2.2.2.1 (wT w).2.2.2.2.2.2 := by
  have h := tok_run w.2.2.2.2 w.2.2.2.1 0 0 tt0 (tok_mk (ks := fun _ => 0) (vs := fun _ => 0) (by decide) (by decide) (fun hh => absurd rfl hh) (fun hh => absurd hh (by decide)) (fun hh => absurd hh (by decide)) (fun hh => absurd hh (by decide)) (fun hh => absurd hh (by decide)) (fun j hj => absurd hj (by omega)))
  have h1 := hw.2.2.2.1
  refine ⟨?_, h.2⟩
  have h2 := h.1
  unfold wT
  omega
theorem si_set0 {s : SS} (hs : SI s) {r : Int} (h : 1 ≤ r ∧ r ≤ 9) : SI (sSet s 0 r) := si_set hs (decide_eq_true (Or.inl ⟨rfl, h⟩))
theorem wb_loop {G : GH} {ad : Nat → Nat} (hi : injK ad KM) {s : SS} (hs : SI s) {z : Nat → Int} {c : Nat → Nat → Int} (hc : NowR c s) {a n : Nat} (han : a + n ≤ s.2.2.1) (q : Bool) : ∀ (d fu k : Nat), k + d = n → d < fu → (f_X5_wouldBe_42 fu (ad 0) (iI (b2i q)) (iI a) (iI n) (iI (if q = true then stC s a k else mxC s a k)) (iI (a + k : Nat))).1 (MO G ad z c)
    = (mbind (mgr (ad 0) 5 3) (fun r7 => (mbind (mgr (ad 0) 5 0) (fun r8 => (mbind (f_X5_copies r7 0 r8 0) (fun _ => (mpure (iI (if q = true then stC s a n else mxC s a n))))))))).1 (MO G ad z c)
  | _, 0, _, _, h => absurd h (by omega)
  | 0, fu + 1, k, e, _ => by
    have h100 := hs.2.2.1
    rw [f_X5_wouldBe_42, iI_add, if_pos (by rw [iI_le (by omega) (by omega) (by omega) (by omega)]; omega), show k = n by omega]
  | d + 1, fu + 1, k, e, hf => by
    have h100 := hs.2.2.1
    have hv : a + k < s.2.2.1 := by omega
    have hvb := (hs.2.2.2 (a + k) hv).1
    unfold VBn at hvb
    have g5 := of_s (G := G) hi hs (z := z) hc hv (show 5 < 10 by decide)
    have g6 := of_s (G := G) hi hs (z := z) hc hv (show 6 < 10 by decide)
    rw [show iI ((5 : Nat) : Int) = 5 from rfl, mc5] at g5
    rw [show iI ((6 : Nat) : Int) = 6 from rfl, mc6] at g6
    have ih := wb_loop hi (G := G) (z := z) hs hc han q d fu (k + 1) (by omega) (by omega)
    have hkk : iI ((a + k : Nat) : Int) + 1 = iI ((a + (k + 1) : Nat) : Int) := by rw [lz1, iI_add]; congr 1
    rw [f_X5_wouldBe_42, iI_add, if_neg (by rw [iI_le (by omega) (by omega) (by omega) (by omega)]; omega), mo_ck hi, mbind_ok g5, hkk]
    cases q with
    | false =>
      have hb := mxC_b hs a k (by omega)
      rw [if_pos (show iI (b2i false) = 0 from rfl), if_pos (show iI (b2i false) = 0 from rfl), ← ih]
      rw [show (if false = true then stC s a k else mxC s a k) = mxC s a k from rfl, show (if false = true then stC s a (k + 1) else mxC s a (k + 1)) = max (mxC s a k) ((s.2.2.2 (a + k)).1 8) from rfl]
      by_cases h : (s.2.2.2 (a + k)).1 8 ≤ mxC s a k
      · rw [if_pos (by rw [iI_le (by omega) (by omega) (by omega) (by omega)]; exact h), show max (mxC s a k) ((s.2.2.2 (a + k)).1 8) = mxC s a k by omega]
      · rw [if_neg (by rw [iI_le (by omega) (by omega) (by omega) (by omega)]; exact h), show max (mxC s a k) ((s.2.2.2 (a + k)).1 8) = (s.2.2.2 (a + k)).1 8 by omega]
    | true =>
      rw [if_neg (show ¬ iI (b2i true) = 0 by decide), if_neg (show ¬ iI (b2i true) = 0 by decide), ← ih]
      rw [show (if true = true then stC s a k else mxC s a k) = stC s a k from rfl, show (if true = true then stC s a (k + 1) else mxC s a (k + 1)) = stC s a k + (if 0 < (s.2.2.2 (a + k)).1 9 then 1 else 0) from rfl, mo_ck hi, mbind_ok g6]
      by_cases h : 0 < (s.2.2.2 (a + k)).1 9
      · rw [if_neg (by rw [lz0, iI_le (by omega) (by omega) (by omega) (by omega)]; omega), if_pos h, lz1, iI_add]
      · rw [if_pos (by rw [lz0, iI_le (by omega) (by omega) (by omega) (by omega)]; omega), if_neg h, Int.add_zero]
theorem wb_m {G : GH} {ad : Nat → Nat} (hi : injK ad KM) {s : SS} (hs : SI s) {z : Nat → Int} {c : Nat → Nat → Int} (hc : NowR c s) {v : Nat} (hv : v < s.2.2.1) {t : TT} (hm : t.2.2.2.1 ≤ 50) (hkv : KV t.2.2.2.1 t.2.2.2.2.1 t.2.2.2.2.2) (h14 : z 14 = (t.2.2.2.1 : Nat)) (hag : AG c t) {r : Int} (hr : 1 ≤ r ∧ r ≤ 9) (q : Bool) :
    ∃ z' c', (f_X5_wouldBe (ad 0) (iI v) (iI r) (iI (b2i q))).1 (MO G ad z c) = some (iI (wbF s t v r q), MO G ad z' c') ∧ NowR c' s ∧ (∀ j, j ≠ 8 → j ≠ 9 → z' j = z j) ∧ (∀ j, j ≠ 1 → j ≠ 4 → j ≠ 8 → j ≠ 11 → c' j = c j) := by
  have h100 := hs.2.2.1
  have k1 := cp_m (G := G) hi (z := z) (x := 1) (y := 4) (by decide) (by decide) (by decide) (by decide) (by decide) (a := 0) (b := 0) (by decide) (by decide) (by decide) (by decide) 1003 FU 0 c (by omega) (by decide)
  rw [show iI ((0 : Nat) : Int) = 0 from rfl] at k1
  have hs1 := si_set0 hs hr
  have hc1 : NowR (va_up (va_up c 4 (fun j => if 0 + 0 ≤ j ∧ j < 0 + 1003 then c 1 (0 + (j - 0)) else c 4 j)) 1 (va_up (c 1) (0 : Int).toNat r)) (sSet s 0 r) := nowR_set (c := va_up c 4 (fun j => if 0 + 0 ≤ j ∧ j < 0 + 1003 then c 1 (0 + (j - 0)) else c 4 j)) (hc.up (by decide) _) (Or.inl rfl)
  obtain ⟨z2, c2, a1, a2, a3, a4⟩ := all_m (G := G) hi hm hkv t.2.2.2.1 FU 0 z _ (sSet s 0 r) v (by omega) (by unfold FU; omega) hs1 hc1 (by unfold sSet; exact hv) h14 (fun j hj => by
    rw [up_ne _ _ (show 13 ≠ 1 by decide), up_ne _ _ (show 13 ≠ 4 by decide), up_ne _ _ (show 14 ≠ 1 by decide), up_ne _ _ (show 14 ≠ 4 by decide)]
    exact hag j hj)
  have hn := dA_n t.2.2.2.2.1 t.2.2.2.2.2 t.2.2.2.1 0 (sSet s 0 r) v
  have hsi := dA_si hkv t.2.2.2.1 0 (sSet s 0 r) v (by omega) hs1 (by unfold sSet; exact hv)
  have hh : (sSet s 0 r).2.2.1 = s.2.2.1 := rfl
  rw [hh] at hn
  have hw := wb_loop (G := G) hi hsi (z := z2) a2 (a := s.2.2.1) (n := (dA t.2.2.2.2.1 t.2.2.2.2.2 t.2.2.2.1 0 (sSet s 0 r) v).2) (by omega) q (dA t.2.2.2.2.1 t.2.2.2.2.2 t.2.2.2.1 0 (sSet s 0 r) v).2 FU 0 (by omega) (by have := hsi.2.2.1; unfold FU; omega)
  have k2 := cp_m (G := G) hi (z := z2) (x := 4) (y := 1) (by decide) (by decide) (by decide) (by decide) (by decide) (a := 0) (b := 0) (by decide) (by decide) (by decide) (by decide) 1003 FU 0 c2 (by omega) (by decide)
  rw [show iI ((0 : Nat) : Int) = 0 from rfl] at k2
  have c24 := a4 4 (by decide) (by decide) (by decide)
  rw [up_ne _ _ (show 4 ≠ 1 by decide), up_self] at c24
  refine ⟨z2, va_up c2 1 (fun j => if 0 + 0 ≤ j ∧ j < 0 + 1003 then c2 4 (0 + (j - 0)) else c2 1 j), ?_, ?_, a3, fun j b1 b2 b3 b4 => (up_ne _ _ b1).trans ((a4 j b1 b3 b4).trans ((up_ne _ _ b1).trans (up_ne _ _ b2)))⟩
  · unfold f_X5_wouldBe
    rw [mo_gr0 hi, mo_gr3 hi, show f_X5_copies (ad 1) 0 (ad 4) 0 = f_X5_copies_3 FU (ad 1) 0 (ad 4) 0 0 from rfl, mbind_ok k1, mo_gr0 hi, lz0, mo_as1 hi _ _ (by omega) (by omega), mo_gr0 hi, show (2 : Int32) = iI 2 from rfl, up_ne _ _ (show 1 ≠ 4 by decide)]
    rw [show (iI 2) = (2 : Int32) from rfl, held_m hi hs1 z hc1, mo_ck hi, show f_X5_doesAll (ad 0) (iI v) = f_X5_doesAll_7 FU (ad 0) (iI v) (iI ((0 : Nat) : Int)) 1 from rfl, mbind_ok a1, hh]
    have e0 : (if q = true then stC (dA t.2.2.2.2.1 t.2.2.2.2.2 t.2.2.2.1 0 (sSet s 0 r) v).1 s.2.2.1 0 else mxC (dA t.2.2.2.2.1 t.2.2.2.2.2 t.2.2.2.1 0 (sSet s 0 r) v).1 s.2.2.1 0) = 0 := by
      cases q <;> rfl
    rw [e0, Nat.add_zero] at hw
    rw [hw, mo_gr3 hi, mo_gr0 hi, show f_X5_copies (ad 4) 0 (ad 1) 0 = f_X5_copies_3 FU (ad 4) 0 (ad 1) 0 0 from rfl, mbind_ok k2]
    rfl
  · refine nowA_R ((nowR_A hc).congr hs (fun j hj => ?_))
    rw [up_self, if_pos (by omega), c24]
    dsimp only
    rw [if_pos (by omega)]
    congr 1
    omega
theorem RefR.kw {z z' : Nat → Int} {c c' : Nat → Nat → Int} {w : WW} (h : RefR z c w) (hn : NowR c' w.1) (hz : ∀ j, j ≠ 8 → j ≠ 9 → z' j = z j) (hc : ∀ j, j ≠ 1 → j ≠ 4 → j ≠ 8 → j ≠ 11 → c' j = c j) : RefR z' c' w := by
  obtain ⟨h1, h2, h3, h4, h5⟩ := h
  exact ⟨hn, h2.eq (hc 2 (by decide) (by decide) (by decide) (by decide)), (hz 2 (by decide) (by decide)).trans h3, (hz 5 (by decide) (by decide)).trans h4, fun j hj => by rw [hc 5 (by decide) (by decide) (by decide) (by decide)]; exact h5 j hj⟩
def tRate (w : WW) (a r : Int) : Int := if inV w.1 a = true then (if 1 ≤ r ∧ r ≤ 9 then (if (wT w).1 = -1 then 0 else 3) else 2) else 1
def tLeast (w : WW) (a : Int) : Int := if inV w.1 a = true then (if (wT w).1 = -1 then 0 else 2) else 1
theorem wt_pos (bt : Nat → Int) : ∀ d m st t, -1 ≤ (tRun bt d m st t).1 ∧ (tRun bt d m st t).1 ≤ m + d
  | 0, m, st, t => by
    unfold tRun
    dsimp only
    split <;> omega
  | d + 1, m, st, t => by
    unfold tRun
    split
    · dsimp only
      omega
    · have := wt_pos bt d (m + 1) (tNext st t (bt m)).1 (tNext st t (bt m)).2
      omega
theorem r_run {G : GH} {ad : Nat → Nat} (hi : injK ad KM) {w : WW} (hw : WI w) {z : Nat → Int} {c : Nat → Nat → Int} (h : RefR z c w) {a : Int} (ha : irg a) : ∃ z' c', (f_X5_run (ad 0) (iI a)).1 (MO G ad z c) = some (iI (if inV w.1 a = true then (if (wT w).1 = -1 then ((allF w.1 (wT w).2 a.toNat).2 : Int) else -10 - (wT w).1) else 0), MO G ad z' c') ∧ z' 6 = (if inV w.1 a = true then 0 else 1) ∧ RefR z' c' (if inV w.1 a = true ∧ (wT w).1 = -1 then wSave w (allF w.1 (wT w).2 a.toNat).1 else w) := by
  have h100 := hw.1.2.2.1
  have hp := wt_pos w.2.2.2.2 w.2.2.2.1 0 0 tt0
  have hlen := hw.2.2.2.1
  have hp' : -1 ≤ (wT w).1 ∧ (wT w).1 ≤ 100 := by unfold wT; omega
  have hv := isV_m (G := G) hi hw.1 z h.1 ha
  unfold f_X5_run
  rw [mo_ck hi, mbind_ok hv]
  by_cases h1 : inV w.1 a = true
  · have h1' : 0 ≤ a ∧ a < w.1.2.2.1 := of_decide_eq_true h1
    obtain ⟨z1, c1, f1, f2, f3, f4⟩ := r_fault (G := G) hi hw (h.z6 0)
    rw [h1, if_neg (show ¬ iI (b2i true) = 0 by decide), if_pos rfl, if_pos rfl]
    unfold f_X5_run_14
    rw [show (Value.int 0) = Value.int (iI 0) from rfl, mo_pt6 hi, mo_gi6 hi, up_self, if_pos (show iI 0 = 0 from rfl), mo_ck hi, mbind_ok f1]
    by_cases h2 : (wT w).1 = -1
    · obtain ⟨g1, g2⟩ := f4 h2
      obtain ⟨c2, s1, s2, s3⟩ := r_sv (G := G) hi hw f3
      have hkv := wt_kv hw
      obtain ⟨z3, c3, a1, a2, a3, a4⟩ := all_m (G := G) hi hkv.1 hkv.2 (wT w).2.2.2.2.1 FU 0 (va_up z1 2 (nSv w.2.2.1)) c2 w.1 a.toNat (by omega) (by have := hkv.1; unfold FU; omega) hw.1 (f3.1.eq (s2 1 (by decide))) (by omega) ((up_ne _ _ (by decide)).trans g1) (fun j hj => by rw [s2 13 (by decide), s2 14 (by decide)]; exact g2 j hj)
      rw [show iI ((a.toNat : Nat) : Int) = iI a by congr 1; omega] at a1
      rw [if_pos (by rw [h2]; rfl), if_pos h2, if_pos (⟨rfl, h2⟩ : true = true ∧ (wT w).1 = -1), mo_ck hi, mbind_ok s1, mo_ck hi, show f_X5_doesAll (ad 0) (iI a) = f_X5_doesAll_7 FU (ad 0) (iI a) (iI ((0 : Nat) : Int)) 1 from rfl, mbind_ok a1]
      refine ⟨z3, c3, rfl, ?_, refR_mk a2 (s3.eq (a4 2 (by decide) (by decide) (by decide))) ((a3 2 (by decide) (by decide)).trans (up_self _ _ _)) ?_ (fun j hj => ?_)⟩
      · rw [a3 6 (by decide) (by decide), up_ne _ _ (show 6 ≠ 2 by decide), f2.1 6 (by decide) (by decide), up_self]
      · rw [a3 5 (by decide) (by decide), up_ne _ _ (show 5 ≠ 2 by decide)]
        exact f3.2.2.2.1
      · rw [a4 5 (by decide) (by decide) (by decide), s2 5 (by decide)]
        exact f3.2.2.2.2 j hj
    · rw [if_neg (by rw [lzm1, iI_eq (by omega) (by omega) (by omega) (by omega)]; exact h2), if_neg h2, if_neg (show ¬ (true = true ∧ (wT w).1 = -1) from fun hh => h2 hh.2), show (-10 : Int32) = iI (-10) from rfl, iI_sub]
      exact ⟨z1, c1, rfl, by rw [f2.1 6 (by decide) (by decide), up_self], f3⟩
  · rw [if_neg h1, if_neg h1, if_neg (show ¬ (inV w.1 a = true ∧ (wT w).1 = -1) from fun hh => h1 hh.1)]
    rw [Bool.not_eq_true] at h1
    rw [h1, if_pos (show iI (b2i false) = 0 from rfl)]
    exact ⟨_, _, thr_n hi hw h _ 1 (by decide), up_self _ _ _, h.z6 1⟩
theorem r_wb {G : GH} {ad : Nat → Nat} (hi : injK ad KM) {w : WW} (hw : WI w) {z : Nat → Int} {c : Nat → Nat → Int} (h : RefR z c w) {a r : Int} (ha : 0 ≤ a ∧ a < w.1.2.2.1) (hr : 1 ≤ r ∧ r ≤ 9) (q : Bool) (h14 : z 14 = ((wT w).2.2.2.2.1 : Nat)) (hag : AG c (wT w).2) : ∃ z' c', (f_X5_wouldBe (ad 0) (iI a) (iI r) (iI (b2i q))).1 (MO G ad z c) = some (iI (wbF w.1 (wT w).2 a.toNat r q), MO G ad z' c') ∧ RefR z' c' w ∧ z' 6 = z 6 ∧ z' 14 = z 14 ∧ AG c' (wT w).2 := by
  have hkv := wt_kv hw
  obtain ⟨z1, c1, e1, e2, e3, e4⟩ := wb_m (G := G) hi hw.1 h.1 (v := a.toNat) (by omega) hkv.1 hkv.2 h14 hag hr q
  rw [show iI ((a.toNat : Nat) : Int) = iI a by congr 1; omega] at e1
  refine ⟨z1, c1, e1, h.kw e2 e3 e4, e3 6 (by decide) (by decide), e3 14 (by decide) (by decide), fun j hj => ?_⟩
  rw [e4 13 (by decide) (by decide) (by decide) (by decide), e4 14 (by decide) (by decide) (by decide) (by decide)]
  exact hag j hj
theorem r_stalls {G : GH} {ad : Nat → Nat} (hi : injK ad KM) {w : WW} (hw : WI w) {z : Nat → Int} {c : Nat → Nat → Int} (h : RefR z c w) {a r : Int} (ha : irg a) (hr : irg r) : ∃ z' c', (f_X5_stalls (ad 0) (iI a) (iI r)).1 (MO G ad z c) = some (iI (if tRate w a r = 0 then wbF w.1 (wT w).2 a.toNat r true else 0), MO G ad z' c') ∧ z' 6 = tRate w a r ∧ RefR z' c' w := by
  have hp := wt_pos w.2.2.2.2 w.2.2.2.1 0 0 tt0
  have hlen := hw.2.2.2.1
  have hp' : -1 ≤ (wT w).1 ∧ (wT w).1 ≤ 100 := by unfold wT; omega
  have hv := isV_m (G := G) hi hw.1 z h.1 ha
  have hin := in_run (MO G ad z c) (a := r) (l := 1) (h := 9) hr (by decide) (by decide)
  unfold f_X5_stalls
  rw [mo_ck hi, mbind_ok hv]
  by_cases h1 : inV w.1 a = true
  · have h1' : 0 ≤ a ∧ a < w.1.2.2.1 := of_decide_eq_true h1
    rw [h1, if_neg (show ¬ iI (b2i true) = 0 by decide), show f_X5_in (iI r) 1 9 = f_X5_in (iI r) (iI 1) (iI 9) from rfl, mbind_ok hin]
    by_cases h2 : 1 ≤ r ∧ r ≤ 9
    · obtain ⟨z1, c1, f1, f2, f3, f4⟩ := r_fault (G := G) hi hw h
      rw [decide_eq_true h2, if_neg (show ¬ iI (b2i true) = 0 by decide), mo_ck hi, mbind_ok f1]
      by_cases h3 : (wT w).1 = -1
      · obtain ⟨g1, g2⟩ := f4 h3
        obtain ⟨z2, c2, b1, b2, b3, b4, b5⟩ := r_wb (G := G) hi hw (f3.z6 0) h1' h2 true ((up_ne _ _ (by decide)).trans g1) g2
        rw [if_pos (by rw [h3]; rfl), show tRate w a r = 0 by unfold tRate; rw [if_pos h1, if_pos h2, if_pos h3], if_pos rfl, show (Value.int 0) = Value.int (iI 0) from rfl, thr_0 hi hw f3, mo_ck hi]
        rw [show iI (b2i true) = 1 from rfl] at b1
        rw [mbind_ok b1]
        exact ⟨z2, c2, rfl, by rw [b3, up_self], b2⟩
      · rw [if_neg (by rw [lzm1, iI_eq (by omega) (by omega) (by omega) (by omega)]; exact h3), show tRate w a r = 3 by unfold tRate; rw [if_pos h1, if_pos h2, if_neg h3], if_neg (show ¬ (3 : Int) = 0 by decide)]
        exact ⟨_, _, thr_n hi hw f3 _ 3 (by decide), up_self _ _ _, f3.z6 3⟩
    · rw [decide_eq_false h2, if_pos (show iI (b2i false) = 0 from rfl), show tRate w a r = 2 by unfold tRate; rw [if_pos h1, if_neg h2], if_neg (show ¬ (2 : Int) = 0 by decide)]
      exact ⟨_, _, thr_n hi hw h _ 2 (by decide), up_self _ _ _, h.z6 2⟩
  · rw [show tRate w a r = 1 by unfold tRate; rw [if_neg h1], if_neg (show ¬ (1 : Int) = 0 by decide)]
    rw [Bool.not_eq_true] at h1
    rw [h1, if_pos (show iI (b2i false) = 0 from rfl)]
    exact ⟨_, _, thr_n hi hw h _ 1 (by decide), up_self _ _ _, h.z6 1⟩
theorem r_worstWith {G : GH} {ad : Nat → Nat} (hi : injK ad KM) {w : WW} (hw : WI w) {z : Nat → Int} {c : Nat → Nat → Int} (h : RefR z c w) {a r : Int} (ha : irg a) (hr : irg r) : ∃ z' c', (f_X5_worstWith (ad 0) (iI a) (iI r)).1 (MO G ad z c) = some (iI (if tRate w a r = 0 then wbF w.1 (wT w).2 a.toNat r false else 0), MO G ad z' c') ∧ z' 6 = tRate w a r ∧ RefR z' c' w := by
  have hp := wt_pos w.2.2.2.2 w.2.2.2.1 0 0 tt0
  have hlen := hw.2.2.2.1
  have hp' : -1 ≤ (wT w).1 ∧ (wT w).1 ≤ 100 := by unfold wT; omega
  have hv := isV_m (G := G) hi hw.1 z h.1 ha
  have hin := in_run (MO G ad z c) (a := r) (l := 1) (h := 9) hr (by decide) (by decide)
  unfold f_X5_worstWith
  rw [mo_ck hi, mbind_ok hv]
  by_cases h1 : inV w.1 a = true
  · have h1' : 0 ≤ a ∧ a < w.1.2.2.1 := of_decide_eq_true h1
    rw [h1, if_neg (show ¬ iI (b2i true) = 0 by decide), show f_X5_in (iI r) 1 9 = f_X5_in (iI r) (iI 1) (iI 9) from rfl, mbind_ok hin]
    by_cases h2 : 1 ≤ r ∧ r ≤ 9
    · obtain ⟨z1, c1, f1, f2, f3, f4⟩ := r_fault (G := G) hi hw h
      rw [decide_eq_true h2, if_neg (show ¬ iI (b2i true) = 0 by decide), mo_ck hi, mbind_ok f1]
      by_cases h3 : (wT w).1 = -1
      · obtain ⟨g1, g2⟩ := f4 h3
        obtain ⟨z2, c2, b1, b2, b3, b4, b5⟩ := r_wb (G := G) hi hw (f3.z6 0) h1' h2 false ((up_ne _ _ (by decide)).trans g1) g2
        rw [if_pos (by rw [h3]; rfl), show tRate w a r = 0 by unfold tRate; rw [if_pos h1, if_pos h2, if_pos h3], if_pos rfl, show (Value.int 0) = Value.int (iI 0) from rfl, thr_0 hi hw f3, mo_ck hi]
        rw [show iI (b2i false) = 0 from rfl] at b1
        rw [mbind_ok b1]
        exact ⟨z2, c2, rfl, by rw [b3, up_self], b2⟩
      · rw [if_neg (by rw [lzm1, iI_eq (by omega) (by omega) (by omega) (by omega)]; exact h3), show tRate w a r = 3 by unfold tRate; rw [if_pos h1, if_pos h2, if_neg h3], if_neg (show ¬ (3 : Int) = 0 by decide)]
        exact ⟨_, _, thr_n hi hw f3 _ 3 (by decide), up_self _ _ _, f3.z6 3⟩
    · rw [decide_eq_false h2, if_pos (show iI (b2i false) = 0 from rfl), show tRate w a r = 2 by unfold tRate; rw [if_pos h1, if_neg h2], if_neg (show ¬ (2 : Int) = 0 by decide)]
      exact ⟨_, _, thr_n hi hw h _ 2 (by decide), up_self _ _ _, h.z6 2⟩
  · rw [show tRate w a r = 1 by unfold tRate; rw [if_neg h1], if_neg (show ¬ (1 : Int) = 0 by decide)]
    rw [Bool.not_eq_true] at h1
    rw [h1, if_pos (show iI (b2i false) = 0 from rfl)]
    exact ⟨_, _, thr_n hi hw h _ 1 (by decide), up_self _ _ _, h.z6 1⟩
theorem lr_m {G : GH} {ad : Nat → Nat} (hi : injK ad KM) {w : WW} (hw : WI w) {a : Int} (ha : 0 ≤ a ∧ a < w.1.2.2.1) : ∀ (d fu r : Nat) (z : Nat → Int) (c : Nat → Nat → Int), r + d = 10 → 1 ≤ r → d < fu → RefR z c w → z 14 = ((wT w).2.2.2.2.1 : Nat) → AG c (wT w).2 → ∃ z' c', (f_X5_leastRate_40 fu (ad 0) (iI a) (iI r)).1 (MO G ad z c) = some (iI (lrF w.1 (wT w).2 a.toNat d r), MO G ad z' c') ∧ RefR z' c' w ∧ z' 6 = z 6
  | _, 0, _, _, _, _, _, h, _, _, _ => absurd h (by omega)
  | 0, fu + 1, r, z, c, e, _, _, h, _, _ => by
    refine ⟨z, c, ?_, h, rfl⟩
    rw [f_X5_leastRate_40, if_pos (by rw [lz10, iI_le (by omega) (by omega) (by omega) (by omega)]; omega)]
    rfl
  | d + 1, fu + 1, r, z, c, e, hr1, hf, h, h14, hag => by
    obtain ⟨z2, c2, b1, b2, b3, b4, b5⟩ := r_wb (G := G) hi hw h ha (r := (r : Int)) (by omega) true h14 hag
    rw [show iI (b2i true) = 1 from rfl] at b1
    have hb : 0 ≤ wbF w.1 (wT w).2 a.toNat r true ∧ wbF w.1 (wT w).2 a.toNat r true ≤ 1000 := by
      have hk := wt_kv hw
      have h1 := dA_n (wT w).2.2.2.2.2.1 (wT w).2.2.2.2.2.2 (wT w).2.2.2.2.1 0 (sSet w.1 0 r) a.toNat
      have h2 := stC_b (allF (sSet w.1 0 r) (wT w).2 a.toNat).1 w.1.2.2.1 (allF (sSet w.1 0 r) (wT w).2 a.toNat).2
      unfold wbF
      rw [if_pos rfl]
      unfold allF at h2 ⊢
      have h3 := hk.1
      omega
    rw [f_X5_leastRate_40, if_neg (by rw [lz10, iI_le (by omega) (by omega) (by omega) (by omega)]; omega), mo_ck hi, mbind_ok b1]
    unfold lrF
    by_cases h0 : wbF w.1 (wT w).2 a.toNat r true = 0
    · rw [if_pos (by rw [h0]; rfl), if_pos h0]
      exact ⟨z2, c2, rfl, b2, b3⟩
    · obtain ⟨z3, c3, q1, q2, q3⟩ := lr_m hi hw ha d fu (r + 1) z2 c2 (by omega) (by omega) (by omega) b2 (b4.trans h14) b5
      rw [if_neg (by rw [lz0, iI_eq (by omega) (by omega) (by omega) (by omega)]; exact h0), if_neg h0, show iI (r : Int) + 1 = iI ((r + 1 : Nat) : Int) by rw [lz1, iI_add]; rfl]
      exact ⟨z3, c3, q1, q2, q3.trans b3⟩
theorem r_leastRate {G : GH} {ad : Nat → Nat} (hi : injK ad KM) {w : WW} (hw : WI w) {z : Nat → Int} {c : Nat → Nat → Int} (h : RefR z c w) {a : Int} (ha : irg a) : ∃ z' c', (f_X5_leastRate (ad 0) (iI a)).1 (MO G ad z c) = some (iI (if tLeast w a = 0 then lrF w.1 (wT w).2 a.toNat 9 1 else 0), MO G ad z' c') ∧ z' 6 = tLeast w a ∧ RefR z' c' w := by
  have hp := wt_pos w.2.2.2.2 w.2.2.2.1 0 0 tt0
  have hlen := hw.2.2.2.1
  have hp' : -1 ≤ (wT w).1 ∧ (wT w).1 ≤ 100 := by unfold wT; omega
  have hv := isV_m (G := G) hi hw.1 z h.1 ha
  unfold f_X5_leastRate
  rw [mo_ck hi, mbind_ok hv]
  by_cases h1 : inV w.1 a = true
  · have h1' : 0 ≤ a ∧ a < w.1.2.2.1 := of_decide_eq_true h1
    obtain ⟨z1, c1, f1, f2, f3, f4⟩ := r_fault (G := G) hi hw h
    rw [h1, if_neg (show ¬ iI (b2i true) = 0 by decide), mo_ck hi, mbind_ok f1]
    by_cases h3 : (wT w).1 = -1
    · obtain ⟨g1, g2⟩ := f4 h3
      obtain ⟨z2, c2, b1, b2, b3⟩ := lr_m (G := G) hi hw h1' 9 FU 1 (va_up z1 6 0) c1 (by decide) (by decide) (by decide) (f3.z6 0) ((up_ne _ _ (by decide)).trans g1) g2
      rw [show iI ((1 : Nat) : Int) = 1 from rfl] at b1
      rw [if_pos (by rw [h3]; rfl), show tLeast w a = 0 by unfold tLeast; rw [if_pos h1, if_pos h3], if_pos rfl]
      unfold f_X5_leastRate_26
      rw [show (Value.int 0) = Value.int (iI 0) from rfl, thr_0 hi hw f3]
      exact ⟨z2, c2, b1, by rw [b3, up_self], b2⟩
    · rw [if_neg (by rw [lzm1, iI_eq (by omega) (by omega) (by omega) (by omega)]; exact h3), show tLeast w a = 2 by unfold tLeast; rw [if_pos h1, if_neg h3], if_neg (show ¬ (2 : Int) = 0 by decide)]
      exact ⟨_, _, thr_n hi hw f3 _ 2 (by decide), up_self _ _ _, f3.z6 2⟩
  · rw [show tLeast w a = 1 by unfold tLeast; rw [if_neg h1], if_neg (show ¬ (1 : Int) = 0 by decide)]
    rw [Bool.not_eq_true] at h1
    rw [h1, if_pos (show iI (b2i false) = 0 from rfl)]
    exact ⟨_, _, thr_n hi hw h _ 1 (by decide), up_self _ _ _, h.z6 1⟩
