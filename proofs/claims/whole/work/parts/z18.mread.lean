/-! PURE PART 18: the reference's questions -/
theorem in_run (G : GH) {a l h : Int} (ha : -2147483648 ≤ a ∧ a < 2147483648) (hl : -2147483648 ≤ l ∧ l < 2147483648) (hh : -2147483648 ≤ h ∧ h < 2147483648) : (f_X5_in (iI a) (iI l) (iI h)).1 G = some (iI (b2i (decide (l ≤ a ∧ a ≤ h))), G) := by
  unfold f_X5_in
  by_cases h1 : a < l
  · rw [if_pos (by rw [iI_lt (by omega) (by omega) (by omega) (by omega)]; exact h1), decide_eq_false (by omega)]
    rfl
  · rw [if_neg (by rw [iI_lt (by omega) (by omega) (by omega) (by omega)]; exact h1)]
    by_cases h2 : h < a
    · rw [if_pos (by rw [iI_lt (by omega) (by omega) (by omega) (by omega)]; exact h2), decide_eq_false (by omega)]
      rfl
    · rw [if_neg (by rw [iI_lt (by omega) (by omega) (by omega) (by omega)]; exact h2), decide_eq_true (by omega)]
      rfl
noncomputable def totM (s : SS) (k : Nat) (n : Nat) : Int := match k with
  | 0 => n
  | 1 => chF s n
  | 2 => maxF s 6 n
  | 3 => sumF s 6 n
  | 4 => stF s n
  | 5 => sumF s 7 n
  | 6 => rbF s n
  | _ => maxF s 9 n
def dtF (s : SS) : Nat → Nat → Nat → Nat
  | 0, a, _ => a
  | f + 1, a, b => if a = b then a else if (s.2.2.2 a).1 3 ≤ (s.2.2.2 b).1 3 then dtF s f a (par s b) else dtF s f (par s a) b
theorem held_m {G : GH} {ad : Nat → Nat} (hi : injK ad KM) {s : SS} (hs : SI s) (z : Nat → Int) {c : Nat → Nat → Int} (hc : NowR c s) {β : Type} (F : Int32 → MM β) : (mbind (mali (ad 1) 2) F).1 (MO G ad z c) = (F (iI s.2.2.1)).1 (MO G ad z c) := by
  have h2 := mo_al1 (G := G) hi z c (i := 2) (by omega) (by omega) F
  rw [show iI 2 = 2 from rfl, show (Int.toNat 2) = 2 from rfl, hc.2.2.1] at h2
  exact h2
theorem isV_m {G : GH} {ad : Nat → Nat} (hi : injK ad KM) {s : SS} (hs : SI s) (z : Nat → Int) {c : Nat → Nat → Int} (hc : NowR c s) {a : Int} (ha : -2147483648 ≤ a ∧ a < 2147483648) : (f_X5_isVersion (ad 0) (iI a)).1 (MO G ad z c) = some (iI (b2i (inV s a)), MO G ad z c) := by
  have h100 := hs.2.2.1
  unfold f_X5_isVersion
  rw [mo_gr0 hi, held_m hi hs z hc, lz0, lz1, iI_sub, mbind_ok (in_run _ ha (by omega) (by omega))]
  have : decide (0 ≤ a ∧ a ≤ (s.2.2.1 : Int) - 1) = inV s a := by
    unfold inV
    exact decide_eq_decide.mpr (by omega)
  rw [this, ev_bool]
  cases inV s a <;> rfl
theorem part_s {G : GH} {ad : Nat → Nat} (hi : injK ad KM) {s : SS} (hs : SI s) (z : Nat → Int) {c : Nat → Nat → Int} (hc : NowR c s) (fr : Bool) {v : Nat} (hv : v < s.2.2.1) : (f_X5_partOf (ad 0) (iI v) (iI (b2i fr))).1 (MO G ad z c) = some (iI (sPart (s.2.2.2 v).1 fr), MO G ad z c) := by
  have h1 := of_s (G := G) hi hs (z := z) hc hv (show 1 < 10 by decide)
  have h2 := of_s (G := G) hi hs (z := z) hc hv (show 2 < 10 by decide)
  rw [show iI ((1 : Nat) : Int) = 1 from rfl, mc1] at h1
  rw [show iI ((2 : Nat) : Int) = 2 from rfl, mc2] at h2
  unfold f_X5_partOf
  cases fr
  · rw [if_pos (show iI (b2i false) = 0 from rfl), mo_ck hi, mbind_ok h1, mo_ck hi, mbind_ok h2, iI_sub]
    unfold sPart
    rw [if_neg (by decide), show (s.2.2.2 v).1 4 + (s.2.2.2 v).1 5 - (s.2.2.2 v).1 4 = (s.2.2.2 v).1 5 by omega]
    rfl
  · rw [if_neg (show ¬ iI (b2i true) = 0 by decide), mo_ck hi, mbind_ok h2]
    rfl
theorem told_m {G : GH} {ad : Nat → Nat} (hi : injK ad KM) {s : SS} (hs : SI s) (z : Nat → Int) {c : Nat → Nat → Int} (hc : NowR c s) {v : Nat} (hv : v < s.2.2.1) {k : Int} (hk : 0 ≤ k ∧ k ≤ 9) : (f_X5_told (ad 0) (iI v) (iI k)).1 (MO G ad z c) = some (iI (fct (s.2.2.2 v).1 k), MO G ad z c) := by
  have h := fun j hj => of_s (G := G) hi hs (z := z) hc hv (k := j) hj
  have g0 := h 0 (by decide)
  have g1 := h 1 (by decide)
  have g3 := h 3 (by decide)
  have g4 := h 4 (by decide)
  have g5 := h 5 (by decide)
  have g6 := h 6 (by decide)
  have g7 := h 7 (by decide)
  have g8 := h 8 (by decide)
  have pt := part_s (G := G) hi hs z hc true hv
  have pf := part_s (G := G) hi hs z hc false hv
  have : k = 0 ∨ k = 1 ∨ k = 2 ∨ k = 3 ∨ k = 4 ∨ k = 5 ∨ k = 6 ∨ k = 7 ∨ k = 8 ∨ k = 9 := by omega
  rcases this with e | e | e | e | e | e | e | e | e | e <;> subst e <;> unfold f_X5_told
  · rw [if_pos (by decide), mo_ck hi]
    exact mbind_ok g0
  · rw [if_neg (by decide), if_pos (by decide), mo_ck hi]
    exact mbind_ok g1
  · rw [if_neg (by decide), if_neg (by decide), if_pos (by decide), mo_ck hi]
    exact mbind_ok pt
  · rw [if_neg (by decide), if_neg (by decide), if_neg (by decide), if_pos (by decide), mo_ck hi]
    exact mbind_ok pf
  · rw [if_neg (by decide), if_neg (by decide), if_neg (by decide), if_neg (by decide), if_pos (by decide), mo_ck hi]
    exact mbind_ok g3
  · rw [if_neg (by decide), if_neg (by decide), if_neg (by decide), if_neg (by decide), if_neg (by decide), if_pos (by decide), mo_ck hi]
    exact mbind_ok g4
  · rw [if_neg (by decide), if_neg (by decide), if_neg (by decide), if_neg (by decide), if_neg (by decide), if_neg (by decide), if_pos (by decide), mo_ck hi]
    exact mbind_ok g5
  · rw [if_neg (by decide), if_neg (by decide), if_neg (by decide), if_neg (by decide), if_neg (by decide), if_neg (by decide), if_neg (by decide), if_pos (by decide), mo_ck hi]
    exact mbind_ok g6
  · rw [if_neg (by decide), if_neg (by decide), if_neg (by decide), if_neg (by decide), if_neg (by decide), if_neg (by decide), if_neg (by decide), if_neg (by decide), if_pos (by decide), mo_ck hi]
    exact mbind_ok g7
  · rw [if_neg (by decide), if_neg (by decide), if_neg (by decide), if_neg (by decide), if_neg (by decide), if_neg (by decide), if_neg (by decide), if_neg (by decide), if_neg (by decide), mo_ck hi]
    exact mbind_ok g8
theorem hc_loop {G : GH} {ad : Nat → Nat} (hi : injK ad KM) {s : SS} (hs : SI s) (z : Nat → Int) {c : Nat → Nat → Int} (hc : NowR c s) {v : Nat} (hv : v < s.2.2.1) : ∀ d fu m, m + d = s.2.2.1 → d < fu → v < m → (∀ j, 1 ≤ j → j < m → (s.2.2.2 j).1 0 ≠ (v : Int)) → (f_X5_hasChild_4 fu (ad 0) (iI v) (iI m)).1 (MO G ad z c) = some (iI (@ite _ (hasCh s v) (Classical.propDecidable _) 1 0), MO G ad z c)
  | _, 0, _, _, h, _, _ => absurd h (by omega)
  | 0, fu + 1, m, e, _, _, hn => by
    have h100 := hs.2.2.1
    have : m = s.2.2.1 := by omega
    subst this
    have hno : ¬ hasCh s v := fun ⟨j, a, b, x⟩ => hn j a b x
    rw [if_neg hno, f_X5_hasChild_4, mo_gr0 hi, held_m hi hs z hc, if_pos (by rw [iI_le (by omega) (by omega) (by omega) (by omega)]; omega)]
    rfl
  | d + 1, fu + 1, m, e, hf, hvm, hn => by
    have h100 := hs.2.2.1
    have h0 := of_s (G := G) hi hs (z := z) hc (show m < s.2.2.1 by omega) (show 0 < 10 by decide)
    rw [show iI ((0 : Nat) : Int) = 0 from rfl, mc0] at h0
    have hp := par_dep hs (show m < s.2.2.1 by omega) (by omega)
    rw [f_X5_hasChild_4, mo_gr0 hi, held_m hi hs z hc, if_neg (by rw [iI_le (by omega) (by omega) (by omega) (by omega)]; omega), mo_ck hi, mbind_ok h0]
    by_cases h : (s.2.2.2 m).1 0 = (v : Int)
    · have hyes : hasCh s v := ⟨m, by omega, by omega, h⟩
      rw [if_pos (by rw [h]), if_pos hyes]
      rfl
    · rw [if_neg (by rw [iI_eq (by omega) (by omega) (by omega) (by omega)]; exact h), lz1, iI_add]
      refine hc_loop hi hs z hc hv d fu (m + 1) (by omega) (by omega) (by omega) ?_
      intro j a b
      by_cases hjm : j = m
      · rw [hjm]; exact h
      · exact hn j a (by omega)
theorem hc_run {G : GH} {ad : Nat → Nat} (hi : injK ad KM) {s : SS} (hs : SI s) (z : Nat → Int) {c : Nat → Nat → Int} (hc : NowR c s) {v : Nat} (hv : v < s.2.2.1) : (f_X5_hasChild (ad 0) (iI v)).1 (MO G ad z c) = some (iI (@ite _ (hasCh s v) (Classical.propDecidable _) 1 0), MO G ad z c) := by
  have h100 := hs.2.2.1
  unfold f_X5_hasChild
  rw [lz1, iI_add, show (v : Int) + 1 = ((v + 1 : Nat) : Int) by omega]
  refine hc_loop hi hs z hc hv (s.2.2.1 - (v + 1)) FU (v + 1) (by omega) (by unfold FU; omega) (by omega) ?_
  intro j a b hh
  have := par_dep hs (show j < s.2.2.1 by omega) (by omega)
  omega
theorem ct_loop {G : GH} {ad : Nat → Nat} (hi : injK ad KM) {s : SS} (hs : SI s) (z : Nat → Int) {c : Nat → Nat → Int} (hc : NowR c s) {k : Nat} (hk : k < 8) : ∀ d fu m, m + d = s.2.2.1 → d < fu → (f_X5_counted_4 fu (ad 0) (iI k) (iI (totM s k m)) (iI m)).1 (MO G ad z c) = some (iI (totM s k s.2.2.1), MO G ad z c)
  | _, 0, _, _, h => absurd h (by omega)
  | 0, fu + 1, m, e, _ => by
    have h100 := hs.2.2.1
    have : m = s.2.2.1 := by omega
    subst this
    rw [f_X5_counted_4, mo_gr0 hi, held_m hi hs z hc, if_pos (by rw [iI_le (by omega) (by omega) (by omega) (by omega)]; omega)]
    rfl
  | d + 1, fu + 1, m, e, hf => by
    have h100 := hs.2.2.1
    have hm : m < s.2.2.1 := by omega
    have hvb := (hs.2.2.2 m hm).1
    unfold VBn at hvb
    have ih := ct_loop hi hs z hc (G := G) hk d fu (m + 1) (by omega) (by omega)
    have g4 := of_s (G := G) hi hs (z := z) hc hm (show 4 < 10 by decide)
    have g5 := of_s (G := G) hi hs (z := z) hc hm (show 5 < 10 by decide)
    have g6 := of_s (G := G) hi hs (z := z) hc hm (show 6 < 10 by decide)
    have g8 := of_s (G := G) hi hs (z := z) hc hm (show 8 < 10 by decide)
    rw [show iI ((4 : Nat) : Int) = 4 from rfl, mc4] at g4
    rw [show iI ((5 : Nat) : Int) = 5 from rfl, mc5] at g5
    rw [show iI ((6 : Nat) : Int) = 6 from rfl, mc6] at g6
    rw [show iI ((8 : Nat) : Int) = 8 from rfl, mc8] at g8
    have hmm : iI (m : Int) + 1 = iI ((m + 1 : Nat) : Int) := by rw [lz1, iI_add]; rfl
    rw [← ih, f_X5_counted_4, mo_gr0 hi, held_m hi hs z hc, if_neg (by rw [iI_le (by omega) (by omega) (by omega) (by omega)]; omega), hmm]
    have : k = 0 ∨ k = 1 ∨ k = 2 ∨ k = 3 ∨ k = 4 ∨ k = 5 ∨ k = 6 ∨ k = 7 := by omega
    rcases this with e | e | e | e | e | e | e | e <;> subst e
    · rw [if_pos (by decide), lz1, iI_add]
      rfl
    · rw [if_neg (by decide), if_pos (by decide), mo_ck hi, mbind_ok (hc_run hi hs z hc hm)]
      show _ = (f_X5_counted_4 fu (ad 0) (iI ((1 : Nat) : Int)) (iI (chF s m + @ite _ (hasCh s m) (Classical.propDecidable _) 0 1)) _).1 _
      by_cases h : hasCh s m
      · rw [if_pos h, if_pos h, if_neg (by decide), lz0, iI_add]
        rfl
      · rw [if_neg h, if_neg h, if_pos (by decide), lz1, iI_add]
        rfl
    · have hb := maxF_b (L := 1) (by decide) hs (k := 6) (by omega) m (by omega)
      rw [if_neg (by decide), if_neg (by decide), if_pos (by decide), mo_ck hi, mbind_ok g5]
      show _ = (f_X5_counted_4 fu (ad 0) (iI ((2 : Nat) : Int)) (iI (max (maxF s 6 m) ((s.2.2.2 m).1 8))) _).1 _
      show (if iI ((s.2.2.2 m).1 8) ≤ iI (maxF s 6 m) then _ else _ : MM Int32).1 _ = _
      by_cases h : (s.2.2.2 m).1 8 ≤ maxF s 6 m
      · rw [if_pos (by rw [iI_le (by omega) (by omega) (by omega) (by omega)]; exact h), show max (maxF s 6 m) ((s.2.2.2 m).1 8) = maxF s 6 m by omega]
        rfl
      · rw [if_neg (by rw [iI_le (by omega) (by omega) (by omega) (by omega)]; exact h), mo_ck hi, mbind_ok g5, show max (maxF s 6 m) ((s.2.2.2 m).1 8) = (s.2.2.2 m).1 8 by omega]
    · rw [if_neg (by decide), if_neg (by decide), if_neg (by decide), if_pos (by decide), mo_ck hi, mbind_ok g5, iI_add]
      rfl
    · rw [if_neg (by decide), if_neg (by decide), if_neg (by decide), if_neg (by decide), if_pos (by decide), mo_ck hi, mbind_ok g6]
      show _ = (f_X5_counted_4 fu (ad 0) (iI ((4 : Nat) : Int)) (iI (stF s m + if 0 < (s.2.2.2 m).1 9 then 1 else 0)) _).1 _
      by_cases h : 0 < (s.2.2.2 m).1 9
      · rw [if_neg (by rw [lz0, iI_le (by omega) (by omega) (by omega) (by omega)]; omega), if_pos h, lz1, iI_add]
        rfl
      · rw [if_pos (by rw [lz0, iI_le (by omega) (by omega) (by omega) (by omega)]; omega), if_neg h, lz0, iI_add]
        rfl
    · rw [if_neg (by decide), if_neg (by decide), if_neg (by decide), if_neg (by decide), if_neg (by decide), if_pos (by decide), mo_ck hi, mbind_ok g6, iI_add]
      rfl
    · rw [if_neg (by decide), if_neg (by decide), if_neg (by decide), if_neg (by decide), if_neg (by decide), if_neg (by decide), if_pos (by decide), mo_ck hi, mbind_ok g4]
      show _ = (f_X5_counted_4 fu (ad 0) (iI ((6 : Nat) : Int)) (iI (rbF s m + if 0 < (s.2.2.2 m).1 6 then 1 else 0)) _).1 _
      by_cases h : 0 < (s.2.2.2 m).1 6
      · rw [if_neg (by rw [lzm1, iI_eq (by omega) (by omega) (by omega) (by omega)]; omega), if_pos h, lz1, iI_add]
        rfl
      · rw [if_pos (by rw [lzm1, iI_eq (by omega) (by omega) (by omega) (by omega)]; omega), if_neg h, lz0, iI_add]
        rfl
    · have hb := maxF_b (L := 1) (by decide) hs (k := 9) (by omega) m (by omega)
      rw [if_neg (by decide), if_neg (by decide), if_neg (by decide), if_neg (by decide), if_neg (by decide), if_neg (by decide), if_neg (by decide), mo_ck hi, mbind_ok g8]
      show _ = (f_X5_counted_4 fu (ad 0) (iI ((7 : Nat) : Int)) (iI (max (maxF s 9 m) ((s.2.2.2 m).1 3))) _).1 _
      show (if iI ((s.2.2.2 m).1 3) ≤ iI (maxF s 9 m) then _ else _ : MM Int32).1 _ = _
      by_cases h : (s.2.2.2 m).1 3 ≤ maxF s 9 m
      · rw [if_pos (by rw [iI_le (by omega) (by omega) (by omega) (by omega)]; exact h), show max (maxF s 9 m) ((s.2.2.2 m).1 3) = maxF s 9 m by omega]
        rfl
      · rw [if_neg (by rw [iI_le (by omega) (by omega) (by omega) (by omega)]; exact h), mo_ck hi, mbind_ok g8, show max (maxF s 9 m) ((s.2.2.2 m).1 3) = (s.2.2.2 m).1 3 by omega]
theorem ct_run {G : GH} {ad : Nat → Nat} (hi : injK ad KM) {s : SS} (hs : SI s) (z : Nat → Int) {c : Nat → Nat → Int} (hc : NowR c s) {k : Nat} (hk : k < 8) : (f_X5_counted (ad 0) (iI k)).1 (MO G ad z c) = some (iI (totF s k), MO G ad z c) := by
  have h100 := hs.2.2.1
  have := ct_loop (G := G) hi hs z hc hk s.2.2.1 FU 0 (by omega) (by unfold FU; omega)
  have e0 : totM s k 0 = 0 := by
    have : k = 0 ∨ k = 1 ∨ k = 2 ∨ k = 3 ∨ k = 4 ∨ k = 5 ∨ k = 6 ∨ k = 7 := by omega
    rcases this with e | e | e | e | e | e | e | e <;> subst e <;> rfl
  have e1 : totM s k s.2.2.1 = totF s k := by
    have : k = 0 ∨ k = 1 ∨ k = 2 ∨ k = 3 ∨ k = 4 ∨ k = 5 ∨ k = 6 ∨ k = 7 := by omega
    rcases this with e | e | e | e | e | e | e | e <;> subst e <;> rfl
  rw [e0, e1, show iI ((0 : Nat) : Int) = 0 from rfl, show iI 0 = 0 from rfl] at this
  exact this
theorem dt_loop {G : GH} {ad : Nat → Nat} (hi : injK ad KM) {s : SS} (hs : SI s) (z : Nat → Int) {c : Nat → Nat → Int} (hc : NowR c s) : ∀ f fu a b, f < fu → a < s.2.2.1 → b < s.2.2.1 → a + b ≤ f → (f_X5_common_39 fu (ad 0) (iI a) (iI b)).1 (MO G ad z c) = some (iI (dtF s f a b), MO G ad z c)
  | _, 0, _, _, h, _, _, _ => absurd h (by omega)
  | 0, fu + 1, a, b, _, ha, hb, hab => by
    have : a = b := by omega
    subst this
    rw [f_X5_common_39, if_pos rfl]
    rfl
  | f + 1, fu + 1, a, b, hf, ha, hb, hab => by
    have h100 := hs.2.2.1
    rw [f_X5_common_39]
    unfold dtF
    by_cases h1 : a = b
    · rw [if_pos (by rw [h1]), if_pos h1]
      rfl
    · have da := dep_b hs ha
      have db := dep_b hs hb
      have ga := of_s (G := G) hi hs (z := z) hc ha (show 8 < 10 by decide)
      have gb := of_s (G := G) hi hs (z := z) hc hb (show 8 < 10 by decide)
      rw [show iI ((8 : Nat) : Int) = 8 from rfl, mc8] at ga gb
      rw [if_neg (by rw [iI_eq (by omega) (by omega) (by omega) (by omega)]; omega), if_neg h1, mo_ck hi, mbind_ok ga, mo_ck hi, mbind_ok gb]
      by_cases h2 : (s.2.2.2 a).1 3 ≤ (s.2.2.2 b).1 3
      · have hb0 : 0 < b := by
          by_cases hb0 : b = 0
          · have h4 := dep_0 hs ha (by rw [hb0] at h2 db; omega)
            omega
          · omega
        have hp := par_dep hs hb hb0
        have g0 := of_s (G := G) hi hs (z := z) hc hb (show 0 < 10 by decide)
        rw [show iI ((0 : Nat) : Int) = 0 from rfl, mc0, hp.1] at g0
        rw [if_pos (by rw [iI_le (by omega) (by omega) (by omega) (by omega)]; exact h2), if_pos h2, mo_ck hi, mbind_ok g0]
        exact dt_loop hi hs z hc f fu a (par s b) (by omega) ha (by omega) (by omega)
      · have ha0 := dep_pos hs ha (by omega)
        have hp := par_dep hs ha ha0
        have g0 := of_s (G := G) hi hs (z := z) hc ha (show 0 < 10 by decide)
        rw [show iI ((0 : Nat) : Int) = 0 from rfl, mc0, hp.1] at g0
        rw [if_neg (by rw [iI_le (by omega) (by omega) (by omega) (by omega)]; exact h2), if_neg h2, mo_ck hi, mbind_ok g0]
        exact dt_loop hi hs z hc f fu (par s a) b (by omega) (by omega) hb (by omega)
/-- an ancestor, or the version itself -/
def anc (s : SS) : Nat → Nat → Nat
  | 0, a => a
  | n + 1, a => anc s n (par s a)
def isA (s : SS) (x a : Nat) : Prop := ∃ n, anc s n a = x
theorem isA_par {s : SS} (hs : SI s) {x a : Nat} (h : isA s x (par s a)) : isA s x a := by
  obtain ⟨n, e⟩ := h
  exact ⟨n + 1, e⟩
theorem isA_up {s : SS} (hs : SI s) {x a : Nat} (h : isA s x a) (hn : x ≠ a) : isA s x (par s a) := by
  obtain ⟨n, e⟩ := h
  cases n with
  | zero => exact absurd e.symm hn
  | succ n => exact ⟨n, e⟩
theorem par_00 {s : SS} (hs : SI s) : par s 0 = 0 := by
  have h100 := hs.2.2.1
  unfold par
  rw [(hs.2.2.2 0 (by omega)).2.2.1 rfl]
  rfl
theorem anc_le {s : SS} (hs : SI s) : ∀ n a, a < s.2.2.1 → anc s n a ≤ a ∧ (anc s n a ≠ a → (s.2.2.2 (anc s n a)).1 3 < (s.2.2.2 a).1 3)
  | 0, a, _ => ⟨Nat.le_refl _, fun h => absurd rfl h⟩
  | n + 1, a, ha => by
    by_cases h0 : a = 0
    · subst h0
      show anc s n (par s 0) ≤ 0 ∧ _
      have ih := anc_le hs n 0 ha
      have e : anc s (n + 1) 0 = anc s n 0 := by show anc s n (par s 0) = _; rw [par_00 hs]
      rw [e, par_00 hs]
      exact ih
    · have hp := par_dep hs ha (by omega)
      have ih := anc_le hs n (par s a) (by omega)
      have e : anc s (n + 1) a = anc s n (par s a) := rfl
      rw [e]
      refine ⟨by omega, fun _ => ?_⟩
      by_cases h1 : anc s n (par s a) = par s a
      · rw [h1]
        omega
      · have := ih.2 h1
        omega
theorem isA_le {s : SS} (hs : SI s) {x a : Nat} (ha : a < s.2.2.1) (h : isA s x a) : x ≤ a ∧ (x ≠ a → (s.2.2.2 x).1 3 < (s.2.2.2 a).1 3) := by
  obtain ⟨n, e⟩ := h
  rw [← e]
  exact anc_le hs n a ha
theorem mt_spec {s : SS} (hs : SI s) : ∀ f a b, a < s.2.2.1 → b < s.2.2.1 → a + b ≤ f → mtF s f a b < s.2.2.1 ∧ ∀ x, isA s x (mtF s f a b) ↔ isA s x a ∧ isA s x b
  | 0, a, b, ha, hb, hab => by
    have : a = b := by omega
    subst this
    exact ⟨ha, fun x => ⟨fun h => ⟨h, h⟩, fun h => h.1⟩⟩
  | f + 1, a, b, ha, hb, hab => by
    unfold mtF
    by_cases h1 : a = b
    · subst h1
      rw [if_pos rfl]
      exact ⟨ha, fun x => ⟨fun h => ⟨h, h⟩, fun h => h.1⟩⟩
    · rw [if_neg h1]
      by_cases h2 : a ≤ b
      · rw [if_pos h2]
        have hp := par_dep hs hb (by omega)
        obtain ⟨i1, i2⟩ := mt_spec hs f a (par s b) ha (by omega) (by omega)
        refine ⟨i1, fun x => (i2 x).trans ⟨fun h => ⟨h.1, isA_par hs h.2⟩, fun h => ⟨h.1, isA_up hs h.2 (fun e => ?_)⟩⟩⟩
        have := (isA_le hs ha h.1).1
        omega
      · rw [if_neg h2]
        have hp := par_dep hs ha (by omega)
        obtain ⟨i1, i2⟩ := mt_spec hs f (par s a) b (by omega) hb (by omega)
        refine ⟨i1, fun x => (i2 x).trans ⟨fun h => ⟨isA_par hs h.1, h.2⟩, fun h => ⟨isA_up hs h.1 (fun e => ?_), h.2⟩⟩⟩
        have := (isA_le hs hb h.2).1
        omega
theorem dt_spec {s : SS} (hs : SI s) : ∀ f a b, a < s.2.2.1 → b < s.2.2.1 → a + b ≤ f → dtF s f a b < s.2.2.1 ∧ ∀ x, isA s x (dtF s f a b) ↔ isA s x a ∧ isA s x b
  | 0, a, b, ha, hb, hab => by
    have : a = b := by omega
    subst this
    exact ⟨ha, fun x => ⟨fun h => ⟨h, h⟩, fun h => h.1⟩⟩
  | f + 1, a, b, ha, hb, hab => by
    unfold dtF
    by_cases h1 : a = b
    · subst h1
      rw [if_pos rfl]
      exact ⟨ha, fun x => ⟨fun h => ⟨h, h⟩, fun h => h.1⟩⟩
    · rw [if_neg h1]
      have da := dep_b hs ha
      have db := dep_b hs hb
      by_cases h2 : (s.2.2.2 a).1 3 ≤ (s.2.2.2 b).1 3
      · rw [if_pos h2]
        have hb0 : 0 < b := by
          by_cases hb0 : b = 0
          · have h4 := dep_0 hs ha (by rw [hb0] at h2 db; omega)
            omega
          · omega
        have hp := par_dep hs hb hb0
        obtain ⟨i1, i2⟩ := dt_spec hs f a (par s b) ha (by omega) (by omega)
        refine ⟨i1, fun x => (i2 x).trans ⟨fun h => ⟨h.1, isA_par hs h.2⟩, fun h => ⟨h.1, isA_up hs h.2 (fun e => ?_)⟩⟩⟩
        have := (isA_le hs ha h.1).2 (by omega)
        rw [e] at this
        omega
      · rw [if_neg h2]
        have hp := par_dep hs ha (dep_pos hs ha (by omega))
        obtain ⟨i1, i2⟩ := dt_spec hs f (par s a) b (by omega) hb (by omega)
        refine ⟨i1, fun x => (i2 x).trans ⟨fun h => ⟨isA_par hs h.1, h.2⟩, fun h => ⟨isA_up hs h.1 (fun e => ?_), h.2⟩⟩⟩
        have := (isA_le hs hb h.2).2 (by omega)
        rw [e] at this
        omega
theorem lca_eq {s : SS} (hs : SI s) {f g a b : Nat} (ha : a < s.2.2.1) (hb : b < s.2.2.1) (hf : a + b ≤ f) (hg : a + b ≤ g) : dtF s f a b = mtF s g a b := by
  obtain ⟨i1, i2⟩ := dt_spec hs f a b ha hb hf
  obtain ⟨j1, j2⟩ := mt_spec hs g a b ha hb hg
  have h1 : isA s (dtF s f a b) (mtF s g a b) := (j2 _).mpr ((i2 _).mp ⟨0, rfl⟩)
  have h2 : isA s (mtF s g a b) (dtF s f a b) := (i2 _).mpr ((j2 _).mp ⟨0, rfl⟩)
  have := (isA_le hs j1 h1).1
  have := (isA_le hs i1 h2).1
  omega
