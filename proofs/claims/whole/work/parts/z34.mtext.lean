/-! PURE PART 34: the reference reads the text as the class does -/
def bA (bt : Nat → Int) (n p : Nat) : Int := if p < n then bt p else -1
def AG (c : Nat → Nat → Int) (t : TT) : Prop := ∀ j, j < t.2.2.2.1 → c 13 j = t.2.2.2.2.1 j ∧ (t.2.2.2.2.1 j < 2 → c 14 j = t.2.2.2.2.2 j)
/-- what a reading changes -/
def KQ (z : Nat → Int) (c : Nat → Nat → Int) (z' : Nat → Int) (c' : Nat → Nat → Int) : Prop := (∀ j, j ≠ 14 → j ≠ 15 → z' j = z j) ∧ ∀ j, j ≠ 13 → j ≠ 14 → c' j = c j
theorem KQ.rf (z : Nat → Int) (c : Nat → Nat → Int) : KQ z c z c := ⟨fun _ _ _ => rfl, fun _ _ _ => rfl⟩
theorem KQ.tr {z z1 z2 : Nat → Int} {c c1 c2 : Nat → Nat → Int} (h : KQ z c z1 c1) (k : KQ z1 c1 z2 c2) : KQ z c z2 c2 := ⟨fun j a b => (k.1 j a b).trans (h.1 j a b), fun j a b => (k.2 j a b).trans (h.2 j a b)⟩
def stg (s0 : Int) (l : Nat) : Int := if l = 0 then s0 else 2 + l
theorem bA_b {ad : Nat → Nat} (hi : injK ad KM) {n : Nat} (hn : n ≤ 100) {bt : Nat → Int} (hb : ∀ j, j < n → 0 ≤ bt j ∧ bt j ≤ 127) (p : Nat) : -1 ≤ bA bt n p ∧ bA bt n p ≤ 127 := by
  unfold bA
  split
  · rename_i h
    have := hb p h
    omega
  · omega
theorem byte_m {G : GH} {ad : Nat → Nat} (hi : injK ad KM) {n : Nat} (hn : n ≤ 100) {bt : Nat → Int} (hb : ∀ j, j < n → 0 ≤ bt j ∧ bt j ≤ 127) {z : Nat → Int} {c : Nat → Nat → Int} (h5 : z 5 = n) (hc : ∀ j, j < n → c 5 j = bt j) {p : Nat} (hp : p ≤ 1000) : (f_X5_byteAt (ad 0) (iI p)).1 (MO G ad z c) = some (iI (bA bt n p), MO G ad z c) := by
  unfold f_X5_byteAt bA
  rw [mo_gi5 hi, h5]
  by_cases h : p < n
  · rw [if_neg (by rw [iI_le (by omega) (by omega) (by omega) (by omega)]; omega), if_pos h, mo_gr4 hi, mo_al5 hi _ _ (by omega) (by omega), show ((p : Int)).toNat = p by omega, hc p h]
    rfl
  · rw [if_pos (by rw [iI_le (by omega) (by omega) (by omega) (by omega)]; omega), if_neg h]
    rfl
theorem rv97_m {G : GH} {ad : Nat → Nat} (hi : injK ad KM) {n : Nat} (hn : n ≤ 100) {bt : Nat → Int} (hb : ∀ j, j < n → 0 ≤ bt j ∧ bt j ≤ 127) {z : Nat → Int} {c : Nat → Nat → Int} {cnt : Nat} (h14 : z 14 = cnt) (hc : cnt < 50) (bl : Bool) (l : Nat) (hl : l ≤ 3) (v : Int) : (f_X5_readsValue_97 (ad 0) (iI (b2i bl)) (iI l) (iI v)).1 (MO G ad z c) = some (iI (b2i (decide (0 < l))), MO G ad z (va_up c 14 (va_up (c 14) cnt (if bl = true then -v else v)))) := by
  have hz : ∀ H : GH, ((if iI (l : Int) ≤ 0 then (mbind (mbool 0) (fun _ => mpure 0)) else (mbind (mbool 1) (fun _ => mpure 1)) : MM Int32)).1 H = some (iI (b2i (decide (0 < l))), H) := by
    intro H
    by_cases h0 : 0 < l
    · rw [if_neg (by rw [lz0, iI_le (by omega) (by omega) (by omega) (by omega)]; omega), decide_eq_true h0]
      rfl
    · rw [if_pos (by rw [lz0, iI_le (by omega) (by omega) (by omega) (by omega)]; omega), decide_eq_false h0]
      rfl
  unfold f_X5_readsValue_97
  rw [mo_gr13 hi, mo_gi14 hi, h14]
  cases bl with
  | false =>
    rw [if_pos (show iI (b2i false) = 0 from rfl), mo_as14 hi _ _ (by omega) (by omega), show ((cnt : Int)).toNat = cnt by omega, hz, if_neg (by decide)]
  | true =>
    rw [if_neg (show ¬ iI (b2i true) = 0 by decide), iI_neg, mo_as14 hi _ _ (by omega) (by omega), show ((cnt : Int)).toNat = cnt by omega, hz, if_pos rfl]
theorem dg_m {G : GH} {ad : Nat → Nat} (hi : injK ad KM) {n : Nat} (hn : n ≤ 100) {bt : Nat → Int} (hb : ∀ j, j < n → 0 ≤ bt j ∧ bt j ≤ 127) {c : Nat → Nat → Int} (hc : ∀ j, j < n → c 5 j = bt j) {s0 : Int} (hs : s0 = 1 ∨ s0 = 2) (bl : Bool) (kd : Int) (T : Nat × (Nat → Int) × (Nat → Int)) : ∀ (k fu l p : Nat) (z : Nat → Int) (v : Int), l + k = 3 → k < fu → z 15 = (p : Nat) → z 5 = n → p ≤ n →
    ∃ (l' p' : Nat) (v' : Int), l' ≤ 3 ∧ p' ≤ n ∧ p ≤ p' ∧ (l' = 0 → l = 0 ∧ p' = p) ∧ (l' = 3 ∨ ¬ (48 ≤ bA bt n p' ∧ bA bt n p' ≤ 57)) ∧ (f_X5_readsValue_41 fu (ad 0) (iI (b2i bl)) (iI l) (iI v)).1 (MO G ad z c) = (f_X5_readsValue_97 (ad 0) (iI (b2i bl)) (iI l') (iI v')).1 (MO G ad (va_up z 15 p') c) ∧ tRun bt (n - p) p (stg s0 l) (kd, bl, v, T) = tRun bt (n - p') p' (stg s0 l') (kd, bl, v', T)
  | _, 0, _, _, _, _, _, h, _, _, _ => absurd h (by omega)
  | 0, fu + 1, l, p, z, v, e, _, h15, h5, hp => by
    refine ⟨l, p, v, by omega, hp, Nat.le_refl _, fun h => ⟨h, rfl⟩, Or.inl (by omega), ?_, rfl⟩
    rw [f_X5_readsValue_41, if_pos (by rw [lz3, iI_le (by omega) (by omega) (by omega) (by omega)]; omega), up_same h15]
  | k + 1, fu + 1, l, p, z, v, e, hf, h15, h5, hp => by
    have hbb := bA_b (ad := ad) hi hn hb p
    have hby := byte_m (G := G) hi hn hb h5 hc (p := p) (by omega)
    have hin := in_run (MO G ad z c) (a := bA bt n p) (l := 48) (h := 57) (by omega) (by decide) (by decide)
    rw [f_X5_readsValue_41, if_neg (by rw [lz3, iI_le (by omega) (by omega) (by omega) (by omega)]; omega), mo_gi15 hi, mo_ck hi, h15, mbind_ok hby, show f_X5_in (iI (bA bt n p)) 48 57 = f_X5_in (iI (bA bt n p)) (iI 48) (iI 57) from rfl, mbind_ok hin]
    by_cases hd : 48 ≤ bA bt n p ∧ bA bt n p ≤ 57
    · have hpn : p < n := by
        apply Classical.byContradiction
        intro hh
        unfold bA at hd
        rw [if_neg hh] at hd
        omega
      obtain ⟨l', p', v', g1, g2, g3, g4, g5, g6, g7⟩ := dg_m hi hn hb hc hs bl kd T k fu (l + 1) (p + 1) (va_up z 15 ((p + 1 : Nat) : Int)) (v * 10 + (bA bt n p - 48)) (by omega) (by omega) (up_self _ _ _) ((up_ne _ _ (by decide)).trans h5) (by omega)
      refine ⟨l', p', v', g1, g2, by omega, fun h => absurd (g4 h).1 (by omega), g5, ?_, ?_⟩
      · rw [decide_eq_true hd, if_neg (show ¬ iI (b2i true) = 0 by decide), mo_gi15 hi, mo_ck hi, h15, mbind_ok hby, mo_gi15 hi, h15, lz1, iI_add, show (p : Int) + 1 = ((p + 1 : Nat) : Int) by omega, mo_pt15 hi, iI_add, show (l : Int) + 1 = ((l + 1 : Nat) : Int) by omega]
        rw [lz10, iI_mul, iI_add, show (48 : Int32) = iI 48 from rfl, iI_sub, show 10 * v + bA bt n p - 48 = v * 10 + (bA bt n p - 48) by omega, g6, up_idem]
      · rw [← g7]
        obtain ⟨q, hq⟩ : ∃ q, n - p = q + 1 := ⟨n - p - 1, by omega⟩
        have hbp : bA bt n p = bt p := if_pos hpn
        have hst : stg s0 l ≠ 0 ∧ stg s0 l < 5 := by
          unfold stg
          split <;> omega
        have hnx : tNext (stg s0 l) (kd, bl, v, T) (bt p) = (stg s0 (l + 1), kd, bl, v * 10 + (bA bt n p - 48), T) := by
          unfold tNext
          rw [hbp] at hd
          rw [if_neg hst.1, if_neg (by omega), if_pos ⟨hd, hst.2⟩, hbp]
          have : (if stg s0 l < 3 then 3 else stg s0 l + 1) = stg s0 (l + 1) := by
            unfold stg
            rw [if_neg (show ¬ l + 1 = 0 by omega)]
            by_cases h0 : l = 0
            · rw [if_pos h0, if_pos (by omega)]
              omega
            · rw [if_neg h0, if_neg (by omega)]
              omega
          rw [this]
        rw [hq, tRun, hnx, if_neg (by show ¬ stg s0 (l + 1) = -1; unfold stg; rw [if_neg (by omega)]; omega), show n - (p + 1) = q by omega]
    · refine ⟨l, p, v, by omega, hp, Nat.le_refl _, fun h => ⟨h, rfl⟩, Or.inr hd, ?_, rfl⟩
      rw [decide_eq_false hd, if_pos (show iI (b2i false) = 0 from rfl), up_same h15]
theorem rv_m {G : GH} {ad : Nat → Nat} (hi : injK ad KM) {n : Nat} (hn : n ≤ 100) {bt : Nat → Int} (hb : ∀ j, j < n → 0 ≤ bt j ∧ bt j ≤ 127) {z : Nat → Int} {c : Nat → Nat → Int} (hc : ∀ j, j < n → c 5 j = bt j) {cnt p : Nat} (h14 : z 14 = cnt) (hcn : cnt < 50) (h15 : z 15 = p) (h5 : z 5 = n) (hp : p ≤ n) (kd : Int) (ks vs : Nat → Int) :
    ∃ (l' p' : Nat) (v' : Int) (bl : Bool), l' ≤ 3 ∧ p' ≤ n ∧ p ≤ p' ∧ (l' = 3 ∨ ¬ (48 ≤ bA bt n p' ∧ bA bt n p' ≤ 57)) ∧ (f_X5_readsValue (ad 0)).1 (MO G ad z c) = some (iI (b2i (decide (0 < l'))), MO G ad (va_up z 15 p') (va_up c 14 (va_up (c 14) cnt (if bl = true then -v' else v')))) ∧
      (0 < l' → tRun bt (n - p) p 1 (kd, false, 0, cnt, ks, vs) = tRun bt (n - p') p' (2 + l') (kd, bl, v', cnt, ks, vs)) ∧ (l' = 0 → (tRun bt (n - p) p 1 (kd, false, 0, cnt, ks, vs)).1 = p') := by
  have hby := byte_m (G := G) hi hn hb h5 hc (p := p) (by omega)
  have hbb := bA_b (ad := ad) hi hn hb p
  unfold f_X5_readsValue
  rw [mo_gi15 hi, mo_ck hi, h15, mbind_ok hby]
  have hend : ∀ s0 : Int, (s0 = 1 ∨ s0 = 2) → ∀ p' : Nat, p' ≤ n → ¬ (48 ≤ bA bt n p' ∧ bA bt n p' ≤ 57) → ¬ (bA bt n p' = 45 ∧ s0 = 1) → ∀ t : TT, (tRun bt (n - p') p' s0 t).1 = p' := by
    intro s0 hs0 p' hp' hd h45 t
    by_cases h : p' < n
    · obtain ⟨q, hq⟩ : ∃ q, n - p' = q + 1 := ⟨n - p' - 1, by omega⟩
      have hbp : bA bt n p' = bt p' := if_pos h
      rw [hbp] at hd h45
      have hnx : (tNext s0 t (bt p')).1 = -1 := by
        unfold tNext
        rw [if_neg (by omega), if_neg h45, if_neg (fun hh => hd hh.1), if_neg (by omega)]
      rw [hq, tRun, if_pos hnx]
    · rw [show n - p' = 0 by omega, tRun, if_neg (by omega)]
  by_cases hm : bA bt n p = 45
  · have hpn : p < n := by
      apply Classical.byContradiction
      intro hh
      unfold bA at hm
      rw [if_neg hh] at hm
      omega
    obtain ⟨l', p', v', g1, g2, g3, g4, g5, g6, g7⟩ := dg_m (G := G) hi hn hb hc (s0 := 2) (Or.inr rfl) true kd (cnt, ks, vs) 3 FU 0 (p + 1) (va_up z 15 ((p + 1 : Nat) : Int)) 0 (by omega) (by decide) (up_self _ _ _) ((up_ne _ _ (by decide)).trans h5) (by omega)
    have h97 := rv97_m (G := G) hi hn hb (z := va_up z 15 p') (c := c) ((up_ne _ _ (by decide)).trans h14) hcn true l' g1 v'
    have hstep : tRun bt (n - p) p 1 (kd, false, 0, cnt, ks, vs) = tRun bt (n - (p + 1)) (p + 1) (stg 2 0) (kd, true, 0, cnt, ks, vs) := by
      obtain ⟨q, hq⟩ : ∃ q, n - p = q + 1 := ⟨n - p - 1, by omega⟩
      have hbp : bA bt n p = bt p := if_pos hpn
      have hnx : tNext 1 (kd, false, 0, cnt, ks, vs) (bt p) = (2, kd, true, 0, cnt, ks, vs) := by
        unfold tNext
        rw [if_neg (by decide), if_pos ⟨by omega, rfl⟩]
      rw [hq, tRun, hnx, if_neg (show ¬ (2 : Int) = -1 by decide), show n - (p + 1) = q by omega]
      rfl
    refine ⟨l', p', v', true, g1, g2, by omega, g5, ?_, fun h0 => ?_, fun h0 => ?_⟩
    · rw [if_pos (by rw [hm]; rfl)]
      unfold f_X5_readsValue_18
      rw [mo_gi15 hi, if_neg (show ¬ (1 : Int32) = 0 by decide)]
      unfold f_X5_readsValue_33
      rw [h15, show iI (p : Int) + 1 = iI ((p + 1 : Nat) : Int) by rw [lz1, iI_add]; rfl, mo_pt15 hi]
      rw [up_idem, show iI (b2i true) = 1 from rfl, show iI ((0 : Nat) : Int) = 0 from rfl, show iI (0 : Int) = 0 from rfl] at g6
      rw [show iI (b2i true) = 1 from rfl] at h97
      exact g6.trans h97
    · rw [hstep, g7]
      unfold stg
      rw [if_neg (by omega)]
    · rw [hstep, g7]
      subst h0
      have hd : ¬ (48 ≤ bA bt n p' ∧ bA bt n p' ≤ 57) := by
        rcases g5 with e | e
        · omega
        · exact e
      exact hend 2 (Or.inr rfl) p' g2 hd (by omega) _
  · obtain ⟨l', p', v', g1, g2, g3, g4, g5, g6, g7⟩ := dg_m (G := G) hi hn hb hc (s0 := 1) (Or.inl rfl) false kd (cnt, ks, vs) 3 FU 0 p z 0 (by omega) (by decide) h15 h5 hp
    have h97 := rv97_m (G := G) hi hn hb (z := va_up z 15 p') (c := c) ((up_ne _ _ (by decide)).trans h14) hcn false l' g1 v'
    refine ⟨l', p', v', false, g1, g2, by omega, g5, ?_, fun h0 => ?_, fun h0 => ?_⟩
    · rw [if_neg (by rw [show (45 : Int32) = iI 45 from rfl, iI_eq (by omega) (by omega) (by omega) (by omega)]; exact hm)]
      unfold f_X5_readsValue_18
      rw [mo_gi15 hi, if_pos rfl]
      unfold f_X5_readsValue_33
      rw [h15, show iI (p : Int) + 0 = iI (p : Int) by rw [lz0, iI_add, Int.add_zero], mo_pt15 hi, up_same h15]
      rw [show iI (b2i false) = 0 from rfl, show iI ((0 : Nat) : Int) = 0 from rfl, show iI (0 : Int) = 0 from rfl] at g6
      rw [show iI (b2i false) = 0 from rfl] at h97
      exact g6.trans h97
    · rw [show (1 : Int) = stg 1 0 from rfl, g7]
      unfold stg
      rw [if_neg (by omega)]
    · have hpp := (g4 h0).2
      subst hpp
      have hd : ¬ (48 ≤ bA bt n p' ∧ bA bt n p' ≤ 57) := by
        rcases g5 with e | e
        · omega
        · exact e
      exact hend 1 (Or.inl rfl) p' g2 hd (fun hh => hm hh.1) _
