/-! PURE PART 15: the reference's way to a version, and its row made anew -/
def NowR (c : Nat → Nat → Int) (s : SS) : Prop := c 1 0 = s.1 ∧ c 1 1 = s.2.1 ∧ c 1 2 = s.2.2.1 ∧ ∀ i, i < s.2.2.1 → ∀ k, k < 10 → c 1 (3 + 10 * i + k) = mcol (s.2.2.2 i).1 k
theorem NowR.up {c : Nat → Nat → Int} {s : SS} (h : NowR c s) {k : Nat} (hk : k ≠ 1) (f : Nat → Int) : NowR (va_up c k f) s := by
  unfold NowR at h ⊢
  rw [up_ne _ _ (Ne.symm hk)]
  exact h
theorem NowR.eq {c c' : Nat → Nat → Int} {s : SS} (h : NowR c s) (e : c' 1 = c 1) : NowR c' s := by
  unfold NowR at h ⊢
  rw [e]
  exact h
def wyF (s : SS) : Nat → Nat → (Nat → Int) → (Nat → Int)
  | 0, _, wy => wy
  | m + 1, at', wy => wyF s m (par s at') (va_up wy m at')
theorem wyF_out (s : SS) : ∀ m a wy j, m ≤ j → wyF s m a wy j = wy j
  | 0, _, _, _, _ => rfl
  | m + 1, a, wy, j, h => by
    unfold wyF
    rw [wyF_out s m _ _ j (by omega), up_ne _ _ (by omega)]
theorem par_dep {s : SS} (hs : SI s) {i : Nat} (hi : i < s.2.2.1) (h0 : 0 < i) : (s.2.2.2 i).1 0 = (par s i : Int) ∧ par s i < i ∧ (s.2.2.2 i).1 3 = (s.2.2.2 (par s i)).1 3 + 1 ∧ (0 ≤ (s.2.2.2 i).1 1 ∧ (s.2.2.2 i).1 1 ≤ 3) ∧
    (s.2.2.2 i).2 = sRow (s.2.2.2 (par s i)).2 ((s.2.2.2 i).1 1) ((s.2.2.2 i).1 2) (sz (s.2.2.2 (par s i))).toNat ∧ sz (s.2.2.2 i) = sz (s.2.2.2 (par s i)) + (if (s.2.2.2 i).1 1 < 2 then 1 else -1) := by
  obtain ⟨k, h1, h2, h3⟩ := (hs.2.2.2 i hi).2.2.2.1 h0
  have e : par s i = k := by unfold par; omega
  rw [e]
  exact ⟨h2, h1, h3⟩
theorem dep_pos {s : SS} (hs : SI s) {i : Nat} (hi : i < s.2.2.1) (h : 0 < (s.2.2.2 i).1 3) : 0 < i := by
  by_cases h0 : i = 0
  · subst h0
    have := (hs.2.2.2 0 hi).2.2.1 rfl
    rw [this] at h
    exact absurd h (by decide)
  · omega
theorem dep_b {s : SS} (hs : SI s) {i : Nat} (hi : i < s.2.2.1) : 0 ≤ (s.2.2.2 i).1 3 ∧ (s.2.2.2 i).1 3 ≤ i := by
  have h1 := (hs.2.2.2 i hi).1
  have h2 := (hs.2.2.2 i hi).2.2.2.2
  unfold VBn at h1
  omega
theorem dep_0 {s : SS} (hs : SI s) {i : Nat} (hi : i < s.2.2.1) (h : (s.2.2.2 i).1 3 = 0) : i = 0 := by
  by_cases h0 : i = 0
  · exact h0
  · have h1 := par_dep hs hi (by omega)
    have h2 := dep_b hs (show par s i < s.2.2.1 by omega)
    omega
theorem wy_prop {s : SS} (hs : SI s) : ∀ (m v : Nat) (wy : Nat → Int), v < s.2.2.1 → (s.2.2.2 v).1 3 = m → ∀ j, j < m → ∃ u : Nat, wyF s m v wy j = u ∧ 0 < u ∧ u < s.2.2.1 ∧ (j = 0 → par s u = 0) ∧ (0 < j → wyF s m v wy (j - 1) = par s u) ∧ (j + 1 = m → u = v)
  | 0, _, _, _, _, j, hj => absurd hj (by omega)
  | m + 1, v, wy, hv, hm, j, hj => by
    have hv0 := dep_pos hs hv (by omega)
    have hp := par_dep hs hv hv0
    have ih := wy_prop hs m (par s v) (va_up wy m v) (by omega) (by omega)
    by_cases hjm : j = m
    · subst hjm
      have e : wyF s (j + 1) v wy j = v := by
        show wyF s j (par s v) (va_up wy j v) j = v
        rw [wyF_out s j _ _ j (Nat.le_refl _), up_self]
      refine ⟨v, e, hv0, hv, fun h0 => ?_, fun h0 => ?_, fun _ => rfl⟩
      · subst h0
        exact dep_0 hs (by omega) (by omega)
      · obtain ⟨u, c1, _, _, _, _, c2⟩ := ih (j - 1) (by omega)
        show wyF s j (par s v) (va_up wy j v) (j - 1) = _
        rw [c1, c2 (by omega)]
    · obtain ⟨u, c1, c2, c3, c4, c5, c6⟩ := ih j (by omega)
      exact ⟨u, c1, c2, c3, c4, c5, fun h => absurd h (by omega)⟩
/-- the values array holds a version's row -/
def RowIs (z : Nat → Int) (c : Nat → Nat → Int) (x : SV) : Prop := z 9 - z 8 = sz x ∧ ∀ j : Nat, (j : Int) < sz x → c 8 (z 8 + j).toNat = x.2 j
/-- what making a row changes -/
def KP (z : Nat → Int) (c : Nat → Nat → Int) (z' : Nat → Int) (c' : Nat → Nat → Int) : Prop := (∀ j, j ≠ 8 → j ≠ 9 → z' j = z j) ∧ ∀ j, j ≠ 8 → j ≠ 11 → c' j = c j
theorem KP.rf (z : Nat → Int) (c : Nat → Nat → Int) : KP z c z c := ⟨fun _ _ _ => rfl, fun _ _ _ => rfl⟩
theorem KP.tr {z z1 z2 : Nat → Int} {c c1 c2 : Nat → Nat → Int} (h : KP z c z1 c1) (k : KP z1 c1 z2 c2) : KP z c z2 c2 := ⟨fun j a b => (k.1 j a b).trans (h.1 j a b), fun j a b => (k.2 j a b).trans (h.2 j a b)⟩
theorem of_s {G : GH} {ad : Nat → Nat} (hi : injK ad KM) {s : SS} (hs : SI s) {z : Nat → Int} {c : Nat → Nat → Int} (h : NowR c s) {v k : Nat} (hv : v < s.2.2.1) (hk : k < 10) : (f_X5_of (ad 0) (iI v) (iI k)).1 (MO G ad z c) = some (iI (mcol (s.2.2.2 v).1 k), MO G ad z c) := by
  have h100 := hs.2.2.1
  rw [of_m hi z c (by omega) hk, h.2.2.2 v hv k hk]
theorem lw_loop {G : GH} {ad : Nat → Nat} (hi : injK ad KM) {s : SS} (hs : SI s) (z : Nat → Int) (n : Int32) : ∀ m fu a c, m < fu → a < s.2.2.1 → (s.2.2.2 a).1 3 = (m : Nat) → NowR c s → (f_X5_laysWay_15 fu (ad 0) n (iI a) (iI ((m : Int) - 1))).1 (MO G ad z c) = some (n, MO G ad z (va_up c 11 (wyF s m a (c 11))))
  | _, 0, _, _, h, _, _, _ => absurd h (by omega)
  | 0, fu + 1, a, c, _, ha, hm, hc => by
    unfold f_X5_laysWay_15
    rw [if_pos (by decide)]
    show some (n, MO G ad z c) = _
    rw [show va_up c 11 (wyF s 0 a (c 11)) = c from up_same rfl]
  | m + 1, fu + 1, a, c, hf, ha, hm, hc => by
    have h100 := hs.2.2.1
    have hd := dep_b hs ha
    have hp := par_dep hs ha (dep_pos hs ha (by omega))
    unfold f_X5_laysWay_15
    rw [show ((m + 1 : Nat) : Int) - 1 = (m : Int) by omega]
    rw [if_neg (by rw [lz0, iI_lt (by omega) (by omega) (by omega) (by omega)]; omega)]
    rw [mo_gr10 hi, mo_as11 hi z c (by omega) (by omega), mo_ck hi]
    have h0 := of_s (G := G) hi hs (z := z) (hc.up (k := 11) (by decide) (va_up (c 11) ((m : Int)).toNat a)) ha (show 0 < 10 by decide)
    rw [show iI ((0 : Nat) : Int) = 0 from rfl, mc0, hp.1] at h0
    rw [mbind_ok h0, lzm1, iI_add, show (m : Int) + -1 = (m : Int) - 1 by omega]
    rw [lw_loop hi hs z n m fu (par s a) _ (by omega) (by omega) (by omega) (hc.up (k := 11) (by decide) _), up_self, up_idem, show ((m : Int)).toNat = m by omega]
    rfl
theorem lw_run {G : GH} {ad : Nat → Nat} (hi : injK ad KM) {s : SS} (hs : SI s) {z : Nat → Int} {c : Nat → Nat → Int} (hc : NowR c s) {v : Nat} (hv : v < s.2.2.1) : (f_X5_laysWay (ad 0) (iI v)).1 (MO G ad z c) = some (iI ((s.2.2.2 v).1 3), MO G ad z (va_up c 11 (wyF s ((s.2.2.2 v).1 3).toNat v (c 11)))) := by
  have hd := dep_b hs hv
  have h100 := hs.2.2.1
  unfold f_X5_laysWay
  rw [mo_ck hi]
  have h0 := of_s (G := G) hi hs (z := z) hc hv (show 8 < 10 by decide)
  rw [show iI ((8 : Nat) : Int) = 8 from rfl, mc8] at h0
  rw [mbind_ok h0, lz1, iI_sub]
  have := lw_loop (G := G) hi hs z (iI ((s.2.2.2 v).1 3)) ((s.2.2.2 v).1 3).toNat FU v c (by unfold FU; omega) hv (by omega) hc
  rw [show ((((s.2.2.2 v).1 3).toNat : Nat) : Int) - 1 = (s.2.2.2 v).1 3 - 1 by omega] at this
  exact this
theorem lr_loop {G : GH} {ad : Nat → Nat} (hi : injK ad KM) {s : SS} (hs : SI s) {v n : Nat} (hv : v < s.2.2.1) (hn : (s.2.2.2 v).1 3 = (n : Nat)) (wy : Nat → Int) : ∀ d fu k (z : Nat → Int) (c : Nat → Nat → Int) (u : Nat), k + d = n → d < fu → NowR c s → c 11 = wyF s n v wy → u < s.2.2.1 → (k = 0 → u = 0) → (0 < k → wyF s n v wy (k - 1) = u) → RowIs z c (s.2.2.2 u) → (128 - (k : Int) ≤ z 8 ∧ z 9 ≤ 128 + (k : Int)) →
    ∃ z' c', (f_X5_laysRow_22 fu (ad 0) (iI n) (iI k)).1 (MO G ad z c) = some ((), MO G ad z' c') ∧ KP z c z' c' ∧ RowIs z' c' (s.2.2.2 v) ∧ (28 ≤ z' 8 ∧ z' 9 ≤ 228) ∧ c' 11 = c 11
  | _, 0, _, _, _, _, _, h, _, _, _, _, _, _, _ => absurd h (by omega)
  | 0, fu + 1, k, z, c, u, e, _, hc, hw, hu, hk0, hk1, hr, hb => by
    have hd := dep_b hs hv
    have h100 := hs.2.2.1
    have : k = n := by omega
    subst this
    have huv : u = v := by
      by_cases h0 : k = 0
      · rw [hk0 h0]
        exact (dep_0 hs hv (by omega)).symm
      · obtain ⟨x, c1, _, _, _, _, c2⟩ := wy_prop hs k v wy hv hn (k - 1) (by omega)
        have := hk1 (by omega)
        rw [c1, c2 (by omega)] at this
        omega
    subst huv
    refine ⟨z, c, ?_, KP.rf z c, hr, ?_, rfl⟩
    · unfold f_X5_laysRow_22
      rw [if_pos (by rw [iI_le (by omega) (by omega) (by omega) (by omega)]; omega)]
      rfl
    · omega
  | d + 1, fu + 1, k, z, c, u, e, hf, hc, hw, hu, hk0, hk1, hr, hb => by
    have hd := dep_b hs hv
    have h100 := hs.2.2.1
    obtain ⟨x, c1, c2, c3, c4, c5, c6⟩ := wy_prop hs n v wy hv hn k (by omega)
    have hpu : par s x = u := by
      by_cases h0 : k = 0
      · rw [c4 h0, hk0 h0]
      · have h1 := c5 (by omega)
        rw [hk1 (by omega)] at h1
        omega
    obtain ⟨p1, p2, p3, p4, p5, p6⟩ := par_dep hs c3 c2
    rw [hpu] at p5 p6
    have hsz := (hs.2.2.2 u hu).1
    unfold VBn at hsz
    have hszu : 0 ≤ sz (s.2.2.2 u) ∧ sz (s.2.2.2 u) ≤ 40 := by unfold sz; omega
    have hszx := (hs.2.2.2 x c3).1
    unfold VBn at hszx
    have hszx' : 0 ≤ sz (s.2.2.2 x) := by unfold sz; omega
    have hwk : c 11 ((k : Int)).toNat = x := by rw [hw, show ((k : Int)).toNat = k by omega, c1]
    have hkk : iI (k : Int) + 1 = iI ((k + 1 : Nat) : Int) := by rw [lz1, iI_add]; rfl
    have hnext : ∀ (z1 : Nat → Int) (c1' : Nat → Nat → Int), KP z c z1 c1' → c1' 11 = c 11 → RowIs z1 c1' (s.2.2.2 x) → (128 - ((k + 1 : Nat) : Int) ≤ z1 8 ∧ z1 9 ≤ 128 + ((k + 1 : Nat) : Int)) →
        ∃ z' c', (f_X5_laysRow_22 fu (ad 0) (iI n) (iI ((k + 1 : Nat) : Int))).1 (MO G ad z1 c1') = some ((), MO G ad z' c') ∧ KP z c z' c' ∧ RowIs z' c' (s.2.2.2 v) ∧ (28 ≤ z' 8 ∧ z' 9 ≤ 228) ∧ c' 11 = c 11 := by
      intro z1 c1' hkp h11 hr1 hb1
      obtain ⟨z', c', e1, e2, e3, e4, e5⟩ := lr_loop hi hs hv hn wy d fu (k + 1) z1 c1' x (by omega) (by omega) (hc.eq (hkp.2 1 (by decide) (by decide))) (h11.trans hw) c3 (fun h => absurd h (by omega)) (fun _ => by rw [show k + 1 - 1 = k by omega, c1]) hr1 hb1
      exact ⟨z', c', e1, hkp.tr e2, e3, e4, e5.trans h11⟩
    have hact := of_s (G := G) hi hs (z := z) hc c3 (show 7 < 10 by decide)
    rw [show iI ((7 : Nat) : Int) = 7 from rfl, mc7] at hact
    have estart : (f_X5_laysRow_22 (fu + 1) (ad 0) (iI n) (iI k)).1 (MO G ad z c) = (f_X5_laysRow_22 (fu + 1) (ad 0) (iI n) (iI k)).1 (MO G ad z c) := rfl
    obtain ⟨r1, r2⟩ := hr
    by_cases k0 : (s.2.2.2 x).1 1 = 0
    · have hval := of_s (G := G) hi hs (z := va_up z 8 (z 8 - 1)) hc c3 (show 9 < 10 by decide)
      rw [show iI ((9 : Nat) : Int) = 9 from rfl, mc9] at hval
      rw [if_pos (by omega)] at p6
      have H1 : (va_up z 8 (z 8 - 1)) 9 - (va_up z 8 (z 8 - 1)) 8 = sz (s.2.2.2 x) := by
        rw [up_self, up_ne _ _ (show 9 ≠ 8 by decide)]
        omega
      have H2 : ∀ j : Nat, (j : Int) < sz (s.2.2.2 x) → ((va_up c 8 (va_up (c 8) (z 8 - 1).toNat ((s.2.2.2 x).1 2)))) 8 ((va_up z 8 (z 8 - 1)) 8 + j).toNat = (s.2.2.2 x).2 j := by
        intro j hj
        rw [up_self, up_self, p5, k0]
        unfold sRow
        rw [if_pos rfl]
        by_cases hj0 : j = 0
        · subst hj0
          rw [if_pos rfl, show (z 8 - 1 + ((0 : Nat) : Int)) = z 8 - 1 by omega, up_self]
        · rw [if_neg hj0, up_ne _ _ (by omega), ← r2 (j - 1) (by omega)]
          congr 1
          omega
      have H3 : 128 - ((k + 1 : Nat) : Int) ≤ (va_up z 8 (z 8 - 1)) 8 ∧ (va_up z 8 (z 8 - 1)) 9 ≤ 128 + ((k + 1 : Nat) : Int) := by
        rw [up_self, up_ne _ _ (show 9 ≠ 8 by decide)]
        omega
      obtain ⟨z', c', e1, e2⟩ := hnext (va_up z 8 (z 8 - 1)) (va_up c 8 (va_up (c 8) (z 8 - 1).toNat ((s.2.2.2 x).1 2))) ⟨fun j a b => up_ne _ _ a, fun j a b => up_ne _ _ a⟩ (up_ne _ _ (by decide)) ⟨H1, H2⟩ H3
      refine ⟨z', c', ?_, e2⟩
      rw [← e1]
      rw [f_X5_laysRow_22]
      rw [if_neg (by rw [iI_le (by omega) (by omega) (by omega) (by omega)]; omega)]
      rw [mo_gr10 hi, mo_al11 hi z c (by omega) (by omega), hwk, mo_ck hi, mbind_ok hact, if_pos (by rw [k0]; rfl)]
      rw [mo_gi8 hi, lz1, iI_sub, mo_pt8 hi, mo_gr7 hi, mo_gi8 hi, mo_gr10 hi, mo_al11 hi _ c (by omega) (by omega), hwk, mo_ck hi, mbind_ok hval, up_self, mo_as8 hi _ c (by omega) (by omega), ← lz1, hkk]
    · by_cases k1 : (s.2.2.2 x).1 1 = 1
      · have hval := of_s (G := G) hi hs (z := z) hc c3 (show 9 < 10 by decide)
        rw [show iI ((9 : Nat) : Int) = 9 from rfl, mc9] at hval
        rw [if_pos (by omega)] at p6
        have H1 : (va_up z 9 (z 9 + 1)) 9 - (va_up z 9 (z 9 + 1)) 8 = sz (s.2.2.2 x) := by
          rw [up_self, up_ne _ _ (show 8 ≠ 9 by decide)]
          omega
        have H2 : ∀ j : Nat, (j : Int) < sz (s.2.2.2 x) → ((va_up c 8 (va_up (c 8) (z 9).toNat ((s.2.2.2 x).1 2)))) 8 ((va_up z 9 (z 9 + 1)) 8 + j).toNat = (s.2.2.2 x).2 j := by
          intro j hj
          rw [up_self, up_ne _ _ (show 8 ≠ 9 by decide), p5, k1]
          unfold sRow
          rw [if_neg (by decide), if_pos rfl]
          by_cases hj0 : (j : Int) = sz (s.2.2.2 u)
          · rw [show (z 8 + (j : Int)) = z 9 by omega, up_self, show (sz (s.2.2.2 u)).toNat = j by omega, up_self]
          · rw [up_ne _ _ (by omega), up_ne _ _ (by omega), ← r2 j (by omega)]
        have H3 : 128 - ((k + 1 : Nat) : Int) ≤ (va_up z 9 (z 9 + 1)) 8 ∧ (va_up z 9 (z 9 + 1)) 9 ≤ 128 + ((k + 1 : Nat) : Int) := by
          rw [up_self, up_ne _ _ (show 8 ≠ 9 by decide)]
          omega
        obtain ⟨z', c', e1, e2⟩ := hnext (va_up z 9 (z 9 + 1)) (va_up c 8 (va_up (c 8) (z 9).toNat ((s.2.2.2 x).1 2))) ⟨fun j a b => up_ne _ _ b, fun j a b => up_ne _ _ a⟩ (up_ne _ _ (by decide)) ⟨H1, H2⟩ H3
        refine ⟨z', c', ?_, e2⟩
        rw [← e1]
        rw [f_X5_laysRow_22]
        rw [if_neg (by rw [iI_le (by omega) (by omega) (by omega) (by omega)]; omega)]
        rw [mo_gr10 hi, mo_al11 hi z c (by omega) (by omega), hwk, mo_ck hi, mbind_ok hact, if_neg (by rw [lz0, iI_eq (by omega) (by omega) (by omega) (by omega)]; exact k0), if_pos (by rw [k1]; rfl)]
        rw [mo_gr7 hi, mo_gi9 hi, mo_gr10 hi, mo_al11 hi _ c (by omega) (by omega), hwk, mo_ck hi, mbind_ok hval, mo_as8 hi _ c (by omega) (by omega), mo_gi9 hi, lz1, iI_add, mo_pt9 hi, ← lz1, hkk]
      · rw [if_neg (by omega)] at p6
        by_cases k2 : (s.2.2.2 x).1 1 = 2
        · have H1 : (va_up z 8 (z 8 + 1)) 9 - (va_up z 8 (z 8 + 1)) 8 = sz (s.2.2.2 x) := by
            rw [up_self, up_ne _ _ (show 9 ≠ 8 by decide)]
            omega
          have H2 : ∀ j : Nat, (j : Int) < sz (s.2.2.2 x) → (c) 8 ((va_up z 8 (z 8 + 1)) 8 + j).toNat = (s.2.2.2 x).2 j := by
            intro j hj
            rw [up_self, p5, k2]
            unfold sRow
            rw [if_neg (by decide), if_neg (by decide), if_pos rfl]
            rw [← r2 (j + 1) (by omega)]
            congr 1
            omega
          have H3 : 128 - ((k + 1 : Nat) : Int) ≤ (va_up z 8 (z 8 + 1)) 8 ∧ (va_up z 8 (z 8 + 1)) 9 ≤ 128 + ((k + 1 : Nat) : Int) := by
            rw [up_self, up_ne _ _ (show 9 ≠ 8 by decide)]
            omega
          obtain ⟨z', c', e1, e2⟩ := hnext (va_up z 8 (z 8 + 1)) c ⟨fun j a b => up_ne _ _ a, fun j a b => rfl⟩ rfl ⟨H1, H2⟩ H3
          refine ⟨z', c', ?_, e2⟩
          rw [← e1]
          rw [f_X5_laysRow_22]
          rw [if_neg (by rw [iI_le (by omega) (by omega) (by omega) (by omega)]; omega)]
          rw [mo_gr10 hi, mo_al11 hi z c (by omega) (by omega), hwk, mo_ck hi, mbind_ok hact, if_neg (by rw [lz0, iI_eq (by omega) (by omega) (by omega) (by omega)]; exact k0), if_neg (by rw [lz1, iI_eq (by omega) (by omega) (by omega) (by omega)]; exact k1), if_pos (by rw [k2]; rfl)]
          rw [mo_gi8 hi, lz1, iI_add, mo_pt8 hi, ← lz1, hkk]
        · have H1 : (va_up z 9 (z 9 - 1)) 9 - (va_up z 9 (z 9 - 1)) 8 = sz (s.2.2.2 x) := by
            rw [up_self, up_ne _ _ (show 8 ≠ 9 by decide)]
            omega
          have H2 : ∀ j : Nat, (j : Int) < sz (s.2.2.2 x) → (c) 8 ((va_up z 9 (z 9 - 1)) 8 + j).toNat = (s.2.2.2 x).2 j := by
            intro j hj
            rw [up_ne _ _ (show 8 ≠ 9 by decide), p5]
            unfold sRow
            rw [if_neg k0, if_neg k1, if_neg k2]
            exact r2 j (by omega)
          have H3 : 128 - ((k + 1 : Nat) : Int) ≤ (va_up z 9 (z 9 - 1)) 8 ∧ (va_up z 9 (z 9 - 1)) 9 ≤ 128 + ((k + 1 : Nat) : Int) := by
            rw [up_self, up_ne _ _ (show 8 ≠ 9 by decide)]
            omega
          obtain ⟨z', c', e1, e2⟩ := hnext (va_up z 9 (z 9 - 1)) c ⟨fun j a b => up_ne _ _ b, fun j a b => rfl⟩ rfl ⟨H1, H2⟩ H3
          refine ⟨z', c', ?_, e2⟩
          rw [← e1]
          rw [f_X5_laysRow_22]
          rw [if_neg (by rw [iI_le (by omega) (by omega) (by omega) (by omega)]; omega)]
          rw [mo_gr10 hi, mo_al11 hi z c (by omega) (by omega), hwk, mo_ck hi, mbind_ok hact, if_neg (by rw [lz0, iI_eq (by omega) (by omega) (by omega) (by omega)]; exact k0), if_neg (by rw [lz1, iI_eq (by omega) (by omega) (by omega) (by omega)]; exact k1), if_neg (by rw [lz2, iI_eq (by omega) (by omega) (by omega) (by omega)]; exact k2)]
          rw [mo_gi9 hi, lz1, iI_sub, mo_pt9 hi, ← lz1, hkk]
theorem lr_run {G : GH} {ad : Nat → Nat} (hi : injK ad KM) {s : SS} (hs : SI s) {z : Nat → Int} {c : Nat → Nat → Int} (hc : NowR c s) {v : Nat} (hv : v < s.2.2.1) :
    ∃ z' c', (f_X5_laysRow (ad 0) (iI v)).1 (MO G ad z c) = some ((), MO G ad z' c') ∧ KP z c z' c' ∧ RowIs z' c' (s.2.2.2 v) ∧ (28 ≤ z' 8 ∧ z' 9 ≤ 228) := by
  have hd := dep_b hs hv
  have h100 := hs.2.2.1
  have h0 : s.2.2.2 0 = dfl := (hs.2.2.2 0 (by omega)).2.2.1 rfl
  obtain ⟨z', c', e1, e2, e3, e4, e5⟩ := lr_loop (G := G) hi hs hv (n := ((s.2.2.2 v).1 3).toNat) (by omega) (c 11) ((s.2.2.2 v).1 3).toNat FU 0 (va_up (va_up z 8 128) 9 128) (va_up c 11 (wyF s ((s.2.2.2 v).1 3).toNat v (c 11))) 0 (by omega) (by unfold FU; omega) (hc.up (by decide) _) (up_self _ _ _) (by omega) (fun _ => rfl) (fun h => absurd h (by omega)) (by
    rw [h0]
    refine ⟨rfl, fun j hj => absurd hj (by show ¬ (j : Int) < 0; omega)⟩) ⟨by show (128 : Int) - ((0 : Nat) : Int) ≤ 128; decide, by show (128 : Int) ≤ 128 + ((0 : Nat) : Int); decide⟩
  refine ⟨z', c', ?_, ?_, e3, e4⟩
  · unfold f_X5_laysRow
    rw [mo_ck hi, mbind_ok (lw_run hi hs hc hv), show (128 : Int32) = iI 128 from rfl, mo_pt8 hi, mo_pt9 hi]
    rw [show ((((s.2.2.2 v).1 3).toNat : Nat) : Int) = (s.2.2.2 v).1 3 by omega, show iI ((0 : Nat) : Int) = 0 from rfl] at e1
    exact e1
  · exact KP.tr ⟨fun j a b => by rw [up_ne _ _ b, up_ne _ _ a], fun j a b => up_ne _ _ b⟩ e2
theorem vat_run {G : GH} {ad : Nat → Nat} (hi : injK ad KM) {s : SS} (hs : SI s) {z : Nat → Int} {c : Nat → Nat → Int} (hc : NowR c s) {v : Nat} (hv : v < s.2.2.1) {j : Nat} (hj : (j : Int) < sz (s.2.2.2 v)) :
    ∃ z' c', (f_X5_valueAt (ad 0) (iI v) (iI j)).1 (MO G ad z c) = some (iI ((s.2.2.2 v).2 j), MO G ad z' c') ∧ KP z c z' c' := by
  obtain ⟨z', c', e1, e2, e3, e4⟩ := lr_run (G := G) hi hs hc hv (z := z)
  refine ⟨z', c', ?_, e2⟩
  obtain ⟨r1, r2⟩ := e3
  unfold f_X5_valueAt
  rw [mo_ck hi, mbind_ok e1, mo_gr7 hi, mo_gi8 hi, iI_add, mo_al8 hi _ _ (by omega) (by omega), r2 j hj]
  rfl
