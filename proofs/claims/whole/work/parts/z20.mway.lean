/-! PURE PART 20: the reference's greatest cost and sum of costs on the way -/
theorem wm_fuel {s : SS} (hs : SI s) : ∀ f g v, v < f → v < g → v < s.2.2.1 → wmF s f v = wmF s g v
  | 0, _, _, h, _, _ => absurd h (by omega)
  | _ + 1, 0, _, _, h, _ => absurd h (by omega)
  | f + 1, g + 1, v, h1, h2, hv => by
    unfold wmF
    by_cases h0 : v = 0
    · rw [if_pos h0, if_pos h0]
    · have hp := par_dep hs hv (by omega)
      rw [if_neg h0, if_neg h0, wm_fuel hs f g (par s v) (by omega) (by omega) (by omega)]
theorem wsf_fuel {s : SS} (hs : SI s) : ∀ f g v, v < f → v < g → v < s.2.2.1 → wsF s f v = wsF s g v
  | 0, _, _, h, _, _ => absurd h (by omega)
  | _ + 1, 0, _, _, h, _ => absurd h (by omega)
  | f + 1, g + 1, v, h1, h2, hv => by
    unfold wsF
    by_cases h0 : v = 0
    · rw [if_pos h0, if_pos h0]
    · have hp := par_dep hs hv (by omega)
      rw [if_neg h0, if_neg h0, wsf_fuel hs f g (par s v) (by omega) (by omega) (by omega)]
theorem wm_step {s : SS} (hs : SI s) {v : Nat} (hv : v < s.2.2.1) (h0 : 0 < v) : wmF s 100 v = max ((s.2.2.2 v).1 8) (wmF s 100 (par s v)) := by
  have h100 := hs.2.2.1
  have hp := par_dep hs hv h0
  show max ((s.2.2.2 v).1 8) (if v = 0 then 0 else wmF s 99 (par s v)) = _
  rw [if_neg (by omega), wm_fuel hs 99 100 (par s v) (by omega) (by omega) (by omega)]
theorem wsf_step {s : SS} (hs : SI s) {v : Nat} (hv : v < s.2.2.1) (h0 : 0 < v) : wsF s 100 v = (s.2.2.2 v).1 8 + wsF s 100 (par s v) := by
  have h100 := hs.2.2.1
  have hp := par_dep hs hv h0
  show (s.2.2.2 v).1 8 + (if v = 0 then 0 else wsF s 99 (par s v)) = _
  rw [if_neg (by omega), wsf_fuel hs 99 100 (par s v) (by omega) (by omega) (by omega)]
theorem wm_zero {s : SS} (hs : SI s) : wmF s 100 0 = 0 := by
  have h100 := hs.2.2.1
  show max ((s.2.2.2 0).1 8) (if 0 = 0 then 0 else _) = 0
  rw [if_pos rfl, (hs.2.2.2 0 (by omega)).2.2.1 rfl]
  rfl
theorem wsf_zero {s : SS} (hs : SI s) : wsF s 100 0 = 0 := by
  have h100 := hs.2.2.1
  show (s.2.2.2 0).1 8 + (if 0 = 0 then 0 else _) = 0
  rw [if_pos rfl, (hs.2.2.2 0 (by omega)).2.2.1 rfl]
  rfl
theorem wo_loop {G : GH} {ad : Nat → Nat} (hi : injK ad KM) {s : SS} (hs : SI s) {z : Nat → Int} {c : Nat → Nat → Int} (hc : NowR c s) {v n : Nat} (hv : v < s.2.2.1) (hn : (s.2.2.2 v).1 3 = (n : Nat)) (wy : Nat → Int) (hw : c 11 = wyF s n v wy) : ∀ d fu k u, k + d = n → d < fu → u < s.2.2.1 → (k = 0 → u = 0) → (0 < k → wyF s n v wy (k - 1) = u) →
    (f_X5_worst_39 fu (ad 0) (iI (wmF s 100 u)) (iI n) (iI k)).1 (MO G ad z c) = some (iI (wmF s 100 v), MO G ad z c)
  | _, 0, _, _, _, h, _, _, _ => absurd h (by omega)
  | 0, fu + 1, k, u, e, _, hu, hk0, hk1 => by
    have hd := dep_b hs hv
    have h100 := hs.2.2.1
    have : k = n := by omega
    subst this
    have huv : u = v := by
      by_cases h0 : k = 0
      · rw [hk0 h0]
        exact (dep_0 hs hv (by omega)).symm
      · obtain ⟨x, c1, _, _, _, _, c2⟩ := wy_prop hs k v wy hv hn (k - 1) (by omega)
        have := hk1 (by omega)
        rw [c1, c2 (by omega)] at this
        omega
    subst huv
    rw [f_X5_worst_39, if_pos (by rw [iI_le (by omega) (by omega) (by omega) (by omega)]; omega)]
    rfl
  | d + 1, fu + 1, k, u, e, hf, hu, hk0, hk1 => by
    have hd := dep_b hs hv
    have h100 := hs.2.2.1
    obtain ⟨x, c1, c2, c3, c4, c5, c6⟩ := wy_prop hs n v wy hv hn k (by omega)
    have hpu : par s x = u := by
      by_cases h0 : k = 0
      · rw [c4 h0, hk0 h0]
      · have h1 := c5 (by omega)
        rw [hk1 (by omega)] at h1
        omega
    have hwk : c 11 ((k : Int)).toNat = x := by rw [hw, show ((k : Int)).toNat = k by omega, c1]
    have g5 := of_s (G := G) hi hs (z := z) hc c3 (show 5 < 10 by decide)
    rw [show iI ((5 : Nat) : Int) = 5 from rfl, mc5] at g5
    have hst := wm_step hs c3 c2
    rw [hpu] at hst
    have hb := wm_b (L := 1) (by decide) hs 100 u hu
    have hx := (hs.2.2.2 x c3).1
    unfold VBn at hx
    have hkk : iI (k : Int) + 1 = iI ((k + 1 : Nat) : Int) := by rw [lz1, iI_add]; rfl
    have ih := wo_loop hi hs (G := G) (z := z) hc hv hn wy hw d fu (k + 1) x (by omega) (by omega) c3 (fun h => absurd h (by omega)) (fun _ => by rw [show k + 1 - 1 = k by omega, c1])
    rw [f_X5_worst_39, if_neg (by rw [iI_le (by omega) (by omega) (by omega) (by omega)]; omega), hkk, mo_gr10 hi, mo_al11 hi _ _ (by omega) (by omega), hwk, mo_ck hi, mbind_ok g5]
    by_cases h : (s.2.2.2 x).1 8 ≤ wmF s 100 u
    · rw [if_pos (by rw [iI_le (by omega) (by omega) (by omega) (by omega)]; exact h)]
      rw [show wmF s 100 u = wmF s 100 x by omega]
      exact ih
    · rw [if_neg (by rw [iI_le (by omega) (by omega) (by omega) (by omega)]; exact h), mo_gr10 hi, mo_al11 hi _ _ (by omega) (by omega), hwk, mo_ck hi, mbind_ok g5]
      rw [show (s.2.2.2 x).1 8 = wmF s 100 x by omega]
      exact ih
theorem me_loop {G : GH} {ad : Nat → Nat} (hi : injK ad KM) {s : SS} (hs : SI s) {z : Nat → Int} {c : Nat → Nat → Int} (hc : NowR c s) {v n : Nat} (hv : v < s.2.2.1) (hn : (s.2.2.2 v).1 3 = (n : Nat)) (wy : Nat → Int) (hw : c 11 = wyF s n v wy) : ∀ d fu k u, k + d = n → d < fu → u < s.2.2.1 → (k = 0 → u = 0) → (0 < k → wyF s n v wy (k - 1) = u) →
    (f_X5_mean_39 fu (ad 0) (iI (wsF s 100 u)) (iI n) (iI k)).1 (MO G ad z c) = (if iI (n : Int) = 0 then (mpure (0 : UInt64)) else (mbind (mddiv (FP.i2d (iI (wsF s 100 v))) (FP.i2d (iI (n : Int)))) (fun d4 => (mpure d4)))).1 (MO G ad z c)
  | _, 0, _, _, _, h, _, _, _ => absurd h (by omega)
  | 0, fu + 1, k, u, e, _, hu, hk0, hk1 => by
    have hd := dep_b hs hv
    have h100 := hs.2.2.1
    have : k = n := by omega
    subst this
    have huv : u = v := by
      by_cases h0 : k = 0
      · rw [hk0 h0]
        exact (dep_0 hs hv (by omega)).symm
      · obtain ⟨x, c1, _, _, _, _, c2⟩ := wy_prop hs k v wy hv hn (k - 1) (by omega)
        have := hk1 (by omega)
        rw [c1, c2 (by omega)] at this
        omega
    subst huv
    rw [f_X5_mean_39, if_pos (by rw [iI_le (by omega) (by omega) (by omega) (by omega)]; omega)]
  | d + 1, fu + 1, k, u, e, hf, hu, hk0, hk1 => by
    have hd := dep_b hs hv
    have h100 := hs.2.2.1
    obtain ⟨x, c1, c2, c3, c4, c5, c6⟩ := wy_prop hs n v wy hv hn k (by omega)
    have hpu : par s x = u := by
      by_cases h0 : k = 0
      · rw [c4 h0, hk0 h0]
      · have h1 := c5 (by omega)
        rw [hk1 (by omega)] at h1
        omega
    have hwk : c 11 ((k : Int)).toNat = x := by rw [hw, show ((k : Int)).toNat = k by omega, c1]
    have g5 := of_s (G := G) hi hs (z := z) hc c3 (show 5 < 10 by decide)
    rw [show iI ((5 : Nat) : Int) = 5 from rfl, mc5] at g5
    have hst := wsf_step hs c3 c2
    rw [hpu] at hst
    have hkk : iI (k : Int) + 1 = iI ((k + 1 : Nat) : Int) := by rw [lz1, iI_add]; rfl
    have ih := me_loop hi hs (G := G) (z := z) hc hv hn wy hw d fu (k + 1) x (by omega) (by omega) c3 (fun h => absurd h (by omega)) (fun _ => by rw [show k + 1 - 1 = k by omega, c1])
    rw [f_X5_mean_39, if_neg (by rw [iI_le (by omega) (by omega) (by omega) (by omega)]; omega), hkk, mo_gr10 hi, mo_al11 hi _ _ (by omega) (by omega), hwk, mo_ck hi, mbind_ok g5, iI_add]
    rw [show wsF s 100 u + (s.2.2.2 x).1 8 = wsF s 100 x by omega]
    exact ih
/-- many cells are copied from one array to another -/
def cpC (f g : Nat → Int) (a b n : Nat) : Nat → Int := fun j => if b ≤ j ∧ j < b + n then f (a + (j - b)) else g j
theorem cp_m {G : GH} {ad : Nat → Nat} (hi : injK ad KM) {z : Nat → Int} {x y : Nat} (hx : x ∈ KM) (hy : y ∈ KM) (x0 : x ≠ 0) (y0 : y ≠ 0) (hxy : x ≠ y) {a b : Nat} (hxl : a + 1003 ≤ mlN x) (hyl : b + 1003 ≤ mlN y) (hlx : mlN x ≤ 100000) (hly : mlN y ≤ 100000) : ∀ (d fu k : Nat) (c : Nat → Nat → Int), k + d = 1003 → d < fu →
    (f_X5_copies_3 fu (ad x) (iI a) (ad y) (iI b) (iI k)).1 (MO G ad z c) = some ((), MO G ad z (va_up c y (fun j => if b + k ≤ j ∧ j < b + 1003 then c x (a + (j - b)) else c y j)))
  | _, 0, _, _, _, h => absurd h (by omega)
  | 0, fu + 1, k, c, e, _ => by
    have e2 : (fun j : Nat => if b + k ≤ j ∧ j < b + 1003 then c x (a + (j - b)) else c y j) = c y := by
      funext j
      rw [if_neg (by omega)]
    rw [e2, show va_up c y (c y) = c from up_same rfl, f_X5_copies_3, if_pos (by rw [show (1003 : Int32) = iI 1003 from rfl, iI_le (by omega) (by omega) (by omega) (by omega)]; omega)]
    rfl
  | d + 1, fu + 1, k, c, e, hf => by
    rw [f_X5_copies_3, if_neg (by rw [show (1003 : Int32) = iI 1003 from rfl, iI_le (by omega) (by omega) (by omega) (by omega)]; omega)]
    have h1 := oh_ali (β := Unit) (G := G) (obj := mob ad) (len := mlN) hi z c hx x0 (i := (a : Int) + (k : Int)) (by omega) (by omega) hlx (fun x1 => mbind (masi (ad y) (iI b + iI k) x1) (fun _ => f_X5_copies_3 fu (ad x) (iI a) (ad y) (iI b) (iI k + 1)))
    have h2 := oh_asi (β := Unit) (G := G) (obj := mob ad) (len := mlN) hi z c hy y0 (i := (b : Int) + (k : Int)) (by omega) (by omega) hly (c x ((a : Int) + (k : Int)).toNat) (fun _ => f_X5_copies_3 fu (ad x) (iI a) (ad y) (iI b) (iI k + 1))
    rw [iI_add]
    refine h1.trans ?_
    rw [iI_add]
    refine h2.trans ?_
    rw [show iI (k : Int) + 1 = iI ((k + 1 : Nat) : Int) by rw [lz1, iI_add]; rfl]
    refine (cp_m hi hx hy x0 y0 hxy hxl hyl hlx hly d fu (k + 1) _ (by omega) (by omega)).trans ?_
    rw [up_idem]
    have e2 : (fun j : Nat => if b + (k + 1) ≤ j ∧ j < b + 1003 then (va_up c y (va_up (c y) ((b : Int) + (k : Int)).toNat (c x ((a : Int) + (k : Int)).toNat))) x (a + (j - b)) else (va_up c y (va_up (c y) ((b : Int) + (k : Int)).toNat (c x ((a : Int) + (k : Int)).toNat))) y j) = fun j : Nat => if b + k ≤ j ∧ j < b + 1003 then c x (a + (j - b)) else c y j := by
      funext j
      rw [up_ne _ _ hxy, up_self, show ((b : Int) + (k : Int)).toNat = b + k by omega, show ((a : Int) + (k : Int)).toNat = a + k by omega]
      by_cases hj : j = b + k
      · subst hj
        rw [if_neg (by omega), up_self, if_pos (by omega), show a + (b + k - b) = a + k by omega]
      · rw [up_ne _ _ hj]
        by_cases h2 : b + (k + 1) ≤ j ∧ j < b + 1003
        · rw [if_pos h2, if_pos (by omega)]
        · rw [if_neg h2, if_neg (by omega)]
    rw [e2]
