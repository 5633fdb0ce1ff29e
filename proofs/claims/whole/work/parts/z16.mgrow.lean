/-! PURE PART 16: the reference grows as the spec does -/
def hdC (c : Nat → Nat → Int) (h : Int) : Nat → Nat → Int := va_up c 1 (va_up (c 1) 2 h)
theorem hdC_cv (c : Nat → Nat → Int) (v : Nat) (w : Nat → Int) (h : Int) : va_up (cv c v w) 1 (va_up (cv c v w 1) 2 h) = cv (hdC c h) v w := by
  unfold cv hdC
  rw [up_idem, up_idem]
  congr 1
  funext i
  rw [up_self, up_self]
  unfold va_up
  by_cases h1 : i = 2
  · subst h1
    rw [if_pos rfl, if_neg (by omega)]
    rfl
  · rw [if_neg h1]
    dsimp only
    rw [if_neg h1]
theorem hdC_at (c : Nat → Nat → Int) (h : Int) {i : Nat} (hi : i ≠ 2) : hdC c h 1 i = c 1 i := by
  unfold hdC
  rw [up_self, up_ne _ _ hi]
def sB (px : Nat → Int) (u : Nat) : Nat → Int := va_up (va_up (va_up (va_up px 0 u) 3 (px 3 + 1)) 8 0) 9 0
theorem sB_start (px : Nat → Int) (u : Nat) (kind x : Int) : e10 (va_up (va_up (mcol (sB px u)) 7 kind) 9 x) (mcol (va_up (sStart (va_up px 0 u) kind) 2 x)) := by
  unfold e10 sB sStart
  simp [va_up, mcol]
theorem sPut_up (y : Nat → Int) (fr : Bool) (x : Int) : sPut (va_up y 2 x) fr ((va_up y 2 x) 2) = sPut y fr x := by
  unfold sPut
  rw [up_self, up_idem, up_ne _ _ (show 4 ≠ 2 by decide), up_ne _ _ (show 5 ≠ 2 by decide)]
theorem st_up2 {x : Nat → Int} {z0 z1 z2 z3 n c e : Int} (h : ST x z0 z1 z2 z3 n c e) (y : Int) : ST (va_up x 2 y) z0 z1 y z3 n c e := by
  unfold ST at h ⊢
  simp [va_up]
  omega
theorem fetch_up (v : Nat → Int) (fr : Bool) (m : Int) : sFetch (va_up v 2 m) fr = va_up (sFetch v fr) 2 m := by
  have n4 : va_up v 2 m 4 = v 4 := up_ne _ _ (by decide)
  have n5 : va_up v 2 m 5 = v 5 := up_ne _ _ (by decide)
  have n6 : va_up v 2 m 6 = v 6 := up_ne _ _ (by decide)
  have n7 : va_up v 2 m 7 = v 7 := up_ne _ _ (by decide)
  have n9 : va_up v 2 m 9 = v 9 := up_ne _ _ (by decide)
  have hp : sPart (va_up v 2 m) fr = sPart v fr := by unfold sPart; rw [n4, n5]
  have h1 : sF1 (va_up v 2 m) = va_up (sF1 v) 2 m := by
    unfold sF1
    rw [n6]
    split
    · unfold sEnd
      funext j
      by_cases h2 : j = 2
      · subst h2; simp [va_up]
      · simp [va_up, h2]
    · rfl
  have h2 : ∀ y, sF2 (va_up y 2 m) fr = va_up (sF2 y fr) 2 m := by
    intro y
    have m4 : va_up y 2 m 4 = y 4 := up_ne _ _ (by decide)
    have m5 : va_up y 2 m 5 = y 5 := up_ne _ _ (by decide)
    have m9 : va_up y 2 m 9 = y 9 := up_ne _ _ (by decide)
    have hq : sPart (va_up y 2 m) fr = sPart y fr := by unfold sPart; rw [m4, m5]
    unfold sF2
    rw [hq]
    split
    · rw [m9, m4, m5, up_comm _ _ _ (by decide)]
    · rfl
  have h3 : ∀ y, sF3 (va_up y 2 m) = va_up (sF3 y) 2 m := by
    intro y
    unfold sF3
    rw [up_ne _ _ (show 8 ≠ 2 by decide), up_ne _ _ (show 9 ≠ 2 by decide), up_comm _ _ _ (by decide)]
  unfold sFetch
  rw [hp]
  split
  · rfl
  · rw [h1, h2, h3]
theorem sTake_up (y : Nat → Int) (fr : Bool) (x : Int) : sTake (va_up y 2 x) fr ((va_up y 2 x) 2) = sTake y fr x := by
  unfold sTake
  rw [up_self, up_idem]
theorem bg_loop {G : GH} {ad : Nat → Nat} (hi : injK ad KM) {s : SS} (hs : SI s) {z : Nat → Int} {c : Nat → Nat → Int} (hc : NowR c s) (hh : s.2.2.1 < 100) {u : Nat} (hu : u < s.2.2.1) : ∀ d fu k w, k + d = 10 → d < fu → (∀ j, j < k → w j = mcol (s.2.2.2 u).1 j) →
    (f_X5_begins_9 fu (ad 0) (iI u) (iI s.2.2.1) (iI k)).1 (MO G ad z (cv c s.2.2.1 w)) = some (iI s.2.2.1, MO G ad z (cv (hdC c (s.2.2.1 + 1)) s.2.2.1 (mcol (sB (s.2.2.2 u).1 u))))
  | _, 0, _, _, _, h, _ => absurd h (by omega)
  | 0, fu + 1, k, w, e, _, hw => by
    have h100 := hs.2.2.1
    have : k = 10 := by omega
    subst this
    unfold f_X5_begins_9
    rw [if_pos (by decide)]
    have hpar : ∀ w', (f_X5_of (ad 0) (iI u) 8).1 (MO G ad z (cv c s.2.2.1 w')) = some (iI ((s.2.2.2 u).1 3), MO G ad z (cv c s.2.2.1 w')) := fun w' => by
      have h0 := of_m (G := G) hi z (cv c s.2.2.1 w') (show u < 100 by omega) (show 8 < 10 by decide)
      rw [cv_out c _ w' (by omega), hc.2.2.2 u hu 8 (by decide), mc8] at h0
      exact h0
    rw [mo_ck hi, lc_0 hi z c hh, mo_ck hi, lz0, lc_5 hi z c hh, mo_ck hi, lc_6 hi z c hh, mo_ck hi, mbind_ok (hpar _), mo_ck hi, lz1, iI_add, lc_8 hi z c hh, mo_gr0 hi]
    have h2 := mo_al1 (G := G) hi z (cv c s.2.2.1 (va_up (va_up (va_up (va_up w 0 u) 5 0) 6 0) 8 ((s.2.2.2 u).1 3 + 1))) (i := 2) (by omega) (by omega) (fun x5 => mbind (masi (ad 1) 2 (x5 + iI 1)) (fun _ => mpure (iI (s.2.2.1 : Int))))
    rw [show iI 2 = 2 from rfl] at h2
    rw [h2, show (Int.toNat 2) = 2 from rfl, cv_out c _ _ (show 2 < 3 + 10 * s.2.2.1 ∨ 13 + 10 * s.2.2.1 ≤ 2 by omega), hc.2.2.1, iI_add, lz2, mo_as1 hi z _ (by omega) (by omega), show (Int.toNat 2) = 2 from rfl, hdC_cv]
    have he : e10 (va_up (va_up (va_up (va_up w 0 u) 5 0) 6 0) 8 ((s.2.2.2 u).1 3 + 1)) (mcol (sB (s.2.2.2 u).1 u)) := by
      have q1 := hw 1 (by decide)
      have q2 := hw 2 (by decide)
      have q3 := hw 3 (by decide)
      have q4 := hw 4 (by decide)
      have q7 := hw 7 (by decide)
      have q9 := hw 9 (by decide)
      unfold e10 sB
      simp [va_up, mcol] at q1 q2 q3 q4 q7 q9 ⊢
      omega
    rw [he.cv]
    rfl
  | d + 1, fu + 1, k, w, e, hf, hw => by
    have h100 := hs.2.2.1
    have h0 := of_m (G := G) hi z (cv c s.2.2.1 w) (show u < 100 by omega) (show k < 10 by omega)
    rw [cv_out c _ w (by omega), hc.2.2.2 u hu k (by omega)] at h0
    have h1 := lays_m (G := G) hi z (cv c s.2.2.1 w) hh (show k < 10 by omega) (mcol (s.2.2.2 u).1 k)
    rw [cv_set c _ w (show k < 10 by omega)] at h1
    rw [f_X5_begins_9]
    rw [if_neg (by rw [lz10, iI_le (by omega) (by omega) (by omega) (by omega)]; omega), mo_ck hi, mbind_ok h0, mo_ck hi, mbind_ok h1, lz1, iI_add]
    refine bg_loop hi hs hc hh hu d fu (k + 1) _ (by omega) (by omega) ?_
    intro j hj
    by_cases hjk : j = k
    · rw [hjk, up_self]
    · rw [up_ne _ _ hjk]
      exact hw j (by omega)
theorem bg_run {G : GH} {ad : Nat → Nat} (hi : injK ad KM) {s : SS} (hs : SI s) {z : Nat → Int} {c : Nat → Nat → Int} (hc : NowR c s) (hh : s.2.2.1 < 100) {u : Nat} (hu : u < s.2.2.1) : (f_X5_begins (ad 0) (iI u)).1 (MO G ad z c) = some (iI s.2.2.1, MO G ad z (cv (hdC c (s.2.2.1 + 1)) s.2.2.1 (mcol (sB (s.2.2.2 u).1 u)))) := by
  have h := bg_loop (G := G) hi hs (z := z) hc hh hu 10 FU 0 (fun k => c 1 (3 + 10 * s.2.2.1 + k)) (by omega) (by decide) (fun j hj => absurd hj (by omega))
  rw [cv_self, show iI ((0 : Nat) : Int) = 0 from rfl] at h
  unfold f_X5_begins
  have h2 := mo_al1 (G := G) hi z c (i := 2) (by omega) (by omega) (fun x2 => f_X5_begins_9 FU (ad 0) (iI u) x2 0)
  rw [show iI 2 = 2 from rfl, show (Int.toNat 2) = 2 from rfl, hc.2.2.1] at h2
  rw [mo_gr0 hi, h2]
  exact h
theorem nowR_grow {ad : Nat → Nat} (hi : injK ad KM) {s : SS} (hs : SI s) {c : Nat → Nat → Int} (hc : NowR c s) {X : Nat → Int} {u : Nat} {kind x : Int} (hX : (sGrow s u kind x).2.2.2 s.2.2.1 = (X, sRow (s.2.2.2 u).2 kind x (sz (s.2.2.2 u)).toNat)) : NowR (cv (hdC c (s.2.2.1 + 1)) s.2.2.1 (mcol X)) (sGrow s u kind x) := by
  refine ⟨?_, ?_, ?_, ?_⟩
  · rw [cv_out _ _ _ (by omega), hdC_at _ _ (by decide)]; exact hc.1
  · rw [cv_out _ _ _ (by omega), hdC_at _ _ (by decide)]; exact hc.2.1
  · rw [cv_out _ _ _ (by omega)]
    unfold hdC
    rw [up_self, up_self]
    show _ = ((s.2.2.1 + 1 : Nat) : Int)
    omega
  · intro i hi' k hk
    have hi2 : i < s.2.2.1 + 1 := hi'
    by_cases h : i = s.2.2.1
    · subst h
      rw [cv_at _ _ _ hk, hX]
    · rw [cv_out _ _ _ (by omega), hdC_at _ _ (by omega), hc.2.2.2 i (by omega) k hk]
      show _ = mcol (va_up s.2.2.2 s.2.2.1 _ i).1 k
      rw [up_ne _ _ h]
theorem push_run {G : GH} {ad : Nat → Nat} (hi : injK ad KM) {s : SS} (hs : SI s) {z : Nat → Int} {c : Nat → Nat → Int} (hc : NowR c s) (hh : s.2.2.1 < 100) {u : Nat} (hu : u < s.2.2.1) (fr : Bool) {x : Int} (hsz : sz (s.2.2.2 u) < 40) :
    ∃ c', (f_X5_pushes (ad 0) (iI u) (iI x) (iI (b2i fr))).1 (MO G ad z c) = some (iI s.2.2.1, MO G ad z c') ∧ NowR c' (sGrow s u (if fr = true then 0 else 1) x) ∧ ∀ j, j ≠ 1 → c' j = c j := by
  have h100 := hs.2.2.1
  have hvb := (hs.2.2.2 u hu).1
  have hvb' : VBn (va_up (s.2.2.2 u).1 0 u) := by
    unfold VBn at hvb ⊢
    simp [va_up]
    omega
  have hst := st_up2 (st_start hvb' (if fr = true then 0 else 1)) x
  have e45 : (va_up (s.2.2.2 u).1 0 (u : Int)) 4 + (va_up (s.2.2.2 u).1 0 (u : Int)) 5 = sz (s.2.2.2 u) := rfl
  rw [e45] at hst
  have hpc := (ce_push hst fr hsz).cv (hdC c (s.2.2.1 + 1)) s.2.2.1
  rw [sPut_up] at hpc
  have hst2 := st_cost (st_put (st_start hvb' (if fr = true then 0 else 1)) fr x (by rw [e45]; exact hsz))
  have hpy := (ce_pays hst2 (rate := s.1) (ratio := s.2.1) hs.1).cv (hdC c (s.2.2.1 + 1)) s.2.2.1
  have hX : (sGrow s u (if fr = true then 0 else 1) x).2.2.2 s.2.2.1 = (sBegin (sPay (sCost (sPut (sStart (va_up (s.2.2.2 u).1 0 u) (if fr = true then 0 else 1)) fr x)) s.1) s.2.1, sRow (s.2.2.2 u).2 (if fr = true then 0 else 1) x (sz (s.2.2.2 u)).toNat) := by
    show va_up s.2.2.2 s.2.2.1 _ s.2.2.1 = _
    rw [up_self]
    unfold sAct
    cases fr <;> rfl
  have c0 : hdC c (s.2.2.1 + 1) 1 0 = s.1 := by rw [hdC_at _ _ (by decide)]; exact hc.1
  have c1 : hdC c (s.2.2.1 + 1) 1 1 = s.2.1 := by rw [hdC_at _ _ (by decide)]; exact hc.2.1
  refine ⟨_, ?_, nowR_grow hi hs hc hX, fun j hj => by rw [cv_ne _ _ _ hj]; exact up_ne _ _ hj⟩
  have h21 : ∀ s0 : Int, s0 = (if fr = true then 0 else 1) → (f_X5_pushes_21 (ad 0) (iI x) (iI (b2i fr)) (iI s.2.2.1) (iI s0) 7 (iI s.2.2.1) (ad 0)).1 (MO G ad z (cv (hdC c (s.2.2.1 + 1)) s.2.2.1 (mcol (sB (s.2.2.2 u).1 u)))) = some (iI s.2.2.1, MO G ad z (cv (hdC c (s.2.2.1 + 1)) s.2.2.1 (mcol (sBegin (sPay (sCost (sPut (sStart (va_up (s.2.2.2 u).1 0 u) (if fr = true then 0 else 1)) fr x)) s.1) s.2.1)))) := by
    intro s0 hs0
    subst hs0
    unfold f_X5_pushes_21
    rw [mo_ck hi, lc_7 hi z _ hh, mo_ck hi, lc_9 hi z _ hh, (sB_start _ _ _ _).cv, mo_ck hi]
    have hch := chg_m (G := G) hi z (hdC c (s.2.2.1 + 1)) hh (mcol (va_up (sStart (va_up (s.2.2.2 u).1 0 u) (if fr = true then 0 else 1)) 2 x)) fr 1 (Or.inl rfl) (by
      unfold ST at hst
      rw [mc4, mc1, mc2]
      omega)
    rw [if_pos (Or.inl (by decide)), hpc] at hch
    rw [lz1, mbind_ok hch, mo_ck hi]
    have hpp := pays_m (G := G) hi z (hdC c (s.2.2.1 + 1)) hh (mcol (sCost (sPut (sStart (va_up (s.2.2.2 u).1 0 u) (if fr = true then 0 else 1)) fr x))) (by have := hs.2.1; omega) (by have := hs.1; omega) (by
      unfold ST at hst2
      rw [mc4, mc1, mc2, mc3]
      omega)
    rw [c0, c1, hpy] at hpp
    rw [mbind_ok hpp]
    rfl
  unfold f_X5_pushes
  rw [mo_ck hi, mbind_ok (bg_run hi hs hc hh hu)]
  cases fr
  · rw [if_pos (show iI (b2i false) = 0 from rfl)]
    exact h21 1 rfl
  · rw [if_neg (show ¬ iI (b2i true) = 0 by decide)]
    exact h21 0 rfl
