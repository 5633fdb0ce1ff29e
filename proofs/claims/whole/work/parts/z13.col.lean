/-! PURE PART 13: the reference's column of ten numbers; what its methods do to it -/
def cv (c : Nat → Nat → Int) (v : Nat) (w : Nat → Int) : Nat → Nat → Int := va_up c 1 (fun i => if 3 + 10 * v ≤ i ∧ i < 13 + 10 * v then w (i - (3 + 10 * v)) else c 1 i)
theorem cv_at (c : Nat → Nat → Int) (v : Nat) (w : Nat → Int) {k : Nat} (hk : k < 10) : cv c v w 1 (3 + 10 * v + k) = w k := by
  unfold cv
  rw [up_self, if_pos (by omega)]
  congr 1
  omega
theorem cv_out (c : Nat → Nat → Int) (v : Nat) (w : Nat → Int) {i : Nat} (hi : i < 3 + 10 * v ∨ 13 + 10 * v ≤ i) : cv c v w 1 i = c 1 i := by
  unfold cv
  rw [up_self, if_neg (by omega)]
theorem cv_ne (c : Nat → Nat → Int) (v : Nat) (w : Nat → Int) {k : Nat} (hk : k ≠ 1) : cv c v w k = c k := up_ne _ _ hk
theorem cv_set (c : Nat → Nat → Int) (v : Nat) (w : Nat → Int) {k : Nat} (hk : k < 10) (x : Int) : va_up (cv c v w) 1 (va_up (cv c v w 1) (3 + 10 * v + k) x) = cv c v (va_up w k x) := by
  unfold cv
  rw [up_idem]
  congr 1
  funext i
  rw [up_self]
  unfold va_up
  by_cases h : i = 3 + 10 * v + k
  · subst h
    rw [if_pos rfl, if_pos (by omega), if_pos (by omega)]
  · rw [if_neg h]
    dsimp only
    by_cases h2 : 3 + 10 * v ≤ i ∧ i < 13 + 10 * v
    · rw [if_pos h2, if_pos h2, if_neg (by omega)]
    · rw [if_neg h2, if_neg h2]
theorem cv_congr (c : Nat → Nat → Int) (v : Nat) {w w' : Nat → Int} (h : ∀ k, k < 10 → w k = w' k) : cv c v w = cv c v w' := by
  unfold cv
  congr 1
  funext i
  split
  · exact h _ (by omega)
  · rfl
theorem cv_self (c : Nat → Nat → Int) (v : Nat) : cv c v (fun k => c 1 (3 + 10 * v + k)) = c := by
  unfold cv
  refine up_same ?_
  funext i
  split
  · congr 1
    omega
  · rfl
theorem of_m {G : GH} {ad : Nat → Nat} (hi : injK ad KM) (z : Nat → Int) (c : Nat → Nat → Int) {v k : Nat} (hv : v < 100) (hk : k < 10) : (f_X5_of (ad 0) (iI v) (iI k)).1 (MO G ad z c) = some (iI (c 1 (3 + 10 * v + k)), MO G ad z c) := by
  unfold f_X5_of
  rw [mo_gr0 hi, lz3, lz10, iI_mul, iI_add, iI_add, mo_al1 hi z c (by omega) (by omega), show ((3 : Int) + 10 * (v : Int) + (k : Int)).toNat = 3 + 10 * v + k by omega]
  rfl
theorem lays_m {G : GH} {ad : Nat → Nat} (hi : injK ad KM) (z : Nat → Int) (c : Nat → Nat → Int) {v k : Nat} (hv : v < 100) (hk : k < 10) (x : Int) : (f_X5_lays (ad 0) (iI v) (iI k) (iI x)).1 (MO G ad z c) = some ((), MO G ad z (va_up c 1 (va_up (c 1) (3 + 10 * v + k) x))) := by
  unfold f_X5_lays
  rw [mo_gr0 hi, lz3, lz10, iI_mul, iI_add, iI_add, mo_as1 hi z c (by omega) (by omega), show ((3 : Int) + 10 * (v : Int) + (k : Int)).toNat = 3 + 10 * v + k by omega]
  rfl
theorem adds_m {G : GH} {ad : Nat → Nat} (hi : injK ad KM) (z : Nat → Int) (c : Nat → Nat → Int) {v k : Nat} (hv : v < 100) (hk : k < 10) (x : Int) : (f_X5_adds (ad 0) (iI v) (iI k) (iI x)).1 (MO G ad z c) = some ((), MO G ad z (va_up c 1 (va_up (c 1) (3 + 10 * v + k) (c 1 (3 + 10 * v + k) + x)))) := by
  unfold f_X5_adds
  rw [mo_gr0 hi, lz3, lz10, iI_mul, iI_add, iI_add, mo_al1 hi z c (by omega) (by omega), iI_add, mo_as1 hi z c (by omega) (by omega), show ((3 : Int) + 10 * (v : Int) + (k : Int)).toNat = 3 + 10 * v + k by omega]
  rfl
theorem oc_0 {β : Type} {G : GH} {ad : Nat → Nat} (hi : injK ad KM) (z : Nat → Int) (c : Nat → Nat → Int) {v : Nat} (hv : v < 100) (w : Nat → Int) (F : Int32 → MM β) : (mbind (f_X5_of (ad 0) (iI v) 0) F).1 (MO G ad z (cv c v w)) = (F (iI (w 0))).1 (MO G ad z (cv c v w)) := by
  have h := of_m (G := G) hi z (cv c v w) hv (show 0 < 10 by decide)
  rw [cv_at c v w (show 0 < 10 by decide)] at h
  exact mbind_ok h
theorem lc_0 {β : Type} {G : GH} {ad : Nat → Nat} (hi : injK ad KM) (z : Nat → Int) (c : Nat → Nat → Int) {v : Nat} (hv : v < 100) (w : Nat → Int) (x : Int) (F : Unit → MM β) : (mbind (f_X5_lays (ad 0) (iI v) 0 (iI x)) F).1 (MO G ad z (cv c v w)) = (F ()).1 (MO G ad z (cv c v (va_up w 0 x))) := by
  have h := lays_m (G := G) hi z (cv c v w) hv (show 0 < 10 by decide) x
  rw [cv_set c v w (show 0 < 10 by decide)] at h
  exact mbind_ok h
theorem ac_0 {β : Type} {G : GH} {ad : Nat → Nat} (hi : injK ad KM) (z : Nat → Int) (c : Nat → Nat → Int) {v : Nat} (hv : v < 100) (w : Nat → Int) (x : Int) (F : Unit → MM β) : (mbind (f_X5_adds (ad 0) (iI v) 0 (iI x)) F).1 (MO G ad z (cv c v w)) = (F ()).1 (MO G ad z (cv c v (va_up w 0 (w 0 + x)))) := by
  have h := adds_m (G := G) hi z (cv c v w) hv (show 0 < 10 by decide) x
  rw [cv_set c v w (show 0 < 10 by decide), cv_at c v w (show 0 < 10 by decide)] at h
  exact mbind_ok h
theorem oc_1 {β : Type} {G : GH} {ad : Nat → Nat} (hi : injK ad KM) (z : Nat → Int) (c : Nat → Nat → Int) {v : Nat} (hv : v < 100) (w : Nat → Int) (F : Int32 → MM β) : (mbind (f_X5_of (ad 0) (iI v) 1) F).1 (MO G ad z (cv c v w)) = (F (iI (w 1))).1 (MO G ad z (cv c v w)) := by
  have h := of_m (G := G) hi z (cv c v w) hv (show 1 < 10 by decide)
  rw [cv_at c v w (show 1 < 10 by decide)] at h
  exact mbind_ok h
theorem lc_1 {β : Type} {G : GH} {ad : Nat → Nat} (hi : injK ad KM) (z : Nat → Int) (c : Nat → Nat → Int) {v : Nat} (hv : v < 100) (w : Nat → Int) (x : Int) (F : Unit → MM β) : (mbind (f_X5_lays (ad 0) (iI v) 1 (iI x)) F).1 (MO G ad z (cv c v w)) = (F ()).1 (MO G ad z (cv c v (va_up w 1 x))) := by
  have h := lays_m (G := G) hi z (cv c v w) hv (show 1 < 10 by decide) x
  rw [cv_set c v w (show 1 < 10 by decide)] at h
  exact mbind_ok h
theorem ac_1 {β : Type} {G : GH} {ad : Nat → Nat} (hi : injK ad KM) (z : Nat → Int) (c : Nat → Nat → Int) {v : Nat} (hv : v < 100) (w : Nat → Int) (x : Int) (F : Unit → MM β) : (mbind (f_X5_adds (ad 0) (iI v) 1 (iI x)) F).1 (MO G ad z (cv c v w)) = (F ()).1 (MO G ad z (cv c v (va_up w 1 (w 1 + x)))) := by
  have h := adds_m (G := G) hi z (cv c v w) hv (show 1 < 10 by decide) x
  rw [cv_set c v w (show 1 < 10 by decide), cv_at c v w (show 1 < 10 by decide)] at h
  exact mbind_ok h
theorem oc_2 {β : Type} {G : GH} {ad : Nat → Nat} (hi : injK ad KM) (z : Nat → Int) (c : Nat → Nat → Int) {v : Nat} (hv : v < 100) (w : Nat → Int) (F : Int32 → MM β) : (mbind (f_X5_of (ad 0) (iI v) 2) F).1 (MO G ad z (cv c v w)) = (F (iI (w 2))).1 (MO G ad z (cv c v w)) := by
  have h := of_m (G := G) hi z (cv c v w) hv (show 2 < 10 by decide)
  rw [cv_at c v w (show 2 < 10 by decide)] at h
  exact mbind_ok h
theorem lc_2 {β : Type} {G : GH} {ad : Nat → Nat} (hi : injK ad KM) (z : Nat → Int) (c : Nat → Nat → Int) {v : Nat} (hv : v < 100) (w : Nat → Int) (x : Int) (F : Unit → MM β) : (mbind (f_X5_lays (ad 0) (iI v) 2 (iI x)) F).1 (MO G ad z (cv c v w)) = (F ()).1 (MO G ad z (cv c v (va_up w 2 x))) := by
  have h := lays_m (G := G) hi z (cv c v w) hv (show 2 < 10 by decide) x
  rw [cv_set c v w (show 2 < 10 by decide)] at h
  exact mbind_ok h
theorem ac_2 {β : Type} {G : GH} {ad : Nat → Nat} (hi : injK ad KM) (z : Nat → Int) (c : Nat → Nat → Int) {v : Nat} (hv : v < 100) (w : Nat → Int) (x : Int) (F : Unit → MM β) : (mbind (f_X5_adds (ad 0) (iI v) 2 (iI x)) F).1 (MO G ad z (cv c v w)) = (F ()).1 (MO G ad z (cv c v (va_up w 2 (w 2 + x)))) := by
  have h := adds_m (G := G) hi z (cv c v w) hv (show 2 < 10 by decide) x
  rw [cv_set c v w (show 2 < 10 by decide), cv_at c v w (show 2 < 10 by decide)] at h
  exact mbind_ok h
theorem oc_3 {β : Type} {G : GH} {ad : Nat → Nat} (hi : injK ad KM) (z : Nat → Int) (c : Nat → Nat → Int) {v : Nat} (hv : v < 100) (w : Nat → Int) (F : Int32 → MM β) : (mbind (f_X5_of (ad 0) (iI v) 3) F).1 (MO G ad z (cv c v w)) = (F (iI (w 3))).1 (MO G ad z (cv c v w)) := by
  have h := of_m (G := G) hi z (cv c v w) hv (show 3 < 10 by decide)
  rw [cv_at c v w (show 3 < 10 by decide)] at h
  exact mbind_ok h
theorem lc_3 {β : Type} {G : GH} {ad : Nat → Nat} (hi : injK ad KM) (z : Nat → Int) (c : Nat → Nat → Int) {v : Nat} (hv : v < 100) (w : Nat → Int) (x : Int) (F : Unit → MM β) : (mbind (f_X5_lays (ad 0) (iI v) 3 (iI x)) F).1 (MO G ad z (cv c v w)) = (F ()).1 (MO G ad z (cv c v (va_up w 3 x))) := by
  have h := lays_m (G := G) hi z (cv c v w) hv (show 3 < 10 by decide) x
  rw [cv_set c v w (show 3 < 10 by decide)] at h
  exact mbind_ok h
theorem ac_3 {β : Type} {G : GH} {ad : Nat → Nat} (hi : injK ad KM) (z : Nat → Int) (c : Nat → Nat → Int) {v : Nat} (hv : v < 100) (w : Nat → Int) (x : Int) (F : Unit → MM β) : (mbind (f_X5_adds (ad 0) (iI v) 3 (iI x)) F).1 (MO G ad z (cv c v w)) = (F ()).1 (MO G ad z (cv c v (va_up w 3 (w 3 + x)))) := by
  have h := adds_m (G := G) hi z (cv c v w) hv (show 3 < 10 by decide) x
  rw [cv_set c v w (show 3 < 10 by decide), cv_at c v w (show 3 < 10 by decide)] at h
  exact mbind_ok h
theorem oc_4 {β : Type} {G : GH} {ad : Nat → Nat} (hi : injK ad KM) (z : Nat → Int) (c : Nat → Nat → Int) {v : Nat} (hv : v < 100) (w : Nat → Int) (F : Int32 → MM β) : (mbind (f_X5_of (ad 0) (iI v) 4) F).1 (MO G ad z (cv c v w)) = (F (iI (w 4))).1 (MO G ad z (cv c v w)) := by
  have h := of_m (G := G) hi z (cv c v w) hv (show 4 < 10 by decide)
  rw [cv_at c v w (show 4 < 10 by decide)] at h
  exact mbind_ok h
theorem lc_4 {β : Type} {G : GH} {ad : Nat → Nat} (hi : injK ad KM) (z : Nat → Int) (c : Nat → Nat → Int) {v : Nat} (hv : v < 100) (w : Nat → Int) (x : Int) (F : Unit → MM β) : (mbind (f_X5_lays (ad 0) (iI v) 4 (iI x)) F).1 (MO G ad z (cv c v w)) = (F ()).1 (MO G ad z (cv c v (va_up w 4 x))) := by
  have h := lays_m (G := G) hi z (cv c v w) hv (show 4 < 10 by decide) x
  rw [cv_set c v w (show 4 < 10 by decide)] at h
  exact mbind_ok h
theorem ac_4 {β : Type} {G : GH} {ad : Nat → Nat} (hi : injK ad KM) (z : Nat → Int) (c : Nat → Nat → Int) {v : Nat} (hv : v < 100) (w : Nat → Int) (x : Int) (F : Unit → MM β) : (mbind (f_X5_adds (ad 0) (iI v) 4 (iI x)) F).1 (MO G ad z (cv c v w)) = (F ()).1 (MO G ad z (cv c v (va_up w 4 (w 4 + x)))) := by
  have h := adds_m (G := G) hi z (cv c v w) hv (show 4 < 10 by decide) x
  rw [cv_set c v w (show 4 < 10 by decide), cv_at c v w (show 4 < 10 by decide)] at h
  exact mbind_ok h
theorem oc_5 {β : Type} {G : GH} {ad : Nat → Nat} (hi : injK ad KM) (z : Nat → Int) (c : Nat → Nat → Int) {v : Nat} (hv : v < 100) (w : Nat → Int) (F : Int32 → MM β) : (mbind (f_X5_of (ad 0) (iI v) 5) F).1 (MO G ad z (cv c v w)) = (F (iI (w 5))).1 (MO G ad z (cv c v w)) := by
  have h := of_m (G := G) hi z (cv c v w) hv (show 5 < 10 by decide)
  rw [cv_at c v w (show 5 < 10 by decide)] at h
  exact mbind_ok h
theorem lc_5 {β : Type} {G : GH} {ad : Nat → Nat} (hi : injK ad KM) (z : Nat → Int) (c : Nat → Nat → Int) {v : Nat} (hv : v < 100) (w : Nat → Int) (x : Int) (F : Unit → MM β) : (mbind (f_X5_lays (ad 0) (iI v) 5 (iI x)) F).1 (MO G ad z (cv c v w)) = (F ()).1 (MO G ad z (cv c v (va_up w 5 x))) := by
  have h := lays_m (G := G) hi z (cv c v w) hv (show 5 < 10 by decide) x
  rw [cv_set c v w (show 5 < 10 by decide)] at h
  exact mbind_ok h
theorem ac_5 {β : Type} {G : GH} {ad : Nat → Nat} (hi : injK ad KM) (z : Nat → Int) (c : Nat → Nat → Int) {v : Nat} (hv : v < 100) (w : Nat → Int) (x : Int) (F : Unit → MM β) : (mbind (f_X5_adds (ad 0) (iI v) 5 (iI x)) F).1 (MO G ad z (cv c v w)) = (F ()).1 (MO G ad z (cv c v (va_up w 5 (w 5 + x)))) := by
  have h := adds_m (G := G) hi z (cv c v w) hv (show 5 < 10 by decide) x
  rw [cv_set c v w (show 5 < 10 by decide), cv_at c v w (show 5 < 10 by decide)] at h
  exact mbind_ok h
theorem oc_6 {β : Type} {G : GH} {ad : Nat → Nat} (hi : injK ad KM) (z : Nat → Int) (c : Nat → Nat → Int) {v : Nat} (hv : v < 100) (w : Nat → Int) (F : Int32 → MM β) : (mbind (f_X5_of (ad 0) (iI v) 6) F).1 (MO G ad z (cv c v w)) = (F (iI (w 6))).1 (MO G ad z (cv c v w)) := by
  have h := of_m (G := G) hi z (cv c v w) hv (show 6 < 10 by decide)
  rw [cv_at c v w (show 6 < 10 by decide)] at h
  exact mbind_ok h
theorem lc_6 {β : Type} {G : GH} {ad : Nat → Nat} (hi : injK ad KM) (z : Nat → Int) (c : Nat → Nat → Int) {v : Nat} (hv : v < 100) (w : Nat → Int) (x : Int) (F : Unit → MM β) : (mbind (f_X5_lays (ad 0) (iI v) 6 (iI x)) F).1 (MO G ad z (cv c v w)) = (F ()).1 (MO G ad z (cv c v (va_up w 6 x))) := by
  have h := lays_m (G := G) hi z (cv c v w) hv (show 6 < 10 by decide) x
  rw [cv_set c v w (show 6 < 10 by decide)] at h
  exact mbind_ok h
theorem ac_6 {β : Type} {G : GH} {ad : Nat → Nat} (hi : injK ad KM) (z : Nat → Int) (c : Nat → Nat → Int) {v : Nat} (hv : v < 100) (w : Nat → Int) (x : Int) (F : Unit → MM β) : (mbind (f_X5_adds (ad 0) (iI v) 6 (iI x)) F).1 (MO G ad z (cv c v w)) = (F ()).1 (MO G ad z (cv c v (va_up w 6 (w 6 + x)))) := by
  have h := adds_m (G := G) hi z (cv c v w) hv (show 6 < 10 by decide) x
  rw [cv_set c v w (show 6 < 10 by decide), cv_at c v w (show 6 < 10 by decide)] at h
  exact mbind_ok h
theorem oc_7 {β : Type} {G : GH} {ad : Nat → Nat} (hi : injK ad KM) (z : Nat → Int) (c : Nat → Nat → Int) {v : Nat} (hv : v < 100) (w : Nat → Int) (F : Int32 → MM β) : (mbind (f_X5_of (ad 0) (iI v) 7) F).1 (MO G ad z (cv c v w)) = (F (iI (w 7))).1 (MO G ad z (cv c v w)) := by
  have h := of_m (G := G) hi z (cv c v w) hv (show 7 < 10 by decide)
  rw [cv_at c v w (show 7 < 10 by decide)] at h
  exact mbind_ok h
theorem lc_7 {β : Type} {G : GH} {ad : Nat → Nat} (hi : injK ad KM) (z : Nat → Int) (c : Nat → Nat → Int) {v : Nat} (hv : v < 100) (w : Nat → Int) (x : Int) (F : Unit → MM β) : (mbind (f_X5_lays (ad 0) (iI v) 7 (iI x)) F).1 (MO G ad z (cv c v w)) = (F ()).1 (MO G ad z (cv c v (va_up w 7 x))) := by
  have h := lays_m (G := G) hi z (cv c v w) hv (show 7 < 10 by decide) x
  rw [cv_set c v w (show 7 < 10 by decide)] at h
  exact mbind_ok h
theorem ac_7 {β : Type} {G : GH} {ad : Nat → Nat} (hi : injK ad KM) (z : Nat → Int) (c : Nat → Nat → Int) {v : Nat} (hv : v < 100) (w : Nat → Int) (x : Int) (F : Unit → MM β) : (mbind (f_X5_adds (ad 0) (iI v) 7 (iI x)) F).1 (MO G ad z (cv c v w)) = (F ()).1 (MO G ad z (cv c v (va_up w 7 (w 7 + x)))) := by
  have h := adds_m (G := G) hi z (cv c v w) hv (show 7 < 10 by decide) x
  rw [cv_set c v w (show 7 < 10 by decide), cv_at c v w (show 7 < 10 by decide)] at h
  exact mbind_ok h
theorem oc_8 {β : Type} {G : GH} {ad : Nat → Nat} (hi : injK ad KM) (z : Nat → Int) (c : Nat → Nat → Int) {v : Nat} (hv : v < 100) (w : Nat → Int) (F : Int32 → MM β) : (mbind (f_X5_of (ad 0) (iI v) 8) F).1 (MO G ad z (cv c v w)) = (F (iI (w 8))).1 (MO G ad z (cv c v w)) := by
  have h := of_m (G := G) hi z (cv c v w) hv (show 8 < 10 by decide)
  rw [cv_at c v w (show 8 < 10 by decide)] at h
  exact mbind_ok h
theorem lc_8 {β : Type} {G : GH} {ad : Nat → Nat} (hi : injK ad KM) (z : Nat → Int) (c : Nat → Nat → Int) {v : Nat} (hv : v < 100) (w : Nat → Int) (x : Int) (F : Unit → MM β) : (mbind (f_X5_lays (ad 0) (iI v) 8 (iI x)) F).1 (MO G ad z (cv c v w)) = (F ()).1 (MO G ad z (cv c v (va_up w 8 x))) := by
  have h := lays_m (G := G) hi z (cv c v w) hv (show 8 < 10 by decide) x
  rw [cv_set c v w (show 8 < 10 by decide)] at h
  exact mbind_ok h
theorem ac_8 {β : Type} {G : GH} {ad : Nat → Nat} (hi : injK ad KM) (z : Nat → Int) (c : Nat → Nat → Int) {v : Nat} (hv : v < 100) (w : Nat → Int) (x : Int) (F : Unit → MM β) : (mbind (f_X5_adds (ad 0) (iI v) 8 (iI x)) F).1 (MO G ad z (cv c v w)) = (F ()).1 (MO G ad z (cv c v (va_up w 8 (w 8 + x)))) := by
  have h := adds_m (G := G) hi z (cv c v w) hv (show 8 < 10 by decide) x
  rw [cv_set c v w (show 8 < 10 by decide), cv_at c v w (show 8 < 10 by decide)] at h
  exact mbind_ok h
theorem oc_9 {β : Type} {G : GH} {ad : Nat → Nat} (hi : injK ad KM) (z : Nat → Int) (c : Nat → Nat → Int) {v : Nat} (hv : v < 100) (w : Nat → Int) (F : Int32 → MM β) : (mbind (f_X5_of (ad 0) (iI v) 9) F).1 (MO G ad z (cv c v w)) = (F (iI (w 9))).1 (MO G ad z (cv c v w)) := by
  have h := of_m (G := G) hi z (cv c v w) hv (show 9 < 10 by decide)
  rw [cv_at c v w (show 9 < 10 by decide)] at h
  exact mbind_ok h
theorem lc_9 {β : Type} {G : GH} {ad : Nat → Nat} (hi : injK ad KM) (z : Nat → Int) (c : Nat → Nat → Int) {v : Nat} (hv : v < 100) (w : Nat → Int) (x : Int) (F : Unit → MM β) : (mbind (f_X5_lays (ad 0) (iI v) 9 (iI x)) F).1 (MO G ad z (cv c v w)) = (F ()).1 (MO G ad z (cv c v (va_up w 9 x))) := by
  have h := lays_m (G := G) hi z (cv c v w) hv (show 9 < 10 by decide) x
  rw [cv_set c v w (show 9 < 10 by decide)] at h
  exact mbind_ok h
theorem ac_9 {β : Type} {G : GH} {ad : Nat → Nat} (hi : injK ad KM) (z : Nat → Int) (c : Nat → Nat → Int) {v : Nat} (hv : v < 100) (w : Nat → Int) (x : Int) (F : Unit → MM β) : (mbind (f_X5_adds (ad 0) (iI v) 9 (iI x)) F).1 (MO G ad z (cv c v w)) = (F ()).1 (MO G ad z (cv c v (va_up w 9 (w 9 + x)))) := by
  have h := adds_m (G := G) hi z (cv c v w) hv (show 9 < 10 by decide) x
  rw [cv_set c v w (show 9 < 10 by decide), cv_at c v w (show 9 < 10 by decide)] at h
  exact mbind_ok h
theorem hd_0 {β : Type} {G : GH} {ad : Nat → Nat} (hi : injK ad KM) (z : Nat → Int) (c : Nat → Nat → Int) {v : Nat} (hv : v < 100) (w : Nat → Int) (F : Int32 → MM β) : (mbind (mali (ad 1) 0) F).1 (MO G ad z (cv c v w)) = (F (iI (c 1 0))).1 (MO G ad z (cv c v w)) := by
  have h := mo_al1 (G := G) hi z (cv c v w) (i := 0) (by omega) (by omega) F
  rw [show (Int.toNat 0) = 0 from rfl, cv_out c v w (by omega)] at h
  exact h
theorem hd_1 {β : Type} {G : GH} {ad : Nat → Nat} (hi : injK ad KM) (z : Nat → Int) (c : Nat → Nat → Int) {v : Nat} (hv : v < 100) (w : Nat → Int) (F : Int32 → MM β) : (mbind (mali (ad 1) 1) F).1 (MO G ad z (cv c v w)) = (F (iI (c 1 1))).1 (MO G ad z (cv c v w)) := by
  have h := mo_al1 (G := G) hi z (cv c v w) (i := 1) (by omega) (by omega) F
  rw [show (Int.toNat 1) = 1 from rfl, cv_out c v w (by omega)] at h
  exact h
theorem hd_2 {β : Type} {G : GH} {ad : Nat → Nat} (hi : injK ad KM) (z : Nat → Int) (c : Nat → Nat → Int) {v : Nat} (hv : v < 100) (w : Nat → Int) (F : Int32 → MM β) : (mbind (mali (ad 1) 2) F).1 (MO G ad z (cv c v w)) = (F (iI (c 1 2))).1 (MO G ad z (cv c v w)) := by
  have h := mo_al1 (G := G) hi z (cv c v w) (i := 2) (by omega) (by omega) F
  rw [show (Int.toNat 2) = 2 from rfl, cv_out c v w (by omega)] at h
  exact h
theorem ac1_5 {β : Type} {G : GH} {ad : Nat → Nat} (hi : injK ad KM) (z : Nat → Int) (c : Nat → Nat → Int) {v : Nat} (hv : v < 100) (w : Nat → Int) (F : Unit → MM β) : (mbind (f_X5_adds (ad 0) (iI v) 5 1) F).1 (MO G ad z (cv c v w)) = (F ()).1 (MO G ad z (cv c v (va_up w 5 (w 5 + 1)))) := ac_5 hi z c hv w 1 F
def mOver (w : Nat → Int) : Nat → Int := va_up (va_up (va_up w 2 (w 4)) 4 (-1)) 3 0
def mPart (w : Nat → Int) (fr : Bool) : Int := if fr = true then w 2 else w 1 - w 2
def mOp1 (w : Nat → Int) (e : Int) : Nat → Int := va_up (va_up w 6 e) 5 e
def mOpens (w : Nat → Int) (fr : Bool) : Nat → Int :=
  if w 4 = -1 then mOp1 w (if mPart w fr = 0 then 0 + (mPart w (!fr) - 1) else 0 + 0) else mOp1 (mOver w) (if mPart (mOver w) fr = 0 then w 3 + (mPart (mOver w) (!fr) - 1) else w 3 + 0)
def mClamp (w : Nat → Int) (g : Int) : Nat → Int := if (if 0 ≤ g then g else 0) ≤ w 1 then va_up w 4 (if 0 ≤ g then g else 0) else va_up w 4 (w 1)
def mChg (w : Nat → Int) (fr : Bool) (ff : Bool) (b : Int) : Nat → Int :=
  let w1 := va_up (va_up (va_up w 1 (w 1 + b)) 2 (w 2 + if ff = true then b else 0)) 5 (w 5 + 1)
  if w 4 = -1 then w1 else mClamp w1 (w 4 + if fr = true then b else 0)
def mPay1 (w : Nat → Int) (st : Int) : Nat → Int := let w1 := va_up (va_up w 5 (w 5 + st)) 3 (w 3 - st); if w 3 - st = 0 then mOver w1 else w1
def mBeg (w : Nat → Int) (ratio : Int) : Nat → Int := if w 4 = -1 then (if max (w 2) (w 1 - w 2) ≤ ratio * min (w 2) (w 1 - w 2) + 1 then w else va_up (va_up w 3 (w 1)) 4 (w 1 / 2)) else w
def mPays (w : Nat → Int) (rate ratio : Int) : Nat → Int := mBeg (if w 4 = -1 then w else mPay1 w (if rate ≤ w 3 then rate else w 3)) ratio
theorem over_m {G : GH} {ad : Nat → Nat} (hi : injK ad KM) (z : Nat → Int) (c : Nat → Nat → Int) {v : Nat} (hv : v < 100) (w : Nat → Int) : (f_X5_isOver (ad 0) (iI v)).1 (MO G ad z (cv c v w)) = some ((), MO G ad z (cv c v (mOver w))) := by
  unfold f_X5_isOver
  simp only [mo_ck hi, oc_0 hi z c hv, oc_1 hi z c hv, oc_2 hi z c hv, oc_3 hi z c hv, oc_4 hi z c hv, oc_5 hi z c hv, oc_6 hi z c hv, oc_7 hi z c hv, oc_8 hi z c hv, oc_9 hi z c hv, lc_0 hi z c hv, lc_1 hi z c hv, lc_2 hi z c hv, lc_3 hi z c hv, lc_4 hi z c hv, lc_5 hi z c hv, lc_6 hi z c hv, lc_7 hi z c hv, lc_8 hi z c hv, lc_9 hi z c hv, ac_0 hi z c hv, ac_1 hi z c hv, ac_2 hi z c hv, ac_3 hi z c hv, ac_4 hi z c hv, ac_5 hi z c hv, ac_6 hi z c hv, ac_7 hi z c hv, ac_8 hi z c hv, ac_9 hi z c hv, lzm1, lz0]
  rfl
theorem part_m {G : GH} {ad : Nat → Nat} (hi : injK ad KM) (z : Nat → Int) (c : Nat → Nat → Int) {v : Nat} (hv : v < 100) (w : Nat → Int) (fr : Bool) : (f_X5_partOf (ad 0) (iI v) (iI (b2i fr))).1 (MO G ad z (cv c v w)) = some (iI (mPart w fr), MO G ad z (cv c v w)) := by
  unfold f_X5_partOf
  cases fr
  · rw [if_pos (show iI (b2i false) = 0 from rfl)]
    simp only [mo_ck hi, oc_0 hi z c hv, oc_1 hi z c hv, oc_2 hi z c hv, oc_3 hi z c hv, oc_4 hi z c hv, oc_5 hi z c hv, oc_6 hi z c hv, oc_7 hi z c hv, oc_8 hi z c hv, oc_9 hi z c hv, lc_0 hi z c hv, lc_1 hi z c hv, lc_2 hi z c hv, lc_3 hi z c hv, lc_4 hi z c hv, lc_5 hi z c hv, lc_6 hi z c hv, lc_7 hi z c hv, lc_8 hi z c hv, lc_9 hi z c hv, ac_0 hi z c hv, ac_1 hi z c hv, ac_2 hi z c hv, ac_3 hi z c hv, ac_4 hi z c hv, ac_5 hi z c hv, ac_6 hi z c hv, ac_7 hi z c hv, ac_8 hi z c hv, ac_9 hi z c hv, iI_sub]
    rfl
  · rw [if_neg (show ¬ iI (b2i true) = 0 by decide)]
    simp only [mo_ck hi, oc_0 hi z c hv, oc_1 hi z c hv, oc_2 hi z c hv, oc_3 hi z c hv, oc_4 hi z c hv, oc_5 hi z c hv, oc_6 hi z c hv, oc_7 hi z c hv, oc_8 hi z c hv, oc_9 hi z c hv, lc_0 hi z c hv, lc_1 hi z c hv, lc_2 hi z c hv, lc_3 hi z c hv, lc_4 hi z c hv, lc_5 hi z c hv, lc_6 hi z c hv, lc_7 hi z c hv, lc_8 hi z c hv, lc_9 hi z c hv, ac_0 hi z c hv, ac_1 hi z c hv, ac_2 hi z c hv, ac_3 hi z c hv, ac_4 hi z c hv, ac_5 hi z c hv, ac_6 hi z c hv, ac_7 hi z c hv, ac_8 hi z c hv, ac_9 hi z c hv]
    rfl
theorem op24_m {G : GH} {ad : Nat → Nat} (hi : injK ad KM) (z : Nat → Int) (c : Nat → Nat → Int) {v : Nat} (hv : v < 100) (w : Nat → Int) (fr : Bool) (e : Int) (hb : -1000 ≤ mPart w fr ∧ mPart w fr ≤ 1000) : (f_X5_opens_24 (ad 0) (iI v) (iI (b2i fr)) (iI e)).1 (MO G ad z (cv c v w)) = some ((), MO G ad z (cv c v (mOp1 w (if mPart w fr = 0 then e + (mPart w (!fr) - 1) else e + 0)))) := by
  unfold f_X5_opens_24
  simp only [mo_ck hi]
  rw [mbind_ok (part_m hi z c hv w fr)]
  by_cases h : mPart w fr = 0
  · rw [if_pos (by rw [h]; rfl), if_pos h]
    have hh : ∀ s0 : Int32, s0 = iI (b2i (!fr)) → (f_X5_opens_45 (ad 0) (iI v) s0 (iI v) (ad 0) (iI e)).1 (MO G ad z (cv c v w)) = some ((), MO G ad z (cv c v (mOp1 w (e + (mPart w (!fr) - 1))))) := by
      intro s0 hs
      subst hs
      unfold f_X5_opens_45
      simp only [mo_ck hi]
      rw [mbind_ok (part_m hi z c hv w (!fr)), lz1, iI_sub, iI_add]
      simp only [mo_ck hi, oc_0 hi z c hv, oc_1 hi z c hv, oc_2 hi z c hv, oc_3 hi z c hv, oc_4 hi z c hv, oc_5 hi z c hv, oc_6 hi z c hv, oc_7 hi z c hv, oc_8 hi z c hv, oc_9 hi z c hv, lc_0 hi z c hv, lc_1 hi z c hv, lc_2 hi z c hv, lc_3 hi z c hv, lc_4 hi z c hv, lc_5 hi z c hv, lc_6 hi z c hv, lc_7 hi z c hv, lc_8 hi z c hv, lc_9 hi z c hv, ac_0 hi z c hv, ac_1 hi z c hv, ac_2 hi z c hv, ac_3 hi z c hv, ac_4 hi z c hv, ac_5 hi z c hv, ac_6 hi z c hv, ac_7 hi z c hv, ac_8 hi z c hv, ac_9 hi z c hv]
      rfl
    cases fr
    · rw [if_pos (show iI (b2i false) = 0 from rfl)]
      exact hh _ rfl
    · rw [if_neg (show ¬ iI (b2i true) = 0 by decide)]
      exact hh _ rfl
  · rw [if_neg (by rw [lz0, iI_eq (by omega) (by omega) (by omega) (by omega)]; exact h), if_neg h, lz0, iI_add]
    simp only [mo_ck hi, oc_0 hi z c hv, oc_1 hi z c hv, oc_2 hi z c hv, oc_3 hi z c hv, oc_4 hi z c hv, oc_5 hi z c hv, oc_6 hi z c hv, oc_7 hi z c hv, oc_8 hi z c hv, oc_9 hi z c hv, lc_0 hi z c hv, lc_1 hi z c hv, lc_2 hi z c hv, lc_3 hi z c hv, lc_4 hi z c hv, lc_5 hi z c hv, lc_6 hi z c hv, lc_7 hi z c hv, lc_8 hi z c hv, lc_9 hi z c hv, ac_0 hi z c hv, ac_1 hi z c hv, ac_2 hi z c hv, ac_3 hi z c hv, ac_4 hi z c hv, ac_5 hi z c hv, ac_6 hi z c hv, ac_7 hi z c hv, ac_8 hi z c hv, ac_9 hi z c hv]
    rfl
theorem opens_m {G : GH} {ad : Nat → Nat} (hi : injK ad KM) (z : Nat → Int) (c : Nat → Nat → Int) {v : Nat} (hv : v < 100) (w : Nat → Int) (fr : Bool) (hb : (-1 ≤ w 4 ∧ w 4 ≤ 1000) ∧ (0 ≤ w 1 ∧ w 1 ≤ 100) ∧ (0 ≤ w 2 ∧ w 2 ≤ 100)) : (f_X5_opens (ad 0) (iI v) (iI (b2i fr))).1 (MO G ad z (cv c v w)) = some ((), MO G ad z (cv c v (mOpens w fr))) := by
  unfold f_X5_opens mOpens
  simp only [mo_ck hi, oc_0 hi z c hv, oc_1 hi z c hv, oc_2 hi z c hv, oc_3 hi z c hv, oc_4 hi z c hv, oc_5 hi z c hv, oc_6 hi z c hv, oc_7 hi z c hv, oc_8 hi z c hv, oc_9 hi z c hv, lc_0 hi z c hv, lc_1 hi z c hv, lc_2 hi z c hv, lc_3 hi z c hv, lc_4 hi z c hv, lc_5 hi z c hv, lc_6 hi z c hv, lc_7 hi z c hv, lc_8 hi z c hv, lc_9 hi z c hv, ac_0 hi z c hv, ac_1 hi z c hv, ac_2 hi z c hv, ac_3 hi z c hv, ac_4 hi z c hv, ac_5 hi z c hv, ac_6 hi z c hv, ac_7 hi z c hv, ac_8 hi z c hv, ac_9 hi z c hv]
  by_cases h : w 4 = -1
  · rw [if_pos (by rw [h]; rfl), if_pos h, lz0]
    exact op24_m hi z c hv w fr 0 (by unfold mPart; split <;> omega)
  · rw [if_neg (by rw [lzm1, iI_eq (by omega) (by omega) (by omega) (by omega)]; exact h), if_neg h]
    simp only [mo_ck hi, oc_0 hi z c hv, oc_1 hi z c hv, oc_2 hi z c hv, oc_3 hi z c hv, oc_4 hi z c hv, oc_5 hi z c hv, oc_6 hi z c hv, oc_7 hi z c hv, oc_8 hi z c hv, oc_9 hi z c hv, lc_0 hi z c hv, lc_1 hi z c hv, lc_2 hi z c hv, lc_3 hi z c hv, lc_4 hi z c hv, lc_5 hi z c hv, lc_6 hi z c hv, lc_7 hi z c hv, lc_8 hi z c hv, lc_9 hi z c hv, ac_0 hi z c hv, ac_1 hi z c hv, ac_2 hi z c hv, ac_3 hi z c hv, ac_4 hi z c hv, ac_5 hi z c hv, ac_6 hi z c hv, ac_7 hi z c hv, ac_8 hi z c hv, ac_9 hi z c hv]
    rw [mbind_ok (over_m hi z c hv w)]
    refine op24_m hi z c hv (mOver w) fr (w 3) ?_
    unfold mPart mOver
    simp only [va_up]
    split <;> simp <;> omega
theorem clamp_m {G : GH} {ad : Nat → Nat} (hi : injK ad KM) (z : Nat → Int) (c : Nat → Nat → Int) {v : Nat} (hv : v < 100) (w : Nat → Int) (g : Int) (hg : -1000 ≤ g ∧ g ≤ 1000) (h1 : -1000 ≤ w 1 ∧ w 1 ≤ 1000) (s0 s1 : Int32) (hs : s1 + s0 = iI g) : (f_X5_changes_83 (ad 0) (iI v) s0 s1).1 (MO G ad z (cv c v w)) = some ((), MO G ad z (cv c v (mClamp w g))) := by
  have h97 : ∀ x : Int, -1000 ≤ x ∧ x ≤ 1000 → (f_X5_changes_97 (ad 0) (iI v) (iI x)).1 (MO G ad z (cv c v w)) = some ((), MO G ad z (cv c v (if x ≤ w 1 then va_up w 4 x else va_up w 4 (w 1)))) := by
    intro x hx
    unfold f_X5_changes_97
    simp only [mo_ck hi, oc_0 hi z c hv, oc_1 hi z c hv, oc_2 hi z c hv, oc_3 hi z c hv, oc_4 hi z c hv, oc_5 hi z c hv, oc_6 hi z c hv, oc_7 hi z c hv, oc_8 hi z c hv, oc_9 hi z c hv, lc_0 hi z c hv, lc_1 hi z c hv, lc_2 hi z c hv, lc_3 hi z c hv, lc_4 hi z c hv, lc_5 hi z c hv, lc_6 hi z c hv, lc_7 hi z c hv, lc_8 hi z c hv, lc_9 hi z c hv, ac_0 hi z c hv, ac_1 hi z c hv, ac_2 hi z c hv, ac_3 hi z c hv, ac_4 hi z c hv, ac_5 hi z c hv, ac_6 hi z c hv, ac_7 hi z c hv, ac_8 hi z c hv, ac_9 hi z c hv]
    by_cases h : x ≤ w 1
    · rw [if_pos (by rw [iI_le (by omega) (by omega) (by omega) (by omega)]; exact h), if_pos h]
      simp only [mo_ck hi, oc_0 hi z c hv, oc_1 hi z c hv, oc_2 hi z c hv, oc_3 hi z c hv, oc_4 hi z c hv, oc_5 hi z c hv, oc_6 hi z c hv, oc_7 hi z c hv, oc_8 hi z c hv, oc_9 hi z c hv, lc_0 hi z c hv, lc_1 hi z c hv, lc_2 hi z c hv, lc_3 hi z c hv, lc_4 hi z c hv, lc_5 hi z c hv, lc_6 hi z c hv, lc_7 hi z c hv, lc_8 hi z c hv, lc_9 hi z c hv, ac_0 hi z c hv, ac_1 hi z c hv, ac_2 hi z c hv, ac_3 hi z c hv, ac_4 hi z c hv, ac_5 hi z c hv, ac_6 hi z c hv, ac_7 hi z c hv, ac_8 hi z c hv, ac_9 hi z c hv]
      rfl
    · rw [if_neg (by rw [iI_le (by omega) (by omega) (by omega) (by omega)]; exact h), if_neg h]
      simp only [mo_ck hi, oc_0 hi z c hv, oc_1 hi z c hv, oc_2 hi z c hv, oc_3 hi z c hv, oc_4 hi z c hv, oc_5 hi z c hv, oc_6 hi z c hv, oc_7 hi z c hv, oc_8 hi z c hv, oc_9 hi z c hv, lc_0 hi z c hv, lc_1 hi z c hv, lc_2 hi z c hv, lc_3 hi z c hv, lc_4 hi z c hv, lc_5 hi z c hv, lc_6 hi z c hv, lc_7 hi z c hv, lc_8 hi z c hv, lc_9 hi z c hv, ac_0 hi z c hv, ac_1 hi z c hv, ac_2 hi z c hv, ac_3 hi z c hv, ac_4 hi z c hv, ac_5 hi z c hv, ac_6 hi z c hv, ac_7 hi z c hv, ac_8 hi z c hv, ac_9 hi z c hv]
      rfl
  unfold f_X5_changes_83 mClamp
  rw [hs]
  by_cases h : 0 ≤ g
  · rw [if_pos (by rw [lz0, iI_le (by omega) (by omega) (by omega) (by omega)]; exact h), if_pos h]
    exact h97 g hg
  · rw [if_neg (by rw [lz0, iI_le (by omega) (by omega) (by omega) (by omega)]; exact h), if_neg h]
    exact h97 0 (by omega)
theorem chg26_m {G : GH} {ad : Nat → Nat} (hi : injK ad KM) (z : Nat → Int) (c : Nat → Nat → Int) {v : Nat} (hv : v < 100) (w : Nat → Int) (fr ff : Bool) (b : Int) (hb : -1 ≤ b ∧ b ≤ 1) (hw : (-1 ≤ w 4 ∧ w 4 ≤ 500) ∧ (0 ≤ w 1 ∧ w 1 ≤ 100)) : (f_X5_changes_26 (ad 0) (iI v) (iI (b2i fr)) (iI b) (iI (b2i ff))).1 (MO G ad z (cv c v w)) = some ((), MO G ad z (cv c v (mChg w fr ff b))) := by
  have h48 : ∀ x : Int, ∀ w0 : Nat → Int, w0 1 = w 1 + b → w0 4 = w 4 → (f_X5_changes_48 (ad 0) (iI v) (iI (b2i fr)) (iI b) (iI x) 2 (iI v) (ad 0)).1 (MO G ad z (cv c v w0)) = some ((), MO G ad z (cv c v (if w 4 = -1 then va_up (va_up w0 2 (w0 2 + x)) 5 (w0 5 + 1) else mClamp (va_up (va_up w0 2 (w0 2 + x)) 5 (w0 5 + 1)) (w 4 + if fr = true then b else 0)))) := by
    intro x w0 e1 e4
    unfold f_X5_changes_48
    simp only [mo_ck hi, oc_0 hi z c hv, oc_1 hi z c hv, oc_2 hi z c hv, oc_3 hi z c hv, oc_4 hi z c hv, oc_5 hi z c hv, oc_6 hi z c hv, oc_7 hi z c hv, oc_8 hi z c hv, oc_9 hi z c hv, lc_0 hi z c hv, lc_1 hi z c hv, lc_2 hi z c hv, lc_3 hi z c hv, lc_4 hi z c hv, lc_5 hi z c hv, lc_6 hi z c hv, lc_7 hi z c hv, lc_8 hi z c hv, lc_9 hi z c hv, ac_0 hi z c hv, ac_1 hi z c hv, ac_2 hi z c hv, ac_3 hi z c hv, ac_4 hi z c hv, ac_5 hi z c hv, ac_6 hi z c hv, ac_7 hi z c hv, ac_8 hi z c hv, ac_9 hi z c hv, ac1_5 hi z c hv]
    have e4' : va_up (va_up w0 2 (w0 2 + x)) 5 (va_up w0 2 (w0 2 + x) 5 + 1) 4 = w 4 := by rw [up_ne _ _ (by decide), up_ne _ _ (by decide), e4]
    have e5' : va_up w0 2 (w0 2 + x) 5 = w0 5 := up_ne _ _ (by decide)
    rw [e4']
    by_cases h : w 4 = -1
    · rw [if_pos (by rw [h]; rfl), if_pos h, e5']
      rfl
    · rw [if_neg (by rw [lzm1, iI_eq (by omega) (by omega) (by omega) (by omega)]; exact h), if_neg h]
      simp only [mo_ck hi, oc_0 hi z c hv, oc_1 hi z c hv, oc_2 hi z c hv, oc_3 hi z c hv, oc_4 hi z c hv, oc_5 hi z c hv, oc_6 hi z c hv, oc_7 hi z c hv, oc_8 hi z c hv, oc_9 hi z c hv, lc_0 hi z c hv, lc_1 hi z c hv, lc_2 hi z c hv, lc_3 hi z c hv, lc_4 hi z c hv, lc_5 hi z c hv, lc_6 hi z c hv, lc_7 hi z c hv, lc_8 hi z c hv, lc_9 hi z c hv, ac_0 hi z c hv, ac_1 hi z c hv, ac_2 hi z c hv, ac_3 hi z c hv, ac_4 hi z c hv, ac_5 hi z c hv, ac_6 hi z c hv, ac_7 hi z c hv, ac_8 hi z c hv, ac_9 hi z c hv]
      rw [e4', e5']
      have e1' : va_up (va_up w0 2 (w0 2 + x)) 5 (w0 5 + 1) 1 = w 1 + b := by rw [up_ne _ _ (by decide), up_ne _ _ (by decide), e1]
      cases fr
      · rw [if_pos (show iI (b2i false) = 0 from rfl)]
        exact clamp_m hi z c hv _ _ (by simp; omega) (by rw [e1']; omega) _ _ (by rw [lz0, iI_add]; rfl)
      · rw [if_neg (show ¬ iI (b2i true) = 0 by decide)]
        exact clamp_m hi z c hv _ _ (by simp; omega) (by rw [e1']; omega) _ _ (by rw [iI_add]; rfl)
  unfold f_X5_changes_26
  simp only [mo_ck hi, oc_0 hi z c hv, oc_1 hi z c hv, oc_2 hi z c hv, oc_3 hi z c hv, oc_4 hi z c hv, oc_5 hi z c hv, oc_6 hi z c hv, oc_7 hi z c hv, oc_8 hi z c hv, oc_9 hi z c hv, lc_0 hi z c hv, lc_1 hi z c hv, lc_2 hi z c hv, lc_3 hi z c hv, lc_4 hi z c hv, lc_5 hi z c hv, lc_6 hi z c hv, lc_7 hi z c hv, lc_8 hi z c hv, lc_9 hi z c hv, ac_0 hi z c hv, ac_1 hi z c hv, ac_2 hi z c hv, ac_3 hi z c hv, ac_4 hi z c hv, ac_5 hi z c hv, ac_6 hi z c hv, ac_7 hi z c hv, ac_8 hi z c hv, ac_9 hi z c hv]
  cases ff
  · rw [if_pos (show iI (b2i false) = 0 from rfl), lz0, h48 0 (va_up w 1 (w 1 + b)) (up_self _ _ _) (up_ne _ _ (by decide))]
    unfold mChg
    simp only [Bool.false_eq_true, if_false]
    rfl
  · rw [if_neg (show ¬ iI (b2i true) = 0 by decide), h48 b (va_up w 1 (w 1 + b)) (up_self _ _ _) (up_ne _ _ (by decide))]
    unfold mChg
    simp only [if_true]
    rfl
theorem chg_m {G : GH} {ad : Nat → Nat} (hi : injK ad KM) (z : Nat → Int) (c : Nat → Nat → Int) {v : Nat} (hv : v < 100) (w : Nat → Int) (fr : Bool) (b : Int) (hb : b = 1 ∨ b = -1) (hw : (-1 ≤ w 4 ∧ w 4 ≤ 500) ∧ (0 ≤ w 1 ∧ w 1 ≤ 100) ∧ (0 ≤ w 2 ∧ w 2 ≤ 100)) : (f_X5_changes (ad 0) (iI v) (iI (b2i fr)) (iI b)).1 (MO G ad z (cv c v w)) = some ((), MO G ad z (cv c v (mChg w fr (if 0 < b ∨ 0 < mPart w fr then fr else !fr) b))) := by
  unfold f_X5_changes
  rcases hb with e | e
  · subst e
    rw [if_pos (by decide), if_pos (Or.inl (by decide))]
    exact chg26_m hi z c hv w fr fr 1 (by decide) ⟨hw.1, hw.2.1⟩
  · subst e
    have hp : -1000 ≤ mPart w fr ∧ mPart w fr ≤ 1000 := by unfold mPart; split <;> omega
    rw [if_neg (by decide)]
    simp only [mo_ck hi]
    rw [mbind_ok (part_m hi z c hv w fr)]
    by_cases h : 0 < mPart w fr
    · rw [if_neg (by rw [lz0, iI_le (by omega) (by omega) (by omega) (by omega)]; omega), if_pos (Or.inr h)]
      exact chg26_m hi z c hv w fr fr (-1) (by decide) ⟨hw.1, hw.2.1⟩
    · have hn : ¬ ((0 : Int) < -1 ∨ 0 < mPart w fr) := by omega
      rw [if_pos (by rw [lz0, iI_le (by omega) (by omega) (by omega) (by omega)]; omega), if_neg hn]
      cases fr
      · rw [if_pos (show iI (b2i false) = 0 from rfl)]
        exact chg26_m hi z c hv w false true (-1) (by decide) ⟨hw.1, hw.2.1⟩
      · rw [if_neg (show ¬ iI (b2i true) = 0 by decide)]
        exact chg26_m hi z c hv w true false (-1) (by decide) ⟨hw.1, hw.2.1⟩
theorem beg_m {G : GH} {ad : Nat → Nat} (hi : injK ad KM) (z : Nat → Int) (c : Nat → Nat → Int) {v : Nat} (hv : v < 100) (w : Nat → Int) (hr : 0 ≤ c 1 1 ∧ c 1 1 ≤ 5) (hw : (-1 ≤ w 4 ∧ w 4 ≤ 500) ∧ (0 ≤ w 1 ∧ w 1 ≤ 100) ∧ (0 ≤ w 2 ∧ w 2 ≤ w 1)) : (f_X5_pays_70 (ad 0) (iI v)).1 (MO G ad z (cv c v w)) = some ((), MO G ad z (cv c v (mBeg w (c 1 1)))) := by
  have hm1 : 0 ≤ c 1 1 * min (w 2) (w 1 - w 2) := Int.mul_nonneg hr.1 (by omega)
  have hm2 : c 1 1 * min (w 2) (w 1 - w 2) ≤ 5 * min (w 2) (w 1 - w 2) := Int.mul_le_mul_of_nonneg_right hr.2 (by omega)
  have h106 : (f_X5_pays_106 (ad 0) (iI v) (iI (max (w 2) (w 1 - w 2))) (iI (min (w 2) (w 1 - w 2)))).1 (MO G ad z (cv c v w)) = some ((), MO G ad z (cv c v (mBeg w (c 1 1)))) := by
    unfold f_X5_pays_106 mBeg
    simp only [mo_ck hi, oc_0 hi z c hv, oc_1 hi z c hv, oc_2 hi z c hv, oc_3 hi z c hv, oc_4 hi z c hv, oc_5 hi z c hv, oc_6 hi z c hv, oc_7 hi z c hv, oc_8 hi z c hv, oc_9 hi z c hv, lc_0 hi z c hv, lc_1 hi z c hv, lc_2 hi z c hv, lc_3 hi z c hv, lc_4 hi z c hv, lc_5 hi z c hv, lc_6 hi z c hv, lc_7 hi z c hv, lc_8 hi z c hv, lc_9 hi z c hv, ac_0 hi z c hv, ac_1 hi z c hv, ac_2 hi z c hv, ac_3 hi z c hv, ac_4 hi z c hv, ac_5 hi z c hv, ac_6 hi z c hv, ac_7 hi z c hv, ac_8 hi z c hv, ac_9 hi z c hv]
    by_cases h : w 4 = -1
    · rw [if_pos (by rw [h]; rfl), if_pos h]
      simp only [mo_gr0 hi, hd_1 hi z c hv]
      by_cases h2 : max (w 2) (w 1 - w 2) ≤ c 1 1 * min (w 2) (w 1 - w 2) + 1
      · rw [if_pos (show iI (max (w 2) (w 1 - w 2)) ≤ iI (c 1 1) * iI (min (w 2) (w 1 - w 2)) + 1 by rw [lz1, iI_mul, iI_add, iI_le (by omega) (by omega) (by omega) (by omega)]; exact h2), if_pos h2]
        rfl
      · rw [if_neg (show ¬ iI (max (w 2) (w 1 - w 2)) ≤ iI (c 1 1) * iI (min (w 2) (w 1 - w 2)) + 1 by rw [lz1, iI_mul, iI_add, iI_le (by omega) (by omega) (by omega) (by omega)]; exact h2), if_neg h2]
        simp only [mo_ck hi, oc_1 hi z c hv, lc_3 hi z c hv, up_ne _ _ (show 1 ≠ 3 by decide)]
        rw [show f_X5_half (iI (w 1)) = mpure (iI (w 1 / 2)) by unfold f_X5_half; rw [lz2, iI_div (by omega) (by omega) (by omega) (by omega)]]
        simp only [mb_pure, mo_ck hi, lc_4 hi z c hv]
        rfl
    · rw [if_neg (by rw [lzm1, iI_eq (by omega) (by omega) (by omega) (by omega)]; exact h), if_neg h]
      rfl
  unfold f_X5_pays_70
  simp only [mo_ck hi]
  have p1 := part_m (G := G) hi z c hv w true
  have p0 := part_m (G := G) hi z c hv w false
  rw [show iI (b2i true) = 1 from rfl, show mPart w true = w 2 from rfl] at p1
  rw [show iI (b2i false) = 0 from rfl, show mPart w false = w 1 - w 2 from rfl] at p0
  rw [mbind_ok p1]
  simp only [mo_ck hi]
  rw [mbind_ok p0]
  by_cases h : w 2 ≤ w 1 - w 2
  · rw [if_pos (by rw [iI_le (by omega) (by omega) (by omega) (by omega)]; exact h)]
    unfold f_X5_pays_94
    rw [if_pos (by rw [iI_le (by omega) (by omega) (by omega) (by omega)]; exact h)]
    rw [show max (w 2) (w 1 - w 2) = w 1 - w 2 by omega, show min (w 2) (w 1 - w 2) = w 2 by omega] at h106
    exact h106
  · rw [if_neg (by rw [iI_le (by omega) (by omega) (by omega) (by omega)]; exact h)]
    unfold f_X5_pays_94
    rw [if_neg (by rw [iI_le (by omega) (by omega) (by omega) (by omega)]; exact h)]
    rw [show max (w 2) (w 1 - w 2) = w 2 by omega, show min (w 2) (w 1 - w 2) = w 1 - w 2 by omega] at h106
    exact h106
theorem pays_m {G : GH} {ad : Nat → Nat} (hi : injK ad KM) (z : Nat → Int) (c : Nat → Nat → Int) {v : Nat} (hv : v < 100) (w : Nat → Int) (hr : 0 ≤ c 1 1 ∧ c 1 1 ≤ 5) (hq : 1 ≤ c 1 0 ∧ c 1 0 ≤ 9) (hw : (-1 ≤ w 4 ∧ w 4 ≤ 100) ∧ (0 ≤ w 1 ∧ w 1 ≤ 100) ∧ (0 ≤ w 2 ∧ w 2 ≤ w 1) ∧ (0 ≤ w 3 ∧ w 3 ≤ 100) ∧ (w 4 ≠ -1 → 0 ≤ w 4 ∧ w 4 ≤ w 1)) : (f_X5_pays (ad 0) (iI v)).1 (MO G ad z (cv c v w)) = some ((), MO G ad z (cv c v (mPays w (c 1 0) (c 1 1)))) := by
  have h40 : ∀ st : Int, 0 ≤ st ∧ st ≤ 100 → w 4 ≠ -1 → (f_X5_pays_40 (ad 0) (iI v) (iI st)).1 (MO G ad z (cv c v w)) = some ((), MO G ad z (cv c v (mBeg (mPay1 w st) (c 1 1)))) := by
    intro st hst h4
    unfold f_X5_pays_40 mPay1
    simp only [mo_ck hi, oc_0 hi z c hv, oc_1 hi z c hv, oc_2 hi z c hv, oc_3 hi z c hv, oc_4 hi z c hv, oc_5 hi z c hv, oc_6 hi z c hv, oc_7 hi z c hv, oc_8 hi z c hv, oc_9 hi z c hv, lc_0 hi z c hv, lc_1 hi z c hv, lc_2 hi z c hv, lc_3 hi z c hv, lc_4 hi z c hv, lc_5 hi z c hv, lc_6 hi z c hv, lc_7 hi z c hv, lc_8 hi z c hv, lc_9 hi z c hv, ac_0 hi z c hv, ac_1 hi z c hv, ac_2 hi z c hv, ac_3 hi z c hv, ac_4 hi z c hv, ac_5 hi z c hv, ac_6 hi z c hv, ac_7 hi z c hv, ac_8 hi z c hv, ac_9 hi z c hv, iI_neg]
    have e3 : va_up (va_up w 5 (w 5 + st)) 3 (va_up w 5 (w 5 + st) 3 + -st) = va_up (va_up w 5 (w 5 + st)) 3 (w 3 - st) := by rw [up_ne _ _ (show 3 ≠ 5 by decide)]; congr 1
    rw [e3, up_self]
    by_cases h : w 3 - st = 0
    · rw [if_pos (by rw [h]; rfl), if_pos h]
      simp only [mo_ck hi]
      rw [mbind_ok (over_m hi z c hv _)]
      refine beg_m hi z c hv _ hr ?_
      unfold mOver
      simp [va_up]
      omega
    · rw [if_neg (by rw [lz0, iI_eq (by omega) (by omega) (by omega) (by omega)]; exact h), if_neg h]
      refine beg_m hi z c hv _ hr ?_
      simp [va_up]
      omega
  unfold f_X5_pays mPays
  simp only [mo_ck hi, oc_0 hi z c hv, oc_1 hi z c hv, oc_2 hi z c hv, oc_3 hi z c hv, oc_4 hi z c hv, oc_5 hi z c hv, oc_6 hi z c hv, oc_7 hi z c hv, oc_8 hi z c hv, oc_9 hi z c hv, lc_0 hi z c hv, lc_1 hi z c hv, lc_2 hi z c hv, lc_3 hi z c hv, lc_4 hi z c hv, lc_5 hi z c hv, lc_6 hi z c hv, lc_7 hi z c hv, lc_8 hi z c hv, lc_9 hi z c hv, ac_0 hi z c hv, ac_1 hi z c hv, ac_2 hi z c hv, ac_3 hi z c hv, ac_4 hi z c hv, ac_5 hi z c hv, ac_6 hi z c hv, ac_7 hi z c hv, ac_8 hi z c hv, ac_9 hi z c hv]
  by_cases h : w 4 = -1
  · rw [if_pos (by rw [h]; rfl), if_pos h]
    exact beg_m hi z c hv w hr (by omega)
  · rw [if_neg (by rw [lzm1, iI_eq (by omega) (by omega) (by omega) (by omega)]; exact h), if_neg h]
    simp only [mo_ck hi, oc_0 hi z c hv, oc_1 hi z c hv, oc_2 hi z c hv, oc_3 hi z c hv, oc_4 hi z c hv, oc_5 hi z c hv, oc_6 hi z c hv, oc_7 hi z c hv, oc_8 hi z c hv, oc_9 hi z c hv, lc_0 hi z c hv, lc_1 hi z c hv, lc_2 hi z c hv, lc_3 hi z c hv, lc_4 hi z c hv, lc_5 hi z c hv, lc_6 hi z c hv, lc_7 hi z c hv, lc_8 hi z c hv, lc_9 hi z c hv, ac_0 hi z c hv, ac_1 hi z c hv, ac_2 hi z c hv, ac_3 hi z c hv, ac_4 hi z c hv, ac_5 hi z c hv, ac_6 hi z c hv, ac_7 hi z c hv, ac_8 hi z c hv, ac_9 hi z c hv, mo_gr0 hi, hd_0 hi z c hv]
    by_cases h2 : c 1 0 ≤ w 3
    · rw [if_pos (by rw [iI_le (by omega) (by omega) (by omega) (by omega)]; exact h2), if_pos h2]
      simp only [mo_gr0 hi, hd_0 hi z c hv]
      exact h40 (c 1 0) (by omega) h
    · rw [if_neg (by rw [iI_le (by omega) (by omega) (by omega) (by omega)]; exact h2), if_neg h2]
      simp only [mo_ck hi, oc_0 hi z c hv, oc_1 hi z c hv, oc_2 hi z c hv, oc_3 hi z c hv, oc_4 hi z c hv, oc_5 hi z c hv, oc_6 hi z c hv, oc_7 hi z c hv, oc_8 hi z c hv, oc_9 hi z c hv, lc_0 hi z c hv, lc_1 hi z c hv, lc_2 hi z c hv, lc_3 hi z c hv, lc_4 hi z c hv, lc_5 hi z c hv, lc_6 hi z c hv, lc_7 hi z c hv, lc_8 hi z c hv, lc_9 hi z c hv, ac_0 hi z c hv, ac_1 hi z c hv, ac_2 hi z c hv, ac_3 hi z c hv, ac_4 hi z c hv, ac_5 hi z c hv, ac_6 hi z c hv, ac_7 hi z c hv, ac_8 hi z c hv, ac_9 hi z c hv]
      exact h40 (w 3) (by omega) h
