/-! PURE PART 25: common, firstLike, worst of the reference -/
theorem r_common {G : GH} {ad : Nat → Nat} (hi : injK ad KM) {w : WW} (hw : WI w) {z : Nat → Int} {c : Nat → Nat → Int} (h : RefR z c w) {a b : Int} (ha : irg a) (hb : irg b) : (f_X5_common (ad 0) (iI a) (iI b)).1 (MO G ad z c) = some (iI (if (inV w.1 a && inV w.1 b) = true then (mtF w.1 200 a.toNat b.toNat : Nat) else 0), MO G ad (va_up z 6 (if (inV w.1 a && inV w.1 b) = true then 0 else 1)) c) := by
  have h100 := hw.1.2.2.1
  have hva := isV_m (G := G) hi hw.1 z h.1 ha
  have hvb := isV_m (G := G) hi hw.1 z h.1 hb
  have hno : (f_X5_common_22 (ad 0) (iI a) (iI b) 1 (ad 0)).1 (MO G ad z c) = some (0, MO G ad (va_up z 6 1) c) := by
    unfold f_X5_common_22
    rw [show (Value.int 1) = Value.int (iI 1) from rfl, mo_pt6 hi, mo_gi6 hi, up_self, if_neg (show ¬ iI 1 = 0 by decide)]
    rfl
  unfold f_X5_common
  rw [mo_ck hi, mbind_ok hva]
  by_cases h1 : inV w.1 a = true
  · have h1' : 0 ≤ a ∧ a < w.1.2.2.1 := of_decide_eq_true h1
    rw [h1, if_neg (show ¬ iI (b2i true) = 0 by decide), mo_ck hi, mbind_ok hvb, Bool.true_and]
    by_cases h2 : inV w.1 b = true
    · have h2' : 0 ≤ b ∧ b < w.1.2.2.1 := of_decide_eq_true h2
      have hd := dt_loop (G := G) hi hw.1 (va_up z 6 0) h.1 200 FU a.toNat b.toNat (by decide) (by omega) (by omega) (by omega)
      rw [lca_eq hw.1 (g := 200) (by omega) (by omega) (by omega) (by omega), show iI ((a.toNat : Nat) : Int) = iI a by congr 1; omega, show iI ((b.toNat : Nat) : Int) = iI b by congr 1; omega] at hd
      rw [h2, if_neg (show ¬ iI (b2i true) = 0 by decide), if_pos rfl, if_pos rfl]
      unfold f_X5_common_22
      rw [show (Value.int 0) = Value.int (iI 0) from rfl, mo_pt6 hi, mo_gi6 hi, up_self, if_pos (show iI 0 = 0 from rfl)]
      exact hd
    · rw [Bool.not_eq_true] at h2
      rw [h2, if_pos (show iI (b2i false) = 0 from rfl), if_neg (by decide), if_neg (by decide)]
      exact hno
  · rw [Bool.not_eq_true] at h1
    rw [h1, if_pos (show iI (b2i false) = 0 from rfl), Bool.false_and, if_neg (by decide), if_neg (by decide)]
    exact hno
theorem r_firstLike {G : GH} {ad : Nat → Nat} (hi : injK ad KM) {w : WW} (hw : WI w) {z : Nat → Int} {c : Nat → Nat → Int} (h : RefR z c w) {a : Int} (ha : irg a) : ∃ z' c', (f_X5_firstLike (ad 0) (iI a)).1 (MO G ad z c) = some (iI (if inV w.1 a = true then (flF w.1 a.toNat a.toNat 0 : Nat) else 0), MO G ad z' c') ∧ z' 6 = (if inV w.1 a = true then 0 else 1) ∧ RefR z' c' w := by
  have h100 := hw.1.2.2.1
  have hva := isV_m (G := G) hi hw.1 z h.1 ha
  by_cases h1 : inV w.1 a = true
  · have h1' : 0 ≤ a ∧ a < w.1.2.2.1 := of_decide_eq_true h1
    obtain ⟨z', c', e1, e2⟩ := fl_m (G := G) hi hw.1 (w := a.toNat) (by omega) a.toNat FU 0 (va_up z 6 0) c (by omega) (by unfold FU; omega) h.1 (up_self _ _ _)
    rw [show iI ((a.toNat : Nat) : Int) = iI a by congr 1; omega, show iI ((0 : Nat) : Int) = 0 from rfl] at e1
    refine ⟨z', c', ?_, by rw [if_pos h1, e2.1 6 (by decide) (by decide), up_self], (h.z6 0).kr e2⟩
    unfold f_X5_firstLike
    rw [mo_ck hi, mbind_ok hva, h1, if_neg (show ¬ iI (b2i true) = 0 by decide), if_pos rfl]
    unfold f_X5_firstLike_14
    rw [show (Value.int 0) = Value.int (iI 0) from rfl, mo_pt6 hi]
    exact e1
  · refine ⟨va_up z 6 1, c, ?_, by rw [if_neg h1, up_self], h.z6 1⟩
    rw [Bool.not_eq_true] at h1
    unfold f_X5_firstLike
    rw [mo_ck hi, mbind_ok hva, h1, if_pos (show iI (b2i false) = 0 from rfl), if_neg (by decide)]
    unfold f_X5_firstLike_14
    rw [show (Value.int 1) = Value.int (iI 1) from rfl, mo_pt6 hi]
    rw [show FU = 4999 + 1 from rfl, f_X5_firstLike_19, mo_gi6 hi, up_self, if_neg (show ¬ iI 1 = 0 by decide)]
    rfl
