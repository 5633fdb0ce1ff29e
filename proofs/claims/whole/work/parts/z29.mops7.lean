/-! PURE PART 29: same of the reference -/
theorem r_same {G : GH} {ad : Nat → Nat} (hi : injK ad KM) {w : WW} (hw : WI w) {z : Nat → Int} {c : Nat → Nat → Int} (h : RefR z c w) {a b : Int} (ha : irg a) (hb : irg b) : ∃ z' c', (f_X5_same (ad 0) (iI a) (iI b)).1 (MO G ad z c) = some (iI (b2i ((inV w.1 a && inV w.1 b) && sameRow (w.1.2.2.2 a.toNat).1 (w.1.2.2.2 a.toNat).2 (w.1.2.2.2 b.toNat).1 (w.1.2.2.2 b.toNat).2)), MO G ad z' c') ∧ z' 6 = (if (inV w.1 a && inV w.1 b) = true then 0 else 1) ∧ RefR z' c' w := by
  have hva := isV_m (G := G) hi hw.1 z h.1 ha
  have hvb := isV_m (G := G) hi hw.1 z h.1 hb
  have hno : (f_X5_same_17 (ad 0) (iI a) (iI b) (ad 0)).1 (MO G ad z c) = some (iI (b2i false), MO G ad (va_up z 6 1) c) := by
    unfold f_X5_same_17
    rw [show (Value.int 1) = Value.int (iI 1) from rfl, mo_pt6 hi, mo_gi6 hi, up_self, if_neg (show ¬ iI 1 = 0 by decide)]
    rfl
  by_cases h1 : inV w.1 a = true
  · have h1' : 0 ≤ a ∧ a < w.1.2.2.1 := of_decide_eq_true h1
    rw [h1, Bool.true_and]
    rw [h1] at hva
    by_cases h2 : inV w.1 b = true
    · have h2' : 0 ≤ b ∧ b < w.1.2.2.1 := of_decide_eq_true h2
      rw [h2, Bool.true_and]
      rw [h2] at hvb
      obtain ⟨z', c', e1, e2⟩ := as_run (G := G) hi hw.1 (z := va_up z 6 0) h.1 (a := a.toNat) (b := b.toNat) (by omega) (by omega)
      rw [show iI ((a.toNat : Nat) : Int) = iI a by congr 1; omega, show iI ((b.toNat : Nat) : Int) = iI b by congr 1; omega] at e1
      refine ⟨z', c', ?_, by rw [if_pos rfl, e2.1 6 (by decide) (by decide), up_self], (h.z6 0).kr e2⟩
      unfold f_X5_same
      rw [mo_ck hi, mbind_ok hva, if_neg (show ¬ iI (b2i true) = 0 by decide), mo_ck hi, mbind_ok hvb, if_neg (show ¬ iI (b2i true) = 0 by decide), show (Value.int 0) = Value.int (iI 0) from rfl, mo_pt6 hi, mo_gi6 hi, up_self, if_pos (show iI 0 = 0 from rfl), mo_ck hi, mbind_ok e1]
      cases sameRow (w.1.2.2.2 a.toNat).1 (w.1.2.2.2 a.toNat).2 (w.1.2.2.2 b.toNat).1 (w.1.2.2.2 b.toNat).2 <;> rfl
    · rw [Bool.not_eq_true] at h2
      rw [h2, Bool.false_and]
      rw [h2] at hvb
      refine ⟨va_up z 6 1, c, ?_, by rw [if_neg (by decide), up_self], h.z6 1⟩
      unfold f_X5_same
      rw [mo_ck hi, mbind_ok hva, if_neg (show ¬ iI (b2i true) = 0 by decide), mo_ck hi, mbind_ok hvb, if_pos (show iI (b2i false) = 0 from rfl)]
      exact hno
  · rw [Bool.not_eq_true] at h1
    rw [h1, Bool.false_and, Bool.false_and]
    rw [h1] at hva
    refine ⟨va_up z 6 1, c, ?_, by rw [if_neg (by decide), up_self], h.z6 1⟩
    unfold f_X5_same
    rw [mo_ck hi, mbind_ok hva, if_pos (show iI (b2i false) = 0 from rfl)]
    exact hno
