/-! PURE PART 28: steps of the reference -/
theorem r_steps {G : GH} {ad : Nat → Nat} (hi : injK ad KM) {w : WW} (hw : WI w) {z : Nat → Int} {c : Nat → Nat → Int} (h : RefR z c w) {a p : Int} (ha : irg a) (hp : irg p) : (f_X5_steps (ad 0) (iI a) (iI p)).1 (MO G ad z c) = some (iI (if (inV w.1 a && decide (0 ≤ p ∧ p < sz (w.1.2.2.2 a.toNat))) = true then (if p < (w.1.2.2.2 a.toNat).1 4 then p + 1 else sz (w.1.2.2.2 a.toNat) - p) else 0), MO G ad (va_up z 6 (if (inV w.1 a && decide (0 ≤ p ∧ p < sz (w.1.2.2.2 a.toNat))) = true then 0 else 1)) c) := by
  have hv := isPlace_m (G := G) hi hw h ha hp
  unfold f_X5_steps
  rw [mo_ck hi, mbind_ok hv]
  by_cases h1 : (inV w.1 a && decide (0 ≤ p ∧ p < sz (w.1.2.2.2 a.toNat))) = true
  · have h2 := h1
    rw [Bool.and_eq_true] at h2
    have h3 : 0 ≤ a ∧ a < w.1.2.2.1 := of_decide_eq_true h2.1
    have h4 : 0 ≤ p ∧ p < sz (w.1.2.2.2 a.toNat) := of_decide_eq_true h2.2
    have hvb := (hw.1.2.2.2 a.toNat (by omega)).1
    unfold VBn at hvb
    unfold sz at h4
    have g1 := of_s (G := G) hi hw.1 (z := va_up z 6 0) h.1 (v := a.toNat) (by omega) (show 1 < 10 by decide)
    have g2 := of_s (G := G) hi hw.1 (z := va_up z 6 0) h.1 (v := a.toNat) (by omega) (show 2 < 10 by decide)
    rw [show iI ((a.toNat : Nat) : Int) = iI a by congr 1; omega, show iI ((1 : Nat) : Int) = 1 from rfl, mc1] at g1
    rw [show iI ((a.toNat : Nat) : Int) = iI a by congr 1; omega, show iI ((2 : Nat) : Int) = 2 from rfl, mc2] at g2
    rw [h1, if_neg (show ¬ iI (b2i true) = 0 by decide), if_pos rfl, if_pos rfl]
    unfold f_X5_steps_15
    rw [show (Value.int 0) = Value.int (iI 0) from rfl, mo_pt6 hi, mo_gi6 hi, up_self, if_pos (show iI 0 = 0 from rfl), mo_ck hi, mbind_ok g2]
    by_cases h5 : p < (w.1.2.2.2 a.toNat).1 4
    · rw [if_neg (by rw [iI_le (by omega) (by omega) (by omega) (by omega)]; omega), if_pos h5, lz1, iI_add]
      rfl
    · rw [if_pos (by rw [iI_le (by omega) (by omega) (by omega) (by omega)]; omega), if_neg h5, mo_ck hi, mbind_ok g1, iI_sub]
      rfl
  · rw [Bool.not_eq_true] at h1
    rw [h1, if_pos (show iI (b2i false) = 0 from rfl), if_neg (by decide), if_neg (by decide)]
    unfold f_X5_steps_15
    rw [show (Value.int 1) = Value.int (iI 1) from rfl, mo_pt6 hi, mo_gi6 hi, up_self, if_neg (show ¬ iI 1 = 0 by decide)]
    rfl
