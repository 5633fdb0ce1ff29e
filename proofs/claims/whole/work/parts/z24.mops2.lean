/-! PURE PART 24: more of the reference's public questions -/
theorem r_setting {G : GH} {ad : Nat → Nat} (hi : injK ad KM) {w : WW} (hw : WI w) {z : Nat → Int} {c : Nat → Nat → Int} (h : RefR z c w) {k : Int} (hk : irg k) : (f_X5_setting (ad 0) (iI k)).1 (MO G ad z c) = some (iI (if 0 ≤ k ∧ k ≤ 1 then (if k = 0 then w.1.1 else w.1.2.1) else 0), MO G ad (va_up z 6 (if 0 ≤ k ∧ k ≤ 1 then 0 else 1)) c) := by
  unfold f_X5_setting
  rw [show f_X5_in (iI k) 0 1 = f_X5_in (iI k) (iI 0) (iI 1) from rfl, mbind_ok (in_run _ hk (by decide) (by decide))]
  by_cases h2 : 0 ≤ k ∧ k ≤ 1
  · rw [decide_eq_true h2, if_neg (show ¬ iI (b2i true) = 0 by decide), show (Value.int 0) = Value.int (iI 0) from rfl, mo_pt6 hi, mo_gi6 hi, up_self, if_pos (show iI 0 = 0 from rfl), if_pos h2, if_pos h2, mo_gr0 hi, mo_al1 hi _ _ (by omega) (by omega)]
    have e : c 1 k.toNat = if k = 0 then w.1.1 else w.1.2.1 := by
      by_cases h0 : k = 0
      · subst h0
        rw [if_pos rfl]
        exact h.1.1
      · have : k = 1 := by omega
        subst this
        rw [if_neg h0]
        exact h.1.2.1
    rw [e]
    rfl
  · rw [decide_eq_false h2, if_pos (show iI (b2i false) = 0 from rfl), show (Value.int 1) = Value.int (iI 1) from rfl, mo_pt6 hi, mo_gi6 hi, up_self, if_neg (show ¬ iI 1 = 0 by decide), if_neg h2, if_neg h2]
    rfl
theorem isPlace_m {G : GH} {ad : Nat → Nat} (hi : injK ad KM) {w : WW} (hw : WI w) {z : Nat → Int} {c : Nat → Nat → Int} (h : RefR z c w) {a p : Int} (ha : irg a) (hp : irg p) : (f_X5_isPlace (ad 0) (iI a) (iI p)).1 (MO G ad z c) = some (iI (b2i (inV w.1 a && decide (0 ≤ p ∧ p < sz (w.1.2.2.2 a.toNat)))), MO G ad z c) := by
  have hv := isV_m (G := G) hi hw.1 z h.1 ha
  unfold f_X5_isPlace
  rw [mo_ck hi, mbind_ok hv]
  by_cases h1 : inV w.1 a = true
  · have h1' : 0 ≤ a ∧ a < w.1.2.2.1 := of_decide_eq_true h1
    have ht := of_s (G := G) hi hw.1 (z := z) h.1 (v := a.toNat) (by omega) (show 1 < 10 by decide)
    rw [show iI ((a.toNat : Nat) : Int) = iI a by congr 1; omega, show iI ((1 : Nat) : Int) = 1 from rfl, mc1] at ht
    have hvb := (hw.1.2.2.2 a.toNat (by omega)).1
    unfold VBn at hvb
    rw [h1, if_neg (show ¬ iI (b2i true) = 0 by decide), mo_ck hi, mbind_ok ht, lz1, iI_sub, show f_X5_in (iI p) 0 (iI ((w.1.2.2.2 a.toNat).1 4 + (w.1.2.2.2 a.toNat).1 5 - 1)) = f_X5_in (iI p) (iI 0) (iI ((w.1.2.2.2 a.toNat).1 4 + (w.1.2.2.2 a.toNat).1 5 - 1)) from rfl, mbind_ok (in_run _ hp (by decide) (by omega))]
    have e : decide (0 ≤ p ∧ p ≤ (w.1.2.2.2 a.toNat).1 4 + (w.1.2.2.2 a.toNat).1 5 - 1) = decide (0 ≤ p ∧ p < sz (w.1.2.2.2 a.toNat)) := decide_eq_decide.mpr (by unfold sz; omega)
    rw [e]
    cases decide (0 ≤ p ∧ p < sz (w.1.2.2.2 a.toNat)) <;> rfl
  · rw [Bool.not_eq_true] at h1
    rw [h1, if_pos (show iI (b2i false) = 0 from rfl)]
    rfl
theorem r_at {G : GH} {ad : Nat → Nat} (hi : injK ad KM) {w : WW} (hw : WI w) {z : Nat → Int} {c : Nat → Nat → Int} (h : RefR z c w) {a p : Int} (ha : irg a) (hp : irg p) : ∃ z' c', (f_X5_at (ad 0) (iI a) (iI p)).1 (MO G ad z c) = some (iI (if (inV w.1 a && decide (0 ≤ p ∧ p < sz (w.1.2.2.2 a.toNat))) = true then (w.1.2.2.2 a.toNat).2 p.toNat else 0), MO G ad z' c') ∧ z' 6 = (if (inV w.1 a && decide (0 ≤ p ∧ p < sz (w.1.2.2.2 a.toNat))) = true then 0 else 1) ∧ RefR z' c' w := by
  have hv := isPlace_m (G := G) hi hw h ha hp
  by_cases h1 : (inV w.1 a && decide (0 ≤ p ∧ p < sz (w.1.2.2.2 a.toNat))) = true
  · have h2 := h1
    rw [Bool.and_eq_true] at h2
    have h3 : 0 ≤ a ∧ a < w.1.2.2.1 := of_decide_eq_true h2.1
    have h4 : 0 ≤ p ∧ p < sz (w.1.2.2.2 a.toNat) := of_decide_eq_true h2.2
    obtain ⟨z', c', e1, e2⟩ := vat_run (G := G) hi hw.1 (z := va_up z 6 0) h.1 (v := a.toNat) (by omega) (j := p.toNat) (by omega)
    rw [show iI ((a.toNat : Nat) : Int) = iI a by congr 1; omega, show iI ((p.toNat : Nat) : Int) = iI p by congr 1; omega] at e1
    refine ⟨z', c', ?_, ?_, (h.z6 0).kr e2.kr⟩
    · unfold f_X5_at
      rw [mo_ck hi, mbind_ok hv, h1, if_neg (show ¬ iI (b2i true) = 0 by decide), show (Value.int 0) = Value.int (iI 0) from rfl, mo_pt6 hi, mo_gi6 hi, up_self, if_pos (show iI 0 = 0 from rfl), if_pos rfl, mo_ck hi, mbind_ok e1]
      rfl
    · rw [if_pos h1, e2.1 6 (by decide) (by decide), up_self]
  · refine ⟨va_up z 6 1, c, ?_, ?_, h.z6 1⟩
    · rw [Bool.not_eq_true] at h1
      unfold f_X5_at
      rw [mo_ck hi, mbind_ok hv, h1, if_pos (show iI (b2i false) = 0 from rfl), show (Value.int 1) = Value.int (iI 1) from rfl, mo_pt6 hi, mo_gi6 hi, up_self, if_neg (show ¬ iI 1 = 0 by decide), if_neg (by decide)]
      rfl
    · rw [if_neg h1, up_self]
