/-! PURE PART 26: worst of the reference; the text's ends -/
theorem r_worst {G : GH} {ad : Nat → Nat} (hi : injK ad KM) {w : WW} (hw : WI w) {z : Nat → Int} {c : Nat → Nat → Int} (h : RefR z c w) {a : Int} (ha : irg a) : ∃ z' c', (f_X5_worst (ad 0) (iI a)).1 (MO G ad z c) = some (iI (if inV w.1 a = true then wmF w.1 100 a.toNat else 0), MO G ad z' c') ∧ z' 6 = (if inV w.1 a = true then 0 else 1) ∧ RefR z' c' w := by
  have h100 := hw.1.2.2.1
  have hva := isV_m (G := G) hi hw.1 z h.1 ha
  by_cases h1 : inV w.1 a = true
  · have h1' : 0 ≤ a ∧ a < w.1.2.2.1 := of_decide_eq_true h1
    have hav : a.toNat < w.1.2.2.1 := by omega
    have hd := dep_b hw.1 hav
    have hlw := lw_run (G := G) hi hw.1 (z := va_up z 6 0) h.1 hav
    have hwo := wo_loop (G := G) hi hw.1 (z := va_up z 6 0) (h.1.up (k := 11) (by decide) (wyF w.1 ((w.1.2.2.2 a.toNat).1 3).toNat a.toNat (c 11))) hav (n := ((w.1.2.2.2 a.toNat).1 3).toNat) (by omega) (c 11) (up_self _ _ _) ((w.1.2.2.2 a.toNat).1 3).toNat FU 0 0 (by omega) (by unfold FU; omega) (by omega) (fun _ => rfl) (fun hh => absurd hh (by omega))
    rw [wm_zero hw.1, show ((((w.1.2.2.2 a.toNat).1 3).toNat : Nat) : Int) = (w.1.2.2.2 a.toNat).1 3 by omega, show iI ((0 : Nat) : Int) = 0 from rfl, show iI 0 = 0 from rfl] at hwo
    rw [show iI ((a.toNat : Nat) : Int) = iI a by congr 1; omega] at hlw
    refine ⟨va_up z 6 0, va_up c 11 (wyF w.1 ((w.1.2.2.2 a.toNat).1 3).toNat a.toNat (c 11)), ?_, by rw [if_pos h1, up_self], (h.z6 0).kr (⟨fun j _ _ => rfl, fun j _ b _ => up_ne _ _ b⟩)⟩
    unfold f_X5_worst
    rw [mo_ck hi, mbind_ok hva, h1, if_neg (show ¬ iI (b2i true) = 0 by decide), if_pos rfl]
    unfold f_X5_worst_14
    rw [show (Value.int 0) = Value.int (iI 0) from rfl, mo_pt6 hi, mo_gi6 hi, up_self, if_pos (show iI 0 = 0 from rfl), mo_ck hi, mbind_ok hlw]
    exact hwo
  · refine ⟨va_up z 6 1, c, ?_, by rw [if_neg h1, up_self], h.z6 1⟩
    rw [Bool.not_eq_true] at h1
    unfold f_X5_worst
    rw [mo_ck hi, mbind_ok hva, h1, if_pos (show iI (b2i false) = 0 from rfl), if_neg (by decide)]
    unfold f_X5_worst_14
    rw [show (Value.int 1) = Value.int (iI 1) from rfl, mo_pt6 hi, mo_gi6 hi, up_self, if_neg (show ¬ iI 1 = 0 by decide)]
    unfold f_X5_worst_35
    rw [show FU = 4999 + 1 from rfl, f_X5_worst_39, if_pos (by decide)]
    rfl
theorem r_clearText {G : GH} {ad : Nat → Nat} (hi : injK ad KM) {w : WW} (hw : WI w) {z : Nat → Int} {c : Nat → Nat → Int} (h : RefR z c w) : (f_X5_clearText (ad 0)).1 (MO G ad z c) = some (iI w.2.2.2.1, MO G ad (va_up (va_up z 6 0) 5 0) c) ∧ RefR (va_up (va_up z 6 0) 5 0) c (w.1, w.2.1, w.2.2.1, 0, w.2.2.2.2) := by
  constructor
  · unfold f_X5_clearText
    rw [show (Value.int 0) = Value.int (iI 0) from rfl, mo_pt6 hi, mo_gi5 hi, up_ne _ _ (show 5 ≠ 6 by decide), h.2.2.2.1, mo_pt5 hi]
    rfl
  · obtain ⟨h1, h2, h3, h4, h5⟩ := h
    exact ⟨h1, h2, ((up_ne _ _ (by decide)).trans (up_ne _ _ (by decide))).trans h3, up_self _ _ _, fun j hj => absurd hj (by show ¬ j < 0; omega)⟩
