/-! PURE PART 23: the world; the reference's public questions -/
/-- the state, the saved states (the oldest first), how many, the text's length and bytes -/
abbrev WW : Type := SS × (Nat → SS) × Nat × Nat × (Nat → Int)
def WI (w : WW) : Prop := SI w.1 ∧ (∀ i, i < w.2.2.1 → SI (w.2.1 i)) ∧ w.2.2.1 ≤ 4 ∧ w.2.2.2.1 ≤ 100 ∧ ∀ j, j < w.2.2.2.1 → 0 ≤ w.2.2.2.2 j ∧ w.2.2.2.2 j ≤ 127
def RefR (z : Nat → Int) (c : Nat → Nat → Int) (w : WW) : Prop := NowR c w.1 ∧ PastR c w.2.1 w.2.2.1 ∧ z 2 = w.2.2.1 ∧ z 5 = w.2.2.2.1 ∧ ∀ j, j < w.2.2.2.1 → c 5 j = w.2.2.2.2 j
theorem RefR.z6 {z : Nat → Int} {c : Nat → Nat → Int} {w : WW} (h : RefR z c w) (x : Int) : RefR (va_up z 6 x) c w := by
  obtain ⟨h1, h2, h3, h4, h5⟩ := h
  exact ⟨h1, h2, (up_ne _ _ (by decide)).trans h3, (up_ne _ _ (by decide)).trans h4, h5⟩
theorem RefR.kr {z z' : Nat → Int} {c c' : Nat → Nat → Int} {w : WW} (h : RefR z c w) (k : KR z c z' c') : RefR z' c' w := by
  obtain ⟨h1, h2, h3, h4, h5⟩ := h
  have e1 := k.2 1 (by decide) (by decide) (by decide)
  have e2 := k.2 2 (by decide) (by decide) (by decide)
  have e5 := k.2 5 (by decide) (by decide) (by decide)
  refine ⟨h1.eq e1, ?_, (k.1 2 (by decide) (by decide)).trans h3, (k.1 5 (by decide) (by decide)).trans h4, fun j hj => by rw [e5]; exact h5 j hj⟩
  unfold PastR at h2 ⊢
  rw [e2]
  exact h2
def irg (a : Int) : Prop := -2147483648 ≤ a ∧ a < 2147483648
theorem r_version {G : GH} {ad : Nat → Nat} (hi : injK ad KM) {w : WW} (hw : WI w) {z : Nat → Int} {c : Nat → Nat → Int} (h : RefR z c w) {a k : Int} (ha : irg a) (hk : irg k) : (f_X5_version (ad 0) (iI a) (iI k)).1 (MO G ad z c) = some (iI (if inV w.1 a = true ∧ (0 ≤ k ∧ k ≤ 9) then fct (w.1.2.2.2 a.toNat).1 k else 0), MO G ad (va_up z 6 (if inV w.1 a = true then (if 0 ≤ k ∧ k ≤ 9 then 0 else 2) else 1)) c) := by
  have hv := isV_m (G := G) hi hw.1 z h.1 ha
  unfold f_X5_version
  rw [mo_ck hi, mbind_ok hv]
  by_cases h1 : inV w.1 a = true
  · have h1' : 0 ≤ a ∧ a < w.1.2.2.1 := of_decide_eq_true h1
    rw [h1, if_neg (show ¬ iI (b2i true) = 0 by decide), show f_X5_in (iI k) 0 9 = f_X5_in (iI k) (iI 0) (iI 9) from rfl, mbind_ok (in_run _ hk (by decide) (by decide))]
    by_cases h2 : 0 ≤ k ∧ k ≤ 9
    · have ht := told_m (G := G) hi hw.1 (va_up z 6 0) h.1 (v := a.toNat) (by omega) h2
      rw [show iI ((a.toNat : Nat) : Int) = iI a by congr 1; omega] at ht
      rw [decide_eq_true h2, if_neg (show ¬ iI (b2i true) = 0 by decide), show (Value.int 0) = Value.int (iI 0) from rfl, mo_pt6 hi, mo_gi6 hi, up_self, if_pos (show iI 0 = 0 from rfl), if_pos ⟨rfl, h2⟩, if_pos rfl, if_pos h2, mo_ck hi, mbind_ok ht]
      rfl
    · rw [decide_eq_false h2, if_pos (show iI (b2i false) = 0 from rfl), show (Value.int 2) = Value.int (iI 2) from rfl, mo_pt6 hi, mo_gi6 hi, up_self, if_neg (show ¬ iI 2 = 0 by decide), if_neg (fun hh => h2 hh.2), if_pos rfl, if_neg h2]
      rfl
  · rw [Bool.not_eq_true] at h1
    rw [h1, if_pos (show iI (b2i false) = 0 from rfl), show (Value.int 1) = Value.int (iI 1) from rfl, mo_pt6 hi, mo_gi6 hi, up_self, if_neg (show ¬ iI 1 = 0 by decide), if_neg (fun hh => (by cases hh.1)), if_neg (by decide)]
    rfl
theorem r_value {G : GH} {ad : Nat → Nat} (hi : injK ad KM) {w : WW} (hw : WI w) {z : Nat → Int} {c : Nat → Nat → Int} (h : RefR z c w) {a : Int} (ha : irg a) : (f_X5_value (ad 0) (iI a)).1 (MO G ad z c) = some (iI (if inV w.1 a = true ∧ a ≠ 0 then (w.1.2.2.2 a.toNat).1 2 else 0), MO G ad (va_up z 6 (if inV w.1 a = true then (if a ≠ 0 then 0 else 2) else 1)) c) := by
  have hv := isV_m (G := G) hi hw.1 z h.1 ha
  unfold irg at ha
  unfold f_X5_value
  rw [mo_ck hi, mbind_ok hv]
  by_cases h1 : inV w.1 a = true
  · have h1' : 0 ≤ a ∧ a < w.1.2.2.1 := of_decide_eq_true h1
    rw [h1, if_neg (show ¬ iI (b2i true) = 0 by decide)]
    by_cases h2 : a = 0
    · subst h2
      rw [if_pos (show iI 0 = 0 from rfl), show (Value.int 2) = Value.int (iI 2) from rfl, mo_pt6 hi, mo_gi6 hi, up_self, if_neg (show ¬ iI 2 = 0 by decide), if_neg (fun hh => hh.2 rfl), if_pos rfl, if_neg (fun hh => hh rfl)]
      rfl
    · have ht := of_s (G := G) hi hw.1 (z := va_up z 6 0) h.1 (v := a.toNat) (by omega) (show 9 < 10 by decide)
      rw [show iI ((a.toNat : Nat) : Int) = iI a by congr 1; omega, show iI ((9 : Nat) : Int) = 9 from rfl, mc9] at ht
      rw [if_neg (by rw [lz0, iI_eq (by omega) (by omega) (by omega) (by omega)]; exact h2), show (Value.int 0) = Value.int (iI 0) from rfl, mo_pt6 hi, mo_gi6 hi, up_self, if_pos (show iI 0 = 0 from rfl), if_pos ⟨rfl, h2⟩, if_pos rfl, if_pos h2, mo_ck hi, mbind_ok ht]
      rfl
  · rw [Bool.not_eq_true] at h1
    rw [h1, if_pos (show iI (b2i false) = 0 from rfl), show (Value.int 1) = Value.int (iI 1) from rfl, mo_pt6 hi, mo_gi6 hi, up_self, if_neg (show ¬ iI 1 = 0 by decide), if_neg (fun hh => (by cases hh.1)), if_neg (by decide)]
    rfl
theorem r_count {G : GH} {ad : Nat → Nat} (hi : injK ad KM) {w : WW} (hw : WI w) {z : Nat → Int} {c : Nat → Nat → Int} (h : RefR z c w) {k : Int} (hk : irg k) : (f_X5_count (ad 0) (iI k)).1 (MO G ad z c) = some (iI (if 0 ≤ k ∧ k ≤ 7 then totF w.1 k.toNat else 0), MO G ad (va_up z 6 (if 0 ≤ k ∧ k ≤ 7 then 0 else 1)) c) := by
  unfold f_X5_count
  rw [show f_X5_in (iI k) 0 7 = f_X5_in (iI k) (iI 0) (iI 7) from rfl, mbind_ok (in_run _ hk (by decide) (by decide))]
  by_cases h2 : 0 ≤ k ∧ k ≤ 7
  · have ht := ct_run (G := G) hi hw.1 (va_up z 6 0) h.1 (k := k.toNat) (by omega)
    rw [show iI ((k.toNat : Nat) : Int) = iI k by congr 1; omega] at ht
    rw [decide_eq_true h2, if_neg (show ¬ iI (b2i true) = 0 by decide), show (Value.int 0) = Value.int (iI 0) from rfl, mo_pt6 hi, mo_gi6 hi, up_self, if_pos (show iI 0 = 0 from rfl), if_pos h2, if_pos h2, mo_ck hi, mbind_ok ht]
    rfl
  · rw [decide_eq_false h2, if_pos (show iI (b2i false) = 0 from rfl), show (Value.int 1) = Value.int (iI 1) from rfl, mo_pt6 hi, mo_gi6 hi, up_self, if_neg (show ¬ iI 1 = 0 by decide), if_neg h2, if_neg h2]
    rfl
