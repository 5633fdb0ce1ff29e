/-! PURE PART 27: append of the reference -/
theorem r_append_no {G : GH} {ad : Nat → Nat} (hi : injK ad KM) {w : WW} (hw : WI w) {z : Nat → Int} {c : Nat → Nat → Int} (h : RefR z c w) (t : Int) (ht : t = 1 ∨ t = 2) (x : Int32) : (f_X5_append_29 (ad 0) x (iI t) (ad 0)).1 (MO G ad z c) = some (0, MO G ad (va_up z 6 t) c) := by
  unfold f_X5_append_29
  rw [mo_pt6 hi, mo_gi6 hi, up_self, if_neg (by rcases ht with e | e <;> subst e <;> decide)]
  rfl
theorem r_append_ok {G : GH} {ad : Nat → Nat} (hi : injK ad KM) {w : WW} (hw : WI w) {z : Nat → Int} {c : Nat → Nat → Int} (h : RefR z c w) {a : Int} (ha : 0 ≤ a ∧ a ≤ 127) (hn : w.2.2.2.1 < 100) : (f_X5_append_29 (ad 0) (iI a) (iI 0) (ad 0)).1 (MO G ad z c) = some (iI (w.2.2.2.1 + 1), MO G ad (va_up (va_up z 6 0) 5 (w.2.2.2.1 + 1)) (va_up c 5 (va_up (c 5) w.2.2.2.1 a))) ∧ RefR (va_up (va_up z 6 0) 5 (w.2.2.2.1 + 1)) (va_up c 5 (va_up (c 5) w.2.2.2.1 a)) (w.1, w.2.1, w.2.2.1, w.2.2.2.1 + 1, va_up w.2.2.2.2 w.2.2.2.1 a) := by
  constructor
  · unfold f_X5_append_29
    rw [mo_pt6 hi, mo_gi6 hi, up_self, if_pos (show iI 0 = 0 from rfl), mo_gr4 hi, mo_gi5 hi, up_ne _ _ (show 5 ≠ 6 by decide), h.2.2.2.1, mo_as5 hi _ _ (by omega) (by omega), mo_gi5 hi, up_ne _ _ (show 5 ≠ 6 by decide), h.2.2.2.1, lz1, iI_add, mo_pt5 hi, mo_gi5 hi, up_self, show ((w.2.2.2.1 : Nat) : Int).toNat = w.2.2.2.1 by omega]
    rfl
  · obtain ⟨h1, h2, h3, h4, h5⟩ := h
    refine ⟨h1.up (by decide) _, ?_, ((up_ne _ _ (by decide)).trans (up_ne _ _ (by decide))).trans h3, ?_, ?_⟩
    · unfold PastR at h2 ⊢
      rw [up_ne _ _ (show 2 ≠ 5 by decide)]
      exact h2
    · rw [up_self]
      show _ = ((w.2.2.2.1 + 1 : Nat) : Int)
      omega
    · intro j hj
      have hj' : j < w.2.2.2.1 + 1 := hj
      show va_up c 5 _ 5 j = va_up w.2.2.2.2 w.2.2.2.1 a j
      rw [up_self]
      by_cases e : j = w.2.2.2.1
      · rw [e, up_self, up_self]
      · rw [up_ne _ _ e, up_ne _ _ e]
        exact h5 j (by omega)
