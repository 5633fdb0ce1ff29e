/-! LAW 5: the next world is a world; which codes each table of exceptions knows; the script's arguments. -/
theorem wi_nset {w : WW} (hw : WI w) {k x : Int} : WI (if okS k x = true then wSave w (sSet w.1 k x) else w) := by
  by_cases h : okS k x = true
  · rw [if_pos h]; exact wi_save hw (si_set hw.1 h)
  · rw [if_neg h]; exact hw
theorem wi_npush {w : WW} (hw : WI w) {a x : Int} (fr : Bool) : WI (if tPush w.1 a x = 0 then wSave w (sGrow w.1 a.toNat (kPush fr) x) else w) := by
  by_cases h : tPush w.1 a x = 0
  · rw [if_pos h]
    unfold tPush at h
    by_cases h1 : inV w.1 a = true
    · rw [if_pos h1] at h
      have h1' : 0 ≤ a ∧ a < w.1.2.2.1 := of_decide_eq_true h1
      by_cases h2 : -999 ≤ x ∧ x ≤ 999
      · rw [if_pos h2] at h
        by_cases h3 : sz (w.1.2.2.2 a.toNat) < 40 ∧ w.1.2.2.1 < 100
        · refine wi_save hw (si_grow hw.1 h3.2 (by omega) (by unfold kPush; split <;> omega) h2 ?_)
          have h4 := h3.1
          unfold sz at h4
          unfold pmt
          rw [if_pos (by unfold kPush; split <;> omega)]
          exact decide_eq_true h4
        · rw [if_neg h3] at h
          exact absurd h (by decide)
      · rw [if_neg h2] at h
        exact absurd h (by decide)
    · rw [if_neg h1] at h
      exact absurd h (by decide)
  · rw [if_neg h]; exact hw
theorem wi_npop {w : WW} (hw : WI w) {a : Int} (fr : Bool) : WI (if tPop w.1 a = 0 then wSave w (sGrow w.1 a.toNat (kPop fr) 0) else w) := by
  by_cases h : tPop w.1 a = 0
  · rw [if_pos h]
    unfold tPop at h
    by_cases h1 : inV w.1 a = true
    · rw [if_pos h1] at h
      have h1' : 0 ≤ a ∧ a < w.1.2.2.1 := of_decide_eq_true h1
      by_cases h2 : 0 < sz (w.1.2.2.2 a.toNat)
      · rw [if_pos h2] at h
        by_cases h3 : w.1.2.2.1 < 100
        · refine wi_save hw (si_grow hw.1 h3 (by omega) (by unfold kPop; split <;> omega) (by omega) ?_)
          have h4 := h2
          unfold sz at h4
          unfold pmt
          rw [if_neg (by unfold kPop; split <;> omega)]
          exact decide_eq_true h4
        · rw [if_neg h3] at h
          exact absurd h (by decide)
      · rw [if_neg h2] at h
        exact absurd h (by decide)
    · rw [if_neg h1] at h
      exact absurd h (by decide)
  · rw [if_neg h]; exact hw
theorem wi_ndrop {w : WW} (hw : WI w) : WI (if 1 < w.1.2.2.1 then wSave w (sHeld w.1 (w.1.2.2.1 - 1)) else w) := by
  by_cases h : 1 < w.1.2.2.1
  · rw [if_pos h]; exact wi_save hw (si_held hw.1 (by omega) (by omega))
  · rw [if_neg h]; exact hw
theorem wi_nclear {w : WW} (hw : WI w) : WI (wSave w (sHeld w.1 1)) := wi_save hw (si_held hw.1 (Nat.le_refl 1) hw.1.2.2.1.1)
theorem wi_nundo {w : WW} (hw : WI w) : WI (if 0 < w.2.2.1 then (w.2.1 (w.2.2.1 - 1), w.2.1, w.2.2.1 - 1, w.2.2.2) else w) := by
  by_cases h : 0 < w.2.2.1
  · rw [if_pos h]
    exact ⟨hw.2.1 _ (by omega), fun i hi => hw.2.1 i (by have hi' : i < w.2.2.1 - 1 := hi; omega), by have := hw.2.2.1; show w.2.2.1 - 1 ≤ 4; omega, hw.2.2.2.1, hw.2.2.2.2⟩
  · rw [if_neg h]; exact hw
theorem wi_nappend {w : WW} (hw : WI w) {a : Int} : WI (if 0 ≤ a ∧ a ≤ 127 then (if w.2.2.2.1 < 100 then (w.1, w.2.1, w.2.2.1, w.2.2.2.1 + 1, va_up w.2.2.2.2 w.2.2.2.1 a) else w) else w) := by
  by_cases h : 0 ≤ a ∧ a ≤ 127
  · rw [if_pos h]
    by_cases h2 : w.2.2.2.1 < 100
    · rw [if_pos h2]
      refine ⟨hw.1, hw.2.1, hw.2.2.1, by show w.2.2.2.1 + 1 ≤ 100; omega, fun j hj => ?_⟩
      have hj' : j < w.2.2.2.1 + 1 := hj
      show 0 ≤ va_up w.2.2.2.2 w.2.2.2.1 a j ∧ va_up w.2.2.2.2 w.2.2.2.1 a j ≤ 127
      by_cases e : j = w.2.2.2.1
      · rw [e, up_self]; exact h
      · rw [up_ne _ _ e]; exact hw.2.2.2.2 j (by omega)
    · rw [if_neg h2]; exact hw
  · rw [if_neg h]; exact hw
theorem wi_nct {w : WW} (hw : WI w) : WI (w.1, w.2.1, w.2.2.1, 0, w.2.2.2.2) := ⟨hw.1, hw.2.1, hw.2.2.1, by show 0 ≤ 100; omega, fun j hj => absurd hj (by show ¬ j < 0; omega)⟩
theorem wi_nrun {w : WW} (hw : WI w) {a : Int} : WI (if inV w.1 a = true ∧ (wT w).1 = -1 then wSave w (allF w.1 (wT w).2 a.toNat).1 else w) := by
  by_cases h : inV w.1 a = true ∧ (wT w).1 = -1
  · rw [if_pos h]
    have h1' : 0 ≤ a ∧ a < w.1.2.2.1 := of_decide_eq_true h.1
    have hkv := wt_kv hw
    exact wi_save hw (dA_si hkv.2 (wT w).2.2.2.2.1 0 w.1 a.toNat (by omega) hw.1 (by omega))
  · rw [if_neg h]; exact hw
