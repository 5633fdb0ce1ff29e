/-! PURE PART 30: the world saves its state; set, drop, clear, undo of the reference -/
def nSv (n : Nat) : Nat := if n < 4 then n + 1 else 4
def sSv (sv : Nat → SS) (n : Nat) (s : SS) : Nat → SS := if n < 4 then va_up sv n s else va_up (fun i => sv (i + 1)) 3 s
/-- the state is saved, and another one stands now -/
def wSave (w : WW) (s : SS) : WW := (s, sSv w.2.1 w.2.2.1 w.1, nSv w.2.2.1, w.2.2.2)
theorem wi_save {w : WW} (hw : WI w) {s : SS} (hs : SI s) : WI (wSave w s) := by
  obtain ⟨h1, h2, h3, h4⟩ := hw
  refine ⟨hs, ?_, ?_, h4⟩
  · intro i hi
    have hi' : i < nSv w.2.2.1 := hi
    show SI (sSv w.2.1 w.2.2.1 w.1 i)
    unfold nSv at hi'
    unfold sSv
    by_cases h : w.2.2.1 < 4
    · rw [if_pos h] at hi' ⊢
      by_cases e : i = w.2.2.1
      · rw [e, up_self]
        exact h1
      · rw [up_ne _ _ e]
        exact h2 i (by omega)
    · rw [if_neg h] at hi' ⊢
      by_cases e : i = 3
      · rw [e, up_self]
        exact h1
      · rw [up_ne _ _ e]
        exact h2 (i + 1) (by omega)
  · show nSv w.2.2.1 ≤ 4
    unfold nSv
    split <;> omega
def okS (k x : Int) : Bool := decide ((k = 0 ∧ 1 ≤ x ∧ x ≤ 9) ∨ (k = 1 ∧ 2 ≤ x ∧ x ≤ 5))
def sSet (s : SS) (k x : Int) : SS := if k = 0 then (x, s.2.1, s.2.2) else (s.1, x, s.2.2)
def sHeld (s : SS) (n : Nat) : SS := (s.1, s.2.1, n, s.2.2.2)
theorem si_set {s : SS} (hs : SI s) {k x : Int} (h : okS k x = true) : SI (sSet s k x) := by
  have h' := of_decide_eq_true h
  obtain ⟨h1, h2, h3, h4⟩ := hs
  unfold sSet
  by_cases e : k = 0
  · rw [if_pos e]
    exact ⟨by show 1 ≤ x ∧ x ≤ 9; omega, h2, h3, h4⟩
  · rw [if_neg e]
    exact ⟨h1, by show 2 ≤ x ∧ x ≤ 5; omega, h3, h4⟩
theorem si_held {s : SS} (hs : SI s) {n : Nat} (h1 : 1 ≤ n) (h2 : n ≤ s.2.2.1) : SI (sHeld s n) := by
  obtain ⟨k1, k2, k3, k4⟩ := hs
  exact ⟨k1, k2, ⟨h1, Nat.le_trans h2 k3.2⟩, fun i hi => k4 i (Nat.lt_of_lt_of_le hi h2)⟩
