/-! PURE PART 22: what the reference holds of saved states -/
def NowA (f : Nat → Int) (s : SS) : Prop := f 0 = s.1 ∧ f 1 = s.2.1 ∧ f 2 = s.2.2.1 ∧ ∀ i, i < s.2.2.1 → ∀ k, k < 10 → f (3 + 10 * i + k) = mcol (s.2.2.2 i).1 k
theorem NowA.congr {f g : Nat → Int} {s : SS} (h : NowA f s) (hs : SI s) (e : ∀ j, j < 1003 → g j = f j) : NowA g s := by
  have h100 := hs.2.2.1
  obtain ⟨h0, h1, h2, h3⟩ := h
  refine ⟨(e 0 (by decide)).trans h0, (e 1 (by decide)).trans h1, (e 2 (by decide)).trans h2, fun i hi k hk => ?_⟩
  rw [e _ (by omega)]
  exact h3 i hi k hk
