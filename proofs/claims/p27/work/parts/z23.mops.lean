/-! PURE PART 23: the world; the reference's public questions -/
/-- the state, the saved states (the oldest first), how many, the text's length and bytes -/
abbrev WW : Type := SS × (Nat → SS) × Nat × Nat × (Nat → Int)
def WI (w : WW) : Prop := SI w.1 ∧ (∀ i, i < w.2.2.1 → SI (w.2.1 i)) ∧ w.2.2.1 ≤ 4 ∧ w.2.2.2.1 ≤ 100 ∧ ∀ j, j < w.2.2.2.1 → 0 ≤ w.2.2.2.2 j ∧ w.2.2.2.2 j ≤ 127
def irg (a : Int) : Prop := -2147483648 ≤ a ∧ a < 2147483648
