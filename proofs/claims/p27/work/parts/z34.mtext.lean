/-! PURE PART 34: the reference reads the text as the class does -/
/-- what a reading changes -/
def KQ (z : Nat → Int) (c : Nat → Nat → Int) (z' : Nat → Int) (c' : Nat → Nat → Int) : Prop := (∀ j, j ≠ 14 → j ≠ 15 → z' j = z j) ∧ ∀ j, j ≠ 13 → j ≠ 14 → c' j = c j
theorem KQ.rf (z : Nat → Int) (c : Nat → Nat → Int) : KQ z c z c := ⟨fun _ _ _ => rfl, fun _ _ _ => rfl⟩
theorem KQ.tr {z z1 z2 : Nat → Int} {c c1 c2 : Nat → Nat → Int} (h : KQ z c z1 c1) (k : KQ z1 c1 z2 c2) : KQ z c z2 c2 := ⟨fun j a b => (k.1 j a b).trans (h.1 j a b), fun j a b => (k.2 j a b).trans (h.2 j a b)⟩
