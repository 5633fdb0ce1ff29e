/-! PURE PART 19: the reference compares rows -/
/-- what comparing rows changes -/
def KR (z : Nat → Int) (c : Nat → Nat → Int) (z' : Nat → Int) (c' : Nat → Nat → Int) : Prop := (∀ j, j ≠ 8 → j ≠ 9 → z' j = z j) ∧ ∀ j, j ≠ 8 → j ≠ 11 → j ≠ 12 → c' j = c j
theorem KR.rf (z : Nat → Int) (c : Nat → Nat → Int) : KR z c z c := ⟨fun _ _ _ => rfl, fun _ _ _ _ => rfl⟩
theorem KR.tr {z z1 z2 : Nat → Int} {c c1 c2 : Nat → Nat → Int} (h : KR z c z1 c1) (k : KR z1 c1 z2 c2) : KR z c z2 c2 := ⟨fun j a b => (k.1 j a b).trans (h.1 j a b), fun j a b d => (k.2 j a b d).trans (h.2 j a b d)⟩
