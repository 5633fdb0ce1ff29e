/-! PURE PART 14: the reference's column does what the act does -/
def mcol (x : Nat → Int) : Nat → Int := fun k => if k = 0 then x 0 else if k = 1 then x 4 + x 5 else if k = 2 then x 4 else if k = 3 then x 6 else if k = 4 then x 7 else if k = 5 then x 8 else if k = 6 then x 9 else if k = 7 then x 1 else if k = 8 then x 3 else if k = 9 then x 2 else 0
/-- the same in the ten numbers -/
def e10 (w w' : Nat → Int) : Prop := w 0 = w' 0 ∧ w 1 = w' 1 ∧ w 2 = w' 2 ∧ w 3 = w' 3 ∧ w 4 = w' 4 ∧ w 5 = w' 5 ∧ w 6 = w' 6 ∧ w 7 = w' 7 ∧ w 8 = w' 8 ∧ w 9 = w' 9
theorem e10.all {w w' : Nat → Int} (h : e10 w w') : ∀ k, k < 10 → w k = w' k := by
  intro k hk
  unfold e10 at h
  have : k = 0 ∨ k = 1 ∨ k = 2 ∨ k = 3 ∨ k = 4 ∨ k = 5 ∨ k = 6 ∨ k = 7 ∨ k = 8 ∨ k = 9 := by omega
  rcases this with e | e | e | e | e | e | e | e | e | e <;> subst e
  · exact h.1
  · exact h.2.1
  · exact h.2.2.1
  · exact h.2.2.2.1
  · exact h.2.2.2.2.1
  · exact h.2.2.2.2.2.1
  · exact h.2.2.2.2.2.2.1
  · exact h.2.2.2.2.2.2.2.1
  · exact h.2.2.2.2.2.2.2.2.1
  · exact h.2.2.2.2.2.2.2.2.2
theorem e10.rf (w : Nat → Int) : e10 w w := ⟨rfl, rfl, rfl, rfl, rfl, rfl, rfl, rfl, rfl, rfl⟩
section Act
variable {x : Nat → Int} {z0 z1 z2 z3 n cc e : Int}
end Act
