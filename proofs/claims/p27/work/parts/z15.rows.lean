/-! PURE PART 15: the reference's way to a version, and its row made anew -/
theorem par_dep {s : SS} (hs : SI s) {i : Nat} (hi : i < s.2.2.1) (h0 : 0 < i) : (s.2.2.2 i).1 0 = (par s i : Int) ∧ par s i < i ∧ (s.2.2.2 i).1 3 = (s.2.2.2 (par s i)).1 3 + 1 ∧ (0 ≤ (s.2.2.2 i).1 1 ∧ (s.2.2.2 i).1 1 ≤ 3) ∧
    (s.2.2.2 i).2 = sRow (s.2.2.2 (par s i)).2 ((s.2.2.2 i).1 1) ((s.2.2.2 i).1 2) (sz (s.2.2.2 (par s i))).toNat ∧ sz (s.2.2.2 i) = sz (s.2.2.2 (par s i)) + (if (s.2.2.2 i).1 1 < 2 then 1 else -1) := by
  obtain ⟨k, h1, h2, h3⟩ := (hs.2.2.2 i hi).2.2.2.1 h0
  have e : par s i = k := by unfold par; omega
  rw [e]
  exact ⟨h2, h1, h3⟩
theorem dep_b {s : SS} (hs : SI s) {i : Nat} (hi : i < s.2.2.1) : 0 ≤ (s.2.2.2 i).1 3 ∧ (s.2.2.2 i).1 3 ≤ i := by
  have h1 := (hs.2.2.2 i hi).1
  have h2 := (hs.2.2.2 i hi).2.2.2.2
  unfold VBn at h1
  omega
/-- what making a row changes -/
def KP (z : Nat → Int) (c : Nat → Nat → Int) (z' : Nat → Int) (c' : Nat → Nat → Int) : Prop := (∀ j, j ≠ 8 → j ≠ 9 → z' j = z j) ∧ ∀ j, j ≠ 8 → j ≠ 11 → c' j = c j
theorem KP.rf (z : Nat → Int) (c : Nat → Nat → Int) : KP z c z c := ⟨fun _ _ _ => rfl, fun _ _ _ => rfl⟩
theorem KP.tr {z z1 z2 : Nat → Int} {c c1 c2 : Nat → Nat → Int} (h : KP z c z1 c1) (k : KP z1 c1 z2 c2) : KP z c z2 c2 := ⟨fun j a b => (k.1 j a b).trans (h.1 j a b), fun j a b => (k.2 j a b).trans (h.2 j a b)⟩
