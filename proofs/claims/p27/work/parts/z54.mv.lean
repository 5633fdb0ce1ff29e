/-! LAW 4: what the law's heap holds between two calls: the class's object, the reference's, the two cells for answers. -/
theorem some_ne {o : Option LE} {e : LE} (h : o = some e) : o ≠ none := by
  rw [h]
  exact fun q => by cases q
theorem SC.mv {G : GH} {G' : GH} {ow : Nat → Nat} {ow' : Nat → Nat} (h1 : ∀ a, ow a ≠ 0 → G.1 a ≠ none → ow' a = ow a) (h2 : ∀ a, ow a ≠ 0 → (ow a < 66 ∨ 100 ≤ ow a) → G'.1 a = G.1 a) {L p va ma : Nat} {refs : Nat → Option Nat} {s : SS} (h : SC G ow L p va ma refs s) (hL : 1000 ≤ L) : SC G' ow' L p va ma refs s := by
  obtain ⟨k1, ⟨mk, k2⟩, k3, k4, k5, k6, k7, k8⟩ := h
  refine ⟨?_, ⟨mk, ?_⟩, ?_, ?_, ?_, ?_, ?_, k8⟩
  · rw [h2 p (by omega) (by omega), k1]
  · rw [h2 ma (by omega) (by omega), k2]
  · rw [h2 va (by omega) (by omega), k3]
  · rw [h1 p (by omega) (some_ne k1), k4]
  · rw [h1 va (by omega) (some_ne k3), k5]
  · rw [h1 ma (by omega) (some_ne k2), k6]
  · intro i hi q hq
    obtain ⟨m1, r, v, g, m2, m3, m4, m5⟩ := k7 i hi q hq
    refine ⟨by rw [h1 q (by omega) (some_ne m3), m1], r, v, g, by rw [h1 r (by omega) (some_ne m4), m2], ?_, ?_, m5⟩
    · rw [h2 q (by omega) (by omega), m3]
    · rw [h2 r (by omega) (by omega), m4]
theorem RepC.mv {G : GH} {G' : GH} {ow : Nat → Nat} {ow' : Nat → Nat} (h1 : ∀ a, ow a ≠ 0 → G.1 a ≠ none → ow' a = ow a) (h2 : ∀ a, ow a ≠ 0 → (ow a < 66 ∨ 100 ≤ ow a) → G'.1 a = G.1 a) {p : Nat} {w : WW} {P : Nat} (h : RepC G ow p w P) (hg : GW G' ow') : RepC G' ow' p w P := by
  obtain ⟨ads, tp, sa, srefs, n, R, ⟨a1, a2⟩, ⟨b1, bt, t, b2, b3⟩, ⟨tr, tx, v, g, a, b, c1, c2, c3, c4, c5, c6⟩, ⟨d1, d2⟩, ⟨e1, e2, e3⟩, f1, f2⟩ := h
  have hk : ∀ k, k ∈ KS → k < 6 := by decide
  have hn := f1.1
  refine ⟨ads, tp, sa, srefs, n, R, ⟨?_, ?_⟩, ⟨fun k hk' => ?_, bt, t, fun k hk' => ?_, b3⟩, ⟨tr, tx, v, g, a, b, ?_, ?_, ?_, ?_, ?_, ?_⟩, ⟨SC.mv h1 h2 d1 hn, hg⟩, ⟨?_, ?_, fun i hi => ⟨fun q hq => ?_, (e3 i hi).2⟩⟩, f1, f2⟩
  · rw [h1 p (by omega) (some_ne a2), a1]
  · rw [h2 p (by omega) (by omega), a2]
  · have := hk k hk'
    have := b1 k hk'
    rw [h1 _ (by omega) (some_ne (b2 k hk')), b1 k hk']
  · have := hk k hk'
    have := b1 k hk'
    rw [h2 _ (by omega) (by omega), b2 k hk']
  · rw [h1 _ (by omega) (some_ne c4), c1]
  · rw [h1 _ (by omega) (some_ne c5), c2]
  · rw [h1 _ (by omega) (some_ne c6), c3]
  · rw [h2 _ (by omega) (by omega), c4]
  · rw [h2 _ (by omega) (by omega), c5]
  · rw [h2 _ (by omega) (by omega), c6]
  · rw [h1 _ (by omega) (some_ne e2), e1]
  · rw [h2 _ (by omega) (by omega), e2]
  · obtain ⟨m1, s, ⟨m2, m4⟩, m3⟩ := (e3 i hi).1 q hq
    exact ⟨m1, s, ⟨SC.mv h1 h2 m2 (f1.2 i hi).1, hg⟩, m3⟩
