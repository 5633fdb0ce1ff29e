/-! PURE PART 36: all acts of a text: the spec, and the reference -/
/-- d acts from the i-th on are done, the first on version v; the state behind them, and how many acts are done then -/
def dA (ks vs : Nat → Int) : Nat → Nat → SS → Nat → SS × Nat
  | 0, i, s, _ => (s, i)
  | d + 1, i, s, v => if (decide (s.2.2.1 < 100) && pmt (s.2.2.2 v).1 (ks i)) = true then dA ks vs d (i + 1) (sGrow s v (ks i) (vs i)) s.2.2.1 else (s, i)
theorem dA_n (ks vs : Nat → Int) : ∀ d i s v, i ≤ (dA ks vs d i s v).2 ∧ (dA ks vs d i s v).2 ≤ i + d ∧ (dA ks vs d i s v).1.2.2.1 + i = s.2.2.1 + (dA ks vs d i s v).2
  | 0, i, s, v => by
    unfold dA
    exact ⟨Nat.le_refl _, Nat.le_refl _, rfl⟩
  | d + 1, i, s, v => by
    unfold dA
    split
    · have h := dA_n ks vs d (i + 1) (sGrow s v (ks i) (vs i)) s.2.2.1
      have e : (sGrow s v (ks i) (vs i)).2.2.1 = s.2.2.1 + 1 := rfl
      rw [e] at h
      omega
    · dsimp only
      omega
/-- kinds and values of the acts that are read -/
def KV (m : Nat) (ks vs : Nat → Int) : Prop := ∀ j, j < m → (0 ≤ ks j ∧ ks j ≤ 3) ∧ (-999 ≤ vs j ∧ vs j ≤ 999)
theorem dA_si {m : Nat} {ks vs : Nat → Int} (hk : KV m ks vs) : ∀ d i s v, i + d ≤ m → SI s → v < s.2.2.1 → SI (dA ks vs d i s v).1
  | 0, i, s, v, _, hs, _ => by
    unfold dA
    exact hs
  | d + 1, i, s, v, h, hs, hv => by
    unfold dA
    split
    · rename_i hc
      rw [Bool.and_eq_true] at hc
      have h1 : s.2.2.1 < 100 := of_decide_eq_true hc.1
      exact dA_si hk d (i + 1) _ _ (by omega) (si_grow hs h1 hv (hk i (by omega)).1 (hk i (by omega)).2 hc.2) (by show s.2.2.1 < s.2.2.1 + 1; omega)
    · exact hs
theorem sGrow_pop {s : SS} {k : Nat} {kind x y : Int} (h : ¬ kind < 2) : sGrow s k kind x = sGrow s k kind y := by
  unfold sGrow
  have e1 : sAct (va_up (s.2.2.2 k).1 0 k) (s.2.2.2 k).2 kind x s.1 s.2.1 = sAct (va_up (s.2.2.2 k).1 0 k) (s.2.2.2 k).2 kind y s.1 s.2.1 := by
    unfold sAct
    rw [if_neg h, if_neg h]
  rw [e1, sRow_kind (fun hh => absurd hh h)]
theorem dA_congr {ks vs ks' vs' : Nat → Int} {m : Nat} (h : ∀ j, j < m → ks j = ks' j ∧ (ks j < 2 → vs j = vs' j)) : ∀ d i s v, i + d ≤ m → dA ks vs d i s v = dA ks' vs' d i s v
  | 0, _, _, _, _ => rfl
  | d + 1, i, s, v, hm => by
    have hi := h i (by omega)
    unfold dA
    have e : sGrow s v (ks i) (vs i) = sGrow s v (ks' i) (vs' i) := by
      rw [← hi.1]
      by_cases h2 : ks i < 2
      · rw [hi.2 h2]
      · exact sGrow_pop h2
    rw [← dA_congr h d (i + 1) (sGrow s v (ks' i) (vs' i)) s.2.2.1 (by omega), ← e, ← hi.1]
