/-! PURE PART 36: all acts of a text: the spec, and the reference -/
/-- d acts from the i-th on are done, the first on version v; the state behind them, and how many acts are done then -/
def dA (ks vs : Nat → Int) : Nat → Nat → SS → Nat → SS × Nat
  | 0, i, s, _ => (s, i)
  | d + 1, i, s, v => if (decide (s.2.2.1 < 100) && pmt (s.2.2.2 v).1 (ks i)) = true then dA ks vs d (i + 1) (sGrow s v (ks i) (vs i)) s.2.2.1 else (s, i)
theorem dA_n (ks vs : Nat → Int) : ∀ d i s v, i ≤ (dA ks vs d i s v).2 ∧ (dA ks vs d i s v).2 ≤ i + d ∧ (dA ks vs d i s v).1.2.2.1 + i = s.2.2.1 + (dA ks vs d i s v).2
  | 0, i, s, v => by
    unfold dA
    exact ⟨Nat.le_refl _, Nat.le_refl _, rfl⟩
  | d + 1, i, s, v => by
    unfold dA
    split
    · have h := dA_n ks vs d (i + 1) (sGrow s v (ks i) (vs i)) s.2.2.1
      have e : (sGrow s v (ks i) (vs i)).2.2.1 = s.2.2.1 + 1 := rfl
      rw [e] at h
      omega
    · dsimp only
      omega
/-- kinds and values of the acts that are read -/
def KV (m : Nat) (ks vs : Nat → Int) : Prop := ∀ j, j < m → (0 ≤ ks j ∧ ks j ≤ 3) ∧ (-999 ≤ vs j ∧ vs j ≤ 999)
theorem dA_si {m : Nat} {ks vs : Nat → Int} (hk : KV m ks vs) : ∀ d i s v, i + d ≤ m → SI s → v < s.2.2.1 → SI (dA ks vs d i s v).1
  | 0, i, s, v, _, hs, _ => by
    unfold dA
    exact hs
  | d + 1, i, s, v, h, hs, hv => by
    unfold dA
    split
    · rename_i hc
      rw [Bool.and_eq_true] at hc
      have h1 : s.2.2.1 < 100 := of_decide_eq_true hc.1
      exact dA_si hk d (i + 1) _ _ (by omega) (si_grow hs h1 hv (hk i (by omega)).1 (hk i (by omega)).2 hc.2) (by show s.2.2.1 < s.2.2.1 + 1; omega)
    · exact hs
theorem sGrow_pop {s : SS} {k : Nat} {kind x y : Int} (h : ¬ kind < 2) : sGrow s k kind x = sGrow s k kind y := by
  unfold sGrow
  have e1 : sAct (va_up (s.2.2.2 k).1 0 k) (s.2.2.2 k).2 kind x s.1 s.2.1 = sAct (va_up (s.2.2.2 k).1 0 k) (s.2.2.2 k).2 kind y s.1 s.2.1 := by
    unfold sAct
    rw [if_neg h, if_neg h]
  rw [e1, sRow_kind (fun hh => absurd hh h)]
theorem dA_congr {ks vs ks' vs' : Nat → Int} {m : Nat} (h : ∀ j, j < m → ks j = ks' j ∧ (ks j < 2 → vs j = vs' j)) : ∀ d i s v, i + d ≤ m → dA ks vs d i s v = dA ks' vs' d i s v
  | 0, _, _, _, _ => rfl
  | d + 1, i, s, v, hm => by
    have hi := h i (by omega)
    unfold dA
    have e : sGrow s v (ks i) (vs i) = sGrow s v (ks' i) (vs' i) := by
      rw [← hi.1]
      by_cases h2 : ks i < 2
      · rw [hi.2 h2]
      · exact sGrow_pop h2
    rw [← dA_congr h d (i + 1) (sGrow s v (ks' i) (vs' i)) s.2.2.1 (by omega), ← e, ← hi.1]
theorem all_m {G : GH} {ad : Nat → Nat} (hi : injK ad KM) {m : Nat} (hm : m ≤ 50) {ks vs : Nat → Int} (hkv : KV m ks vs) : ∀ (d fu i : Nat) (z : Nat → Int) (c : Nat → Nat → Int) (s : SS) (v : Nat), i + d = m → d + 1 < fu → SI s → NowR c s → v < s.2.2.1 → z 14 = (m : Nat) → (∀ j, j < m → c 13 j = ks j ∧ (ks j < 2 → c 14 j = vs j)) →
    ∃ z' c', (f_X5_doesAll_7 fu (ad 0) (iI v) (iI i) 1).1 (MO G ad z c) = some (iI (dA ks vs d i s v).2, MO G ad z' c') ∧ NowR c' (dA ks vs d i s v).1 ∧ (∀ j, j ≠ 8 → j ≠ 9 → z' j = z j) ∧ (∀ j, j ≠ 1 → j ≠ 8 → j ≠ 11 → c' j = c j)
  | _, 0, _, _, _, _, _, _, h, _, _, _, _, _ => absurd h (by omega)
  | 0, fu + 1, i, z, c, s, v, e, _, hs, hc, hv, h14, ha => by
    refine ⟨z, c, ?_, hc, fun _ _ _ => rfl, fun _ _ _ _ => rfl⟩
    rw [f_X5_doesAll_7, if_neg (show ¬ (1 : Int32) = 0 by decide), mo_gi14 hi, h14, if_pos (by rw [iI_le (by omega) (by omega) (by omega) (by omega)]; omega)]
    rfl
  | d + 1, fu + 1, i, z, c, s, v, e, hf, hs, hc, hv, h14, ha => by
    have h100 := hs.2.2.1
    have hai := ha i (by omega)
    have hki := hkv i (by omega)
    have hvb := (hs.2.2.2 v hv).1
    unfold VBn at hvb
    have hstop : (f_X5_doesAll_7 fu (ad 0) (iI v) (iI i) 0).1 (MO G ad z c) = some (iI i, MO G ad z c) := by
      obtain ⟨fu', hfu⟩ : ∃ q, fu = q + 1 := ⟨fu - 1, by omega⟩
      rw [hfu, f_X5_doesAll_7, if_pos rfl]
      rfl
    have g1 := of_s (G := G) hi hs (z := z) hc hv (show 1 < 10 by decide)
    rw [show iI ((1 : Nat) : Int) = 1 from rfl, mc1] at g1
    have gacts : ∀ {β : Type} (F : Int32 → MM β), (mbind (mali (ad 13) (iI i)) F).1 (MO G ad z c) = (F (iI (ks i))).1 (MO G ad z c) := by
      intro β F
      rw [mo_al13 hi _ _ (by omega) (by omega), show ((i : Int)).toNat = i by omega, hai.1]
    rw [f_X5_doesAll_7, if_neg (show ¬ (1 : Int32) = 0 by decide), mo_gi14 hi, h14, if_neg (by rw [iI_le (by omega) (by omega) (by omega) (by omega)]; omega), mo_gr0 hi, held_m hi hs z hc]
    have hno : ¬ (decide (s.2.2.1 < 100) && pmt (s.2.2.2 v).1 (ks i)) = true → dA ks vs (d + 1) i s v = (s, i) := by
      intro hh
      unfold dA
      rw [if_neg hh]
    have hyes : (decide (s.2.2.1 < 100) && pmt (s.2.2.2 v).1 (ks i)) = true → dA ks vs (d + 1) i s v = dA ks vs d (i + 1) (sGrow s v (ks i) (vs i)) s.2.2.1 := by
      intro hh
      show (if _ then _ else _) = _
      rw [if_pos hh]
    by_cases hh : s.2.2.1 < 100
    · rw [if_neg (by rw [lz100, iI_le (by omega) (by omega) (by omega) (by omega)]; omega), mo_gr12 hi, gacts]
      by_cases h2 : ks i < 2
      · rw [if_neg (by rw [lz2, iI_le (by omega) (by omega) (by omega) (by omega)]; omega), mo_ck hi, mbind_ok g1]
        by_cases hp : sz (s.2.2.2 v) < 40
        · have hp' := hp
          unfold sz at hp'
          have hok : (decide (s.2.2.1 < 100) && pmt (s.2.2.2 v).1 (ks i)) = true := by
            unfold pmt
            rw [if_pos h2, decide_eq_true hh, decide_eq_true hp']
            rfl
          obtain ⟨c2, p1, p2, p3⟩ := push_run (G := G) hi hs (z := z) hc hh hv (decide (ks i = 0)) (x := vs i) hp
          have hkk : (if decide (ks i = 0) = true then (0 : Int) else 1) = ks i := by
            by_cases h0 : ks i = 0
            · rw [decide_eq_true h0, if_pos rfl, h0]
            · rw [decide_eq_false h0, if_neg (by decide)]
              omega
          rw [hkk] at p2
          obtain ⟨z3, c3, q1, q2, q3, q4⟩ := all_m hi hm hkv d fu (i + 1) z c2 (sGrow s v (ks i) (vs i)) s.2.2.1 (by omega) (by omega) (si_grow hs hh hv hki.1 hki.2 (by rw [Bool.and_eq_true] at hok; exact hok.2)) p2 (by show s.2.2.1 < s.2.2.1 + 1; omega) h14 (fun j hj => by rw [p3 13 (by decide), p3 14 (by decide)]; exact ha j hj)
          rw [hyes hok]
          refine ⟨z3, c3, ?_, q2, q3, fun j a b d => (q4 j a b d).trans (p3 j a)⟩
          rw [if_neg (by rw [lz40, iI_le (by omega) (by omega) (by omega) (by omega)]; omega), mo_gr12 hi, gacts, if_neg (by rw [lz2, iI_le (by omega) (by omega) (by omega) (by omega)]; omega), mo_gr13 hi, mo_al14 hi _ _ (by omega) (by omega), show ((i : Int)).toNat = i by omega, hai.2 h2, mo_gr12 hi, gacts]
          rw [← q1, show iI (i : Int) + 1 = iI ((i + 1 : Nat) : Int) by rw [lz1, iI_add]; rfl]
          by_cases h0 : ks i = 0
          · rw [decide_eq_true h0] at p1
            rw [if_pos (by rw [h0]; rfl), mo_ck hi, show (1 : Int32) = iI (b2i true) from rfl, mbind_ok p1]
          · rw [decide_eq_false h0] at p1
            rw [if_neg (by rw [lz0, iI_eq (by omega) (by omega) (by omega) (by omega)]; exact h0), mo_ck hi, show (0 : Int32) = iI (b2i false) from rfl, mbind_ok p1]
        · have hp' := hp
          unfold sz at hp'
          rw [hno (by unfold pmt; rw [if_pos h2, decide_eq_false hp', Bool.and_false]; decide)]
          refine ⟨z, c, ?_, hc, fun _ _ _ => rfl, fun _ _ _ _ => rfl⟩
          rw [if_pos (by rw [lz40, iI_le (by omega) (by omega) (by omega) (by omega)]; omega)]
          exact hstop
      · rw [if_pos (by rw [lz2, iI_le (by omega) (by omega) (by omega) (by omega)]; omega), mo_ck hi, mbind_ok g1]
        by_cases hp : 0 < sz (s.2.2.2 v)
        · have hp' := hp
          unfold sz at hp'
          have hok : (decide (s.2.2.1 < 100) && pmt (s.2.2.2 v).1 (ks i)) = true := by
            unfold pmt
            rw [if_neg h2, decide_eq_true hh, decide_eq_true hp']
            rfl
          obtain ⟨z2, c2, p1, p2, p3, p4⟩ := pop_run (G := G) hi hs (z := z) hc hh hv (decide (ks i = 2)) (vs i) hp
          have hkk : (if decide (ks i = 2) = true then (2 : Int) else 3) = ks i := by
            by_cases h0 : ks i = 2
            · rw [decide_eq_true h0, if_pos rfl, h0]
            · rw [decide_eq_false h0, if_neg (by decide)]
              omega
          rw [hkk] at p2
          obtain ⟨z3, c3, q1, q2, q3, q4⟩ := all_m hi hm hkv d fu (i + 1) z2 c2 (sGrow s v (ks i) (vs i)) s.2.2.1 (by omega) (by omega) (si_grow hs hh hv hki.1 hki.2 (by rw [Bool.and_eq_true] at hok; exact hok.2)) p2 (by show s.2.2.1 < s.2.2.1 + 1; omega) ((p3 14 (by decide) (by decide)).trans h14) (fun j hj => by rw [p4 13 (by decide) (by decide) (by decide), p4 14 (by decide) (by decide) (by decide)]; exact ha j hj)
          rw [hyes hok]
          refine ⟨z3, c3, ?_, q2, fun j a b => (q3 j a b).trans (p3 j a b), fun j a b d => (q4 j a b d).trans (p4 j a b d)⟩
          rw [if_neg (by rw [lz0, iI_le (by omega) (by omega) (by omega) (by omega)]; omega), mo_gr12 hi, gacts, if_pos (by rw [lz2, iI_le (by omega) (by omega) (by omega) (by omega)]; omega), mo_gr12 hi, gacts]
          rw [← q1, show iI (i : Int) + 1 = iI ((i + 1 : Nat) : Int) by rw [lz1, iI_add]; rfl]
          by_cases h0 : ks i = 2
          · rw [decide_eq_true h0] at p1
            rw [if_pos (by rw [h0]; rfl), mo_ck hi, show (1 : Int32) = iI (b2i true) from rfl, mbind_ok p1]
          · rw [decide_eq_false h0] at p1
            rw [if_neg (by rw [lz2, iI_eq (by omega) (by omega) (by omega) (by omega)]; exact h0), mo_ck hi, show (0 : Int32) = iI (b2i false) from rfl, mbind_ok p1]
        · have hp' := hp
          unfold sz at hp'
          rw [hno (by unfold pmt; rw [if_neg h2, decide_eq_false hp', Bool.and_false]; decide)]
          refine ⟨z, c, ?_, hc, fun _ _ _ => rfl, fun _ _ _ _ => rfl⟩
          rw [if_pos (by rw [lz0, iI_le (by omega) (by omega) (by omega) (by omega)]; omega)]
          exact hstop
    · rw [hno (by rw [decide_eq_false hh, Bool.false_and]; decide)]
      refine ⟨z, c, ?_, hc, fun _ _ _ => rfl, fun _ _ _ _ => rfl⟩
      rw [if_pos (by rw [lz100, iI_le (by omega) (by omega) (by omega) (by omega)]; omega)]
      exact hstop
