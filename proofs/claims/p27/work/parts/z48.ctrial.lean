/-! PURE PART 48: a trial's row goes the way of the versions that the acts would make -/
theorem up0_end (v : Nat → Int) (z : Int) : sEnd (va_up v 0 z) = va_up (sEnd v) 0 z := by
  funext j
  unfold sEnd va_up
  by_cases h : j = 0
  · subst h
    simp
  · simp [h]
theorem up0_goal (v : Nat → Int) (z ch : Int) : sGoal (va_up v 0 z) ch = va_up (sGoal v ch) 0 z := by
  unfold sGoal
  rw [show (va_up v 0 z) 6 = v 6 from rfl]
  by_cases hc : 0 < v 6
  · rw [if_pos hc, if_pos hc]
    exact up_comm _ _ _ (by decide)
  · rw [if_neg hc, if_neg hc]
theorem up0_pay1 (v : Nat → Int) (z r : Int) : sPay1 (va_up v 0 z) r = va_up (sPay1 v r) 0 z := by
  funext j
  unfold sPay1 va_up
  by_cases h : j = 0
  · subst h
    simp
  · simp [h]
theorem up0_pay (v : Nat → Int) (z r : Int) : sPay (va_up v 0 z) r = va_up (sPay v r) 0 z := by
  unfold sPay
  rw [show (va_up v 0 z) 6 = v 6 from rfl, up0_pay1, up0_end]
  by_cases hc : 0 < v 6
  · rw [if_pos hc, if_pos hc]
    split <;> rfl
  · rw [if_neg hc, if_neg hc]
theorem up0_begin (v : Nat → Int) (z q : Int) : sBegin (va_up v 0 z) q = va_up (sBegin v q) 0 z := by
  unfold sBegin
  rw [show (va_up v 0 z) 6 = v 6 from rfl, show (va_up v 0 z) 4 = v 4 from rfl, show (va_up v 0 z) 5 = v 5 from rfl]
  by_cases hc : 0 < v 6
  · rw [if_pos hc, if_pos hc]
  · rw [if_neg hc, if_neg hc]
    split
    · rw [up_comm _ _ _ (show 6 ≠ 0 by decide), up_comm _ _ _ (show 7 ≠ 0 by decide)]
    · rfl
theorem up0_cost (v : Nat → Int) (z : Int) : sCost (va_up v 0 z) = va_up (sCost v) 0 z := up_comm _ _ _ (by decide)
theorem up0_start (v : Nat → Int) (z k : Int) : sStart (va_up v 0 z) k = va_up (sStart v k) 0 z := by
  funext j
  unfold sStart va_up
  by_cases h : j = 0
  · subst h
    simp
  · simp [h]
theorem up0_put (v : Nat → Int) (z x : Int) (fr : Bool) : sPut (va_up v 0 z) fr x = va_up (sPut v fr x) 0 z := by
  unfold sPut
  rw [show (va_up v 0 z) 4 = v 4 from rfl, show (va_up v 0 z) 5 = v 5 from rfl, up_comm _ _ _ (show 2 ≠ 0 by decide), up_comm _ _ _ (show 4 ≠ 0 by decide), up_comm _ _ _ (show 5 ≠ 0 by decide), up0_goal, up0_goal]
  split <;> rfl
theorem up0_gone (v : Nat → Int) (z : Int) (fr : Bool) : sGone (va_up v 0 z) fr = va_up (sGone v fr) 0 z := by
  unfold sGone
  rw [show (va_up v 0 z) 4 = v 4 from rfl, show (va_up v 0 z) 5 = v 5 from rfl, up_comm _ _ _ (show 4 ≠ 0 by decide), up_comm _ _ _ (show 5 ≠ 0 by decide)]
  split <;> split <;> rfl
theorem up0_take (v : Nat → Int) (z mv : Int) (fr : Bool) : sTake (va_up v 0 z) fr mv = va_up (sTake v fr mv) 0 z := by
  unfold sTake
  rw [up_comm _ _ _ (show 2 ≠ 0 by decide), up0_gone, up0_goal]
theorem up0_fetch (v : Nat → Int) (z : Int) (fr : Bool) : sFetch (va_up v 0 z) fr = va_up (sFetch v fr) 0 z := by
  have h1 : sF1 (va_up v 0 z) = va_up (sF1 v) 0 z := by
    unfold sF1
    rw [show (va_up v 0 z) 6 = v 6 from rfl, show (va_up v 0 z) 9 = v 9 from rfl, up_comm _ _ _ (show 9 ≠ 0 by decide), up0_end]
    split <;> rfl
  have h2 : ∀ w, sF2 (va_up w 0 z) fr = va_up (sF2 w fr) 0 z := fun w => by
    unfold sF2
    rw [show sPart (va_up w 0 z) fr = sPart w fr from rfl, show (va_up w 0 z) 9 = w 9 from rfl, show (va_up w 0 z) 4 = w 4 from rfl, show (va_up w 0 z) 5 = w 5 from rfl, up_comm _ _ _ (show 9 ≠ 0 by decide)]
    split <;> rfl
  have h3 : ∀ w, sF3 (va_up w 0 z) = va_up (sF3 w) 0 z := fun w => up_comm _ _ _ (by decide)
  unfold sFetch
  rw [show sPart (va_up v 0 z) fr = sPart v fr from rfl, h1, h2, h3]
  split <;> rfl
theorem up0_act (v g : Nat → Int) (z kind x rate ratio : Int) : sAct (va_up v 0 z) g kind x rate ratio = va_up (sAct v g kind x rate ratio) 0 z := by
  unfold sAct
  rw [up0_start, up0_put, up0_fetch, up0_take, show sMv (va_up v 0 z) g kind = sMv v g kind from rfl]
  by_cases hc : kind < 2
  · rw [if_pos hc, if_pos hc, up0_cost, up0_pay, up0_begin]
  · rw [if_neg hc, if_neg hc, up0_cost, up0_pay, up0_begin]
theorem stC_front (s : SS) (a : Nat) : ∀ n, stC s a (n + 1) = (if 0 < (s.2.2.2 a).1 9 then 1 else 0) + stC s (a + 1) n
  | 0 => by
    unfold stC stC
    rw [Nat.add_zero]
    omega
  | n + 1 => by
    have h := stC_front s a n
    rw [show stC s a (n + 1 + 1) = stC s a (n + 1) + (if 0 < (s.2.2.2 (a + (n + 1))).1 9 then 1 else 0) from rfl, h, show stC s (a + 1) (n + 1) = stC s (a + 1) n + (if 0 < (s.2.2.2 (a + 1 + n)).1 9 then 1 else 0) from rfl, show a + (n + 1) = a + 1 + n by omega, Int.add_assoc]
theorem mxC_front (s : SS) (a : Nat) (h0 : 0 ≤ (s.2.2.2 a).1 8) : ∀ n, mxC s a (n + 1) = max ((s.2.2.2 a).1 8) (mxC s (a + 1) n)
  | 0 => by
    show max 0 ((s.2.2.2 (a + 0)).1 8) = max _ 0
    rw [Nat.add_zero]
    omega
  | n + 1 => by
    have h := mxC_front s a h0 n
    rw [show mxC s a (n + 1 + 1) = max (mxC s a (n + 1)) ((s.2.2.2 (a + (n + 1))).1 8) from rfl, h, show mxC s (a + 1) (n + 1) = max (mxC s (a + 1) n) ((s.2.2.2 (a + 1 + n)).1 8) from rfl, show a + (n + 1) = a + 1 + n by omega]
    omega
theorem dA_old (ks vs : Nat → Int) : ∀ d i s v, (dA ks vs d i s v).1.1 = s.1 ∧ (dA ks vs d i s v).1.2.1 = s.2.1 ∧ ∀ j, j < s.2.2.1 → (dA ks vs d i s v).1.2.2.2 j = s.2.2.2 j
  | 0, i, s, v => by
    unfold dA
    exact ⟨rfl, rfl, fun _ _ => rfl⟩
  | d + 1, i, s, v => by
    unfold dA
    split
    · have h := dA_old ks vs d (i + 1) (sGrow s v (ks i) (vs i)) s.2.2.1
      refine ⟨h.1, h.2.1, fun j hj => ?_⟩
      rw [h.2.2 j (by show j < s.2.2.1 + 1; omega)]
      exact up_ne _ _ (by omega)
    · exact ⟨rfl, rfl, fun _ _ => rfl⟩
/-- a trial of d acts from the i-th on: those that stalled, the greatest cost -/
def plF (rate ratio : Int) (ks vs : Nat → Int) : Nat → Nat → (Nat → Int) → (Nat → Int) → Int → Int → Int × Int
  | 0, _, _, _, a, b => (a, b)
  | d + 1, i, v, g, a, b => if pmt v (ks i) = true then plF rate ratio ks vs d (i + 1) (sAct v g (ks i) (vs i) rate ratio) (cRow g (ks i) (vs i) (v 4 + v 5).toNat) (a + if 0 < (sAct v g (ks i) (vs i) rate ratio) 9 then 1 else 0) (max b ((sAct v g (ks i) (vs i) rate ratio) 8)) else (a, b)
theorem pl_dA {m : Nat} {ks vs : Nat → Int} (hkv : KV m ks vs) : ∀ (d i : Nat) (s : SS) (u : Nat) (z : Int) (g : Nat → Int) (a b : Int), i + d ≤ m → SI s → u < s.2.2.1 → (∀ j : Nat, (j : Int) < sz (s.2.2.2 u) → g j = (s.2.2.2 u).2 j) → 0 ≤ b →
    plF s.1 s.2.1 ks vs (min d (100 - s.2.2.1)) i (va_up (s.2.2.2 u).1 0 z) g a b = (a + stC (dA ks vs d i s u).1 s.2.2.1 ((dA ks vs d i s u).2 - i), max b (mxC (dA ks vs d i s u).1 s.2.2.1 ((dA ks vs d i s u).2 - i)))
  | 0, i, s, u, z, g, a, b, _, _, _, _, hb => by
    rw [Nat.zero_min]
    unfold plF dA
    dsimp only
    rw [Nat.sub_self]
    show (a, b) = (a + 0, max b 0)
    rw [Int.add_zero, show max b 0 = b by omega]
  | d + 1, i, s, u, z, g, a, b, hm, hs, hu, hg, hb => by
    have hki := hkv i (by omega)
    have hvb := (hs.2.2.2 u hu).1
    have h100 := hs.2.2.1
    have stop : (plF s.1 s.2.1 ks vs (min (d + 1) (100 - s.2.2.1)) i (va_up (s.2.2.2 u).1 0 z) g a b = (a, b)) → dA ks vs (d + 1) i s u = (s, i) → plF s.1 s.2.1 ks vs (min (d + 1) (100 - s.2.2.1)) i (va_up (s.2.2.2 u).1 0 z) g a b = (a + stC (dA ks vs (d + 1) i s u).1 s.2.2.1 ((dA ks vs (d + 1) i s u).2 - i), max b (mxC (dA ks vs (d + 1) i s u).1 s.2.2.1 ((dA ks vs (d + 1) i s u).2 - i))) := by
      intro h1 h2
      rw [h1, h2]
      dsimp only
      rw [Nat.sub_self]
      show (a, b) = (a + 0, max b 0)
      rw [Int.add_zero, show max b 0 = b by omega]
    by_cases hh : s.2.2.1 < 100
    · obtain ⟨e, he⟩ : ∃ e, min (d + 1) (100 - s.2.2.1) = e + 1 ∧ e = min d (100 - (s.2.2.1 + 1)) := ⟨min d (100 - (s.2.2.1 + 1)), by omega, rfl⟩
      by_cases hp : pmt (s.2.2.2 u).1 (ks i) = true
      · have hs1 := si_grow hs hh hu hki.1 hki.2 hp
        have hd : dA ks vs (d + 1) i s u = dA ks vs d (i + 1) (sGrow s u (ks i) (vs i)) s.2.2.1 := by
          show (if _ then _ else _) = _
          rw [if_pos (by rw [hp, decide_eq_true hh]; rfl)]
        have hnew : (sGrow s u (ks i) (vs i)).2.2.2 s.2.2.1 = (va_up (sAct (s.2.2.2 u).1 (s.2.2.2 u).2 (ks i) (vs i) s.1 s.2.1) 0 u, sRow (s.2.2.2 u).2 (ks i) (vs i) (sz (s.2.2.2 u)).toNat) := by
          show va_up s.2.2.2 s.2.2.1 _ s.2.2.1 = _
          rw [up_self, up0_act]
        have hpp : if ks i < 2 then (s.2.2.2 u).1 4 + (s.2.2.2 u).1 5 < 40 else 0 < (s.2.2.2 u).1 4 + (s.2.2.2 u).1 5 := by
          unfold pmt at hp
          split at hp <;> rename_i hc <;> simp only [hc, if_true, if_false] <;> exact of_decide_eq_true hp
        have hcong : sAct (s.2.2.2 u).1 g (ks i) (vs i) s.1 s.2.1 = sAct (s.2.2.2 u).1 (s.2.2.2 u).2 (ks i) (vs i) s.1 s.2.1 := by
          refine sAct_congr (fun hc => ?_)
          rw [if_neg hc] at hpp
          unfold VBn at hvb
          unfold sMv
          split
          · exact hg 0 (by unfold sz; omega)
          · exact hg _ (by unfold sz; omega)
        have hst := st_act hvb (s.2.2.2 u).2 (x := vs i) (rate := s.1) (ratio := s.2.1) hki.1 (by have := hs.1; omega) (by have := hs.2.1; omega) hpp
        have hold := dA_old ks vs d (i + 1) (sGrow s u (ks i) (vs i)) s.2.2.1
        have hn := dA_n ks vs d (i + 1) (sGrow s u (ks i) (vs i)) s.2.2.1
        have hv : (dA ks vs d (i + 1) (sGrow s u (ks i) (vs i)) s.2.2.1).1.2.2.2 s.2.2.1 = (sGrow s u (ks i) (vs i)).2.2.2 s.2.2.1 := hold.2.2 _ (by show s.2.2.1 < s.2.2.1 + 1; omega)
        have ih := pl_dA hkv d (i + 1) (sGrow s u (ks i) (vs i)) s.2.2.1 z (cRow g (ks i) (vs i) (sz (s.2.2.2 u)).toNat) (a + if 0 < (sAct (s.2.2.2 u).1 (s.2.2.2 u).2 (ks i) (vs i) s.1 s.2.1) 9 then 1 else 0) (max b ((sAct (s.2.2.2 u).1 (s.2.2.2 u).2 (ks i) (vs i) s.1 s.2.1) 8)) (by omega) hs1 (by show s.2.2.1 < s.2.2.1 + 1; omega) (fun j hj => by
          rw [hnew] at hj ⊢
          have hj' : (j : Int) < (sAct (s.2.2.2 u).1 (s.2.2.2 u).2 (ks i) (vs i) s.1 s.2.1) 4 + (sAct (s.2.2.2 u).1 (s.2.2.2 u).2 (ks i) (vs i) s.1 s.2.1) 5 := hj
          refine row_ok (n := (sz (s.2.2.2 u)).toNat) (fun i' hi' => hg i' (by omega)) (ks i) (vs i) hki.1 j ?_
          unfold ST at hst
          unfold VBn at hvb
          rw [hst.2.2.2.2.1] at hj'
          unfold sz
          split at hj' <;> rename_i hc <;> simp only [hc, if_true, if_false] <;> omega) (by omega)
        rw [hnew] at ih
        dsimp only at ih
        rw [up_idem] at ih
        have eh : (sGrow s u (ks i) (vs i)).2.2.1 = s.2.2.1 + 1 := rfl
        have e1 : (sGrow s u (ks i) (vs i)).1 = s.1 := rfl
        have e2 : (sGrow s u (ks i) (vs i)).2.1 = s.2.1 := rfl
        rw [eh, e1, e2, ← he.2] at ih
        rw [he.1, hd, show plF s.1 s.2.1 ks vs (e + 1) i (va_up (s.2.2.2 u).1 0 z) g a b = plF s.1 s.2.1 ks vs e (i + 1) (va_up (sAct (s.2.2.2 u).1 (s.2.2.2 u).2 (ks i) (vs i) s.1 s.2.1) 0 z) (cRow g (ks i) (vs i) (sz (s.2.2.2 u)).toNat) (a + if 0 < (sAct (s.2.2.2 u).1 (s.2.2.2 u).2 (ks i) (vs i) s.1 s.2.1) 9 then 1 else 0) (max b ((sAct (s.2.2.2 u).1 (s.2.2.2 u).2 (ks i) (vs i) s.1 s.2.1) 8)) by
          show (if pmt (va_up (s.2.2.2 u).1 0 z) (ks i) = true then _ else _) = _
          rw [show pmt (va_up (s.2.2.2 u).1 0 z) (ks i) = pmt (s.2.2.2 u).1 (ks i) from rfl, if_pos hp, up0_act, hcong]
          rfl]
        rw [ih]
        obtain ⟨N, hN⟩ : ∃ N, (dA ks vs d (i + 1) (sGrow s u (ks i) (vs i)) s.2.2.1).2 - i = N + 1 ∧ N = (dA ks vs d (i + 1) (sGrow s u (ks i) (vs i)) s.2.2.1).2 - (i + 1) := ⟨_, by omega, rfl⟩
        have hx8 : ((dA ks vs d (i + 1) (sGrow s u (ks i) (vs i)) s.2.2.1).1.2.2.2 s.2.2.1).1 8 = (sAct (s.2.2.2 u).1 (s.2.2.2 u).2 (ks i) (vs i) s.1 s.2.1) 8 := by rw [hv, hnew]; rfl
        have hx9 : ((dA ks vs d (i + 1) (sGrow s u (ks i) (vs i)) s.2.2.1).1.2.2.2 s.2.2.1).1 9 = (sAct (s.2.2.2 u).1 (s.2.2.2 u).2 (ks i) (vs i) s.1 s.2.1) 9 := by rw [hv, hnew]; rfl
        unfold ST at hst
        rw [hN.1, ← hN.2, stC_front, mxC_front _ _ (by rw [hx8]; omega), hx8, hx9]
        refine Prod.ext ?_ ?_
        · dsimp only
          omega
        · dsimp only
          omega
      · refine stop ?_ ?_
        · rw [he.1]
          show (if pmt (va_up (s.2.2.2 u).1 0 z) (ks i) = true then _ else _) = _
          rw [show pmt (va_up (s.2.2.2 u).1 0 z) (ks i) = pmt (s.2.2.2 u).1 (ks i) from rfl, if_neg hp]
        · show (if _ then _ else _) = _
          rw [if_neg (fun hq => hp (by rw [Bool.and_eq_true] at hq; exact hq.2))]
    · refine stop ?_ ?_
      · rw [show min (d + 1) (100 - s.2.2.1) = 0 by omega]
        rfl
      · show (if _ then _ else _) = _
        rw [if_neg (fun hq => hh (by rw [Bool.and_eq_true] at hq; exact of_decide_eq_true hq.1))]
