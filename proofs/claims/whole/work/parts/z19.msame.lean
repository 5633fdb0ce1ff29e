/-! PURE PART 19: the reference compares rows -/
/-- what comparing rows changes -/
def KR (z : Nat → Int) (c : Nat → Nat → Int) (z' : Nat → Int) (c' : Nat → Nat → Int) : Prop := (∀ j, j ≠ 8 → j ≠ 9 → z' j = z j) ∧ ∀ j, j ≠ 8 → j ≠ 11 → j ≠ 12 → c' j = c j
theorem KR.rf (z : Nat → Int) (c : Nat → Nat → Int) : KR z c z c := ⟨fun _ _ _ => rfl, fun _ _ _ _ => rfl⟩
theorem KR.tr {z z1 z2 : Nat → Int} {c c1 c2 : Nat → Nat → Int} (h : KR z c z1 c1) (k : KR z1 c1 z2 c2) : KR z c z2 c2 := ⟨fun j a b => (k.1 j a b).trans (h.1 j a b), fun j a b d => (k.2 j a b d).trans (h.2 j a b d)⟩
theorem KP.kr {z z' : Nat → Int} {c c' : Nat → Nat → Int} (h : KP z c z' c') : KR z c z' c' := ⟨h.1, fun j a b _ => h.2 j a b⟩
theorem eqFrom_self (g : Nat → Int) : ∀ d m, eqFrom g g d m = true
  | 0, _ => rfl
  | d + 1, m => by
    unfold eqFrom
    rw [if_pos rfl]
    exact eqFrom_self g d (m + 1)
theorem sameRow_self (v g : Nat → Int) : sameRow v g v g = true := by
  unfold sameRow
  rw [eqFrom_self, decide_eq_true rfl]
  rfl
theorem as27_loop {G : GH} {ad : Nat → Nat} (hi : injK ad KM) {s : SS} (hs : SI s) {z : Nat → Int} {n : Nat} (hn : n ≤ 40) (hz : 0 ≤ z 8 ∧ z 8 + n ≤ 256) (p2 : Int32) : ∀ d fu k c, k + d = n → d < fu →
    (f_X5_areSame_27 fu (ad 0) p2 (iI n) (iI k)).1 (MO G ad z c) = (mbind (mchk (ad 0) 5) (fun _ => mbind (f_X5_laysRow (ad 0) p2) (fun _ => (f_X5_areSame_69 FU (ad 0) (iI n) 1 0)))).1 (MO G ad z (va_up c 12 (fun j => if k ≤ j ∧ j < n then c 8 (z 8 + j).toNat else c 12 j)))
  | _, 0, _, _, _, h => absurd h (by omega)
  | 0, fu + 1, k, c, e, _ => by
    have e2 : (fun j : Nat => if k ≤ j ∧ j < n then c 8 (z 8 + j).toNat else c 12 j) = c 12 := by
      funext j
      rw [if_neg (by omega)]
    rw [e2, show va_up c 12 (c 12) = c from up_same rfl, f_X5_areSame_27, if_pos (by rw [iI_le (by omega) (by omega) (by omega) (by omega)]; omega)]
  | d + 1, fu + 1, k, c, e, hf => by
    rw [f_X5_areSame_27, if_neg (by rw [iI_le (by omega) (by omega) (by omega) (by omega)]; omega)]
    rw [mo_gr11 hi, mo_gr7 hi, mo_gi8 hi, iI_add, mo_al8 hi _ _ (by omega) (by omega), mo_as12 hi _ _ (by omega) (by omega), show iI (k : Int) + 1 = iI ((k + 1 : Nat) : Int) by rw [lz1, iI_add]; rfl, as27_loop hi hs hn hz p2 d fu (k + 1) _ (by omega) (by omega)]
    rw [up_idem]
    have e2 : (fun j : Nat => if k + 1 ≤ j ∧ j < n then (va_up c 12 (va_up (c 12) ((k : Int)).toNat (c 8 (z 8 + (k : Int)).toNat))) 8 (z 8 + j).toNat else (va_up c 12 (va_up (c 12) ((k : Int)).toNat (c 8 (z 8 + (k : Int)).toNat))) 12 j) = fun j : Nat => if k ≤ j ∧ j < n then c 8 (z 8 + j).toNat else c 12 j := by
      funext j
      rw [up_ne _ _ (show 8 ≠ 12 by decide), up_self, show ((k : Int)).toNat = k by omega]
      by_cases hj : j = k
      · subst hj
        rw [if_neg (by omega), up_self, if_pos (by omega)]
      · rw [up_ne _ _ hj]
        by_cases h2 : k + 1 ≤ j ∧ j < n
        · rw [if_pos h2, if_pos (by omega)]
        · rw [if_neg h2, if_neg (by omega)]
    rw [e2]
theorem as69_loop {G : GH} {ad : Nat → Nat} (hi : injK ad KM) {s : SS} (hs : SI s) {z : Nat → Int} {c : Nat → Nat → Int} {n : Nat} (hn : n ≤ 40) (hz : 0 ≤ z 8 ∧ z 8 + n ≤ 256) (h1 : ∀ j, j < n → -1000 ≤ c 12 j ∧ c 12 j ≤ 1000) (h2 : ∀ j : Nat, j < n → -1000 ≤ c 8 (z 8 + j).toNat ∧ c 8 (z 8 + j).toNat ≤ 1000) : ∀ d fu k (b : Bool), k + d = n → d < fu →
    (f_X5_areSame_69 fu (ad 0) (iI n) (iI (b2i b)) (iI k)).1 (MO G ad z c) = some (iI (b2i (b && eqFrom (c 12) (fun j => c 8 (z 8 + j).toNat) d k)), MO G ad z c)
  | _, 0, _, _, _, h => absurd h (by omega)
  | 0, fu + 1, k, b, e, _ => by
    rw [f_X5_areSame_69, if_pos (by rw [iI_le (by omega) (by omega) (by omega) (by omega)]; omega), ev_bool]
    cases b <;> rfl
  | d + 1, fu + 1, k, b, e, hf => by
    have hkk : iI (k : Int) + 1 = iI ((k + 1 : Nat) : Int) := by rw [lz1, iI_add]; rfl
    rw [f_X5_areSame_69, if_neg (by rw [iI_le (by omega) (by omega) (by omega) (by omega)]; omega), hkk]
    have ih := as69_loop hi hs (G := G) hn hz h1 h2 d fu (k + 1)
    cases b with
    | false =>
      rw [if_pos (show iI (b2i false) = 0 from rfl)]
      have := ih false (by omega) (by omega)
      rw [show iI (b2i false) = 0 from rfl] at this
      rw [this]
      rfl
    | true =>
      rw [if_neg (show ¬ iI (b2i true) = 0 by decide)]
      have a1 := h1 k (by omega)
      have a2 := h2 k (by omega)
      rw [mo_gr11 hi, mo_al12 hi _ _ (by omega) (by omega), mo_gr7 hi, mo_gi8 hi, iI_add, mo_al8 hi _ _ (by omega) (by omega), show ((k : Int)).toNat = k by omega]
      unfold eqFrom
      by_cases h3 : c 12 k = c 8 (z 8 + (k : Int)).toNat
      · rw [if_pos (by rw [h3]), if_pos h3]
        exact ih true (by omega) (by omega)
      · rw [if_neg (by rw [iI_eq (by omega) (by omega) (by omega) (by omega)]; exact h3), if_neg h3]
        have := ih false (by omega) (by omega)
        rw [show iI (b2i false) = 0 from rfl] at this
        rw [this]
        rfl
theorem as_run {G : GH} {ad : Nat → Nat} (hi : injK ad KM) {s : SS} (hs : SI s) {z : Nat → Int} {c : Nat → Nat → Int} (hc : NowR c s) {a b : Nat} (ha : a < s.2.2.1) (hb : b < s.2.2.1) :
    ∃ z' c', (f_X5_areSame (ad 0) (iI a) (iI b)).1 (MO G ad z c) = some (iI (b2i (sameRow (s.2.2.2 a).1 (s.2.2.2 a).2 (s.2.2.2 b).1 (s.2.2.2 b).2)), MO G ad z' c') ∧ KR z c z' c' := by
  have g1 := of_s (G := G) hi hs (z := z) hc ha (show 1 < 10 by decide)
  have g2 := of_s (G := G) hi hs (z := z) hc hb (show 1 < 10 by decide)
  rw [show iI ((1 : Nat) : Int) = 1 from rfl, mc1] at g1 g2
  have va := (hs.2.2.2 a ha).1
  have vb := (hs.2.2.2 b hb).1
  have ra := (hs.2.2.2 a ha).2.1
  have rb := (hs.2.2.2 b hb).2.1
  unfold VBn at va vb
  by_cases h : (s.2.2.2 b).1 4 + (s.2.2.2 b).1 5 = (s.2.2.2 a).1 4 + (s.2.2.2 a).1 5
  · obtain ⟨z1, c1, e1, e2, ⟨e3, e3'⟩, e4⟩ := lr_run (G := G) hi hs hc ha (z := z)
    obtain ⟨n, hn⟩ : ∃ n : Nat, sz (s.2.2.2 a) = n := ⟨(sz (s.2.2.2 a)).toNat, by unfold sz; omega⟩
    have hn40 : n ≤ 40 := by unfold sz at hn; omega
    have l27 := as27_loop (G := G) hi hs (z := z1) hn40 (by omega) (iI (b : Int)) n FU 0 c1 (by omega) (by unfold FU; omega)
    have hc1 : NowR (va_up c1 12 (fun j => if 0 ≤ j ∧ j < n then c1 8 (z1 8 + j).toNat else c1 12 j)) s := (hc.eq (e2.2 1 (by decide) (by decide))).up (by decide) _
    obtain ⟨z2, c2, f1, f2, ⟨f3, f3'⟩, f4⟩ := lr_run (G := G) hi hs hc1 hb (z := z1)
    have h12 : ∀ j, j < n → c2 12 j = (s.2.2.2 a).2 j := fun j hj => by
      rw [f2.2 12 (by decide) (by decide), up_self, if_pos (by omega)]
      exact e3' j (by omega)
    have hszb : sz (s.2.2.2 b) = n := by unfold sz at hn ⊢; omega
    have h8 : ∀ j : Nat, j < n → c2 8 (z2 8 + j).toNat = (s.2.2.2 b).2 j := fun j hj => f3' j (by omega)
    have l69 := as69_loop (G := G) hi hs (z := z2) (c := c2) hn40 (by omega) (fun j hj => by rw [h12 j hj]; have := ra j (by omega); omega) (fun j hj => by rw [h8 j hj]; have := rb j (by omega); omega) n FU 0 true (by omega) (by unfold FU; omega)
    refine ⟨z2, c2, ?_, ⟨fun j p q => (f2.1 j p q).trans (e2.1 j p q), fun j p q t => (f2.2 j p q).trans ((up_ne _ _ t).trans (e2.2 j p q))⟩⟩
    unfold f_X5_areSame
    rw [mo_ck hi, mbind_ok g1, mo_ck hi, mbind_ok g2, if_pos (by rw [h]), mo_ck hi, mbind_ok e1]
    rw [show iI ((s.2.2.2 a).1 4 + (s.2.2.2 a).1 5) = iI (n : Int) by congr 1]
    rw [show iI ((0 : Nat) : Int) = 0 from rfl] at l27 l69
    rw [show iI (b2i true) = 1 from rfl] at l69
    rw [l27, mo_ck hi, mbind_ok f1, l69]
    have e5 : (true && eqFrom (c2 12) (fun j => c2 8 (z2 8 + j).toNat) n 0) = sameRow (s.2.2.2 a).1 (s.2.2.2 a).2 (s.2.2.2 b).1 (s.2.2.2 b).2 := by
      unfold sameRow
      rw [decide_eq_true (show (s.2.2.2 a).1 4 + (s.2.2.2 a).1 5 = (s.2.2.2 b).1 4 + (s.2.2.2 b).1 5 by omega)]
      rw [show ((s.2.2.2 a).1 4 + (s.2.2.2 a).1 5).toNat = n by unfold sz at hn; omega]
      rw [eqFrom_congr _ _ _ _ n 0 (fun j _ hj => h12 j (by omega)) (fun j _ hj => h8 j (by omega))]
    rw [e5]
  · refine ⟨z, c, ?_, KR.rf z c⟩
    unfold f_X5_areSame
    rw [mo_ck hi, mbind_ok g1, mo_ck hi, mbind_ok g2, if_neg (by rw [iI_eq (by omega) (by omega) (by omega) (by omega)]; exact h)]
    have e5 : sameRow (s.2.2.2 a).1 (s.2.2.2 a).2 (s.2.2.2 b).1 (s.2.2.2 b).2 = false := by
      unfold sameRow
      rw [decide_eq_false (by omega)]
      rfl
    rw [e5]
    rfl
theorem fl_m {G : GH} {ad : Nat → Nat} (hi : injK ad KM) {s : SS} (hs : SI s) {w : Nat} (hw : w < s.2.2.1) : ∀ d fu m z c, m + d = w → d < fu → NowR c s → z 6 = 0 → ∃ z' c', (f_X5_firstLike_19 fu (ad 0) (iI w) (iI m)).1 (MO G ad z c) = some (iI (flF s w d m), MO G ad z' c') ∧ KR z c z' c'
  | _, 0, _, _, _, _, h, _, _ => absurd h (by omega)
  | 0, fu + 1, m, z, c, e, _, hc, h6 => by
    have : m = w := by omega
    subst this
    obtain ⟨z', c', e1, e2⟩ := as_run (G := G) hi hs hc hw hw (z := z)
    rw [sameRow_self] at e1
    refine ⟨z', c', ?_, e2⟩
    rw [f_X5_firstLike_19, mo_gi6 hi, h6, if_pos (show iI 0 = 0 from rfl), mo_ck hi, mbind_ok e1, if_neg (show ¬ iI (b2i true) = 0 by decide)]
    rfl
  | d + 1, fu + 1, m, z, c, e, hf, hc, h6 => by
    obtain ⟨z', c', e1, e2⟩ := as_run (G := G) hi hs hc (show m < s.2.2.1 by omega) hw (z := z)
    by_cases hsm : sameRow (s.2.2.2 m).1 (s.2.2.2 m).2 (s.2.2.2 w).1 (s.2.2.2 w).2 = true
    · rw [hsm] at e1
      refine ⟨z', c', ?_, e2⟩
      unfold flF
      rw [if_pos hsm, f_X5_firstLike_19, mo_gi6 hi, h6, if_pos (show iI 0 = 0 from rfl), mo_ck hi, mbind_ok e1, if_neg (show ¬ iI (b2i true) = 0 by decide)]
      rfl
    · obtain ⟨z2, c2, f1, f2⟩ := fl_m hi hs hw d fu (m + 1) z' c' (by omega) (by omega) (hc.eq (e2.2 1 (by decide) (by decide) (by decide))) ((e2.1 6 (by decide) (by decide)).trans h6)
      rw [Bool.not_eq_true] at hsm
      rw [hsm] at e1
      refine ⟨z2, c2, ?_, e2.tr f2⟩
      unfold flF
      rw [hsm, if_neg (by decide), ← f1, f_X5_firstLike_19, mo_gi6 hi, h6, if_pos (show iI 0 = 0 from rfl), mo_ck hi, mbind_ok e1, if_pos (show iI (b2i false) = 0 from rfl), lz1, iI_add]
      rfl
