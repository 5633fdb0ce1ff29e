/-! PURE PART 35: the reference reads the whole text -/
noncomputable def pLt (a0 : Nat) (kd : Int32) (REC : MM Int32) : MM Int32 := (mbind (mgr a0 5 12) (fun r33 => (mbind (mgi a0 5 14) (fun x34 => (mbind (masi r33 x34 kd) (fun _ => (mbind (mgi a0 5 15) (fun x35 => (mbind (mput a0 5 15 (.int (x35 + 1))) (fun _ => (mbind (mchk a0 5) (fun _ => mbind (f_X5_readsValue a0) (fun x36 => (if x36 = 0 then (mbind (mgi a0 5 15) (fun x42 => (mpure x42))) else (mbind (mgi a0 5 15) (fun x37 => (mbind (mchk a0 5) (fun _ => mbind (f_X5_byteAt a0 x37) (fun x38 => (if x38 = 59 then (mbind (mgi a0 5 15) (fun x39 => (mbind (mput a0 5 15 (.int (x39 + 1))) (fun _ => (mbind (mgi a0 5 14) (fun x40 => (mbind (mput a0 5 14 (.int (x40 + 1))) (fun _ => REC)))))))) else (mbind (mgi a0 5 15) (fun x41 => (mpure x41)))))))))))))))))))))))
noncomputable def pPt (a0 : Nat) (kd : Int32) (REC : MM Int32) : MM Int32 := (mbind (mgr a0 5 12) (fun r7 => (mbind (mgi a0 5 14) (fun x8 => (mbind (masi r7 x8 kd) (fun _ => (mbind (mgi a0 5 15) (fun x9 => (mbind (mput a0 5 15 (.int (x9 + 1))) (fun _ => (mbind (mgi a0 5 15) (fun x10 => (mbind (mchk a0 5) (fun _ => mbind (f_X5_byteAt a0 x10) (fun x11 => (if x11 = 59 then (mbind (mgi a0 5 15) (fun x12 => (mbind (mput a0 5 15 (.int (x12 + 1))) (fun _ => (mbind (mgi a0 5 14) (fun x13 => (mbind (mput a0 5 14 (.int (x13 + 1))) (fun _ => REC)))))))) else (mbind (mgi a0 5 15) (fun x14 => (mpure x14)))))))))))))))))))
theorem semi_run {ad : Nat → Nat} (hi : injK ad KM) {n : Nat} (hn : n ≤ 100) {bt : Nat → Int} (hb : ∀ j, j < n → 0 ≤ bt j ∧ bt j ≤ 127) {m st : Nat} {t : TT} (hst : 3 ≤ st ∧ st ≤ 5) (hm : m ≤ n) (hd : st = 5 ∨ ¬ (48 ≤ bA bt n m ∧ bA bt n m ≤ 57)) : (bA bt n m = 59 → m < n ∧ tRun bt (n - m) m st t = tRun bt (n - (m + 1)) (m + 1) 0 (tEnd t)) ∧ (bA bt n m ≠ 59 → (tRun bt (n - m) m st t).1 = m) := by
  by_cases h : m < n
  · obtain ⟨q, hq⟩ : ∃ q, n - m = q + 1 := ⟨n - m - 1, by omega⟩
    have hbp : bA bt n m = bt m := if_pos h
    rw [hbp] at hd ⊢
    refine ⟨fun e => ⟨h, ?_⟩, fun e => ?_⟩
    · have hnx : tNext st t (bt m) = (0, tEnd t) := by
        unfold tNext
        rw [if_neg (by omega), if_neg (by omega), if_neg (by omega), if_pos (by omega)]
      rw [hq, tRun, hnx, if_neg (show ¬ (0 : Int) = -1 by decide), show n - (m + 1) = q by omega]
    · have hnx : (tNext st t (bt m)).1 = -1 := by
        unfold tNext
        rw [if_neg (by omega), if_neg (by omega), if_neg (by omega), if_neg (by omega)]
      rw [hq, tRun, if_pos hnx]
  · have hbp : bA bt n m = -1 := if_neg h
    rw [hbp]
    refine ⟨fun e => absurd e (by decide), fun _ => ?_⟩
    rw [show n - m = 0 by omega, tRun, if_neg (by omega)]
theorem lt_m {G : GH} {ad : Nat → Nat} (hi : injK ad KM) {n : Nat} (hn : n ≤ 100) {bt : Nat → Int} (hb : ∀ j, j < n → 0 ≤ bt j ∧ bt j ≤ 127) {kd : Int} {m : Nat} (hk : (kd = 0 ∧ bt m = 102) ∨ (kd = 1 ∧ bt m = 98)) (REC : MM Int32) {z : Nat → Int} {c : Nat → Nat → Int} {t : TT} (hm : m < n) (h15 : z 15 = m) (h14 : z 14 = t.2.2.2.1) (h5 : z 5 = n) (hc : ∀ j, j < n → c 5 j = bt j) (hcn : 2 * t.2.2.2.1 ≤ m) (hag : AG c t) :
    ∃ (z1 : Nat → Int) (c1 : Nat → Nat → Int), KQ z c z1 c1 ∧ ((∃ q : Nat, (pLt (ad 0) (iI kd) REC).1 (MO G ad z c) = some (iI (q : Int), MO G ad z1 c1) ∧ (tRun bt (n - m) m 0 t).1 = q)
      ∨ ∃ (p1 : Nat) (t1 : TT), m < p1 ∧ p1 ≤ n ∧ (pLt (ad 0) (iI kd) REC).1 (MO G ad z c) = REC.1 (MO G ad z1 c1) ∧ z1 15 = (p1 : Nat) ∧ z1 14 = ((t1 : TT).2.2.2.1 : Nat) ∧ 2 * t1.2.2.2.1 ≤ p1 ∧ AG c1 t1 ∧ tRun bt (n - m) m 0 t = tRun bt (n - p1) p1 0 t1) := by
  obtain ⟨kd0, ng0, nm0, cnt, ks, vs⟩ := t
  dsimp only at h14 hcn
  have hcc : ∀ j, j < n → (va_up c 13 (va_up (c 13) cnt kd)) 5 j = bt j := fun j hj => by rw [up_ne _ _ (show 5 ≠ 13 by decide)]; exact hc j hj
  obtain ⟨l', p', v', bl, g1, g2, g3, g4, g5, g6, g7⟩ := rv_m (G := G) hi hn hb (z := va_up z 15 ((m + 1 : Nat) : Int)) (c := va_up c 13 (va_up (c 13) cnt kd)) hcc (cnt := cnt) (p := m + 1) ((up_ne _ _ (by decide)).trans h14) (by omega) (up_self _ _ _) ((up_ne _ _ (by decide)).trans h5) (by omega) kd ks vs
  rw [up_idem] at g5
  have hst : tRun bt (n - m) m 0 (kd0, ng0, nm0, cnt, ks, vs) = tRun bt (n - (m + 1)) (m + 1) 1 (kd, false, 0, cnt, ks, vs) := by
    obtain ⟨q, hq⟩ : ∃ q, n - m = q + 1 := ⟨n - m - 1, by omega⟩
    have hnx : tNext 0 (kd0, ng0, nm0, cnt, ks, vs) (bt m) = (1, kd, false, 0, cnt, ks, vs) := by
      unfold tNext
      rcases hk with ⟨e1, e2⟩ | ⟨e1, e2⟩
      · rw [if_pos rfl, e2, if_neg (by decide), if_pos rfl, e1]
      · rw [if_pos rfl, e2, if_pos rfl, e1]
    rw [hq, tRun, hnx, if_neg (show ¬ (1 : Int) = -1 by decide), show n - (m + 1) = q by omega]
  unfold pLt
  rw [hst, mo_gr12 hi, mo_gi14 hi, h14, mo_as13 hi _ _ (by omega) (by omega), mo_gi15 hi, h15, show iI (m : Int) + 1 = iI ((m + 1 : Nat) : Int) by rw [lz1, iI_add]; rfl, mo_pt15 hi, mo_ck hi, show ((cnt : Int)).toNat = cnt by omega, mbind_ok g5]
  have hkq : ∀ x14 : Int, ∀ p15 : Int, KQ z c (va_up (va_up z 15 p15) 14 x14) (va_up (va_up c 13 (va_up (c 13) cnt kd)) 14 (va_up (va_up c 13 (va_up (c 13) cnt kd) 14) cnt (if bl = true then -v' else v'))) := fun x14 p15 => ⟨fun j a b => (up_ne _ _ a).trans (up_ne _ _ b), fun j a b => (up_ne _ _ b).trans (up_ne _ _ a)⟩
  have hkq0 : ∀ p15 : Int, KQ z c (va_up z 15 p15) (va_up (va_up c 13 (va_up (c 13) cnt kd)) 14 (va_up (va_up c 13 (va_up (c 13) cnt kd) 14) cnt (if bl = true then -v' else v'))) := fun p15 => ⟨fun j a b => up_ne _ _ b, fun j a b => (up_ne _ _ b).trans (up_ne _ _ a)⟩
  by_cases h0 : 0 < l'
  · have g6' := g6 h0
    rw [decide_eq_true h0, if_neg (show ¬ iI (b2i true) = 0 by decide), mo_gi15 hi, up_self, mo_ck hi]
    have hby := byte_m (G := G) hi hn hb (z := va_up z 15 (p' : Int)) (c := va_up (va_up c 13 (va_up (c 13) cnt kd)) 14 (va_up (va_up c 13 (va_up (c 13) cnt kd) 14) cnt (if bl = true then -v' else v'))) ((up_ne _ _ (by decide)).trans h5) (fun j hj => by rw [up_ne _ _ (show 5 ≠ 14 by decide)]; exact hcc j hj) (p := p') (by omega)
    have hbb := bA_b (ad := ad) hi hn hb p'
    have hsr := semi_run (ad := ad) hi hn hb (m := p') (st := 2 + l') (t := (kd, bl, v', cnt, ks, vs)) (by omega) g2 (by omega)
    rw [mbind_ok hby, g6', show (2 : Int) + (l' : Int) = ((2 + l' : Nat) : Int) by omega]
    by_cases h59 : bA bt n p' = 59
    · obtain ⟨hp', hr⟩ := hsr.1 h59
      refine ⟨_, _, hkq ((cnt + 1 : Nat) : Int) ((p' + 1 : Nat) : Int), Or.inr ⟨p' + 1, tEnd (kd, bl, v', cnt, ks, vs), by omega, by omega, ?_, ?_, ?_, ?_, ?_, hr⟩⟩
      · rw [if_pos (by rw [h59]; rfl), mo_gi15 hi, up_self, show iI (p' : Int) + 1 = iI ((p' + 1 : Nat) : Int) by rw [lz1, iI_add]; rfl, mo_pt15 hi, mo_gi14 hi, up_idem, up_ne _ _ (show 14 ≠ 15 by decide), h14, show iI (cnt : Int) + 1 = iI ((cnt + 1 : Nat) : Int) by rw [lz1, iI_add]; rfl, mo_pt14 hi]
      · rw [up_ne _ _ (show 15 ≠ 14 by decide), up_self]
      · rw [up_self]
        rfl
      · show 2 * (cnt + 1) ≤ p' + 1
        omega
      · intro j hj
        have hj' : j < cnt + 1 := hj
        show (va_up (va_up c 13 (va_up (c 13) cnt kd)) 14 (va_up (va_up c 13 (va_up (c 13) cnt kd) 14) cnt (if bl = true then -v' else v'))) 13 j = va_up ks cnt kd j ∧ (va_up ks cnt kd j < 2 → (va_up (va_up c 13 (va_up (c 13) cnt kd)) 14 (va_up (va_up c 13 (va_up (c 13) cnt kd) 14) cnt (if bl = true then -v' else v'))) 14 j = va_up vs cnt (if bl = true then -v' else v') j)
        rw [up_ne _ _ (show 13 ≠ 14 by decide), up_self, up_self, up_ne _ _ (show 14 ≠ 13 by decide)]
        by_cases e : j = cnt
        · rw [e, up_self, up_self, up_self, up_self]
          exact ⟨rfl, fun _ => rfl⟩
        · rw [up_ne _ _ e, up_ne _ _ e, up_ne _ _ e, up_ne _ _ e]
          exact hag j (by show j < cnt; omega)
    · refine ⟨_, _, hkq0 (p' : Int), Or.inl ⟨p', ?_, hsr.2 h59⟩⟩
      · rw [if_neg (by rw [show (59 : Int32) = iI 59 from rfl, iI_eq (by omega) (by omega) (by omega) (by omega)]; exact h59), mo_gi15 hi, up_self]
        rfl
  · refine ⟨_, _, hkq0 (p' : Int), Or.inl ⟨p', ?_, g7 (by omega)⟩⟩
    · rw [decide_eq_false h0, if_pos (show iI (b2i false) = 0 from rfl), mo_gi15 hi, up_self]
      rfl
theorem pt_m {G : GH} {ad : Nat → Nat} (hi : injK ad KM) {n : Nat} (hn : n ≤ 100) {bt : Nat → Int} (hb : ∀ j, j < n → 0 ≤ bt j ∧ bt j ≤ 127) {kd : Int} {m : Nat} (hk : (kd = 2 ∧ bt m = 120) ∨ (kd = 3 ∧ bt m = 121)) (REC : MM Int32) {z : Nat → Int} {c : Nat → Nat → Int} {t : TT} (hm : m < n) (h15 : z 15 = m) (h14 : z 14 = t.2.2.2.1) (h5 : z 5 = n) (hc : ∀ j, j < n → c 5 j = bt j) (hcn : 2 * t.2.2.2.1 ≤ m) (hag : AG c t) :
    ∃ (z1 : Nat → Int) (c1 : Nat → Nat → Int), KQ z c z1 c1 ∧ ((∃ q : Nat, (pPt (ad 0) (iI kd) REC).1 (MO G ad z c) = some (iI (q : Int), MO G ad z1 c1) ∧ (tRun bt (n - m) m 0 t).1 = q)
      ∨ ∃ (p1 : Nat) (t1 : TT), m < p1 ∧ p1 ≤ n ∧ (pPt (ad 0) (iI kd) REC).1 (MO G ad z c) = REC.1 (MO G ad z1 c1) ∧ z1 15 = (p1 : Nat) ∧ z1 14 = ((t1 : TT).2.2.2.1 : Nat) ∧ 2 * t1.2.2.2.1 ≤ p1 ∧ AG c1 t1 ∧ tRun bt (n - m) m 0 t = tRun bt (n - p1) p1 0 t1) := by
  obtain ⟨kd0, ng0, nm0, cnt, ks, vs⟩ := t
  dsimp only at h14 hcn
  have hcc : ∀ j, j < n → (va_up c 13 (va_up (c 13) cnt kd)) 5 j = bt j := fun j hj => by rw [up_ne _ _ (show 5 ≠ 13 by decide)]; exact hc j hj
  have hst : tRun bt (n - m) m 0 (kd0, ng0, nm0, cnt, ks, vs) = tRun bt (n - (m + 1)) (m + 1) ((5 : Nat) : Int) (kd, false, 0, cnt, ks, vs) := by
    obtain ⟨q, hq⟩ : ∃ q, n - m = q + 1 := ⟨n - m - 1, by omega⟩
    have hnx : tNext 0 (kd0, ng0, nm0, cnt, ks, vs) (bt m) = (5, kd, false, 0, cnt, ks, vs) := by
      unfold tNext
      rcases hk with ⟨e1, e2⟩ | ⟨e1, e2⟩
      · rw [if_pos rfl, e2, if_neg (by decide), if_neg (by decide), if_pos rfl, e1]
      · rw [if_pos rfl, e2, if_neg (by decide), if_neg (by decide), if_neg (by decide), if_pos rfl, e1]
    rw [hq, tRun, hnx, if_neg (show ¬ (5 : Int) = -1 by decide), show n - (m + 1) = q by omega]
    rfl
  have hby := byte_m (G := G) hi hn hb (z := va_up z 15 ((m + 1 : Nat) : Int)) (c := va_up c 13 (va_up (c 13) cnt kd)) ((up_ne _ _ (by decide)).trans h5) hcc (p := m + 1) (by omega)
  have hbb := bA_b (ad := ad) hi hn hb (m + 1)
  have hsr := semi_run (ad := ad) hi hn hb (m := m + 1) (st := 5) (t := (kd, false, 0, cnt, ks, vs)) (by omega) (by omega) (Or.inl rfl)
  unfold pPt
  rw [hst, mo_gr12 hi, mo_gi14 hi, h14, mo_as13 hi _ _ (by omega) (by omega), mo_gi15 hi, h15, show iI (m : Int) + 1 = iI ((m + 1 : Nat) : Int) by rw [lz1, iI_add]; rfl, mo_pt15 hi, mo_gi15 hi, up_self, mo_ck hi, show ((cnt : Int)).toNat = cnt by omega, mbind_ok hby]
  by_cases h59 : bA bt n (m + 1) = 59
  · obtain ⟨hp', hr⟩ := hsr.1 h59
    refine ⟨va_up (va_up z 15 ((m + 1 + 1 : Nat) : Int)) 14 ((cnt + 1 : Nat) : Int), va_up c 13 (va_up (c 13) cnt kd), ⟨fun j a b => (up_ne _ _ a).trans (up_ne _ _ b), fun j a b => up_ne _ _ a⟩, Or.inr ⟨m + 1 + 1, tEnd (kd, false, 0, cnt, ks, vs), by omega, by omega, ?_, ?_, ?_, ?_, ?_, hr⟩⟩
    · rw [if_pos (by rw [h59]; rfl), mo_gi15 hi, up_self, show iI ((m + 1 : Nat) : Int) + 1 = iI ((m + 1 + 1 : Nat) : Int) by rw [lz1, iI_add]; rfl, mo_pt15 hi, mo_gi14 hi, up_idem, up_ne _ _ (show 14 ≠ 15 by decide), h14, show iI (cnt : Int) + 1 = iI ((cnt + 1 : Nat) : Int) by rw [lz1, iI_add]; rfl, mo_pt14 hi]
    · rw [up_ne _ _ (show 15 ≠ 14 by decide), up_self]
    · rw [up_self]
      rfl
    · show 2 * (cnt + 1) ≤ m + 1 + 1
      omega
    · intro j hj
      have hj' : j < cnt + 1 := hj
      show va_up c 13 _ 13 j = va_up ks cnt kd j ∧ (va_up ks cnt kd j < 2 → va_up c 13 _ 14 j = va_up vs cnt (if false = true then -0 else 0) j)
      rw [up_self, up_ne _ _ (show 14 ≠ 13 by decide)]
      by_cases e : j = cnt
      · rw [e, up_self, up_self]
        exact ⟨rfl, fun hh => absurd hh (by omega)⟩
      · rw [up_ne _ _ e, up_ne _ _ e, up_ne _ _ e]
        exact hag j (by show j < cnt; omega)
  · refine ⟨va_up z 15 ((m + 1 : Nat) : Int), va_up c 13 (va_up (c 13) cnt kd), ⟨fun j a b => up_ne _ _ b, fun j a b => up_ne _ _ a⟩, Or.inl ⟨m + 1, ?_, hsr.2 h59⟩⟩
    rw [if_neg (by rw [show (59 : Int32) = iI 59 from rfl, iI_eq (by omega) (by omega) (by omega) (by omega)]; exact h59), mo_gi15 hi, up_self]
    rfl
theorem fo_loop {G : GH} {ad : Nat → Nat} (hi : injK ad KM) {n : Nat} (hn : n ≤ 100) {bt : Nat → Int} (hb : ∀ j, j < n → 0 ≤ bt j ∧ bt j ≤ 127) : ∀ (fu d m : Nat) (z : Nat → Int) (c : Nat → Nat → Int) (t : TT), m + d = n → d < fu → z 15 = (m : Nat) → z 14 = (t.2.2.2.1 : Nat) → z 5 = n → (∀ j, j < n → c 5 j = bt j) → 2 * t.2.2.2.1 ≤ m → AG c t →
    ∃ z' c', (f_X5_faultOf_10 fu (ad 0)).1 (MO G ad z c) = some (iI (tRun bt d m 0 t).1, MO G ad z' c') ∧ KQ z c z' c' ∧ ((tRun bt d m 0 t).1 = -1 → z' 14 = ((tRun bt d m 0 t).2.2.2.2.1 : Nat) ∧ AG c' (tRun bt d m 0 t).2)
  | 0, _, _, _, _, _, _, h, _, _, _, _, _, _ => absurd h (by omega)
  | fu + 1, d, m, z, c, t, e, hf, h15, h14, h5, hc, hcn, hag => by
    rw [f_X5_faultOf_10, mo_gi15 hi, mo_gi5 hi, h15, h5]
    by_cases hm : m < n
    · have hbm := hb m hm
      obtain ⟨d', hd'⟩ : ∃ d', d = d' + 1 := ⟨d - 1, by omega⟩
      have hdn : d = n - m := by omega
      rw [if_neg (by rw [iI_le (by omega) (by omega) (by omega) (by omega)]; omega), mo_gr4 hi, mo_gi15 hi, h15, mo_al5 hi _ _ (by omega) (by omega), show ((m : Int)).toNat = m by omega, hc m hm, hdn]
      have fin : ∀ {P : MM Int32}, (∃ (z1 : Nat → Int) (c1 : Nat → Nat → Int), KQ z c z1 c1 ∧ ((∃ q : Nat, P.1 (MO G ad z c) = some (iI (q : Int), MO G ad z1 c1) ∧ (tRun bt (n - m) m 0 t).1 = q) ∨ ∃ (p1 : Nat) (t1 : TT), m < p1 ∧ p1 ≤ n ∧ P.1 (MO G ad z c) = (f_X5_faultOf_10 fu (ad 0)).1 (MO G ad z1 c1) ∧ z1 15 = (p1 : Nat) ∧ z1 14 = ((t1 : TT).2.2.2.1 : Nat) ∧ 2 * t1.2.2.2.1 ≤ p1 ∧ AG c1 t1 ∧ tRun bt (n - m) m 0 t = tRun bt (n - p1) p1 0 t1)) →
          ∃ z' c', P.1 (MO G ad z c) = some (iI (tRun bt (n - m) m 0 t).1, MO G ad z' c') ∧ KQ z c z' c' ∧ ((tRun bt (n - m) m 0 t).1 = -1 → z' 14 = ((tRun bt (n - m) m 0 t).2.2.2.2.1 : Nat) ∧ AG c' (tRun bt (n - m) m 0 t).2) := by
        intro P ⟨z1, c1, k1, hh⟩
        rcases hh with ⟨q, e1, e2⟩ | ⟨p1, t1, a1, a2, a3, a4, a5, a6, a7, a8⟩
        · exact ⟨z1, c1, by rw [e1, e2], k1, fun hx => by rw [e2] at hx; omega⟩
        · obtain ⟨z2, c2, b1, b2, b3⟩ := fo_loop hi hn hb fu (n - p1) p1 z1 c1 t1 (by omega) (by omega) a4 a5 ((k1.1 5 (by decide) (by decide)).trans h5) (fun j hj => by rw [k1.2 5 (by decide) (by decide)]; exact hc j hj) a6 a7
          rw [a3, a8]
          exact ⟨z2, c2, b1, k1.tr b2, b3⟩
      by_cases e1 : bt m = 102
      · rw [if_pos (by rw [e1]; rfl)]
        exact fin (lt_m hi hn hb (kd := 0) (Or.inl ⟨rfl, e1⟩) (f_X5_faultOf_10 fu (ad 0)) hm h15 h14 h5 hc hcn hag)
      · rw [if_neg (by rw [show (102 : Int32) = iI 102 from rfl, iI_eq (by omega) (by omega) (by omega) (by omega)]; exact e1)]
        by_cases e2 : bt m = 98
        · rw [if_pos (by rw [e2]; rfl)]
          exact fin (lt_m hi hn hb (kd := 1) (Or.inr ⟨rfl, e2⟩) (f_X5_faultOf_10 fu (ad 0)) hm h15 h14 h5 hc hcn hag)
        · rw [if_neg (by rw [show (98 : Int32) = iI 98 from rfl, iI_eq (by omega) (by omega) (by omega) (by omega)]; exact e2)]
          by_cases e3 : bt m = 120
          · rw [if_pos (by rw [e3]; rfl)]
            exact fin (pt_m hi hn hb (kd := 2) (Or.inl ⟨rfl, e3⟩) (f_X5_faultOf_10 fu (ad 0)) hm h15 h14 h5 hc hcn hag)
          · rw [if_neg (by rw [show (120 : Int32) = iI 120 from rfl, iI_eq (by omega) (by omega) (by omega) (by omega)]; exact e3)]
            by_cases e4 : bt m = 121
            · rw [if_pos (by rw [e4]; rfl)]
              exact fin (pt_m hi hn hb (kd := 3) (Or.inr ⟨rfl, e4⟩) (f_X5_faultOf_10 fu (ad 0)) hm h15 h14 h5 hc hcn hag)
            · rw [if_neg (by rw [show (121 : Int32) = iI 121 from rfl, iI_eq (by omega) (by omega) (by omega) (by omega)]; exact e4), mo_gi15 hi, h15]
              refine ⟨z, c, ?_, KQ.rf z c, fun hx => ?_⟩
              · rw [show n - m = d' + 1 by omega, tRun, show tNext 0 t (bt m) = (-1, t.1, false, 0, t.2.2.2) by unfold tNext; rw [if_pos rfl, if_neg e2, if_neg e1, if_neg e3, if_neg e4], if_pos rfl]
                rfl
              · rw [show n - m = d' + 1 by omega, tRun, show tNext 0 t (bt m) = (-1, t.1, false, 0, t.2.2.2) by unfold tNext; rw [if_pos rfl, if_neg e2, if_neg e1, if_neg e3, if_neg e4], if_pos rfl] at hx
                have hx' : (m : Int) = -1 := hx
                omega
    · rw [if_pos (by rw [iI_le (by omega) (by omega) (by omega) (by omega)]; omega), show d = 0 by omega, tRun, if_pos rfl]
      exact ⟨z, c, rfl, KQ.rf z c, fun _ => ⟨h14, hag⟩⟩
/-- the fault of a world's text, and what is read of it -/
def tt0 : TT := (0, false, 0, 0, fun _ => 0, fun _ => 0)
def wT (w : WW) : Int × TT := tRun w.2.2.2.2 w.2.2.2.1 0 0 tt0
theorem r_fault {G : GH} {ad : Nat → Nat} (hi : injK ad KM) {w : WW} (hw : WI w) {z : Nat → Int} {c : Nat → Nat → Int} (h : RefR z c w) : ∃ z' c', (f_X5_faultOf (ad 0)).1 (MO G ad z c) = some (iI (wT w).1, MO G ad z' c') ∧ KQ z c z' c' ∧ RefR z' c' w ∧ ((wT w).1 = -1 → z' 14 = ((wT w).2.2.2.2.1 : Nat) ∧ AG c' (wT w).2) := by
  obtain ⟨z', c', e1, e2, e3⟩ := fo_loop (G := G) hi hw.2.2.2.1 hw.2.2.2.2 FU w.2.2.2.1 0 (va_up (va_up z 15 0) 14 0) c tt0 (by omega) (by have := hw.2.2.2.1; unfold FU; omega) ((up_ne _ _ (by decide)).trans (up_self _ _ _)) (up_self _ _ _) ((up_ne _ _ (by decide)).trans ((up_ne _ _ (by decide)).trans h.2.2.2.1)) h.2.2.2.2 (by decide) (fun j hj => absurd hj (by show ¬ j < 0; omega))
  have k : KQ z c z' c' := (show KQ z c (va_up (va_up z 15 0) 14 0) c from ⟨fun j a b => (up_ne _ _ a).trans (up_ne _ _ b), fun _ _ _ => rfl⟩).tr e2
  refine ⟨z', c', ?_, k, ?_, e3⟩
  · unfold f_X5_faultOf
    rw [show (Value.int 0) = Value.int (iI 0) from rfl, mo_pt15 hi, mo_pt14 hi]
    exact e1
  · obtain ⟨h1, h2, h3, h4, h5⟩ := h
    exact ⟨h1.eq (k.2 1 (by decide) (by decide)), h2.eq (k.2 2 (by decide) (by decide)), (k.1 2 (by decide) (by decide)).trans h3, (k.1 5 (by decide) (by decide)).trans h4, fun j hj => by rw [k.2 5 (by decide) (by decide)]; exact h5 j hj⟩
