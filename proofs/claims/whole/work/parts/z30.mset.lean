/-! PURE PART 30: the world saves its state; set, drop, clear, undo of the reference -/
def nSv (n : Nat) : Nat := if n < 4 then n + 1 else 4
def sSv (sv : Nat → SS) (n : Nat) (s : SS) : Nat → SS := if n < 4 then va_up sv n s else va_up (fun i => sv (i + 1)) 3 s
/-- the state is saved, and another one stands now -/
def wSave (w : WW) (s : SS) : WW := (s, sSv w.2.1 w.2.2.1 w.1, nSv w.2.2.1, w.2.2.2)
theorem wi_save {w : WW} (hw : WI w) {s : SS} (hs : SI s) : WI (wSave w s) := by
  obtain ⟨h1, h2, h3, h4⟩ := hw
  refine ⟨hs, ?_, ?_, h4⟩
  · intro i hi
    have hi' : i < nSv w.2.2.1 := hi
    show SI (sSv w.2.1 w.2.2.1 w.1 i)
    unfold nSv at hi'
    unfold sSv
    by_cases h : w.2.2.1 < 4
    · rw [if_pos h] at hi' ⊢
      by_cases e : i = w.2.2.1
      · rw [e, up_self]
        exact h1
      · rw [up_ne _ _ e]
        exact h2 i (by omega)
    · rw [if_neg h] at hi' ⊢
      by_cases e : i = 3
      · rw [e, up_self]
        exact h1
      · rw [up_ne _ _ e]
        exact h2 (i + 1) (by omega)
  · show nSv w.2.2.1 ≤ 4
    unfold nSv
    split <;> omega
def okS (k x : Int) : Bool := decide ((k = 0 ∧ 1 ≤ x ∧ x ≤ 9) ∨ (k = 1 ∧ 2 ≤ x ∧ x ≤ 5))
def sSet (s : SS) (k x : Int) : SS := if k = 0 then (x, s.2.1, s.2.2) else (s.1, x, s.2.2)
def sHeld (s : SS) (n : Nat) : SS := (s.1, s.2.1, n, s.2.2.2)
theorem si_set {s : SS} (hs : SI s) {k x : Int} (h : okS k x = true) : SI (sSet s k x) := by
  have h' := of_decide_eq_true h
  obtain ⟨h1, h2, h3, h4⟩ := hs
  unfold sSet
  by_cases e : k = 0
  · rw [if_pos e]
    exact ⟨by show 1 ≤ x ∧ x ≤ 9; omega, h2, h3, h4⟩
  · rw [if_neg e]
    exact ⟨h1, by show 2 ≤ x ∧ x ≤ 5; omega, h3, h4⟩
theorem si_held {s : SS} (hs : SI s) {n : Nat} (h1 : 1 ≤ n) (h2 : n ≤ s.2.2.1) : SI (sHeld s n) := by
  obtain ⟨k1, k2, k3, k4⟩ := hs
  exact ⟨k1, k2, ⟨h1, Nat.le_trans h2 k3.2⟩, fun i hi => k4 i (Nat.lt_of_lt_of_le hi h2)⟩
theorem nowR_set {c : Nat → Nat → Int} {s : SS} (hc : NowR c s) {k x : Int} (hk : k = 0 ∨ k = 1) : NowR (va_up c 1 (va_up (c 1) k.toNat x)) (sSet s k x) := by
  obtain ⟨h0, h1, h2, h3⟩ := hc
  rcases hk with e | e
  · subst e
    refine ⟨?_, ?_, ?_, ?_⟩
    · rw [up_self]
      exact up_self _ _ _
    · rw [up_self]
      exact (up_ne _ _ (by decide)).trans h1
    · rw [up_self]
      exact (up_ne _ _ (by decide)).trans h2
    · intro i hi k hk
      rw [up_self, up_ne _ _ (by show _ ≠ 0; omega)]
      exact h3 i hi k hk
  · subst e
    refine ⟨?_, ?_, ?_, ?_⟩
    · rw [up_self]
      exact (up_ne _ _ (by decide)).trans h0
    · rw [up_self]
      exact up_self _ _ _
    · rw [up_self]
      exact (up_ne _ _ (by decide)).trans h2
    · intro i hi k hk
      rw [up_self, up_ne _ _ (by show _ ≠ 1; omega)]
      exact h3 i hi k hk
theorem nowR_held {c : Nat → Nat → Int} {s : SS} (hc : NowR c s) {n : Nat} (h : n ≤ s.2.2.1) : NowR (va_up c 1 (va_up (c 1) 2 n)) (sHeld s n) := by
  obtain ⟨h0, h1, h2, h3⟩ := hc
  refine ⟨?_, ?_, ?_, ?_⟩
  · rw [up_self]
    exact (up_ne _ _ (by decide)).trans h0
  · rw [up_self]
    exact (up_ne _ _ (by decide)).trans h1
  · rw [up_self]
    exact up_self _ _ _
  · intro i hi k hk
    rw [up_self, up_ne _ _ (by omega)]
    exact h3 i (Nat.lt_of_lt_of_le hi h) k hk
theorem refR_mk {z : Nat → Int} {c : Nat → Nat → Int} {w : WW} {s' : SS} (hn : NowR c s') (hp : PastR c (sSv w.2.1 w.2.2.1 w.1) (nSv w.2.2.1)) (h2 : z 2 = nSv w.2.2.1) (h5 : z 5 = w.2.2.2.1) (ht : ∀ j, j < w.2.2.2.1 → c 5 j = w.2.2.2.2 j) : RefR z c (wSave w s') := ⟨hn, hp, h2, h5, ht⟩
theorem PastR.eq {c c' : Nat → Nat → Int} {sv : Nat → SS} {n : Nat} (h : PastR c sv n) (e : c' 2 = c 2) : PastR c' sv n := by
  unfold PastR at h ⊢
  rw [e]
  exact h
theorem r_sv {G : GH} {ad : Nat → Nat} (hi : injK ad KM) {w : WW} (hw : WI w) {z : Nat → Int} {c : Nat → Nat → Int} (h : RefR z c w) : ∃ c', (f_X5_saves (ad 0)).1 (MO G ad z c) = some ((), MO G ad (va_up z 2 (nSv w.2.2.1)) c') ∧ (∀ j, j ≠ 2 → c' j = c j) ∧ PastR c' (sSv w.2.1 w.2.2.1 w.1) (nSv w.2.2.1) := by
  obtain ⟨h1, h2, h3, h4, h5⟩ := h
  obtain ⟨w1, w2, w3, w4⟩ := hw
  by_cases h : w.2.2.1 < 4
  · refine ⟨svC c w.2.2.1, ?_, fun j hj => up_ne _ _ hj, ?_⟩
    · rw [svs_lt hi h3 h]
      unfold nSv
      rw [if_pos h]
      rfl
    · unfold nSv sSv
      rw [if_pos h, if_pos h]
      exact (past_sv h2 w1 w2 h1).1
  · have e4 : w.2.2.1 = 4 := by omega
    rw [e4] at h2 h3 w2
    refine ⟨svC (shC c) 3, ?_, fun j hj => (up_ne _ _ hj).trans (up_ne _ _ hj), ?_⟩
    · rw [svs_4 hi h3]
      unfold nSv
      rw [if_neg h]
      rfl
    · unfold nSv sSv
      rw [if_neg h, if_neg h]
      have p := past_sh h2 w2 h1
      exact (past_sv p.1 w1 (fun i hi => w2 (i + 1) (by omega)) p.2).1
theorem r_set {G : GH} {ad : Nat → Nat} (hi : injK ad KM) {w : WW} (hw : WI w) {z : Nat → Int} {c : Nat → Nat → Int} (h : RefR z c w) {k x : Int} (hk : irg k) (hx : irg x) : ∃ z' c', (f_X5_set (ad 0) (iI k) (iI x)).1 (MO G ad z c) = some (iI (if okS k x = true then (if k = 0 then w.1.1 else w.1.2.1) else 0), MO G ad z' c') ∧ z' 6 = (if okS k x = true then 0 else 1) ∧ RefR z' c' (if okS k x = true then wSave w (sSet w.1 k x) else w) := by
  have hno : ∀ q : Int32, (f_X5_set_36 (ad 0) (iI k) q (ad 0)).1 (MO G ad z c) = some (iI 0, MO G ad (va_up z 6 1) c) := by
    intro q
    unfold f_X5_set_36 f_X5_set_41
    rw [show (Value.int 1) = Value.int (iI 1) from rfl, mo_pt6 hi, mo_gi6 hi, up_self, if_neg (show ¬ iI 1 = 0 by decide)]
    rfl
  obtain ⟨c1, s1, s2, s3⟩ := r_sv (G := G) hi hw (h.z6 0)
  have hc1 : NowR c1 w.1 := h.1.eq (s2 1 (by decide))
  have hyes : okS k x = true → (f_X5_set_41 (ad 0) (iI k) (iI x) 0 (ad 0)).1 (MO G ad z c) = some (iI (if k = 0 then w.1.1 else w.1.2.1), MO G ad (va_up (va_up z 6 0) 2 (nSv w.2.2.1)) (va_up c1 1 (va_up (c1 1) k.toNat x))) := by
    intro ho
    have ho' := of_decide_eq_true ho
    unfold f_X5_set_41
    rw [show (Value.int 0) = Value.int (iI 0) from rfl, mo_pt6 hi, mo_gi6 hi, up_self, if_pos (show iI 0 = 0 from rfl), mo_ck hi, mbind_ok s1, mo_gr0 hi, mo_al1 hi _ _ (by omega) (by omega), mo_gr0 hi, mo_as1 hi _ _ (by omega) (by omega)]
    have e : c1 1 k.toNat = if k = 0 then w.1.1 else w.1.2.1 := by
      by_cases h0 : k = 0
      · subst h0
        rw [if_pos rfl]
        exact hc1.1
      · have : k = 1 := by omega
        subst this
        rw [if_neg h0]
        exact hc1.2.1
    rw [e]
    rfl
  have hyR : okS k x = true → RefR (va_up (va_up z 6 0) 2 (nSv w.2.2.1)) (va_up c1 1 (va_up (c1 1) k.toNat x)) (wSave w (sSet w.1 k x)) := by
    intro ho
    have ho' := of_decide_eq_true ho
    refine refR_mk (nowR_set hc1 (by omega)) (s3.eq (up_ne _ _ (by decide))) (up_self _ _ _) (((up_ne _ _ (by decide)).trans (up_ne _ _ (by decide))).trans h.2.2.2.1) (fun j hj => ?_)
    rw [up_ne _ _ (show 5 ≠ 1 by decide), s2 5 (by decide)]
    exact h.2.2.2.2 j hj
  have hk' := hk
  have hx' := hx
  unfold irg at hk' hx'
  have hin1 := in_run (MO G ad z c) (a := k) (l := 0) (h := 1) hk (by decide) (by decide)
  unfold f_X5_set
  rw [show f_X5_in (iI k) 0 1 = f_X5_in (iI k) (iI 0) (iI 1) from rfl, mbind_ok hin1]
  by_cases h1 : 0 ≤ k ∧ k ≤ 1
  · rw [decide_eq_true h1, if_neg (show ¬ iI (b2i true) = 0 by decide)]
    by_cases h0 : k = 0
    · have hin2 := in_run (MO G ad z c) (a := x) (l := 1) (h := 9) hx (by decide) (by decide)
      rw [if_pos (show iI k = 0 by rw [h0]; rfl)]
      unfold f_X5_set_20
      rw [if_pos (show iI k = 0 by rw [h0]; rfl)]
      unfold f_X5_set_30
      rw [show f_X5_in (iI x) 1 9 = f_X5_in (iI x) (iI 1) (iI 9) from rfl, mbind_ok hin2]
      by_cases h2 : 1 ≤ x ∧ x ≤ 9
      · have ho : okS k x = true := decide_eq_true (by omega)
        rw [decide_eq_true h2, if_neg (show ¬ iI (b2i true) = 0 by decide), ho, if_pos rfl, if_pos rfl, if_pos rfl]
        exact ⟨_, _, hyes ho, (up_ne _ _ (by decide)).trans (up_self _ _ _), hyR ho⟩
      · have ho : okS k x = false := decide_eq_false (by omega)
        rw [decide_eq_false h2, if_pos (show iI (b2i false) = 0 from rfl), ho]
        exact ⟨_, _, hno _, up_self _ _ _, h.z6 1⟩
    · have hin2 := in_run (MO G ad z c) (a := x) (l := 2) (h := 5) hx (by decide) (by decide)
      have hn0 : ¬ iI k = 0 := by rw [lz0, iI_eq (by omega) (by omega) (by omega) (by omega)]; exact h0
      rw [if_neg hn0]
      unfold f_X5_set_20
      rw [if_neg hn0]
      unfold f_X5_set_30
      rw [show f_X5_in (iI x) 2 5 = f_X5_in (iI x) (iI 2) (iI 5) from rfl, mbind_ok hin2]
      by_cases h2 : 2 ≤ x ∧ x ≤ 5
      · have ho : okS k x = true := decide_eq_true (by omega)
        rw [decide_eq_true h2, if_neg (show ¬ iI (b2i true) = 0 by decide), ho, if_pos rfl, if_pos rfl, if_pos rfl]
        exact ⟨_, _, hyes ho, (up_ne _ _ (by decide)).trans (up_self _ _ _), hyR ho⟩
      · have ho : okS k x = false := decide_eq_false (by omega)
        rw [decide_eq_false h2, if_pos (show iI (b2i false) = 0 from rfl), ho]
        exact ⟨_, _, hno _, up_self _ _ _, h.z6 1⟩
  · have ho : okS k x = false := decide_eq_false (by omega)
    rw [decide_eq_false h1, if_pos (show iI (b2i false) = 0 from rfl), ho]
    exact ⟨_, _, hno _, up_self _ _ _, h.z6 1⟩
theorem r_drop {G : GH} {ad : Nat → Nat} (hi : injK ad KM) {w : WW} (hw : WI w) {z : Nat → Int} {c : Nat → Nat → Int} (h : RefR z c w) : ∃ z' c', (f_X5_drop (ad 0)).1 (MO G ad z c) = some (iI (if 1 < w.1.2.2.1 then (w.1.2.2.1 : Int) - 1 else 0), MO G ad z' c') ∧ z' 6 = (if 1 < w.1.2.2.1 then 0 else 1) ∧ RefR z' c' (if 1 < w.1.2.2.1 then wSave w (sHeld w.1 (w.1.2.2.1 - 1)) else w) := by
  have h100 := hw.1.2.2.1
  unfold f_X5_drop
  rw [mo_gr0 hi, held_m hi hw.1 z h.1]
  by_cases h1 : 1 < w.1.2.2.1
  · obtain ⟨c1, s1, s2, s3⟩ := r_sv (G := G) hi hw (h.z6 0)
    have hc1 : NowR c1 w.1 := h.1.eq (s2 1 (by decide))
    rw [if_neg (by rw [lz1, iI_eq (by omega) (by omega) (by omega) (by omega)]; omega), if_pos h1, if_pos h1, if_pos h1]
    refine ⟨va_up (va_up z 6 0) 2 (nSv w.2.2.1), va_up c1 1 (va_up (c1 1) 2 ((w.1.2.2.1 - 1 : Nat) : Int)), ?_, (up_ne _ _ (by decide)).trans (up_self _ _ _), refR_mk (nowR_held hc1 (by omega)) (s3.eq (up_ne _ _ (by decide))) (up_self _ _ _) (((up_ne _ _ (by decide)).trans (up_ne _ _ (by decide))).trans h.2.2.2.1) (fun j hj => ?_)⟩
    · unfold f_X5_drop_16
      rw [show (Value.int 0) = Value.int (iI 0) from rfl, mo_pt6 hi, mo_gi6 hi, up_self, if_pos (show iI 0 = 0 from rfl), mo_ck hi, mbind_ok s1, mo_gr0 hi, held_m hi hw.1 _ hc1, lz1, iI_sub, show (2 : Int32) = iI 2 from rfl, mo_as1 hi _ _ (by omega) (by omega), mo_gr0 hi, mo_al1 hi _ _ (by omega) (by omega), up_self]
      show some (iI (va_up (c1 1) 2 _ 2), _) = _
      rw [up_self, show (w.1.2.2.1 : Int) - 1 = ((w.1.2.2.1 - 1 : Nat) : Int) by omega]
      rfl
    · rw [up_ne _ _ (show 5 ≠ 1 by decide), s2 5 (by decide)]
      exact h.2.2.2.2 j hj
  · rw [if_pos (by rw [lz1, iI_eq (by omega) (by omega) (by omega) (by omega)]; omega), if_neg h1, if_neg h1, if_neg h1]
    refine ⟨va_up z 6 1, c, ?_, up_self _ _ _, h.z6 1⟩
    unfold f_X5_drop_16
    rw [show (Value.int 1) = Value.int (iI 1) from rfl, mo_pt6 hi, mo_gi6 hi, up_self, if_neg (show ¬ iI 1 = 0 by decide)]
    rfl
theorem r_clear {G : GH} {ad : Nat → Nat} (hi : injK ad KM) {w : WW} (hw : WI w) {z : Nat → Int} {c : Nat → Nat → Int} (h : RefR z c w) : ∃ z' c', (f_X5_clear (ad 0)).1 (MO G ad z c) = some (iI ((w.1.2.2.1 : Int) - 1), MO G ad z' c') ∧ RefR z' c' (wSave w (sHeld w.1 1)) := by
  have h100 := hw.1.2.2.1
  obtain ⟨c1, s1, s2, s3⟩ := r_sv (G := G) hi hw (h.z6 0)
  have hc1 : NowR c1 w.1 := h.1.eq (s2 1 (by decide))
  refine ⟨va_up (va_up z 6 0) 2 (nSv w.2.2.1), va_up c1 1 (va_up (c1 1) 2 ((1 : Nat) : Int)), ?_, refR_mk (nowR_held hc1 (by omega)) (s3.eq (up_ne _ _ (by decide))) (up_self _ _ _) (((up_ne _ _ (by decide)).trans (up_ne _ _ (by decide))).trans h.2.2.2.1) (fun j hj => ?_)⟩
  · unfold f_X5_clear
    rw [show (Value.int 0) = Value.int (iI 0) from rfl, mo_pt6 hi, mo_ck hi, mbind_ok s1, mo_gr0 hi, held_m hi hw.1 _ hc1, mo_gr0 hi, show (2 : Int32) = iI 2 from rfl, lz1, mo_as1 hi _ _ (by omega) (by omega), iI_sub]
    rfl
  · rw [up_ne _ _ (show 5 ≠ 1 by decide), s2 5 (by decide)]
    exact h.2.2.2.2 j hj
theorem r_undo {G : GH} {ad : Nat → Nat} (hi : injK ad KM) {w : WW} (hw : WI w) {z : Nat → Int} {c : Nat → Nat → Int} (h : RefR z c w) : ∃ z' c', (f_X5_undo (ad 0)).1 (MO G ad z c) = some (iI (if 0 < w.2.2.1 then (w.2.2.1 : Int) - 1 else 0), MO G ad z' c') ∧ z' 6 = (if 0 < w.2.2.1 then 0 else 1) ∧ RefR z' c' (if 0 < w.2.2.1 then (w.2.1 (w.2.2.1 - 1), w.2.1, w.2.2.1 - 1, w.2.2.2) else w) := by
  obtain ⟨h1, h2, h3, h4, h5⟩ := h
  obtain ⟨w1, w2, w3, w4⟩ := hw
  by_cases h : 0 < w.2.2.1
  · obtain ⟨m, hm⟩ : ∃ m, w.2.2.1 = m + 1 := ⟨w.2.2.1 - 1, by omega⟩
    rw [if_pos h, if_pos h, if_pos h, hm]
    rw [hm] at h2 h3 w2
    have p := past_un h2 w2
    refine ⟨va_up (va_up z 6 0) 2 (m : Nat), unC c m, (und_m hi (i := m) (by rw [h3]; omega) (by omega)).trans (by rw [show (((m + 1 : Nat) : Int) - 1) = (m : Int) by omega]), (up_ne _ _ (by decide)).trans (up_self _ _ _), p.2, p.1, up_self _ _ _, ((up_ne _ _ (by decide)).trans (up_ne _ _ (by decide))).trans h4, fun j hj => ?_⟩
    unfold unC
    rw [up_ne _ _ (show 5 ≠ 1 by decide)]
    exact h5 j hj
  · rw [if_neg h, if_neg h, if_neg h]
    have e0 : w.2.2.1 = 0 := by omega
    exact ⟨_, _, und_0 hi (by rw [h3, e0]; rfl), up_self _ _ _, h1, h2, (up_ne _ _ (by decide)).trans h3, (up_ne _ _ (by decide)).trans h4, h5⟩
