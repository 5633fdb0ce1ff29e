/-! PURE PART 31: push and pop of the reference; append, mean -/
def tPush (s : SS) (a x : Int) : Int := if inV s a = true then (if -999 ≤ x ∧ x ≤ 999 then (if sz (s.2.2.2 a.toNat) < 40 ∧ s.2.2.1 < 100 then 0 else 3) else 2) else 1
def tPop (s : SS) (a : Int) : Int := if inV s a = true then (if 0 < sz (s.2.2.2 a.toNat) then (if s.2.2.1 < 100 then 0 else 3) else 2) else 1
def kPush (fr : Bool) : Int := if fr = true then 0 else 1
def kPop (fr : Bool) : Int := if fr = true then 2 else 3
theorem thr_n {G : GH} {ad : Nat → Nat} (hi : injK ad KM) {w : WW} (hw : WI w) {z : Nat → Int} {c : Nat → Nat → Int} (h : RefR z c w) (A : MM Int32) (t : Int) (ht : t = 1 ∨ t = 2 ∨ t = 3) : (mbind (mput (ad 0) 5 6 (.int (iI t))) (fun _ => (mbind (mgi (ad 0) 5 6) (fun x => (if x = 0 then A else (mpure 0)))))).1 (MO G ad z c) = some (iI 0, MO G ad (va_up z 6 t) c) := by
  rw [mo_pt6 hi, mo_gi6 hi, up_self, if_neg (by rcases ht with e | e | e <;> subst e <;> decide)]
  rfl
theorem thr_0 {G : GH} {ad : Nat → Nat} (hi : injK ad KM) {w : WW} (hw : WI w) {z : Nat → Int} {c : Nat → Nat → Int} (h : RefR z c w) (A : MM Int32) : (mbind (mput (ad 0) 5 6 (.int (iI 0))) (fun _ => (mbind (mgi (ad 0) 5 6) (fun x => (if x = 0 then A else (mpure 0)))))).1 (MO G ad z c) = A.1 (MO G ad (va_up z 6 0) c) := by
  rw [mo_pt6 hi, mo_gi6 hi, up_self, if_pos (show iI 0 = 0 from rfl)]
theorem r_push {G : GH} {ad : Nat → Nat} (hi : injK ad KM) {w : WW} (hw : WI w) {z : Nat → Int} {c : Nat → Nat → Int} (h : RefR z c w) {a x : Int} (ha : irg a) (hx : irg x) (fr : Bool) : ∃ z' c', (f_X5_push (ad 0) (iI a) (iI x) (iI (b2i fr))).1 (MO G ad z c) = some (iI (if tPush w.1 a x = 0 then (w.1.2.2.1 : Int) else 0), MO G ad z' c') ∧ z' 6 = tPush w.1 a x ∧ RefR z' c' (if tPush w.1 a x = 0 then wSave w (sGrow w.1 a.toNat (kPush fr) x) else w) := by
  have h100 := hw.1.2.2.1
  have hv := isV_m (G := G) hi hw.1 z h.1 ha
  have hin := in_run (MO G ad z c) (a := x) (l := -999) (h := 999) hx (by decide) (by decide)
  unfold f_X5_push
  rw [mo_ck hi, mbind_ok hv]
  by_cases h1 : inV w.1 a = true
  · have h1' : 0 ≤ a ∧ a < w.1.2.2.1 := of_decide_eq_true h1
    have hav : a.toNat < w.1.2.2.1 := by omega
    have hvb := (hw.1.2.2.2 a.toNat hav).1
    unfold VBn at hvb
    rw [h1, if_neg (show ¬ iI (b2i true) = 0 by decide), show f_X5_in (iI x) (-999) 999 = f_X5_in (iI x) (iI (-999)) (iI 999) from rfl, mbind_ok hin]
    by_cases h2 : -999 ≤ x ∧ x ≤ 999
    · have g1 := of_s (G := G) hi hw.1 (z := z) h.1 hav (show 1 < 10 by decide)
      rw [show iI ((a.toNat : Nat) : Int) = iI a by congr 1; omega, show iI ((1 : Nat) : Int) = 1 from rfl, mc1] at g1
      rw [decide_eq_true h2, if_neg (show ¬ iI (b2i true) = 0 by decide), mo_ck hi, mbind_ok g1]
      have hno : (f_X5_push_52 (ad 0) (iI a) (iI x) (iI (b2i fr)) (ad 0)).1 (MO G ad z c) = some (iI 0, MO G ad (va_up z 6 3) c) := thr_n hi hw h _ 3 (by decide)
      by_cases h3 : sz (w.1.2.2.2 a.toNat) < 40
      · have h3' := h3
        unfold sz at h3'
        rw [if_neg (by rw [lz40, iI_eq (by omega) (by omega) (by omega) (by omega)]; omega), mo_gr0 hi, held_m hi hw.1 z h.1]
        by_cases h4 : w.1.2.2.1 < 100
        · rw [if_neg (by rw [lz100, iI_eq (by omega) (by omega) (by omega) (by omega)]; omega), show tPush w.1 a x = 0 by unfold tPush; rw [if_pos h1, if_pos h2, if_pos ⟨h3, h4⟩], if_pos rfl, if_pos rfl]
          obtain ⟨c1, s1, s2, s3⟩ := r_sv (G := G) hi hw (h.z6 0)
          have hc1 : NowR c1 w.1 := h.1.eq (s2 1 (by decide))
          obtain ⟨c2, p1, p2, p3⟩ := push_run (G := G) hi hw.1 (z := va_up (va_up z 6 0) 2 (nSv w.2.2.1)) hc1 h4 hav fr (x := x) h3
          rw [show iI ((a.toNat : Nat) : Int) = iI a by congr 1; omega] at p1
          refine ⟨_, _, ?_, (up_ne _ _ (by decide)).trans (up_self _ _ _), refR_mk p2 (s3.eq (p3 2 (by decide))) (up_self _ _ _) (((up_ne _ _ (by decide)).trans (up_ne _ _ (by decide))).trans h.2.2.2.1) (fun j hj => ?_)⟩
          · rw [show (Value.int 0) = Value.int (iI 0) from rfl, thr_0 hi hw h, mo_ck hi, mbind_ok s1, mo_ck hi, mbind_ok p1]
            rfl
          · rw [p3 5 (by decide), s2 5 (by decide)]
            exact h.2.2.2.2 j hj
        · rw [if_pos (by rw [lz100, iI_eq (by omega) (by omega) (by omega) (by omega)]; omega), show tPush w.1 a x = 3 by unfold tPush; rw [if_pos h1, if_pos h2, if_neg (fun hh => h4 hh.2)], if_neg (by decide), if_neg (by decide)]
          exact ⟨_, _, hno, up_self _ _ _, h.z6 3⟩
      · have h3' := h3
        unfold sz at h3'
        rw [if_pos (by rw [lz40, iI_eq (by omega) (by omega) (by omega) (by omega)]; omega), show tPush w.1 a x = 3 by unfold tPush; rw [if_pos h1, if_pos h2, if_neg (fun hh => h3 hh.1)], if_neg (by decide), if_neg (by decide)]
        exact ⟨_, _, hno, up_self _ _ _, h.z6 3⟩
    · rw [decide_eq_false h2, if_pos (show iI (b2i false) = 0 from rfl), show tPush w.1 a x = 2 by unfold tPush; rw [if_pos h1, if_neg h2], if_neg (by decide), if_neg (by decide)]
      exact ⟨_, _, thr_n hi hw h _ 2 (by decide), up_self _ _ _, h.z6 2⟩
  · rw [show tPush w.1 a x = 1 by unfold tPush; rw [if_neg h1], if_neg (show ¬ (1 : Int) = 0 by decide), if_neg (show ¬ (1 : Int) = 0 by decide)]
    rw [Bool.not_eq_true] at h1
    rw [h1, if_pos (show iI (b2i false) = 0 from rfl)]
    exact ⟨_, _, thr_n hi hw h _ 1 (by decide), up_self _ _ _, h.z6 1⟩
theorem r_pop {G : GH} {ad : Nat → Nat} (hi : injK ad KM) {w : WW} (hw : WI w) {z : Nat → Int} {c : Nat → Nat → Int} (h : RefR z c w) {a : Int} (ha : irg a) (fr : Bool) : ∃ z' c', (f_X5_pop (ad 0) (iI a) (iI (b2i fr))).1 (MO G ad z c) = some (iI (if tPop w.1 a = 0 then (w.1.2.2.1 : Int) else 0), MO G ad z' c') ∧ z' 6 = tPop w.1 a ∧ RefR z' c' (if tPop w.1 a = 0 then wSave w (sGrow w.1 a.toNat (kPop fr) 0) else w) := by
  have h100 := hw.1.2.2.1
  have hv := isV_m (G := G) hi hw.1 z h.1 ha
  unfold f_X5_pop
  rw [mo_ck hi, mbind_ok hv]
  by_cases h1 : inV w.1 a = true
  · have h1' : 0 ≤ a ∧ a < w.1.2.2.1 := of_decide_eq_true h1
    have hav : a.toNat < w.1.2.2.1 := by omega
    have hvb := (hw.1.2.2.2 a.toNat hav).1
    unfold VBn at hvb
    have g1 := of_s (G := G) hi hw.1 (z := z) h.1 hav (show 1 < 10 by decide)
    rw [show iI ((a.toNat : Nat) : Int) = iI a by congr 1; omega, show iI ((1 : Nat) : Int) = 1 from rfl, mc1] at g1
    rw [h1, if_neg (show ¬ iI (b2i true) = 0 by decide), mo_ck hi, mbind_ok g1]
    by_cases h3 : 0 < sz (w.1.2.2.2 a.toNat)
    · have h3' := h3
      unfold sz at h3'
      rw [if_neg (by rw [lz0, iI_eq (by omega) (by omega) (by omega) (by omega)]; omega), mo_gr0 hi, held_m hi hw.1 z h.1]
      by_cases h4 : w.1.2.2.1 < 100
      · rw [if_neg (by rw [lz100, iI_eq (by omega) (by omega) (by omega) (by omega)]; omega), show tPop w.1 a = 0 by unfold tPop; rw [if_pos h1, if_pos h3, if_pos h4], if_pos rfl, if_pos rfl]
        obtain ⟨c1, s1, s2, s3⟩ := r_sv (G := G) hi hw (h.z6 0)
        have hc1 : NowR c1 w.1 := h.1.eq (s2 1 (by decide))
        obtain ⟨z2, c2, p1, p2, p3, p4⟩ := pop_run (G := G) hi hw.1 (z := va_up (va_up z 6 0) 2 (nSv w.2.2.1)) hc1 h4 hav fr 0 h3
        rw [show iI ((a.toNat : Nat) : Int) = iI a by congr 1; omega] at p1
        refine ⟨z2, c2, ?_, ?_, refR_mk p2 (s3.eq (p4 2 (by decide) (by decide) (by decide))) ((p3 2 (by decide) (by decide)).trans (up_self _ _ _)) ((p3 5 (by decide) (by decide)).trans (((up_ne _ _ (by decide)).trans (up_ne _ _ (by decide))).trans h.2.2.2.1)) (fun j hj => ?_)⟩
        · rw [show (Value.int 0) = Value.int (iI 0) from rfl, thr_0 hi hw h, mo_ck hi, mbind_ok s1, mo_ck hi, mbind_ok p1]
          rfl
        · rw [p3 6 (by decide) (by decide)]
          exact (up_ne _ _ (by decide)).trans (up_self _ _ _)
        · rw [p4 5 (by decide) (by decide) (by decide), s2 5 (by decide)]
          exact h.2.2.2.2 j hj
      · rw [if_pos (by rw [lz100, iI_eq (by omega) (by omega) (by omega) (by omega)]; omega), show tPop w.1 a = 3 by unfold tPop; rw [if_pos h1, if_pos h3, if_neg h4], if_neg (by decide), if_neg (by decide)]
        exact ⟨_, _, thr_n hi hw h _ 3 (by decide), up_self _ _ _, h.z6 3⟩
    · have h3' := h3
      unfold sz at h3'
      rw [if_pos (by rw [lz0, iI_eq (by omega) (by omega) (by omega) (by omega)]; omega), show tPop w.1 a = 2 by unfold tPop; rw [if_pos h1, if_neg h3], if_neg (by decide), if_neg (by decide)]
      exact ⟨_, _, thr_n hi hw h _ 2 (by decide), up_self _ _ _, h.z6 2⟩
  · rw [show tPop w.1 a = 1 by unfold tPop; rw [if_neg h1], if_neg (show ¬ (1 : Int) = 0 by decide), if_neg (show ¬ (1 : Int) = 0 by decide)]
    rw [Bool.not_eq_true] at h1
    rw [h1, if_pos (show iI (b2i false) = 0 from rfl)]
    exact ⟨_, _, thr_n hi hw h _ 1 (by decide), up_self _ _ _, h.z6 1⟩
theorem r_append {G : GH} {ad : Nat → Nat} (hi : injK ad KM) {w : WW} (hw : WI w) {z : Nat → Int} {c : Nat → Nat → Int} (h : RefR z c w) {a : Int} (ha : irg a) : ∃ z' c', (f_X5_append (ad 0) (iI a)).1 (MO G ad z c) = some (iI (if 0 ≤ a ∧ a ≤ 127 then (if w.2.2.2.1 < 100 then (w.2.2.2.1 : Int) + 1 else 0) else 0), MO G ad z' c') ∧ z' 6 = (if 0 ≤ a ∧ a ≤ 127 then (if w.2.2.2.1 < 100 then 0 else 2) else 1) ∧ RefR z' c' (if 0 ≤ a ∧ a ≤ 127 then (if w.2.2.2.1 < 100 then (w.1, w.2.1, w.2.2.1, w.2.2.2.1 + 1, va_up w.2.2.2.2 w.2.2.2.1 a) else w) else w) := by
  have hin := in_run (MO G ad z c) (a := a) (l := 0) (h := 127) ha (by decide) (by decide)
  have hlen := hw.2.2.2.1
  unfold f_X5_append
  rw [show f_X5_in (iI a) 0 127 = f_X5_in (iI a) (iI 0) (iI 127) from rfl, mbind_ok hin]
  by_cases h1 : 0 ≤ a ∧ a ≤ 127
  · rw [decide_eq_true h1, if_neg (show ¬ iI (b2i true) = 0 by decide), if_pos h1, if_pos h1, if_pos h1, mo_gi5 hi, h.2.2.2.1]
    by_cases h2 : w.2.2.2.1 < 100
    · rw [if_neg (by rw [lz100, iI_eq (by omega) (by omega) (by omega) (by omega)]; omega), if_pos h2, if_pos h2, if_pos h2]
      have p := r_append_ok (G := G) hi hw h h1 h2
      exact ⟨_, _, p.1, (up_ne _ _ (by decide)).trans (up_self _ _ _), p.2⟩
    · rw [if_pos (by rw [lz100, iI_eq (by omega) (by omega) (by omega) (by omega)]; omega), if_neg h2, if_neg h2, if_neg h2]
      exact ⟨_, _, r_append_no hi hw h 2 (by decide) _, up_self _ _ _, h.z6 2⟩
  · rw [decide_eq_false h1, if_pos (show iI (b2i false) = 0 from rfl), if_neg h1, if_neg h1, if_neg h1]
    exact ⟨_, _, r_append_no hi hw h 1 (by decide) _, up_self _ _ _, h.z6 1⟩
theorem r_thrown {G : GH} {ad : Nat → Nat} (hi : injK ad KM) {w : WW} (hw : WI w) {z : Nat → Int} {c : Nat → Nat → Int} (h : RefR z c w) {t : Int} (ht : z 6 = t) : (f_X5_thrown (ad 0)).1 (MO G ad z c) = some (iI t, MO G ad z c) := by
  unfold f_X5_thrown
  rw [mo_gi6 hi, ht]
  rfl
