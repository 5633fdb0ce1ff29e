/-! PURE PART 41: the class's questions -/
def exI : String := "java/lang/IndexOutOfBoundsException"
def exA : String := "java/lang/IllegalArgumentException"
def exS : String := "java/lang/IllegalStateException"
def exN : String := "java/util/NoSuchElementException"
/-- what a call answers: its value, or one of three exceptions -/
def yr (t : Int) (E1 E2 E3 : String) (x : Int) : String ⊕ Int32 := if t = 0 then .inr (iI x) else if t = 1 then .inl E1 else if t = 2 then .inl E2 else .inl E3
def ye (t : Int) : Nat := if t = 0 then 0 else 1
theorem ro_of {α : Type} {F : MM α} {G : GH} {ow : Nat → Nat} {L np va ma : Nat} {refs : Nat → Option Nat} {s : SS} {x : α} (h : SX G ow L np va ma refs s) (e : F.1 G = some (x, G)) : RO F G ow L np va ma refs s x := ⟨G, ow, refs, e, h, SP.rf h.2⟩
theorem rc_rv1 {G : GH} {ow : Nat → Nat} {p : Nat} {w : WW} {P : Nat} (hw : WI w) (h : RepC G ow p w P) {a : Int} (ha : irg a) (h1 : inV w.1 a = true) : RC (f_X4_requireVersion p (iI a)) G ow p w P (.inr ()) w 0 := by
  unfold f_X4_requireVersion
  refine rc_ro h (T := fun r => f_X1_has r (iI a)) (x := iI (b2i (inV w.1 a))) (fun L np va ma refs hL hx => ro_of hx (has_run (by omega) hw.1 hx ha)) (fun G' ow' P' h' => ?_)
  rw [h1, if_neg (show ¬ iI (b2i true) = 0 by decide)]
  exact rc_pure h'
theorem rc_rv0 {G : GH} {ow : Nat → Nat} {p : Nat} {w : WW} {P : Nat} (hw : WI w) (h : RepC G ow p w P) {a : Int} (ha : irg a) (h1 : inV w.1 a = false) : RC (f_X4_requireVersion p (iI a)) G ow p w P (.inl exI) w 1 := by
  unfold f_X4_requireVersion
  refine rc_ro h (T := fun r => f_X1_has r (iI a)) (x := iI (b2i (inV w.1 a))) (fun L np va ma refs hL hx => ro_of hx (has_run (by omega) hw.1 hx ha)) (fun G' ow' P' h' => ?_)
  rw [h1, if_pos (show iI (b2i false) = 0 from rfl)]
  exact rc_thr h'
theorem rc_rp1 {G : GH} {ow : Nat → Nat} {p : Nat} {w : WW} {P : Nat} (hw : WI w) (h : RepC G ow p w P) {a b : Int} (ha : irg a) (hb : irg b) (h1 : (inV w.1 a && decide (0 ≤ b ∧ b < sz (w.1.2.2.2 a.toNat))) = true) : RC (f_X4_requirePlace p (iI a) (iI b)) G ow p w P (.inr ()) w 0 := by
  unfold f_X4_requirePlace
  refine rc_ro h (T := fun r => f_X1_hasPlace r (iI a) (iI b)) (x := iI (b2i (inV w.1 a && decide (0 ≤ b ∧ b < sz (w.1.2.2.2 a.toNat))))) (fun L np va ma refs hL hx => hasPlace_run (by omega) hw.1 hx ha hb) (fun G' ow' P' h' => ?_)
  rw [h1, if_neg (show ¬ iI (b2i true) = 0 by decide)]
  exact rc_pure h'
theorem rc_rp0 {G : GH} {ow : Nat → Nat} {p : Nat} {w : WW} {P : Nat} (hw : WI w) (h : RepC G ow p w P) {a b : Int} (ha : irg a) (hb : irg b) (h1 : (inV w.1 a && decide (0 ≤ b ∧ b < sz (w.1.2.2.2 a.toNat))) = false) : RC (f_X4_requirePlace p (iI a) (iI b)) G ow p w P (.inl exI) w 1 := by
  unfold f_X4_requirePlace
  refine rc_ro h (T := fun r => f_X1_hasPlace r (iI a) (iI b)) (x := iI (b2i (inV w.1 a && decide (0 ≤ b ∧ b < sz (w.1.2.2.2 a.toNat))))) (fun L np va ma refs hL hx => hasPlace_run (by omega) hw.1 hx ha hb) (fun G' ow' P' h' => ?_)
  rw [h1, if_pos (show iI (b2i false) = 0 from rfl)]
  exact rc_thr h'
theorem c_version {G : GH} {ow : Nat → Nat} {p : Nat} {w : WW} {P : Nat} (hw : WI w) (h : RepC G ow p w P) {a k : Int} (ha : irg a) (hk : irg k) : RC (f_X4_version p (iI a) (iI k)) G ow p w P (yr (if inV w.1 a = true then (if 0 ≤ k ∧ k ≤ 9 then 0 else 2) else 1) exI exA exA (if inV w.1 a = true ∧ (0 ≤ k ∧ k ≤ 9) then fct (w.1.2.2.2 a.toNat).1 k else 0)) w (ye (if inV w.1 a = true then (if 0 ≤ k ∧ k ≤ 9 then 0 else 2) else 1)) := by
  have hk' := hk
  unfold irg at hk'
  unfold f_X4_version
  refine rc_ck h ?_
  by_cases h1 : inV w.1 a = true
  · have h1' : 0 ≤ a ∧ a < w.1.2.2.1 := of_decide_eq_true h1
    have ea : iI a = iI ((a.toNat : Nat) : Int) := by congr 1; omega
    refine rc_xin (rc_rv1 hw h ha h1) (fun G' ow' P' h' => ?_)
    rw [if_pos h1]
    by_cases h2 : 0 ≤ k ∧ k ≤ 9
    · rw [if_pos h2, if_pos (⟨h1, h2⟩ : inV w.1 a = true ∧ (0 ≤ k ∧ k ≤ 9)), if_neg (by rw [lz0, iI_lt (by omega) (by omega) (by omega) (by omega)]; omega), if_pos (by rw [lz10, iI_lt (by omega) (by omega) (by omega) (by omega)]; omega)]
      refine rc_tail h' (fun L np va ma refs ads0 tp sa hL hp hpc hx => ro_ck hx ?_)
      rw [ea]
      refine ro_slot (by omega) hw.1 hx (by omega) (fun G2 ow2 refs2 q r g h2' _ _ m3 m4 m5 _ => ro_of h2' ?_)
      rw [ev_chk, m3, gis_v, if_pos rfl, mbind_ok (fact_run m3 h2)]
      rfl
    · rw [if_neg h2, if_neg (show ¬ (inV w.1 a = true ∧ (0 ≤ k ∧ k ≤ 9)) from fun hh => h2 hh.2)]
      by_cases h3 : k < 0
      · rw [if_pos (by rw [lz0, iI_lt (by omega) (by omega) (by omega) (by omega)]; omega)]
        exact rc_thr h'
      · rw [if_neg (by rw [lz0, iI_lt (by omega) (by omega) (by omega) (by omega)]; omega), if_neg (by rw [lz10, iI_lt (by omega) (by omega) (by omega) (by omega)]; omega)]
        exact rc_thr h'
  · rw [if_neg h1]
    rw [Bool.not_eq_true] at h1
    exact rc_xout (rc_rv0 hw h ha h1)
theorem c_value {G : GH} {ow : Nat → Nat} {p : Nat} {w : WW} {P : Nat} (hw : WI w) (h : RepC G ow p w P) {a : Int} (ha : irg a) : RC (f_X4_value p (iI a)) G ow p w P (yr (if inV w.1 a = true then (if a ≠ 0 then 0 else 2) else 1) exI exS exS (if inV w.1 a = true ∧ a ≠ 0 then (w.1.2.2.2 a.toNat).1 2 else 0)) w (ye (if inV w.1 a = true then (if a ≠ 0 then 0 else 2) else 1)) := by
  have ha' := ha
  unfold irg at ha'
  unfold f_X4_value
  refine rc_ck h ?_
  by_cases h1 : inV w.1 a = true
  · have h1' : 0 ≤ a ∧ a < w.1.2.2.1 := of_decide_eq_true h1
    have ea : iI a = iI ((a.toNat : Nat) : Int) := by congr 1; omega
    refine rc_xin (rc_rv1 hw h ha h1) (fun G' ow' P' h' => ?_)
    rw [if_pos h1]
    by_cases h2 : a = 0
    · rw [if_neg (show ¬ (a ≠ 0) from fun hh => hh h2), if_neg (show ¬ (inV w.1 a = true ∧ a ≠ 0) from fun hh => hh.2 h2), if_pos (by rw [h2]; rfl)]
      exact rc_thr h'
    · rw [if_pos (show a ≠ 0 from h2), if_pos (⟨h1, h2⟩ : inV w.1 a = true ∧ a ≠ 0), if_neg (by rw [lz0, iI_eq (by omega) (by omega) (by omega) (by omega)]; omega)]
      refine rc_tail h' (fun L np va ma refs ads0 tp sa hL hp hpc hx => ro_ck hx ?_)
      rw [ea]
      refine ro_slot (by omega) hw.1 hx (by omega) (fun G2 ow2 refs2 q r g h2' _ _ m3 m4 m5 _ => ro_of h2' ?_)
      rw [ev_gi, m3]
      rfl
  · rw [if_neg h1]
    rw [Bool.not_eq_true] at h1
    exact rc_xout (rc_rv0 hw h ha h1)
theorem c_at {G : GH} {ow : Nat → Nat} {p : Nat} {w : WW} {P : Nat} (hw : WI w) (h : RepC G ow p w P) {a b : Int} (ha : irg a) (hb : irg b) : RC (f_X4_at p (iI a) (iI b)) G ow p w P (yr (if (inV w.1 a && decide (0 ≤ b ∧ b < sz (w.1.2.2.2 a.toNat))) = true then 0 else 1) exI exI exI (if (inV w.1 a && decide (0 ≤ b ∧ b < sz (w.1.2.2.2 a.toNat))) = true then (w.1.2.2.2 a.toNat).2 b.toNat else 0)) w (ye (if (inV w.1 a && decide (0 ≤ b ∧ b < sz (w.1.2.2.2 a.toNat))) = true then 0 else 1)) := by
  unfold f_X4_at
  refine rc_ck h ?_
  by_cases h1 : (inV w.1 a && decide (0 ≤ b ∧ b < sz (w.1.2.2.2 a.toNat))) = true
  · have h2 := h1
    rw [Bool.and_eq_true] at h2
    have h3 : 0 ≤ a ∧ a < w.1.2.2.1 := of_decide_eq_true h2.1
    have h4 : 0 ≤ b ∧ b < sz (w.1.2.2.2 a.toNat) := of_decide_eq_true h2.2
    have hvb := (hw.1.2.2.2 a.toNat (by omega)).1
    have h4' := h4
    unfold sz at h4'
    unfold VBn at hvb
    have ea : iI a = iI ((a.toNat : Nat) : Int) := by congr 1; omega
    refine rc_xin (rc_rp1 hw h ha hb h1) (fun G' ow' P' h' => ?_)
    rw [if_pos h1, if_pos h1]
    refine rc_tail h' (fun L np va ma refs ads0 tp sa hL hp hpc hx => ro_ck hx ?_)
    rw [ea]
    refine ro_slot (by omega) hw.1 hx (by omega) (fun G2 ow2 refs2 q r g h2' _ _ m3 m4 m5 _ => ro_of h2' ?_)
    rw [ev_chk, m3, gis_v, if_pos rfl, mbind_ok (look_run m3 m4 (z := b) (by omega) (by omega)), m5 b.toNat (by omega)]
    rfl
  · rw [if_neg h1, if_neg h1]
    rw [Bool.not_eq_true] at h1
    exact rc_xout (rc_rp0 hw h ha hb h1)
theorem c_steps {G : GH} {ow : Nat → Nat} {p : Nat} {w : WW} {P : Nat} (hw : WI w) (h : RepC G ow p w P) {a b : Int} (ha : irg a) (hb : irg b) : RC (f_X4_steps p (iI a) (iI b)) G ow p w P (yr (if (inV w.1 a && decide (0 ≤ b ∧ b < sz (w.1.2.2.2 a.toNat))) = true then 0 else 1) exI exI exI (if (inV w.1 a && decide (0 ≤ b ∧ b < sz (w.1.2.2.2 a.toNat))) = true then (if b < (w.1.2.2.2 a.toNat).1 4 then b + 1 else sz (w.1.2.2.2 a.toNat) - b) else 0)) w (ye (if (inV w.1 a && decide (0 ≤ b ∧ b < sz (w.1.2.2.2 a.toNat))) = true then 0 else 1)) := by
  unfold f_X4_steps
  refine rc_ck h ?_
  by_cases h1 : (inV w.1 a && decide (0 ≤ b ∧ b < sz (w.1.2.2.2 a.toNat))) = true
  · have h2 := h1
    rw [Bool.and_eq_true] at h2
    have h3 : 0 ≤ a ∧ a < w.1.2.2.1 := of_decide_eq_true h2.1
    have h4 : 0 ≤ b ∧ b < sz (w.1.2.2.2 a.toNat) := of_decide_eq_true h2.2
    have hvb := (hw.1.2.2.2 a.toNat (by omega)).1
    have h4' := h4
    unfold sz at h4'
    unfold VBn at hvb
    have ea : iI a = iI ((a.toNat : Nat) : Int) := by congr 1; omega
    refine rc_xin (rc_rp1 hw h ha hb h1) (fun G' ow' P' h' => ?_)
    rw [if_pos h1, if_pos h1]
    refine rc_tail h' (fun L np va ma refs ads0 tp sa hL hp hpc hx => ro_ck hx ?_)
    rw [ea]
    refine ro_slot (by omega) hw.1 hx (by omega) (fun G2 ow2 refs2 q r g h2' _ _ m3 m4 m5 _ => ro_of h2' ?_)
    simp only [ev_gi, m3, gi_v0, gi_v1, gi_v2, gi_v3, gi_v4, gi_v5, gi_v6, gi_v7, gi_v8, gi_v9, gr_v, gis_v, gp_v0, gp_v1, gp_v2, gp_v3, gp_v4, gp_v5, gp_v6, gp_v7, gp_v8, gp_v9, up_self, up_idem, up_ne, Option.elim_some]
    by_cases h5 : b < (w.1.2.2.2 a.toNat).1 4
    · rw [if_neg (by rw [iI_le (by omega) (by omega) (by omega) (by omega)]; omega), if_pos h5, lz1, iI_add]
      rfl
    · rw [if_pos (by rw [iI_le (by omega) (by omega) (by omega) (by omega)]; omega), if_neg h5, ev_chk, m3, gis_v, if_pos rfl, mbind_ok (size_run m3), iI_sub]
      rfl
  · rw [if_neg h1, if_neg h1]
    rw [Bool.not_eq_true] at h1
    exact rc_xout (rc_rp0 hw h ha hb h1)
theorem c_count {G : GH} {ow : Nat → Nat} {p : Nat} {w : WW} {P : Nat} (hw : WI w) (h : RepC G ow p w P) {k : Int} (hk : irg k) : RC (f_X4_count p (iI k)) G ow p w P (yr (if 0 ≤ k ∧ k ≤ 7 then 0 else 1) exA exA exA (if 0 ≤ k ∧ k ≤ 7 then totF w.1 k.toNat else 0)) w (ye (if 0 ≤ k ∧ k ≤ 7 then 0 else 1)) := by
  have hk' := hk
  unfold irg at hk'
  unfold f_X4_count
  by_cases h2 : 0 ≤ k ∧ k ≤ 7
  · have ek : iI k = iI ((k.toNat : Nat) : Int) := by congr 1; omega
    rw [if_pos h2, if_pos h2, if_neg (by rw [lz0, iI_lt (by omega) (by omega) (by omega) (by omega)]; omega), if_pos (by rw [lz8, iI_lt (by omega) (by omega) (by omega) (by omega)]; omega), ek]
    exact rc_ro h (T := fun r => f_X1_total r (iI ((k.toNat : Nat) : Int))) (x := iI (totF w.1 k.toNat)) (fun L np va ma refs hL hx => tot_run (by omega) hw.1 hx (by omega)) (fun G' ow' P' h' => rc_pure h')
  · rw [if_neg h2, if_neg h2]
    by_cases h3 : k < 0
    · rw [if_pos (by rw [lz0, iI_lt (by omega) (by omega) (by omega) (by omega)]; omega)]
      exact rc_thr h
    · rw [if_neg (by rw [lz0, iI_lt (by omega) (by omega) (by omega) (by omega)]; omega), if_neg (by rw [lz8, iI_lt (by omega) (by omega) (by omega) (by omega)]; omega)]
      exact rc_thr h
theorem c_setting {G : GH} {ow : Nat → Nat} {p : Nat} {w : WW} {P : Nat} (hw : WI w) (h : RepC G ow p w P) {k : Int} (hk : irg k) : RC (f_X4_setting p (iI k)) G ow p w P (yr (if 0 ≤ k ∧ k ≤ 1 then 0 else 1) exA exA exA (if 0 ≤ k ∧ k ≤ 1 then (if k = 0 then w.1.1 else w.1.2.1) else 0)) w (ye (if 0 ≤ k ∧ k ≤ 1 then 0 else 1)) := by
  have hk' := hk
  unfold irg at hk'
  unfold f_X4_setting
  by_cases h0 : k = 0
  · have h01 : 0 ≤ k ∧ k ≤ 1 := by omega
    rw [if_pos h01, if_pos h01, if_pos h0, if_pos (show iI k = 0 by rw [h0]; rfl)]
    exact rc_ro h (T := fun r => f_X1_settingOf r (iI k)) (x := iI w.1.1) (fun L np va ma refs hL hx => ro_of hx (by rw [setg_run (by omega) hw.1 hx (Or.inl h0), if_pos h0])) (fun G' ow' P' h' => rc_pure h')
  · rw [if_neg (show ¬ iI k = 0 by rw [lz0, iI_eq (by omega) (by omega) (by omega) (by omega)]; omega)]
    by_cases h1 : k = 1
    · have h01 : 0 ≤ k ∧ k ≤ 1 := by omega
      rw [if_pos h01, if_pos h01, if_neg h0, if_pos (show iI k = 1 by rw [h1]; rfl)]
      exact rc_ro h (T := fun r => f_X1_settingOf r (iI k)) (x := iI w.1.2.1) (fun L np va ma refs hL hx => ro_of hx (by rw [setg_run (by omega) hw.1 hx (Or.inr h1), if_neg h0])) (fun G' ow' P' h' => rc_pure h')
    · have h01 : ¬ (0 ≤ k ∧ k ≤ 1) := by omega
      rw [if_neg h01, if_neg h01, if_neg (show ¬ iI k = 1 by rw [lz1, iI_eq (by omega) (by omega) (by omega) (by omega)]; omega)]
      exact rc_thr h
