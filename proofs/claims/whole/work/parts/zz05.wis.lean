/-! LAW 5: the next world is a world; which codes each table of exceptions knows; the script's arguments. -/
theorem wi_nset {w : WW} (hw : WI w) {k x : Int} : WI (if okS k x = true then wSave w (sSet w.1 k x) else w) := by
  by_cases h : okS k x = true
  · rw [if_pos h]; exact wi_save hw (si_set hw.1 h)
  · rw [if_neg h]; exact hw
theorem wi_npush {w : WW} (hw : WI w) {a x : Int} (fr : Bool) : WI (if tPush w.1 a x = 0 then wSave w (sGrow w.1 a.toNat (kPush fr) x) else w) := by
  by_cases h : tPush w.1 a x = 0
  · rw [if_pos h]
    unfold tPush at h
    by_cases h1 : inV w.1 a = true
    · rw [if_pos h1] at h
      have h1' : 0 ≤ a ∧ a < w.1.2.2.1 := of_decide_eq_true h1
      by_cases h2 : -999 ≤ x ∧ x ≤ 999
      · rw [if_pos h2] at h
        by_cases h3 : sz (w.1.2.2.2 a.toNat) < 40 ∧ w.1.2.2.1 < 100
        · refine wi_save hw (si_grow hw.1 h3.2 (by omega) (by unfold kPush; split <;> omega) h2 ?_)
          have h4 := h3.1
          unfold sz at h4
          unfold pmt
          rw [if_pos (by unfold kPush; split <;> omega)]
          exact decide_eq_true h4
        · rw [if_neg h3] at h
          exact absurd h (by decide)
      · rw [if_neg h2] at h
        exact absurd h (by decide)
    · rw [if_neg h1] at h
      exact absurd h (by decide)
  · rw [if_neg h]; exact hw
theorem wi_npop {w : WW} (hw : WI w) {a : Int} (fr : Bool) : WI (if tPop w.1 a = 0 then wSave w (sGrow w.1 a.toNat (kPop fr) 0) else w) := by
  by_cases h : tPop w.1 a = 0
  · rw [if_pos h]
    unfold tPop at h
    by_cases h1 : inV w.1 a = true
    · rw [if_pos h1] at h
      have h1' : 0 ≤ a ∧ a < w.1.2.2.1 := of_decide_eq_true h1
      by_cases h2 : 0 < sz (w.1.2.2.2 a.toNat)
      · rw [if_pos h2] at h
        by_cases h3 : w.1.2.2.1 < 100
        · refine wi_save hw (si_grow hw.1 h3 (by omega) (by unfold kPop; split <;> omega) (by omega) ?_)
          have h4 := h2
          unfold sz at h4
          unfold pmt
          rw [if_neg (by unfold kPop; split <;> omega)]
          exact decide_eq_true h4
        · rw [if_neg h3] at h
          exact absurd h (by decide)
      · rw [if_neg h2] at h
        exact absurd h (by decide)
    · rw [if_neg h1] at h
      exact absurd h (by decide)
  · rw [if_neg h]; exact hw
theorem wi_ndrop {w : WW} (hw : WI w) : WI (if 1 < w.1.2.2.1 then wSave w (sHeld w.1 (w.1.2.2.1 - 1)) else w) := by
  by_cases h : 1 < w.1.2.2.1
  · rw [if_pos h]; exact wi_save hw (si_held hw.1 (by omega) (by omega))
  · rw [if_neg h]; exact hw
theorem wi_nclear {w : WW} (hw : WI w) : WI (wSave w (sHeld w.1 1)) := wi_save hw (si_held hw.1 (Nat.le_refl 1) hw.1.2.2.1.1)
theorem wi_nundo {w : WW} (hw : WI w) : WI (if 0 < w.2.2.1 then (w.2.1 (w.2.2.1 - 1), w.2.1, w.2.2.1 - 1, w.2.2.2) else w) := by
  by_cases h : 0 < w.2.2.1
  · rw [if_pos h]
    exact ⟨hw.2.1 _ (by omega), fun i hi => hw.2.1 i (by have hi' : i < w.2.2.1 - 1 := hi; omega), by have := hw.2.2.1; show w.2.2.1 - 1 ≤ 4; omega, hw.2.2.2.1, hw.2.2.2.2⟩
  · rw [if_neg h]; exact hw
theorem wi_nappend {w : WW} (hw : WI w) {a : Int} : WI (if 0 ≤ a ∧ a ≤ 127 then (if w.2.2.2.1 < 100 then (w.1, w.2.1, w.2.2.1, w.2.2.2.1 + 1, va_up w.2.2.2.2 w.2.2.2.1 a) else w) else w) := by
  by_cases h : 0 ≤ a ∧ a ≤ 127
  · rw [if_pos h]
    by_cases h2 : w.2.2.2.1 < 100
    · rw [if_pos h2]
      refine ⟨hw.1, hw.2.1, hw.2.2.1, by show w.2.2.2.1 + 1 ≤ 100; omega, fun j hj => ?_⟩
      have hj' : j < w.2.2.2.1 + 1 := hj
      show 0 ≤ va_up w.2.2.2.2 w.2.2.2.1 a j ∧ va_up w.2.2.2.2 w.2.2.2.1 a j ≤ 127
      by_cases e : j = w.2.2.2.1
      · rw [e, up_self]; exact h
      · rw [up_ne _ _ e]; exact hw.2.2.2.2 j (by omega)
    · rw [if_neg h2]; exact hw
  · rw [if_neg h]; exact hw
theorem wi_nct {w : WW} (hw : WI w) : WI (w.1, w.2.1, w.2.2.1, 0, w.2.2.2.2) := ⟨hw.1, hw.2.1, hw.2.2.1, by show 0 ≤ 100; omega, fun j hj => absurd hj (by show ¬ j < 0; omega)⟩
theorem wi_nrun {w : WW} (hw : WI w) {a : Int} : WI (if inV w.1 a = true ∧ (wT w).1 = -1 then wSave w (allF w.1 (wT w).2 a.toNat).1 else w) := by
  by_cases h : inV w.1 a = true ∧ (wT w).1 = -1
  · rw [if_pos h]
    have h1' : 0 ≤ a ∧ a < w.1.2.2.1 := of_decide_eq_true h.1
    have hkv := wt_kv hw
    exact wi_save hw (dA_si hkv.2 (wT w).2.2.2.2.1 0 w.1 a.toNat (by omega) hw.1 (by omega))
  · rw [if_neg h]; exact hw
theorem tb1 {c : Prop} {dc : Decidable c} {E E2 E3 : String} : tbOK (@ite Int c dc 0 1) [(E, 1)] E E2 E3 := by
  by_cases h : c
  · rw [if_pos h]; exact Or.inl rfl
  · rw [if_neg h]; exact Or.inr (Or.inl ⟨rfl, List.mem_cons_self⟩)
theorem tb2 {c d : Prop} {dc : Decidable c} {dd : Decidable d} {E1 E2 E3 : String} : tbOK (@ite Int c dc (@ite Int d dd 0 2) 1) [(E1, 1), (E2, 2)] E1 E2 E3 := by
  by_cases h : c
  · rw [if_pos h]
    by_cases h2 : d
    · rw [if_pos h2]; exact Or.inl rfl
    · rw [if_neg h2]; exact Or.inr (Or.inr (Or.inl ⟨rfl, List.mem_cons_of_mem _ List.mem_cons_self⟩))
  · rw [if_neg h]; exact Or.inr (Or.inl ⟨rfl, List.mem_cons_self⟩)
theorem tb3 {c d e : Prop} {dc : Decidable c} {dd : Decidable d} {de : Decidable e} {E1 E2 E3 : String} : tbOK (@ite Int c dc (@ite Int d dd (@ite Int e de 0 3) 2) 1) [(E1, 1), (E2, 2), (E3, 3)] E1 E2 E3 := by
  by_cases h : c
  · rw [if_pos h]
    by_cases h2 : d
    · rw [if_pos h2]
      by_cases h3 : e
      · rw [if_pos h3]; exact Or.inl rfl
      · rw [if_neg h3]; exact Or.inr (Or.inr (Or.inr ⟨rfl, List.mem_cons_of_mem _ (List.mem_cons_of_mem _ List.mem_cons_self)⟩))
    · rw [if_neg h2]; exact Or.inr (Or.inr (Or.inl ⟨rfl, List.mem_cons_of_mem _ List.mem_cons_self⟩))
  · rw [if_neg h]; exact Or.inr (Or.inl ⟨rfl, List.mem_cons_self⟩)
theorem arg_of (x : Int32) : ∃ a, irg a ∧ x = iI a := ⟨x.toInt, iI_rng x, iI_of x⟩
theorem b2i_ne (x : Int32) : (if x = 0 then (0 : Int32) else 1) = iI (b2i (x != 0)) := by
  by_cases h : x = 0
  · rw [if_pos h, show (x != 0) = false by simp [h]]; rfl
  · rw [if_neg h, show (x != 0) = true by simp [h]]; rfl
/-- an older answer of the reference, as the law asks for it -/
theorem r_old {β : Type} {FR : MM β} {ans : β} {t : Int} {H : GH} {ad : Nat → Nat} {z : Nat → Int} {c : Nat → Nat → Int} {w : WW} (h : RefR z c w) (e : FR.1 (MO H ad z c) = some (ans, MO H ad (va_up z 6 t) c)) : ∃ z' c', FR.1 (MO H ad z c) = some (ans, MO H ad z' c') ∧ z' 6 = t ∧ RefR z' c' w := ⟨_, _, e, up_self _ _ _, h.z6 t⟩
/-- mean -/
theorem lm_step {F : MX UInt64} {FR : MM UInt64} {q : Bool} {d : UInt64} {G : GH} {p m oL oD : Nat} {w : WW} {C S : Nat} (hL : LI2 G p m oL oD w w C S) (hw : WI w) (hF : ∀ ow P, RepC G ow p w P → RT F G ow p w P (if q = true then .inr d else .inl exI) w (ye (if q = true then 0 else 1))) (hR : ∀ (H : GH) (ad : Nat → Nat) (z : Nat → Int) (c : Nat → Nat → Int), injK ad KM → ad 0 = m → RefR z c w → ∃ z' c', FR.1 (MO H ad z c) = some (if q = true then d else 0, MO H ad z' c') ∧ z' 6 = (if q = true then 0 else 1) ∧ RefR z' c' w) :
    ∃ z G1 Gu, F.1 G = some (z, G1) ∧ WR [(exI, 1)] (fun v => masd oD 0 v) z G1 (iI (if q = true then 0 else 1)) Gu ∧ Gu.2 = G1.2 ∧ (G1.2.2.1 ≤ C + 1 ∧ G1.2.2.2 ≤ S + 6) ∧ ∀ n, (∀ a, Gu.1 a ≠ none → a < n) → ∃ H2 fs fs2, Gu.1 m = some (.inr (5, fs)) ∧ FR.1 (Gu.1, n, Gu.2.2) = some (if q = true then d else 0, H2) ∧ H2.1 m = some (.inr (5, fs2)) ∧ (f_X5_thrown m).1 H2 = some (iI (if q = true then 0 else 1), H2) ∧ (iI (if q = true then 0 else 1) = 0 → (mald oD 0).1 H2 = some ((if q = true then d else 0), H2)) ∧ LI2 H2 p m oL oD w w (C + 1) (S + 6) := by
  obtain ⟨G1, fl, fd, e1, sL, sD, c1, s1, nLD, ⟨fsm, sm⟩, nmL, nmD, hH⟩ := la_class hL hF
  have hy := ye_le (if q = true then 0 else 1)
  cases q with
  | true =>
    refine ⟨_, G1, (va_up G1.1 oD (some (dcl (vf_upd fd 0 d))), G1.2), e1, ⟨rfl, masd0 sD _, rfl⟩, rfl, ⟨by omega, by omega⟩, fun n hn => ?_⟩
    have hLI := (hH (va_up G1.1 oD (some (dcl (vf_upd fd 0 d))), n, G1.2.2) fl _ rfl (fun a _ ha => up_ne _ _ ha) ((up_ne _ _ nLD).trans sL) (up_self _ _ _) hn).up (C' := C + 1) (S' := S + 6) (by omega) (by omega)
    obtain ⟨H2, t2, ht2, f1, f2, f3, f4, f5, f6⟩ := lb_ref (T := fun t => t = 0) hLI hw (hR _)
    rw [ht2] at f2
    obtain ⟨-, fs2, hm2⟩ := f6.obj
    refine ⟨H2, fsm, fs2, (up_ne _ _ nmD).trans sm, f1, hm2, f2, fun _ => ?_, f6⟩
    have := mald0 (f4.trans (up_self _ _ _))
    rw [updD0] at this
    exact this
  | false =>
    refine ⟨_, G1, G1, e1, ⟨List.mem_cons_self, rfl⟩, rfl, ⟨by omega, by omega⟩, fun n hn => ?_⟩
    have hLI := (hH (G1.1, n, G1.2.2) fl fd rfl (fun a _ _ => rfl) sL sD hn).up (C' := C + 1) (S' := S + 6) (by omega) (by omega)
    obtain ⟨H2, t2, ht2, f1, f2, f3, f4, f5, f6⟩ := lb_ref (T := fun t => t = 1) hLI hw (hR _)
    rw [ht2] at f2
    obtain ⟨-, fs2, hm2⟩ := f6.obj
    exact ⟨H2, fsm, fs2, sm, f1, hm2, f2, fun h => absurd h (by decide), f6⟩
