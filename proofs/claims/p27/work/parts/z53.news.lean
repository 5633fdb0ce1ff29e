/-! PURE PART 53: new objects: the class's, the reference's -/
theorem putst {β : Type} (H : Nat → Option LE) (t : Nat × Nat × Nat) (this ci k : Nat) (l : List Value) (v : Value) (hk : k < l.length) (F : Unit → MM β) : (mbind (mput this ci k v) F).1 (va_up H this (some (.inr (ci, l))), t) = (F ()).1 (va_up H this (some (.inr (ci, l.set k v))), t) := by
  rw [ev_put]
  dsimp only
  rw [up_self, show gput (some (.inr (ci, l))) ci k v = some (.inr (ci, l.set k v)) by simp [gput, hk], Option.elim_some, up_idem]
theorem newput {β : Type} (H : Nat → Option LE) (g c d this ci k : Nat) (l : List Value) {m : Nat} (hm : m ≤ 100000) (ht : this ≠ g) (hk : k < l.length) (F : Unit → MM β) : (mbind (mnewi (iI m)) (fun a => mbind (mput this ci k (.ref a)) F)).1 (va_up H this (some (.inr (ci, l))), g, c, d) = (F ()).1 (va_up (va_up H g (some (icz m (fun _ => 0)))) this (some (.inr (ci, l.set k (.ref g)))), g + 1, c + 1, d + m) := by
  rw [ev_newi _ _ ⟨by rw [lz0, iI_lt (by omega) (by omega) (by omega) (by omega)]; omega, by rw [iI_cl (by omega) (by omega)]; omega⟩, iI_cl (by omega) (by omega), show ((m : Nat) : Int).toNat = m by omega]
  dsimp only
  rw [up_comm _ _ _ (Ne.symm ht), putst _ _ _ _ _ _ _ hk]
  rfl
theorem newscr {β : Type} (G : GH) (K : Nat → MM β) : (mbind (mnewo 0 [.int 0, .int 0, .null, .null, .null, .int 0, .int 0, .int 0] 8) (fun a1 => mbind (f_X0_init a1) (fun _ => K a1))).1 G = (K G.2.1).1 (va_up (va_up (va_up (va_up G.1 (G.2.1 + 1) (some (icz 100 (fun _ => 0)))) (G.2.1 + 2) (some (icz 50 (fun _ => 0)))) (G.2.1 + 3) (some (icz 50 (fun _ => 0)))) G.2.1 (some (.inr (0, [.int 0, .int 0, .ref (G.2.1 + 1), .ref (G.2.1 + 2), .ref (G.2.1 + 3), .int 0, .int 0, .int 0]))), G.2.1 + 4, G.2.2.1 + 4, G.2.2.2 + 208) := by
  rw [ev_newo]
  refine mbind_ok (a := ()) ?_
  unfold f_X0_init
  rw [putst _ _ _ _ _ _ _ (by decide), putst _ _ _ _ _ _ _ (by decide), show (100 : Int32) = iI ((100 : Nat) : Int) from rfl, newput _ _ _ _ _ _ _ _ (by decide) (by omega) (by decide), show (50 : Int32) = iI ((50 : Nat) : Int) from rfl, newput _ _ _ _ _ _ _ _ (by decide) (by omega) (by simp), newput _ _ _ _ _ _ _ _ (by decide) (by omega) (by simp), putst _ _ _ _ _ _ _ (by simp), putst _ _ _ _ _ _ _ (by simp), putst _ _ _ _ _ _ _ (by simp)]
  rfl
theorem newtri {β : Type} (G : GH) (K : Nat → MM β) : (mbind (mnewo 2 [.int 0, .int 0, .null] 3) (fun a1 => mbind (f_X2_init a1) (fun _ => K a1))).1 G = (K G.2.1).1 (va_up (va_up (va_up G.1 (G.2.1 + 2) (some (icz 40 (fun _ => 0)))) (G.2.1 + 1) (some (vcl dv (G.2.1 + 2)))) G.2.1 (some (.inr (2, [.int 0, .int 0, .ref (G.2.1 + 1)]))), G.2.1 + 3, G.2.2.1 + 3, G.2.2.2 + 54) := by
  rw [ev_newo]
  refine mbind_ok (a := ()) ?_
  unfold f_X2_init
  rw [putst _ _ _ _ _ _ _ (by decide), putst _ _ _ _ _ _ _ (by decide), newver]
  dsimp only
  rw [up_comm _ _ _ (show G.2.1 + 1 + 1 ≠ G.2.1 by omega), up_comm _ _ _ (show G.2.1 + 1 ≠ G.2.1 by omega), putst _ _ _ _ _ _ _ (by simp)]
  rfl
def w00 : WW := (s00, fun _ => s00, 0, 0, fun _ => 0)
theorem wi_00 : WI w00 := ⟨si_00, fun i hi => absurd hi (by show ¬ i < 0; omega), by decide, by decide, fun j hj => absurd hj (by show ¬ j < 0; omega)⟩
theorem c_new {β : Type} {G : GH} {ow : Nat → Nat} (hw : GW G ow) (K : Nat → MM β) : ∃ G' ow', (mbind (mnewo 4 [.null, .null, .null, .null, .int 0] 5) (fun a => mbind (f_X4_init a) (fun _ => K a))).1 G = (K G.2.1).1 G' ∧ RepC G' ow' G.2.1 w00 520 ∧ (∀ a, ow a ≠ 0 → ow' a = ow a) ∧ (∀ a, ow a ≠ 0 → G'.1 a = G.1 a) ∧ GW G' ow' ∧ G'.2.2.1 = G.2.2.1 + 12 ∧ G'.2.2.2 = G.2.2.2 + 476 := by
  obtain ⟨h, g, c, d⟩ := G
  obtain ⟨H, hH⟩ : ∃ H : Nat → Option LE, H = fun a => if a = g then some (xcl (g + 1) (g + 5) (g + 8) (g + 9) 0) else if a = g + 1 then some (.inr (0, [.int 0, .int 0, .ref (g + 2), .ref (g + 3), .ref (g + 4), .int 0, .int 0, .int 0])) else if a = g + 2 then some (icz 100 (fun _ => 0)) else if a = g + 3 then some (icz 50 (fun _ => 0)) else if a = g + 4 then some (icz 50 (fun _ => 0)) else if a = g + 5 then some (.inr (2, [.int 0, .int 0, .ref (g + 6)])) else if a = g + 6 then some (vcl dv (g + 7)) else if a = g + 7 then some (icz 40 (fun _ => 0)) else if a = g + 8 then some (qc 3 4 (fun _ => none)) else if a = g + 9 then some (scl s00 (g + 10) (g + 11)) else if a = g + 10 then some (qc 4 100 (fun _ => none)) else if a = g + 11 then some (icz 100 (fun _ => 0)) else h a := ⟨_, rfl⟩
  obtain ⟨ow', how⟩ : ∃ ow' : Nat → Nat, ow' = fun a => if a = g then 1 else if a = g + 1 then 60 else if a = g + 2 then 63 else if a = g + 3 then 64 else if a = g + 4 then 65 else if a = g + 5 then 2 else if a = g + 6 then 3 else if a = g + 7 then 4 else if a = g + 8 then 5 else if a = g + 9 then 1000 else if a = g + 10 then 1001 else if a = g + 11 then 1002 else ow a := ⟨_, rfl⟩
  have hlt : ∀ a, ow a ≠ 0 → a < g := hw
  have hkeep : ∀ a, ow a ≠ 0 → ow' a = ow a := fun a ha => by
    have := hlt a ha
    rw [how]
    dsimp only
    rw [if_neg (by omega), if_neg (by omega), if_neg (by omega), if_neg (by omega), if_neg (by omega), if_neg (by omega), if_neg (by omega), if_neg (by omega), if_neg (by omega), if_neg (by omega), if_neg (by omega), if_neg (by omega)]
  have hkeep2 : ∀ a, ow a ≠ 0 → H a = h a := fun a ha => by
    have := hlt a ha
    rw [hH]
    dsimp only
    rw [if_neg (by omega), if_neg (by omega), if_neg (by omega), if_neg (by omega), if_neg (by omega), if_neg (by omega), if_neg (by omega), if_neg (by omega), if_neg (by omega), if_neg (by omega), if_neg (by omega), if_neg (by omega)]
  have hg : GW ((H, g + 12, c + 12, d + 476) : GH) ow' := fun a ha => by
    show a < g + 12
    apply Classical.byContradiction
    intro hh
    refine ha ?_
    rw [how]
    dsimp only
    rw [if_neg (by omega), if_neg (by omega), if_neg (by omega), if_neg (by omega), if_neg (by omega), if_neg (by omega), if_neg (by omega), if_neg (by omega), if_neg (by omega), if_neg (by omega), if_neg (by omega), if_neg (by omega)]
    apply Classical.byContradiction
    intro h2
    have := hlt a h2
    omega
  have l0 : ow' g = 1 := by simp [how]
  have l1 : ow' (g + 1) = 60 := by simp [how]
  have l2 : ow' (g + 2) = 63 := by simp [how]
  have l3 : ow' (g + 3) = 64 := by simp [how]
  have l4 : ow' (g + 4) = 65 := by simp [how]
  have l5 : ow' (g + 5) = 2 := by simp [how]
  have l6 : ow' (g + 6) = 3 := by simp [how]
  have l7 : ow' (g + 7) = 4 := by simp [how]
  have l8 : ow' (g + 8) = 5 := by simp [how]
  have l9 : ow' (g + 9) = 1000 := by simp [how]
  have l10 : ow' (g + 10) = 1001 := by simp [how]
  have l11 : ow' (g + 11) = 1002 := by simp [how]
  have c0 : H g = some (xcl (g + 1) (g + 5) (g + 8) (g + 9) 0) := by simp [hH]
  have c1 : H (g + 1) = some (.inr (0, [.int 0, .int 0, .ref (g + 2), .ref (g + 3), .ref (g + 4), .int 0, .int 0, .int 0])) := by simp [hH]
  have c2 : H (g + 2) = some (icz 100 (fun _ => 0)) := by simp [hH]
  have c3 : H (g + 3) = some (icz 50 (fun _ => 0)) := by simp [hH]
  have c4 : H (g + 4) = some (icz 50 (fun _ => 0)) := by simp [hH]
  have c5 : H (g + 5) = some (.inr (2, [.int 0, .int 0, .ref (g + 6)])) := by simp [hH]
  have c6 : H (g + 6) = some (vcl dv (g + 7)) := by simp [hH]
  have c7 : H (g + 7) = some (icz 40 (fun _ => 0)) := by simp [hH]
  have c8 : H (g + 8) = some (qc 3 4 (fun _ => none)) := by simp [hH]
  have c9 : H (g + 9) = some (scl s00 (g + 10) (g + 11)) := by simp [hH]
  have c10 : H (g + 10) = some (qc 4 100 (fun _ => none)) := by simp [hH]
  have c11 : H (g + 11) = some (icz 100 (fun _ => 0)) := by simp [hH]
  refine ⟨(H, g + 12, c + 12, d + 476), ow', ?_, ⟨fun k => if k = 0 then g + 1 else g + k - 1, g + 5, g + 8, fun _ => none, (1000, g + 9, g + 10, g + 11, fun _ => none), fun i => (1300 + 300 * i, 0, 0, 0, fun _ => none), ⟨l0, c0⟩, ⟨?_, fun _ => 0, tt0, ?_, fun j hj => absurd hj (by show ¬ j < 0; omega)⟩, ⟨g + 6, g + 7, dv, fun _ => 0, 0, 0, l5, l6, l7, c5, c6, c7⟩, ⟨⟨c9, ⟨fun _ => 0, c11⟩, c10, l9, l10, l11, fun i _ q hq => (by cases hq), fun i _ _ => rfl⟩, hg⟩, ⟨l8, c8, fun i hi => ⟨fun q hq => (by cases hq), fun _ => Nat.zero_le _⟩⟩, ⟨Nat.le_refl _, fun i hi => ⟨?_, ?_, fun j hj hji => ?_⟩⟩, ?_⟩, hkeep, hkeep2, hg, rfl, rfl⟩
  · rw [ev_newo]
    dsimp only
    refine mbind_ok (a := ()) ?_
    unfold f_X4_init
    rw [newscr]
    dsimp only
    rw [up_comm _ _ _ (show g + 1 + 1 ≠ g by omega), up_comm _ _ _ (show g + 1 + 2 ≠ g by omega), up_comm _ _ _ (show g + 1 + 3 ≠ g by omega), up_comm _ _ _ (show g + 1 ≠ g by omega), putst _ _ _ _ _ _ _ (by decide), newtri]
    dsimp only
    rw [up_comm _ _ _ (show g + 1 + 4 + 2 ≠ g by omega), up_comm _ _ _ (show g + 1 + 4 + 1 ≠ g by omega), up_comm _ _ _ (show g + 1 + 4 ≠ g by omega), putst _ _ _ _ _ _ _ (by simp), ev_newq _ _ _ (by decide)]
    dsimp only
    rw [up_comm _ _ _ (show g + 1 + 4 + 3 ≠ g by omega), putst _ _ _ _ _ _ _ (by simp), newstate]
    dsimp only
    rw [up_comm _ _ _ (show g + 1 + 4 + 3 + 1 + 2 ≠ g by omega), up_comm _ _ _ (show g + 1 + 4 + 3 + 1 + 1 ≠ g by omega), up_comm _ _ _ (show g + 1 + 4 + 3 + 1 ≠ g by omega), putst _ _ _ _ _ _ _ (by simp), putst _ _ _ _ _ _ _ (by simp)]
    refine congrArg (fun x => some ((), x)) ?_
    refine Prod.ext ?_ rfl
    dsimp only
    rw [hH]
    funext a
    by_cases q0 : a = g
    · subst q0
      rw [up_self, if_pos rfl]
      rfl
    · rw [up_ne _ _ q0, if_neg q0]
      unfold va_up
      by_cases q1 : a = g + 1
      · subst q1
        simp
      · by_cases q2 : a = g + 2
        · subst q2
          simp
        · by_cases q3 : a = g + 3
          · subst q3
            simp
          · by_cases q4 : a = g + 4
            · subst q4
              simp
            · by_cases q5 : a = g + 5
              · subst q5
                simp
              · by_cases q6 : a = g + 6
                · subst q6
                  simp
                · by_cases q7 : a = g + 7
                  · subst q7
                    simp
                  · by_cases q8 : a = g + 8
                    · subst q8
                      simp
                    · by_cases q9 : a = g + 9
                      · subst q9
                        simp
                      · by_cases q10 : a = g + 10
                        · subst q10
                          simp
                        · by_cases q11 : a = g + 11
                          · subst q11
                            simp
                          · rw [if_neg (by omega), if_neg (by omega), if_neg (by omega), if_neg (by omega), if_neg (by omega), if_neg (by omega), if_neg (by omega), if_neg (by omega), if_neg (by omega), if_neg (by omega), if_neg (by omega), if_neg q1, if_neg q2, if_neg q3, if_neg q4, if_neg q5, if_neg q6, if_neg q7, if_neg q8, if_neg q9, if_neg q10, if_neg q11]
  · intro k hk
    have : k = 0 ∨ k = 3 ∨ k = 4 ∨ k = 5 := by
      simp [KS] at hk
      exact hk
    rcases this with e | e | e | e <;> subst e
    · exact l1
    · exact l2
    · exact l3
    · exact l4
  · intro k hk
    have : k = 0 ∨ k = 3 ∨ k = 4 ∨ k = 5 := by
      simp [KS] at hk
      exact hk
    rcases this with e | e | e | e <;> subst e
    · exact c1
    · exact c2
    · exact c3
    · exact c4
  · show 1000 ≤ 1300 + 300 * i
    omega
  · show 1000 + 300 ≤ 1300 + 300 * i ∨ 1300 + 300 * i + 300 ≤ 1000
    omega
  · show 1300 + 300 * i + 300 ≤ 1300 + 300 * j ∨ 1300 + 300 * j + 300 ≤ 1300 + 300 * i
    omega
  · have hc : cnt (fun _ => none) 100 = 100 := by decide
    unfold pot
    rw [pu_none rfl, pu_none rfl, pu_none rfl, pu_none rfl]
    dsimp only
    rw [hc]
def a5 (g : Nat) : Nat → Nat := fun k => if k = 0 then g else if k = 1 then g + 1 else if k = 2 then g + 2 else if k = 4 then g + 3 else if k = 5 then g + 4 else if k = 8 then g + 5 else if k = 11 then g + 6 else if k = 12 then g + 7 else if k = 13 then g + 8 else g + 9
