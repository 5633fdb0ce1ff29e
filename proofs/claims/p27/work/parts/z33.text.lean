/-! PURE PART 33: the text: what a reading does; the class reads so -/
/-- what a reading holds: the kind, whether below 0, the number; how many acts, their kinds and values -/
abbrev TT : Type := Int × Bool × Int × Nat × (Nat → Int) × (Nat → Int)
def tEnd (t : TT) : TT := (t.1, t.2.1, t.2.2.1, t.2.2.2.1 + 1, va_up t.2.2.2.2.1 t.2.2.2.1 t.1, va_up t.2.2.2.2.2 t.2.2.2.1 (if t.2.1 = true then -t.2.2.1 else t.2.2.1))
/-- a byte at a stage: the next stage (-1: it cannot stand here) -/
def tNext (st : Int) (t : TT) (b : Int) : Int × TT :=
  if st = 0 then (if b = 98 then (1, 1, false, 0, t.2.2.2) else if b = 102 then (1, 0, false, 0, t.2.2.2) else if b = 120 then (5, 2, false, 0, t.2.2.2) else if b = 121 then (5, 3, false, 0, t.2.2.2) else (-1, t.1, false, 0, t.2.2.2))
  else if b = 45 ∧ st = 1 then (2, t.1, true, t.2.2)
  else if (48 ≤ b ∧ b ≤ 57) ∧ st < 5 then (if st < 3 then 3 else st + 1, t.1, t.2.1, t.2.2.1 * 10 + (b - 48), t.2.2.2)
  else if b = 59 ∧ 3 ≤ st then (0, tEnd t) else (-1, t)
/-- d bytes from m on: the position of the fault (-1: none), and what was read -/
def tRun (bt : Nat → Int) : Nat → Nat → Int → TT → Int × TT
  | 0, m, st, t => (if st = 0 then -1 else m, t)
  | d + 1, m, st, t => if (tNext st t (bt m)).1 = -1 then (m, (tNext st t (bt m)).2) else tRun bt d (m + 1) (tNext st t (bt m)).1 (tNext st t (bt m)).2
/-- a reading is well under way at a place -/
def TOK (pos : Nat) (st : Int) (t : TT) : Prop := (0 ≤ st ∧ st ≤ 5) ∧ 2 * t.2.2.2.1 + (if st = 0 then 0 else 1) ≤ pos ∧ (st ≠ 0 → (0 ≤ t.1 ∧ t.1 ≤ 3)) ∧ (1 ≤ st → st ≤ 2 → t.2.2.1 = 0) ∧ (st = 3 → 0 ≤ t.2.2.1 ∧ t.2.2.1 ≤ 9) ∧ (st = 4 → 0 ≤ t.2.2.1 ∧ t.2.2.1 ≤ 99) ∧ (st = 5 → 0 ≤ t.2.2.1 ∧ t.2.2.1 ≤ 999) ∧
  ∀ j, j < t.2.2.2.1 → (0 ≤ t.2.2.2.2.1 j ∧ t.2.2.2.2.1 j ≤ 3) ∧ (-999 ≤ t.2.2.2.2.2 j ∧ t.2.2.2.2.2 j ≤ 999)
theorem tok_mk {pos : Nat} {st k : Int} {bl : Bool} {nm : Int} {m : Nat} {ks vs : Nat → Int} (h1 : 0 ≤ st ∧ st ≤ 5) (h2 : 2 * m + (if st = 0 then 0 else 1) ≤ pos) (h3 : st ≠ 0 → (0 ≤ k ∧ k ≤ 3)) (h4 : 1 ≤ st → st ≤ 2 → nm = 0) (h5 : st = 3 → 0 ≤ nm ∧ nm ≤ 9) (h6 : st = 4 → 0 ≤ nm ∧ nm ≤ 99) (h7 : st = 5 → 0 ≤ nm ∧ nm ≤ 999) (h8 : ∀ j, j < m → (0 ≤ ks j ∧ ks j ≤ 3) ∧ (-999 ≤ vs j ∧ vs j ≤ 999)) : TOK pos st (k, bl, nm, m, ks, vs) := ⟨h1, h2, h3, h4, h5, h6, h7, h8⟩
theorem tok_next {pos : Nat} {st : Int} {t : TT} (h : TOK pos st t) (b : Int) (hn : (tNext st t b).1 ≠ -1) : TOK (pos + 1) (tNext st t b).1 (tNext st t b).2 := by
  obtain ⟨k, bl, nm, m, ks, vs⟩ := t
  obtain ⟨h1, h2, h3, h4, h5, h6, h7, h8⟩ := h
  dsimp only at h2 h3 h4 h5 h6 h7 h8
  unfold tNext at hn ⊢
  by_cases e0 : st = 0
  · rw [if_pos e0] at hn h2 ⊢
    by_cases e1 : b = 98
    · rw [if_pos e1]
      dsimp only
      exact tok_mk (by decide) (by rw [if_neg (by decide)]; omega) (fun _ => by decide) (fun _ _ => rfl) (fun hh => absurd hh (by decide)) (fun hh => absurd hh (by decide)) (fun hh => absurd hh (by decide)) h8
    · rw [if_neg e1] at hn ⊢
      by_cases e2 : b = 102
      · rw [if_pos e2]
        dsimp only
        exact tok_mk (by decide) (by rw [if_neg (by decide)]; omega) (fun _ => by decide) (fun _ _ => rfl) (fun hh => absurd hh (by decide)) (fun hh => absurd hh (by decide)) (fun hh => absurd hh (by decide)) h8
      · rw [if_neg e2] at hn ⊢
        by_cases e3 : b = 120
        · rw [if_pos e3]
          dsimp only
          exact tok_mk (by decide) (by rw [if_neg (by decide)]; omega) (fun _ => by decide) (fun _ _ => rfl) (fun hh => absurd hh (by decide)) (fun hh => absurd hh (by decide)) (fun _ => by decide) h8
        · rw [if_neg e3] at hn ⊢
          by_cases e4 : b = 121
          · rw [if_pos e4]
            dsimp only
            exact tok_mk (by decide) (by rw [if_neg (by decide)]; omega) (fun _ => by decide) (fun _ _ => rfl) (fun hh => absurd hh (by decide)) (fun hh => absurd hh (by decide)) (fun _ => by decide) h8
          · rw [if_neg e4] at hn
            exact absurd rfl hn
  · rw [if_neg e0] at hn h2 ⊢
    by_cases e1 : b = 45 ∧ st = 1
    · rw [if_pos e1]
      dsimp only
      exact tok_mk (by decide) (by rw [if_neg (by decide)]; omega) (fun _ => h3 e0) (fun _ _ => h4 (by omega) (by omega)) (fun hh => absurd hh (by decide)) (fun hh => absurd hh (by decide)) (fun hh => absurd hh (by decide)) h8
    · rw [if_neg e1] at hn ⊢
      by_cases e2 : (48 ≤ b ∧ b ≤ 57) ∧ st < 5
      · rw [if_pos e2]
        have hs : st = 1 ∨ st = 2 ∨ st = 3 ∨ st = 4 := by omega
        rcases hs with e | e | e | e
        · subst e
          have := h4 (by decide) (by decide)
          rw [if_pos (by decide)]
          dsimp only
          exact tok_mk (by decide) (by rw [if_neg (by decide)]; omega) (fun _ => h3 e0) (fun _ hh => absurd hh (by decide)) (fun _ => by omega) (fun hh => absurd hh (by decide)) (fun hh => absurd hh (by decide)) h8
        · subst e
          have := h4 (by decide) (by decide)
          rw [if_pos (by decide)]
          dsimp only
          exact tok_mk (by decide) (by rw [if_neg (by decide)]; omega) (fun _ => h3 e0) (fun _ hh => absurd hh (by decide)) (fun _ => by omega) (fun hh => absurd hh (by decide)) (fun hh => absurd hh (by decide)) h8
        · subst e
          have := h5 rfl
          rw [if_neg (by decide)]
          dsimp only
          exact tok_mk (by decide) (by rw [if_neg (by decide)]; omega) (fun _ => h3 e0) (fun _ hh => absurd hh (by decide)) (fun hh => absurd hh (by decide)) (fun _ => by omega) (fun hh => absurd hh (by decide)) h8
        · subst e
          have := h6 rfl
          rw [if_neg (by decide)]
          dsimp only
          exact tok_mk (by decide) (by rw [if_neg (by decide)]; omega) (fun _ => h3 e0) (fun _ hh => absurd hh (by decide)) (fun hh => absurd hh (by decide)) (fun hh => absurd hh (by decide)) (fun _ => by omega) h8
      · rw [if_neg e2] at hn ⊢
        by_cases e3 : b = 59 ∧ 3 ≤ st
        · rw [if_pos e3]
          unfold tEnd
          dsimp only
          refine tok_mk (by decide) (by rw [if_pos rfl]; omega) (fun hh => absurd rfl hh) (fun hh => absurd hh (by decide)) (fun hh => absurd hh (by decide)) (fun hh => absurd hh (by decide)) (fun hh => absurd hh (by decide)) ?_
          intro j hj
          by_cases e : j = m
          · rw [e, up_self, up_self]
            refine ⟨h3 e0, ?_⟩
            have : 0 ≤ nm ∧ nm ≤ 999 := by
              have : st = 3 ∨ st = 4 ∨ st = 5 := by omega
              rcases this with q | q | q
              · have := h5 q; omega
              · have := h6 q; omega
              · exact h7 q
            split <;> omega
          · rw [up_ne _ _ e, up_ne _ _ e]
            exact h8 j (by omega)
        · rw [if_neg e3] at hn
          exact absurd rfl hn
theorem tok_run (bt : Nat → Int) : ∀ d m st t, TOK m st t → 2 * (tRun bt d m st t).2.2.2.2.1 ≤ m + d ∧ ∀ j, j < (tRun bt d m st t).2.2.2.2.1 → (0 ≤ (tRun bt d m st t).2.2.2.2.2.1 j ∧ (tRun bt d m st t).2.2.2.2.2.1 j ≤ 3) ∧ (-999 ≤ (tRun bt d m st t).2.2.2.2.2.2 j ∧ (tRun bt d m st t).2.2.2.2.2.2 j ≤ 999)
  | 0, m, st, t, h => by
    unfold tRun
    obtain ⟨h1, h2, h3, h4, h5, h6, h7, h8⟩ := h
    exact ⟨by show 2 * t.2.2.2.1 ≤ m + 0; split at h2 <;> omega, h8⟩
  | d + 1, m, st, t, h => by
    unfold tRun
    by_cases e : (tNext st t (bt m)).1 = -1
    · rw [if_pos e]
      obtain ⟨h1, h2, h3, h4, h5, h6, h7, h8⟩ := h
      have e2 : (tNext st t (bt m)).2.2.2.2 = t.2.2.2 := by
        unfold tNext at e ⊢
        split at e
        · rename_i e0
          rw [if_pos e0]
          repeat' split
          all_goals rfl
        · rename_i e0
          rw [if_neg e0]
          split at e
          · cases e
          · rename_i e1
            rw [if_neg e1]
            split at e
            · have e' : (if st < 3 then (3 : Int) else st + 1) = -1 := e
              split at e' <;> omega
            · rename_i e2
              rw [if_neg e2]
              split at e
              · cases e
              · rename_i e3
                rw [if_neg e3]
      dsimp only
      rw [e2]
      exact ⟨by split at h2 <;> omega, h8⟩
    · rw [if_neg e]
      have ih := tok_run bt d (m + 1) _ _ (tok_next h (bt m) e)
      rw [show m + 1 + d = m + (d + 1) by omega] at ih
      exact ih
/-- the script of the class: its object, its three arrays -/
def sob (ad : Nat → Nat) (z : Nat → Int) : LE := .inr (0, [.int (iI (z 0)), .int (iI (z 1)), .ref (ad 3), .ref (ad 4), .ref (ad 5), .int (iI (z 5)), .int (iI (z 6)), .int (iI (z 7))])
def slN (k : Nat) : Nat := if k = 3 then 100 else 50
def KS : List Nat := [0, 3, 4, 5]
def tz (n : Int) (t : TT) : Nat → Int := fun k => if k = 0 then n else if k = 1 then (t.2.2.2.1 : Int) else if k = 5 then t.1 else if k = 6 then b2i t.2.1 else if k = 7 then t.2.2.1 else 0
def tc (bt : Nat → Int) (t : TT) : Nat → Nat → Int := fun k => if k = 3 then bt else if k = 4 then t.2.2.2.2.1 else if k = 5 then t.2.2.2.2.2 else fun _ => 0
def SH (G : GH) (ad : Nat → Nat) (n : Int) (bt : Nat → Int) (t : TT) : GH := MH G ad (OB (sob ad) slN (tz n t) (tc bt t)) KS
theorem sh_o {G : GH} {ad : Nat → Nat} (hi : injK ad KS) (n : Int) (bt : Nat → Int) (t : TT) : (SH G ad n bt t).1 (ad 0) = some (sob ad (tz n t)) := oh_o hi _ _ (by decide)
theorem sh_3 {G : GH} {ad : Nat → Nat} (hi : injK ad KS) (n : Int) (bt : Nat → Int) (t : TT) : (SH G ad n bt t).1 (ad 3) = some (icz 100 bt) := oh_a hi _ _ (k := 3) (by decide) (by decide)
theorem sh_4 {G : GH} {ad : Nat → Nat} (hi : injK ad KS) (n : Int) (bt : Nat → Int) (t : TT) : (SH G ad n bt t).1 (ad 4) = some (icz 50 t.2.2.2.2.1) := oh_a hi _ _ (k := 4) (by decide) (by decide)
theorem sh_5 {G : GH} {ad : Nat → Nat} (hi : injK ad KS) (n : Int) (bt : Nat → Int) (t : TT) : (SH G ad n bt t).1 (ad 5) = some (icz 50 t.2.2.2.2.2) := oh_a hi _ _ (k := 5) (by decide) (by decide)
theorem sh_g0 {β : Type} {G : GH} {ad : Nat → Nat} (hi : injK ad KS) (n : Int) (bt : Nat → Int) (t : TT) (F : Int32 → MM β) : (mbind (mgi (ad 0) 0 0) F).1 (SH G ad n bt t) = (F (iI n)).1 (SH G ad n bt t) := by
  rw [ev_gi, sh_o hi]
  rfl
theorem sh_g1 {β : Type} {G : GH} {ad : Nat → Nat} (hi : injK ad KS) (n : Int) (bt : Nat → Int) (t : TT) (F : Int32 → MM β) : (mbind (mgi (ad 0) 0 1) F).1 (SH G ad n bt t) = (F (iI t.2.2.2.1)).1 (SH G ad n bt t) := by
  rw [ev_gi, sh_o hi]
  rfl
theorem sh_g5 {β : Type} {G : GH} {ad : Nat → Nat} (hi : injK ad KS) (n : Int) (bt : Nat → Int) (t : TT) (F : Int32 → MM β) : (mbind (mgi (ad 0) 0 5) F).1 (SH G ad n bt t) = (F (iI t.1)).1 (SH G ad n bt t) := by
  rw [ev_gi, sh_o hi]
  rfl
theorem sh_g6 {β : Type} {G : GH} {ad : Nat → Nat} (hi : injK ad KS) (n : Int) (bt : Nat → Int) (t : TT) (F : Int32 → MM β) : (mbind (mgi (ad 0) 0 6) F).1 (SH G ad n bt t) = (F (iI (b2i t.2.1))).1 (SH G ad n bt t) := by
  rw [ev_gi, sh_o hi]
  rfl
theorem sh_g7 {β : Type} {G : GH} {ad : Nat → Nat} (hi : injK ad KS) (n : Int) (bt : Nat → Int) (t : TT) (F : Int32 → MM β) : (mbind (mgi (ad 0) 0 7) F).1 (SH G ad n bt t) = (F (iI t.2.2.1)).1 (SH G ad n bt t) := by
  rw [ev_gi, sh_o hi]
  rfl
theorem sh_r2 {β : Type} {G : GH} {ad : Nat → Nat} (hi : injK ad KS) (n : Int) (bt : Nat → Int) (t : TT) (F : Nat → MM β) : (mbind (mgr (ad 0) 0 2) F).1 (SH G ad n bt t) = (F (ad 3)).1 (SH G ad n bt t) := by
  rw [ev_gr, sh_o hi]
  rfl
theorem sh_r3 {β : Type} {G : GH} {ad : Nat → Nat} (hi : injK ad KS) (n : Int) (bt : Nat → Int) (t : TT) (F : Nat → MM β) : (mbind (mgr (ad 0) 0 3) F).1 (SH G ad n bt t) = (F (ad 4)).1 (SH G ad n bt t) := by
  rw [ev_gr, sh_o hi]
  rfl
theorem sh_r4 {β : Type} {G : GH} {ad : Nat → Nat} (hi : injK ad KS) (n : Int) (bt : Nat → Int) (t : TT) (F : Nat → MM β) : (mbind (mgr (ad 0) 0 4) F).1 (SH G ad n bt t) = (F (ad 5)).1 (SH G ad n bt t) := by
  rw [ev_gr, sh_o hi]
  rfl
theorem sh_ck {β : Type} {G : GH} {ad : Nat → Nat} (hi : injK ad KS) (n : Int) (bt : Nat → Int) (t : TT) (F : Unit → MM β) : (mbind (mchk (ad 0) 0) F).1 (SH G ad n bt t) = (F ()).1 (SH G ad n bt t) := by
  rw [ev_chk, sh_o hi]
  rfl
theorem sh_up {G : GH} {ad : Nat → Nat} (hi : injK ad KS) (n : Int) (bt : Nat → Int) (t : TT) (z' : Nat → Int) (n' : Int) (t' : TT) (h1 : ∀ k, k < 8 → z' k = tz n' t' k) (h4 : t'.2.2.2.2 = t.2.2.2.2) : ((va_up (SH G ad n bt t).1 (ad 0) (some (sob ad z')), (SH G ad n bt t).2) : GH) = SH G ad n' bt t' := by
  have e1 : sob ad z' = sob ad (tz n' t') := by
    unfold sob
    rw [h1 0 (by decide), h1 1 (by decide), h1 5 (by decide), h1 6 (by decide), h1 7 (by decide)]
  have e2 : tc bt t' = tc bt t := by unfold tc; rw [h4]
  unfold SH
  rw [e1, e2, oh_so hi _ _ (by decide)]
theorem sh_p0 {β : Type} {G : GH} {ad : Nat → Nat} (hi : injK ad KS) (n : Int) (bt : Nat → Int) (t : TT) (n' : Int) (F : Unit → MM β) : (mbind (mput (ad 0) 0 0 (.int (iI n'))) F).1 (SH G ad n bt t) = (F ()).1 (SH G ad n' bt t) := by
  rw [ev_put, sh_o hi, show gput (some (sob ad (tz n t))) 0 0 (.int (iI n')) = some (sob ad (va_up (tz n t) 0 n')) from rfl, Option.elim_some, sh_up hi n bt t _ n' t (fun k hk => ?_) rfl]
  unfold va_up tz
  by_cases e : k = 0 <;> simp [e]
theorem sh_p1 {β : Type} {G : GH} {ad : Nat → Nat} (hi : injK ad KS) (n : Int) (bt : Nat → Int) (t : TT) (m : Nat) (F : Unit → MM β) : (mbind (mput (ad 0) 0 1 (.int (iI m))) F).1 (SH G ad n bt t) = (F ()).1 (SH G ad n bt (t.1, t.2.1, t.2.2.1, m, t.2.2.2.2)) := by
  rw [ev_put, sh_o hi, show gput (some (sob ad (tz n t))) 0 1 (.int (iI m)) = some (sob ad (va_up (tz n t) 1 m)) from rfl, Option.elim_some, sh_up hi n bt t _ n (t.1, t.2.1, t.2.2.1, m, t.2.2.2.2) (fun k hk => ?_) rfl]
  unfold va_up tz
  by_cases e : k = 1 <;> simp [e]
theorem sh_p5 {β : Type} {G : GH} {ad : Nat → Nat} (hi : injK ad KS) (n : Int) (bt : Nat → Int) (t : TT) (x : Int) (F : Unit → MM β) : (mbind (mput (ad 0) 0 5 (.int (iI x))) F).1 (SH G ad n bt t) = (F ()).1 (SH G ad n bt (x, t.2)) := by
  rw [ev_put, sh_o hi, show gput (some (sob ad (tz n t))) 0 5 (.int (iI x)) = some (sob ad (va_up (tz n t) 5 x)) from rfl, Option.elim_some, sh_up hi n bt t _ n (x, t.2) (fun k hk => ?_) rfl]
  unfold va_up tz
  by_cases e : k = 5 <;> simp [e]
theorem sh_p6 {β : Type} {G : GH} {ad : Nat → Nat} (hi : injK ad KS) (n : Int) (bt : Nat → Int) (t : TT) (b : Bool) (F : Unit → MM β) : (mbind (mput (ad 0) 0 6 (.int (iI (b2i b)))) F).1 (SH G ad n bt t) = (F ()).1 (SH G ad n bt (t.1, b, t.2.2)) := by
  rw [ev_put, sh_o hi, show gput (some (sob ad (tz n t))) 0 6 (.int (iI (b2i b))) = some (sob ad (va_up (tz n t) 6 (b2i b))) from rfl, Option.elim_some, sh_up hi n bt t _ n (t.1, b, t.2.2) (fun k hk => ?_) rfl]
  unfold va_up tz
  by_cases e : k = 6 <;> simp [e]
theorem sh_p7 {β : Type} {G : GH} {ad : Nat → Nat} (hi : injK ad KS) (n : Int) (bt : Nat → Int) (t : TT) (x : Int) (F : Unit → MM β) : (mbind (mput (ad 0) 0 7 (.int (iI x))) F).1 (SH G ad n bt t) = (F ()).1 (SH G ad n bt (t.1, t.2.1, x, t.2.2.2)) := by
  rw [ev_put, sh_o hi, show gput (some (sob ad (tz n t))) 0 7 (.int (iI x)) = some (sob ad (va_up (tz n t) 7 x)) from rfl, Option.elim_some, sh_up hi n bt t _ n (t.1, t.2.1, x, t.2.2.2) (fun k hk => ?_) rfl]
  unfold va_up tz
  by_cases e : k = 7 <;> simp [e]
theorem sh_ua {G : GH} {ad : Nat → Nat} (hi : injK ad KS) (n : Int) (bt : Nat → Int) (t : TT) (k : Nat) (hk : k = 3 ∨ k = 4 ∨ k = 5) (f : Nat → Int) (bt' : Nat → Int) (t' : TT) (h1 : ∀ k, tz n t' k = tz n t k) (h2 : va_up (tc bt t) k f = tc bt' t') : ((va_up (SH G ad n bt t).1 (ad k) (some (icz (slN k) f)), (SH G ad n bt t).2) : GH) = SH G ad n bt' t' := by
  have e1 : tz n t' = tz n t := funext h1
  unfold SH
  rw [oh_sa hi _ _ (k := k) (by rcases hk with e | e | e <;> subst e <;> decide) (by omega), h2, e1]
theorem sh_f4 {G : GH} {ad : Nat → Nat} (hi : injK ad KS) (n : Int) (bt : Nat → Int) (t : TT) (m : Nat) (hm : m < 50) (x : Int) : (f_X4_fill (ad 4) (iI m) (iI x)).1 (SH G ad n bt t) = some ((), SH G ad n bt (t.1, t.2.1, t.2.2.1, t.2.2.2.1, va_up t.2.2.2.2.1 m x, t.2.2.2.2.2)) := by
  rw [fill_run (sh_4 hi n bt t) (by omega) (by omega) (by omega), upd_iI]
  refine congrArg (fun q => some ((), q)) ?_
  refine (sh_ua hi n bt t 4 (by decide) _ bt (t.1, t.2.1, t.2.2.1, t.2.2.2.1, va_up t.2.2.2.2.1 m x, t.2.2.2.2.2) (fun _ => rfl) ?_)
  funext k
  unfold va_up tc
  by_cases e : k = 4
  · simp [e]
  · simp [e]
theorem sh_f5 {G : GH} {ad : Nat → Nat} (hi : injK ad KS) (n : Int) (bt : Nat → Int) (t : TT) (m : Nat) (hm : m < 50) (x : Int) : (f_X4_fill (ad 5) (iI m) (iI x)).1 (SH G ad n bt t) = some ((), SH G ad n bt (t.1, t.2.1, t.2.2.1, t.2.2.2.1, t.2.2.2.2.1, va_up t.2.2.2.2.2 m x)) := by
  rw [fill_run (sh_5 hi n bt t) (by omega) (by omega) (by omega), upd_iI]
  refine congrArg (fun q => some ((), q)) ?_
  refine (sh_ua hi n bt t 5 (by decide) _ bt (t.1, t.2.1, t.2.2.1, t.2.2.2.1, t.2.2.2.2.1, va_up t.2.2.2.2.2 m x) (fun _ => rfl) ?_)
  funext k
  unfold va_up tc
  by_cases e : k = 5
  · simp [e]
  · simp [e]
theorem sh_f3 {G : GH} {ad : Nat → Nat} (hi : injK ad KS) (n : Int) (bt : Nat → Int) (t : TT) (m : Nat) (hm : m < 100) (x : Int) : (f_X4_fill (ad 3) (iI m) (iI x)).1 (SH G ad n bt t) = some ((), SH G ad n (va_up bt m x) t) := by
  rw [fill_run (sh_3 hi n bt t) (by omega) (by omega) (by omega), upd_iI]
  refine congrArg (fun q => some ((), q)) ?_
  refine (sh_ua hi n bt t 3 (by decide) _ (va_up bt m x) t (fun _ => rfl) ?_)
  funext k
  by_cases e : k = 3
  · subst e
    rw [up_self]
    rfl
  · rw [up_ne _ _ e]
    unfold tc
    rw [if_neg e, if_neg e]
theorem end_m {G : GH} {ad : Nat → Nat} (hi : injK ad KS) (n : Int) (bt : Nat → Int) (t : TT) (hm : t.2.2.2.1 < 50) : (f_X0_end (ad 0)).1 (SH G ad n bt t) = some ((), SH G ad n bt (tEnd t)) := by
  unfold f_X0_end
  rw [sh_r3 hi, sh_g1 hi, sh_g5 hi, mbind_ok (sh_f4 hi n bt t _ hm _), sh_r4 hi, sh_g1 hi, sh_g6 hi]
  have hq : ∀ b : Bool, t.2.1 = b → (if iI (b2i b) = 0 then (mbind (mgi (ad 0) 0 7) (fun x7 => (mbind (f_X4_fill (ad 5) (iI t.2.2.2.1) x7) (fun _ => (mbind (mgi (ad 0) 0 1) (fun x8 => (mbind (mput (ad 0) 0 1 (.int (x8 + 1))) (fun _ => (mpure ()))))))))) else (mbind (mgi (ad 0) 0 7) (fun x9 => (mbind (f_X4_fill (ad 5) (iI t.2.2.2.1) (-x9)) (fun _ => (mbind (mgi (ad 0) 0 1) (fun x10 => (mbind (mput (ad 0) 0 1 (.int (x10 + 1))) (fun _ => (mpure ())))))))))).1 (SH G ad n bt (t.1, t.2.1, t.2.2.1, t.2.2.2.1, va_up t.2.2.2.2.1 t.2.2.2.1 t.1, t.2.2.2.2.2)) = some ((), SH G ad n bt (tEnd t)) := by
    intro b hb
    cases b with
    | false =>
      rw [if_pos (show iI (b2i false) = 0 from rfl), sh_g7 hi, mbind_ok (sh_f5 hi n bt _ _ hm _), sh_g1 hi, lz1, iI_add, show ((t.2.2.2.1 : Nat) : Int) + 1 = ((t.2.2.2.1 + 1 : Nat) : Int) by omega, sh_p1 hi]
      unfold tEnd
      rw [if_neg (by rw [hb]; decide)]
      rfl
    | true =>
      rw [if_neg (show ¬ iI (b2i true) = 0 by decide), sh_g7 hi, iI_neg, mbind_ok (sh_f5 hi n bt _ _ hm _), sh_g1 hi, lz1, iI_add, show ((t.2.2.2.1 : Nat) : Int) + 1 = ((t.2.2.2.1 + 1 : Nat) : Int) by omega, sh_p1 hi]
      unfold tEnd
      rw [if_pos (by rw [hb])]
      rfl
  exact hq t.2.1 rfl
theorem begin_m {G : GH} {ad : Nat → Nat} (hi : injK ad KS) (n : Int) (bt : Nat → Int) (t : TT) (b : Int) (hb : -1 ≤ b ∧ b ≤ 1000) : (f_X0_begin (ad 0) (iI b)).1 (SH G ad n bt t) = some (iI (tNext 0 t b).1, SH G ad n bt (tNext 0 t b).2) := by
  unfold f_X0_begin tNext
  rw [show (Value.int 0) = Value.int (iI (b2i false)) from rfl, sh_p6 hi, show (Value.int (iI (b2i false))) = Value.int (iI 0) from rfl, sh_p7 hi, if_pos rfl]
  by_cases e1 : b = 98
  · subst e1
    rw [if_pos (show iI 98 = 98 from rfl), if_pos rfl, show (Value.int 1) = Value.int (iI 1) from rfl, sh_p5 hi]
    rfl
  · rw [if_neg (show ¬ iI b = 98 by rw [show (98 : Int32) = iI 98 from rfl, iI_eq (by omega) (by omega) (by omega) (by omega)]; exact e1), if_neg e1]
    by_cases e2 : b = 102
    · subst e2
      rw [if_pos (show iI 102 = 102 from rfl), if_pos rfl, show (Value.int (iI 0)) = Value.int (iI 0) from rfl, sh_p5 hi]
      rfl
    · rw [if_neg (show ¬ iI b = 102 by rw [show (102 : Int32) = iI 102 from rfl, iI_eq (by omega) (by omega) (by omega) (by omega)]; exact e2), if_neg e2]
      by_cases e3 : b = 120
      · subst e3
        rw [if_pos (show iI 120 = 120 from rfl), if_pos rfl, show (Value.int 2) = Value.int (iI 2) from rfl, sh_p5 hi]
        rfl
      · rw [if_neg (show ¬ iI b = 120 by rw [show (120 : Int32) = iI 120 from rfl, iI_eq (by omega) (by omega) (by omega) (by omega)]; exact e3), if_neg e3]
        by_cases e4 : b = 121
        · subst e4
          rw [if_pos (show iI 121 = 121 from rfl), if_pos rfl, show (Value.int 3) = Value.int (iI 3) from rfl, sh_p5 hi]
          rfl
        · rw [if_neg (show ¬ iI b = 121 by rw [show (121 : Int32) = iI 121 from rfl, iI_eq (by omega) (by omega) (by omega) (by omega)]; exact e4), if_neg e4]
          rfl
theorem next28_m {G : GH} {ad : Nat → Nat} (hi : injK ad KS) (n : Int) (bt : Nat → Int) (t : TT) (st b : Int) (hs : 1 ≤ st ∧ st ≤ 5) (hb : -1 ≤ b ∧ b ≤ 1000) (h45 : ¬ (b = 45 ∧ st = 1)) (hm : t.2.2.2.1 < 50) : (f_X0_next_28 (ad 0) (iI st) (iI b)).1 (SH G ad n bt t) = some (iI (tNext st t b).1, SH G ad n bt (tNext st t b).2) := by
  have hsemi : ¬ ((48 ≤ b ∧ b ≤ 57) ∧ st < 5) → (if iI b = 59 then (if iI st < 3 then (mpure (-1)) else (mbind (mchk (ad 0) 0) (fun _ => mbind (f_X0_end (ad 0)) (fun _ => (mpure 0))))) else (mpure (-1)) : MM Int32).1 (SH G ad n bt t) = some (iI (tNext st t b).1, SH G ad n bt (tNext st t b).2) := by
    intro hd
    unfold tNext
    rw [if_neg (by omega : ¬ st = 0), if_neg h45, if_neg hd]
    by_cases e : b = 59
    · rw [if_pos (by rw [e]; rfl)]
      by_cases e3 : st < 3
      · rw [if_pos (by rw [lz3, iI_lt (by omega) (by omega) (by omega) (by omega)]; exact e3), if_neg (by omega)]
        rfl
      · rw [if_neg (by rw [lz3, iI_lt (by omega) (by omega) (by omega) (by omega)]; exact e3), if_pos ⟨e, by omega⟩, sh_ck hi, mbind_ok (end_m hi n bt t hm)]
        rfl
    · rw [if_neg (by rw [show (59 : Int32) = iI 59 from rfl, iI_eq (by omega) (by omega) (by omega) (by omega)]; exact e), if_neg (fun hh => e hh.1)]
      rfl
  unfold f_X0_next_28
  by_cases e1 : b < 48
  · rw [if_pos (by rw [show (48 : Int32) = iI 48 from rfl, iI_lt (by omega) (by omega) (by omega) (by omega)]; exact e1)]
    exact hsemi (by omega)
  · rw [if_neg (by rw [show (48 : Int32) = iI 48 from rfl, iI_lt (by omega) (by omega) (by omega) (by omega)]; exact e1)]
    by_cases e2 : 57 < b
    · rw [if_pos (by rw [show (57 : Int32) = iI 57 from rfl, iI_lt (by omega) (by omega) (by omega) (by omega)]; exact e2)]
      exact hsemi (by omega)
    · rw [if_neg (by rw [show (57 : Int32) = iI 57 from rfl, iI_lt (by omega) (by omega) (by omega) (by omega)]; exact e2)]
      by_cases e3 : 5 ≤ st
      · rw [if_pos (by rw [lz5, iI_le (by omega) (by omega) (by omega) (by omega)]; exact e3)]
        exact hsemi (by omega)
      · rw [if_neg (by rw [lz5, iI_le (by omega) (by omega) (by omega) (by omega)]; exact e3)]
        unfold tNext
        rw [if_neg (by omega : ¬ st = 0), if_neg h45, if_pos (show (48 ≤ b ∧ b ≤ 57) ∧ st < 5 by omega), sh_g7 hi, lz10, iI_mul, show (48 : Int32) = iI 48 from rfl, iI_sub, iI_add, sh_p7 hi]
        by_cases e4 : 3 ≤ st
        · rw [if_pos (by rw [lz3, iI_le (by omega) (by omega) (by omega) (by omega)]; exact e4), if_neg (show ¬ st < 3 by omega), lz1, iI_add]
          rfl
        · rw [if_neg (by rw [lz3, iI_le (by omega) (by omega) (by omega) (by omega)]; exact e4), if_pos (show st < 3 by omega)]
          rfl
theorem next_m {G : GH} {ad : Nat → Nat} (hi : injK ad KS) (n : Int) (bt : Nat → Int) (t : TT) (st b : Int) (hs : 0 ≤ st ∧ st ≤ 5) (hb : -1 ≤ b ∧ b ≤ 1000) (hm : st ≠ 0 → t.2.2.2.1 < 50) : (f_X0_next (ad 0) (iI st) (iI b)).1 (SH G ad n bt t) = some (iI (tNext st t b).1, SH G ad n bt (tNext st t b).2) := by
  unfold f_X0_next
  by_cases e0 : st = 0
  · subst e0
    rw [if_pos (show iI 0 = 0 from rfl), sh_ck hi, mbind_ok (begin_m hi n bt t b hb)]
    rfl
  · rw [if_neg (by rw [lz0, iI_eq (by omega) (by omega) (by omega) (by omega)]; exact e0)]
    by_cases e1 : b = 45
    · rw [if_pos (by rw [e1]; rfl)]
      by_cases e2 : st = 1
      · rw [if_pos (by rw [e2]; rfl), show (Value.int 1) = Value.int (iI (b2i true)) from rfl, sh_p6 hi]
        unfold tNext
        rw [if_neg e0, if_pos ⟨e1, e2⟩]
        rfl
      · rw [if_neg (by rw [lz1, iI_eq (by omega) (by omega) (by omega) (by omega)]; exact e2)]
        exact next28_m hi n bt t st b (by omega) hb (fun hh => e2 hh.2) (hm e0)
    · rw [if_neg (by rw [show (45 : Int32) = iI 45 from rfl, iI_eq (by omega) (by omega) (by omega) (by omega)]; exact e1)]
      exact next28_m hi n bt t st b (by omega) hb (fun hh => e1 hh.1) (hm e0)
theorem tn_b {ad : Nat → Nat} (hi : injK ad KS) {pos : Nat} {st : Int} {t : TT} (h : TOK pos st t) (b : Int) : -1 ≤ (tNext st t b).1 ∧ (tNext st t b).1 ≤ 5 := by
  by_cases e : (tNext st t b).1 = -1
  · omega
  · have := (tok_next h b e).1
    omega
theorem read_loop {G : GH} {ad : Nat → Nat} (hi : injK ad KS) (bt : Nat → Int) (t : TT) {m' : Nat} (hn : m' ≤ 100) (hb : ∀ j, j < m' → 0 ≤ bt j ∧ bt j ≤ 127) : ∀ d fu m st t, m + d = m' → d < fu → TOK m st t → (f_X0_read_9 fu (ad 0) (iI st) (iI m)).1 (SH G ad m' bt t) = some (iI (tRun bt d m st t).1, SH G ad m' bt (tRun bt d m st t).2)
  | _, 0, _, _, _, _, h, _ => absurd h (by omega)
  | 0, fu + 1, m, st, t, e, _, hk => by
    have hs := hk.1
    unfold f_X0_read_9 tRun
    rw [sh_g0 hi, if_pos (by rw [iI_le (by omega) (by omega) (by omega) (by omega)]; omega)]
    by_cases e0 : st = 0
    · rw [if_pos (by rw [e0]; rfl), if_pos e0]
      rfl
    · rw [if_neg (by rw [lz0, iI_eq (by omega) (by omega) (by omega) (by omega)]; exact e0), if_neg e0, sh_g0 hi, show m' = m by omega]
      rfl
  | d + 1, fu + 1, m, st, t, e, hf, hk => by
    have hs := hk.1
    have h2 := hk.2.1
    have hbm := hb m (by omega)
    have ht := tn_b (ad := ad) hi hk (bt m)
    unfold f_X0_read_9 tRun
    rw [sh_g0 hi, if_neg (by rw [iI_le (by omega) (by omega) (by omega) (by omega)]; omega), sh_r2 hi, mbind_ok (cell_run (sh_3 hi m' bt t) (z := (m : Int)) (by omega) (by omega) (by omega)), sh_ck hi]
    rw [show ((m : Int)).toNat = m by omega, mbind_ok (next_m hi m' bt t st (bt m) hs (by omega) (fun hh => by rw [if_neg hh] at h2; omega))]
    by_cases e1 : (tNext st t (bt m)).1 = -1
    · rw [if_pos (by rw [e1]; rfl), if_pos e1]
      rfl
    · rw [if_neg (by rw [lzm1, iI_eq (by omega) (by omega) (by omega) (by omega)]; exact e1), if_neg e1, show iI (m : Int) + 1 = iI ((m + 1 : Nat) : Int) by rw [lz1, iI_add]; rfl]
      exact read_loop hi bt t hn hb d fu (m + 1) _ _ (by omega) (by omega) (tok_next hk (bt m) e1)
theorem read_m {G : GH} {ad : Nat → Nat} (hi : injK ad KS) (bt : Nat → Int) (t : TT) {m' : Nat} (hn : m' ≤ 100) (hb : ∀ j, j < m' → 0 ≤ bt j ∧ bt j ≤ 127) : (f_X0_read (ad 0)).1 (SH G ad m' bt t) = some (iI (tRun bt m' 0 0 (t.1, t.2.1, t.2.2.1, 0, t.2.2.2.2)).1, SH G ad m' bt (tRun bt m' 0 0 (t.1, t.2.1, t.2.2.1, 0, t.2.2.2.2)).2) := by
  have h := read_loop (G := G) hi bt t hn hb m' FU 0 0 (t.1, t.2.1, t.2.2.1, 0, t.2.2.2.2) (by omega) (by unfold FU; omega) (tok_mk (ks := t.2.2.2.2.1) (vs := t.2.2.2.2.2) (by decide) (by decide) (fun hh => absurd rfl hh) (fun hh => absurd hh (by decide)) (fun hh => absurd hh (by decide)) (fun hh => absurd hh (by decide)) (fun hh => absurd hh (by decide)) (fun j hj => absurd hj (by omega)))
  rw [show iI ((0 : Nat) : Int) = 0 from rfl, show iI 0 = 0 from rfl] at h
  unfold f_X0_read
  rw [show (Value.int 0) = Value.int (iI ((0 : Nat) : Int)) from rfl, sh_p1 hi]
  exact h
