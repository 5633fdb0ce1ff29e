/-! PURE PART 47: the class's text: append, clearText, read, run -/
def sim (st : Int) (t t' : TT) : Prop := t.2.2.2.1 = t'.2.2.2.1 ∧ (∀ j, j < t.2.2.2.1 → t.2.2.2.2.1 j = t'.2.2.2.2.1 j ∧ t.2.2.2.2.2 j = t'.2.2.2.2.2 j) ∧ (0 < st → t.1 = t'.1 ∧ t.2.1 = t'.2.1 ∧ t.2.2.1 = t'.2.2.1)
theorem sim_next {st : Int} {t t' : TT} (h : sim st t t') (hs : 0 ≤ st) (b : Int) : (tNext st t b).1 = (tNext st t' b).1 ∧ sim (tNext st t b).1 (tNext st t b).2 (tNext st t' b).2 := by
  obtain ⟨k, bl, nm, m, ks, vs⟩ := t
  obtain ⟨k', bl', nm', m', ks', vs'⟩ := t'
  obtain ⟨h1, h2, h3⟩ := h
  dsimp only at h1 h2 h3
  subst h1
  unfold tNext
  by_cases e0 : st = 0
  · rw [if_pos e0, if_pos e0]
    by_cases e1 : b = 98
    · rw [if_pos e1, if_pos e1]
      exact ⟨rfl, rfl, h2, fun _ => ⟨rfl, rfl, rfl⟩⟩
    · rw [if_neg e1, if_neg e1]
      by_cases e2 : b = 102
      · rw [if_pos e2, if_pos e2]
        exact ⟨rfl, rfl, h2, fun _ => ⟨rfl, rfl, rfl⟩⟩
      · rw [if_neg e2, if_neg e2]
        by_cases e3 : b = 120
        · rw [if_pos e3, if_pos e3]
          exact ⟨rfl, rfl, h2, fun _ => ⟨rfl, rfl, rfl⟩⟩
        · rw [if_neg e3, if_neg e3]
          by_cases e4 : b = 121
          · rw [if_pos e4, if_pos e4]
            exact ⟨rfl, rfl, h2, fun _ => ⟨rfl, rfl, rfl⟩⟩
          · rw [if_neg e4, if_neg e4]
            exact ⟨rfl, rfl, h2, fun hh => absurd hh (show ¬ (0 : Int) < -1 by decide)⟩
  · obtain ⟨q1, q2, q3⟩ := h3 (by omega)
    subst q1
    subst q2
    subst q3
    rw [if_neg e0, if_neg e0]
    by_cases e1 : b = 45 ∧ st = 1
    · rw [if_pos e1, if_pos e1]
      exact ⟨rfl, rfl, h2, fun _ => ⟨rfl, rfl, rfl⟩⟩
    · rw [if_neg e1, if_neg e1]
      by_cases e2 : (48 ≤ b ∧ b ≤ 57) ∧ st < 5
      · rw [if_pos e2, if_pos e2]
        exact ⟨rfl, rfl, h2, fun _ => ⟨rfl, rfl, rfl⟩⟩
      · rw [if_neg e2, if_neg e2]
        by_cases e3 : b = 59 ∧ 3 ≤ st
        · rw [if_pos e3, if_pos e3]
          refine ⟨rfl, rfl, fun j hj => ?_, fun hh => absurd hh (show ¬ (0 : Int) < 0 by decide)⟩
          have hj' : j < m + 1 := hj
          show va_up ks m k j = va_up ks' m k j ∧ va_up vs m _ j = va_up vs' m _ j
          by_cases e : j = m
          · rw [e, up_self, up_self, up_self, up_self]
            exact ⟨rfl, rfl⟩
          · rw [up_ne _ _ e, up_ne _ _ e, up_ne _ _ e, up_ne _ _ e]
            exact h2 j (by omega)
        · rw [if_neg e3, if_neg e3]
          exact ⟨rfl, rfl, h2, fun _ => ⟨rfl, rfl, rfl⟩⟩
theorem tn_pos {st b : Int} {t : TT} (hs : 0 ≤ st) (e : (tNext st t b).1 ≠ -1) : 0 ≤ (tNext st t b).1 := by
  unfold tNext at e ⊢
  by_cases e0 : st = 0
  · rw [if_pos e0] at e ⊢
    by_cases e1 : b = 98
    · rw [if_pos e1]
      exact (by decide : (0 : Int) ≤ 1)
    · rw [if_neg e1] at e ⊢
      by_cases e2 : b = 102
      · rw [if_pos e2]
        exact (by decide : (0 : Int) ≤ 1)
      · rw [if_neg e2] at e ⊢
        by_cases e3 : b = 120
        · rw [if_pos e3]
          exact (by decide : (0 : Int) ≤ 5)
        · rw [if_neg e3] at e ⊢
          by_cases e4 : b = 121
          · rw [if_pos e4]
            exact (by decide : (0 : Int) ≤ 5)
          · rw [if_neg e4] at e
            exact absurd rfl e
  · rw [if_neg e0] at e ⊢
    by_cases e1 : b = 45 ∧ st = 1
    · rw [if_pos e1]
      exact (by decide : (0 : Int) ≤ 2)
    · rw [if_neg e1] at e ⊢
      by_cases e2 : (48 ≤ b ∧ b ≤ 57) ∧ st < 5
      · rw [if_pos e2]
        show 0 ≤ (if st < 3 then 3 else st + 1)
        split <;> omega
      · rw [if_neg e2] at e ⊢
        by_cases e3 : b = 59 ∧ 3 ≤ st
        · rw [if_pos e3]
          exact (by decide : (0 : Int) ≤ 0)
        · rw [if_neg e3] at e
          exact absurd rfl e
theorem tRun_sim {bt bt' : Nat → Int} : ∀ (d m : Nat) (st : Int) (t t' : TT), (∀ j, j < m + d → bt j = bt' j) → 0 ≤ st → sim st t t' → (tRun bt d m st t).1 = (tRun bt' d m st t').1 ∧ (tRun bt d m st t).2.2.2.2.1 = (tRun bt' d m st t').2.2.2.2.1 ∧ ∀ j, j < (tRun bt d m st t).2.2.2.2.1 → (tRun bt d m st t).2.2.2.2.2.1 j = (tRun bt' d m st t').2.2.2.2.2.1 j ∧ (tRun bt d m st t).2.2.2.2.2.2 j = (tRun bt' d m st t').2.2.2.2.2.2 j
  | 0, m, st, t, t', _, _, h => by
    unfold tRun
    exact ⟨rfl, h.1, h.2.1⟩
  | d + 1, m, st, t, t', hb, hs, h => by
    have h2 := sim_next h hs (bt m)
    unfold tRun
    rw [← hb m (by omega), ← h2.1]
    by_cases e : (tNext st t (bt m)).1 = -1
    · rw [if_pos e, if_pos e]
      exact ⟨rfl, h2.2.1, h2.2.2.1⟩
    · rw [if_neg e, if_neg e]
      have hst : 0 ≤ (tNext st t (bt m)).1 := tn_pos hs e
      exact tRun_sim d (m + 1) _ _ _ (fun j hj => hb j (by omega)) hst h2.2
/-- from one heap to another: others' cells alone stand -/
def CT (G : GH) (ow : Nat → Nat) (P : Nat) (G' : GH) (ow' : Nat → Nat) (P' e : Nat) : Prop := (∀ a, ow a ≠ 0 → ow' a = ow a) ∧ (∀ a, 66 ≤ ow a → ow a < 100 → G'.1 a = G.1 a) ∧ GW G' ow' ∧ G'.2.2.1 + 2 * P' ≤ G.2.2.1 + 2 * P + e ∧ G'.2.2.2 + 51 * P' ≤ G.2.2.2 + 51 * P + 6 * e
theorem CW.ct {G G' : GH} {ow ow' : Nat → Nat} {P P' e : Nat} (h : CW G ow P G' ow' P' e) : CT G ow P G' ow' P' e := ⟨h.1, fun a ha hb => h.2.1 a (by omega) hb, h.2.2.1, h.2.2.2.1, h.2.2.2.2.1⟩
theorem CT.tr {G G1 G2 : GH} {ow ow1 ow2 : Nat → Nat} {P P1 P2 e1 e2 : Nat} (h : CT G ow P G1 ow1 P1 e1) (k : CT G1 ow1 P1 G2 ow2 P2 e2) : CT G ow P G2 ow2 P2 (e1 + e2) := by
  obtain ⟨h1, h2, h3, h4, h5⟩ := h
  obtain ⟨k1, k2, k3, k4, k5⟩ := k
  refine ⟨fun a ha => ?_, fun a ha hb => ?_, k3, by omega, by omega⟩
  · rw [k1 a (by rw [h1 a ha]; exact ha), h1 a ha]
  · have := h1 a (by omega)
    rw [k2 a (by omega) (by omega), h2 a ha hb]
/-- a program on the class's object that may write the text -/
def RT {α : Type} (F : MM α) (G : GH) (ow : Nat → Nat) (p : Nat) (w : WW) (P : Nat) (res : α) (w' : WW) (e : Nat) : Prop := ∃ G' ow' P', F.1 G = some (res, G') ∧ RepC G' ow' p w' P' ∧ CT G ow P G' ow' P' e
theorem RC.rt {α : Type} {F : MM α} {G : GH} {ow : Nat → Nat} {p : Nat} {w w' : WW} {P e : Nat} {res : α} (h : RC F G ow p w P res w' e) : RT F G ow p w P res w' e := by
  obtain ⟨G', ow', P', h1, h2, h3⟩ := h
  exact ⟨G', ow', P', h1, h2, h3.ct⟩
section Rt
variable {G : GH} {ow : Nat → Nat} {p : Nat} {w : WW} {P : Nat}
theorem rt_eq {α : Type} {F F' : MM α} {x : α} {w' : WW} {e : Nat} (h : RT F' G ow p w P x w' e) (q : F.1 G = F'.1 G) : RT F G ow p w P x w' e := by
  obtain ⟨G', ow', P', h1, h2⟩ := h
  exact ⟨G', ow', P', q.trans h1, h2⟩
theorem rt_bind0 {α β : Type} {F : MM α} {K : α → MM β} {x : α} {y : β} {w1 w2 : WW} {e2 : Nat} (h : RT F G ow p w P x w1 0) (k : ∀ G' ow' P', RepC G' ow' p w1 P' → RT (K x) G' ow' p w1 P' y w2 e2) : RT (mbind F K) G ow p w P y w2 e2 := by
  obtain ⟨G', ow', P', h1, h2, h3⟩ := h
  obtain ⟨G2, ow2, P2, k1, k2, k3⟩ := k G' ow' P' h2
  have h4 := h3.tr k3
  rw [Nat.zero_add] at h4
  exact ⟨G2, ow2, P2, (mbind_ok h1).trans k1, k2, h4⟩
theorem rt_xin {α β : Type} {F : MX α} {K : α → MX β} {x : α} {y : String ⊕ β} {w1 w2 : WW} {e2 : Nat} (h : RT F G ow p w P (.inr x) w1 0) (k : ∀ G' ow' P', RepC G' ow' p w1 P' → RT (K x) G' ow' p w1 P' y w2 e2) : RT (xbind F K) G ow p w P y w2 e2 := rt_bind0 h k
theorem rt_xout {α β : Type} {F : MX α} {K : α → MX β} {E : String} {w1 : WW} {e : Nat} (h : RT F G ow p w P (.inl E) w1 e) : RT (xbind F K) G ow p w P (.inl E) w1 e := by
  obtain ⟨G', ow', P', h1, h2⟩ := h
  exact ⟨G', ow', P', xbind_out h1, h2⟩
theorem rt_ck {α : Type} {F : MM α} {x : α} {w' : WW} {e : Nat} (h : RepC G ow p w P) (k : RT F G ow p w P x w' e) : RT (mbind (mchk p 4) (fun _ => F)) G ow p w P x w' e := by
  obtain ⟨ads0, tp, sa, L, np, va, ma, refs, a1, a2, a3, a4, a5⟩ := h.now
  refine rt_eq k ?_
  rw [ev_chk, a3]
  rfl
/-- the text's cells, and what comes of a change in them alone -/
theorem RepC.txt (h : RepC G ow p w P) : ∃ ads tp sa np bt t, injK ads KS ∧ (∀ k, k ∈ KS → ow (ads k) = 60 + k) ∧ ow p = 1 ∧ G.1 p = some (xcl (ads 0) tp sa np w.2.2.1) ∧ SH G ads w.2.2.2.1 bt t = G ∧ (∀ j, j < w.2.2.2.1 → bt j = w.2.2.2.2 j) ∧
    (∀ (n' : Int) bt' t', (SH G ads n' bt' t').1 p = some (xcl (ads 0) tp sa np w.2.2.1)) ∧
    ∀ (n' : Nat) bt' t' bs', (∀ j, j < n' → bt' j = bs' j) → RepC (SH G ads n' bt' t') ow p (w.1, w.2.1, w.2.2.1, n', bs') P ∧ CT G ow P (SH G ads n' bt' t') ow P 0 := by
  obtain ⟨ads, tp, sa, srefs, n, R, h1, ⟨h2, bt, t, h2a, h2b⟩, h3, h4, h5, h6, h7⟩ := h
  have hi : injK ads KS := fun i hi j hj e => by
    have e1 := h2 i hi
    have e2 := h2 j hj
    rw [e] at e1
    omega
  have hk6 : ∀ k, k ∈ KS → k < 6 := by decide
  have out : ∀ (n' : Int) bt' t' a, (ow a < 60 ∨ 66 ≤ ow a) → (SH G ads n' bt' t').1 a = G.1 a := fun n' bt' t' a ha => mh_out (fun k hk e => by
    have e1 := h2 k hk
    have e2 := hk6 k hk
    rw [← e] at e1
    omega)
  have hg : ∀ (n' : Int) bt' t', GW (SH G ads n' bt' t') ow := fun n' bt' t' a ha => by
    have e := mh_2 G ads (OB (sob ads) slN (tz n' t') (tc bt' t')) KS
    show a < (MH G ads _ KS).2.1
    rw [e]
    exact h4.2 a ha
  refine ⟨ads, tp, sa, n.2.1, bt, t, hi, h2, h1.1, h1.2, mh_id h2a, h2b, fun n' bt' t' => by rw [out _ _ _ p (by rw [h1.1]; decide)]; exact h1.2, fun n' bt' t' bs' hb => ⟨⟨ads, tp, sa, srefs, n, R, ?_, ⟨h2, bt', t', fun k hk => mh_get hi hk, hb⟩, ?_, ?_, ?_, h6, h7⟩, fun _ _ => rfl, fun a ha hb => out _ _ _ a (Or.inr ha), hg _ _ _, ?_, ?_⟩⟩
  · exact PO.fr (fun _ _ => rfl) h1 (fun a ha => out _ _ _ a (by omega))
  · exact PT.fr (fun _ _ => rfl) h3 (fun a ha hb => out _ _ _ a (by omega))
  · have := h6.1
    exact RSX.fr (fun _ _ => rfl) h4 (by omega) (hg _ _ _) (fun a ha hb => out _ _ _ a (by omega))
  · exact PV.fr (fun _ _ => rfl) h5 (fun i hi => by have := (h6.2 i hi).1; omega) (hg _ _ _) (fun a ha => out _ _ _ a (by omega)) (fun i hi a ha hb => by have := (h6.2 i hi).1; exact out _ _ _ a (by omega))
  · show (MH G ads _ KS).2.2.1 + _ ≤ _
    rw [mh_2]
    omega
  · show (MH G ads _ KS).2.2.2 + _ ≤ _
    rw [mh_2]
    omega
end Rt
theorem c_append {G : GH} {ow : Nat → Nat} {p : Nat} {w : WW} {P : Nat} (hw : WI w) (h : RepC G ow p w P) {a : Int} (ha : irg a) : RT (f_X4_append p (iI a)) G ow p w P (yr (if 0 ≤ a ∧ a ≤ 127 then (if w.2.2.2.1 < 100 then 0 else 2) else 1) exA exS exS (if 0 ≤ a ∧ a ≤ 127 then (if w.2.2.2.1 < 100 then (w.2.2.2.1 : Int) + 1 else 0) else 0)) (if 0 ≤ a ∧ a ≤ 127 then (if w.2.2.2.1 < 100 then (w.1, w.2.1, w.2.2.1, w.2.2.2.1 + 1, va_up w.2.2.2.2 w.2.2.2.1 a) else w) else w) (ye (if 0 ≤ a ∧ a ≤ 127 then (if w.2.2.2.1 < 100 then 0 else 2) else 1)) := by
  have ha' := ha
  unfold irg at ha'
  have hlen := hw.2.2.2.1
  obtain ⟨ads, tp, sa, np, bt, t, h1, h2, h3, h4, h5, h6, h7, h8⟩ := h.txt
  unfold f_X4_append
  by_cases h9 : 0 ≤ a ∧ a ≤ 127
  · rw [if_pos h9, if_pos h9, if_pos h9, if_neg (by rw [lz0, iI_lt (by omega) (by omega) (by omega) (by omega)]; omega), if_pos (by rw [show (127 : Int32) = iI 127 from rfl, iI_le (by omega) (by omega) (by omega) (by omega)]; omega)]
    have e1 : ∀ K : Int32 → MX Int32, (mbind (mgr p 4 0) (fun r1 => mbind (mgi r1 0 0) K)).1 G = (K (iI w.2.2.2.1)).1 G := by
      intro K
      rw [ev_gr, h4, xr0, Option.elim_some, ← h5, sh_g0 h1, h5]
    by_cases h10 : w.2.2.2.1 < 100
    · have h11 := h8 (w.2.2.2.1 + 1) (va_up bt w.2.2.2.1 a) t (va_up w.2.2.2.2 w.2.2.2.1 a) (fun j hj => by
        by_cases e : j = w.2.2.2.1
        · rw [e, up_self, up_self]
        · rw [up_ne _ _ e, up_ne _ _ e]
          exact h6 j (by omega))
      rw [if_pos h10, if_pos h10, if_pos h10]
      refine ⟨_, ow, P, ?_, h11.1, h11.2⟩
      rw [e1, if_pos (by rw [lz100, iI_lt (by omega) (by omega) (by omega) (by omega)]; omega), ev_gr, h4, xr0, Option.elim_some]
      have hck : ∀ F : MX Int32, (mbind (mchk (ads 0) 0) (fun _ => F)).1 G = F.1 G := fun F => by
        have q := sh_ck (G := G) h1 (w.2.2.2.1 : Int) bt t (fun _ => F)
        rw [h5] at q
        exact q
      have hex : (f_X0_extend (ads 0) (iI a)).1 (SH G ads w.2.2.2.1 bt t) = some ((), SH G ads ((w.2.2.2.1 + 1 : Nat) : Int) (va_up bt w.2.2.2.1 a) t) := by
        unfold f_X0_extend
        rw [sh_r2 h1, sh_g0 h1, mbind_ok (sh_f3 h1 _ _ _ _ h10 _), sh_g0 h1, lz1, iI_add, show (w.2.2.2.1 : Int) + 1 = ((w.2.2.2.1 + 1 : Nat) : Int) by omega, sh_p0 h1]
        rfl
      rw [h5] at hex
      rw [hck, mbind_ok hex, ev_gr, h7, xr0, Option.elim_some, sh_g0 h1, show (w.2.2.2.1 : Int) + 1 = ((w.2.2.2.1 + 1 : Nat) : Int) by omega]
      rfl
    · rw [if_neg h10, if_neg h10, if_neg h10]
      refine rt_eq (rc_thr h).rt ?_
      rw [e1, if_neg (by rw [lz100, iI_lt (by omega) (by omega) (by omega) (by omega)]; omega)]
      rfl
  · rw [if_neg h9, if_neg h9, if_neg h9]
    by_cases h10 : a < 0
    · rw [if_pos (by rw [lz0, iI_lt (by omega) (by omega) (by omega) (by omega)]; omega)]
      exact (rc_thr h).rt
    · rw [if_neg (by rw [lz0, iI_lt (by omega) (by omega) (by omega) (by omega)]; omega), if_neg (by rw [show (127 : Int32) = iI 127 from rfl, iI_le (by omega) (by omega) (by omega) (by omega)]; omega)]
      exact (rc_thr h).rt
theorem c_clearText {G : GH} {ow : Nat → Nat} {p : Nat} {w : WW} {P : Nat} (hw : WI w) (h : RepC G ow p w P) : RT (f_X4_clearText p) G ow p w P (iI w.2.2.2.1) (w.1, w.2.1, w.2.2.1, 0, w.2.2.2.2) 0 := by
  obtain ⟨ads, tp, sa, np, bt, t, h1, h2, h3, h4, h5, h6, h7, h8⟩ := h.txt
  have h11 := h8 0 bt t w.2.2.2.2 (fun j hj => absurd hj (by omega))
  refine ⟨_, ow, P, ?_, h11.1, h11.2⟩
  unfold f_X4_clearText
  rw [ev_gr, h4, xr0, Option.elim_some, ← h5, sh_g0 h1, ev_gr, h5, h4, xr0, Option.elim_some, ← h5, show (Value.int 0) = Value.int (iI ((0 : Nat) : Int)) from rfl, sh_p0 h1, h5]
  rfl
/-- the text is read: what the script holds then -/
theorem c_read {G : GH} {ow : Nat → Nat} {p : Nat} {w : WW} {P : Nat} (hw : WI w) (h : RepC G ow p w P) : ∃ (ads : Nat → Nat) (G' : GH) (t' : TT) (bt : Nat → Int), (∀ {β : Type} (K : Int32 → MM β), (mbind (mgr p 4 0) (fun r1 => mbind (mchk r1 0) (fun _ => mbind (f_X0_read r1) K))).1 G = (K (iI (wT w).1)).1 G') ∧ RepC G' ow p w P ∧ CT G ow P G' ow P 0 ∧ (∀ k, k ∈ KS → ow (ads k) = 60 + k) ∧ gref (G'.1 p) 4 0 = some (ads 0) ∧ ow p = 1 ∧ G'.1 (ads 0) = some (sob ads (tz w.2.2.2.1 t')) ∧ G'.1 (ads 4) = some (icz 50 t'.2.2.2.2.1) ∧ G'.1 (ads 5) = some (icz 50 t'.2.2.2.2.2) ∧
    t'.2.2.2.1 = (wT w).2.2.2.2.1 ∧ ∀ j, j < t'.2.2.2.1 → t'.2.2.2.2.1 j = (wT w).2.2.2.2.2.1 j ∧ t'.2.2.2.2.2 j = (wT w).2.2.2.2.2.2 j := by
  obtain ⟨ads, tp, sa, np, bt, t, h1, h2, h3, h4, h5, h6, h7, h8⟩ := h.txt
  have hr := read_m (G := G) h1 bt t hw.2.2.2.1 (fun j hj => by rw [h6 j hj]; exact hw.2.2.2.2 j hj)
  have hs := tRun_sim (bt := bt) (bt' := w.2.2.2.2) w.2.2.2.1 0 0 (t.1, t.2.1, t.2.2.1, 0, t.2.2.2.2) tt0 (fun j hj => h6 j (by omega)) (by decide) ⟨rfl, fun j hj => absurd hj (by show ¬ j < 0; omega), fun hh => absurd hh (by decide)⟩
  obtain ⟨t', ht'⟩ : ∃ t', t' = (tRun bt w.2.2.2.1 0 0 (t.1, t.2.1, t.2.2.1, 0, t.2.2.2.2)).2 := ⟨_, rfl⟩
  rw [← ht'] at hr hs
  have h11 := h8 w.2.2.2.1 bt t' w.2.2.2.2 h6
  refine ⟨ads, SH G ads w.2.2.2.1 bt t', t', bt, fun K => ?_, h11.1, h11.2, h2, by rw [h7]; rfl, h3, sh_o h1 _ _ _, sh_4 h1 _ _ _, sh_5 h1 _ _ _, hs.2.1, hs.2.2⟩
  rw [ev_gr, h4, xr0, Option.elim_some, ← h5, sh_ck h1, mbind_ok hr, hs.1, h5]
  rfl
theorem gb_loop {L np va ma : Nat} (hL : 1000 ≤ L) {ads : Nat → Nat} {n : Int} {t : TT} (hm : t.2.2.2.1 ≤ 50) (hkv : KV t.2.2.2.1 t.2.2.2.2.1 t.2.2.2.2.2) : ∀ (d fu i : Nat) (G : GH) (ow : Nat → Nat) (refs : Nat → Option Nat) (s : SS) (v : Nat), i + d = t.2.2.2.1 → d < fu → SI s → v < s.2.2.1 → SX G ow L np va ma refs s → (∀ k, k ∈ KS → ow (ads k) = 60 + k) → G.1 (ads 0) = some (sob ads (tz n t)) → G.1 (ads 4) = some (icz 50 t.2.2.2.2.1) → G.1 (ads 5) = some (icz 50 t.2.2.2.2.2) →
    ∃ G' ow' refs', (f_X1_growBy_5 fu np (ads 0) (iI v) (iI i)).1 G = some (iI (dA t.2.2.2.2.1 t.2.2.2.2.2 d i s v).2, G') ∧ SX G' ow' L np va ma refs' (dA t.2.2.2.2.1 t.2.2.2.2.2 d i s v).1 ∧ SP L G ow refs G' ow' refs'
  | _, 0, _, _, _, _, _, _, _, h, _, _, _, _, _, _, _ => absurd h (by omega)
  | 0, fu + 1, i, G, ow, refs, s, v, e, _, hs, hv, hx, ho, h0, h4, h5 => by
    refine ⟨G, ow, refs, ?_, hx, SP.rf hx.2⟩
    have hg : ∀ {β : Type} (K : Int32 → MM β), (mbind (mgi (ads 0) 0 1) K).1 G = (K (iI t.2.2.2.1)).1 G := fun K => by
      rw [ev_gi, h0]
      rfl
    rw [f_X1_growBy_5, hg, if_pos (by rw [iI_le (by omega) (by omega) (by omega) (by omega)]; omega), hg, show t.2.2.2.1 = i by omega]
    rfl
  | d + 1, fu + 1, i, G, ow, refs, s, v, e, hf, hs, hv, hx, ho, h0, h4, h5 => by
    have h100 := hs.2.2.1
    have hg : ∀ {β : Type} (K : Int32 → MM β), (mbind (mgi (ads 0) 0 1) K).1 G = (K (iI t.2.2.2.1)).1 G := fun K => by
      rw [ev_gi, h0]
      rfl
    have hki := hkv i (by omega)
    have hact : (f_X0_actAt (ads 0) (iI i)).1 G = some (iI (t.2.2.2.2.1 i), G) := by
      unfold f_X0_actAt
      rw [ev_gr, h0]
      show (mbind (f_X4_cell (ads 4) (iI i)) (fun x2 => mpure x2)).1 G = _
      rw [mbind_ok (cell_run h4 (z := (i : Int)) (by omega) (by omega) (by omega))]
      rfl
    have o0 := ho 0 (by decide)
    have o4 := ho 4 (by decide)
    have o5 := ho 5 (by decide)
    obtain ⟨G1, ow1, refs1, a1, a2, a3⟩ := allows_run (by omega) hs hx hv hki.1
    have k1 : ∀ k, k ∈ KS → ow1 (ads k) = 60 + k := fun k hk => by rw [a3.1 _ (by rw [ho k hk]; omega)]; exact ho k hk
    have q0 : G1.1 (ads 0) = some (sob ads (tz n t)) := by rw [a3.2.1 _ (by omega) (by omega)]; exact h0
    have q4 : G1.1 (ads 4) = some (icz 50 t.2.2.2.2.1) := by rw [a3.2.1 _ (by omega) (by omega)]; exact h4
    have q5 : G1.1 (ads 5) = some (icz 50 t.2.2.2.2.2) := by rw [a3.2.1 _ (by omega) (by omega)]; exact h5
    have hck : ∀ {β : Type} (H : GH), H.1 (ads 0) = some (sob ads (tz n t)) → ∀ (F : MM β), (mbind (mchk (ads 0) 0) (fun _ => F)).1 H = F.1 H := fun H hH F => by
      rw [ev_chk, hH]
      rfl
    rw [f_X1_growBy_5, hg, if_neg (by rw [iI_le (by omega) (by omega) (by omega) (by omega)]; omega), hck G h0, mbind_ok hact, ev_chk, hx.1.1, gis_s, if_pos rfl, mbind_ok a1]
    unfold dA
    by_cases hc : (decide (s.2.2.1 < 100) && pmt (s.2.2.2 v).1 (t.2.2.2.2.1 i)) = true
    · have hc' := hc
      rw [Bool.and_eq_true] at hc'
      have hh : s.2.2.1 < 100 := of_decide_eq_true hc'.1
      have hval : (f_X0_valueAt (ads 0) (iI i)).1 G1 = some (iI (t.2.2.2.2.2 i), G1) := by
        unfold f_X0_valueAt
        rw [ev_gr, q0]
        show (mbind (f_X4_cell (ads 5) (iI i)) (fun x2 => mpure x2)).1 G1 = _
        rw [mbind_ok (cell_run q5 (z := (i : Int)) (by omega) (by omega) (by omega))]
        rfl
      obtain ⟨G2, ow2, refs2, b1, b2, b3⟩ := grow_run (by omega) hs a2 hh hv hki.1 (x := t.2.2.2.2.2 i) hc'.2
      obtain ⟨G3, ow3, refs3, c1, c2, c3⟩ := gb_loop hL hm hkv d fu (i + 1) G2 ow2 refs2 (sGrow s v (t.2.2.2.2.1 i) (t.2.2.2.2.2 i)) s.2.2.1 (by omega) (by omega) (si_grow hs hh hv hki.1 hki.2 hc'.2) (by show s.2.2.1 < s.2.2.1 + 1; omega) b2 (fun k hk => by rw [b3.1 _ (by rw [k1 k hk]; omega)]; exact k1 k hk) (by rw [b3.2.1 _ (by rw [k1 0 (by decide)]; omega) (by rw [k1 0 (by decide)]; omega)]; exact q0) (by rw [b3.2.1 _ (by rw [k1 4 (by decide)]; omega) (by rw [k1 4 (by decide)]; omega)]; exact q4) (by rw [b3.2.1 _ (by rw [k1 5 (by decide)]; omega) (by rw [k1 5 (by decide)]; omega)]; exact q5)
      rw [if_pos hc, hc, if_neg (show ¬ iI (b2i true) = 0 by decide)]
      refine ⟨G3, ow3, refs3, ?_, c2, (a3.tr b3).tr c3⟩
      rw [hck G1 q0, mbind_ok hval, ev_chk, a2.1.1, gis_s, if_pos rfl, mbind_ok b1, show iI (i : Int) + 1 = iI ((i + 1 : Nat) : Int) by rw [lz1, iI_add]; rfl]
      exact c1
    · rw [if_neg hc]
      rw [Bool.not_eq_true] at hc
      rw [hc, if_pos (show iI (b2i false) = 0 from rfl)]
      exact ⟨G1, ow1, refs1, rfl, a2, a3⟩
theorem c_run {G : GH} {ow : Nat → Nat} {p : Nat} {w : WW} {P : Nat} (hw : WI w) (h : RepC G ow p w P) {a : Int} (ha : irg a) : RT (f_X4_run p (iI a)) G ow p w P (yr (if inV w.1 a = true then 0 else 1) exI exI exI (if inV w.1 a = true then (if (wT w).1 = -1 then ((allF w.1 (wT w).2 a.toNat).2 : Int) else -10 - (wT w).1) else 0)) (if inV w.1 a = true ∧ (wT w).1 = -1 then wSave w (allF w.1 (wT w).2 a.toNat).1 else w) (ye (if inV w.1 a = true then 0 else 1)) := by
  have hp := wt_pos w.2.2.2.2 w.2.2.2.1 0 0 tt0
  have hlen := hw.2.2.2.1
  have hp' : -1 ≤ (wT w).1 ∧ (wT w).1 ≤ 100 := by unfold wT; omega
  unfold f_X4_run
  refine rt_ck h ?_
  by_cases h1 : inV w.1 a = true
  · have h1' : 0 ≤ a ∧ a < w.1.2.2.1 := of_decide_eq_true h1
    have ea : iI a = iI ((a.toNat : Nat) : Int) := by congr 1; omega
    rw [if_pos h1, if_pos h1]
    refine rt_xin (rc_rv1 hw h ha h1).rt (fun G1 ow1 P1 h' => ?_)
    obtain ⟨ads, G2, t', bt, r1, r2, r3, r4, r5, r6, r7, r8, r9, r10, r11⟩ := c_read hw h'
    by_cases h2 : (wT w).1 = -1
    · have hkv := wt_kv hw
      have hkv' : KV t'.2.2.2.1 t'.2.2.2.2.1 t'.2.2.2.2.2 := fun j hj => by
        rw [(r11 j hj).1, (r11 j hj).2]
        exact hkv.2 j (by omega)
      obtain ⟨G3, ow3, P3, s1, s2, s3⟩ := c_save hw r2
      obtain ⟨ads0, tp, sa, L, np, va, ma, refs, n1, n2, n3, n4, n5⟩ := s2.now
      have hsc := s3.2.2.2.2.2 p r6
      rw [r5] at hsc
      have k1 : ∀ k, k ∈ KS → ow3 (ads k) = 60 + k := fun k hk => by rw [s3.1 _ (by rw [r4 k hk]; omega)]; exact r4 k hk
      have k6 : ∀ k, k ∈ KS → k < 6 := by decide
      have kk : ∀ k, k ∈ KS → G3.1 (ads k) = G2.1 (ads k) := fun k hk => s3.2.1 _ (by rw [r4 k hk]; omega) (by have := k6 k hk; rw [r4 k hk]; omega)
      obtain ⟨G4, ow4, refs4, g1, g2, g3⟩ := gb_loop n1 (ads := ads) (n := w.2.2.2.1) (t := t') (by omega) hkv' t'.2.2.2.1 FU 0 G3 ow3 refs w.1 a.toNat (by omega) (by have := hkv.1; unfold FU; omega) hw.1 (by omega) n4 k1 (by rw [kk 0 (by decide)]; exact r7) (by rw [kk 4 (by decide)]; exact r8) (by rw [kk 5 (by decide)]; exact r9)
      obtain ⟨P5, m1, m2⟩ := n5 G4 ow4 refs4 _ g2 g3
      have eall : dA t'.2.2.2.2.1 t'.2.2.2.2.2 t'.2.2.2.1 0 w.1 a.toNat = allF w.1 (wT w).2 a.toNat := by
        unfold allF
        rw [r10] at r11 ⊢
        exact dA_congr (m := (wT w).2.2.2.2.1) (fun j hj => ⟨(r11 j hj).1, fun _ => (r11 j hj).2⟩) _ _ _ _ (by omega)
      rw [eall] at g1 m1
      have m3 := (r3.tr s3.ct).tr m2.ct
      rw [if_pos h2, if_pos (⟨h1, h2⟩ : inV w.1 a = true ∧ (wT w).1 = -1)]
      refine ⟨G4, ow4, P5, ?_, m1, m3⟩
      rw [r1, if_pos (by rw [h2]; rfl)]
      have hck : ∀ F : MX Int32, (mbind (mchk p 4) (fun _ => F)).1 G2 = F.1 G2 := fun F => by
        obtain ⟨b0, b1, b2, b3, b4, b5, b6, b7, b8, b9, b10, _, _⟩ := r2.now
        rw [ev_chk, b10]
        rfl
      have hr4 : ∀ {β : Type} (K : Nat → MM β), (mbind (mgr p 4 0) K).1 G3 = (K (ads 0)).1 G3 := fun K => by
        rw [ev_gr, hsc.1, Option.elim_some]
      rw [hck, mbind_ok s1, ev_gr, n3, xr3, Option.elim_some, hr4, ev_chk, n4.1.1, gis_s, if_pos rfl, ea]
      unfold f_X1_growBy
      rw [show (0 : Int32) = iI ((0 : Nat) : Int) from rfl, mbind_ok g1]
      rfl
    · rw [if_neg h2, if_neg (show ¬ (inV w.1 a = true ∧ (wT w).1 = -1) from fun hh => h2 hh.2)]
      refine ⟨G2, ow1, P1, ?_, r2, r3⟩
      rw [r1, if_neg (by rw [lzm1, iI_eq (by omega) (by omega) (by omega) (by omega)]; exact h2), show (-10 : Int32) = iI (-10) from rfl, iI_sub]
      rfl
  · rw [if_neg h1, if_neg h1, if_neg (show ¬ (inV w.1 a = true ∧ (wT w).1 = -1) from fun hh => h1 hh.1)]
    rw [Bool.not_eq_true] at h1
    exact rt_xout (rc_rv0 hw h ha h1).rt
