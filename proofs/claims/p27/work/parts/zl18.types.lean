/-! LAW: types: a text of acts; programs whose world is told by a property. -/
def RP {α : Type} (F : MM α) (G : GH) (ow : Nat → Nat) (p : Nat) (w : WW) (P : Nat) (Φ : α → WW → Prop) : Prop := ∃ x w', RT F G ow p w P x w' 0 ∧ Φ x w'
section Rp
variable {G : GH} {ow : Nat → Nat} {p : Nat} {w : WW} {P : Nat}
theorem rp_of {α : Type} {F : MM α} {x : α} {w' : WW} {Φ : α → WW → Prop} (h : RT F G ow p w P x w' 0) (hp : Φ x w') : RP F G ow p w P Φ := ⟨x, w', h, hp⟩
theorem rp_bind {α β : Type} {F : MM α} {K : α → MM β} {Φ : α → WW → Prop} {Ψ : β → WW → Prop} (h : RP F G ow p w P Φ) (k : ∀ x w1 G' ow' P', Φ x w1 → RepC G' ow' p w1 P' → RP (K x) G' ow' p w1 P' Ψ) : RP (mbind F K) G ow p w P Ψ := by
  obtain ⟨x, w1, ⟨G1, ow1, P1, h1, h2, h3⟩, hp⟩ := h
  obtain ⟨y, w2, ⟨G2, ow2, P2, k1, k2, k3⟩, kp⟩ := k x w1 G1 ow1 P1 hp h2
  have h4 := h3.tr k3
  exact ⟨y, w2, ⟨G2, ow2, P2, (mbind_ok h1).trans k1, k2, h4⟩, kp⟩
theorem rp_eq {α : Type} {F F' : MM α} {Φ : α → WW → Prop} (h : RP F' G ow p w P Φ) (q : F.1 G = F'.1 G) : RP F G ow p w P Φ := by
  obtain ⟨x, w1, h1, hp⟩ := h
  exact ⟨x, w1, rt_eq h1 q, hp⟩
theorem rp_val {α β : Type} {F : MM α} {K : α → MM β} {x : α} {Φ : β → WW → Prop} (hf : F.1 G = some (x, G)) (k : RP (K x) G ow p w P Φ) : RP (mbind F K) G ow p w P Φ := rp_eq k (mbind_ok hf)
theorem rp_ck {α : Type} {F : MM α} {Φ : α → WW → Prop} (h : RepC G ow p w P) (k : RP F G ow p w P Φ) : RP (mbind (mchk p 4) (fun _ => F)) G ow p w P Φ := by
  obtain ⟨x, w1, h1, hp⟩ := k
  exact ⟨x, w1, rt_ck h h1, hp⟩
theorem rp_q {α β : Type} {F : MX α} {K : α → MX β} {x : α} {w1 : WW} {Φ : String ⊕ β → WW → Prop} (h : RepC G ow p w P) (hf : RT F G ow p w P (.inr x) w1 0) (kk : ∀ G' ow' P', RepC G' ow' p w1 P' → RP (K x) G' ow' p w1 P' Φ) : RP (mbind (mchk p 4) (fun _ => xbind F K)) G ow p w P Φ := by
  refine rp_ck h ?_
  obtain ⟨G1, ow1, P1, h1, h2, h3⟩ := hf
  obtain ⟨y, w2, ⟨G2, ow2, P2, k1, k2, k3⟩, kp⟩ := kk G1 ow1 P1 h2
  have h4 := h3.tr k3
  exact ⟨y, w2, ⟨G2, ow2, P2, (mbind_ok h1).trans k1, k2, h4⟩, kp⟩
theorem rp_x {α β : Type} {F : MX α} {K : α → MX β} {Φ : α → WW → Prop} {Ψ : String ⊕ β → WW → Prop} (h : RP F G ow p w P (fun z w1 => ∃ a, z = .inr a ∧ Φ a w1)) (k : ∀ x w1 G' ow' P', Φ x w1 → RepC G' ow' p w1 P' → RP (K x) G' ow' p w1 P' Ψ) : RP (xbind F K) G ow p w P Ψ := by
  refine rp_bind h (fun x w1 G' ow' P' hx hR => ?_)
  obtain ⟨a, rfl, ha⟩ := hx
  exact k a w1 G' ow' P' ha hR
end Rp
/-- bytes read from a stage on: the stage then, and what was read -/
def tGo (bt : Nat → Int) : Nat → Nat → Int → TT → Option (Int × TT)
  | 0, _, st, t => some (st, t)
  | d + 1, m, st, t => if (tNext st t (bt m)).1 = -1 then none else tGo bt d (m + 1) (tNext st t (bt m)).1 (tNext st t (bt m)).2
theorem tGo_run {bt : Nat → Int} {st' : Int} {t' : TT} : ∀ (d m : Nat) (st : Int) (t : TT), tGo bt d m st t = some (st', t') → tRun bt d m st t = (if st' = 0 then -1 else ((m + d : Nat) : Int), t')
  | 0, m, st, t, h => by
    obtain ⟨rfl, rfl⟩ := Prod.mk.inj (Option.some.inj h)
    rfl
  | d + 1, m, st, t, h => by
    unfold tGo at h
    unfold tRun
    by_cases e : (tNext st t (bt m)).1 = -1
    · rw [if_pos e] at h
      cases h
    · rw [if_neg e] at h ⊢
      rw [tGo_run d (m + 1) _ _ h, show m + 1 + d = m + (d + 1) by omega]
theorem tGo_app {bt : Nat → Int} {st' : Int} {t' : TT} : ∀ (d m : Nat) (st : Int) (t : TT), tGo bt d m st t = some (st', t') → (tNext st' t' (bt (m + d))).1 ≠ -1 → tGo bt (d + 1) m st t = some (tNext st' t' (bt (m + d)))
  | 0, m, st, t, h, hn => by
    obtain ⟨rfl, rfl⟩ := Prod.mk.inj (Option.some.inj h)
    rw [Nat.add_zero] at hn ⊢
    show (if (tNext st t (bt m)).1 = -1 then none else some ((tNext st t (bt m)).1, (tNext st t (bt m)).2)) = some (tNext st t (bt m))
    rw [if_neg hn]
  | d + 1, m, st, t, h, hn => by
    unfold tGo at h
    rw [tGo.eq_2]
    by_cases e : (tNext st t (bt m)).1 = -1
    · rw [if_pos e] at h
      cases h
    · rw [if_neg e] at h ⊢
      rw [tGo_app d (m + 1) _ _ h (by rw [show m + 1 + d = m + (d + 1) by omega]; exact hn), show m + 1 + d = m + (d + 1) by omega]
theorem tGo_congr {bt bt' : Nat → Int} : ∀ (d m : Nat) (st : Int) (t : TT), (∀ j, m ≤ j → j < m + d → bt j = bt' j) → tGo bt d m st t = tGo bt' d m st t
  | 0, _, _, _, _ => rfl
  | d + 1, m, st, t, h => by
    unfold tGo
    rw [h m (by omega) (by omega), tGo_congr d (m + 1) _ _ (fun j a b => h j (by omega) (by omega))]
/-- the text of a world: the stage at its end, and the acts that are read -/
def TXs (w : WW) (st : Int) (k : Nat) : Prop := ∃ t, tGo w.2.2.2.2 w.2.2.2.1 0 0 tt0 = some (st, t) ∧ t.2.2.2.1 = k
theorem TXs.rd {w : WW} {k : Nat} (h : TXs w 0 k) : (wT w).1 = -1 ∧ (wT w).2.2.2.2.1 = k := by
  obtain ⟨t, h1, h2⟩ := h
  unfold wT
  rw [tGo_run _ _ _ _ h1]
  exact ⟨rfl, h2⟩
def apW (w : WW) (x : Int) : WW := (w.1, w.2.1, w.2.2.1, w.2.2.2.1 + 1, va_up w.2.2.2.2 w.2.2.2.1 x)
theorem TXs.ap {w : WW} {st st' : Int} {k c : Nat} (h : TXs w st k) {x : Int} (hx : ∀ t : TT, (tNext st t x).1 = st' ∧ (tNext st t x).2.2.2.2.1 = t.2.2.2.1 + c) (hs : st' ≠ -1) : TXs (apW w x) st' (k + c) := by
  obtain ⟨t, h1, h2⟩ := h
  obtain ⟨x1, x2⟩ := hx t
  have e0 : tGo (va_up w.2.2.2.2 w.2.2.2.1 x) w.2.2.2.1 0 0 tt0 = some (st, t) := by
    rw [tGo_congr (bt' := w.2.2.2.2) _ _ _ _ (fun j _ hj => up_ne _ _ (by omega))]
    exact h1
  have e1 := tGo_app _ _ _ _ e0 (by rw [Nat.zero_add, up_self, x1]; exact hs)
  rw [Nat.zero_add, up_self] at e1
  refine ⟨(tNext st t x).2, ?_, by rw [x2, h2]⟩
  show tGo (va_up w.2.2.2.2 w.2.2.2.1 x) (w.2.2.2.1 + 1) 0 0 tt0 = _
  rw [e1, ← x1]
theorem wi_ap {w : WW} (hw : WI w) {x : Int} (hx : 0 ≤ x ∧ x ≤ 127) (hl : w.2.2.2.1 < 100) : WI (apW w x) := by
  have h := wi_nappend hw (a := x)
  rw [if_pos hx, if_pos hl] at h
  exact h
def FRW (w w' : WW) : Prop := w'.1 = w.1 ∧ w'.2.1 = w.2.1 ∧ w'.2.2.1 = w.2.2.1
/-- the world while acts are typed -/
def TYW (w0 w : WW) (st : Int) (k n : Nat) : Prop := WI w ∧ FRW w0 w ∧ TXs w st k ∧ w.2.2.2.1 ≤ n
theorem TYW.ap {w0 w : WW} {st st' : Int} {k c n : Nat} (h : TYW w0 w st k n) {x : Int} (hx : 0 ≤ x ∧ x ≤ 127) (hn : n < 100) (ht : ∀ t : TT, (tNext st t x).1 = st' ∧ (tNext st t x).2.2.2.2.1 = t.2.2.2.1 + c) (hs : st' ≠ -1) : TYW w0 (apW w x) st' (k + c) (n + 1) := by
  obtain ⟨h1, h2, h3, h4⟩ := h
  exact ⟨wi_ap h1 hx (by omega), h2, h3.ap ht hs, Nat.succ_le_succ h4⟩
theorem tn_digit {st : Int} (hst : st = 1 ∨ st = 2) {x : Int} (hx : 48 ≤ x ∧ x ≤ 57) (t : TT) : (tNext st t x).1 = 3 ∧ (tNext st t x).2.2.2.2.1 = t.2.2.2.1 + 0 := by
  unfold tNext
  rw [if_neg (by omega), if_neg (by omega), if_pos ⟨hx, by omega⟩]
  dsimp only
  rw [if_pos (by omega)]
  exact ⟨rfl, rfl⟩
section Types
variable {p : Nat} {w0 : WW} {Φ : String ⊕ Int32 → WW → Prop} {K : Nat → Int32 → Int32 → Int32 → MX Int32} {l3 l4 : Int32}
theorem ty89 {k : Nat} (hk : 4 * k + 4 ≤ 60) (hK : ∀ w G ow P, TYW w0 w 0 (k + 1) (4 * k + 4) → RepC G ow p w P → RP (K p l3 l4 (iI ((k + 1 : Nat) : Int))) G ow p w P Φ) {w : WW} {st : Int} (hst : st = 1 ∨ st = 2) {s0 s1 : Int32} {G : GH} {ow : Nat → Nat} {P : Nat} (hy : TYW w0 w st k (4 * k + 2)) (hR : RepC G ow p w P) : RP (f_L_types_89 K p l3 l4 (iI (k : Int)) s0 s1) G ow p w P Φ := by
  unfold f_L_types_89
  obtain ⟨c, c1, c2⟩ := q_up (x := l4 >>> (21 &&& 31)) (y := 10) (n := 10) rfl (by omega) G
  refine rp_val c2 ?_
  have hlen := hy.2.2.2
  refine rp_q hR (q_append (x := 48 + c) hy.1 hR (by rw [show (48 : Int32) = iI 48 from rfl, iI_add]) (by omega) (by omega)) (fun G ow P hR => ?_)
  have y1 := hy.ap (x := 48 + c) (by omega) (by omega) (tn_digit hst (by omega)) (by decide)
  refine rp_q hR (q_append (x := 59) y1.1 hR rfl (by omega) (by have := y1.2.2.2; omega)) (fun G ow P hR => ?_)
  have y2 := y1.ap (x := 59) (st' := 0) (c := 1) (by omega) (by omega) (fun t => ⟨rfl, rfl⟩) (by decide)
  rw [iI_s]
  exact hK _ G ow P y2 hR
theorem ty65 {k : Nat} (hk : 4 * k + 4 ≤ 60) (hK : ∀ w G ow P, TYW w0 w 0 (k + 1) (4 * k + 4) → RepC G ow p w P → RP (K p l3 l4 (iI ((k + 1 : Nat) : Int))) G ow p w P Φ) {w : WW} {b : Int} {s0 : Int32} (hs : s0 = iI b) (hb : b = 98 ∨ b = 102) {G : GH} {ow : Nat → Nat} {P : Nat} (hy : TYW w0 w 0 k (4 * k)) (hR : RepC G ow p w P) : RP (f_L_types_65 K p l3 l4 (iI (k : Int)) s0 p) G ow p w P Φ := by
  unfold f_L_types_65
  have hlen := hy.2.2.2
  refine rp_q hR (q_append (x := b) hy.1 hR hs (by omega) (by omega)) (fun G ow P hR => ?_)
  have y1 := hy.ap (x := b) (st' := 1) (c := 0) (by omega) (by omega) (fun t => by
    rcases hb with e | e
    · rw [e]
      exact ⟨rfl, rfl⟩
    · rw [e]
      exact ⟨rfl, rfl⟩) (by decide)
  by_cases e : ((l4 >>> (20 &&& 31)) &&& 1) = (1 : Int32)
  · rw [if_pos e]
    refine rp_q hR (q_append (x := 45) y1.1 hR rfl (by omega) (by have := y1.2.2.2; omega)) (fun G ow P hR => ?_)
    have y2 := y1.ap (x := 45) (st' := 2) (c := 0) (by omega) (by omega) (fun t => ⟨rfl, rfl⟩) (by decide)
    exact ty89 hk hK (Or.inr rfl) y2 hR
  · rw [if_neg e]
    exact ty89 hk hK (Or.inl rfl) ⟨y1.1, y1.2.1, y1.2.2.1, Nat.le_succ_of_le y1.2.2.2⟩ hR
theorem ty18 {many : Nat} (hm : many ≤ 11) : ∀ (d fu k : Nat) (x : Int32) (w : WW) (G : GH) (ow : Nat → Nat) (P : Nat), k + d = many → d < fu → TYW w0 w 0 k (4 * k) → RepC G ow p w P → RP (f_L_types_18 fu p (iI (many : Int)) x (iI (k : Int))) G ow p w P (fun z w1 => ∃ a, z = .inr a ∧ a = iI (many : Int) ∧ TYW w0 w1 0 many (4 * many))
  | _, 0, _, _, _, _, _, _, _, hf, _, _ => absurd hf (by omega)
  | 0, fu + 1, k, x, w, G, ow, P, hk, hf, hy, hR => by
    rw [f_L_types_18]
    rw [if_pos (i_le rfl rfl (by omega))]
    have e : k = many := by omega
    subst e
    exact rp_of (t_pure hR) ⟨_, rfl, rfl, hy⟩
  | d + 1, fu + 1, k, x, w, G, ow, P, hk, hf, hy, hR => by
    rw [f_L_types_18]
    rw [if_neg (i_nle rfl rfl (by omega))]
    generalize (1103515245 * x) + 12345 = x1
    generalize ((x1 >>> (16 &&& 31)) &&& 7) = kind
    have go : ∀ w G ow P, TYW w0 w 0 (k + 1) (4 * k + 4) → RepC G ow p w P → RP (f_L_types_18 fu p (iI (many : Int)) x1 (iI ((k + 1 : Nat) : Int))) G ow p w P (fun z w1 => ∃ a, z = .inr a ∧ a = iI (many : Int) ∧ TYW w0 w1 0 many (4 * many)) := fun w G ow P hy hR => ty18 hm d fu (k + 1) x1 w G ow P (by omega) (by omega) ⟨hy.1, hy.2.1, hy.2.2.1, by have := hy.2.2.2; omega⟩ hR
    have hlen := hy.2.2.2
    by_cases e5 : (5 : Int32) ≤ kind
    · rw [if_pos e5]
      have xy : ∀ b : Int, (b = 120 ∨ b = 121) → RP (mbind (mchk p 4) (fun _ => xbind (f_X4_append p (iI b)) (fun _ => (mbind (mchk p 4) (fun _ => xbind (f_X4_append p 59) (fun _ => (f_L_types_18 fu p (iI (many : Int)) x1 (iI (k : Int) + 1)))))))) G ow p w P (fun z w1 => ∃ a, z = .inr a ∧ a = iI (many : Int) ∧ TYW w0 w1 0 many (4 * many)) := by
        intro b hb
        refine rp_q hR (q_append (x := b) hy.1 hR rfl (by omega) (by omega)) (fun G ow P hR => ?_)
        have y1 := hy.ap (x := b) (st' := 5) (c := 0) (by omega) (by omega) (fun t => by
          rcases hb with e | e
          · rw [e]
            exact ⟨rfl, rfl⟩
          · rw [e]
            exact ⟨rfl, rfl⟩) (by decide)
        refine rp_q hR (q_append (x := 59) y1.1 hR rfl (by omega) (by have := y1.2.2.2; omega)) (fun G ow P hR => ?_)
        have y2 := y1.ap (x := 59) (st' := 0) (c := 1) (by omega) (by omega) (fun t => ⟨rfl, rfl⟩) (by decide)
        rw [iI_s]
        exact go _ G ow P ⟨y2.1, y2.2.1, y2.2.2.1, Nat.le_trans y2.2.2.2 (by omega)⟩ hR
      by_cases e6 : kind = (5 : Int32)
      · rw [if_pos e6]
        exact xy 120 (Or.inl rfl)
      · rw [if_neg e6]
        exact xy 121 (Or.inr rfl)
    · rw [if_neg e5]
      by_cases e3 : (3 : Int32) ≤ kind
      · rw [if_pos e3]
        exact ty65 (by omega) go (b := 98) rfl (Or.inl rfl) hy hR
      · rw [if_neg e3]
        exact ty65 (by omega) go (b := 102) rfl (Or.inr rfl) hy hR
theorem l_types {w : WW} (hw : WI w) {q : Int32} {G : GH} {ow : Nat → Nat} {P : Nat} (hR : RepC G ow p w P) : RP (f_L_types p q) G ow p w P (fun z w1 => ∃ a, z = .inr a ∧ ∃ many : Nat, a = iI (many : Int) ∧ many ≤ 11 ∧ WI w1 ∧ FRW w w1 ∧ (wT w1).1 = -1 ∧ (wT w1).2.2.2.2.1 = many) := by
  unfold f_L_types
  refine rp_ck hR ?_
  refine rp_bind (Φ := fun _ w1 => w1 = (w.1, w.2.1, w.2.2.1, 0, w.2.2.2.2)) (rp_of (c_clearText hw hR) rfl) (fun x w1 G ow P e hR => ?_)
  subst e
  obtain ⟨c, c1, c2⟩ := q_up (x := q) (y := 12) (n := 12) rfl (by omega) G
  refine rp_val c2 ?_
  have h := ty18 (p := p) (w0 := w) (many := c) (by omega) c FU 0 q (w.1, w.2.1, w.2.2.1, 0, w.2.2.2.2) G ow P (by omega) (by unfold FU; omega) ⟨wi_nct hw, ⟨rfl, rfl, rfl⟩, ⟨tt0, rfl, rfl⟩, Nat.le_refl _⟩ hR
  obtain ⟨x2, w2, h1, a, h2, h3, h4⟩ := h
  exact ⟨x2, w2, h1, a, h2, c, h3, by omega, h4.1, h4.2.1, h4.2.2.1.rd⟩
end Types
