/-! PURE PART 40: what the heap holds of the class's object; its labels: 1 object, 2 trial, 3 4 the trial's row, 5 saved states, 60.. script, 1000.. rooms of states; 66 to 99 are others' -/
abbrev RMt : Type := Nat × Nat × Nat × Nat × (Nat → Option Nat)
def RSX (G : GH) (ow : Nat → Nat) (r : RMt) (s : SS) : Prop := SX G ow r.1 r.2.1 r.2.2.1 r.2.2.2.1 r.2.2.2.2 s
def xcl (a b c d : Nat) (k : Int) : LE := .inr (4, [.ref a, .ref b, .ref c, .ref d, .int (iI k)])
def tcl (a b : Int) (r : Nat) : LE := .inr (2, [.int (iI a), .int (iI b), .ref r])
def PO (G : GH) (ow : Nat → Nat) (p : Nat) (ads : Nat → Nat) (tp sa np : Nat) (k : Int) : Prop := ow p = 1 ∧ G.1 p = some (xcl (ads 0) tp sa np k)
def PS (G : GH) (ow : Nat → Nat) (ads : Nat → Nat) (n : Nat) (bs : Nat → Int) : Prop := (∀ k, k ∈ KS → ow (ads k) = 60 + k) ∧ ∃ bt t, (∀ k, k ∈ KS → G.1 (ads k) = some (OB (sob ads) slN (tz n t) (tc bt t) k)) ∧ ∀ j, j < n → bt j = bs j
def PT (G : GH) (ow : Nat → Nat) (tp : Nat) : Prop := ∃ tr tx v g a b, ow tp = 2 ∧ ow tr = 3 ∧ ow tx = 4 ∧ G.1 tp = some (tcl a b tr) ∧ G.1 tr = some (vcl v tx) ∧ G.1 tx = some (icz 40 g)
def PV (G : GH) (ow : Nat → Nat) (sa : Nat) (srefs : Nat → Option Nat) (R : Nat → RMt) (sv : Nat → SS) (n : Nat) : Prop := ow sa = 5 ∧ G.1 sa = some (qc 3 4 srefs) ∧ ∀ i, i < 4 → (∀ q, srefs i = some q → (R i).2.1 = q ∧ ∃ s, RSX G ow (R i) s ∧ (i < n → s = sv i)) ∧ (srefs i = none → n ≤ i)
def apt (a b : Nat) : Prop := a + 300 ≤ b ∨ b + 300 ≤ a
def PL (n : RMt) (R : Nat → RMt) : Prop := 1000 ≤ n.1 ∧ ∀ i, i < 4 → 1000 ≤ (R i).1 ∧ apt n.1 (R i).1 ∧ ∀ j, j < 4 → j ≠ i → apt (R i).1 (R j).1
def pu (R : Nat → RMt) (srefs : Nat → Option Nat) (i : Nat) : Nat := if (srefs i).isNone = true then 105 else cnt (R i).2.2.2.2 100
def pot (n : RMt) (R : Nat → RMt) (srefs : Nat → Option Nat) : Nat := cnt n.2.2.2.2 100 + (pu R srefs 0 + pu R srefs 1 + pu R srefs 2 + pu R srefs 3)
def RepC (G : GH) (ow : Nat → Nat) (p : Nat) (w : WW) (P : Nat) : Prop := ∃ ads tp sa srefs n R, PO G ow p ads tp sa (n : RMt).2.1 w.2.2.1 ∧ PS G ow ads w.2.2.2.1 w.2.2.2.2 ∧ PT G ow tp ∧ RSX G ow n w.1 ∧ PV G ow sa srefs R w.2.1 w.2.2.1 ∧ PL n R ∧ P = pot n R srefs
theorem PO.fr {G : GH} {G' : GH} {ow : Nat → Nat} {ow' : Nat → Nat} (h1 : ∀ a, ow a ≠ 0 → ow' a = ow a) {p : Nat} {ads : Nat → Nat} {tp sa np : Nat} {k : Int} (h : PO G ow p ads tp sa np k) (h2 : ∀ a, ow a = 1 → G'.1 a = G.1 a) : PO G' ow' p ads tp sa np k := ⟨by rw [h1 p (by rw [h.1]; decide)]; exact h.1, by rw [h2 p h.1]; exact h.2⟩
theorem PS.fr {G : GH} {G' : GH} {ow : Nat → Nat} {ow' : Nat → Nat} (h1 : ∀ a, ow a ≠ 0 → ow' a = ow a) {ads : Nat → Nat} {n : Nat} {bs : Nat → Int} (h : PS G ow ads n bs) (h2 : ∀ a, 60 ≤ ow a → ow a < 66 → G'.1 a = G.1 a) : PS G' ow' ads n bs := by
  obtain ⟨k1, bt, t, k2, k3⟩ := h
  have hk : ∀ k, k ∈ KS → k < 6 := by decide
  refine ⟨fun k hk' => ?_, bt, t, fun k hk' => ?_, k3⟩
  · have := hk k hk'
    rw [h1 _ (by rw [k1 k hk']; omega)]
    exact k1 k hk'
  · have := hk k hk'
    rw [h2 _ (by rw [k1 k hk']; omega) (by rw [k1 k hk']; omega)]
    exact k2 k hk'
theorem PT.fr {G : GH} {G' : GH} {ow : Nat → Nat} {ow' : Nat → Nat} (h1 : ∀ a, ow a ≠ 0 → ow' a = ow a) {tp : Nat} (h : PT G ow tp) (h2 : ∀ a, 2 ≤ ow a → ow a < 5 → G'.1 a = G.1 a) : PT G' ow' tp := by
  obtain ⟨tr, tx, v, g, a, b, k1, k2, k3, k4, k5, k6⟩ := h
  exact ⟨tr, tx, v, g, a, b, by rw [h1 _ (by omega), k1], by rw [h1 _ (by omega), k2], by rw [h1 _ (by omega), k3], by rw [h2 _ (by omega) (by omega), k4], by rw [h2 _ (by omega) (by omega), k5], by rw [h2 _ (by omega) (by omega), k6]⟩
theorem RSX.fr {G : GH} {G' : GH} {ow : Nat → Nat} {ow' : Nat → Nat} (h1 : ∀ a, ow a ≠ 0 → ow' a = ow a) {r : RMt} {s : SS} (h : RSX G ow r s) (hr : 0 < r.1) (hg : GW G' ow') (h2 : ∀ a, r.1 ≤ ow a → ow a < r.1 + 300 → G'.1 a = G.1 a) : RSX G' ow' r s := ⟨SC.frame h.1 hr h1 h2, hg⟩
theorem PV.fr {G : GH} {G' : GH} {ow : Nat → Nat} {ow' : Nat → Nat} (h1 : ∀ a, ow a ≠ 0 → ow' a = ow a) {sa : Nat} {srefs : Nat → Option Nat} {R : Nat → RMt} {sv : Nat → SS} {n : Nat} (h : PV G ow sa srefs R sv n) (hr : ∀ i, i < 4 → 0 < (R i).1) (hg : GW G' ow') (h0 : ∀ a, ow a = 5 → G'.1 a = G.1 a) (h2 : ∀ i, i < 4 → ∀ a, (R i).1 ≤ ow a → ow a < (R i).1 + 300 → G'.1 a = G.1 a) : PV G' ow' sa srefs R sv n := by
  obtain ⟨k1, k2, k3⟩ := h
  refine ⟨by rw [h1 _ (by omega), k1], by rw [h0 _ k1, k2], fun i hi => ⟨fun q hq => ?_, (k3 i hi).2⟩⟩
  obtain ⟨m1, s, m2, m3⟩ := (k3 i hi).1 q hq
  exact ⟨m1, s, m2.fr h1 (hr i hi) hg (h2 i hi), m3⟩
/-- the object's first two fields stand -/
def KX (G : GH) (ow : Nat → Nat) (G' : GH) : Prop := ∀ a, ow a = 1 → gref (G'.1 a) 4 0 = gref (G.1 a) 4 0 ∧ gref (G'.1 a) 4 1 = gref (G.1 a) 4 1
/-- from one heap to another: others' cells and the script's stand; e throws at most -/
def CW (G : GH) (ow : Nat → Nat) (P : Nat) (G' : GH) (ow' : Nat → Nat) (P' e : Nat) : Prop := (∀ a, ow a ≠ 0 → ow' a = ow a) ∧ (∀ a, 50 ≤ ow a → ow a < 100 → G'.1 a = G.1 a) ∧ GW G' ow' ∧ G'.2.2.1 + 2 * P' ≤ G.2.2.1 + 2 * P + e ∧ G'.2.2.2 + 51 * P' ≤ G.2.2.2 + 51 * P + 6 * e ∧ KX G ow G'
theorem CW.rf {G : GH} {ow : Nat → Nat} {P : Nat} (h : GW G ow) : CW G ow P G ow P 0 := ⟨fun _ _ => rfl, fun _ _ _ => rfl, h, by omega, by omega, fun _ _ => ⟨rfl, rfl⟩⟩
theorem CW.tr {G G1 G2 : GH} {ow ow1 ow2 : Nat → Nat} {P P1 P2 e1 e2 : Nat} (h : CW G ow P G1 ow1 P1 e1) (k : CW G1 ow1 P1 G2 ow2 P2 e2) : CW G ow P G2 ow2 P2 (e1 + e2) := by
  obtain ⟨h1, h2, h3, h4, h5, h6⟩ := h
  obtain ⟨k1, k2, k3, k4, k5, k6⟩ := k
  refine ⟨fun a ha => ?_, fun a ha hb => ?_, k3, by omega, by omega, fun a ha => ⟨((k6 a (by rw [h1 a (by omega)]; exact ha)).1).trans (h6 a ha).1, ((k6 a (by rw [h1 a (by omega)]; exact ha)).2).trans (h6 a ha).2⟩⟩
  · rw [k1 a (by rw [h1 a ha]; exact ha), h1 a ha]
  · have := h1 a (by omega)
    rw [k2 a (by omega) (by omega), h2 a ha hb]
theorem RepC.gw {G : GH} {ow : Nat → Nat} {p : Nat} {w : WW} {P : Nat} (h : RepC G ow p w P) : GW G ow := by
  obtain ⟨ads, tp, sa, srefs, n, R, h1, h2, h3, h4, h5⟩ := h
  exact h4.2
/-- the state that stands now, and what comes of a change in its room alone -/
theorem RepC.now {G : GH} {ow : Nat → Nat} {p : Nat} {w : WW} {P : Nat} (h : RepC G ow p w P) : ∃ ads0 tp sa L np va ma refs, 1000 ≤ L ∧ ow p = 1 ∧ G.1 p = some (xcl ads0 tp sa np w.2.2.1) ∧ SX G ow L np va ma refs w.1 ∧
    ∀ G' ow' refs' s', SX G' ow' L np va ma refs' s' → SP L G ow refs G' ow' refs' → ∃ P', RepC G' ow' p (s', w.2) P' ∧ CW G ow P G' ow' P' 0 := by
  obtain ⟨ads, tp, sa, srefs, n, R, h1, h2, h3, h4, h5, ⟨hL, hR⟩, h7⟩ := h
  obtain ⟨L, np, va, ma, refs⟩ := n
  have hL' : 1000 ≤ L := hL
  refine ⟨ads 0, tp, sa, L, np, va, ma, refs, hL, h1.1, h1.2, h4, fun G' ow' refs' s' hx hp => ?_⟩
  have hpf := hp
  obtain ⟨p1, p2, p3, p4, p5, p6⟩ := hp
  refine ⟨pot (L, np, va, ma, refs') R srefs, ⟨ads, tp, sa, srefs, (L, np, va, ma, refs'), R, ?_, ?_, ?_, hx, ?_, ⟨hL, hR⟩, rfl⟩, p1, ?_, p3, ?_, ?_, fun a ha => by rw [p2 a (by omega) (by omega)]; exact ⟨rfl, rfl⟩⟩
  · exact h1.fr p1 (fun a ha => p2 a (by omega) (by omega))
  · exact h2.fr p1 (fun a ha hb => p2 a (by omega) (by omega))
  · exact h3.fr p1 (fun a ha hb => p2 a (by omega) (by omega))
  · refine h5.fr p1 (fun i hi => by have := (hR i hi).1; omega) p3 (fun a ha => p2 a (by omega) (by omega)) (fun i hi a ha hb => ?_)
    have h8 := hR i hi
    have h9 : apt L (R i).1 := h8.2.1
    unfold apt at h9
    exact p2 a (by omega) (by omega)
  · exact fun a ha hb => p2 a (by omega) (by omega)
  · rw [h7]
    unfold pot
    dsimp only
    omega
  · rw [h7]
    unfold pot
    dsimp only
    omega
/-- a program on the class's object -/
def RC {α : Type} (F : MM α) (G : GH) (ow : Nat → Nat) (p : Nat) (w : WW) (P : Nat) (res : α) (w' : WW) (e : Nat) : Prop := ∃ G' ow' P', F.1 G = some (res, G') ∧ RepC G' ow' p w' P' ∧ CW G ow P G' ow' P' e
section Rc
variable {G : GH} {ow : Nat → Nat} {p : Nat} {w : WW} {P : Nat}
theorem rc_pure {α : Type} {x : α} (h : RepC G ow p w P) : RC (mpure x) G ow p w P x w 0 := ⟨G, ow, P, rfl, h, CW.rf h.gw⟩
theorem rc_eq {α : Type} {F F' : MM α} {x : α} {w' : WW} {e : Nat} (h : RC F' G ow p w P x w' e) (q : F.1 G = F'.1 G) : RC F G ow p w P x w' e := by
  obtain ⟨G', ow', P', h1, h2⟩ := h
  exact ⟨G', ow', P', q.trans h1, h2⟩
theorem rc_bind {α β : Type} {F : MM α} {K : α → MM β} {x : α} {y : β} {w1 w2 : WW} {e1 e2 : Nat} (h : RC F G ow p w P x w1 e1) (k : ∀ G' ow' P', RepC G' ow' p w1 P' → RC (K x) G' ow' p w1 P' y w2 e2) : RC (mbind F K) G ow p w P y w2 (e1 + e2) := by
  obtain ⟨G', ow', P', h1, h2, h3⟩ := h
  obtain ⟨G2, ow2, P2, k1, k2, k3⟩ := k G' ow' P' h2
  exact ⟨G2, ow2, P2, (mbind_ok h1).trans k1, k2, h3.tr k3⟩
theorem rc_bind0 {α β : Type} {F : MM α} {K : α → MM β} {x : α} {y : β} {w1 w2 : WW} {e2 : Nat} (h : RC F G ow p w P x w1 0) (k : ∀ G' ow' P', RepC G' ow' p w1 P' → RC (K x) G' ow' p w1 P' y w2 e2) : RC (mbind F K) G ow p w P y w2 e2 := by
  have := rc_bind h k
  rw [Nat.zero_add] at this
  exact this
theorem rc_xin {α β : Type} {F : MX α} {K : α → MX β} {x : α} {y : String ⊕ β} {w1 w2 : WW} {e2 : Nat} (h : RC F G ow p w P (.inr x) w1 0) (k : ∀ G' ow' P', RepC G' ow' p w1 P' → RC (K x) G' ow' p w1 P' y w2 e2) : RC (xbind F K) G ow p w P y w2 e2 := rc_bind0 h k
theorem rc_xout {α β : Type} {F : MX α} {K : α → MX β} {E : String} {w1 : WW} {e : Nat} (h : RC F G ow p w P (.inl E) w1 e) : RC (xbind F K) G ow p w P (.inl E) w1 e := by
  obtain ⟨G', ow', P', h1, h2⟩ := h
  exact ⟨G', ow', P', xbind_out h1, h2⟩
theorem RepC.grown (h : RepC G ow p w P) (n c d : Nat) (hn : G.2.1 ≤ n) : RepC (G.1, n, c, d) ow p w P := by
  obtain ⟨ads, tp, sa, srefs, r, R, h1, h2, h3, h4, h5, h6, h7⟩ := h
  have hg : GW ((G.1, n, c, d) : GH) ow := fun a ha => Nat.lt_of_lt_of_le (h4.2 a ha) hn
  exact ⟨ads, tp, sa, srefs, r, R, h1, h2, h3, h4.fr (fun _ _ => rfl) (by have := h6.1; omega) hg (fun _ _ _ => rfl), h5.fr (fun _ _ => rfl) (fun i hi => by have := (h6.2 i hi).1; omega) hg (fun _ _ => rfl) (fun _ _ _ _ _ => rfl), h6, h7⟩
theorem rc_thr {α : Type} {E : String} (h : RepC G ow p w P) : RC (mthrow E : MX α) G ow p w P (.inl E) w 1 := by
  refine ⟨(G.1, G.2.1 + 1, G.2.2.1 + 1, G.2.2.2 + 6), ow, P, rfl, h.grown _ _ _ (Nat.le_succ _), fun _ _ => rfl, fun _ _ _ => rfl, fun a ha => Nat.lt_succ_of_lt (h.gw a ha), ?_, ?_, fun _ _ => ⟨rfl, rfl⟩⟩
  · show G.2.2.1 + 1 + 2 * P ≤ _
    omega
  · show G.2.2.2 + 6 + 51 * P ≤ _
    omega
theorem rc_ck {α : Type} {F : MM α} {x : α} {w' : WW} {e : Nat} (h : RepC G ow p w P) (k : RC F G ow p w P x w' e) : RC (mbind (mchk p 4) (fun _ => F)) G ow p w P x w' e := by
  obtain ⟨ads0, tp, sa, L, np, va, ma, refs, a1, a2, a3, a4, a5⟩ := h.now
  refine rc_eq k ?_
  rw [ev_chk, a3]
  rfl
/-- the rest is a question to the state that stands now -/
theorem rc_tail {α : Type} {T : Nat → MM α} {y : α} (h : RepC G ow p w P) (k : ∀ L np va ma refs ads0 tp sa, 1000 ≤ L → ow p = 1 → G.1 p = some (xcl ads0 tp sa np w.2.2.1) → SX G ow L np va ma refs w.1 → RO (T np) G ow L np va ma refs w.1 y) : RC (mbind (mgr p 4 3) T) G ow p w P y w 0 := by
  obtain ⟨ads0, tp, sa, L, np, va, ma, refs, a1, a2, a3, a4, a5⟩ := h.now
  obtain ⟨G', ow', refs', b1, b2, b3⟩ := k L np va ma refs ads0 tp sa a1 a2 a3 a4
  obtain ⟨P', c1, c2⟩ := a5 G' ow' refs' w.1 b2 b3
  refine ⟨G', ow', P', ?_, c1, c2⟩
  rw [ev_gr, a3]
  exact b1
theorem rc_ro {α β : Type} {T : Nat → MM α} {K : α → MM β} {x : α} {y : β} {w' : WW} {e : Nat} (h : RepC G ow p w P) (k : ∀ L np va ma refs, 1000 ≤ L → SX G ow L np va ma refs w.1 → RO (T np) G ow L np va ma refs w.1 x) (kk : ∀ G' ow' P', RepC G' ow' p w P' → RC (K x) G' ow' p w P' y w' e) : RC (mbind (mgr p 4 3) (fun r => mbind (mchk r 1) (fun _ => mbind (T r) K))) G ow p w P y w' e := by
  obtain ⟨ads0, tp, sa, L, np, va, ma, refs, a1, a2, a3, a4, a5⟩ := h.now
  obtain ⟨G', ow', refs', b1, b2, b3⟩ := k L np va ma refs a1 a4
  obtain ⟨P', c1, c2⟩ := a5 G' ow' refs' w.1 b2 b3
  obtain ⟨G2, ow2, P2, d1, d2, d3⟩ := kk G' ow' P' c1
  have c3 := c2.tr d3
  rw [Nat.zero_add] at c3
  refine ⟨G2, ow2, P2, ?_, d2, c3⟩
  rw [ev_gr, a3]
  show (mbind (mchk np 1) (fun _ => mbind (T np) K)).1 G = _
  rw [ev_chk, a4.1.1]
  exact (mbind_ok b1).trans d1
theorem ro_ck {α : Type} {F : MM α} {L np va ma : Nat} {refs : Nat → Option Nat} {s : SS} {x : α} (h : SX G ow L np va ma refs s) (k : RO F G ow L np va ma refs s x) : RO (mbind (mchk np 1) (fun _ => F)) G ow L np va ma refs s x := ro_eq k (by rw [ev_chk, h.1.1]; rfl)
end Rc
