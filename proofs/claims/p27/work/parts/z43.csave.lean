/-! PURE PART 43: the class saves its state -/
theorem xg4 (a b c d : Nat) (k : Int) : gint (some (xcl a b c d k)) 4 4 = some (iI k) := rfl
theorem xr0 (a b c d : Nat) (k : Int) : gref (some (xcl a b c d k)) 4 0 = some a := rfl
theorem xr1 (a b c d : Nat) (k : Int) : gref (some (xcl a b c d k)) 4 1 = some b := rfl
theorem xr2 (a b c d : Nat) (k : Int) : gref (some (xcl a b c d k)) 4 2 = some c := rfl
theorem xr3 (a b c d : Nat) (k : Int) : gref (some (xcl a b c d k)) 4 3 = some d := rfl
theorem xp4 (a b c d : Nat) (k x : Int) : gput (some (xcl a b c d k)) 4 4 (.int (iI x)) = some (xcl a b c d x) := rfl
theorem xp3 (a b c d q : Nat) (k : Int) : gput (some (xcl a b c d k)) 4 3 (.ref q) = some (xcl a b c q k) := rfl
theorem xis (a b c d : Nat) (k : Int) : gis (some (xcl a b c d k)) 4 = true := rfl
theorem pu_some {R : Nat → RMt} {srefs : Nat → Option Nat} {i q : Nat} (h : srefs i = some q) : pu R srefs i = cnt (R i).2.2.2.2 100 := by
  unfold pu
  rw [h]
  exact if_neg Bool.false_ne_true
theorem pu_none {R : Nat → RMt} {srefs : Nat → Option Nat} {i : Nat} (h : srefs i = none) : pu R srefs i = 105 := by
  unfold pu
  rw [h]
  exact if_pos rfl
theorem pu_eq {R R' : Nat → RMt} {srefs srefs' : Nat → Option Nat} {i j : Nat} (h : srefs' i = srefs j) (k : R' i = R j) : pu R' srefs' i = pu R srefs j := by
  unfold pu
  rw [h, k]
theorem sv_some {G : GH} {ow : Nat → Nat} {p : Nat} {w : WW} {P : Nat} (hw : WI w) {ads : Nat → Nat} {tp sa : Nat} {srefs : Nat → Option Nat} {n : RMt} {R : Nat → RMt} (h1 : PO G ow p ads tp sa n.2.1 w.2.2.1) (h2 : PS G ow ads w.2.2.2.1 w.2.2.2.2) (h3 : PT G ow tp) (h4 : RSX G ow n w.1) (h5 : PV G ow sa srefs R w.2.1 w.2.2.1) (h6 : PL n R) (h7 : P = pot n R srefs) (hn : w.2.2.1 < 4) {q : Nat} (hq : srefs w.2.2.1 = some q) :
    RC (mbind (mgr p 4 3) (fun r15 => (mbind (mchk q 1) (fun _ => mbind (f_X1_copyFrom q r15) (fun _ => (mbind (mgi p 4 4) (fun x16 => (mbind (mput p 4 4 (.int (x16 + 1))) (fun _ => (mpure ())))))))))) G ow p w P () (w.1, va_up w.2.1 w.2.2.1 w.1, w.2.2.1 + 1, w.2.2.2) 0 := by
  obtain ⟨L, np, va, ma, refs⟩ := n
  obtain ⟨hL, hR⟩ := h6
  have hL' : 1000 ≤ L := hL
  obtain ⟨r1, r2, r3⟩ := hR w.2.2.1 hn
  have r2' : apt L (R w.2.2.1).1 := r2
  obtain ⟨k1, k2, k3⟩ := h5
  obtain ⟨m1, s, m2, m3⟩ := (k3 w.2.2.1 hn).1 q hq
  obtain ⟨Lr, pr, vr, mr, rr, hRn⟩ : ∃ Lr pr vr mr rr, R w.2.2.1 = ((Lr, pr, vr, mr, rr) : RMt) := ⟨_, _, _, _, _, rfl⟩
  rw [hRn] at m1 r1 r2'
  have m1' : pr = q := m1
  subst m1'
  rw [hRn] at m2
  have m2' : SX G ow Lr pr vr mr rr s := m2
  have h4' : SX G ow L np va ma refs w.1 := h4
  have h12 : G.1 p = some (xcl (ads 0) tp sa np w.2.2.1) := h1.2
  obtain ⟨G1, ow1, rA, rB, e1, e2, e3, e4, e5, e6⟩ := cp_run (L := Lr) (p := pr) (va := vr) (ma := mr) (L2 := L) (p2 := np) (va2 := va) (ma2 := ma) (by have : 1000 ≤ Lr := r1; omega) (by omega) (by unfold apt at r2'; have r2'' : L + 300 ≤ Lr ∨ Lr + 300 ≤ L := r2'; omega) hw.1 m2' h4'
  have r1' : 1000 ≤ Lr := r1
  have r2'' : L + 300 ≤ Lr ∨ Lr + 300 ≤ L := r2'
  obtain ⟨q1, q2, q3, q4, q5⟩ := e6
  have keep : ∀ a, ow a ≠ 0 → (ow a < Lr ∨ Lr + 300 ≤ ow a) → (ow a < L ∨ L + 300 ≤ ow a) → G1.1 a = G.1 a := fun a ha hb hc => q2 a ha (by unfold inR; omega)
  have hp1 : ow1 p = 1 := by rw [q1 p (by rw [h1.1]; decide)]; exact h1.1
  have hc1 : G1.1 p = some (xcl (ads 0) tp sa np w.2.2.1) := by rw [keep p (by rw [h1.1]; decide) (by rw [h1.1]; omega) (by rw [h1.1]; omega)]; exact h1.2
  have keep2 : ∀ (c : LE) a, ow1 a ≠ 1 → va_up G1.1 p (some c) a = G1.1 a := fun c a ha => up_ne _ _ (fun e => ha (by rw [e, hp1]))
  have hg : GW ((va_up G1.1 p (some (xcl (ads 0) tp sa np ((w.2.2.1 + 1 : Nat) : Int))), G1.2) : GH) ow1 := q3
  refine ⟨(va_up G1.1 p (some (xcl (ads 0) tp sa np ((w.2.2.1 + 1 : Nat) : Int))), G1.2), ow1, pot (L, np, va, ma, rB) (va_up R w.2.2.1 (Lr, pr, vr, mr, rA)) srefs, ?_, ⟨ads, tp, sa, srefs, (L, np, va, ma, rB), va_up R w.2.2.1 (Lr, pr, vr, mr, rA), ⟨hp1, up_self _ _ _⟩, ?_, ?_, ?_, ?_, ?_, rfl⟩, q1, ?_, hg, ?_, ?_, fun a ha => ?_⟩
  · rw [ev_gr, h12, xr3, Option.elim_some, ev_chk, m2'.1.1, gis_s, if_pos rfl, mbind_ok e1, ev_gi, hc1, xg4, Option.elim_some, ev_put, hc1, lz1, iI_add, show (w.2.2.1 : Int) + 1 = ((w.2.2.1 + 1 : Nat) : Int) by omega, xp4]
    rfl
  · refine PS.fr q1 h2 (fun a ha hb => ?_)
    have := q1 a (by omega)
    show va_up G1.1 p _ a = _
    rw [keep2 _ a (by omega)]
    exact keep a (by omega) (by omega) (by omega)
  · refine PT.fr q1 h3 (fun a ha hb => ?_)
    have := q1 a (by omega)
    show va_up G1.1 p _ a = _
    rw [keep2 _ a (by omega)]
    exact keep a (by omega) (by omega) (by omega)
  · refine RSX.fr (G := G1) (ow := ow1) (r := (L, np, va, ma, rB)) (fun _ _ => rfl) e3 (by show 0 < L; omega) hg (fun a ha hb => ?_)
    have ha' : L ≤ ow1 a := ha
    exact keep2 _ a (by omega)
  · refine ⟨by rw [q1 sa (by omega)]; exact k1, ?_, fun i hi => ⟨fun x hx => ?_, fun hx => ?_⟩⟩
    · have := q1 sa (by omega)
      show va_up G1.1 p _ sa = _
      rw [keep2 _ sa (by omega), keep sa (by omega) (by omega) (by omega)]
      exact k2
    · by_cases e : i = w.2.2.1
      · subst e
        rw [hq] at hx
        cases hx
        rw [up_self]
        refine ⟨rfl, w.1, ?_, fun _ => (up_self _ _ _).symm⟩
        refine RSX.fr (G := G1) (ow := ow1) (r := (Lr, pr, vr, mr, rA)) (fun _ _ => rfl) e2 (by show 0 < Lr; omega) hg (fun a ha hb => ?_)
        have ha' : Lr ≤ ow1 a := ha
        exact keep2 _ a (by omega)
      · rw [up_ne _ _ e]
        obtain ⟨o1, s', o2, o3⟩ := (k3 i hi).1 x hx
        have t1 := hR i hi
        have t2 : apt L (R i).1 := t1.2.1
        have t3 := t1.2.2 w.2.2.1 hn (Ne.symm e)
        rw [hRn] at t3
        have t3' : (R i).1 + 300 ≤ Lr ∨ Lr + 300 ≤ (R i).1 := t3
        unfold apt at t2
        refine ⟨o1, s', o2.fr q1 (by omega) hg (fun a ha hb => ?_), fun hh => ?_⟩
        · have := q1 a (by omega)
          show va_up G1.1 p _ a = _
          rw [keep2 _ a (by omega)]
          exact keep a (by omega) (by omega) (by omega)
        · have hh' : i < w.2.2.1 + 1 := hh
          show s' = va_up w.2.1 w.2.2.1 w.1 i
          rw [up_ne _ _ e]
          exact o3 (by omega)
    · show w.2.2.1 + 1 ≤ i
      have := (k3 i hi).2 hx
      have : i ≠ w.2.2.1 := fun e => by rw [e, hq] at hx; cases hx
      omega
  · refine ⟨hL, fun i hi => ?_⟩
    have t1 := hR i hi
    have hlab : ∀ j, (va_up R w.2.2.1 (Lr, pr, vr, mr, rA) j).1 = (R j).1 := fun j => by
      by_cases e : j = w.2.2.1
      · rw [e, up_self, hRn]
      · rw [up_ne _ _ e]
    rw [hlab i]
    exact ⟨t1.1, t1.2.1, fun j hj hji => by rw [hlab j]; exact t1.2.2 j hj hji⟩
  · intro a ha hb
    have := q1 a (by omega)
    show va_up G1.1 p _ a = _
    rw [keep2 _ a (by omega)]
    exact keep a (by omega) (by omega) (by omega)
  · have hpu : ∀ i, i < 4 → (if i = w.2.2.1 then pu (va_up R w.2.2.1 (Lr, pr, vr, mr, rA)) srefs i = cnt rA 100 ∧ pu R srefs i = cnt rr 100 else pu (va_up R w.2.2.1 (Lr, pr, vr, mr, rA)) srefs i = pu R srefs i) := by
      intro i hi
      by_cases e : i = w.2.2.1
      · rw [if_pos e]
        subst e
        rw [pu_some hq, pu_some hq, up_self, hRn]
        exact ⟨rfl, rfl⟩
      · rw [if_neg e]
        exact pu_eq rfl (up_ne _ _ e)
    have p0 := hpu 0 (by decide)
    have p1 := hpu 1 (by decide)
    have p2 := hpu 2 (by decide)
    have p3 := hpu 3 (by decide)
    show G1.2.2.1 + 2 * _ ≤ _
    rw [h7]
    unfold pot
    dsimp only
    have : w.2.2.1 = 0 ∨ w.2.2.1 = 1 ∨ w.2.2.1 = 2 ∨ w.2.2.1 = 3 := by omega
    rcases this with e | e | e | e <;> rw [e] at p0 p1 p2 p3 ⊢ <;> simp only [if_true, Nat.reduceEqDiff, if_false] at p0 p1 p2 p3 <;> omega
  · have hpu : ∀ i, i < 4 → (if i = w.2.2.1 then pu (va_up R w.2.2.1 (Lr, pr, vr, mr, rA)) srefs i = cnt rA 100 ∧ pu R srefs i = cnt rr 100 else pu (va_up R w.2.2.1 (Lr, pr, vr, mr, rA)) srefs i = pu R srefs i) := by
      intro i hi
      by_cases e : i = w.2.2.1
      · rw [if_pos e]
        subst e
        rw [pu_some hq, pu_some hq, up_self, hRn]
        exact ⟨rfl, rfl⟩
      · rw [if_neg e]
        exact pu_eq rfl (up_ne _ _ e)
    have p0 := hpu 0 (by decide)
    have p1 := hpu 1 (by decide)
    have p2 := hpu 2 (by decide)
    have p3 := hpu 3 (by decide)
    show G1.2.2.2 + 51 * _ ≤ _
    rw [h7]
    unfold pot
    dsimp only
    have : w.2.2.1 = 0 ∨ w.2.2.1 = 1 ∨ w.2.2.1 = 2 ∨ w.2.2.1 = 3 := by omega
    rcases this with e | e | e | e <;> rw [e] at p0 p1 p2 p3 ⊢ <;> simp only [if_true, Nat.reduceEqDiff, if_false] at p0 p1 p2 p3 <;> omega
  · show gref (va_up G1.1 p _ a) 4 0 = _ ∧ gref (va_up G1.1 p _ a) 4 1 = _
    by_cases e : a = p
    · subst e
      rw [up_self, h12]
      exact ⟨rfl, rfl⟩
    · rw [up_ne _ _ e, keep a (by omega) (by omega) (by omega)]
      exact ⟨rfl, rfl⟩
