/-! PURE PART 44: the class saves its state, in a new room or in the oldest one's -/
theorem qc_arr {G : GH} {a t n : Nat} {f : Nat → Option Nat} (h : G.1 a = some (qc t n f)) : garr a t G = some (n, .inr (.inr (.inr (.inr f)))) := garr_ok h
theorem sv_none {G : GH} {ow : Nat → Nat} {p : Nat} {w : WW} {P : Nat} (hw : WI w) {ads : Nat → Nat} {tp sa : Nat} {srefs : Nat → Option Nat} {n : RMt} {R : Nat → RMt} (h1 : PO G ow p ads tp sa n.2.1 w.2.2.1) (h2 : PS G ow ads w.2.2.2.1 w.2.2.2.2) (h3 : PT G ow tp) (h4 : RSX G ow n w.1) (h5 : PV G ow sa srefs R w.2.1 w.2.2.1) (h6 : PL n R) (h7 : P = pot n R srefs) (hn : w.2.2.1 < 4) (hq : srefs w.2.2.1 = none) :
    RC (mbind (mnewo 1 [.int 0, .int 0, .int 0, .null, .null] 5) (fun a10 => (mbind (f_X1_init a10) (fun _ => (mbind (mgr p 4 2) (fun r11 => (mbind (mgi p 4 4) (fun x12 => (mbind (masq r11 3 1 x12 (some a10)) (fun _ => (mbind (mgr p 4 3) (fun r13 => (mbind (mchk a10 1) (fun _ => mbind (f_X1_copyFrom a10 r13) (fun _ => (mbind (mgi p 4 4) (fun x14 => (mbind (mput p 4 4 (.int (x14 + 1))) (fun _ => (mpure ())))))))))))))))))))) G ow p w P () (w.1, va_up w.2.1 w.2.2.1 w.1, w.2.2.1 + 1, w.2.2.2) 0 := by
  obtain ⟨L, np, va, ma, refs⟩ := n
  obtain ⟨hL, hR⟩ := h6
  have hL' : 1000 ≤ L := hL
  have h12 : G.1 p = some (xcl (ads 0) tp sa np w.2.2.1) := h1.2
  have hg0 := h4.2
  obtain ⟨k1, k2, k3⟩ := h5
  obtain ⟨r1, r2, r3⟩ := hR w.2.2.1 hn
  have r2' : L + 300 ≤ (R w.2.2.1).1 ∨ (R w.2.2.1).1 + 300 ≤ L := r2
  obtain ⟨Lr, hLr⟩ : ∃ Lr, Lr = (R w.2.2.1).1 := ⟨_, rfl⟩
  rw [← hLr] at r1 r2'
  have hsx := sx_new hg0 Lr (by omega) 0
  obtain ⟨Gn, hGn⟩ : ∃ Gn : GH, Gn = (va_up (va_up (va_up G.1 (G.2.1 + 2) (some (icz 100 (fun _ => 0)))) (G.2.1 + 1) (some (qc 4 100 (fun _ => none)))) G.2.1 (some (scl s00 (G.2.1 + 1) (G.2.1 + 2))), G.2.1 + 3, G.2.2.1 + 3, G.2.2.2 + 205) := ⟨_, rfl⟩
  obtain ⟨own, hown⟩ : ∃ own : Nat → Nat, own = va_up (va_up (va_up ow G.2.1 Lr) (G.2.1 + 1) (Lr + 1)) (G.2.1 + 2) (Lr + 2) := ⟨_, rfl⟩
  rw [← hGn, ← hown] at hsx
  obtain ⟨g1, g2, g3, g4, g5, g6⟩ := hsx
  have keep : ∀ a, ow a ≠ 0 → Gn.1 a = G.1 a := fun a ha => g3 a ha (fun hh => hh)
  have hsa : own sa = 5 := by rw [g2 sa (by omega)]; exact k1
  have keep2 : ∀ (c : LE) a, own a ≠ 5 → va_up Gn.1 sa (some c) a = Gn.1 a := fun c a ha => up_ne _ _ (fun e => ha (by rw [e, hsa]))
  obtain ⟨Gm, hGm⟩ : ∃ Gm : GH, Gm = (va_up Gn.1 sa (some (qc 3 4 (va_up srefs w.2.2.1 (some G.2.1)))), Gn.2) := ⟨_, rfl⟩
  have hgm : GW Gm own := by rw [hGm]; exact g4
  have km : ∀ a, ow a ≠ 0 → ow a ≠ 5 → Gm.1 a = G.1 a := fun a ha hb => by
    rw [hGm]
    show va_up Gn.1 sa _ a = _
    rw [keep2 _ a (by rw [g2 a ha]; exact hb), keep a ha]
  have km2 : ∀ a, own a ≠ 5 → Gm.1 a = Gn.1 a := fun a hb => by
    rw [hGm]
    exact keep2 _ a hb
  obtain ⟨R', hR'⟩ : ∃ R' : Nat → RMt, R' = va_up R w.2.2.1 (Lr, G.2.1, G.2.1 + 1, G.2.1 + 2, fun _ => none) := ⟨_, rfl⟩
  have hlab : ∀ j, (R' j).1 = (R j).1 := fun j => by
    rw [hR']
    by_cases e : j = w.2.2.1
    · rw [e, up_self]
      exact hLr
    · rw [up_ne _ _ e]
  have c1 : PO Gm own p ads tp sa np w.2.2.1 := PO.fr g2 h1 (fun a ha => km a (by omega) (by omega))
  have c2 := PS.fr (G' := Gm) g2 h2 (fun a ha hb => km a (by omega) (by omega))
  have c3 := PT.fr (G' := Gm) g2 h3 (fun a ha hb => km a (by omega) (by omega))
  have c4 : RSX Gm own (L, np, va, ma, refs) w.1 := RSX.fr g2 h4 (by show 0 < L; omega) hgm (fun a ha hb => by
    have ha' : L ≤ ow a := ha
    exact km a (by omega) (by omega))
  have c5 : PV Gm own sa (va_up srefs w.2.2.1 (some G.2.1)) R' w.2.1 w.2.2.1 := by
    refine ⟨hsa, by rw [hGm]; exact up_self _ _ _, fun i hi => ⟨fun x hx => ?_, fun hx => ?_⟩⟩
    · by_cases e : i = w.2.2.1
      · subst e
        rw [up_self] at hx
        cases hx
        rw [hR', up_self]
        refine ⟨rfl, s00, ?_, fun hh => absurd hh (by omega)⟩
        refine RSX.fr (G := Gn) (ow := own) (r := (Lr, G.2.1, G.2.1 + 1, G.2.1 + 2, fun _ => none)) (fun _ _ => rfl) g1 (by show 0 < Lr; omega) hgm (fun a ha hb => ?_)
        have ha' : Lr ≤ own a := ha
        exact km2 a (by omega)
      · rw [up_ne _ _ e] at hx
        obtain ⟨o1, s', o2, o3⟩ := (k3 i hi).1 x hx
        have t1 := hR i hi
        rw [hR', up_ne _ _ e]
        exact ⟨o1, s', o2.fr g2 (by omega) hgm (fun a ha hb => km a (by omega) (by omega)), o3⟩
    · by_cases e : i = w.2.2.1
      · rw [e, up_self] at hx
        cases hx
      · rw [up_ne _ _ e] at hx
        exact (k3 i hi).2 hx
  have c6 : PL (L, np, va, ma, refs) R' := by
    refine ⟨hL, fun i hi => ?_⟩
    have t1 := hR i hi
    rw [hlab i]
    exact ⟨t1.1, t1.2.1, fun j hj hji => by rw [hlab j]; exact t1.2.2 j hj hji⟩
  obtain ⟨G2, ow2, P2, d1, d2, d3⟩ := sv_some hw (P := pot (L, np, va, ma, refs) R' (va_up srefs w.2.2.1 (some G.2.1))) c1 c2 c3 c4 c5 c6 rfl hn (q := G.2.1) (up_self _ _ _)
  have hcw : CW G ow P Gm own (pot (L, np, va, ma, refs) R' (va_up srefs w.2.2.1 (some G.2.1))) 0 := by
    have hpu : ∀ i, i < 4 → (if i = w.2.2.1 then pu R' (va_up srefs w.2.2.1 (some G.2.1)) i = cnt (fun _ => none) 100 ∧ pu R srefs i = 105 else pu R' (va_up srefs w.2.2.1 (some G.2.1)) i = pu R srefs i) := by
      intro i hi
      by_cases e : i = w.2.2.1
      · rw [if_pos e]
        subst e
        rw [pu_none hq, pu_some (up_self _ _ _), hR', up_self]
        exact ⟨rfl, rfl⟩
      · rw [if_neg e]
        exact pu_eq (up_ne _ _ e) (by rw [hR']; exact up_ne _ _ e)
    have p0 := hpu 0 (by decide)
    have p1 := hpu 1 (by decide)
    have p2 := hpu 2 (by decide)
    have p3 := hpu 3 (by decide)
    refine ⟨g2, fun a ha hb => km a (by omega) (by omega), hgm, ?_, ?_, fun a ha => by rw [km a (by omega) (by omega)]; exact ⟨rfl, rfl⟩⟩
    · have e0 : Gm.2.2.1 = Gn.2.2.1 := by rw [hGm]
      rw [e0, h7]
      unfold pot
      dsimp only
      have : w.2.2.1 = 0 ∨ w.2.2.1 = 1 ∨ w.2.2.1 = 2 ∨ w.2.2.1 = 3 := by omega
      rcases this with e | e | e | e <;> rw [e] at p0 p1 p2 p3 ⊢ <;> simp only [if_true, Nat.reduceEqDiff, if_false] at p0 p1 p2 p3 <;> omega
    · have e0 : Gm.2.2.2 = Gn.2.2.2 := by rw [hGm]
      rw [e0, h7]
      unfold pot
      dsimp only
      have : w.2.2.1 = 0 ∨ w.2.2.1 = 1 ∨ w.2.2.1 = 2 ∨ w.2.2.1 = 3 := by omega
      rcases this with e | e | e | e <;> rw [e] at p0 p1 p2 p3 ⊢ <;> simp only [if_true, Nat.reduceEqDiff, if_false] at p0 p1 p2 p3 <;> omega
  have d4 := hcw.tr d3
  refine ⟨G2, ow2, P2, ?_, d2, d4⟩
  refine (newstate G _).trans ?_
  rw [← hGn]
  have hpn : Gn.1 p = some (xcl (ads 0) tp sa np w.2.2.1) := by rw [keep p (by rw [h1.1]; decide)]; exact h12
  have hsn : Gn.1 sa = some (qc 3 4 srefs) := by rw [keep sa (by omega)]; exact k2
  have hfit : gfit (some G.2.1) Gn 1 = true := by
    show gis (Gn.1 G.2.1) 1 = true
    rw [g1.1.1]
    rfl
  rw [ev_gr, hpn, xr2, Option.elim_some, ev_gi, hpn, xg4, Option.elim_some, ev_asq, hfit, if_pos rfl, hsn, gaq_qc, Option.elim_some, if_neg (by rw [lz0, iI_lt (by omega) (by omega) (by omega) (by omega), iI_cl (by omega) (by omega)]; dsimp only; omega), iI_cl (by omega) (by omega), show ((w.2.2.1 : Nat) : Int).toNat = w.2.2.1 by omega]
  rw [← d1, hGm]
theorem sv17 {G : GH} {ow : Nat → Nat} {p : Nat} {w : WW} {P : Nat} (hw : WI w) (h : RepC G ow p w P) (hn : w.2.2.1 < 4) : RC (f_X4_save_17 p) G ow p w P () (w.1, va_up w.2.1 w.2.2.1 w.1, w.2.2.1 + 1, w.2.2.2) 0 := by
  obtain ⟨ads, tp, sa, srefs, n, R, h1, h2, h3, h4, h5, h6, h7⟩ := h
  have h12 := h1.2
  have k2 := h5.2.1
  have e0 : (f_X4_save_17 p).1 G = (mnull (srefs w.2.2.1) (mbind (mnewo 1 [.int 0, .int 0, .int 0, .null, .null] 5) (fun a10 => (mbind (f_X1_init a10) (fun _ => (mbind (mgr p 4 2) (fun r11 => (mbind (mgi p 4 4) (fun x12 => (mbind (masq r11 3 1 x12 (some a10)) (fun _ => (mbind (mgr p 4 3) (fun r13 => (mbind (mchk a10 1) (fun _ => mbind (f_X1_copyFrom a10 r13) (fun _ => (mbind (mgi p 4 4) (fun x14 => (mbind (mput p 4 4 (.int (x14 + 1))) (fun _ => (mpure ())))))))))))))))))))) (fun q9 => (mbind (mgr p 4 3) (fun r15 => (mbind (mchk q9 1) (fun _ => mbind (f_X1_copyFrom q9 r15) (fun _ => (mbind (mgi p 4 4) (fun x16 => (mbind (mput p 4 4 (.int (x16 + 1))) (fun _ => (mpure ())))))))))))).1 G := by
    unfold f_X4_save_17
    rw [ev_gi, h12, xg4, Option.elim_some, if_neg (by rw [lz0, iI_lt (by omega) (by omega) (by omega) (by omega)]; omega), ev_gi, h12, xg4, Option.elim_some, ev_gr, h12, xr2, Option.elim_some, ev_len, qc_arr k2, Option.elim_some]
    dsimp only
    rw [if_pos (by rw [iI_lt (by omega) (by omega) (by omega) (by omega)]; omega), ev_gr, h12, xr2, Option.elim_some, ev_gi, h12, xg4, Option.elim_some, ev_alq, k2, gaq_qc, Option.elim_some, if_neg (by rw [lz0, iI_lt (by omega) (by omega) (by omega) (by omega), iI_cl (by omega) (by omega)]; dsimp only; omega), iI_cl (by omega) (by omega), show ((w.2.2.1 : Nat) : Int).toNat = w.2.2.1 by omega]
  cases hq : srefs w.2.2.1 with
  | none =>
    rw [hq, mnull_n] at e0
    exact rc_eq (sv_none hw h1 h2 h3 h4 h5 h6 h7 hn hq) e0
  | some q =>
    rw [hq, mnull_s] at e0
    exact rc_eq (sv_some hw h1 h2 h3 h4 h5 h6 h7 hn hq) e0
