/-! PURE PART 45: the class's acts: save at large, set, push, pop, drop, clear, undo -/
theorem gfit_up {G : GH} {sa : Nat} {f : Nat → Option Nat} {o : Option Nat} (h : gfit o G 1 = true) (hs : G.1 sa = some (qc 3 4 f)) (x : Option LE) : gfit o (va_up G.1 sa x, G.2) 1 = true := by
  cases o with
  | none => rfl
  | some v =>
    have h' : gis (G.1 v) 1 = true := h
    show gis (va_up G.1 sa x v) 1 = true
    by_cases e : v = sa
    · rw [e, hs] at h'
      exact (Bool.false_ne_true h').elim
    · rw [up_ne _ _ e]
      exact h'
def rotS (f : Nat → Option Nat) (i : Nat) : Nat → Option Nat := va_up (va_up f (i - 1) (f i)) i (f (i - 1))
theorem mv_step {G : GH} {p ads0 tp sa np : Nat} {k : Int} {f : Nat → Option Nat} (hp : G.1 p = some (xcl ads0 tp sa np k)) (hs : G.1 sa = some (qc 3 4 f)) (hpa : p ≠ sa) (hf : ∀ j, j < 4 → gfit (f j) G 1 = true) {i i' : Nat} (h1 : 1 ≤ i) (h4 : i < 4) (hi : i' = i + 1) (fu : Nat) :
    (f_X4_moveOldestSavedToEnd_2 (fu + 1) p (iI i)).1 G = (f_X4_moveOldestSavedToEnd_2 fu p (iI (i' : Nat))).1 (va_up G.1 sa (some (qc 3 4 (rotS f i))), G.2) := by
  have hu : ∀ x, va_up G.1 sa x p = some (xcl ads0 tp sa np k) := fun x => by rw [up_ne _ _ hpa]; exact hp
  have g2 := gfit_up (hf (i - 1) (by omega)) hs (some (qc 3 4 (va_up f (i - 1) (f i))))
  rw [f_X4_moveOldestSavedToEnd_2, ev_gr, hp, xr2, Option.elim_some, ev_len, qc_arr hs, Option.elim_some]
  dsimp only
  rw [if_neg (by rw [iI_le (by omega) (by omega) (by omega) (by omega)]; omega), ev_gr, hp, xr2, Option.elim_some, lz1, iI_sub, ev_alq, hs, gaq_qc, Option.elim_some, if_neg (by rw [lz0, iI_lt (by omega) (by omega) (by omega) (by omega), iI_cl (by omega) (by omega)]; dsimp only; omega), iI_cl (by omega) (by omega), show ((i : Int) - 1).toNat = i - 1 by omega]
  dsimp only
  rw [ev_gr, hp, xr2, Option.elim_some, ev_gr, hp, xr2, Option.elim_some, ev_alq, hs, gaq_qc, Option.elim_some, if_neg (by rw [lz0, iI_lt (by omega) (by omega) (by omega) (by omega), iI_cl (by omega) (by omega)]; dsimp only; omega), iI_cl (by omega) (by omega), show ((i : Int)).toNat = i by omega]
  dsimp only
  rw [ev_asq, hf i h4, if_pos rfl, hs, gaq_qc, Option.elim_some, if_neg (by rw [lz0, iI_lt (by omega) (by omega) (by omega) (by omega), iI_cl (by omega) (by omega)]; dsimp only; omega), iI_cl (by omega) (by omega), show ((i : Int) - 1).toNat = i - 1 by omega]
  dsimp only
  rw [ev_gr]
  dsimp only
  rw [hu, xr2, Option.elim_some, ev_asq, g2, if_pos rfl]
  dsimp only
  rw [up_self, gaq_qc, Option.elim_some, if_neg (by rw [lz0, iI_lt (by omega) (by omega) (by omega) (by omega), iI_cl (by omega) (by omega)]; dsimp only; omega), iI_cl (by omega) (by omega), show ((i : Int)).toNat = i by omega, iI_add, up_idem, show (i : Int) + 1 = (i' : Int) by omega]
  rfl
def rotR (R : Nat → RMt) : Nat → RMt := fun i => if i = 3 then R 0 else R (i + 1)
theorem mv_all {G : GH} {ow : Nat → Nat} {p : Nat} {w : WW} {P : Nat} (hw : WI w) (h : RepC G ow p w P) (hn : w.2.2.1 = 4) : ∃ G1 : GH, (f_X4_moveOldestSavedToEnd p).1 G = some ((), G1) ∧ G1.2 = G.2 ∧ (∃ ads0 tp sa np, G1.1 p = some (xcl ads0 tp sa np 4) ∧ ow p = 1 ∧ RepC (va_up G1.1 p (some (xcl ads0 tp sa np 3)), G1.2) ow p (w.1, fun i => w.2.1 (i + 1), 3, w.2.2.2) P) ∧ ∀ a, ow a ≠ 5 → G1.1 a = G.1 a := by
  obtain ⟨ads, tp, sa, srefs, ⟨L, np, va, ma, refs⟩, R, h1, h2, h3, h4, h5, ⟨hL, hR⟩, h7⟩ := h
  have hL' : 1000 ≤ L := hL
  have h12 : G.1 p = some (xcl (ads 0) tp sa np 4) := by
    have := h1.2
    rw [hn] at this
    exact this
  obtain ⟨k1, k2, k3⟩ := h5
  have hpa : p ≠ sa := lab_ne (ow := ow) (by rw [h1.1, k1]; decide)
  have hf : ∀ j, j < 4 → gfit (srefs j) G 1 = true := fun j hj => by
    cases hq : srefs j with
    | none => rfl
    | some q =>
      obtain ⟨m1, s, m2, m3⟩ := (k3 j hj).1 q hq
      show gis (G.1 q) 1 = true
      rw [← m1, m2.1.1]
      rfl
  have hu : ∀ x, va_up G.1 sa x p = some (xcl (ads 0) tp sa np 4) := fun x => by rw [up_ne _ _ hpa]; exact h12
  have fit : ∀ f : Nat → Option Nat, (∀ j, j < 4 → gfit (f j) G 1 = true) → ∀ i, i < 4 → ∀ j, j < 4 → gfit (rotS f i j) G 1 = true := fun f hf i hi j hj => by
    unfold rotS
    by_cases e : j = i
    · rw [e, up_self]
      exact hf _ (by omega)
    · rw [up_ne _ _ e]
      by_cases e2 : j = i - 1
      · rw [e2, up_self]
        exact hf i hi
      · rw [up_ne _ _ e2]
        exact hf j hj
  obtain ⟨S, hS⟩ : ∃ S, S = rotS (rotS (rotS srefs 1) 2) 3 := ⟨_, rfl⟩
  have hS0 : S 0 = srefs 1 := by rw [hS]; rfl
  have hS1 : S 1 = srefs 2 := by rw [hS]; rfl
  have hS2 : S 2 = srefs 3 := by rw [hS]; rfl
  have hS3 : S 3 = srefs 0 := by rw [hS]; rfl
  have hSi : ∀ i, i < 4 → S i = srefs (if i = 3 then 0 else i + 1) := fun i hi => by
    have : i = 0 ∨ i = 1 ∨ i = 2 ∨ i = 3 := by omega
    rcases this with e | e | e | e <;> subst e <;> assumption
  have hRi : ∀ i, rotR R i = R (if i = 3 then 0 else i + 1) := fun i => by
    unfold rotR
    split <;> rfl
  have keep : ∀ (c c' : LE) a, ow a ≠ 1 → ow a ≠ 5 → va_up (va_up G.1 sa (some c)) p (some c') a = G.1 a := fun c c' a ha hb => by
    rw [up_ne _ _ (fun e => ha (by rw [e, h1.1])), up_ne _ _ (fun e => hb (by rw [e, k1]))]
  have hg : GW ((va_up (va_up G.1 sa (some (qc 3 4 S))) p (some (xcl (ads 0) tp sa np 3)), G.2) : GH) ow := h4.2
  refine ⟨(va_up G.1 sa (some (qc 3 4 S)), G.2), ?_, rfl, ⟨ads 0, tp, sa, np, hu _, h1.1, ads, tp, sa, S, (L, np, va, ma, refs), rotR R, ⟨h1.1, up_self _ _ _⟩, ?_, ?_, ?_, ?_, ?_, ?_⟩, fun a ha => up_ne _ _ (fun e => by rw [e, k1] at ha; omega)⟩
  · unfold f_X4_moveOldestSavedToEnd
    obtain ⟨m, hm⟩ : ∃ m, FU = m + 1 + 1 + 1 + 1 := ⟨4996, rfl⟩
    rw [hm, show (1 : Int32) = iI ((1 : Nat) : Int) from rfl]
    refine (mv_step h12 k2 hpa hf (i := 1) (i' := 2) (by decide) (by decide) rfl (m + 1 + 1 + 1)).trans ?_
    have s2' := mv_step (G := (va_up G.1 sa (some (qc 3 4 (rotS srefs 1))), G.2)) (hu _) (up_self _ _ _) hpa (fun j hj => gfit_up (fit srefs hf 1 (by decide) j hj) k2 _) (i := 2) (i' := 3) (by decide) (by decide) rfl (m + 1 + 1)
    dsimp only at s2'
    rw [up_idem] at s2'
    refine s2'.trans ?_
    have s3' := mv_step (G := (va_up G.1 sa (some (qc 3 4 (rotS (rotS srefs 1) 2))), G.2)) (hu _) (up_self _ _ _) hpa (fun j hj => gfit_up (fit _ (fit srefs hf 1 (by decide)) 2 (by decide) j hj) k2 _) (i := 3) (i' := 4) (by decide) (by decide) rfl (m + 1)
    dsimp only at s3'
    rw [up_idem, ← hS] at s3'
    refine s3'.trans ?_
    rw [f_X4_moveOldestSavedToEnd_2, ev_gr]
    dsimp only
    rw [hu, xr2, Option.elim_some, ev_len, qc_arr (up_self _ _ _), Option.elim_some]
    dsimp only
    rw [if_pos (by rw [iI_le (by omega) (by omega) (by omega) (by omega)]; omega)]
    rfl
  · exact PS.fr (fun _ _ => rfl) h2 (fun a ha hb => keep _ _ a (by omega) (by omega))
  · exact PT.fr (fun _ _ => rfl) h3 (fun a ha hb => keep _ _ a (by omega) (by omega))
  · exact RSX.fr (fun _ _ => rfl) h4 (by show 0 < L; omega) hg (fun a ha hb => keep _ _ a (by have ha' : L ≤ ow a := ha; omega) (by have ha' : L ≤ ow a := ha; omega))
  · refine ⟨k1, ?_, fun i hi => ⟨fun q hq => ?_, fun hq => ?_⟩⟩
    · show va_up (va_up G.1 sa _) p _ sa = _
      rw [up_ne _ _ (Ne.symm hpa), up_self]
    · rw [hSi i hi] at hq
      rw [hRi i]
      have hi' : (if i = 3 then 0 else i + 1) < 4 := by split <;> omega
      obtain ⟨o1, s', o2, o3⟩ := (k3 _ hi').1 q hq
      have t1 := hR _ hi'
      refine ⟨o1, s', o2.fr (fun _ _ => rfl) (by omega) hg (fun a ha hb => keep _ _ a (by omega) (by omega)), fun hh => ?_⟩
      have hh' : i < 3 := hh
      have e : (if i = 3 then 0 else i + 1) = i + 1 := if_neg (by omega)
      rw [e] at o3
      exact o3 (by omega)
    · rw [hSi i hi] at hq
      show 3 ≤ i
      apply Classical.byContradiction
      intro hh
      have e : (if i = 3 then 0 else i + 1) = i + 1 := if_neg (by omega)
      rw [e] at hq
      have := (k3 (i + 1) (by omega)).2 hq
      omega
  · refine ⟨hL, fun i hi => ?_⟩
    have hi' : (if i = 3 then 0 else i + 1) < 4 := by split <;> omega
    have t1 := hR _ hi'
    rw [hRi i]
    refine ⟨t1.1, t1.2.1, fun j hj hji => ?_⟩
    rw [hRi j]
    exact t1.2.2 _ (by split <;> omega) (by split <;> split <;> omega)
  · rw [h7]
    unfold pot
    rw [pu_eq (i := 0) (j := 1) hS0 (hRi 0), pu_eq (i := 1) (j := 2) hS1 (hRi 1), pu_eq (i := 2) (j := 3) hS2 (hRi 2), pu_eq (i := 3) (j := 0) hS3 (hRi 3)]
    omega
theorem c_save {G : GH} {ow : Nat → Nat} {p : Nat} {w : WW} {P : Nat} (hw : WI w) (h : RepC G ow p w P) : RC (f_X4_save p) G ow p w P () (wSave w w.1) 0 := by
  have h4 := hw.2.2.1
  obtain ⟨ads0, tp, sa, L, np, va, ma, refs, a1, a2, a3, a4, a5⟩ := h.now
  by_cases hn : w.2.2.1 < 4
  · have e : wSave w w.1 = (w.1, va_up w.2.1 w.2.2.1 w.1, w.2.2.1 + 1, w.2.2.2) := by
      unfold wSave sSv nSv
      rw [if_pos hn, if_pos hn]
    rw [e]
    refine rc_eq (sv17 hw h hn) ?_
    unfold f_X4_save
    rw [ev_gi, a3, xg4, Option.elim_some, if_pos (by rw [lz4, iI_lt (by omega) (by omega) (by omega) (by omega)]; omega)]
  · have hn4 : w.2.2.1 = 4 := by omega
    obtain ⟨G1, b1, b2, ⟨ads1, tp1, sa1, np1, b3, b4, b5⟩, b6⟩ := mv_all hw h hn4
    have hw1 : WI (w.1, fun i => w.2.1 (i + 1), 3, w.2.2.2) := ⟨hw.1, fun i hi => hw.2.1 (i + 1) (by have hi' : i < 3 := hi; omega), (show (3 : Nat) ≤ 4 by decide), hw.2.2.2⟩
    obtain ⟨G2, ow2, P2, c1, c2, c3⟩ := sv17 hw1 b5 (show (3 : Nat) < 4 by decide)
    have e : wSave w w.1 = (w.1, va_up (fun i => w.2.1 (i + 1)) 3 w.1, 3 + 1, w.2.2.2) := by
      unfold wSave sSv nSv
      rw [if_neg hn, if_neg hn]
    rw [e]
    have hcw : CW G ow P (va_up G1.1 p (some (xcl ads1 tp1 sa1 np1 3)), G1.2) ow P 0 := by
      refine ⟨fun _ _ => rfl, fun a ha hb => ?_, b5.gw, ?_, ?_, fun a ha => ?_⟩
      · show va_up G1.1 p _ a = _
        rw [up_ne _ _ (fun e => by rw [e, b4] at ha; omega), b6 a (by omega)]
      · show G1.2.2.1 + _ ≤ _
        rw [b2]
        omega
      · show G1.2.2.2 + _ ≤ _
        rw [b2]
        omega
      · show gref (va_up G1.1 p _ a) 4 0 = _ ∧ gref (va_up G1.1 p _ a) 4 1 = _
        by_cases e : a = p
        · have e3 := b6 p (by omega)
          rw [b3] at e3
          rw [e, up_self, ← e3]
          exact ⟨rfl, rfl⟩
        · rw [up_ne _ _ e, b6 a (by omega)]
          exact ⟨rfl, rfl⟩
    refine ⟨G2, ow2, P2, ?_, c2, hcw.tr c3⟩
    unfold f_X4_save
    rw [ev_gi, a3, xg4, Option.elim_some, if_neg (by rw [lz4, iI_lt (by omega) (by omega) (by omega) (by omega)]; omega), ev_chk, a3, xis, if_pos rfl, mbind_ok b1, ev_put, b3, show (Value.int 3) = Value.int (iI 3) from rfl, xp4, Option.elim_some]
    exact c1
