/-! PURE PART 7: the state's methods that change nothing of what it tells -/
def SX (G : GH) (ow : Nat → Nat) (L p va ma : Nat) (refs : Nat → Option Nat) (s : SS) : Prop := SC G ow L p va ma refs s ∧ GW G ow
def RO {α : Type} (F : MM α) (G : GH) (ow : Nat → Nat) (L p va ma : Nat) (refs : Nat → Option Nat) (s : SS) (res : α) : Prop :=
  ∃ G' ow' refs', F.1 G = some (res, G') ∧ SX G' ow' L p va ma refs' s ∧ SP L G ow refs G' ow' refs'
section Ro
variable {L p va ma : Nat} {s : SS}
theorem ro_pure {α : Type} {x : α} {G : GH} {ow : Nat → Nat} {refs : Nat → Option Nat} (h : SX G ow L p va ma refs s) : RO (mpure x) G ow L p va ma refs s x := ⟨G, ow, refs, rfl, h, SP.rf h.2⟩
theorem ro_eq {α : Type} {F F' : MM α} {x : α} {G : GH} {ow : Nat → Nat} {refs : Nat → Option Nat} (h : RO F' G ow L p va ma refs s x) (e : F.1 G = F'.1 G) : RO F G ow L p va ma refs s x := by
  obtain ⟨G', ow', refs', h1, h2⟩ := h
  exact ⟨G', ow', refs', e.trans h1, h2⟩
theorem ro_bind {α β : Type} {F : MM α} {K : α → MM β} {x : α} {y : β} {G : GH} {ow : Nat → Nat} {refs : Nat → Option Nat} (h : RO F G ow L p va ma refs s x) (k : ∀ G' ow' refs', SX G' ow' L p va ma refs' s → RO (K x) G' ow' L p va ma refs' s y) : RO (mbind F K) G ow L p va ma refs s y := by
  obtain ⟨G', ow', refs', h1, h2, h3⟩ := h
  obtain ⟨G2, ow2, refs2, k1, k2, k3⟩ := k G' ow' refs' h2
  exact ⟨G2, ow2, refs2, (mbind_ok h1).trans k1, k2, h3.tr k3⟩
theorem ro_slot {β : Type} {K : Nat → MM β} {y : β} {G : GH} {ow : Nat → Nat} {refs : Nat → Option Nat} (hL : 0 < L) (hs : SI s) (h : SX G ow L p va ma refs s) {i : Nat} (hi : i < s.2.2.1)
    (k : ∀ G' ow' refs' q r g, SX G' ow' L p va ma refs' s → (∀ j q, refs j = some q → refs' j = some q) → refs' i = some q → G'.1 q = some (vcl (s.2.2.2 i).1 r) → G'.1 r = some (icz 40 g) → (∀ j : Nat, (j : Int) < sz (s.2.2.2 i) → g j = (s.2.2.2 i).2 j) → (∀ a, ow a ≠ 0 → ow a ≠ L + 1 → G'.1 a = G.1 a) → RO (K q) G' ow' L p va ma refs' s y) : RO (mbind (f_X1_slot p (iI i)) K) G ow L p va ma refs s y := by
  have h100 : s.2.2.1 ≤ 100 := hs.2.2.1.2
  obtain ⟨q, G', ow', refs', h1, h2, h3, h4, h5⟩ := slot_run h.1 hL h.2 (show i < 100 by omega)
  obtain ⟨_, r, g, _, m3, m4, m5⟩ := h3.live h100 hi h2
  obtain ⟨G2, ow2, refs2, k1, k2, k3⟩ := k G' ow' refs' q r g ⟨h3, h4.2.2.1⟩ h4.2.2.2.1 h2 m3 m4 m5 h5
  exact ⟨G2, ow2, refs2, (mbind_ok h1).trans k1, k2, h4.tr k3⟩
end Ro
def sumF (s : SS) (k : Int) : Nat → Int
  | 0 => 0
  | n + 1 => sumF s k n + fct (s.2.2.2 n).1 k
def maxF (s : SS) (k : Int) : Nat → Int
  | 0 => 0
  | n + 1 => max (maxF s k n) (fct (s.2.2.2 n).1 k)
def stF (s : SS) : Nat → Int
  | 0 => 0
  | n + 1 => stF s n + if 0 < (s.2.2.2 n).1 9 then 1 else 0
def rbF (s : SS) : Nat → Int
  | 0 => 0
  | n + 1 => rbF s n + if 0 < (s.2.2.2 n).1 6 then 1 else 0
theorem vbn_of {L : Nat} {s : SS} (hL : 0 < L) (hs : SI s) {i : Nat} (hi : i < s.2.2.1) : VBn (s.2.2.2 i).1 := (hs.2.2.2 i hi).1
theorem fct_b {L : Nat} {s : SS} (hL : 0 < L) (hs : SI s) {i : Nat} (hi : i < s.2.2.1) {k : Int} (hk : k = 6 ∨ k = 7 ∨ k = 9) : 0 ≤ fct (s.2.2.2 i).1 k ∧ fct (s.2.2.2 i).1 k ≤ 300 := by
  have := vbn_of hL hs hi
  unfold VBn at this
  rcases hk with e | e | e <;> subst e <;> simp [fct] <;> omega
theorem maxF_b {L : Nat} {s : SS} (hL : 0 < L) (hs : SI s) {k : Int} (hk : k = 6 ∨ k = 7 ∨ k = 9) : ∀ n, n ≤ s.2.2.1 → 0 ≤ maxF s k n ∧ maxF s k n ≤ 300
  | 0, _ => by unfold maxF; omega
  | n + 1, h => by
    have h1 := maxF_b hL hs hk n (by omega)
    have h2 := fct_b hL hs (show n < s.2.2.1 by omega) hk
    unfold maxF
    omega
theorem sumF_loop {L : Nat} {p : Nat} {va : Nat} {ma : Nat} {s : SS} (hL : 0 < L) (hs : SI s) {k : Int} (hk : 0 ≤ k ∧ k ≤ 9) : ∀ d fu m G ow refs, m + d = s.2.2.1 → d < fu → SX G ow L p va ma refs s → RO (f_X1_sumOfFacts_4 fu p (iI k) (iI (sumF s k m)) (iI m)) G ow L p va ma refs s (iI (sumF s k s.2.2.1))
  | _, 0, _, _, _, _, _, h, _ => absurd h (by omega)
  | 0, fu + 1, m, G, ow, refs, e, _, h => by
    have h100 := hs.2.2.1
    have : m = s.2.2.1 := by omega
    subst this
    refine ro_eq (ro_pure h) ?_
    unfold f_X1_sumOfFacts_4
    simp only [ev_gi, h.1.1, gi_s0, Option.elim_some]
    rw [if_pos (by rw [iI_le (by omega) (by omega) (by omega) (by omega)]; omega)]
  | d + 1, fu + 1, m, G, ow, refs, e, hf, h => by
    have h100 := hs.2.2.1
    unfold f_X1_sumOfFacts_4
    refine ro_eq (F' := mbind (f_X1_slot p (iI m)) (fun r2 => (mbind (mchk r2 3) (fun _ => mbind (f_X3_fact r2 (iI k)) (fun x3 => (f_X1_sumOfFacts_4 fu p (iI k) (iI (sumF s k m) + x3) (iI m + 1))))))) ?_ ?_
    · refine ro_slot hL hs h (show m < s.2.2.1 by omega) ?_
      intro G' ow' refs' q r g h2 _ hq m3 m4 m5 _
      refine ro_eq (sumF_loop hL hs hk d fu (m + 1) G' ow' refs' (by omega) (by omega) h2) ?_
      simp only [ev_chk, m3, gis_v, if_true]
      rw [mbind_ok (fact_run m3 hk), iI_add, lz1, iI_add]
      rfl
    · simp only [ev_gi, h.1.1, gi_s0, Option.elim_some]
      rw [if_neg (by rw [iI_le (by omega) (by omega) (by omega) (by omega)]; omega)]
      simp only [ev_chk, h.1.1, gis_s, if_true]
theorem sumF_run {L : Nat} {p : Nat} {va : Nat} {ma : Nat} {s : SS} (hL : 0 < L) (hs : SI s) {G : GH} {ow : Nat → Nat} {refs : Nat → Option Nat} (h : SX G ow L p va ma refs s) {k : Int} (hk : 0 ≤ k ∧ k ≤ 9) : RO (f_X1_sumOfFacts p (iI k)) G ow L p va ma refs s (iI (sumF s k s.2.2.1)) :=
  sumF_loop hL hs hk s.2.2.1 FU 0 G ow refs (by omega) (by have := hs.2.2.1; unfold FU; omega) h
theorem maxF_loop {L : Nat} {p : Nat} {va : Nat} {ma : Nat} {s : SS} (hL : 0 < L) (hs : SI s) {k : Int} (hk : k = 6 ∨ k = 7 ∨ k = 9) : ∀ d fu m G ow refs, m + d = s.2.2.1 → d < fu → SX G ow L p va ma refs s → RO (f_X1_greatestFact_4 fu p (iI k) (iI (maxF s k m)) (iI m)) G ow L p va ma refs s (iI (maxF s k s.2.2.1))
  | _, 0, _, _, _, _, _, h, _ => absurd h (by omega)
  | 0, fu + 1, m, G, ow, refs, e, _, h => by
    have h100 := hs.2.2.1
    have : m = s.2.2.1 := by omega
    subst this
    refine ro_eq (ro_pure h) ?_
    unfold f_X1_greatestFact_4
    simp only [ev_gi, h.1.1, gi_s0, Option.elim_some]
    rw [if_pos (by rw [iI_le (by omega) (by omega) (by omega) (by omega)]; omega)]
  | d + 1, fu + 1, m, G, ow, refs, e, hf, h => by
    have h100 := hs.2.2.1
    have hb1 := maxF_b hL hs hk m (by omega)
    have hb2 := fct_b hL hs (show m < s.2.2.1 by omega) hk
    unfold f_X1_greatestFact_4
    refine ro_eq (F' := mbind (f_X1_slot p (iI m)) (fun r2 => (mbind (mchk r2 3) (fun _ => mbind (f_X3_fact r2 (iI k)) (fun x3 => (f_X1_greatestFact_4 fu p (iI k) (if iI (maxF s k m) < x3 then x3 else iI (maxF s k m)) (iI m + 1))))))) ?_ ?_
    · refine ro_slot hL hs h (show m < s.2.2.1 by omega) ?_
      intro G' ow' refs' q r g h2 _ hq m3 m4 m5 _
      refine ro_eq (maxF_loop hL hs hk d fu (m + 1) G' ow' refs' (by omega) (by omega) h2) ?_
      simp only [ev_chk, m3, gis_v, if_true]
      rw [mbind_ok (fact_run m3 (by omega)), iI_max (by omega) (by omega) (by omega) (by omega), lz1, iI_add]
      rfl
    · simp only [ev_gi, h.1.1, gi_s0, Option.elim_some]
      rw [if_neg (by rw [iI_le (by omega) (by omega) (by omega) (by omega)]; omega)]
      simp only [ev_chk, h.1.1, gis_s, if_true]
theorem maxF_run {L : Nat} {p : Nat} {va : Nat} {ma : Nat} {s : SS} (hL : 0 < L) (hs : SI s) {G : GH} {ow : Nat → Nat} {refs : Nat → Option Nat} (h : SX G ow L p va ma refs s) {k : Int} (hk : k = 6 ∨ k = 7 ∨ k = 9) : RO (f_X1_greatestFact p (iI k)) G ow L p va ma refs s (iI (maxF s k s.2.2.1)) :=
  maxF_loop hL hs hk s.2.2.1 FU 0 G ow refs (by omega) (by have := hs.2.2.1; unfold FU; omega) h
theorem stF_loop {L : Nat} {p : Nat} {va : Nat} {ma : Nat} {s : SS} (hL : 0 < L) (hs : SI s) : ∀ d fu m G ow refs, m + d = s.2.2.1 → d < fu → SX G ow L p va ma refs s → RO (f_X1_stalled_4 fu p (iI (stF s m)) (iI m)) G ow L p va ma refs s (iI (stF s s.2.2.1))
  | _, 0, _, _, _, _, _, h, _ => absurd h (by omega)
  | 0, fu + 1, m, G, ow, refs, e, _, h => by
    have h100 := hs.2.2.1
    have : m = s.2.2.1 := by omega
    subst this
    refine ro_eq (ro_pure h) ?_
    unfold f_X1_stalled_4
    simp only [ev_gi, h.1.1, gi_s0, Option.elim_some]
    rw [if_pos (by rw [iI_le (by omega) (by omega) (by omega) (by omega)]; omega)]
  | d + 1, fu + 1, m, G, ow, refs, e, hf, h => by
    have h100 := hs.2.2.1
    have hv := vbn_of hL hs (show m < s.2.2.1 by omega)
    unfold VBn at hv
    unfold f_X1_stalled_4
    refine ro_eq (F' := mbind (f_X1_slot p (iI m)) (fun r2 => (mbind (mgi r2 3 9) (fun x3 => (if x3 ≤ 0 then (f_X1_stalled_4 fu p (iI (stF s m)) (iI m + 1)) else (f_X1_stalled_4 fu p (iI (stF s m) + 1) (iI m + 1))))))) ?_ ?_
    · refine ro_slot hL hs h (show m < s.2.2.1 by omega) ?_
      intro G' ow' refs' q r g h2 _ hq m3 m4 m5 _
      refine ro_eq (stF_loop hL hs d fu (m + 1) G' ow' refs' (by omega) (by omega) h2) ?_
      simp only [ev_gi, m3, gi_v0, gi_v1, gi_v2, gi_v3, gi_v4, gi_v5, gi_v6, gi_v7, gi_v8, gi_v9, gr_v, gis_v, gp_v0, gp_v1, gp_v2, gp_v3, gp_v4, gp_v5, gp_v6, gp_v7, gp_v8, gp_v9, up_self, up_idem, up_ne, Option.elim_some]
      by_cases hc : 0 < (s.2.2.2 m).1 9
      · rw [if_neg (by rw [lz0, iI_le (by omega) (by omega) (by omega) (by omega)]; omega), lz1, iI_add, iI_add]
        show _ = (f_X1_stalled_4 fu p (iI (stF s m + if 0 < (s.2.2.2 m).1 9 then 1 else 0)) _).1 G'
        rw [if_pos hc]
        rfl
      · rw [if_pos (by rw [lz0, iI_le (by omega) (by omega) (by omega) (by omega)]; omega), lz1, iI_add]
        show _ = (f_X1_stalled_4 fu p (iI (stF s m + if 0 < (s.2.2.2 m).1 9 then 1 else 0)) _).1 G'
        rw [if_neg hc, Int.add_zero]
        rfl
    · simp only [ev_gi, h.1.1, gi_s0, Option.elim_some]
      rw [if_neg (by rw [iI_le (by omega) (by omega) (by omega) (by omega)]; omega)]
      simp only [ev_chk, h.1.1, gis_s, if_true]
theorem stF_run {L : Nat} {p : Nat} {va : Nat} {ma : Nat} {s : SS} (hL : 0 < L) (hs : SI s) {G : GH} {ow : Nat → Nat} {refs : Nat → Option Nat} (h : SX G ow L p va ma refs s) : RO (f_X1_stalled p) G ow L p va ma refs s (iI (stF s s.2.2.1)) :=
  stF_loop hL hs s.2.2.1 FU 0 G ow refs (by omega) (by have := hs.2.2.1; unfold FU; omega) h
theorem rbF_loop {L : Nat} {p : Nat} {va : Nat} {ma : Nat} {s : SS} (hL : 0 < L) (hs : SI s) : ∀ d fu m G ow refs, m + d = s.2.2.1 → d < fu → SX G ow L p va ma refs s → RO (f_X1_rebuilding_4 fu p (iI (rbF s m)) (iI m)) G ow L p va ma refs s (iI (rbF s s.2.2.1))
  | _, 0, _, _, _, _, _, h, _ => absurd h (by omega)
  | 0, fu + 1, m, G, ow, refs, e, _, h => by
    have h100 := hs.2.2.1
    have : m = s.2.2.1 := by omega
    subst this
    refine ro_eq (ro_pure h) ?_
    unfold f_X1_rebuilding_4
    simp only [ev_gi, h.1.1, gi_s0, Option.elim_some]
    rw [if_pos (by rw [iI_le (by omega) (by omega) (by omega) (by omega)]; omega)]
  | d + 1, fu + 1, m, G, ow, refs, e, hf, h => by
    have h100 := hs.2.2.1
    have hv := vbn_of hL hs (show m < s.2.2.1 by omega)
    unfold VBn at hv
    unfold f_X1_rebuilding_4
    refine ro_eq (F' := mbind (f_X1_slot p (iI m)) (fun r2 => (mbind (mchk r2 3) (fun _ => mbind (f_X3_isRebuilding r2) (fun x3 => (if x3 = 0 then (f_X1_rebuilding_4 fu p (iI (rbF s m)) (iI m + 1)) else (f_X1_rebuilding_4 fu p (iI (rbF s m) + 1) (iI m + 1)))))))) ?_ ?_
    · refine ro_slot hL hs h (show m < s.2.2.1 by omega) ?_
      intro G' ow' refs' q r g h2 _ hq m3 m4 m5 _
      refine ro_eq (rbF_loop hL hs d fu (m + 1) G' ow' refs' (by omega) (by omega) h2) ?_
      simp only [ev_chk, m3, gis_v, if_true]
      rw [mbind_ok (isReb_run m3 (by omega))]
      by_cases hc : 0 < (s.2.2.2 m).1 6
      · rw [if_pos hc, if_neg (show ¬ iI 1 = 0 by decide), lz1, iI_add, iI_add]
        show _ = (f_X1_rebuilding_4 fu p (iI (rbF s m + if 0 < (s.2.2.2 m).1 6 then 1 else 0)) _).1 G'
        rw [if_pos hc]
        rfl
      · rw [if_neg hc, if_pos (show iI 0 = 0 from rfl), lz1, iI_add]
        show _ = (f_X1_rebuilding_4 fu p (iI (rbF s m + if 0 < (s.2.2.2 m).1 6 then 1 else 0)) _).1 G'
        rw [if_neg hc, Int.add_zero]
        rfl
    · simp only [ev_gi, h.1.1, gi_s0, Option.elim_some]
      rw [if_neg (by rw [iI_le (by omega) (by omega) (by omega) (by omega)]; omega)]
      simp only [ev_chk, h.1.1, gis_s, if_true]
theorem rbF_run {L : Nat} {p : Nat} {va : Nat} {ma : Nat} {s : SS} (hL : 0 < L) (hs : SI s) {G : GH} {ow : Nat → Nat} {refs : Nat → Option Nat} (h : SX G ow L p va ma refs s) : RO (f_X1_rebuilding p) G ow L p va ma refs s (iI (rbF s s.2.2.1)) :=
  rbF_loop hL hs s.2.2.1 FU 0 G ow refs (by omega) (by have := hs.2.2.1; unfold FU; omega) h
