/-! PURE PART 6: the state: what the heap holds of it, and slot -/
theorem mnull_n {ρ : Type} (A : MM ρ) (C : Nat → MM ρ) : mnull none A C = A := rfl
theorem mnull_s {ρ : Type} (a : Nat) (A : MM ρ) (C : Nat → MM ρ) : mnull (some a) A C = C a := rfl
abbrev SV : Type := (Nat → Int) × (Nat → Int)
/-- rate, ratio, how many versions, the versions -/
abbrev SS : Type := Int × Int × Nat × (Nat → SV)
def dfl : SV := (dv, fun _ => 0)
def sz (x : SV) : Int := x.1 4 + x.1 5
def scl (s : SS) (va ma : Nat) : LE := .inr (1, [.int (iI s.2.2.1), .int (iI s.1), .int (iI s.2.1), .ref va, .ref ma])
theorem gi_s0 (s : SS) (va ma : Nat) : gint (some (scl s va ma)) 1 0 = some (iI s.2.2.1) := rfl
theorem gi_s1 (s : SS) (va ma : Nat) : gint (some (scl s va ma)) 1 1 = some (iI s.1) := rfl
theorem gi_s2 (s : SS) (va ma : Nat) : gint (some (scl s va ma)) 1 2 = some (iI s.2.1) := rfl
theorem gr_s3 (s : SS) (va ma : Nat) : gref (some (scl s va ma)) 1 3 = some va := rfl
theorem gr_s4 (s : SS) (va ma : Nat) : gref (some (scl s va ma)) 1 4 = some ma := rfl
theorem gis_s (s : SS) (va ma : Nat) : gis (some (scl s va ma)) 1 = true := rfl
theorem gp_s0 (s : SS) (va ma n : Nat) : gput (some (scl s va ma)) 1 0 (.int (iI n)) = some (scl (s.1, s.2.1, n, s.2.2.2) va ma) := rfl
theorem gp_s1 (s : SS) (va ma : Nat) (x : Int) : gput (some (scl s va ma)) 1 1 (.int (iI x)) = some (scl (x, s.2.1, s.2.2.1, s.2.2.2) va ma) := rfl
theorem gp_s2 (s : SS) (va ma : Nat) (x : Int) : gput (some (scl s va ma)) 1 2 (.int (iI x)) = some (scl (s.1, x, s.2.2.1, s.2.2.2) va ma) := rfl
/-- what makes a version of its parent -/
def SIv (s : SS) (i : Nat) : Prop := VBn (s.2.2.2 i).1 ∧ (∀ j : Nat, (j : Int) < sz (s.2.2.2 i) → -999 ≤ (s.2.2.2 i).2 j ∧ (s.2.2.2 i).2 j ≤ 999) ∧
  (i = 0 → s.2.2.2 0 = dfl) ∧ (0 < i → ∃ k : Nat, k < i ∧ (s.2.2.2 i).1 0 = k ∧ (s.2.2.2 i).1 3 = (s.2.2.2 k).1 3 + 1 ∧ (0 ≤ (s.2.2.2 i).1 1 ∧ (s.2.2.2 i).1 1 ≤ 3) ∧
    (s.2.2.2 i).2 = sRow (s.2.2.2 k).2 ((s.2.2.2 i).1 1) ((s.2.2.2 i).1 2) (sz (s.2.2.2 k)).toNat ∧ sz (s.2.2.2 i) = sz (s.2.2.2 k) + (if (s.2.2.2 i).1 1 < 2 then 1 else -1)) ∧ (s.2.2.2 i).1 3 ≤ i
def SI (s : SS) : Prop := (1 ≤ s.1 ∧ s.1 ≤ 9) ∧ (2 ≤ s.2.1 ∧ s.2.1 ≤ 5) ∧ (1 ≤ s.2.2.1 ∧ s.2.2.1 ≤ 100) ∧ ∀ i, i < s.2.2.1 → SIv s i
/-- labelled addresses stand in the heap -/
def GW (G : GH) (ow : Nat → Nat) : Prop := ∀ a, ow a ≠ 0 → a < G.2.1
def SC (G : GH) (ow : Nat → Nat) (L p va ma : Nat) (refs : Nat → Option Nat) (s : SS) : Prop :=
  G.1 p = some (scl s va ma) ∧ (∃ mk, G.1 ma = some (icz 100 mk)) ∧ G.1 va = some (qc 4 100 refs) ∧ ow p = L ∧ ow va = L + 1 ∧ ow ma = L + 2 ∧
  (∀ i, i < 100 → ∀ q, refs i = some q → ow q = L + 3 + 2 * i ∧ ∃ r v g, ow r = L + 4 + 2 * i ∧ G.1 q = some (vcl v r) ∧ G.1 r = some (icz 40 g) ∧
    (i < s.2.2.1 → v = (s.2.2.2 i).1 ∧ ∀ j : Nat, (j : Int) < sz (s.2.2.2 i) → g j = (s.2.2.2 i).2 j)) ∧
  (∀ i, i < s.2.2.1 → refs i = none → s.2.2.2 i = dfl)
def cnt (refs : Nat → Option Nat) : Nat → Nat
  | 0 => 0
  | k + 1 => cnt refs k + if (refs k).isNone = true then 1 else 0
theorem cnt_ge (refs : Nat → Option Nat) (i q : Nat) : ∀ k, k ≤ i → cnt (va_up refs i (some q)) k = cnt refs k
  | 0, _ => rfl
  | k + 1, h => by
    unfold cnt
    rw [cnt_ge refs i q k (by omega), up_ne _ _ (by omega)]
theorem cnt_up (refs : Nat → Option Nat) (i q : Nat) (hn : refs i = none) : ∀ k, i < k → cnt (va_up refs i (some q)) k + 1 = cnt refs k
  | 0, h => absurd h (by omega)
  | k + 1, h => by
    unfold cnt
    by_cases hk : k = i
    · subst hk
      rw [cnt_ge refs k q k (by omega), up_self, hn]
      simp
    · rw [up_ne _ _ hk]
      have := cnt_up refs i q hn k (by omega)
      omega
/-- from one heap to another, in one state's room alone -/
def SP (L : Nat) (G : GH) (ow : Nat → Nat) (refs : Nat → Option Nat) (G' : GH) (ow' : Nat → Nat) (refs' : Nat → Option Nat) : Prop :=
  (∀ a, ow a ≠ 0 → ow' a = ow a) ∧ (∀ a, ow a ≠ 0 → (ow a < L ∨ L + 300 ≤ ow a) → G'.1 a = G.1 a) ∧ GW G' ow' ∧ (∀ j q, refs j = some q → refs' j = some q) ∧
  G'.2.2.1 + 2 * cnt refs' 100 ≤ G.2.2.1 + 2 * cnt refs 100 ∧ G'.2.2.2 + 51 * cnt refs' 100 ≤ G.2.2.2 + 51 * cnt refs 100
theorem SP.rf {L : Nat} {G : GH} {ow : Nat → Nat} {refs : Nat → Option Nat} (h : GW G ow) : SP L G ow refs G ow refs :=
  ⟨fun _ _ => rfl, fun _ _ _ => rfl, h, fun _ _ h => h, Nat.le_refl _, Nat.le_refl _⟩
theorem SP.tr {L : Nat} {G G1 G2 : GH} {ow ow1 ow2 : Nat → Nat} {refs refs1 refs2 : Nat → Option Nat} (h : SP L G ow refs G1 ow1 refs1) (k : SP L G1 ow1 refs1 G2 ow2 refs2) : SP L G ow refs G2 ow2 refs2 := by
  obtain ⟨h1, h2, h3, h4, h5, h6⟩ := h
  obtain ⟨k1, k2, k3, k4, k5, k6⟩ := k
  refine ⟨fun a ha => ?_, fun a ha hl => ?_, k3, fun j q hq => k4 j q (h4 j q hq), Nat.le_trans k5 h5, Nat.le_trans k6 h6⟩
  · rw [k1 a (by rw [h1 a ha]; exact ha), h1 a ha]
  · rw [k2 a (by rw [h1 a ha]; exact ha) (by rw [h1 a ha]; exact hl), h2 a ha hl]
/-- a change inside the room that makes nothing -/
theorem SP.loc {L : Nat} {G : GH} {ow : Nat → Nat} {refs : Nat → Option Nat} (h : GW G ow) {f : Nat → Option LE} (hf : ∀ a, ow a ≠ 0 → (ow a < L ∨ L + 300 ≤ ow a) → f a = G.1 a) : SP L G ow refs (f, G.2) ow refs :=
  ⟨fun _ _ => rfl, hf, h, fun _ _ h => h, Nat.le_refl _, Nat.le_refl _⟩
theorem SC.live {G : GH} {ow : Nat → Nat} {L p va ma : Nat} {refs : Nat → Option Nat} {s : SS} (h : SC G ow L p va ma refs s) {i q : Nat} (h100 : s.2.2.1 ≤ 100) (hi : i < s.2.2.1) (hq : refs i = some q) :
    ow q = L + 3 + 2 * i ∧ ∃ r g, ow r = L + 4 + 2 * i ∧ G.1 q = some (vcl (s.2.2.2 i).1 r) ∧ G.1 r = some (icz 40 g) ∧ ∀ j : Nat, (j : Int) < sz (s.2.2.2 i) → g j = (s.2.2.2 i).2 j := by
  obtain ⟨h1, h2, h3, h4, h5, h6, h7, h8⟩ := h
  obtain ⟨k1, r, v, g, k2, k3, k4, k5⟩ := h7 i (by omega) q hq
  obtain ⟨e, k6⟩ := k5 hi
  subst e
  exact ⟨k1, r, g, k2, k3, k4, k6⟩
theorem SC.frame {G G' : GH} {ow ow' : Nat → Nat} {L p va ma : Nat} {refs : Nat → Option Nat} {s : SS} (h : SC G ow L p va ma refs s) (hL : 0 < L) (h1 : ∀ a, ow a ≠ 0 → ow' a = ow a) (h2 : ∀ a, L ≤ ow a → ow a < L + 300 → G'.1 a = G.1 a) : SC G' ow' L p va ma refs s := by
  obtain ⟨k1, ⟨mk, k2⟩, k3, k4, k5, k6, k7, k8⟩ := h
  refine ⟨?_, ⟨mk, ?_⟩, ?_, ?_, ?_, ?_, ?_, k8⟩
  · rw [h2 p (by omega) (by omega), k1]
  · rw [h2 ma (by omega) (by omega), k2]
  · rw [h2 va (by omega) (by omega), k3]
  · rw [h1 p (by omega), k4]
  · rw [h1 va (by omega), k5]
  · rw [h1 ma (by omega), k6]
  · intro i hi q hq
    obtain ⟨m1, r, v, g, m2, m3, m4, m5⟩ := k7 i hi q hq
    refine ⟨by rw [h1 q (by omega), m1], r, v, g, by rw [h1 r (by omega), m2], ?_, ?_, m5⟩
    · rw [h2 q (by omega) (by omega), m3]
    · rw [h2 r (by omega) (by omega), m4]
theorem slot_run {G : GH} {ow : Nat → Nat} {L p va ma : Nat} {refs : Nat → Option Nat} {s : SS} (h : SC G ow L p va ma refs s) (hL : 0 < L) (hw : GW G ow) {i : Nat} (hi : i < 100) :
    ∃ q G' ow' refs', (f_X1_slot p (iI i)).1 G = some (q, G') ∧ refs' i = some q ∧ SC G' ow' L p va ma refs' s ∧ SP L G ow refs G' ow' refs' ∧ ∀ a, ow a ≠ 0 → ow a ≠ L + 1 → G'.1 a = G.1 a := by
  have h0 := h
  obtain ⟨k1, ⟨mk, k2⟩, k3, k4, k5, k6, k7, k8⟩ := h
  have e0 : (f_X1_slot p (iI i)).1 G = (mnull (refs i) (mbind (mnewo 3 [.int 0, .int 0, .int 0, .int 0, .int 0, .int 0, .int 0, .int 0, .int 0, .int 0, .null] 11) (fun a7 => (mbind (f_X3_init a7) (fun _ => (mbind (mgr p 1 3) (fun r8 => (mbind (masq r8 4 3 (iI i) (some a7)) (fun _ => (mpure a7))))))))) (fun q6 => (mpure q6))).1 G := by
    unfold f_X1_slot
    rw [if_neg (by rw [lz0, iI_lt (by omega) (by omega) (by omega) (by omega)]; omega)]
    simp only [ev_gr, k1, gr_s3, Option.elim_some, ev_len, garr_ok (show G.1 va = some (.inl (4, (100, .inr (.inr (.inr (.inr refs)))))) from k3)]
    rw [if_pos (by rw [iI_lt (by omega) (by omega) (by omega) (by omega)]; omega)]
    simp only [ev_gr, k1, gr_s3, Option.elim_some, ev_alq, k3, gaq_qc]
    rw [if_neg (by rw [lz0, iI_lt (by omega) (by omega) (by omega) (by omega), iI_cl (by omega) (by omega)]; omega), iI_cl (by omega) (by omega)]
    rfl
  rw [e0]
  cases hr : refs i with
  | some q => exact ⟨q, G, ow, refs, rfl, hr, h0, SP.rf hw, fun _ _ _ => rfl⟩
  | none =>
    have hlt : ∀ a, ow a ≠ 0 → a ≠ G.2.1 ∧ a ≠ G.2.1 + 1 := fun a ha => by have := hw a ha; omega
    have hnva : va ≠ G.2.1 ∧ va ≠ G.2.1 + 1 := hlt va (by omega)
    have hnp : p ≠ G.2.1 ∧ p ≠ G.2.1 + 1 := hlt p (by omega)
    have hF : ∀ a, a ≠ G.2.1 → a ≠ G.2.1 + 1 → va_up (va_up G.1 (G.2.1 + 1) (some (icz 40 (fun _ => 0)))) G.2.1 (some (vcl dv (G.2.1 + 1))) a = G.1 a := fun a h1 h2 => by rw [up_ne _ _ h1, up_ne _ _ h2]
    refine ⟨G.2.1, (va_up (va_up (va_up G.1 (G.2.1 + 1) (some (icz 40 (fun _ => 0)))) G.2.1 (some (vcl dv (G.2.1 + 1)))) va (some (qc 4 100 (va_up refs i (some G.2.1)))), G.2.1 + 2, G.2.2.1 + 2, G.2.2.2 + 51), va_up (va_up ow G.2.1 (L + 3 + 2 * i)) (G.2.1 + 1) (L + 4 + 2 * i), va_up refs i (some G.2.1), ?_, up_self _ _ _, ?_, ?_, ?_⟩
    · rw [mnull_n, newver]
      simp only [ev_gr, hF p hnp.1 hnp.2, k1, gr_s3, Option.elim_some, ev_asq, gfit, up_self, gis_v, if_true, hF va hnva.1 hnva.2, k3, gaq_qc]
      rw [if_neg (by rw [lz0, iI_lt (by omega) (by omega) (by omega) (by omega), iI_cl (by omega) (by omega)]; omega), iI_cl (by omega) (by omega)]
      rfl
    · have hO : ∀ a, ow a ≠ 0 → va_up (va_up ow G.2.1 (L + 3 + 2 * i)) (G.2.1 + 1) (L + 4 + 2 * i) a = ow a := fun a ha => by rw [up_ne _ _ (hlt a ha).2, up_ne _ _ (hlt a ha).1]
      have hK : ∀ a, ow a ≠ 0 → ow a ≠ L + 1 → va_up (va_up (va_up G.1 (G.2.1 + 1) (some (icz 40 (fun _ => 0)))) G.2.1 (some (vcl dv (G.2.1 + 1)))) va (some (qc 4 100 (va_up refs i (some G.2.1)))) a = G.1 a := fun a ha hb => by
        rw [up_ne _ _ (fun e => hb (by rw [e, k5])), hF a (hlt a ha).1 (hlt a ha).2]
      refine ⟨?_, ⟨mk, ?_⟩, up_self _ _ _, ?_, ?_, ?_, ?_, ?_⟩
      · exact (hK p (by omega) (by omega)).trans k1
      · exact (hK ma (by omega) (by omega)).trans k2
      · rw [hO p (by omega), k4]
      · rw [hO va (by omega), k5]
      · rw [hO ma (by omega), k6]
      · intro j hj q hq
        by_cases hji : j = i
        · subst hji
          rw [up_self] at hq
          cases hq
          refine ⟨by rw [up_ne _ _ (by omega), up_self], G.2.1 + 1, dv, fun _ => 0, up_self _ _ _, ?_, ?_, ?_⟩
          · show va_up _ va _ G.2.1 = _
            rw [up_ne _ _ (Ne.symm hnva.1), up_self]
          · show va_up _ va _ (G.2.1 + 1) = _
            rw [up_ne _ _ (Ne.symm hnva.2), up_ne _ _ (by omega), up_self]
          · intro hlv
            have := k8 j hlv hr
            rw [this]
            exact ⟨rfl, fun _ _ => rfl⟩
        · rw [up_ne _ _ hji] at hq
          obtain ⟨m1, r, v, g, m2, m3, m4, m5⟩ := k7 j hj q hq
          refine ⟨by rw [hO q (by omega), m1], r, v, g, by rw [hO r (by omega), m2], ?_, ?_, m5⟩
          · exact (hK q (by omega) (by omega)).trans m3
          · exact (hK r (by omega) (by omega)).trans m4
      · intro j hj hq
        by_cases hji : j = i
        · subst hji
          rw [up_self] at hq
          cases hq
        · rw [up_ne _ _ hji] at hq
          exact k8 j hj hq
    · have hc := cnt_up refs i G.2.1 hr 100 hi
      refine ⟨fun a ha => ?_, fun a ha hl => ?_, ?_, ?_, ?_, ?_⟩
      · rw [up_ne _ _ (hlt a ha).2, up_ne _ _ (hlt a ha).1]
      · show va_up _ va _ a = _
        rw [up_ne _ _ (fun e => by rw [e, k5] at hl; omega), hF a (hlt a ha).1 (hlt a ha).2]
      · intro a ha
        show a < G.2.1 + 2
        by_cases h1 : a = G.2.1 + 1
        · omega
        · by_cases h2 : a = G.2.1
          · omega
          · rw [up_ne _ _ h1, up_ne _ _ h2] at ha
            have := hw a ha
            omega
      · intro j q hq
        rw [up_ne _ _ (fun e => by rw [e, hr] at hq; cases hq)]
        exact hq
      · show G.2.2.1 + 2 + 2 * _ ≤ _
        omega
      · show G.2.2.2 + 51 + 51 * _ ≤ _
        omega
    · intro a ha hb
      show va_up _ va _ a = _
      rw [up_ne _ _ (fun e => hb (by rw [e, k5])), hF a (hlt a ha).1 (hlt a ha).2]
