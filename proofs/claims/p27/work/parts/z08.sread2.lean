/-! PURE PART 8: childless, meeting, rows alike, costs on the way -/
def par (s : SS) (i : Nat) : Nat := ((s.2.2.2 i).1 0).toNat
def hasCh (s : SS) (v : Nat) : Prop := ∃ j, 1 ≤ j ∧ j < s.2.2.1 ∧ (s.2.2.2 j).1 0 = (v : Int)
noncomputable def chF (s : SS) : Nat → Int
  | 0 => 0
  | n + 1 => chF s n + @ite _ (hasCh s n) (Classical.propDecidable _) 0 1
def cM (mx : Nat → Int) : Nat → Int
  | 0 => 0
  | k + 1 => cM mx k + if mx k = 0 then 0 else 1
theorem cM_ge (mx : Nat → Int) (i : Nat) (x : Int) : ∀ k, k ≤ i → cM (va_up mx i x) k = cM mx k
  | 0, _ => rfl
  | k + 1, h => by
    unfold cM
    rw [cM_ge mx i x k (by omega), up_ne _ _ (by omega)]
theorem cM_up (mx : Nat → Int) (i : Nat) (h0 : mx i = 0) : ∀ k, i < k → cM (va_up mx i 1) k = cM mx k + 1
  | 0, h => absurd h (by omega)
  | k + 1, h => by
    unfold cM
    by_cases hk : k = i
    · subst hk
      rw [cM_ge mx k 1 k (by omega), up_self, h0]
      simp
    · rw [up_ne _ _ hk, cM_up mx i h0 k (by omega)]
      omega
theorem cM_0 (mx : Nat → Int) : ∀ n, (∀ j, j < n → mx j = 0) → cM mx n = 0
  | 0, _ => rfl
  | n + 1, h => by
    unfold cM
    rw [cM_0 mx n (fun j hj => h j (by omega)), h n (by omega)]
    rfl
theorem chF_cM (s : SS) (mx : Nat → Int) : ∀ n, (∀ i, i < n → (mx i ≠ 0 ↔ hasCh s i)) → (n : Int) - cM mx n = chF s n
  | 0, _ => rfl
  | n + 1, h => by
    have h1 := chF_cM s mx n (fun i hi => h i (by omega))
    have h2 := h n (by omega)
    unfold cM chF
    by_cases hc : hasCh s n
    · rw [if_pos hc, if_neg (h2.mpr hc)]
      omega
    · rw [if_neg hc, if_pos (Classical.byContradiction (fun hh => hc (h2.mp hh)))]
      omega
def mtF (s : SS) : Nat → Nat → Nat → Nat
  | 0, a, _ => a
  | f + 1, a, b => if a = b then a else if a ≤ b then mtF s f a (par s b) else mtF s f (par s a) b
def flF (s : SS) (w : Nat) : Nat → Nat → Nat
  | 0, _ => w
  | d + 1, m => if sameRow (s.2.2.2 m).1 (s.2.2.2 m).2 (s.2.2.2 w).1 (s.2.2.2 w).2 = true then m else flF s w d (m + 1)
def wsF (s : SS) : Nat → Nat → Int
  | 0, _ => 0
  | f + 1, v => (s.2.2.2 v).1 8 + if v = 0 then 0 else wsF s f (par s v)
def wmF (s : SS) : Nat → Nat → Int
  | 0, _ => 0
  | f + 1, v => max ((s.2.2.2 v).1 8) (if v = 0 then 0 else wmF s f (par s v))
theorem eqFrom_congr (g g' h h' : Nat → Int) : ∀ d m, (∀ j, m ≤ j → j < m + d → g j = h j) → (∀ j, m ≤ j → j < m + d → g' j = h' j) → eqFrom g g' d m = eqFrom h h' d m
  | 0, _, _, _ => rfl
  | d + 1, m, h1, h2 => by
    unfold eqFrom
    rw [h1 m (by omega) (by omega), h2 m (by omega) (by omega), eqFrom_congr g g' h h' d (m + 1) (fun j a b => h1 j (by omega) (by omega)) (fun j a b => h2 j (by omega) (by omega))]
theorem sameRow_congr {v g w g' h h' : Nat → Int} (h1 : ∀ j : Nat, (j : Int) < v 4 + v 5 → g j = h j) (h2 : ∀ j : Nat, (j : Int) < w 4 + w 5 → g' j = h' j) : sameRow v g w g' = sameRow v h w h' := by
  unfold sameRow
  by_cases hc : v 4 + v 5 = w 4 + w 5
  · rw [eqFrom_congr g g' h h' (v 4 + v 5).toNat 0 (fun j a b => h1 j (by omega)) (fun j a b => h2 j (by omega))]
  · simp [hc]
theorem ro_step {α : Type} {F F' : MM α} {x : α} {G G1 : GH} {ow : Nat → Nat} {refs : Nat → Option Nat} {L p va ma : Nat} {s : SS} (e : F.1 G = F'.1 G1) (hp : SP L G ow refs G1 ow refs) (h : RO F' G1 ow L p va ma refs s x) : RO F G ow L p va ma refs s x := by
  obtain ⟨G', ow', refs', h1, h2, h3⟩ := h
  exact ⟨G', ow', refs', e.trans h1, h2, hp.tr h3⟩
theorem par_lt {L : Nat} {s : SS} (hL : 0 < L) (hs : SI s) {i : Nat} (hi : i < s.2.2.1) (h0 : 0 < i) : (s.2.2.2 i).1 0 = (par s i : Int) ∧ par s i < i := by
  obtain ⟨k, h1, h2, _⟩ := (hs.2.2.2 i hi).2.2.2.1 h0
  unfold par
  omega
theorem par_0 {L : Nat} {s : SS} (hL : 0 < L) (hs : SI s) : (s.2.2.2 0).1 0 = -1 ∧ (s.2.2.2 0).1 8 = 0 := by
  have h100 := hs.2.2.1
  have h := (hs.2.2.2 0 (by omega)).2.2.1 rfl
  rw [h]
  exact ⟨rfl, rfl⟩
theorem sx_mark {L : Nat} {p : Nat} {va : Nat} {ma : Nat} {s : SS} (hL : 0 < L) (hs : SI s) {G : GH} {ow : Nat → Nat} {refs : Nat → Option Nat} (h : SX G ow L p va ma refs s) (mx : Nat → Int) : SX (va_up G.1 ma (some (icz 100 mx)), G.2) ow L p va ma refs s ∧ SP L G ow refs (va_up G.1 ma (some (icz 100 mx)), G.2) ow refs := by
  obtain ⟨⟨k1, ⟨mk0, k2⟩, k3, k4, k5, k6, k7, k8⟩, hw⟩ := h
  have hF : ∀ a, ow a ≠ L + 2 → va_up G.1 ma (some (icz 100 mx)) a = G.1 a := fun a ha => up_ne _ _ (fun e => ha (by rw [e, k6]))
  refine ⟨⟨⟨?_, ⟨mx, up_self _ _ _⟩, ?_, k4, k5, k6, ?_, k8⟩, hw⟩, SP.loc hw (fun a ha hl => hF a (by omega))⟩
  · exact (hF p (by omega)).trans k1
  · exact (hF va (by omega)).trans k3
  · intro i hi q hq
    obtain ⟨m1, r, v, g, m2, m3, m4, m5⟩ := k7 i hi q hq
    exact ⟨m1, r, v, g, m2, (hF q (by omega)).trans m3, (hF r (by omega)).trans m4, m5⟩
theorem ch_loop2 {L : Nat} {p : Nat} {va : Nat} {ma : Nat} {s : SS} (hL : 0 < L) (hs : SI s) : ∀ d fu m G ow refs mx, 1 ≤ m → m + d = s.2.2.1 → d < fu → SX G ow L p va ma refs s → G.1 ma = some (icz 100 mx) →
    (∀ i, i < s.2.2.1 → (mx i = 0 ∨ mx i = 1) ∧ (mx i ≠ 0 ↔ ∃ j, 1 ≤ j ∧ j < m ∧ (s.2.2.2 j).1 0 = (i : Int))) → RO (f_X1_childless_29 fu p (iI (cM mx s.2.2.1)) (iI m)) G ow L p va ma refs s (iI (chF s s.2.2.1))
  | _, 0, _, _, _, _, _, _, _, h, _, _, _ => absurd h (by omega)
  | 0, fu + 1, m, G, ow, refs, mx, _, e, _, h, hm, hk => by
    have h100 := hs.2.2.1
    have : m = s.2.2.1 := by omega
    subst this
    refine ro_eq (ro_pure h) ?_
    unfold f_X1_childless_29
    simp only [ev_gi, h.1.1, gi_s0, Option.elim_some]
    rw [if_pos (by rw [iI_le (by omega) (by omega) (by omega) (by omega)]; omega)]
    simp only [ev_gi, h.1.1, gi_s0, Option.elim_some, iI_sub]
    rw [chF_cM s mx s.2.2.1 (fun i hi => (hk i hi).2)]
  | d + 1, fu + 1, m, G, ow, refs, mx, h1m, e, hf, h, hm, hk => by
    have h100 := hs.2.2.1
    have hpm := par_lt hL hs (show m < s.2.2.1 by omega) (by omega)
    unfold f_X1_childless_29
    refine ro_eq (F' := mbind (f_X1_slot p (iI m)) (fun r4 => (mbind (mgi r4 3 0) (fun x5 => (mbind (mgr p 1 4) (fun r6 => (mbind (f_X4_cell r6 x5) (fun x7 => (if x7 = 0 then (mbind (mgr p 1 4) (fun r8 => (mbind (f_X4_fill r8 x5 1) (fun _ => (f_X1_childless_29 fu p (iI (cM mx s.2.2.1) + 1) (iI m + 1)))))) else (f_X1_childless_29 fu p (iI (cM mx s.2.2.1)) (iI m + 1))))))))))) ?_ ?_
    · refine ro_slot hL hs h (show m < s.2.2.1 by omega) ?_
      intro G' ow' refs' q r g h2 _ hq m3 m4 m5 hkeep
      have hm' : G'.1 ma = some (icz 100 mx) := (hkeep ma (by rw [h.1.2.2.2.2.2.1]; omega) (by rw [h.1.2.2.2.2.2.1]; omega)).trans hm
      have hcell := cell_run (G := G') (r := ma) hm' (z := (par s m : Int)) (by omega) (by omega) (by omega)
      rw [show ((par s m : Int)).toNat = par s m by omega] at hcell
      by_cases hz : mx (par s m) = 0
      · refine ro_step (G1 := (va_up G'.1 ma (some (icz 100 (va_up mx (par s m) 1))), G'.2)) ?_ (sx_mark hL hs h2 _).2 (ch_loop2 hL hs d fu (m + 1) _ ow' refs' (va_up mx (par s m) 1) (by omega) (by omega) (by omega) (sx_mark hL hs h2 _).1 (up_self _ _ _) ?_)
        · simp only [ev_gi, m3, gi_v0, gi_v1, gi_v2, gi_v3, gi_v4, gi_v5, gi_v6, gi_v7, gi_v8, gi_v9, gr_v, gis_v, gp_v0, gp_v1, gp_v2, gp_v3, gp_v4, gp_v5, gp_v6, gp_v7, gp_v8, gp_v9, up_self, up_idem, up_ne, Option.elim_some]
          rw [hpm.1]
          simp only [ev_gr, h2.1.1, gr_s4, Option.elim_some]
          rw [mbind_ok hcell, if_pos (by rw [hz]; rfl)]
          simp only [ev_gr, h2.1.1, gr_s4, Option.elim_some]
          rw [lz1, mbind_ok (fill_run (G := G') (r := ma) hm' (z := (par s m : Int)) (by omega) (by omega) (by omega)), upd_iI, iI_add, iI_add, cM_up mx _ hz _ (by omega)]
          rw [show ((par s m : Int)).toNat = par s m by omega]
          rfl
        · intro i hi
          have hki := hk i hi
          by_cases hip : i = par s m
          · subst hip
            rw [up_self]
            exact ⟨Or.inr rfl, ⟨fun _ => ⟨m, by omega, by omega, hpm.1⟩, fun _ => by omega⟩⟩
          · rw [up_ne _ _ hip]
            refine ⟨hki.1, hki.2.trans ⟨fun ⟨j, a, b, c⟩ => ⟨j, a, by omega, c⟩, fun ⟨j, a, b, c⟩ => ⟨j, a, ?_, c⟩⟩⟩
            by_cases hjm : j = m
            · subst hjm
              omega
            · omega
      · refine ro_eq (ch_loop2 hL hs d fu (m + 1) G' ow' refs' mx (by omega) (by omega) (by omega) h2 hm' ?_) ?_
        · intro i hi
          have hki := hk i hi
          refine ⟨hki.1, hki.2.trans ⟨fun ⟨j, a, b, c⟩ => ⟨j, a, by omega, c⟩, fun ⟨j, a, b, c⟩ => ?_⟩⟩
          by_cases hjm : j = m
          · subst hjm
            have : i = par s j := by omega
            subst this
            exact hki.2.mp hz
          · exact ⟨j, a, by omega, c⟩
        · simp only [ev_gi, m3, gi_v0, gi_v1, gi_v2, gi_v3, gi_v4, gi_v5, gi_v6, gi_v7, gi_v8, gi_v9, gr_v, gis_v, gp_v0, gp_v1, gp_v2, gp_v3, gp_v4, gp_v5, gp_v6, gp_v7, gp_v8, gp_v9, up_self, up_idem, up_ne, Option.elim_some]
          rw [hpm.1]
          simp only [ev_gr, h2.1.1, gr_s4, Option.elim_some]
          have hb := (hk (par s m) (by omega)).1
          rw [mbind_ok hcell, if_neg (by rw [lz0, iI_eq (by omega) (by omega) (by omega) (by omega)]; exact hz)]
          rw [lz1, iI_add]
          rfl
    · simp only [ev_gi, h.1.1, gi_s0, Option.elim_some]
      rw [if_neg (by rw [iI_le (by omega) (by omega) (by omega) (by omega)]; omega)]
      simp only [ev_chk, h.1.1, gis_s, if_true]
theorem ch_loop1 {L : Nat} {p : Nat} {va : Nat} {ma : Nat} {s : SS} (hL : 0 < L) (hs : SI s) : ∀ d fu m G ow refs mx, m + d = s.2.2.1 → d < fu → SX G ow L p va ma refs s → G.1 ma = some (icz 100 mx) → (∀ i, i < m → mx i = 0) → RO (f_X1_childless_2 fu p (iI m)) G ow L p va ma refs s (iI (chF s s.2.2.1))
  | _, 0, _, _, _, _, _, _, h, _, _, _ => absurd h (by omega)
  | 0, fu + 1, m, G, ow, refs, mx, e, _, h, hm, hk => by
    have h100 := hs.2.2.1
    have : m = s.2.2.1 := by omega
    subst this
    have hz : cM mx s.2.2.1 = 0 := cM_0 mx _ hk
    refine ro_eq (ch_loop2 hL hs (s.2.2.1 - 1) FU 1 G ow refs mx (by omega) (by omega) (by unfold FU; omega) h hm ?_) ?_
    · intro i hi
      refine ⟨Or.inl (hk i hi), ⟨fun hh => absurd (hk i hi) hh, fun ⟨j, a, b, c⟩ => absurd b (by omega)⟩⟩
    · unfold f_X1_childless_2
      simp only [ev_gi, h.1.1, gi_s0, Option.elim_some]
      rw [if_pos (by rw [iI_le (by omega) (by omega) (by omega) (by omega)]; omega), hz, show iI ((1 : Nat) : Int) = 1 from rfl, show iI 0 = 0 from rfl]
  | d + 1, fu + 1, m, G, ow, refs, mx, e, hf, h, hm, hk => by
    have h100 := hs.2.2.1
    refine ro_step (G1 := (va_up G.1 ma (some (icz 100 (va_up mx m 0))), G.2)) ?_ (sx_mark hL hs h _).2 (ch_loop1 hL hs d fu (m + 1) _ ow refs (va_up mx m 0) (by omega) (by omega) (sx_mark hL hs h _).1 (up_self _ _ _) ?_)
    · rw [f_X1_childless_2]
      simp only [ev_gi, h.1.1, gi_s0, Option.elim_some]
      rw [if_neg (by rw [iI_le (by omega) (by omega) (by omega) (by omega)]; omega)]
      simp only [ev_gr, h.1.1, gr_s4, Option.elim_some]
      rw [lz0, mbind_ok (fill_run (G := G) (r := ma) hm (z := (m : Int)) (by omega) (by omega) (by omega)), upd_iI, lz1, iI_add]
      rw [show ((m : Int)).toNat = m by omega]
      rfl
    · intro i hi
      by_cases him : i = m
      · rw [him, up_self]
      · rw [up_ne _ _ him]
        exact hk i (by omega)
theorem ch_run {L : Nat} {p : Nat} {va : Nat} {ma : Nat} {s : SS} (hL : 0 < L) (hs : SI s) {G : GH} {ow : Nat → Nat} {refs : Nat → Option Nat} (h : SX G ow L p va ma refs s) : RO (f_X1_childless p) G ow L p va ma refs s (iI (chF s s.2.2.1)) := by
  obtain ⟨mx, hm⟩ := h.1.2.1
  exact ch_loop1 hL hs s.2.2.1 FU 0 G ow refs mx (by omega) (by have := hs.2.2.1; unfold FU; omega) h hm (fun i hi => absurd hi (by omega))
theorem mt_loop {L : Nat} {p : Nat} {va : Nat} {ma : Nat} {s : SS} (hL : 0 < L) (hs : SI s) : ∀ f fu a b c G ow refs, c + f = 200 → f < fu → a < s.2.2.1 → b < s.2.2.1 → a + b ≤ f → SX G ow L p va ma refs s → RO (f_X1_meeting_8 fu p (iI a) (iI b) (iI (c : Nat))) G ow L p va ma refs s (iI (mtF s f a b))
  | _, 0, _, _, _, _, _, _, _, h, _, _, _, _ => absurd h (by omega)
  | 0, fu + 1, a, b, c, G, ow, refs, e, _, ha, hb, hab, h => by
    refine ro_eq (ro_pure h) ?_
    unfold f_X1_meeting_8
    rw [if_pos (by rw [show (200 : Int32) = iI 200 from rfl, iI_le (by omega) (by omega) (by omega) (by omega)]; omega)]
    rfl
  | f + 1, fu + 1, a, b, c, G, ow, refs, e, hf, ha, hb, hab, h => by
    have h100 := hs.2.2.1
    unfold f_X1_meeting_8 mtF
    rw [if_neg (by rw [show (200 : Int32) = iI 200 from rfl, iI_le (by omega) (by omega) (by omega) (by omega)]; omega)]
    by_cases h1 : a = b
    · subst h1
      rw [if_pos rfl, if_pos rfl]
      exact ro_pure h
    · rw [if_neg (by rw [iI_eq (by omega) (by omega) (by omega) (by omega)]; omega), if_neg h1]
      by_cases h2 : a ≤ b
      · rw [if_pos (by rw [iI_le (by omega) (by omega) (by omega) (by omega)]; omega), if_pos h2]
        have hpb := par_lt hL hs hb (by omega)
        refine ro_eq (F' := mbind (f_X1_slot p (iI b)) (fun r1 => (mbind (mgi r1 3 0) (fun x2 => (f_X1_meeting_8 fu p (iI a) x2 (iI (c : Nat) + 1)))))) ?_ ?_
        · refine ro_slot hL hs h hb ?_
          intro G' ow' refs' q r g h2 _ hq m3 m4 m5 hkeep
          refine ro_eq (mt_loop hL hs f fu a (par s b) (c + 1) G' ow' refs' (by omega) (by omega) ha (by omega) (by omega) h2) ?_
          simp only [ev_gi, m3, gi_v0, gi_v1, gi_v2, gi_v3, gi_v4, gi_v5, gi_v6, gi_v7, gi_v8, gi_v9, gr_v, gis_v, gp_v0, gp_v1, gp_v2, gp_v3, gp_v4, gp_v5, gp_v6, gp_v7, gp_v8, gp_v9, up_self, up_idem, up_ne, Option.elim_some]
          rw [hpb.1, lz1, iI_add]
          rfl
        · simp only [ev_chk, h.1.1, gis_s, if_true]
      · rw [if_neg (by rw [iI_le (by omega) (by omega) (by omega) (by omega)]; omega), if_neg h2]
        have hpb := par_lt hL hs ha (by omega)
        refine ro_eq (F' := mbind (f_X1_slot p (iI a)) (fun r1 => (mbind (mgi r1 3 0) (fun x2 => (f_X1_meeting_8 fu p x2 (iI b) (iI (c : Nat) + 1)))))) ?_ ?_
        · refine ro_slot hL hs h ha ?_
          intro G' ow' refs' q r g h2 _ hq m3 m4 m5 hkeep
          refine ro_eq (mt_loop hL hs f fu (par s a) b (c + 1) G' ow' refs' (by omega) (by omega) (by omega) hb (by omega) h2) ?_
          simp only [ev_gi, m3, gi_v0, gi_v1, gi_v2, gi_v3, gi_v4, gi_v5, gi_v6, gi_v7, gi_v8, gi_v9, gr_v, gis_v, gp_v0, gp_v1, gp_v2, gp_v3, gp_v4, gp_v5, gp_v6, gp_v7, gp_v8, gp_v9, up_self, up_idem, up_ne, Option.elim_some]
          rw [hpb.1, lz1, iI_add]
          rfl
        · simp only [ev_chk, h.1.1, gis_s, if_true]
theorem mt_run {L : Nat} {p : Nat} {va : Nat} {ma : Nat} {s : SS} (hL : 0 < L) (hs : SI s) {G : GH} {ow : Nat → Nat} {refs : Nat → Option Nat} (h : SX G ow L p va ma refs s) {a b : Nat} (ha : a < s.2.2.1) (hb : b < s.2.2.1) : RO (f_X1_meeting p (iI a) (iI b)) G ow L p va ma refs s (iI (mtF s 200 a b)) :=
  mt_loop hL hs 200 FU a b 0 G ow refs rfl (by decide) ha hb (by have := hs.2.2.1; omega) h
/-- two versions' rows are compared -/
theorem same_slots {L : Nat} {p : Nat} {va : Nat} {ma : Nat} {s : SS} (hL : 0 < L) (hs : SI s) {G : GH} {ow : Nat → Nat} {refs : Nat → Option Nat} (h : SX G ow L p va ma refs s) {a b x y : Nat} (ha : a < s.2.2.1) (hb : b < s.2.2.1) (hx : refs a = some x) (hy : refs b = some y) :
    (f_X3_hasRowOf x y).1 G = some (iI (b2i (sameRow (s.2.2.2 a).1 (s.2.2.2 a).2 (s.2.2.2 b).1 (s.2.2.2 b).2)), G) := by
  have h100 := hs.2.2.1.2
  obtain ⟨_, r1, g1, _, m3, m4, m5⟩ := h.1.live h100 ha hx
  obtain ⟨_, r2, g2, _, k3, k4, k5⟩ := h.1.live h100 hb hy
  rw [← sameRow_congr (v := (s.2.2.2 a).1) (w := (s.2.2.2 b).1) m5 k5]
  refine hasRow_run m3 m4 k3 k4 (vbn_of hL hs ha) (vbn_of hL hs hb) ?_ ?_
  · intro j hj
    have := (hs.2.2.2 a ha).2.1 j hj
    rw [m5 j hj]
    omega
  · intro j hj
    have := (hs.2.2.2 b hb).2.1 j hj
    rw [k5 j hj]
    omega
theorem fl_loop {L : Nat} {p : Nat} {va : Nat} {ma : Nat} {s : SS} (hL : 0 < L) (hs : SI s) {w : Nat} (hw : w < s.2.2.1) : ∀ d fu m G ow refs, m + d = w → d < fu → SX G ow L p va ma refs s → RO (f_X1_firstWithRowOf_2 fu p (iI w) (iI m)) G ow L p va ma refs s (iI (flF s w d m))
  | _, 0, _, _, _, _, _, h, _ => absurd h (by omega)
  | 0, fu + 1, m, G, ow, refs, e, _, h => by
    have h100 := hs.2.2.1
    refine ro_eq (ro_pure h) ?_
    unfold f_X1_firstWithRowOf_2
    rw [if_pos (by rw [iI_le (by omega) (by omega) (by omega) (by omega)]; omega)]
    rfl
  | d + 1, fu + 1, m, G, ow, refs, e, hf, h => by
    have h100 := hs.2.2.1
    unfold f_X1_firstWithRowOf_2 flF
    rw [if_neg (by rw [iI_le (by omega) (by omega) (by omega) (by omega)]; omega)]
    refine ro_eq (F' := mbind (f_X1_slot p (iI m)) (fun r1 => (mbind (mchk p 1) (fun _ => mbind (f_X1_slot p (iI w)) (fun r2 => (mbind (mchk r1 3) (fun _ => mbind (f_X3_hasRowOf r1 r2) (fun x3 => (if x3 = 0 then (f_X1_firstWithRowOf_2 fu p (iI w) (iI m + 1)) else (mpure (iI m)))))))))))  ?_ ?_
    · refine ro_slot hL hs h (show m < s.2.2.1 by omega) ?_
      intro G' ow' refs' q r g h2 hr2 hq m3 m4 m5 _
      refine ro_eq (F' := mbind (f_X1_slot p (iI w)) (fun r2 => (mbind (mchk q 3) (fun _ => mbind (f_X3_hasRowOf q r2) (fun x3 => (if x3 = 0 then (f_X1_firstWithRowOf_2 fu p (iI w) (iI m + 1)) else (mpure (iI m)))))))) ?_ ?_
      · refine ro_slot hL hs h2 hw ?_
        intro G2 ow2 refs2 q2 r2 g2 h3 hr3 hq2 n3 n4 n5 _
        have hq1 : refs2 m = some q := hr3 m q hq
        obtain ⟨_, r1, g1, _, mm3, _, _⟩ := h3.1.live h100.2 (show m < s.2.2.1 by omega) hq1
        have hsame := same_slots hL hs h3 (show m < s.2.2.1 by omega) hw hq1 hq2
        by_cases hc : sameRow (s.2.2.2 m).1 (s.2.2.2 m).2 (s.2.2.2 w).1 (s.2.2.2 w).2 = true
        · rw [hc] at hsame
          rw [if_pos hc]
          refine ro_eq (ro_pure h3) ?_
          simp only [ev_chk, mm3, gis_v, if_true]
          rw [mbind_ok hsame]
          rfl
        · rw [Bool.not_eq_true] at hc
          rw [hc] at hsame ⊢
          rw [if_neg (by decide)]
          refine ro_eq (fl_loop hL hs hw d fu (m + 1) G2 ow2 refs2 (by omega) (by omega) h3) ?_
          simp only [ev_chk, mm3, gis_v, if_true]
          rw [mbind_ok hsame, if_pos (show iI (b2i false) = 0 from rfl), lz1, iI_add]
          rfl
      · simp only [ev_chk, h2.1.1, gis_s, if_true]
    · simp only [ev_chk, h.1.1, gis_s, if_true]
theorem fl_run {L : Nat} {p : Nat} {va : Nat} {ma : Nat} {s : SS} (hL : 0 < L) (hs : SI s) {G : GH} {ow : Nat → Nat} {refs : Nat → Option Nat} (h : SX G ow L p va ma refs s) {w : Nat} (hw : w < s.2.2.1) : RO (f_X1_firstWithRowOf p (iI w)) G ow L p va ma refs s (iI (flF s w w 0)) :=
  fl_loop hL hs hw w FU 0 G ow refs (by omega) (by have := hs.2.2.1; unfold FU; omega) h
theorem ws_loop {L : Nat} {p : Nat} {va : Nat} {ma : Nat} {s : SS} (hL : 0 < L) (hs : SI s) : ∀ f fu v c acc G ow refs, c + f = 100 → f + 1 < fu → v < s.2.2.1 → v < f → SX G ow L p va ma refs s → RO (f_X1_sumOfCostsOnWay_7 fu p (iI acc) (iI v) (iI (c : Nat))) G ow L p va ma refs s (iI (acc + wsF s f v))
  | _, 0, _, _, _, _, _, _, _, h, _, _, _ => absurd h (by omega)
  | 0, fu + 1, v, c, acc, G, ow, refs, e, _, hv, hf, h => absurd hf (by omega)
  | f + 1, fu + 1, v, c, acc, G, ow, refs, e, hfu, hv, hf, h => by
    have h100 := hs.2.2.1
    unfold f_X1_sumOfCostsOnWay_7 wsF
    rw [if_neg (by rw [lz100, iI_le (by omega) (by omega) (by omega) (by omega)]; omega), if_neg (by rw [lzm1, iI_eq (by omega) (by omega) (by omega) (by omega)]; omega)]
    refine ro_eq (F' := mbind (f_X1_slot p (iI v)) (fun r1 => (mbind (mgi r1 3 8) (fun x2 => (mbind (mchk p 1) (fun _ => mbind (f_X1_slot p (iI v)) (fun r3 => (mbind (mgi r3 3 0) (fun x4 => (f_X1_sumOfCostsOnWay_7 fu p (iI acc + x2) x4 (iI (c : Nat) + 1))))))))))) ?_ ?_
    · refine ro_slot hL hs h hv ?_
      intro G' ow' refs' q r g h2 hr2 hq m3 m4 m5 _
      refine ro_eq (F' := mbind (f_X1_slot p (iI v)) (fun r3 => (mbind (mgi r3 3 0) (fun x4 => (f_X1_sumOfCostsOnWay_7 fu p (iI acc + iI ((s.2.2.2 v).1 8)) x4 (iI (c : Nat) + 1)))))) ?_ ?_
      · refine ro_slot hL hs h2 hv ?_
        intro G2 ow2 refs2 q2 r2 g2 h3 hr3 hq2 n3 n4 n5 _
        by_cases h0 : v = 0
        · subst h0
          rw [if_pos rfl]
          refine ro_eq (ro_pure h3) ?_
          simp only [ev_gi, n3, gi_v0, gi_v1, gi_v2, gi_v3, gi_v4, gi_v5, gi_v6, gi_v7, gi_v8, gi_v9, gr_v, gis_v, gp_v0, gp_v1, gp_v2, gp_v3, gp_v4, gp_v5, gp_v6, gp_v7, gp_v8, gp_v9, up_self, up_idem, up_ne, Option.elim_some]
          rw [(par_0 hL hs).1, (par_0 hL hs).2]
          cases fu with
          | zero => omega
          | succ fu =>
            unfold f_X1_sumOfCostsOnWay_7
            rw [if_pos (show iI (-1) = -1 from rfl), iI_add]
            split <;> rfl
        · rw [if_neg h0]
          have hpv := par_lt hL hs hv (by omega)
          refine ro_eq (F' := f_X1_sumOfCostsOnWay_7 fu p (iI (acc + (s.2.2.2 v).1 8)) (iI (par s v)) (iI ((c + 1 : Nat) : Int))) ?_ ?_
          · rw [← Int.add_assoc]
            exact ws_loop hL hs f fu (par s v) (c + 1) _ G2 ow2 refs2 (by omega) (by omega) (by omega) (by omega) h3
          · simp only [ev_gi, n3, gi_v0, gi_v1, gi_v2, gi_v3, gi_v4, gi_v5, gi_v6, gi_v7, gi_v8, gi_v9, gr_v, gis_v, gp_v0, gp_v1, gp_v2, gp_v3, gp_v4, gp_v5, gp_v6, gp_v7, gp_v8, gp_v9, up_self, up_idem, up_ne, Option.elim_some]
            rw [hpv.1, lz1, iI_add, iI_add]
            rfl
      · simp only [ev_gi, m3, gi_v0, gi_v1, gi_v2, gi_v3, gi_v4, gi_v5, gi_v6, gi_v7, gi_v8, gi_v9, gr_v, gis_v, gp_v0, gp_v1, gp_v2, gp_v3, gp_v4, gp_v5, gp_v6, gp_v7, gp_v8, gp_v9, up_self, up_idem, up_ne, Option.elim_some, ev_chk, h2.1.1, gis_s, if_true]
    · simp only [ev_chk, h.1.1, gis_s, if_true]
theorem ws_run {L : Nat} {p : Nat} {va : Nat} {ma : Nat} {s : SS} (hL : 0 < L) (hs : SI s) {G : GH} {ow : Nat → Nat} {refs : Nat → Option Nat} (h : SX G ow L p va ma refs s) {v : Nat} (hv : v < s.2.2.1) : RO (f_X1_sumOfCostsOnWay p (iI v)) G ow L p va ma refs s (iI (wsF s 100 v)) := by
  have := ws_loop hL hs 100 FU v 0 0 G ow refs rfl (by decide) hv (by have := hs.2.2.1; omega) h
  rw [Int.zero_add] at this
  exact this
theorem wm_b {L : Nat} {s : SS} (hL : 0 < L) (hs : SI s) : ∀ f v, v < s.2.2.1 → 0 ≤ wmF s f v ∧ wmF s f v ≤ 300
  | 0, _, _ => by unfold wmF; omega
  | f + 1, v, hv => by
    have h1 := vbn_of hL hs hv
    unfold VBn at h1
    unfold wmF
    by_cases h0 : v = 0
    · rw [if_pos h0]
      omega
    · rw [if_neg h0]
      have := wm_b hL hs f (par s v) (by have := par_lt hL hs hv (by omega); omega)
      omega
theorem wm_loop {L : Nat} {p : Nat} {va : Nat} {ma : Nat} {s : SS} (hL : 0 < L) (hs : SI s) : ∀ f fu v c acc G ow refs, c + f = 100 → f + 1 < fu → v < s.2.2.1 → v < f → (0 ≤ acc ∧ acc ≤ 300) → SX G ow L p va ma refs s → RO (f_X1_greatestCostOnWay_7 fu p (iI acc) (iI v) (iI (c : Nat))) G ow L p va ma refs s (iI (max acc (wmF s f v)))
  | _, 0, _, _, _, _, _, _, _, h, _, _, _, _ => absurd h (by omega)
  | 0, fu + 1, v, c, acc, G, ow, refs, e, _, hv, hf, _, h => absurd hf (by omega)
  | f + 1, fu + 1, v, c, acc, G, ow, refs, e, hfu, hv, hf, hacc, h => by
    have h100 := hs.2.2.1
    have hvb := vbn_of hL hs hv
    unfold VBn at hvb
    unfold f_X1_greatestCostOnWay_7 wmF
    rw [if_neg (by rw [lz100, iI_le (by omega) (by omega) (by omega) (by omega)]; omega), if_neg (by rw [lzm1, iI_eq (by omega) (by omega) (by omega) (by omega)]; omega)]
    refine ro_eq (F' := mbind (f_X1_slot p (iI v)) (fun r1 => (mbind (mgi r1 3 8) (fun x2 => (mbind (mchk p 1) (fun _ => mbind (f_X1_slot p (iI v)) (fun r3 => (mbind (mgi r3 3 0) (fun x4 => (f_X1_greatestCostOnWay_7 fu p (if iI acc < x2 then x2 else iI acc) x4 (iI (c : Nat) + 1))))))))))) ?_ ?_
    · refine ro_slot hL hs h hv ?_
      intro G' ow' refs' q r g h2 hr2 hq m3 m4 m5 _
      refine ro_eq (F' := mbind (f_X1_slot p (iI v)) (fun r3 => (mbind (mgi r3 3 0) (fun x4 => (f_X1_greatestCostOnWay_7 fu p (iI (max acc ((s.2.2.2 v).1 8))) x4 (iI (c : Nat) + 1)))))) ?_ ?_
      · refine ro_slot hL hs h2 hv ?_
        intro G2 ow2 refs2 q2 r2 g2 h3 hr3 hq2 n3 n4 n5 _
        by_cases h0 : v = 0
        · subst h0
          rw [if_pos rfl]
          refine ro_eq (ro_pure h3) ?_
          simp only [ev_gi, n3, gi_v0, gi_v1, gi_v2, gi_v3, gi_v4, gi_v5, gi_v6, gi_v7, gi_v8, gi_v9, gr_v, gis_v, gp_v0, gp_v1, gp_v2, gp_v3, gp_v4, gp_v5, gp_v6, gp_v7, gp_v8, gp_v9, up_self, up_idem, up_ne, Option.elim_some]
          rw [(par_0 hL hs).1, (par_0 hL hs).2]
          cases fu with
          | zero => omega
          | succ fu =>
            unfold f_X1_greatestCostOnWay_7
            rw [if_pos (show iI (-1) = -1 from rfl), show max acc (max 0 0) = max acc 0 by omega]
            split <;> rfl
        · rw [if_neg h0]
          have hpv := par_lt hL hs hv (by omega)
          refine ro_eq (F' := f_X1_greatestCostOnWay_7 fu p (iI (max acc ((s.2.2.2 v).1 8))) (iI (par s v)) (iI ((c + 1 : Nat) : Int))) ?_ ?_
          · rw [show max acc (max ((s.2.2.2 v).1 8) (wmF s f (par s v))) = max (max acc ((s.2.2.2 v).1 8)) (wmF s f (par s v)) by omega]
            exact wm_loop hL hs f fu (par s v) (c + 1) _ G2 ow2 refs2 (by omega) (by omega) (by omega) (by omega) (by omega) h3
          · simp only [ev_gi, n3, gi_v0, gi_v1, gi_v2, gi_v3, gi_v4, gi_v5, gi_v6, gi_v7, gi_v8, gi_v9, gr_v, gis_v, gp_v0, gp_v1, gp_v2, gp_v3, gp_v4, gp_v5, gp_v6, gp_v7, gp_v8, gp_v9, up_self, up_idem, up_ne, Option.elim_some]
            rw [hpv.1, lz1, iI_add]
            rfl
      · simp only [ev_gi, m3, gi_v0, gi_v1, gi_v2, gi_v3, gi_v4, gi_v5, gi_v6, gi_v7, gi_v8, gi_v9, gr_v, gis_v, gp_v0, gp_v1, gp_v2, gp_v3, gp_v4, gp_v5, gp_v6, gp_v7, gp_v8, gp_v9, up_self, up_idem, up_ne, Option.elim_some, ev_chk, h2.1.1, gis_s, if_true]
        rw [iI_max (by omega) (by omega) (by omega) (by omega)]
    · simp only [ev_chk, h.1.1, gis_s, if_true]
theorem wm_run {L : Nat} {p : Nat} {va : Nat} {ma : Nat} {s : SS} (hL : 0 < L) (hs : SI s) {G : GH} {ow : Nat → Nat} {refs : Nat → Option Nat} (h : SX G ow L p va ma refs s) {v : Nat} (hv : v < s.2.2.1) : RO (f_X1_greatestCostOnWay p (iI v)) G ow L p va ma refs s (iI (wmF s 100 v)) := by
  have := wm_loop hL hs 100 FU v 0 0 G ow refs rfl (by decide) hv (by have := hs.2.2.1; omega) (by omega) h
  have hb := wm_b hL hs 100 v hv
  rw [show max 0 (wmF s 100 v) = wmF s 100 v by omega] at this
  exact this
