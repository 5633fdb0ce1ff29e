/-! PURE PART 49: the trial plays; stalls, worstWith, leastRate of the class -/
theorem tg0 (a b : Int) (r : Nat) : gint (some (tcl a b r)) 2 0 = some (iI a) := rfl
theorem tg1 (a b : Int) (r : Nat) : gint (some (tcl a b r)) 2 1 = some (iI b) := rfl
theorem tr2 (a b : Int) (r : Nat) : gref (some (tcl a b r)) 2 2 = some r := rfl
theorem tp0 (a b x : Int) (r : Nat) : gput (some (tcl a b r)) 2 0 (.int (iI x)) = some (tcl x b r) := rfl
theorem tp1 (a b x : Int) (r : Nat) : gput (some (tcl a b r)) 2 1 (.int (iI x)) = some (tcl a x r) := rfl
theorem tis (a b : Int) (r : Nat) : gis (some (tcl a b r)) 2 = true := rfl
/-- a heap with the trial's three cells laid over it -/
def TH (G : GH) (tp tr tx : Nat) (a b : Int) (v g : Nat → Int) : GH := VH (va_up G.1 tp (some (tcl a b tr)), G.2) tr tx v g
theorem th_tp {G : GH} {tp : Nat} {tr : Nat} {tx : Nat} (h1 : tp ≠ tr) (h2 : tp ≠ tx) (h3 : tr ≠ tx) (a : Int) (b : Int) (v : Nat → Int) (g : Nat → Int) : (TH G tp tr tx a b v g).1 tp = some (tcl a b tr) := by
  show va_up (va_up (va_up G.1 tp _) tx _) tr _ tp = _
  rw [up_ne _ _ h1, up_ne _ _ h2, up_self]
theorem th_tr {G : GH} {tp : Nat} {tr : Nat} {tx : Nat} (h1 : tp ≠ tr) (h2 : tp ≠ tx) (h3 : tr ≠ tx) (a : Int) (b : Int) (v : Nat → Int) (g : Nat → Int) : (TH G tp tr tx a b v g).1 tr = some (vcl v tx) := VH_a h3 v g
theorem th_tx {G : GH} {tp : Nat} {tr : Nat} {tx : Nat} (h1 : tp ≠ tr) (h2 : tp ≠ tx) (h3 : tr ≠ tx) (a : Int) (b : Int) (v : Nat → Int) (g : Nat → Int) : (TH G tp tr tx a b v g).1 tx = some (icz 40 g) := VH_r h3 v g
theorem th_out {G : GH} {tp : Nat} {tr : Nat} {tx : Nat} (h1 : tp ≠ tr) (h2 : tp ≠ tx) (h3 : tr ≠ tx) (a : Int) (b : Int) (v : Nat → Int) (g : Nat → Int) {q : Nat} (k1 : q ≠ tp) (k2 : q ≠ tr) (k3 : q ≠ tx) : (TH G tp tr tx a b v g).1 q = G.1 q := by
  show va_up (va_up (va_up G.1 tp _) tx _) tr _ q = _
  rw [up_ne _ _ k2, up_ne _ _ k3, up_ne _ _ k1]
theorem th_up {G : GH} {tp : Nat} {tr : Nat} {tx : Nat} (h1 : tp ≠ tr) (h2 : tp ≠ tx) (h3 : tr ≠ tx) (a : Int) (b : Int) (v : Nat → Int) (g : Nat → Int) (a' b' : Int) : ((va_up (TH G tp tr tx a b v g).1 tp (some (tcl a' b' tr)), (TH G tp tr tx a b v g).2) : GH) = TH G tp tr tx a' b' v g := by
  unfold TH VH
  refine Prod.ext ?_ rfl
  show va_up (va_up (va_up (va_up G.1 tp _) tx _) tr _) tp _ = va_up (va_up (va_up G.1 tp _) tx _) tr _
  rw [up_comm _ _ _ h1, up_comm _ _ _ h2, up_idem]
theorem th_id {G : GH} {tp : Nat} {tr : Nat} {tx : Nat} (h1 : tp ≠ tr) (h2 : tp ≠ tx) (h3 : tr ≠ tx) (a : Int) (b : Int) (v : Nat → Int) (g : Nat → Int) (k1 : G.1 tp = some (tcl a b tr)) (k2 : G.1 tr = some (vcl v tx)) (k3 : G.1 tx = some (icz 40 g)) : TH G tp tr tx a b v g = G := by
  unfold TH
  rw [GH_same k1, VH_id k2 k3]
theorem pl_loop {G : GH} {tp : Nat} {tr : Nat} {tx : Nat} (h1 : tp ≠ tr) (h2 : tp ≠ tx) (h3 : tr ≠ tx) {np va ma : Nat} {s : SS} (hs : SI s) {ads : Nat → Nat} {n : Int} {t : TT} (hm : t.2.2.2.1 ≤ 50) (hkv : KV t.2.2.2.1 t.2.2.2.2.1 t.2.2.2.2.2) {rate : Int} (hr : 1 ≤ rate ∧ rate ≤ 9) (q0 : G.1 (ads 0) = some (sob ads (tz n t))) (q4 : G.1 (ads 4) = some (icz 50 t.2.2.2.2.1)) (q5 : G.1 (ads 5) = some (icz 50 t.2.2.2.2.2)) (qn : G.1 np = some (scl s va ma)) (o : ∀ x, (x = ads 0 ∨ x = ads 4 ∨ x = ads 5 ∨ x = np) → x ≠ tp ∧ x ≠ tr ∧ x ≠ tx) {most : Nat} (hmost : most ≤ t.2.2.2.1 ∧ most ≤ 100 - s.2.2.1) :
    ∀ (d fu i : Nat) (a b : Int) (v g : Nat → Int), i + d = most → d < fu → VBn v → (∀ j : Nat, (j : Int) < v 4 + v 5 → -999 ≤ g j ∧ g j ≤ 999) → (v 3 ≤ (s.2.2.1 : Int) - 1 + i) → (0 ≤ a ∧ a ≤ i) → (0 ≤ b ∧ b ≤ 300) →
    ∃ v' g', (f_X2_play_38 fu tp (ads 0) np (iI rate) (iI most) (iI i)).1 (TH G tp tr tx a b v g) = some ((), TH G tp tr tx (plF rate s.2.1 t.2.2.2.2.1 t.2.2.2.2.2 d i v g a b).1 (plF rate s.2.1 t.2.2.2.2.1 t.2.2.2.2.2 d i v g a b).2 v' g')
  | _, 0, _, _, _, _, _, _, h, _, _, _, _, _ => absurd h (by omega)
  | 0, fu + 1, i, a, b, v, g, e, _, hv, hg, h3', ha, hb => by
    refine ⟨v, g, ?_⟩
    rw [f_X2_play_38, if_pos (by rw [iI_le (by omega) (by omega) (by omega) (by omega)]; omega)]
    rfl
  | d + 1, fu + 1, i, a, b, v, g, e, hf, hv, hg, h3', ha, hb => by
    have h100 := hs.2.2.1
    have hki := hkv i (by omega)
    have r0 : ∀ a b v g, (TH G tp tr tx a b v g).1 (ads 0) = some (sob ads (tz n t)) := fun a b v g => by rw [th_out h1 h2 h3 a b v g (o _ (Or.inl rfl)).1 (o _ (Or.inl rfl)).2.1 (o _ (Or.inl rfl)).2.2]; exact q0
    have r4 : ∀ a b v g, (TH G tp tr tx a b v g).1 (ads 4) = some (icz 50 t.2.2.2.2.1) := fun a b v g => by rw [th_out h1 h2 h3 a b v g (o _ (Or.inr (Or.inl rfl))).1 (o _ (Or.inr (Or.inl rfl))).2.1 (o _ (Or.inr (Or.inl rfl))).2.2]; exact q4
    have r5 : ∀ a b v g, (TH G tp tr tx a b v g).1 (ads 5) = some (icz 50 t.2.2.2.2.2) := fun a b v g => by rw [th_out h1 h2 h3 a b v g (o _ (Or.inr (Or.inr (Or.inl rfl)))).1 (o _ (Or.inr (Or.inr (Or.inl rfl)))).2.1 (o _ (Or.inr (Or.inr (Or.inl rfl)))).2.2]; exact q5
    have rn : ∀ a b v g, (TH G tp tr tx a b v g).1 np = some (scl s va ma) := fun a b v g => by rw [th_out h1 h2 h3 a b v g (o _ (Or.inr (Or.inr (Or.inr rfl)))).1 (o _ (Or.inr (Or.inr (Or.inr rfl)))).2.1 (o _ (Or.inr (Or.inr (Or.inr rfl)))).2.2]; exact qn
    have hck : ∀ {β : Type} (F : MM β), (mbind (mchk (ads 0) 0) (fun _ => F)).1 (TH G tp tr tx a b v g) = F.1 (TH G tp tr tx a b v g) := fun F => by
      rw [ev_chk, r0]
      rfl
    have hck3 : ∀ {β : Type} (F : MM β), (mbind (mchk tr 3) (fun _ => F)).1 (TH G tp tr tx a b v g) = F.1 (TH G tp tr tx a b v g) := fun F => by
      rw [ev_chk, th_tr h1 h2 h3]
      rfl
    have hgt : ∀ {β : Type} (a b : Int) (v g : Nat → Int) (K : Nat → MM β), (mbind (mgr tp 2 2) K).1 (TH G tp tr tx a b v g) = (K tr).1 (TH G tp tr tx a b v g) := fun a b v g K => by
      rw [ev_gr, th_tp h1 h2 h3, tr2, Option.elim_some]
    have hact : (f_X0_actAt (ads 0) (iI i)).1 (TH G tp tr tx a b v g) = some (iI (t.2.2.2.2.1 i), TH G tp tr tx a b v g) := by
      unfold f_X0_actAt
      rw [ev_gr, r0]
      show (mbind (f_X4_cell (ads 4) (iI i)) (fun x2 => mpure x2)).1 _ = _
      rw [mbind_ok (cell_run (r4 a b v g) (z := (i : Int)) (by omega) (by omega) (by omega))]
      rfl
    have hval : (f_X0_valueAt (ads 0) (iI i)).1 (TH G tp tr tx a b v g) = some (iI (t.2.2.2.2.2 i), TH G tp tr tx a b v g) := by
      unfold f_X0_valueAt
      rw [ev_gr, r0]
      show (mbind (f_X4_cell (ads 5) (iI i)) (fun x2 => mpure x2)).1 _ = _
      rw [mbind_ok (cell_run (r5 a b v g) (z := (i : Int)) (by omega) (by omega) (by omega))]
      rfl
    have hper := permits_run (G := TH G tp tr tx a b v g) (th_tr h1 h2 h3 a b v g) hv hki.1
    rw [f_X2_play_38, if_neg (by rw [iI_le (by omega) (by omega) (by omega) (by omega)]; omega), hgt, hck, mbind_ok hact, hck3, mbind_ok hper]
    rw [show (if t.2.2.2.2.1 i < 2 then decide (v 4 + v 5 < 40) else decide (0 < v 4 + v 5)) = pmt v (t.2.2.2.2.1 i) from rfl]
    by_cases hp : pmt v (t.2.2.2.2.1 i) = true
    · have hpp : if t.2.2.2.2.1 i < 2 then v 4 + v 5 < 40 else 0 < v 4 + v 5 := by
        unfold pmt at hp
        split at hp <;> rename_i hc <;> simp only [hc, if_true, if_false] <;> exact of_decide_eq_true hp
      have hr' : 0 ≤ rate ∧ rate ≤ 9 := by omega
      have hq' : 0 ≤ s.2.1 ∧ s.2.1 ≤ 5 := by have := hs.2.1; omega
      have hper2 := perform_v (G := (va_up G.1 tp (some (tcl a b tr)), G.2)) h3 v g (kind := t.2.2.2.2.1 i) (x := t.2.2.2.2.2 i) (rate := rate) (ratio := s.2.1) hv hki.1 hr' hq' hpp
      have hst := st_act hv g (kind := t.2.2.2.2.1 i) (x := t.2.2.2.2.2 i) (rate := rate) (ratio := s.2.1) hki.1 hr' hq' hpp
      have hvb := vb_act hv g (kind := t.2.2.2.2.1 i) (x := t.2.2.2.2.2 i) (rate := rate) (ratio := s.2.1) hki.1 hr' hq' hpp hki.2 hg (by omega)
      obtain ⟨V, hV⟩ : ∃ V, V = sAct v g (t.2.2.2.2.1 i) (t.2.2.2.2.2 i) rate s.2.1 := ⟨_, rfl⟩
      obtain ⟨W, hW⟩ : ∃ W, W = cRow g (t.2.2.2.2.1 i) (t.2.2.2.2.2 i) (v 4 + v 5).toNat := ⟨_, rfl⟩
      rw [← hV, ← hW] at hper2
      rw [← hV] at hst hvb
      have hper3 : (f_X3_perform tr (iI (t.2.2.2.2.1 i)) (iI (t.2.2.2.2.2 i)) (iI rate) (iI s.2.1)).1 (TH G tp tr tx a b v g) = some ((), TH G tp tr tx a b V W) := hper2
      have hgW : ∀ j : Nat, (j : Int) < V 4 + V 5 → -999 ≤ W j ∧ W j ≤ 999 := by
        intro j hj
        have hro := row_ok (g := g) (row := g) (n := (v 4 + v 5).toNat) (fun _ _ => rfl) (t.2.2.2.2.1 i) (t.2.2.2.2.2 i) hki.1 j (by
          unfold ST at hst
          unfold VBn at hv
          rw [hst.2.2.2.2.1] at hj
          split at hj <;> rename_i hc <;> simp only [hc, if_true, if_false] <;> omega)
        rw [hW, hro]
        unfold ST at hst
        rw [hst.2.2.2.2.1] at hj
        unfold VBn at hv
        unfold sRow
        split
        · dsimp only
          split
          · exact hki.2
          · exact hg _ (by split at hj <;> omega)
        · split
          · unfold va_up
            split
            · exact hki.2
            · exact hg _ (by split at hj <;> omega)
          · split
            · dsimp only
              exact hg _ (by split at hj <;> omega)
            · exact hg _ (by split at hj <;> omega)
      have hpl : plF rate s.2.1 t.2.2.2.2.1 t.2.2.2.2.2 (d + 1) i v g a b = plF rate s.2.1 t.2.2.2.2.1 t.2.2.2.2.2 d (i + 1) V W (a + if 0 < V 9 then 1 else 0) (max b (V 8)) := by
        show (if _ then _ else _) = _
        rw [if_pos hp, hV, hW]
      have hb8 : 0 ≤ V 8 ∧ V 8 ≤ 300 := by unfold VBn at hvb; omega
      have hb9 : 0 ≤ V 9 ∧ V 9 ≤ 300 := by unfold VBn at hvb; omega
      have hV3 : V 3 = v 3 + 1 := by unfold ST at hst; omega
      obtain ⟨v2, g2, ih⟩ := pl_loop h1 h2 h3 hs hm hkv hr q0 q4 q5 qn o hmost d fu (i + 1) (a + if 0 < V 9 then 1 else 0) (max b (V 8)) V W (by omega) (by omega) hvb hgW (by rw [hV3]; omega) (by split <;> omega) (by omega)
      refine ⟨v2, g2, ?_⟩
      rw [hpl, ← ih, hp, if_neg (show ¬ iI (b2i true) = 0 by decide), hgt, hck, mbind_ok hact, hck, mbind_ok hval, ev_gi, rn, gi_s2, Option.elim_some, hck3, mbind_ok hper3, hgt, ev_gi, th_tr h1 h2 h3, gi_v9, Option.elim_some, show iI (i : Int) + 1 = iI ((i + 1 : Nat) : Int) by rw [lz1, iI_add]; rfl]
      by_cases h9 : 0 < V 9
      · rw [if_neg (by rw [lz0, iI_le (by omega) (by omega) (by omega) (by omega)]; omega), if_pos h9, ev_gi, th_tp h1 h2 h3, tg0, Option.elim_some, lz1, iI_add, ev_put, th_tp h1 h2 h3, tp0, Option.elim_some, th_up h1 h2 h3, ev_gi, th_tp h1 h2 h3, tg1, Option.elim_some, hgt, ev_gi, th_tr h1 h2 h3, gi_v8, Option.elim_some, iI_max (by omega) (by omega) (by omega) (by omega), ev_put, th_tp h1 h2 h3, tp1, Option.elim_some, th_up h1 h2 h3]
      · rw [if_pos (by rw [lz0, iI_le (by omega) (by omega) (by omega) (by omega)]; omega), if_neg h9, Int.add_zero, ev_gi, th_tp h1 h2 h3, tg1, Option.elim_some, hgt, ev_gi, th_tr h1 h2 h3, gi_v8, Option.elim_some, iI_max (by omega) (by omega) (by omega) (by omega), ev_put, th_tp h1 h2 h3, tp1, Option.elim_some, th_up h1 h2 h3]
    · refine ⟨v, g, ?_⟩
      rw [show plF rate s.2.1 t.2.2.2.2.1 t.2.2.2.2.2 (d + 1) i v g a b = (a, b) by show (if _ then _ else _) = _; rw [if_neg hp]]
      rw [Bool.not_eq_true] at hp
      rw [hp, if_pos (show iI (b2i false) = 0 from rfl)]
      rfl
