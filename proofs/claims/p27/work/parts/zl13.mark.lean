/-! LAW: mark: all that is told of versions, as one number. -/
def mkF (s : SS) : Int64 := dgV s s.2.2.1 0 (31 * (iI s.1).toInt64 + (iI s.2.1).toInt64)
section Mark
variable {p : Nat} {w : WW} {y : String ⊕ Int64} {w2 : WW}
theorem mk63 (hw : WI w) {i : Nat} (hi : i < w.1.2.2.1) {k20 : Nat → Int64 → Int32 → MX Int64} {k32 : Nat → Int64 → Int32 → Int32 → MX Int64} : ∀ (d fu j : Nat) (h : Int64) (G : GH) (ow : Nat → Nat) (P : Nat), j + d = (sz (w.1.2.2.2 i)).toNat → d < fu → RepC G ow p w P → (∀ G ow P, RepC G ow p w P → RT (k20 p (dgR (w.1.2.2.2 i).2 d j h) (iI ((i + 1 : Nat) : Int))) G ow p w P y w2 0) → RT (f_L_mark_63 k20 k32 fu p h (iI (i : Int)) (iI (j : Int))) G ow p w P y w2 0
  | _, 0, _, _, _, _, _, _, hf, _, _ => absurd hf (by omega)
  | 0, fu + 1, j, h, G, ow, P, hj, hf, hR, hk => by
    have hb := (hw.1.2.2.2 i hi).1
    unfold VBn at hb
    unfold sz at hj
    rw [f_L_mark_63]
    refine t_q hR (q_ver hw hR rfl lz1 hi (by omega)) (fun G ow P hR => ?_)
    rw [if_pos (i_le rfl rfl (by show _ ∧ _ ∧ (w.1.2.2.2 i).1 4 + (w.1.2.2.2 i).1 5 ≤ (j : Int); show (-2147483648 ≤ (w.1.2.2.2 i).1 4 + (w.1.2.2.2 i).1 5 ∧ (w.1.2.2.2 i).1 4 + (w.1.2.2.2 i).1 5 < 2147483648) ∧ _ ∧ _; omega)), iI_s]
    exact hk G ow P hR
  | d + 1, fu + 1, j, h, G, ow, P, hj, hf, hR, hk => by
    have hb := (hw.1.2.2.2 i hi).1
    unfold VBn at hb
    have hj2 := hj
    unfold sz at hj
    rw [f_L_mark_63]
    refine t_q hR (q_ver hw hR rfl lz1 hi (by omega)) (fun G ow P hR => ?_)
    rw [if_neg (i_nle rfl rfl (by show (-2147483648 ≤ (w.1.2.2.2 i).1 4 + (w.1.2.2.2 i).1 5 ∧ (w.1.2.2.2 i).1 4 + (w.1.2.2.2 i).1 5 < 2147483648) ∧ _ ∧ (j : Int) < (w.1.2.2.2 i).1 4 + (w.1.2.2.2 i).1 5; omega))]
    refine t_q hR (q_at hw hR rfl rfl hi (by unfold sz; omega)) (fun G ow P hR => ?_)
    rw [iI_s]
    exact mk63 hw hi d fu (j + 1) _ G ow P (by omega) (by omega) hR hk
theorem mk32 (hw : WI w) {i : Nat} (hi : i < w.1.2.2.1) {k20 : Nat → Int64 → Int32 → MX Int64} : ∀ (d fu k : Nat) (h : Int64) (G : GH) (ow : Nat → Nat) (P : Nat), k + d = 10 → d < fu → RepC G ow p w P → (∀ G ow P, RepC G ow p w P → RT (k20 p (dgR (w.1.2.2.2 i).2 (sz (w.1.2.2.2 i)).toNat 0 (dgF (w.1.2.2.2 i).1 d k h)) (iI ((i + 1 : Nat) : Int))) G ow p w P y w2 0) → RT (f_L_mark_32 k20 fu p h (iI (i : Int)) (iI (k : Int))) G ow p w P y w2 0
  | _, 0, _, _, _, _, _, _, hf, _, _ => absurd hf (by omega)
  | 0, fu + 1, k, h, G, ow, P, hj, hf, hR, hk => by
    have hb := (hw.1.2.2.2 i hi).1
    unfold VBn at hb
    rw [f_L_mark_32]
    rw [if_pos (i_le lz10 rfl (by omega))]
    exact mk63 hw hi (sz (w.1.2.2.2 i)).toNat FU 0 h G ow P (by omega) (by unfold FU sz; omega) hR hk
  | d + 1, fu + 1, k, h, G, ow, P, hj, hf, hR, hk => by
    rw [f_L_mark_32]
    rw [if_neg (i_nle lz10 rfl (by omega))]
    refine t_q hR (q_ver hw hR rfl rfl hi (by omega)) (fun G ow P hR => ?_)
    rw [iI_s]
    exact mk32 hw hi d fu (k + 1) _ G ow P (by omega) (by omega) hR hk
theorem mk20 (hw : WI w) : ∀ (d fu i : Nat) (h : Int64) (G : GH) (ow : Nat → Nat) (P : Nat), i + d = w.1.2.2.1 → d < fu → RepC G ow p w P → RT (f_L_mark_20 fu p h (iI (i : Int))) G ow p w P (.inr (dgV w.1 d i h)) w 0
  | _, 0, _, _, _, _, _, _, hf, _ => absurd hf (by omega)
  | 0, fu + 1, i, h, G, ow, P, hj, hf, hR => by
    have hn := hw.1.2.2.1
    rw [f_L_mark_20]
    refine t_q hR (q_count hw hR (k := 0) rfl (by omega)) (fun G ow P hR => ?_)
    rw [if_pos (i_le rfl rfl (by show (-2147483648 ≤ (w.1.2.2.1 : Int) ∧ (w.1.2.2.1 : Int) < 2147483648) ∧ _ ∧ (w.1.2.2.1 : Int) ≤ i; omega))]
    exact t_pure hR
  | d + 1, fu + 1, i, h, G, ow, P, hj, hf, hR => by
    have hn := hw.1.2.2.1
    rw [f_L_mark_20]
    refine t_q hR (q_count hw hR (k := 0) rfl (by omega)) (fun G ow P hR => ?_)
    rw [if_neg (i_nle rfl rfl (by show (-2147483648 ≤ (w.1.2.2.1 : Int) ∧ (w.1.2.2.1 : Int) < 2147483648) ∧ _ ∧ (i : Int) < (w.1.2.2.1 : Int); omega))]
    refine mk32 hw (by omega) 10 FU 0 h G ow P (by omega) (by unfold FU; omega) hR (fun G ow P hR => ?_)
    exact mk20 hw d fu (i + 1) _ G ow P (by omega) (by omega) hR
theorem l_mark {G : GH} {ow : Nat → Nat} {P : Nat} (hw : WI w) (hR : RepC G ow p w P) : RT (f_L_mark p) G ow p w P (.inr (mkF w.1)) w 0 := by
  have hn := hw.1.2.2.1
  unfold f_L_mark
  refine t_q hR (q_set0 hw hR) (fun G ow P hR => ?_)
  refine t_q hR (q_set1 hw hR) (fun G ow P hR => ?_)
  exact mk20 hw w.1.2.2.1 FU 0 _ G ow P (by omega) (by unfold FU; omega) hR
end Mark
