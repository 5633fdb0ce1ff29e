/-! LAW: parts: sizes, debt, goal and cost of a version fit, and the steps to its places. -/
section Parts
variable {p : Nat} {w : WW}
theorem dfl_1 {s : SS} (hs : SI s) : (s.2.2.2 0).1 = dv := by
  have h := (hs.2.2.2 0 (by have := hs.2.2.1; omega)).2.2.1 rfl
  rw [h]
  rfl
theorem p310 (hw : WI w) {v : Nat} (hv : v < w.1.2.2.1) : ∀ (d fu j : Nat) (G : GH) (ow : Nat → Nat) (P : Nat), j + d = (sz (w.1.2.2.2 v)).toNat → d < fu → RepC G ow p w P → RT (f_L_parts_310 fu p (iI (v : Int)) (iI (sz (w.1.2.2.2 v))) (iI ((w.1.2.2.2 v).1 4)) (iI ((w.1.2.2.2 v).1 8)) (iI ((w.1.2.2.2 v).1 9)) (iI ((w.1.2.2.2 v).1 1)) (iI (j : Int))) G ow p w P (.inr 1) w 0
  | _, 0, _, _, _, _, _, hf, _ => absurd hf (by omega)
  | 0, fu + 1, j, G, ow, P, hj, hf, hR => by
    have bv := sz_b hw.1 hv
    have hn := hw.1.2.2.1
    rw [f_L_parts_310]
    rw [if_pos (i_le rfl rfl (by omega))]
    by_cases h0 : 0 < v
    · rw [if_pos (i_lt lz0 rfl (by omega))]
      exact t_true hR
    · have e : v = 0 := by omega
      subst e
      have e1 : sz (w.1.2.2.2 0) = 0 := by
        unfold sz
        rw [dfl_1 hw.1]
        rfl
      rw [if_neg (i_nlt lz0 rfl (by omega)), if_pos (i_eq rfl lz0 e1), if_pos (i_eq rfl lz0 (by rw [dfl_1 hw.1]; rfl)), if_pos (i_eq rfl lz0 (by rw [dfl_1 hw.1]; rfl)), if_pos (i_eq rfl lzm1 (by rw [dfl_1 hw.1]; rfl))]
      have t0 : ∀ G ow P, RepC G ow p w P → RT (f_X4_version p 0 0) G ow p w P (.inr (iI (-1))) w 0 := fun G ow P hR => by
        have t : RT (f_X4_version p 0 0) G ow p w P (.inr (iI ((w.1.2.2.2 0).1 0))) w 0 := q_ver (v := 0) (k := 0) hw hR rfl rfl hv (by omega)
        rw [dfl_1 hw.1] at t
        exact t
      refine t_q hR (t0 G ow P hR) (fun G ow P hR => ?_)
      rw [if_pos (i_eq rfl lzm1 rfl)]
      refine t_q hR (q_v9 (v := 0) hw hR rfl hv) (fun G ow P hR => ?_)
      rw [if_pos (i_eq rfl lz0 (by rw [dfl_1 hw.1]; rfl))]
      exact t_true hR
  | d + 1, fu + 1, j, G, ow, P, hj, hf, hR => by
    have bv := sz_b hw.1 hv
    have hb := (hw.1.2.2.2 v hv).1
    unfold VBn at hb
    rw [f_L_parts_310]
    rw [if_neg (i_nle rfl rfl (by omega))]
    refine t_q hR (q_steps hw hR rfl rfl hv (by omega)) (fun G ow P hR => ?_)
    by_cases hlt : (j : Int) < (w.1.2.2.2 v).1 4
    · rw [if_neg (i_nle rfl rfl (by omega)), if_pos hlt, if_pos (i_eq rfl (by rw [lz1, iI_add]) rfl), iI_s]
      exact p310 hw hv d fu (j + 1) G ow P (by omega) (by omega) hR
    · rw [if_pos (i_le rfl rfl (by omega)), if_neg hlt, if_pos (i_eq rfl (iI_sub _ _) rfl), iI_s]
      exact p310 hw hv d fu (j + 1) G ow P (by omega) (by omega) hR
theorem p307 (hw : WI w) {v : Nat} (hv : v < w.1.2.2.1) {G : GH} {ow : Nat → Nat} {P : Nat} (hR : RepC G ow p w P) : RT (f_L_parts_307 p (iI (v : Int)) (iI (sz (w.1.2.2.2 v))) (iI ((w.1.2.2.2 v).1 4)) (iI ((w.1.2.2.2 v).1 8)) (iI ((w.1.2.2.2 v).1 9)) (iI ((w.1.2.2.2 v).1 1))) G ow p w P (.inr 1) w 0 := by
  have bv := sz_b hw.1 hv
  unfold f_L_parts_307
  exact p310 hw hv (sz (w.1.2.2.2 v)).toNat FU 0 G ow P (by omega) (by unfold FU; omega) hR
theorem p300 (hw : WI w) {v : Nat} (hv : v < w.1.2.2.1) {G : GH} {ow : Nat → Nat} {P : Nat} (hR : RepC G ow p w P) {z : Int} (hz : (-2147483648 ≤ z ∧ z < 2147483648) ∧ z ≠ 0) : RT (f_L_parts_300 p (iI (v : Int)) (iI (sz (w.1.2.2.2 v))) (iI ((w.1.2.2.2 v).1 4)) (iI ((w.1.2.2.2 v).1 8)) (iI ((w.1.2.2.2 v).1 9)) (iI ((w.1.2.2.2 v).1 1)) (iI z)) G ow p w P (.inr 1) w 0 := by
  unfold f_L_parts_300
  rw [if_neg (i_ne rfl lz0 (by omega))]
  exact p307 hw hv hR
theorem p273 (hw : WI w) {v : Nat} (hv : v < w.1.2.2.1) {G : GH} {ow : Nat → Nat} {P : Nat} (hR : RepC G ow p w P) {paid owed : Int} (hp : 0 ≤ paid ∧ paid ≤ 9) (ho : 0 ≤ owed ∧ owed ≤ 40) (h1 : 0 < owed → 1 ≤ paid ∧ (0 < (w.1.2.2.2 v).1 6 → paid < owed → (w.1.2.2.2 v).1 6 = owed - paid)) : RT (f_L_parts_273 p (iI (v : Int)) (iI (sz (w.1.2.2.2 v))) (iI ((w.1.2.2.2 v).1 4)) (iI ((w.1.2.2.2 v).1 6)) (iI ((w.1.2.2.2 v).1 8)) (iI ((w.1.2.2.2 v).1 9)) (iI ((w.1.2.2.2 v).1 1)) (iI paid) (iI owed)) G ow p w P (.inr 1) w 0 := by
  have hb := (hw.1.2.2.2 v hv).1
  unfold VBn at hb
  unfold f_L_parts_273
  by_cases e1 : owed ≤ 0
  · rw [if_pos (i_le rfl lz0 (by omega))]
    exact p307 hw hv hR
  · have h2 := h1 (by omega)
    rw [if_neg (i_nle rfl lz0 (by omega))]
    by_cases e2 : (w.1.2.2.2 v).1 6 ≤ 0
    · rw [if_pos (i_le rfl lz0 (by omega))]
      exact p300 hw hv hR (by omega)
    · rw [if_neg (i_nle rfl lz0 (by omega))]
      by_cases e3 : owed ≤ paid
      · rw [if_pos (i_le rfl rfl (by omega))]
        exact p300 hw hv hR (by omega)
      · rw [if_neg (i_nle rfl rfl (by omega)), if_pos (i_eq rfl (iI_sub _ _) (h2.2 (by omega) (by omega)))]
        exact p300 hw hv hR (by omega)
theorem mrem_ok {a b : Int} (h1 : 0 ≤ a) (h2 : a < 2147483648) (h3 : 0 < b) (h4 : b < 2147483648) (G : GH) : (mrem (iI a) (iI b)).1 G = some (iI (a % b), G) := by
  show Option.map _ (if iI b = 0 then none else some (iI a - iI a / iI b * iI b)) = _
  rw [if_neg (i_ne rfl lz0 (by omega)), iI_div h1 h2 h3 h4, iI_mul, iI_sub, Int.emod_def, Int.mul_comm b]
  rfl
theorem p233 (hw : WI w) {v u : Nat} (hv : v < w.1.2.2.1) (hu : u < w.1.2.2.1) {G : GH} {ow : Nat → Nat} {P : Nat} (hR : RepC G ow p w P) {paid owed en : Int} {q : Int32} (hp : 0 ≤ paid ∧ paid ≤ 9) (ho : 0 ≤ owed ∧ owed ≤ 40) (hpo : paid ≤ owed) (h1 : 0 < owed → 1 ≤ paid ∧ (0 < (w.1.2.2.2 v).1 6 → paid < owed → (w.1.2.2.2 v).1 6 = owed - paid))
    (hq : ∀ G ow P, RepC G ow p w P → RT (f_X4_version p (iI (u : Int)) q) G ow p w P (.inr (iI en)) w 0) (hen : 0 ≤ en ∧ en ≤ 40) (hx : 0 < (w.1.2.2.2 v).1 9 → 2 ≤ (w.1.2.2.2 v).1 1 ∧ en = 0) : RT (f_L_parts_233 p (iI (v : Int)) (iI (sz (w.1.2.2.2 v))) (iI ((w.1.2.2.2 v).1 4)) (iI ((w.1.2.2.2 v).1 6)) (iI ((w.1.2.2.2 v).1 8)) (iI ((w.1.2.2.2 v).1 9)) (iI ((w.1.2.2.2 v).1 1)) (iI paid) (iI owed) q (iI (u : Int)) p) G ow p w P (.inr 1) w 0 := by
  have hb := (hw.1.2.2.2 v hv).1
  unfold VBn at hb
  unfold f_L_parts_233
  refine t_q hR (hq G ow P hR) (fun G ow P hR => ?_)
  rw [if_neg (i_nlt rfl lz0 (by omega)), if_neg (i_nlt lz9 rfl (by omega)), if_neg (i_nlt rfl rfl (by omega))]
  by_cases e : (w.1.2.2.2 v).1 9 ≤ 0
  · rw [if_pos (i_le rfl lz0 (by omega))]
    exact p273 hw hv hR hp ho h1
  · have h2 := hx (by omega)
    rw [if_neg (i_nle rfl lz0 (by omega)), if_neg (i_nlt rfl lz2 (by omega)), if_neg (i_nlt lz0 rfl (by omega))]
    exact p273 hw hv hR hp ho h1
theorem p163 (hw : WI w) (hj : SJ w.1) {v : Nat} (hv : v < w.1.2.2.1) {G : GH} {ow : Nat → Nat} {P : Nat} (hR : RepC G ow p w P) : RT (f_L_parts_163 p (iI (v : Int)) (iI (sz (w.1.2.2.2 v))) (iI ((w.1.2.2.2 v).1 4)) (iI ((w.1.2.2.2 v).1 6)) (iI ((w.1.2.2.2 v).1 8)) (iI ((w.1.2.2.2 v).1 9))) G ow p w P (.inr 1) w 0 := by
  have hb := (hw.1.2.2.2 v hv).1
  unfold VBn at hb
  have hn := hw.1.2.2.1
  unfold f_L_parts_163
  rw [if_pos (i_le lz0 rfl (by omega))]
  refine t_q hR (q_v8 hw hR rfl hv) (fun G ow P hR => ?_)
  by_cases h0 : 0 < v
  · rw [if_neg (i_nle rfl lz0 (by omega))]
    obtain ⟨d1, d2, d3, d4, -, -⟩ := par_dep hw.1 hv h0
    have hpc := (hj v hv).2 h0
    refine t_q hR (q_par hw hR rfl hv h0) (fun G ow P hR => ?_)
    have hu : par w.1 v < w.1.2.2.1 := by omega
    generalize par w.1 v = u at *
    have hbu := (hw.1.2.2.2 u hu).1
    unfold VBn at hbu
    obtain ⟨c1, c2, -, -, c5⟩ := hpc
    rw [iI_sub, lz1, iI_sub]
    have key : ∀ owed : Int, (0 ≤ owed ∧ owed ≤ 40) → (w.1.2.2.2 v).1 8 - (w.1.2.2.2 v).1 9 - 1 ≤ owed → (0 < owed → 1 ≤ (w.1.2.2.2 v).1 8 - (w.1.2.2.2 v).1 9 - 1 ∧ (0 < (w.1.2.2.2 v).1 6 → (w.1.2.2.2 v).1 8 - (w.1.2.2.2 v).1 9 - 1 < owed → (w.1.2.2.2 v).1 6 = owed - ((w.1.2.2.2 v).1 8 - (w.1.2.2.2 v).1 9 - 1))) → ∀ G ow P, RepC G ow p w P → RT (f_L_parts_216 p (iI (v : Int)) (iI (sz (w.1.2.2.2 v))) (iI ((w.1.2.2.2 v).1 4)) (iI ((w.1.2.2.2 v).1 6)) (iI ((w.1.2.2.2 v).1 8)) (iI ((w.1.2.2.2 v).1 9)) (iI ((w.1.2.2.2 v).1 1)) (iI (u : Int)) (iI ((w.1.2.2.2 v).1 8 - (w.1.2.2.2 v).1 9 - 1)) (iI owed)) G ow p w P (.inr 1) w 0 := by
      intro owed ho hpo h1 G ow P hR
      unfold f_L_parts_216
      have hpaid : 0 ≤ (w.1.2.2.2 v).1 8 - (w.1.2.2.2 v).1 9 - 1 ∧ (w.1.2.2.2 v).1 8 - (w.1.2.2.2 v).1 9 - 1 ≤ 9 := by
        by_cases e : 0 < (w.1.2.2.2 v).1 9
        · have := c1 e
          omega
        · have := c2 (by omega)
          omega
      refine t_val hR (by rw [lz2]; exact mrem_ok (by omega) (by omega) (by decide) (by decide) _) ?_
      by_cases em : (w.1.2.2.2 v).1 1 % 2 = 0
      · rw [if_pos (i_eq rfl lz0 em)]
        exact p233 hw hv hu hR hpaid ho hpo h1 (fun G ow P hR => q_v2 hw hR rfl hu) (by omega) (fun hh => by
          have := c1 hh
          exact ⟨by omega, this.2.2.1 (by omega)⟩)
      · rw [if_neg (i_ne rfl lz0 (by omega))]
        exact p233 hw hv hu hR hpaid ho hpo h1 (fun G ow P hR => q_v3 hw hR rfl hu) (by omega) (fun hh => by
          have := c1 hh
          exact ⟨by omega, this.2.2.2 (by omega)⟩)
    by_cases e : (w.1.2.2.2 v).1 9 ≤ 0
    · have h2 := c2 (by omega)
      rw [if_pos (i_le rfl lz0 (by omega))]
      refine t_q hR (q_v4 hw hR rfl hu) (fun G ow P hR => ?_)
      exact key _ (by omega) (by omega) (fun hh => by
        have h3 := h2.2.2.2 hh
        exact ⟨by omega, fun a b => by have := h3.2 a (by omega); omega⟩) G ow P hR
    · have h2 := c1 (by omega)
      rw [if_neg (i_nle rfl lz0 (by omega))]
      exact key 0 (by omega) (by omega) (fun hh => absurd hh (by omega)) G ow P hR
  · rw [if_pos (i_le rfl lz0 (by omega))]
    exact p307 hw hv hR
theorem p127 (hw : WI w) (hj : SJ w.1) {v : Nat} (hv : v < w.1.2.2.1) {G : GH} {ow : Nat → Nat} {P : Nat} (hR : RepC G ow p w P) {f : Int32} {gr le : Int} (hg : gr = max ((w.1.2.2.2 v).1 4) ((w.1.2.2.2 v).1 5)) (hl : le = min ((w.1.2.2.2 v).1 4) ((w.1.2.2.2 v).1 5)) : RT (f_L_parts_127 p (iI (v : Int)) (iI (sz (w.1.2.2.2 v))) (iI ((w.1.2.2.2 v).1 4)) (iI ((w.1.2.2.2 v).1 6)) (iI ((w.1.2.2.2 v).1 7)) (iI ((w.1.2.2.2 v).1 8)) (iI ((w.1.2.2.2 v).1 9)) (iI gr) (iI le) f f) G ow p w P (.inr 1) w 0 := by
  have hb := (hw.1.2.2.2 v hv).1
  unfold VBn at hb
  have hrb := (hj v hv).1
  have bv := sz_b hw.1 hv
  have hsz : sz (w.1.2.2.2 v) = (w.1.2.2.2 v).1 4 + (w.1.2.2.2 v).1 5 := rfl
  unfold f_L_parts_127
  rw [if_pos rfl, if_neg (i_nlt rfl lz0 (by omega)), if_neg (i_nlt rfl lzm1 (by omega)), if_neg (i_nlt rfl rfl (by omega))]
  by_cases e : 0 ≤ (w.1.2.2.2 v).1 7
  · rw [if_pos (i_le lz0 rfl (by omega))]
    exact p163 hw hj hv hR
  · have h2 := hrb (by omega)
    rw [if_neg (i_nle lz0 rfl (by omega)), if_neg (i_nlt (by rw [lz5, iI_mul, lz1, iI_add]) rfl (by omega))]
    exact p163 hw hj hv hR
theorem p82 (hw : WI w) (hj : SJ w.1) {v : Nat} (hv : v < w.1.2.2.1) {G : GH} {ow : Nat → Nat} {P : Nat} (hR : RepC G ow p w P) {gr le : Int} (hg : gr = max ((w.1.2.2.2 v).1 4) ((w.1.2.2.2 v).1 5)) (hl : le = min ((w.1.2.2.2 v).1 4) ((w.1.2.2.2 v).1 5)) : RT (f_L_parts_82 p (iI (v : Int)) (iI (sz (w.1.2.2.2 v))) (iI ((w.1.2.2.2 v).1 4)) (iI ((w.1.2.2.2 v).1 5)) (iI ((w.1.2.2.2 v).1 6)) (iI ((w.1.2.2.2 v).1 7)) (iI ((w.1.2.2.2 v).1 8)) (iI ((w.1.2.2.2 v).1 9)) (iI gr) (iI le)) G ow p w P (.inr 1) w 0 := by
  have hb := (hw.1.2.2.2 v hv).1
  unfold VBn at hb
  have bv := sz_b hw.1 hv
  have hsz : sz (w.1.2.2.2 v) = (w.1.2.2.2 v).1 4 + (w.1.2.2.2 v).1 5 := rfl
  unfold f_L_parts_82
  rw [if_neg (i_nlt rfl lz0 (by omega)), if_neg (i_nlt rfl lz0 (by omega)), if_pos (i_eq (iI_add _ _) rfl hsz.symm), if_neg (i_nlt lz40 rfl (by omega))]
  unfold f_L_parts_117
  by_cases e : (w.1.2.2.2 v).1 6 ≤ 0
  · rw [if_pos (i_le rfl lz0 (by omega)), if_pos (i_lt rfl lz0 (by omega))]
    exact p127 hw hj hv hR hg hl
  · rw [if_neg (i_nle rfl lz0 (by omega)), if_neg (i_nlt rfl lz0 (by omega))]
    exact p127 hw hj hv hR hg hl
theorem l_parts (hw : WI w) (hj : SJ w.1) {v : Nat} (hv : v < w.1.2.2.1) {G : GH} {ow : Nat → Nat} {P : Nat} (hR : RepC G ow p w P) : RT (f_L_parts p (iI (v : Int))) G ow p w P (.inr 1) w 0 := by
  have hb := (hw.1.2.2.2 v hv).1
  unfold VBn at hb
  unfold f_L_parts
  refine t_q hR (q_v1 hw hR rfl hv) (fun G ow P hR => ?_)
  refine t_q hR (q_v2 hw hR rfl hv) (fun G ow P hR => ?_)
  refine t_q hR (q_v3 hw hR rfl hv) (fun G ow P hR => ?_)
  refine t_q hR (q_v4 hw hR rfl hv) (fun G ow P hR => ?_)
  refine t_q hR (q_v5 hw hR rfl hv) (fun G ow P hR => ?_)
  refine t_q hR (q_v6 hw hR rfl hv) (fun G ow P hR => ?_)
  refine t_q hR (q_v7 hw hR rfl hv) (fun G ow P hR => ?_)
  unfold f_L_parts_68
  by_cases e : (w.1.2.2.2 v).1 4 ≤ (w.1.2.2.2 v).1 5
  · rw [if_pos (i_le rfl rfl (by omega)), if_pos (i_le rfl rfl (by omega))]
    exact p82 hw hj hv hR (by omega) (by omega)
  · rw [if_neg (i_nle rfl rfl (by omega)), if_neg (i_nle rfl rfl (by omega))]
    exact p82 hw hj hv hR (by omega) (by omega)
end Parts
