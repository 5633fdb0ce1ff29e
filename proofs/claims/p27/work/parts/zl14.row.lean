/-! LAW: row: a version beside its parent, value by value. -/
theorem iI_p {a : Int} {j : Nat} (h : a - 1 = j) : iI a - 1 = iI (j : Int) := by rw [lz1, iI_sub, h]
section Row
variable {G : GH} {ow : Nat → Nat} {p : Nat} {w : WW} {P : Nat}
theorem q_v1 (hw : WI w) (h : RepC G ow p w P) {a : Int32} {v : Nat} (ha : a = iI v) (hv : v < w.1.2.2.1) : RT (f_X4_version p a 1) G ow p w P (.inr (iI (sz (w.1.2.2.2 v)))) w 0 := q_ver (k := 1) hw h ha rfl hv (by omega)
theorem q_v2 (hw : WI w) (h : RepC G ow p w P) {a : Int32} {v : Nat} (ha : a = iI v) (hv : v < w.1.2.2.1) : RT (f_X4_version p a 2) G ow p w P (.inr (iI ((w.1.2.2.2 v).1 4))) w 0 := q_ver (k := 2) hw h ha rfl hv (by omega)
theorem q_v3 (hw : WI w) (h : RepC G ow p w P) {a : Int32} {v : Nat} (ha : a = iI v) (hv : v < w.1.2.2.1) : RT (f_X4_version p a 3) G ow p w P (.inr (iI ((w.1.2.2.2 v).1 5))) w 0 := q_ver (k := 3) hw h ha rfl hv (by omega)
theorem q_v4 (hw : WI w) (h : RepC G ow p w P) {a : Int32} {v : Nat} (ha : a = iI v) (hv : v < w.1.2.2.1) : RT (f_X4_version p a 4) G ow p w P (.inr (iI ((w.1.2.2.2 v).1 6))) w 0 := q_ver (k := 4) hw h ha rfl hv (by omega)
theorem q_v5 (hw : WI w) (h : RepC G ow p w P) {a : Int32} {v : Nat} (ha : a = iI v) (hv : v < w.1.2.2.1) : RT (f_X4_version p a 5) G ow p w P (.inr (iI ((w.1.2.2.2 v).1 7))) w 0 := q_ver (k := 5) hw h ha rfl hv (by omega)
theorem q_v6 (hw : WI w) (h : RepC G ow p w P) {a : Int32} {v : Nat} (ha : a = iI v) (hv : v < w.1.2.2.1) : RT (f_X4_version p a 6) G ow p w P (.inr (iI ((w.1.2.2.2 v).1 8))) w 0 := q_ver (k := 6) hw h ha rfl hv (by omega)
theorem q_v7 (hw : WI w) (h : RepC G ow p w P) {a : Int32} {v : Nat} (ha : a = iI v) (hv : v < w.1.2.2.1) : RT (f_X4_version p a 7) G ow p w P (.inr (iI ((w.1.2.2.2 v).1 9))) w 0 := q_ver (k := 7) hw h ha rfl hv (by omega)
theorem q_v8 (hw : WI w) (h : RepC G ow p w P) {a : Int32} {v : Nat} (ha : a = iI v) (hv : v < w.1.2.2.1) : RT (f_X4_version p a 8) G ow p w P (.inr (iI ((w.1.2.2.2 v).1 1))) w 0 := q_ver (k := 8) hw h ha rfl hv (by omega)
theorem q_v9 (hw : WI w) (h : RepC G ow p w P) {a : Int32} {v : Nat} (ha : a = iI v) (hv : v < w.1.2.2.1) : RT (f_X4_version p a 9) G ow p w P (.inr (iI ((w.1.2.2.2 v).1 3))) w 0 := q_ver (k := 9) hw h ha rfl hv (by omega)
theorem q_par (hw : WI w) (h : RepC G ow p w P) {a : Int32} {v : Nat} (ha : a = iI v) (hv : v < w.1.2.2.1) (h0 : 0 < v) : RT (f_X4_version p a 0) G ow p w P (.inr (iI (par w.1 v : Nat))) w 0 := by
  have t : RT (f_X4_version p a 0) G ow p w P (.inr (iI ((w.1.2.2.2 v).1 0))) w 0 := q_ver (k := 0) hw h ha rfl hv (by omega)
  rw [(par_dep hw.1 hv h0).1] at t
  exact t
theorem sz_b {s : SS} (hs : SI s) {v : Nat} (hv : v < s.2.2.1) : 0 ≤ sz (s.2.2.2 v) ∧ sz (s.2.2.2 v) ≤ 40 := by
  have hb := (hs.2.2.2 v hv).1
  unfold VBn at hb
  unfold sz
  omega
/-- the values of a version's row beside those of its parent -/
theorem row_facts {s : SS} (hs : SI s) (hj : SJ s) {v : Nat} (hv : v < s.2.2.1) (h0 : 0 < v) :
    ((s.2.2.2 v).1 1 = 0 → (s.2.2.2 v).2 0 = (s.2.2.2 v).1 2 ∧ ∀ j, (s.2.2.2 v).2 (j + 1) = (s.2.2.2 (par s v)).2 j) ∧
    ((s.2.2.2 v).1 1 = 1 → (s.2.2.2 v).2 (sz (s.2.2.2 (par s v))).toNat = (s.2.2.2 v).1 2 ∧ ∀ j : Nat, (j : Int) < sz (s.2.2.2 (par s v)) → (s.2.2.2 v).2 j = (s.2.2.2 (par s v)).2 j) ∧
    ((s.2.2.2 v).1 1 = 2 → (s.2.2.2 (par s v)).2 0 = (s.2.2.2 v).1 2 ∧ ∀ j, (s.2.2.2 v).2 j = (s.2.2.2 (par s v)).2 (j + 1)) ∧
    ((s.2.2.2 v).1 1 = 3 → (s.2.2.2 (par s v)).2 (sz (s.2.2.2 (par s v)) - 1).toNat = (s.2.2.2 v).1 2 ∧ ∀ j, (s.2.2.2 v).2 j = (s.2.2.2 (par s v)).2 j) := by
  obtain ⟨d1, d2, d3, d4, d5, d6⟩ := par_dep hs hv h0
  have hp := (hj v hv).2 h0
  obtain ⟨-, -, p2, p3, -⟩ := hp
  have hb := sz_b hs (show par s v < s.2.2.1 by omega)
  refine ⟨fun e => ?_, fun e => ?_, fun e => ?_, fun e => ?_⟩
  · rw [d5, e]
    exact ⟨rfl, fun j => rfl⟩
  · rw [d5, e]
    refine ⟨up_self _ _ _, fun j hjj => ?_⟩
    exact up_ne _ _ (by omega)
  · rw [← p2 e, d5, e]
    exact ⟨rfl, fun j => rfl⟩
  · rw [d5, e]
    refine ⟨?_, fun j => rfl⟩
    rw [p3 e]
    rfl
theorem row188 (hw : WI w) {u v n : Nat} (hu : u < w.1.2.2.1) (hv : v < w.1.2.2.1) {K : Int} (hK : 0 ≤ K ∧ K ≤ 3) (hn : n ≤ 40)
    (H : ∀ j, j < n → (((if K = 0 then j + 1 else j : Nat) : Int) < sz (w.1.2.2.2 v)) ∧ (((if K = 2 then j + 1 else j : Nat) : Int) < sz (w.1.2.2.2 u)) ∧ (w.1.2.2.2 v).2 (if K = 0 then j + 1 else j) = (w.1.2.2.2 u).2 (if K = 2 then j + 1 else j)) : ∀ (d fu j : Nat) (G : GH) (ow : Nat → Nat) (P : Nat), j + d = n → d < fu → RepC G ow p w P → RT (f_L_row_188 fu p (iI (v : Int)) (iI (u : Int)) (iI K) (iI (n : Int)) (iI (j : Int))) G ow p w P (.inr 1) w 0
  | _, 0, _, _, _, _, _, hf, _ => absurd hf (by omega)
  | 0, fu + 1, j, G, ow, P, hj, hf, hR => by
    rw [f_L_row_188]
    rw [if_pos (i_le rfl rfl (by omega))]
    exact t_true hR
  | d + 1, fu + 1, j, G, ow, P, hj, hf, hR => by
    rw [f_L_row_188]
    rw [if_neg (i_nle rfl rfl (by omega)), iI_s]
    obtain ⟨h1, h2, h3⟩ := H j (by omega)
    have go : ∀ (j1 : Nat), j1 = (if K = 0 then j + 1 else j) → RT (f_L_row_210 (fun y0 y1 y2 y3 y4 y5 => f_L_row_188 fu y0 y1 y2 y3 y4 y5) p (iI (v : Int)) (iI (u : Int)) (iI K) (iI (n : Int)) (iI (j : Int)) (iI (j1 : Int)) (iI (v : Int)) p) G ow p w P (.inr 1) w 0 := by
      intro j1 e1
      unfold f_L_row_210
      refine t_q hR (q_at hw hR rfl rfl hv (by rw [e1]; exact h1)) (fun G ow P hR => ?_)
      rw [iI_s]
      by_cases e2 : K = 2
      · rw [if_pos (i_eq rfl lz2 e2)]
        rw [if_pos e2] at h2 h3
        refine t_q hR (q_at hw hR rfl rfl hu h2) (fun G ow P hR => ?_)
        rw [if_pos (i_eq rfl rfl (by rw [e1]; exact h3))]
        exact row188 hw hu hv hK hn H d fu (j + 1) G ow P (by omega) (by omega) hR
      · rw [if_neg (i_ne rfl lz2 (by omega))]
        rw [if_neg e2] at h2 h3
        refine t_q hR (q_at hw hR rfl rfl hu h2) (fun G ow P hR => ?_)
        rw [if_pos (i_eq rfl rfl (by rw [e1]; exact h3))]
        exact row188 hw hu hv hK hn H d fu (j + 1) G ow P (by omega) (by omega) hR
    by_cases e0 : K = 0
    · rw [if_pos (i_eq rfl lz0 e0)]
      exact go (j + 1) (by rw [if_pos e0])
    · rw [if_neg (i_ne rfl lz0 (by omega))]
      exact go j (by rw [if_neg e0])
theorem l_row (hw : WI w) (hj : SJ w.1) (hR : RepC G ow p w P) {v : Nat} (hv : v < w.1.2.2.1) (h0 : 0 < v) : RT (f_L_row p (iI (v : Int))) G ow p w P (.inr 1) w 0 := by
  obtain ⟨d1, d2, d3, d4, d5, d6⟩ := par_dep hw.1 hv h0
  obtain ⟨r0, r1, r2, r3⟩ := row_facts hw.1 hj hv h0
  have hn := hw.1.2.2.1
  have hu : par w.1 v < w.1.2.2.1 := by omega
  have bu := sz_b hw.1 hu
  have bv := sz_b hw.1 hv
  have dv := dep_b hw.1 hv
  have du := dep_b hw.1 hu
  generalize hpu : par w.1 v = u at *
  unfold f_L_row
  refine t_q hR (q_par hw hR rfl hv h0) (fun G ow P hR => ?_)
  rw [hpu]
  refine t_q hR (q_v8 hw hR rfl hv) (fun G ow P hR => ?_)
  refine t_q hR (q_v1 hw hR rfl hv) (fun G ow P hR => ?_)
  refine t_q hR (q_v1 hw hR rfl hu) (fun G ow P hR => ?_)
  rw [if_neg (i_nlt rfl lz0 (by omega)), if_neg (i_nle rfl rfl (by omega)), if_neg (i_nlt rfl lz0 (by omega)), if_neg (i_nlt lz3 rfl (by omega))]
  have key : ∀ z, z = sz (w.1.2.2.2 v) → RT (f_L_row_67 p (iI (v : Int)) (iI (u : Int)) (iI ((w.1.2.2.2 v).1 1)) (iI (sz (w.1.2.2.2 v))) (iI (sz (w.1.2.2.2 u))) (iI z) (iI (sz (w.1.2.2.2 v)))) G ow p w P (.inr 1) w 0 := by
    intro z hz
    unfold f_L_row_67
    rw [if_pos (i_eq rfl rfl hz.symm)]
    refine t_q hR (q_v9 hw hR rfl hv) (fun G ow P hR => ?_)
    refine t_q hR (q_v9 hw hR rfl hu) (fun G ow P hR => ?_)
    rw [if_pos (i_eq rfl (by rw [lz1, iI_add]) d3)]
    refine t_q hR (q_value hw hR rfl hv h0) (fun G ow P hR => ?_)
    have k169 : ∀ G ow P, RepC G ow p w P → RT (f_L_row_169 p (iI (v : Int)) (iI (u : Int)) (iI ((w.1.2.2.2 v).1 1)) (iI (sz (w.1.2.2.2 v))) (iI (sz (w.1.2.2.2 u)))) G ow p w P (.inr 1) w 0 := by
      intro G ow P hR
      unfold f_L_row_169 f_L_row_183
      have loop : ∀ n : Nat, (n : Int) = min (sz (w.1.2.2.2 v)) (sz (w.1.2.2.2 u)) → RT (f_L_row_188 FU p (iI (v : Int)) (iI (u : Int)) (iI ((w.1.2.2.2 v).1 1)) (iI (n : Int)) 0) G ow p w P (.inr 1) w 0 := by
        intro n hn2
        refine row188 hw hu hv d4 (by omega) (fun j hjn => ?_) n FU 0 G ow P (by omega) (by unfold FU; omega) hR
        have hk : (w.1.2.2.2 v).1 1 = 0 ∨ (w.1.2.2.2 v).1 1 = 1 ∨ (w.1.2.2.2 v).1 1 = 2 ∨ (w.1.2.2.2 v).1 1 = 3 := by omega
        rcases hk with e | e | e | e
        · rw [e] at d6
          rw [e, if_pos rfl, if_neg (by decide)]
          rw [if_pos (by decide)] at d6
          exact ⟨by omega, by omega, (r0 e).2 j⟩
        · rw [e] at d6
          rw [e, if_neg (by decide), if_neg (by decide)]
          rw [if_pos (by decide)] at d6
          exact ⟨by omega, by omega, (r1 e).2 j (by omega)⟩
        · rw [e] at d6
          rw [e, if_neg (by decide), if_pos rfl]
          rw [if_neg (by decide)] at d6
          exact ⟨by omega, by omega, (r2 e).2 j⟩
        · rw [e] at d6
          rw [e, if_neg (by decide), if_neg (by decide)]
          rw [if_neg (by decide)] at d6
          exact ⟨by omega, by omega, (r3 e).2 j⟩
      by_cases hle : sz (w.1.2.2.2 u) ≤ sz (w.1.2.2.2 v)
      · rw [if_pos (i_le rfl rfl (by omega))]
        have l := loop (sz (w.1.2.2.2 u)).toNat (by omega)
        rw [Int.toNat_of_nonneg (by omega)] at l
        exact l
      · rw [if_neg (i_nle rfl rfl (by omega))]
        have l := loop (sz (w.1.2.2.2 v)).toNat (by omega)
        rw [Int.toNat_of_nonneg (by omega)] at l
        exact l
    have k148 : ∀ G ow P, RepC G ow p w P → RT (f_L_row_148 p (iI (v : Int)) (iI (u : Int)) (iI ((w.1.2.2.2 v).1 1)) (iI (sz (w.1.2.2.2 v))) (iI (sz (w.1.2.2.2 u))) (iI ((w.1.2.2.2 v).1 2))) G ow p w P (.inr 1) w 0 := by
      intro G ow P hR
      unfold f_L_row_148
      by_cases e : (w.1.2.2.2 v).1 1 = 3
      · rw [if_pos (i_eq rfl lz3 e)]
        rw [if_neg (by omega)] at d6
        refine t_q hR (q_at hw hR rfl (iI_p (j := (sz (w.1.2.2.2 u) - 1).toNat) (by omega)) hu (by omega)) (fun G ow P hR => ?_)
        rw [if_pos (i_eq rfl rfl (r3 e).1)]
        exact k169 G ow P hR
      · rw [if_neg (i_ne rfl lz3 (by omega))]
        exact k169 G ow P hR
    have k132 : ∀ G ow P, RepC G ow p w P → RT (f_L_row_132 p (iI (v : Int)) (iI (u : Int)) (iI ((w.1.2.2.2 v).1 1)) (iI (sz (w.1.2.2.2 v))) (iI (sz (w.1.2.2.2 u))) (iI ((w.1.2.2.2 v).1 2))) G ow p w P (.inr 1) w 0 := by
      intro G ow P hR
      unfold f_L_row_132
      by_cases e : (w.1.2.2.2 v).1 1 = 2
      · rw [if_pos (i_eq rfl lz2 e)]
        rw [if_neg (by omega)] at d6
        refine t_q hR (q_at (j := 0) hw hR rfl rfl hu (by omega)) (fun G ow P hR => ?_)
        rw [if_pos (i_eq rfl rfl (r2 e).1)]
        exact k148 G ow P hR
      · rw [if_neg (i_ne rfl lz2 (by omega))]
        exact k148 G ow P hR
    have k113 : ∀ G ow P, RepC G ow p w P → RT (f_L_row_113 p (iI (v : Int)) (iI (u : Int)) (iI ((w.1.2.2.2 v).1 1)) (iI (sz (w.1.2.2.2 v))) (iI (sz (w.1.2.2.2 u))) (iI ((w.1.2.2.2 v).1 2))) G ow p w P (.inr 1) w 0 := by
      intro G ow P hR
      unfold f_L_row_113
      by_cases e : (w.1.2.2.2 v).1 1 = 1
      · rw [if_pos (i_eq rfl lz1 e)]
        rw [if_pos (by omega)] at d6
        refine t_q hR (q_at hw hR rfl (iI_p (j := (sz (w.1.2.2.2 u)).toNat) (by omega)) hv (by omega)) (fun G ow P hR => ?_)
        rw [if_pos (i_eq rfl rfl (r1 e).1)]
        exact k132 G ow P hR
      · rw [if_neg (i_ne rfl lz1 (by omega))]
        exact k132 G ow P hR
    by_cases e : (w.1.2.2.2 v).1 1 = 0
    · rw [if_pos (i_eq rfl lz0 e)]
      rw [if_pos (by omega)] at d6
      refine t_q hR (q_at (j := 0) hw hR rfl rfl hv (by omega)) (fun G ow P hR => ?_)
      rw [if_pos (i_eq rfl rfl (r0 e).1)]
      exact k113 G ow P hR
    · rw [if_neg (i_ne rfl lz0 (by omega))]
      exact k113 G ow P hR
  by_cases hk : (w.1.2.2.2 v).1 1 < 2
  · rw [if_neg (i_nle lz2 rfl (by omega)), lz1, iI_add]
    rw [if_pos hk] at d6
    exact key _ d6.symm
  · rw [if_pos (i_le lz2 rfl (by omega)), lz1, iI_sub]
    rw [if_neg hk] at d6
    exact key _ (by omega)
end Row
