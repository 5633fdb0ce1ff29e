/-! LAW: ways: costs on the way to version 0, the latest common ancestor by depths, like rows. -/
section Ways
variable {p : Nat} {w : WW}
theorem mn_num {s : SS} (hs : SI s) {v : Nat} (hv : v < s.2.2.1) : mnF s v &&& 0x7fffffffffffffff ≤ 0x7ff0000000000000 := by
  unfold mnF
  have hb := ws_b hs 100 v hv
  have hd := dep_b hs hv
  have hn := hs.2.2.1
  split
  · decide
  · exact ddiv_ok (by omega) (by omega) (by omega) (by omega)
theorem lk_symb {s : SS} (hs : SI s) {a b : Nat} (ha : a < s.2.2.1) (hb : b < s.2.2.1) : sameRow (s.2.2.2 b).1 (s.2.2.2 b).2 (s.2.2.2 a).1 (s.2.2.2 a).2 = sameRow (s.2.2.2 a).1 (s.2.2.2 a).2 (s.2.2.2 b).1 (s.2.2.2 b).2 := by
  cases h : sameRow (s.2.2.2 a).1 (s.2.2.2 a).2 (s.2.2.2 b).1 (s.2.2.2 b).2 with
  | true => exact lk_sym hs ha hb h
  | false =>
    cases h2 : sameRow (s.2.2.2 b).1 (s.2.2.2 b).2 (s.2.2.2 a).1 (s.2.2.2 a).2 with
    | false => rfl
    | true =>
      have h3 := lk_sym hs hb ha h2
      unfold lk at h3
      rw [h] at h3
      exact absurd h3 (by decide)
theorem q_dep (hw : WI w) {G : GH} {ow : Nat → Nat} {P : Nat} (h : RepC G ow p w P) {a : Int32} {v : Nat} (ha : a = iI v) (hv : v < w.1.2.2.1) : RT (f_X4_version p a 9) G ow p w P (.inr (iI (dep w.1 v))) w 0 := q_v9 hw h ha hv
theorem b2i_b (b : Bool) : 0 ≤ b2i b ∧ b2i b ≤ 1 := by cases b <;> decide
theorem w238 (hw : WI w) {a b r : Nat} (ha : a < w.1.2.2.1) (hb : b < w.1.2.2.1) (hr : LC w.1 r a b) {G : GH} {ow : Nat → Nat} {P : Nat} (hR : RepC G ow p w P) : RT (f_L_ways_238 p (iI (a : Int)) (iI (b : Int)) (iI (r : Int)) (iI ((flF w.1 a a 0 : Nat) : Int)) (iI (b2i (sameRow (w.1.2.2.2 a).1 (w.1.2.2.2 a).2 (w.1.2.2.2 b).1 (w.1.2.2.2 b).2))) (mnF w.1 a) (mnF w.1 a)) G ow p w P (.inr 1) w 0 := by
  have hn := hw.1.2.2.1
  have e1 : mtF w.1 200 a b = r := LC.one hw.1 ha (mtF_lc hw.1 200 a b ha hb (by omega)) hr
  have e2 : mtF w.1 200 b a = r := LC.one hw.1 hb (mtF_lc hw.1 200 b a hb ha (by omega)) hr.sym
  have e3 : mtF w.1 200 a a = a := LC.one hw.1 ha (mtF_lc hw.1 200 a a ha ha (by omega)) (lc_self _ _)
  obtain ⟨l1, l2, l3⟩ := like_ok hw.1 ha
  have l4 := like_like hw.1 ha
  have hls := lk_symb hw.1 ha hb
  generalize hq : sameRow (w.1.2.2.2 a).1 (w.1.2.2.2 a).2 (w.1.2.2.2 b).1 (w.1.2.2.2 b).2 = q at *
  have hfl : flF w.1 a a 0 < w.1.2.2.1 := by omega
  generalize flF w.1 a a 0 = fl at *
  have hbq := b2i_b q
  unfold f_L_ways_238
  rw [dcmp_same (mn_num hw.1 ha), show Op.cmpValue (some Ordering.eq) CmpOp.l = (0 : Int32) from rfl, if_pos rfl]
  refine t_q hR (q_common hw hR rfl rfl ha hb) (fun G ow P hR => ?_)
  rw [e1, if_pos rfl]
  refine t_q hR (q_common hw hR rfl rfl hb ha) (fun G ow P hR => ?_)
  rw [e2, if_pos rfl]
  refine t_q hR (q_common hw hR rfl rfl ha ha) (fun G ow P hR => ?_)
  rw [e3, if_pos rfl]
  refine t_q hR (q_same hw hR rfl rfl ha hb) (fun G ow P hR => ?_)
  rw [hq, if_pos rfl]
  refine t_q hR (q_same hw hR rfl rfl hb ha) (fun G ow P hR => ?_)
  rw [hls, if_pos rfl, if_neg (i_nlt rfl rfl (by omega))]
  refine t_q hR (q_same hw hR rfl rfl ha hfl) (fun G ow P hR => ?_)
  have h1 : sameRow (w.1.2.2.2 a).1 (w.1.2.2.2 a).2 (w.1.2.2.2 fl).1 (w.1.2.2.2 fl).2 = true := lk_sym hw.1 hfl ha l2
  rw [h1, if_neg (i_ne (a := b2i true) (b := 0) rfl lz0 (by decide))]
  cases q with
  | false =>
    rw [if_pos (i_eq (a := b2i false) (b := 0) rfl lz0 rfl)]
    refine t_q hR (q_like hw hR rfl hfl) (fun G ow P hR => ?_)
    rw [l4, if_pos rfl]
    exact t_true hR
  | true =>
    have l5 := l3 b (lk_sym hw.1 ha hb hq)
    rw [if_neg (i_ne (a := b2i true) (b := 0) rfl lz0 (by decide)), if_neg (i_nlt rfl rfl (by omega))]
    refine t_q hR (q_like hw hR rfl hfl) (fun G ow P hR => ?_)
    rw [l4, if_pos rfl]
    exact t_true hR
theorem w196 (hw : WI w) {a b r : Nat} (ha : a < w.1.2.2.1) (hb : b < w.1.2.2.1) (hr : LC w.1 r a b) {G : GH} {ow : Nat → Nat} {P : Nat} (hR : RepC G ow p w P) : RT (f_L_ways_196 p (iI (a : Int)) (iI (b : Int)) (iI (wsF w.1 100 a)) (iI (wmF w.1 100 a)) (iI (dep w.1 a)) (iI (r : Int)) (iI ((flF w.1 a a 0 : Nat) : Int)) (iI (b2i (sameRow (w.1.2.2.2 a).1 (w.1.2.2.2 a).2 (w.1.2.2.2 b).1 (w.1.2.2.2 b).2)))) G ow p w P (.inr 1) w 0 := by
  have hn := hw.1.2.2.1
  have hd := dep_b2 hw.1 ha
  have hs := ws_b hw.1 100 a ha
  have t := fun (G : GH) (ow : Nat → Nat) (P : Nat) (hR : RepC G ow p w P) => w238 hw ha hb hr hR
  unfold f_L_ways_196
  refine t_q hR (q_dep hw hR rfl ha) (fun G ow P hR => ?_)
  rw [if_pos rfl]
  refine t_q hR (q_worst hw hR rfl ha) (fun G ow P hR => ?_)
  rw [if_pos rfl]
  refine t_q hR (q_mean hw hR rfl ha) (fun G ow P hR => ?_)
  by_cases e : dep w.1 a = 0
  · have e2 : mnF w.1 a = 0 := by
      unfold mnF
      exact if_pos e
    rw [if_pos (i_eq rfl lz0 e)]
    have t2 := t G ow P hR
    rw [e2] at t2 ⊢
    exact t2
  · have e2 : mnF w.1 a = FP.ddiv (FP.i2d (iI (wsF w.1 100 a))) (FP.i2d (iI (dep w.1 a))) := by
      unfold mnF
      exact if_neg e
    rw [if_neg (i_ne rfl lz0 (by omega))]
    refine t_val hR (mdd_ok (by omega) (by omega) (by omega) (by omega) _) ?_
    rw [← e2]
    exact t G ow P hR
theorem w150 (hw : WI w) {a b r : Nat} (ha : a < w.1.2.2.1) (hb : b < w.1.2.2.1) (hr : LC w.1 r a b) (hsz : sz (w.1.2.2.2 a) = sz (w.1.2.2.2 b)) : ∀ (d fu j : Nat) (G : GH) (ow : Nat → Nat) (P : Nat), j + d = (sz (w.1.2.2.2 a)).toNat → d + 1 < fu → (∀ i, i < j → (w.1.2.2.2 a).2 i = (w.1.2.2.2 b).2 i) → RepC G ow p w P → RT (f_L_ways_150 fu p (iI (a : Int)) (iI (b : Int)) (iI (wsF w.1 100 a)) (iI (wmF w.1 100 a)) (iI (dep w.1 a)) (iI (r : Int)) (iI ((flF w.1 a a 0 : Nat) : Int)) 1 (iI (j : Int))) G ow p w P (.inr 1) w 0
  | _, 0, _, _, _, _, _, hf, _, _ => absurd hf (by omega)
  | 0, fu + 1, j, G, ow, P, hj, hf, he, hR => by
    have bv := sz_b hw.1 ha
    rw [f_L_ways_150]
    rw [if_neg (i_ne lz1 lz0 (by decide))]
    refine t_q hR (q_v1 hw hR rfl ha) (fun G ow P hR => ?_)
    rw [if_pos (i_le rfl rfl (by omega))]
    have t := w196 hw ha hb hr hR
    have hq : sameRow (w.1.2.2.2 a).1 (w.1.2.2.2 a).2 (w.1.2.2.2 b).1 (w.1.2.2.2 b).2 = true := (same_iff hw.1 ha).mpr ⟨hsz, fun i hi => he i (by omega)⟩
    rw [hq] at t
    exact t
  | d + 1, fu + 1, j, G, ow, P, hj, hf, he, hR => by
    have bv := sz_b hw.1 ha
    rw [f_L_ways_150]
    rw [if_neg (i_ne lz1 lz0 (by decide))]
    refine t_q hR (q_v1 hw hR rfl ha) (fun G ow P hR => ?_)
    rw [if_neg (i_nle rfl rfl (by omega))]
    refine t_q hR (q_at hw hR rfl rfl ha (by omega)) (fun G ow P hR => ?_)
    refine t_q hR (q_at hw hR rfl rfl hb (by omega)) (fun G ow P hR => ?_)
    rw [iI_s]
    have va := (hw.1.2.2.2 a ha).2.1 j (by omega)
    have vb := (hw.1.2.2.2 b hb).2.1 j (by omega)
    by_cases e : (w.1.2.2.2 a).2 j = (w.1.2.2.2 b).2 j
    · rw [if_pos (i_eq rfl rfl e)]
      exact w150 hw ha hb hr hsz d fu (j + 1) G ow P (by omega) (by omega) (fun i hi => by
        by_cases e2 : i = j
        · rw [e2]
          exact e
        · exact he i (by omega)) hR
    · rw [if_neg (i_ne rfl rfl (by omega))]
      have hq : sameRow (w.1.2.2.2 a).1 (w.1.2.2.2 a).2 (w.1.2.2.2 b).1 (w.1.2.2.2 b).2 = false := by
        cases hh : sameRow (w.1.2.2.2 a).1 (w.1.2.2.2 a).2 (w.1.2.2.2 b).1 (w.1.2.2.2 b).2 with
        | false => rfl
        | true => exact absurd (((same_iff hw.1 ha).mp hh).2 j (by omega)) e
      have t := w196 hw ha hb hr hR
      rw [hq] at t
      cases fu with
      | zero => omega
      | succ fu =>
        rw [f_L_ways_150]
        rw [if_pos rfl]
        exact t
theorem w68 (hw : WI w) {a b : Nat} (ha : a < w.1.2.2.1) (hb : b < w.1.2.2.1) : ∀ (m fu x y : Nat) (G : GH) (ow : Nat → Nat) (P : Nat), x + y ≤ m → m < fu → x < w.1.2.2.1 → y < w.1.2.2.1 → (∀ r, LC w.1 r x y → LC w.1 r a b) → RepC G ow p w P → RT (f_L_ways_68 fu p (iI (a : Int)) (iI (b : Int)) (iI (wsF w.1 100 a)) (iI (wmF w.1 100 a)) (iI (dep w.1 a)) (iI (x : Int)) (iI (y : Int))) G ow p w P (.inr 1) w 0
  | _, 0, _, _, _, _, _, _, hf, _, _, _, _ => absurd hf (by omega)
  | m, fu + 1, x, y, G, ow, P, hm, hf, hx, hy, hlc, hR => by
    have hn := hw.1.2.2.1
    rw [f_L_ways_68]
    by_cases e : x = y
    · subst e
      have hr := hlc x (lc_self _ _)
      rw [if_pos rfl]
      refine t_q hR (q_like hw hR rfl ha) (fun G ow P hR => ?_)
      refine t_q hR (q_v1 hw hR rfl ha) (fun G ow P hR => ?_)
      refine t_q hR (q_v1 hw hR rfl hb) (fun G ow P hR => ?_)
      have ba := sz_b hw.1 ha
      have bb := sz_b hw.1 hb
      unfold f_L_ways_145
      by_cases e2 : sz (w.1.2.2.2 a) = sz (w.1.2.2.2 b)
      · rw [if_pos (i_eq rfl rfl e2)]
        exact w150 hw ha hb hr e2 (sz (w.1.2.2.2 a)).toNat FU 0 G ow P (by omega) (by unfold FU; omega) (fun i hi => absurd hi (by omega)) hR
      · rw [if_neg (i_ne rfl rfl (by omega))]
        have hq : sameRow (w.1.2.2.2 a).1 (w.1.2.2.2 a).2 (w.1.2.2.2 b).1 (w.1.2.2.2 b).2 = false := by
          cases hh : sameRow (w.1.2.2.2 a).1 (w.1.2.2.2 a).2 (w.1.2.2.2 b).1 (w.1.2.2.2 b).2 with
          | false => rfl
          | true => exact absurd (((same_iff hw.1 ha).mp hh).1) e2
        have t := w196 hw ha hb hr hR
        rw [hq] at t
        have hfu : ∀ fu2, 0 < fu2 → RT (f_L_ways_150 fu2 p (iI (a : Int)) (iI (b : Int)) (iI (wsF w.1 100 a)) (iI (wmF w.1 100 a)) (iI (dep w.1 a)) (iI (x : Int)) (iI ((flF w.1 a a 0 : Nat) : Int)) 0 0) G ow p w P (.inr 1) w 0 := fun fu2 h2 => by
          cases fu2 with
          | zero => omega
          | succ fu2 =>
            rw [f_L_ways_150]
            rw [if_pos rfl]
            exact t
        exact hfu FU (by unfold FU; omega)
    · rw [if_neg (i_ne rfl rfl (by omega))]
      have dx := dep_b2 hw.1 hx
      have dy := dep_b2 hw.1 hy
      refine t_q hR (q_dep hw hR rfl hx) (fun G ow P hR => ?_)
      refine t_q hR (q_dep hw hR rfl hy) (fun G ow P hR => ?_)
      by_cases hd : dep w.1 x < dep w.1 y
      · have h0 : 0 < y := dp_0 hw.1 hy hx (fun h => e h.symm) (by omega)
        have hp := par_lt2 hw.1 hy h0
        rw [if_pos (i_lt (a := dep w.1 x) (b := dep w.1 y) rfl rfl (by omega))]
        refine t_q hR (q_par hw hR rfl hy h0) (fun G ow P hR => ?_)
        exact w68 hw ha hb (m - 1) fu x (par w.1 y) G ow P (by omega) (by omega) hx (by omega) (fun r hr => hlc r (dp_r hw.1 hx hy e (by omega) hr)) hR
      · have h0 : 0 < x := dp_0 hw.1 hx hy e (by omega)
        have hp := par_lt2 hw.1 hx h0
        rw [if_neg (i_nlt (a := dep w.1 x) (b := dep w.1 y) rfl rfl (by omega))]
        refine t_q hR (q_par hw hR rfl hx h0) (fun G ow P hR => ?_)
        exact w68 hw ha hb (m - 1) fu (par w.1 x) y G ow P (by omega) (by omega) (by omega) hy (fun r hr => hlc r (dp_l hw.1 hx hy e (by omega) hr)) hR
theorem w11 (hw : WI w) {a b : Nat} (ha : a < w.1.2.2.1) (hb : b < w.1.2.2.1) : ∀ (f fu x : Nat) (S W D : Int) (G : GH) (ow : Nat → Nat) (P : Nat), x < f → f < fu → x < w.1.2.2.1 → S + wsF w.1 f x = wsF w.1 100 a → max W (wmF w.1 f x) = wmF w.1 100 a → D + dep w.1 x = dep w.1 a → 0 ≤ W → RepC G ow p w P → RT (f_L_ways_11 fu p (iI (a : Int)) (iI (b : Int)) (iI S) (iI W) (iI D) (iI (x : Int))) G ow p w P (.inr 1) w 0
  | 0, _, _, _, _, _, _, _, _, hx, _, _, _, _, _, _, _ => absurd hx (by omega)
  | f + 1, 0, _, _, _, _, _, _, _, _, hf, _, _, _, _, _, _ => absurd hf (by omega)
  | f + 1, fu + 1, x, S, W, D, G, ow, P, hx, hf, hxN, hS, hW, hD, hW0, hR => by
    have hn := hw.1.2.2.1
    have hwb := wm_b (L := 1) (by decide) hw.1 100 a ha
    rw [f_L_ways_11]
    rw [show wsF w.1 (f + 1) x = (w.1.2.2.2 x).1 8 + (if x = 0 then 0 else wsF w.1 f (par w.1 x)) from rfl] at hS
    rw [show wmF w.1 (f + 1) x = max ((w.1.2.2.2 x).1 8) (if x = 0 then 0 else wmF w.1 f (par w.1 x)) from rfl] at hW
    by_cases h0 : 0 < x
    · rw [if_neg (by omega)] at hS hW
      have hp := par_lt2 hw.1 hxN h0
      have hdep := dep_s hw.1 hxN h0
      have hvb := (hw.1.2.2.2 x hxN).1
      unfold VBn at hvb
      rw [if_neg (i_nle rfl lz0 (by omega))]
      refine t_q hR (q_v6 hw hR rfl hxN) (fun G ow P hR => ?_)
      by_cases hc : (w.1.2.2.2 x).1 8 ≤ W
      · rw [if_pos (i_le rfl rfl (by omega))]
        refine t_q hR (q_par hw hR rfl hxN h0) (fun G ow P hR => ?_)
        rw [iI_add, lz1, iI_add]
        exact w11 hw ha hb f fu (par w.1 x) _ _ _ G ow P (by omega) (by omega) (by omega) (by omega) (by omega) (by omega) (by omega) hR
      · rw [if_neg (i_nle rfl rfl (by omega))]
        refine t_q hR (q_par hw hR rfl hxN h0) (fun G ow P hR => ?_)
        rw [iI_add, lz1, iI_add]
        exact w11 hw ha hb f fu (par w.1 x) _ _ _ G ow P (by omega) (by omega) (by omega) (by omega) (by omega) (by omega) (by omega) hR
    · have e : x = 0 := by omega
      subst e
      rw [if_pos rfl] at hS hW
      rw [(par_0 (L := 1) (by decide) hw.1).2] at hS hW
      rw [dep_0 hw.1] at hD
      rw [if_pos (i_le rfl lz0 (by omega))]
      have e1 : S = wsF w.1 100 a := by omega
      have e2 : W = wmF w.1 100 a := by omega
      have e3 : D = dep w.1 a := by omega
      rw [e1, e2, e3]
      exact w68 hw ha hb (a + b) FU a b G ow P (Nat.le_refl _) (by unfold FU; omega) ha hb (fun r hr => hr) hR
theorem l_ways (hw : WI w) {a b : Nat} (ha : a < w.1.2.2.1) (hb : b < w.1.2.2.1) {G : GH} {ow : Nat → Nat} {P : Nat} (hR : RepC G ow p w P) : RT (f_L_ways p (iI (a : Int)) (iI (b : Int))) G ow p w P (.inr 1) w 0 := by
  have hn := hw.1.2.2.1
  have hwb := wm_b (L := 1) (by decide) hw.1 100 a ha
  unfold f_L_ways
  exact w11 hw ha hb 100 FU a 0 0 0 G ow P (by omega) (by unfold FU; omega) ha (by omega) (by omega) (by omega) (by omega) hR
end Ways
