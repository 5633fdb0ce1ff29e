/-! LAW: sound: all versions' parts and rows, the counts, and the ways of three pairs. -/
section Sound
variable {p : Nat} {w : WW}
theorem q_c1 (hw : WI w) {G : GH} {ow : Nat → Nat} {P : Nat} (h : RepC G ow p w P) : RT (f_X4_count p 1) G ow p w P (.inr (iI (chF w.1 w.1.2.2.1))) w 0 := q_count (k := 1) hw h rfl (by omega)
theorem q_c2 (hw : WI w) {G : GH} {ow : Nat → Nat} {P : Nat} (h : RepC G ow p w P) : RT (f_X4_count p 2) G ow p w P (.inr (iI (maxF w.1 6 w.1.2.2.1))) w 0 := q_count (k := 2) hw h rfl (by omega)
theorem q_c3 (hw : WI w) {G : GH} {ow : Nat → Nat} {P : Nat} (h : RepC G ow p w P) : RT (f_X4_count p 3) G ow p w P (.inr (iI (sumF w.1 6 w.1.2.2.1))) w 0 := q_count (k := 3) hw h rfl (by omega)
theorem q_c4 (hw : WI w) {G : GH} {ow : Nat → Nat} {P : Nat} (h : RepC G ow p w P) : RT (f_X4_count p 4) G ow p w P (.inr (iI (stF w.1 w.1.2.2.1))) w 0 := q_count (k := 4) hw h rfl (by omega)
theorem q_c5 (hw : WI w) {G : GH} {ow : Nat → Nat} {P : Nat} (h : RepC G ow p w P) : RT (f_X4_count p 5) G ow p w P (.inr (iI (sumF w.1 7 w.1.2.2.1))) w 0 := q_count (k := 5) hw h rfl (by omega)
theorem q_c6 (hw : WI w) {G : GH} {ow : Nat → Nat} {P : Nat} (h : RepC G ow p w P) : RT (f_X4_count p 6) G ow p w P (.inr (iI (rbF w.1 w.1.2.2.1))) w 0 := q_count (k := 6) hw h rfl (by omega)
theorem q_c7 (hw : WI w) {G : GH} {ow : Nat → Nat} {P : Nat} (h : RepC G ow p w P) : RT (f_X4_count p 7) G ow p w P (.inr (iI (maxF w.1 9 w.1.2.2.1))) w 0 := q_count (k := 7) hw h rfl (by omega)
theorem q_c0 (hw : WI w) {G : GH} {ow : Nat → Nat} {P : Nat} (h : RepC G ow p w P) : RT (f_X4_count p 0) G ow p w P (.inr (iI (w.1.2.2.1 : Int))) w 0 := q_count (k := 0) hw h rfl (by omega)
/-- behind one version's numbers, the next version -/
theorem s116 (hw : WI w) {i : Nat} (hi : i < w.1.2.2.1) {q : Int32} {K : Nat → Int32 → Int32 → Int32 → Int32 → Int32 → Int32 → Int32 → Int32 → Int32 → Int32 → MX Int32} {K2 : Nat → Int32 → Int32 → Int32 → Int32 → Int32 → Int32 → Int32 → Int32 → Int32 → Int32 → Int32 → Int32 → MX Int32} {G : GH} {ow : Nat → Nat} {P : Nat} (hR : RepC G ow p w P) {c f : Int} (hf : f = @ite _ (hasCh w.1 i) (Classical.propDecidable _) 0 1) (hc : c = chF w.1 i)
    (hK : ∀ G ow P, RepC G ow p w P → RT (K p q (iI (w.1.2.2.1 : Int)) (iI (chF w.1 (i + 1))) (iI (maxF w.1 6 (i + 1))) (iI (sumF w.1 6 (i + 1))) (iI (stF w.1 (i + 1))) (iI (sumF w.1 7 (i + 1))) (iI (rbF w.1 (i + 1))) (iI (maxF w.1 9 (i + 1))) (iI ((i + 1 : Nat) : Int))) G ow p w P (.inr 1) w 0) :
    RT (f_L_sound_116 K K2 p q (iI (w.1.2.2.1 : Int)) (iI (maxF w.1 6 i)) (iI (sumF w.1 6 i)) (iI (stF w.1 i)) (iI (sumF w.1 7 i)) (iI (rbF w.1 i)) (iI (maxF w.1 9 i)) (iI (i : Int)) (iI f) (iI c)) G ow p w P (.inr 1) w 0 := by
  have hb := (hw.1.2.2.2 i hi).1
  unfold VBn at hb
  have hi' : i ≤ w.1.2.2.1 := by omega
  have m6 := maxF_b (L := 1) (by decide) hw.1 (k := 6) (by omega) i hi'
  have m9 := maxF_b (L := 1) (by decide) hw.1 (k := 9) (by omega) i hi'
  have e3 : c + f = chF w.1 (i + 1) := by rw [hc, hf]; rfl
  have e5 : sumF w.1 6 (i + 1) = sumF w.1 6 i + (w.1.2.2.2 i).1 8 := rfl
  have e7 : sumF w.1 7 (i + 1) = sumF w.1 7 i + (w.1.2.2.2 i).1 9 := rfl
  have e4 : maxF w.1 6 (i + 1) = max (maxF w.1 6 i) ((w.1.2.2.2 i).1 8) := rfl
  have e9 : maxF w.1 9 (i + 1) = max (maxF w.1 9 i) ((w.1.2.2.2 i).1 3) := rfl
  have e6 : stF w.1 (i + 1) = stF w.1 i + (if 0 < (w.1.2.2.2 i).1 9 then 1 else 0) := rfl
  have e8 : rbF w.1 (i + 1) = rbF w.1 i + (if 0 < (w.1.2.2.2 i).1 6 then 1 else 0) := rfl
  have k202 : ∀ (r1 : Int), rbF w.1 i + r1 = rbF w.1 (i + 1) → ∀ G ow P, RepC G ow p w P → RT (f_L_sound_202 K K2 p q (iI (w.1.2.2.1 : Int)) (iI (chF w.1 (i + 1))) (iI (maxF w.1 6 (i + 1))) (iI (sumF w.1 6 (i + 1))) (iI (stF w.1 (i + 1))) (iI (sumF w.1 7 (i + 1))) (iI (maxF w.1 9 i)) (iI (i : Int)) (iI r1) (iI (rbF w.1 i))) G ow p w P (.inr 1) w 0 := by
    intro r1 hr1 G ow P hR
    unfold f_L_sound_202
    rw [iI_add, hr1, iI_s]
    refine t_q hR (q_v9 hw hR rfl hi) (fun G ow P hR => ?_)
    by_cases hle : (w.1.2.2.2 i).1 3 ≤ maxF w.1 9 i
    · rw [if_pos (i_le rfl rfl (by omega))]
      have hk := hK G ow P hR
      rw [show maxF w.1 9 (i + 1) = maxF w.1 9 i by omega] at hk
      exact hk
    · rw [if_neg (i_nle rfl rfl (by omega))]
      refine t_q hR (q_v9 hw hR rfl hi) (fun G ow P hR => ?_)
      have hk := hK G ow P hR
      rw [show maxF w.1 9 (i + 1) = (w.1.2.2.2 i).1 3 by omega] at hk
      exact hk
  have k169 : ∀ (s1 : Int), stF w.1 i + s1 = stF w.1 (i + 1) → ∀ G ow P, RepC G ow p w P → RT (f_L_sound_169 K K2 p q (iI (w.1.2.2.1 : Int)) (iI (chF w.1 (i + 1))) (iI (maxF w.1 6 (i + 1))) (iI (sumF w.1 6 (i + 1))) (iI (sumF w.1 7 i)) (iI (rbF w.1 i)) (iI (maxF w.1 9 i)) (iI (i : Int)) (iI s1) (iI (stF w.1 i))) G ow p w P (.inr 1) w 0 := by
    intro s1 hs1 G ow P hR
    unfold f_L_sound_169
    rw [iI_add, hs1]
    refine t_q hR (q_v7 hw hR rfl hi) (fun G ow P hR => ?_)
    rw [iI_add, ← e7]
    refine t_q hR (q_v5 hw hR rfl hi) (fun G ow P hR => ?_)
    by_cases hg : (w.1.2.2.2 i).1 7 < 0
    · rw [if_pos (i_lt rfl lz0 (by omega))]
      exact k202 0 (by rw [e8, if_neg (by omega)]) G ow P hR
    · rw [if_neg (i_nlt rfl lz0 (by omega))]
      exact k202 1 (by rw [e8, if_pos (by omega)]) G ow P hR
  have k142 : ∀ (g : Int), g = maxF w.1 6 (i + 1) → ∀ G ow P, RepC G ow p w P → RT (f_L_sound_142 K K2 p q (iI (w.1.2.2.1 : Int)) (iI (chF w.1 (i + 1))) (iI (sumF w.1 6 i)) (iI (stF w.1 i)) (iI (sumF w.1 7 i)) (iI (rbF w.1 i)) (iI (maxF w.1 9 i)) (iI (i : Int)) (iI ((w.1.2.2.2 i).1 8)) (iI g)) G ow p w P (.inr 1) w 0 := by
    intro g hg G ow P hR
    subst hg
    unfold f_L_sound_142
    rw [iI_add, ← e5]
    refine t_q hR (q_v7 hw hR rfl hi) (fun G ow P hR => ?_)
    by_cases hx : (w.1.2.2.2 i).1 9 ≤ 0
    · rw [if_pos (i_le rfl lz0 (by omega))]
      exact k169 0 (by rw [e6, if_neg (by omega)]) G ow P hR
    · rw [if_neg (i_nle rfl lz0 (by omega))]
      exact k169 1 (by rw [e6, if_pos (by omega)]) G ow P hR
  unfold f_L_sound_116
  rw [iI_add, e3]
  refine t_q hR (q_v6 hw hR rfl hi) (fun G ow P hR => ?_)
  by_cases hle : (w.1.2.2.2 i).1 8 ≤ maxF w.1 6 i
  · rw [if_pos (i_le rfl rfl (by omega))]
    exact k142 _ (by omega) G ow P hR
  · rw [if_neg (i_nle rfl rfl (by omega))]
    exact k142 _ (by omega) G ow P hR
theorem s69 (hw : WI w) {i : Nat} (hi : i < w.1.2.2.1) {q : Int32} {K : Nat → Int32 → Int32 → Int32 → Int32 → Int32 → Int32 → Int32 → Int32 → Int32 → Int32 → MX Int32}
    (hK : ∀ G ow P, RepC G ow p w P → RT (K p q (iI (w.1.2.2.1 : Int)) (iI (chF w.1 (i + 1))) (iI (maxF w.1 6 (i + 1))) (iI (sumF w.1 6 (i + 1))) (iI (stF w.1 (i + 1))) (iI (sumF w.1 7 (i + 1))) (iI (rbF w.1 (i + 1))) (iI (maxF w.1 9 (i + 1))) (iI ((i + 1 : Nat) : Int))) G ow p w P (.inr 1) w 0) :
    ∀ (d fu k : Nat) (b : Int) (G : GH) (ow : Nat → Nat) (P : Nat), i < k → k + d = w.1.2.2.1 → d < fu → (b = 0 ∧ ∀ j, i < j → j < k → (w.1.2.2.2 j).1 0 ≠ (i : Int)) ∨ (b = 1 ∧ hasCh w.1 i) → RepC G ow p w P → RT (f_L_sound_69 K fu p q (iI (w.1.2.2.1 : Int)) (iI (chF w.1 i)) (iI (maxF w.1 6 i)) (iI (sumF w.1 6 i)) (iI (stF w.1 i)) (iI (sumF w.1 7 i)) (iI (rbF w.1 i)) (iI (maxF w.1 9 i)) (iI (i : Int)) (iI b) (iI (k : Int))) G ow p w P (.inr 1) w 0
  | _, 0, _, _, _, _, _, _, _, hf, _, _ => absurd hf (by omega)
  | 0, fu + 1, k, b, G, ow, P, hk, hd, hf, hb, hR => by
    have hn := hw.1.2.2.1
    rw [f_L_sound_69]
    rw [if_pos (i_le rfl rfl (by omega))]
    rcases hb with ⟨hb, hno⟩ | ⟨hb, hch⟩
    · have hnc : ¬ hasCh w.1 i := by
        intro ⟨j, j1, j2, j3⟩
        have hp := par_dep hw.1 (i := j) j2 (by omega)
        by_cases hji : i < j
        · exact hno j hji (by omega) j3
        · omega
      rw [if_pos (i_eq rfl lz0 hb)]
      exact s116 hw hi hR (f := 1) (by rw [if_neg hnc]) rfl hK
    · rw [if_neg (i_ne rfl lz0 (by omega))]
      exact s116 hw hi hR (f := 0) (by rw [if_pos hch]) rfl hK
  | d + 1, fu + 1, k, b, G, ow, P, hk, hd, hf, hb, hR => by
    have hn := hw.1.2.2.1
    rw [f_L_sound_69]
    rw [if_neg (i_nle rfl rfl (by omega)), iI_s]
    rcases hb with ⟨hb, hno⟩ | ⟨hb, hch⟩
    · rw [if_pos (i_eq rfl lz0 hb)]
      have hp := par_dep hw.1 (i := k) (by omega) (by omega)
      refine t_q hR (q_par hw hR rfl (by omega) (by omega)) (fun G ow P hR => ?_)
      by_cases e : par w.1 k = i
      · rw [if_pos (i_eq rfl rfl (by omega))]
        exact s69 hw hi hK d fu (k + 1) 1 G ow P (by omega) (by omega) (by omega) (Or.inr ⟨rfl, k, by omega, by omega, by omega⟩) hR
      · rw [if_neg (i_ne rfl rfl (by omega))]
        exact s69 hw hi hK d fu (k + 1) 0 G ow P (by omega) (by omega) (by omega) (Or.inl ⟨rfl, fun j j1 j2 => by
          by_cases e2 : j = k
          · rw [e2]
            omega
          · exact hno j j1 (by omega)⟩) hR
    · rw [if_neg (i_ne rfl lz0 (by omega))]
      exact s69 hw hi hK d fu (k + 1) 1 G ow P (by omega) (by omega) (by omega) (Or.inr ⟨rfl, hch⟩) hR
theorem s29 (hw : WI w) (hj : SJ w.1) {q : Int32} : ∀ (d fu i : Nat) (G : GH) (ow : Nat → Nat) (P : Nat), i + d = w.1.2.2.1 → d < fu → RepC G ow p w P → RT (f_L_sound_29 fu p q (iI (w.1.2.2.1 : Int)) (iI (chF w.1 i)) (iI (maxF w.1 6 i)) (iI (sumF w.1 6 i)) (iI (stF w.1 i)) (iI (sumF w.1 7 i)) (iI (rbF w.1 i)) (iI (maxF w.1 9 i)) (iI (i : Int))) G ow p w P (.inr 1) w 0
  | _, 0, _, _, _, _, _, hf, _ => absurd hf (by omega)
  | 0, fu + 1, i, G, ow, P, hi, hf, hR => by
    have hn := hw.1.2.2.1
    have ei : i = w.1.2.2.1 := by omega
    subst ei
    rw [f_L_sound_29]
    rw [if_pos (i_le rfl rfl (by omega))]
    refine t_q hR (q_c1 hw hR) (fun G ow P hR => ?_)
    rw [if_pos rfl]
    refine t_q hR (q_c2 hw hR) (fun G ow P hR => ?_)
    rw [if_pos rfl]
    refine t_q hR (q_c3 hw hR) (fun G ow P hR => ?_)
    rw [if_pos rfl]
    refine t_q hR (q_c4 hw hR) (fun G ow P hR => ?_)
    rw [if_pos rfl]
    refine t_q hR (q_c5 hw hR) (fun G ow P hR => ?_)
    rw [if_pos rfl]
    refine t_q hR (q_c6 hw hR) (fun G ow P hR => ?_)
    rw [if_pos rfl]
    refine t_q hR (q_c7 hw hR) (fun G ow P hR => ?_)
    rw [if_pos rfl]
    obtain ⟨k1, a1, a2⟩ := q_up (x := q) (y := iI (w.1.2.2.1 : Int)) (n := w.1.2.2.1) rfl (by omega) G
    refine t_val hR a2 ?_
    obtain ⟨k2, b1, b2⟩ := q_up (x := q >>> (8 &&& 31)) (y := iI (w.1.2.2.1 : Int)) (n := w.1.2.2.1) rfl (by omega) G
    refine t_val hR b2 ?_
    refine rt_xin (l_ways hw (by omega) (by omega) hR) (fun G ow P hR => ?_)
    rw [if_neg (by decide)]
    obtain ⟨k3, c1, c2⟩ := q_up (x := q >>> (16 &&& 31)) (y := iI (w.1.2.2.1 : Int)) (n := w.1.2.2.1) rfl (by omega) G
    refine t_val hR c2 ?_
    rw [iI_p (j := w.1.2.2.1 - 1) (by omega)]
    refine rt_xin (l_ways hw (by omega) (by omega) hR) (fun G ow P hR => ?_)
    rw [if_neg (by decide)]
    exact t_true hR
  | d + 1, fu + 1, i, G, ow, P, hi, hf, hR => by
    have hn := hw.1.2.2.1
    have hiN : i < w.1.2.2.1 := by omega
    rw [f_L_sound_29]
    rw [if_neg (i_nle rfl rfl (by omega))]
    refine rt_xin (l_parts hw hj hiN hR) (fun G ow P hR => ?_)
    rw [if_neg (by decide)]
    have k60 : ∀ G ow P, RepC G ow p w P → RT (f_L_sound_60 (fun y0 y1 y2 y3 y4 y5 y6 y7 y8 y9 y10 => f_L_sound_29 fu y0 y1 y2 y3 y4 y5 y6 y7 y8 y9 y10) p q (iI (w.1.2.2.1 : Int)) (iI (chF w.1 i)) (iI (maxF w.1 6 i)) (iI (sumF w.1 6 i)) (iI (stF w.1 i)) (iI (sumF w.1 7 i)) (iI (rbF w.1 i)) (iI (maxF w.1 9 i)) (iI (i : Int))) G ow p w P (.inr 1) w 0 := by
      intro G ow P hR
      unfold f_L_sound_60
      rw [iI_s]
      exact s69 hw hiN (fun G ow P hR => s29 hw hj d fu (i + 1) G ow P (by omega) (by omega) hR) d FU (i + 1) 0 G ow P (by omega) (by omega) (by unfold FU; omega) (Or.inl ⟨rfl, fun j j1 j2 => absurd j2 (by omega)⟩) hR
    by_cases h0 : 0 < i
    · rw [if_neg (i_nle rfl lz0 (by omega))]
      refine rt_xin (l_row hw hj hR hiN h0) (fun G ow P hR => ?_)
      rw [if_neg (by decide)]
      exact k60 G ow P hR
    · rw [if_pos (i_le rfl lz0 (by omega))]
      exact k60 G ow P hR
theorem l_sound (hw : WI w) (hj : SJ w.1) {q : Int32} {G : GH} {ow : Nat → Nat} {P : Nat} (hR : RepC G ow p w P) : RT (f_L_sound p q) G ow p w P (.inr 1) w 0 := by
  have hn := hw.1.2.2.1
  unfold f_L_sound
  refine t_q hR (q_c0 hw hR) (fun G ow P hR => ?_)
  exact s29 hw hj w.1.2.2.1 FU 0 G ow P (by omega) (by unfold FU; omega) hR
end Sound
