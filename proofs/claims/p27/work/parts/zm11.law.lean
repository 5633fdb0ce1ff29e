/-! LAW: the law's own body (walks printed by wip/p27/mk_law.py). -/
theorem s00_sj : SJ s00 := by
  intro i hi
  have hi' : i < 1 := hi
  have e : i = 0 := by omega
  subst e
  refine ⟨fun _ => ?_, fun h => absurd h (by omega)⟩
  decide
theorem wg_00 : WG w00 := ⟨wi_00, s00_sj, fun i hi => absurd hi (by show ¬ i < 0; omega)⟩
theorem ch_00 : chF s00 s00.2.2.1 = 1 := by
  show chF s00 0 + @ite _ (hasCh s00 0) (Classical.propDecidable _) 0 1 = 1
  have h : ¬ hasCh s00 0 := by
    intro ⟨j, j1, j2, j9⟩
    have j3 : j < 1 := j2
    omega
  rw [if_neg h]
  rfl
section LawW
variable {X : VX} {B : VB} {Q : State → Prop} {p b L C S : Nat} {G : GH} {w : WW} {ys : Nat → Int32}
theorem b207 (hfl : (xl X).stackTraces = false) (hX : va_X b L ys (xs X) (xs X).heap) (hbl : b < (xs X).heap.size) (hbA : ¬ (xA X) b) (hL : L ≤ 260) (hend : ∀ G lv, G.2.2.1 ≤ B.2.2.1 ∧ G.2.2.2 ≤ B.2.2.2 → V X RL cL_law 7 12 474 wsL_law B Q G 280 lv [.int 1]) (hB : C ≤ B.2.2.1 ∧ S ≤ B.2.2.2) (hI : HI p C S G w) (hg : WG w) : V X RL cL_law 7 12 474 wsL_law B Q G 207 [(0, .ref b), (1, .ref p)] [] := by
  have hw := hg.1
  have hn := hw.1.2.2.1
  refine v_aload_n 1 dL_law_207 rfl rfl ?_
  obtain ⟨G1, e1, h1⟩ := hI.rt (F := f_L_mark p) (e := 0) (fun ow P hR => l_mark hw hR)
  refine u_xcallS (val := vL) 1 [.ref p] (c_L_mark (xl X) hfl p) gL_law_L_mark rfl dn_L_mark (by decide) (by decide) rfl dL_law_208 (Nat.le_of_ble_eq_true rfl) rfl e1 (h1.bb hB) rfl ?_
  refine v_lstore [(4, .long (mkF w.1)), (0, .ref b), (1, .ref p)] dL_law_211 (by decide) rfl ?_
  refine v_aload_n 2 dL_law_213 rfl rfl ?_
  refine v_iconst 0 dL_law_214 (by decide) ?_
  obtain ⟨G2, e2, h2⟩ := h1.rt (F := f_X4_count p 0) (e := 0) (fun ow P hR => q_c0 hw hR)
  obtain ⟨fs2, b2⟩ := h1.obj
  refine u_xcallV (val := vI) 4 1 [.int 0] (c_X4_count (xl X) hfl p 0) gL_law_X4_count rfl dv_X4_count (by decide) (by decide) rfl rfl dL_law_215 (Nat.le_of_ble_eq_true rfl) rfl b2 e2 (h2.bb hB) rfl ?_
  refine v_istore [(6, .int (iI (w.1.2.2.1 : Int))), (4, .long (mkF w.1)), (0, .ref b), (1, .ref p)] dL_law_218 (by decide) rfl ?_
  refine v_aload_n 3 dL_law_220 rfl rfl ?_
  have hs := si_held hw.1 (n := 1) (by omega) (by omega)
  have hj := sj_held hg.2.1 (n := 1) (by omega)
  obtain ⟨u1, u2, u3⟩ := un_save hg hs hj
  have hg2 := wg_save hg hs hj
  have u4 := hg2.1.2.2.1
  obtain ⟨G3, e3, h3⟩ := h2.rt (F := f_X4_clear p) (e := 0) (fun ow P hR => (c_clear hw hR).rt)
  obtain ⟨fs3, b3⟩ := h2.obj
  refine u_callV (val := vI) 4 0 [] (c_X4_clear (xl X) hfl p) gL_law_X4_clear rfl dv_X4_clear (by decide) (by decide) rfl rfl dL_law_221 (Nat.le_of_ble_eq_true rfl) rfl b3 e3 (h3.bb hB) rfl ?_
  refine v_iload 0 dL_law_224 rfl ?_
  refine v_iconst 1 dL_law_226 (by decide) ?_
  refine v_isub dL_law_227 ?_
  refine v_icmp_ne_f 279 dL_law_228 (by decide) (i_eq rfl (by rw [lz1, iI_sub]) rfl) ?_
  refine v_aload_n 3 dL_law_231 rfl rfl ?_
  refine v_iconst 0 dL_law_232 (by decide) ?_
  obtain ⟨G4, e4, h4⟩ := h3.rt (F := f_X4_count p 0) (e := 0) (fun ow P hR => q_c0 hg2.1 hR)
  obtain ⟨fs4, b4⟩ := h3.obj
  refine u_xcallV (val := vI) 4 1 [.int 0] (c_X4_count (xl X) hfl p 0) gL_law_X4_count rfl dv_X4_count (by decide) (by decide) rfl rfl dL_law_233 (Nat.le_of_ble_eq_true rfl) rfl b4 e4 (h4.bb hB) rfl ?_
  refine v_iconst 1 dL_law_236 (by decide) ?_
  refine v_icmp_ne_f 279 dL_law_237 (by decide) rfl ?_
  refine v_aload_n 3 dL_law_240 rfl rfl ?_
  refine v_iconst 0 dL_law_241 (by decide) ?_
  obtain ⟨G5, e5, h5⟩ := h4.rt (F := f_L_sound p 0) (e := 0) (fun ow P hR => l_sound hg2.1 hg2.2.1 hR)
  refine u_xcallS (val := vI) 2 [.ref p, .int 0] (c_L_sound (xl X) hfl p 0) gL_law_L_sound rfl dn_L_sound (by decide) (by decide) rfl dL_law_242 (Nat.le_of_ble_eq_true rfl) rfl e5 (h5.bb hB) rfl ?_
  refine v_if_eq_f 279 dL_law_245 (by decide) (by decide) ?_
  refine v_aload_n 3 dL_law_248 rfl rfl ?_
  obtain ⟨G6, e6, h6⟩ := h5.rt (F := f_X4_undo p) (e := 0) (fun ow P hR => q_undo hg2.1 hR u3)
  obtain ⟨fs6, b6⟩ := h5.obj
  refine u_xcallV (val := vI) 4 0 [] (c_X4_undo (xl X) hfl p) gL_law_X4_undo rfl dv_X4_undo (by decide) (by decide) rfl rfl dL_law_249 (Nat.le_of_ble_eq_true rfl) rfl b6 e6 (h6.bb hB) rfl ?_
  refine v_if_lt_f 279 dL_law_252 (by decide) (i_nlt rfl lz0 (by omega)) ?_
  refine v_aload_n 3 dL_law_255 rfl rfl ?_
  refine v_iconst 0 dL_law_256 (by decide) ?_
  obtain ⟨G7, e7, h7⟩ := h6.rt (F := f_X4_count p 0) (e := 0) (fun ow P hR => q_c0 u2.1 hR)
  obtain ⟨fs7, b7⟩ := h6.obj
  refine u_xcallV (val := vI) 4 1 [.int 0] (c_X4_count (xl X) hfl p 0) gL_law_X4_count rfl dv_X4_count (by decide) (by decide) rfl rfl dL_law_257 (Nat.le_of_ble_eq_true rfl) rfl b7 e7 (h7.bb hB) rfl ?_
  rw [u1]
  refine v_iload 0 dL_law_260 rfl ?_
  refine v_icmp_ne_f 279 dL_law_262 (by decide) rfl ?_
  refine v_aload_n 3 dL_law_265 rfl rfl ?_
  obtain ⟨G8, e8, h8⟩ := h7.rt (F := f_L_mark p) (e := 0) (fun ow P hR => l_mark u2.1 hR)
  refine u_xcallS (val := vL) 1 [.ref p] (c_L_mark (xl X) hfl p) gL_law_L_mark rfl dn_L_mark (by decide) (by decide) rfl dL_law_266 (Nat.le_of_ble_eq_true rfl) rfl e8 (h8.bb hB) rfl ?_
  rw [u1]
  refine v_lload 1 dL_law_269 rfl ?_
  refine v_lcmp dL_law_271 ?_
  rw [lcmp_self]
  refine v_if_ne_f 279 dL_law_272 (by decide) rfl ?_
  refine v_iconst 1 dL_law_275 (by decide) ?_
  refine v_goto 280 dL_law_276 (by decide) ?_
  exact hend _ _ (h8.bb hB)
theorem b150 (hfl : (xl X).stackTraces = false) (hX : va_X b L ys (xs X) (xs X).heap) (hbl : b < (xs X).heap.size) (hbA : ¬ (xA X) b) (hL : L ≤ 260) (hend : ∀ G lv, G.2.2.1 ≤ B.2.2.1 ∧ G.2.2.2 ≤ B.2.2.2 → V X RL cL_law 7 12 474 wsL_law B Q G 280 lv [.int 1]) (hB : C ≤ B.2.2.1 ∧ S ≤ B.2.2.2) (hI : HI p C S G w) (hg : WG w) : V X RL cL_law 7 12 474 wsL_law B Q G 150 [(0, .ref b), (1, .ref p), (2, .int 3), (3, .int 3)] [] := by
  have hw := hg.1
  refine v_iload_n 2 dL_law_150 rfl rfl ?_
  refine v_iconst 3 dL_law_151 (by decide) ?_
  refine v_icmp_ne_f 205 dL_law_152 (by decide) rfl ?_
  refine v_iload_n 3 dL_law_155 rfl rfl ?_
  refine v_iconst 3 dL_law_156 (by decide) ?_
  refine v_icmp_ne_f 205 dL_law_157 (by decide) rfl ?_
  refine v_aload_n 1 dL_law_160 rfl rfl ?_
  refine v_aload_n 0 dL_law_161 rfl rfl ?_
  refine v_bipush 35 dL_law_162 (by decide) ?_
  refine u_cell (j := 35) hfl hX hbl hbA hL (by omega) (hI.bb hB) gL_law_L_cell dn_L_cell (by decide) (by decide) dL_law_164 (Nat.le_of_ble_eq_true rfl) rfl ?_
  obtain ⟨G1, e1, h1⟩ := hI.rt (F := f_L_sound p (cv ys L 35)) (e := 0) (fun ow P hR => l_sound hw hg.2.1 hR)
  refine u_xcallS (val := vI) 2 [.ref p, .int (cv ys L 35)] (c_L_sound (xl X) hfl p (cv ys L 35)) gL_law_L_sound rfl dn_L_sound (by decide) (by decide) rfl dL_law_167 (Nat.le_of_ble_eq_true rfl) rfl e1 (h1.bb hB) rfl ?_
  refine v_if_eq_f 205 dL_law_170 (by decide) (by decide) ?_
  refine v_aload_n 1 dL_law_173 rfl rfl ?_
  refine v_aload_n 0 dL_law_174 rfl rfl ?_
  refine v_bipush 36 dL_law_175 (by decide) ?_
  refine u_cell (j := 36) hfl hX hbl hbA hL (by omega) (h1.bb hB) gL_law_L_cell dn_L_cell (by decide) (by decide) dL_law_177 (Nat.le_of_ble_eq_true rfl) rfl ?_
  refine v_aload_n 0 dL_law_180 rfl rfl ?_
  refine v_bipush 37 dL_law_181 (by decide) ?_
  refine u_cell (j := 37) hfl hX hbl hbA hL (by omega) (h1.bb hB) gL_law_L_cell dn_L_cell (by decide) (by decide) dL_law_183 (Nat.le_of_ble_eq_true rfl) rfl ?_
  obtain ⟨z, w2, G2, e2, h2, rfl, hg2⟩ := h1.rp (fun ow P hR => l_runs hg hR (q1 := cv ys L 36) (q2 := cv ys L 37))
  refine u_xcallS (val := vI) 3 [.ref p, .int (cv ys L 36), .int (cv ys L 37)] (c_L_runs (xl X) hfl p (cv ys L 36) (cv ys L 37)) gL_law_L_runs rfl dn_L_runs (by decide) (by decide) rfl dL_law_186 (Nat.le_of_ble_eq_true rfl) rfl e2 (h2.bb hB) rfl ?_
  refine v_if_eq_f 205 dL_law_189 (by decide) (by decide) ?_
  refine v_aload_n 1 dL_law_192 rfl rfl ?_
  refine v_aload_n 0 dL_law_193 rfl rfl ?_
  refine v_bipush 38 dL_law_194 (by decide) ?_
  refine u_cell (j := 38) hfl hX hbl hbA hL (by omega) (h2.bb hB) gL_law_L_cell dn_L_cell (by decide) (by decide) dL_law_196 (Nat.le_of_ble_eq_true rfl) rfl ?_
  obtain ⟨G3, e3, h3⟩ := h2.rt (F := f_L_sound p (cv ys L 38)) (e := 0) (fun ow P hR => l_sound hg2.1 hg2.2.1 hR)
  refine u_xcallS (val := vI) 2 [.ref p, .int (cv ys L 38)] (c_L_sound (xl X) hfl p (cv ys L 38)) gL_law_L_sound rfl dn_L_sound (by decide) (by decide) rfl dL_law_199 (Nat.le_of_ble_eq_true rfl) rfl e3 (h3.bb hB) rfl ?_
  refine v_if_ne_t 207 dL_law_202 (by decide) (by decide) ?_
  exact v_sub [0, 1] rfl (b207 hfl hX hbl hbA hL hend hB h3 hg2)
theorem b120 (hfl : (xl X).stackTraces = false) (hNX : NX (xs X)) (hX : va_X b L ys (xs X) (xs X).heap) (hbl : b < (xs X).heap.size) (hbA : ¬ (xA X) b) (hL : L ≤ 260) (hend : ∀ G lv, G.2.2.1 ≤ B.2.2.1 ∧ G.2.2.2 ≤ B.2.2.2 → V X RL cL_law 7 12 474 wsL_law B Q G 280 lv [.int 1]) (hB4 : C + 80000 ≤ B.2.2.1 ∧ S + 2000000 ≤ B.2.2.2) : ∀ (d k : Nat) (G : GH) (w : WW), k + d = 35 → HI p (C + 2085 * k) (S + 53120 * k) G w → WG w → V X RL cL_law 7 12 474 wsL_law B Q G 120 [(4, .int (iI (k : Int))), (0, .ref b), (1, .ref p), (2, .int 3), (3, .int 3)] []
  | 0, k, G, w, hkd, hI, hg => by
    have hB0 : C + 2085 * k ≤ B.2.2.1 ∧ S + 53120 * k ≤ B.2.2.2 := ⟨by omega, by omega⟩
    refine v_iload 0 dL_law_120 rfl ?_
    refine v_bipush 34 dL_law_122 (by decide) ?_
    refine v_icmp_ge_t 150 dL_law_124 (by decide) (i_le (a := 34) rfl rfl (by omega)) ?_
    exact v_sub [1, 2, 3, 4] rfl (b150 hfl hX hbl hbA hL hend hB0 hI hg)
  | d + 1, k, G, w, hkd, hI, hg => by
    refine v_iload 0 dL_law_120 rfl ?_
    refine v_bipush 34 dL_law_122 (by decide) ?_
    by_cases hk : 34 ≤ k
    · have hB0 : C + 2085 * k ≤ B.2.2.1 ∧ S + 53120 * k ≤ B.2.2.2 := ⟨by omega, by omega⟩
      refine v_icmp_ge_t 150 dL_law_124 (by decide) (i_le (a := 34) rfl rfl (by omega)) ?_
      exact v_sub [1, 2, 3, 4] rfl (b150 hfl hX hbl hbA hL hend hB0 hI hg)
    · have hB : C + 2085 * k ≤ B.2.2.1 ∧ S + 53120 * k ≤ B.2.2.2 := ⟨by omega, by omega⟩
      refine v_icmp_ge_f 150 dL_law_124 (by decide) (i_nle (a := 34) rfl rfl (by omega)) ?_
      refine v_aload_n 2 dL_law_127 rfl rfl ?_
      refine v_aload_n 1 dL_law_128 rfl rfl ?_
      refine v_iconst 1 dL_law_129 (by decide) ?_
      refine v_iload 0 dL_law_130 rfl ?_
      refine v_iadd dL_law_132 ?_
      rw [show (1 : Int32) + iI (k : Int) = iI ((k + 1 : Nat) : Int) by rw [lz1, iI_add, Int.add_comm]; rfl]
      refine u_cell (j := k + 1) hfl hX hbl hbA hL (by omega) (hI.bb hB) gL_law_L_cell dn_L_cell (by decide) (by decide) dL_law_133 (Nat.le_of_ble_eq_true rfl) rfl ?_
      refine u_acts hfl hNX hI hg ⟨by omega, by omega⟩ gL_law_L_acts dn_L_acts (by decide) (by decide) dL_law_136 (Nat.le_of_ble_eq_true rfl) rfl (fun G2 w2 h2 hg2 => ?_)
      refine v_if_ne_t 144 dL_law_139 (by decide) (by decide) ?_
      refine v_iinc 0 (iI ((k + 1 : Nat) : Int)) [(4, .int (iI ((k + 1 : Nat) : Int))), (0, .ref b), (1, .ref p), (2, .int 3), (3, .int 3)] dL_law_144 rfl (iI_s k) (by decide) rfl ?_
      refine v_goto 120 dL_law_147 (by decide) ?_
      exact b120 hfl hNX hX hbl hbA hL hend hB4 d (k + 1) G2 w2 (by omega) (h2.up (by omega) (by omega)) hg2
theorem b8 (hfl : (xl X).stackTraces = false) (hNX : NX (xs X)) (hX : va_X b L ys (xs X) (xs X).heap) (hbl : b < (xs X).heap.size) (hbA : ¬ (xA X) b) (hL : L ≤ 260) (hend : ∀ G lv, G.2.2.1 ≤ B.2.2.1 ∧ G.2.2.2 ≤ B.2.2.2 → V X RL cL_law 7 12 474 wsL_law B Q G 280 lv [.int 1]) (hB4 : C + 80000 ≤ B.2.2.1 ∧ S + 2000000 ≤ B.2.2.2) (hI : HI p C S G w00) : V X RL cL_law 7 12 474 wsL_law B Q G 8 [(1, .ref p), (0, .ref b)] [] := by
  have hB : C ≤ B.2.2.1 ∧ S ≤ B.2.2.2 := ⟨by omega, by omega⟩
  refine v_aload_n 0 dL_law_8 rfl rfl ?_
  refine v_iconst 0 dL_law_9 (by decide) ?_
  obtain ⟨G1, e1, h1⟩ := hI.rt (F := f_X4_count p 0) (e := 0) (fun ow P hR => q_c0 (w := w00) wi_00 hR)
  obtain ⟨fs1, b1⟩ := hI.obj
  refine u_xcallV (val := vI) 4 1 [.int 0] (c_X4_count (xl X) hfl p 0) gL_law_X4_count rfl dv_X4_count (by decide) (by decide) rfl rfl dL_law_10 (Nat.le_of_ble_eq_true rfl) rfl b1 e1 (h1.bb hB) rfl ?_
  refine v_iconst 1 dL_law_13 (by decide) ?_
  refine v_icmp_ne_f 78 dL_law_14 (by decide) rfl ?_
  refine v_aload_n 0 dL_law_17 rfl rfl ?_
  refine v_iconst 1 dL_law_18 (by decide) ?_
  have hch : ∀ ow P, RepC G1 ow p w00 P → RT (f_X4_count p 1) G1 ow p w00 P (.inr 1) w00 0 := fun ow P hR => by
    have t := q_c1 (w := w00) wi_00 hR
    rw [show chF w00.1 w00.1.2.2.1 = 1 from ch_00] at t
    exact t
  obtain ⟨G2, e2, h2⟩ := h1.rt (F := f_X4_count p 1) (e := 0) (fun ow P hR => hch ow P hR)
  obtain ⟨fs2, b2⟩ := h1.obj
  refine u_xcallV (val := vI) 4 1 [.int 1] (c_X4_count (xl X) hfl p 1) gL_law_X4_count rfl dv_X4_count (by decide) (by decide) rfl rfl dL_law_19 (Nat.le_of_ble_eq_true rfl) rfl b2 e2 (h2.bb hB) rfl ?_
  refine v_iconst 1 dL_law_22 (by decide) ?_
  refine v_icmp_ne_f 78 dL_law_23 (by decide) rfl ?_
  refine v_aload_n 0 dL_law_26 rfl rfl ?_
  refine v_iconst 0 dL_law_27 (by decide) ?_
  obtain ⟨G3, e3, h3⟩ := h2.rt (F := f_X4_setting p 0) (e := 0) (fun ow P hR => q_set0 (w := w00) wi_00 hR)
  obtain ⟨fs3, b3⟩ := h2.obj
  refine u_xcallV (val := vI) 4 1 [.int 0] (c_X4_setting (xl X) hfl p 0) gL_law_X4_setting rfl dv_X4_setting (by decide) (by decide) rfl rfl dL_law_28 (Nat.le_of_ble_eq_true rfl) rfl b3 e3 (h3.bb hB) rfl ?_
  refine v_iconst 3 dL_law_31 (by decide) ?_
  refine v_icmp_ne_f 78 dL_law_32 (by decide) rfl ?_
  refine v_aload_n 0 dL_law_35 rfl rfl ?_
  refine v_iconst 1 dL_law_36 (by decide) ?_
  obtain ⟨G4, e4, h4⟩ := h3.rt (F := f_X4_setting p 1) (e := 0) (fun ow P hR => q_set1 (w := w00) wi_00 hR)
  obtain ⟨fs4, b4⟩ := h3.obj
  refine u_xcallV (val := vI) 4 1 [.int 1] (c_X4_setting (xl X) hfl p 1) gL_law_X4_setting rfl dv_X4_setting (by decide) (by decide) rfl rfl dL_law_37 (Nat.le_of_ble_eq_true rfl) rfl b4 e4 (h4.bb hB) rfl ?_
  refine v_iconst 3 dL_law_40 (by decide) ?_
  refine v_icmp_ne_f 78 dL_law_41 (by decide) rfl ?_
  refine v_aload_n 0 dL_law_44 rfl rfl ?_
  refine v_iconst 0 dL_law_45 (by decide) ?_
  obtain ⟨G5, e5, h5⟩ := h4.rt (F := f_X4_run p 0) (e := 0) (fun ow P hR => q_run (w := w00) (v := 0) wi_00 hR rfl (by decide) rfl)
  obtain ⟨fs5, b5⟩ := h4.obj
  refine u_xcallV (val := vI) 4 1 [.int 0] (c_X4_run (xl X) hfl p 0) gL_law_X4_run rfl dv_X4_run (by decide) (by decide) rfl rfl dL_law_46 (Nat.le_of_ble_eq_true rfl) rfl b5 e5 (h5.bb hB) rfl ?_
  refine v_if_ne_f 78 dL_law_49 (by decide) rfl ?_
  refine v_aload_n 0 dL_law_52 rfl rfl ?_
  obtain ⟨u1, u2, u3⟩ := un_save wg_00 (s := s00) si_00 s00_sj
  obtain ⟨G6, e6, h6⟩ := h5.rt (F := f_X4_undo p) (e := 0) (fun ow P hR => q_undo (w := wSave w00 s00) (wg_save wg_00 si_00 s00_sj).1 hR u3)
  obtain ⟨fs6, b6⟩ := h5.obj
  refine u_xcallV (val := vI) 4 0 [] (c_X4_undo (xl X) hfl p) gL_law_X4_undo rfl dv_X4_undo (by decide) (by decide) rfl rfl dL_law_53 (Nat.le_of_ble_eq_true rfl) rfl b6 e6 (h6.bb hB) rfl ?_
  refine v_if_ne_f 78 dL_law_56 (by decide) rfl ?_
  refine v_aload_n 0 dL_law_59 rfl rfl ?_
  refine v_iconst 0 dL_law_60 (by decide) ?_
  have ht : (wT (unW (wSave w00 s00))).1 = -1 := rfl
  have hv : 0 < (unW (wSave w00 s00)).1.2.2.1 := by rw [u1]; decide
  obtain ⟨G7, e7, h7⟩ := h6.rt (F := f_X4_leastRate p 0) (e := 0) (fun ow P hR => q_least (w := unW (wSave w00 s00)) (v := 0) u2.1 hR rfl hv ht)
  obtain ⟨fs7, b7⟩ := h6.obj
  refine u_xcallV (val := vI) 4 1 [.int 0] (c_X4_leastRate (xl X) hfl p 0) gL_law_X4_leastRate rfl dv_X4_leastRate (by decide) (by decide) rfl rfl dL_law_61 (Nat.le_of_ble_eq_true rfl) rfl b7 e7 (h7.bb hB) rfl ?_
  refine v_iconst 1 dL_law_64 (by decide) ?_
  refine v_icmp_ne_f 78 dL_law_65 (by decide) rfl ?_
  refine v_aload_n 0 dL_law_68 rfl rfl ?_
  refine v_iconst 0 dL_law_69 (by decide) ?_
  refine v_bipush 9 dL_law_70 (by decide) ?_
  obtain ⟨G8, e8, h8⟩ := h7.rt (F := f_X4_worstWith p 0 9) (e := 0) (fun ow P hR => q_worstWith (w := unW (wSave w00 s00)) (v := 0) (r := 9) u2.1 hR rfl rfl hv (by decide) ht)
  obtain ⟨fs8, b8⟩ := h7.obj
  refine u_xcallV (val := vI) 4 2 [.int 0, .int 9] (c_X4_worstWith (xl X) hfl p 0 9) gL_law_X4_worstWith rfl dv_X4_worstWith (by decide) (by decide) rfl rfl dL_law_72 (Nat.le_of_ble_eq_true rfl) rfl b8 e8 (h8.bb hB) rfl ?_
  refine v_if_eq_t 80 dL_law_75 (by decide) rfl ?_
  refine v_aload_n 0 dL_law_80 rfl rfl ?_
  refine v_iconst 1 dL_law_81 (by decide) ?_
  refine v_iconst 2 dL_law_82 (by decide) ?_
  refine v_aload_n 1 dL_law_83 rfl rfl ?_
  refine v_iconst 0 dL_law_84 (by decide) ?_
  generalize hw2 : unW (wSave w00 s00) = w2 at *
  have hr0 : w2.1.2.1 = 3 := by rw [u1]; rfl
  have hr1 : w2.1.1 = 3 := by rw [u1]; rfl
  refine u_cell (j := 0) hfl hX hbl hbA hL (by omega) (h8.bb hB) gL_law_L_cell dn_L_cell (by decide) (by decide) dL_law_85 (Nat.le_of_ble_eq_true rfl) rfl ?_
  refine v_iconst 4 dL_law_88 (by decide) ?_
  obtain ⟨k1, k1_lt, k1_e⟩ := q_up (x := (cv ys L 0)) (y := 4) (n := 4) rfl (by decide) G8
  refine u_callS (val := vI) 2 [.int (cv ys L 0), .int 4] (c_L_up (xl X) hfl (cv ys L 0) 4) gL_law_L_up rfl dn_L_up (by decide) (by decide) rfl dL_law_89 (Nat.le_of_ble_eq_true rfl) rfl k1_e (h8.bb hB) rfl ?_
  refine v_iadd dL_law_92 ?_
  have hok : okS 1 (2 + (k1 : Int)) = true := decide_eq_true (Or.inr ⟨rfl, by omega, by omega⟩)
  obtain ⟨G9, e9, h9⟩ := h8.rt (F := f_X4_set p 1 (2 + iI (k1 : Int))) (e := 0) (fun ow P hR => q_set (k := 1) (x := 2 + (k1 : Int)) u2.1 hR lz1 (by rw [lz2, iI_add]) hok)
  obtain ⟨fs9, b9⟩ := h8.obj
  refine u_xcallV (val := vI) 4 2 [.int 1, .int (2 + iI (k1 : Int))] (c_X4_set (xl X) hfl p 1 (2 + iI (k1 : Int))) gL_law_X4_set rfl dv_X4_set (by decide) (by decide) rfl rfl dL_law_93 (Nat.le_of_ble_eq_true rfl) rfl b9 e9 (h9.bb hB) rfl ?_
  have hg3 := wg_save u2 (si_set u2.1.1 hok) (sj_set u2.2.1)
  refine v_istore_n [(2, .int (iI w2.1.2.1)), (1, .ref p), (0, .ref b)] dL_law_96 rfl (by decide) rfl ?_
  refine v_aload_n 1 dL_law_97 rfl rfl ?_
  refine v_iconst 0 dL_law_98 (by decide) ?_
  refine v_iconst 1 dL_law_99 (by decide) ?_
  refine v_aload_n 2 dL_law_100 rfl rfl ?_
  refine v_iconst 0 dL_law_101 (by decide) ?_
  refine u_cell (j := 0) hfl hX hbl hbA hL (by omega) (h9.bb hB) gL_law_L_cell dn_L_cell (by decide) (by decide) dL_law_102 (Nat.le_of_ble_eq_true rfl) rfl ?_
  refine v_iconst 3 dL_law_105 (by decide) ?_
  refine v_ishr dL_law_106 ?_
  refine v_bipush 9 dL_law_107 (by decide) ?_
  obtain ⟨k2, k2_lt, k2_e⟩ := q_up (x := ((cv ys L 0) >>> (3 &&& 31))) (y := 9) (n := 9) rfl (by decide) G9
  refine u_callS (val := vI) 2 [.int ((cv ys L 0) >>> (3 &&& 31)), .int 9] (c_L_up (xl X) hfl ((cv ys L 0) >>> (3 &&& 31)) 9) gL_law_L_up rfl dn_L_up (by decide) (by decide) rfl dL_law_109 (Nat.le_of_ble_eq_true rfl) rfl k2_e (h9.bb hB) rfl ?_
  refine v_iadd dL_law_112 ?_
  have hok2 : okS 0 (1 + (k2 : Int)) = true := decide_eq_true (Or.inl ⟨rfl, by omega, by omega⟩)
  obtain ⟨G10, e10, h10⟩ := h9.rt (F := f_X4_set p 0 (1 + iI (k2 : Int))) (e := 0) (fun ow P hR => q_set (k := 0) (x := 1 + (k2 : Int)) hg3.1 hR lz0 (by rw [lz1, iI_add]) hok2)
  obtain ⟨fs10, b10⟩ := h9.obj
  refine u_xcallV (val := vI) 4 2 [.int 0, .int (1 + iI (k2 : Int))] (c_X4_set (xl X) hfl p 0 (1 + iI (k2 : Int))) gL_law_X4_set rfl dv_X4_set (by decide) (by decide) rfl rfl dL_law_113 (Nat.le_of_ble_eq_true rfl) rfl b10 e10 (h10.bb hB) rfl ?_
  have hg4 := wg_save hg3 (si_set hg3.1.1 hok2) (sj_set hg3.2.1)
  refine v_istore_n [(3, .int (iI w2.1.1)), (2, .int (iI w2.1.2.1)), (1, .ref p), (0, .ref b)] dL_law_116 rfl (by decide) rfl ?_
  refine v_iconst 0 dL_law_117 (by decide) ?_
  refine v_istore [(4, .int 0), (3, .int (iI w2.1.1)), (2, .int (iI w2.1.2.1)), (1, .ref p), (0, .ref b)] dL_law_118 (by decide) rfl ?_
  have e1 : iI (if (1 : Int) = 0 then w2.1.1 else w2.1.2.1) = 3 := by
    rw [if_neg (by decide), hr0]
    rfl
  have e2 : iI (if (0 : Int) = 0 then (wSave w2 (sSet w2.1 1 (2 + (k1 : Int)))).1.1 else (wSave w2 (sSet w2.1 1 (2 + (k1 : Int)))).1.2.1) = 3 := by
    rw [if_pos rfl]
    show iI w2.1.1 = 3
    rw [hr1]
    rfl
  refine v_sub [0, 4, 3, 2, 1] rfl ?_
  have t := b120 hfl hNX hX hbl hbA hL hend hB4 35 0 _ _ (by omega) (h10.up (by omega) (by omega)) hg4
  show V X RL cL_law 7 12 474 wsL_law B Q _ 120 [(4, .int 0), (0, .ref b), (1, .ref p), (2, .int (iI w2.1.2.1)), (3, .int (iI w2.1.1))] []
  rw [show iI w2.1.2.1 = 3 by rw [hr0]; rfl, show iI w2.1.1 = 3 by rw [hr1]; rfl]
  exact t
end LawW
