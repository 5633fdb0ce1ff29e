/-! LAW 6: printed by gen/cases.py: the law's cases. -/
theorem add_in {L x : Nat} (h : x < L) (hL : L ≤ 2048) : vp_in (iI (x : Int)) L := by
  intro h2
  rcases h2 with h2 | h2
  · rw [lz0, iI_lt (by omega) (by omega) (by omega) (by omega)] at h2
    omega
  · rw [iI_cl (by omega) (by omega)] at h2
    omega
section Varg
variable {X : VX} {own : String} {cc : ByteArray} {nL fr lo : Nat} {Ts : List Cond} {B : VB} {Q : State → Prop} {G : GH} {pc : Nat} {lv : List (Nat × Value)} {st : List Value}
theorem v_gw (k : (∀ a, G.1 a ≠ none → a < G.2.1) → V X own cc nL fr lo Ts B Q G pc lv st) : V X own cc nL fr lo Ts B Q G pc lv st := fun D K H ls locs hI hl => k hI.1.2.2 D K H ls locs hI hl
theorem u_arg {b L jj : Nat} {ys : Nat → Int32} {n : Int} {x : Int32} (P0 P5 c : Nat) (hX : va_X b L ys (xs X) (xs X).heap) (hbl : b < (xs X).heap.size) (hbA : ¬ (xA X) b) (hL : L ≤ 2048) (hj : 4 * jj + 4 ≤ L) (hc : c < 4) (hn : n = (c : Int)) (hx : ys (4 * jj + c) = x) (h0 : lv[P0]? = some (0, .ref b)) (h5 : lv[P5]? = some (5, .int (iI ((4 * jj : Nat) : Int)))) (d0 : decode cc pc = .ok (.aload_n 0, 1)) (d1 : decode cc (pc + 1) = .ok (.iload 5, 2)) (d2 : decode cc (pc + 1 + 2) = .ok (.iconst n, 1)) (d3 : decode cc (pc + 1 + 2 + 1) = .ok (.iadd, 1)) (d4 : decode cc (pc + 1 + 2 + 1 + 1) = .ok (.iaload, 1)) (k : V X own cc nL fr lo Ts B Q G (pc + 1 + 2 + 1 + 1 + 1) lv (.int x :: st)) : V X own cc nL fr lo Ts B Q G pc lv st := by
  subst hn
  refine v_aload_n P0 d0 rfl h0 ?_
  refine v_iload P5 d1 h5 ?_
  refine v_iconst (iI (c : Int)) d2 rfl ?_
  refine v_iadd d3 ?_
  rw [iI_add, show ((4 * jj : Nat) : Int) + (c : Int) = ((4 * jj + c : Nat) : Int) by omega]
  refine u_sld hX hbl hbA (add_in (by omega) hL) d4 ?_
  rw [iI_cl (by omega) (by omega), show (((4 * jj + c : Nat) : Int)).toNat = 4 * jj + c by omega, hx]
  exact k
theorem u_bl {v : Int32} (d0 : decode cc pc = .ok (.ifCond .eq 7, 3)) (d1 : decode cc (pc + 3) = .ok (.iconst 1, 1)) (d2 : decode cc (pc + 3 + 1) = .ok (.goto 4, 3)) (d3 : decode cc (pc + 7) = .ok (.iconst 0, 1)) (k : V X own cc nL fr lo Ts B Q G (pc + 7 + 1) lv (.int (iI (b2i (v != 0))) :: st)) : V X own cc nL fr lo Ts B Q G pc lv (.int v :: st) := by
  rw [← b2i_ne] at k
  by_cases h : v = 0
  · rw [if_pos h] at k
    refine v_if_eq_t (pc + 7) d0 (by omega) h ?_
    exact v_iconst 0 d3 (by decide) k
  · rw [if_neg h] at k
    refine v_if_eq_f (pc + 7) d0 (by omega) h ?_
    refine v_iconst 1 d1 (by decide) ?_
    exact v_goto (pc + 7 + 1) d2 (by omega) k
end Varg
section Vcase
variable {X : VX} {B : VB} {Q : State → Prop} {G : GH} {b L p m oL oD jj : Nat} {ys : Nat → Int32} {w : WW} {C S : Nat}
theorem u_thr {fs2 : List Value} {k : Int32} {pc : Nat} {lv : List (Nat × Value)} (P2 P6 : Nat) (hfl : (xl X).stackTraces = false) (hB : G.2.2.1 ≤ B.2.2.1 ∧ G.2.2.2 ≤ B.2.2.2) (hm2 : G.1 m = some (.inr (5, fs2))) (h7 : (f_X5_thrown m).1 G = some (k, G)) (h2 : lv[P2]? = some (2, .ref m)) (h6 : lv[P6]? = some (6, .int k)) (d0 : decode cL_law pc = .ok (.aload_n 2, 1)) (d1 : decode cL_law (pc + 1) = .ok (.invokevirtual 97, 3)) (d2 : decode cL_law (pc + 4) = .ok (.iload 6, 2)) (d3 : decode cL_law (pc + 6) = .ok (.if_icmp .eq 5, 3)) (kk : V X RL cL_law 9 11 390 wsL_law B Q G (pc + 11) lv []) : V X RL cL_law 9 11 390 wsL_law B Q G pc lv [] := by
  refine v_aload_n P2 d0 rfl h2 ?_
  refine u_callV (val := vI) 5 0 [] (c_X5_thrown (xl X) hfl m) gL_law_X5_thrown rfl (by decide +kernel) (by decide) (by decide) rfl rfl d1 (Nat.le_of_ble_eq_true rfl) rfl hm2 h7 hB rfl ?_
  refine v_iload P6 d2 h6 ?_
  exact v_icmp_eq_t (pc + 11) d3 (by omega) rfl kk
theorem u_cmp {fs2 : List Value} {k bv : Int32} {off : Int} {pc : Nat} (hfl : (xl X).stackTraces = false) (hB : G.2.2.1 ≤ B.2.2.1 ∧ G.2.2.2 ≤ B.2.2.2) (hm2 : G.1 m = some (.inr (5, fs2))) (h7 : (f_X5_thrown m).1 G = some (k, G)) (h8 : k = 0 → (mall oL 0).1 G = some (bv.toInt64, G)) (d0 : decode cL_law pc = .ok (.istore 7, 2)) (d2 : decode cL_law (pc + 2) = .ok (.aload_n 2, 1)) (d3 : decode cL_law (pc + 2 + 1) = .ok (.invokevirtual 97, 3)) (d6 : decode cL_law (pc + 2 + 4) = .ok (.iload 6, 2)) (d8 : decode cL_law (pc + 2 + 6) = .ok (.if_icmp .eq 5, 3)) (d13 : decode cL_law (pc + 13) = .ok (.iload 6, 2)) (d15 : decode cL_law (pc + 15) = .ok (.ifCond .ne 15, 3)) (d18 : decode cL_law (pc + 18) = .ok (.aload_n 3, 1)) (d19 : decode cL_law (pc + 19) = .ok (.iconst 0, 1)) (d20 : decode cL_law (pc + 20) = .ok (.laload, 1)) (d21 : decode cL_law (pc + 21) = .ok (.iload 7, 2)) (d23 : decode cL_law (pc + 23) = .ok (.i2l, 1)) (d24 : decode cL_law (pc + 24) = .ok (.lcmp, 1)) (d25 : decode cL_law (pc + 25) = .ok (.ifCond .eq 5, 3)) (d30 : decode cL_law (pc + 30) = .ok (.goto off, 3)) (hoff : ((pc + 30 : Nat) : Int) + off = ((1540 : Nat) : Int))
    (kk : V X RL cL_law 9 11 390 wsL_law B Q G 1540 [(5, .int (iI ((4 * jj : Nat) : Int))), (0, .ref b), (1, .ref p), (2, .ref m), (3, .ref oL), (4, .ref oD)] []) : V X RL cL_law 9 11 390 wsL_law B Q G pc ((6, .int k) :: [(5, .int (iI ((4 * jj : Nat) : Int))), (0, .ref b), (1, .ref p), (2, .ref m), (3, .ref oL), (4, .ref oD)]) [.int bv] := by
  refine v_istore ((7, .int bv) :: (6, .int k) :: [(5, .int (iI ((4 * jj : Nat) : Int))), (0, .ref b), (1, .ref p), (2, .ref m), (3, .ref oL), (4, .ref oD)]) d0 (by decide) rfl ?_
  refine u_thr 5 1 hfl hB hm2 h7 rfl rfl d2 d3 d6 d8 ?_
  have hend : V X RL cL_law 9 11 390 wsL_law B Q G (pc + 30) ((7, .int bv) :: (6, .int k) :: [(5, .int (iI ((4 * jj : Nat) : Int))), (0, .ref b), (1, .ref p), (2, .ref m), (3, .ref oL), (4, .ref oD)]) [] := v_goto 1540 d30 hoff (v_sub [2, 3, 4, 5, 6, 7] rfl kk)
  refine v_iload 1 d13 rfl ?_
  by_cases hk : k = 0
  · refine v_if_ne_f (pc + 30) d15 (by omega) hk ?_
    refine v_aload_n 6 d18 rfl rfl ?_
    refine v_iconst 0 d19 (by decide) ?_
    refine u_lald d20 (h8 hk) ?_
    refine v_iload 0 d21 rfl ?_
    refine v_i2l d23 ?_
    refine u_lcmp0 rfl d24 ?_
    exact v_if_eq_t (pc + 30) d25 (by omega) rfl hend
  · exact v_if_ne_t (pc + 30) d15 (by omega) hk hend
end Vcase
theorem lc_set {X : VX} {B : VB} {Q : State → Prop} {G : GH} {b : Nat} {L : Nat} {p : Nat} {m : Nat} {oL : Nat} {oD : Nat} {jj : Nat} {ys : Nat → Int32} {w : WW} {C : Nat} {S : Nat} (hfl : (xl X).stackTraces = false) (hN : NX (xs X)) (hX : va_X b L ys (xs X) (xs X).heap) (hbl : b < (xs X).heap.size) (hbA : ¬ (xA X) b) (hL : L ≤ 2048) (hj : 4 * jj + 4 ≤ L) (hw : WI w) (hI : LI2 G p m oL oD w w C S) (hBC : C + 1 ≤ B.2.2.1 ∧ S + 6 ≤ B.2.2.2) (hT : ∀ G' w', WI w' → LI2 G' p m oL oD w' w' (C + 1) (S + 6) → V X RL cL_law 9 11 390 wsL_law B Q G' 1540 [(5, .int (iI ((4 * jj : Nat) : Int))), (0, .ref b), (1, .ref p), (2, .ref m), (3, .ref oL), (4, .ref oD)] []) : V X RL cL_law 9 11 390 wsL_law B Q G 156 [(5, .int (iI ((4 * jj : Nat) : Int))), (0, .ref b), (1, .ref p), (2, .ref m), (3, .ref oL), (4, .ref oD)] [] := by
  obtain ⟨a1, ha1, ea1⟩ := arg_of (ys (4 * jj + 1))
  obtain ⟨a2, ha2, ea2⟩ := arg_of (ys (4 * jj + 2))
  obtain ⟨z, G1, Gu, h1, h2, h3, h4, h5⟩ := ls_step (F := f_X4_set p (iI a1) (iI a2)) (FR := f_X5_set m (iI a1) (iI a2)) (tb := [(exA, 1)]) (fun v => v.toInt64) hI (wi_nset hw) (fun ow P hr => (c_set hw hr ha1 ha2).rt) (fun H ad z c hi h0 h => by subst h0; exact r_set hi hw h ha1 ha2) (tb1)
  refine v_aload_n 2 dL_law_156 rfl rfl ?_
  refine u_arg 1 0 1 hX hbl hbA hL hj (by decide) rfl ea1 rfl rfl dL_law_157 dL_law_158 dL_law_160 dL_law_161 dL_law_162 ?_
  refine u_arg 1 0 2 hX hbl hbA hL hj (by decide) rfl ea2 rfl rfl dL_law_163 dL_law_164 dL_law_166 dL_law_167 dL_law_168 ?_
  refine v_aload_n 4 dL_law_169 rfl rfl ?_
  refine u_wrap (x := p) 4 [.ref p, .int (iI a1), .int (iI a2), .ref oL] (c_L_set (xl X) hfl p (iI a1) (iI a2) oL) gL_law_L_set rfl (by decide +kernel) (by decide) (by decide) rfl dL_law_170 (Nat.le_of_ble_eq_true rfl) rfl hN hI.obj.1 h1 h2 h3 ⟨Nat.le_trans h4.1 hBC.1, Nat.le_trans h4.2 hBC.2⟩ (fun n hn => ?_)
  obtain ⟨H2, fs, fs2, hm, h6, hm2, h7, h8, h9⟩ := h5 n hn
  have hB2 : H2.2.2.1 ≤ B.2.2.1 ∧ H2.2.2.2 ≤ B.2.2.2 := ⟨Nat.le_trans h9.le.1 hBC.1, Nat.le_trans h9.le.2 hBC.2⟩
  refine v_istore ((6, _) :: [(5, .int (iI ((4 * jj : Nat) : Int))), (0, .ref b), (1, .ref p), (2, .ref m), (3, .ref oL), (4, .ref oD)]) dL_law_173 (by decide) rfl ?_
  refine v_aload_n 4 dL_law_175 rfl rfl ?_
  refine u_arg 2 1 1 hX hbl hbA hL hj (by decide) rfl ea1 rfl rfl dL_law_176 dL_law_177 dL_law_179 dL_law_180 dL_law_181 ?_
  refine u_arg 2 1 2 hX hbl hbA hL hj (by decide) rfl ea2 rfl rfl dL_law_182 dL_law_183 dL_law_185 dL_law_186 dL_law_187 ?_
  refine u_callV (val := vI) 5 2 [.int (iI a1), .int (iI a2)] (c_X5_set (xl X) hfl m (iI a1) (iI a2)) gL_law_X5_set rfl (by decide +kernel) (by decide) (by decide) rfl rfl dL_law_188 (Nat.le_of_ble_eq_true rfl) rfl hm h6 hB2 rfl ?_
  exact u_cmp hfl hB2 hm2 h7 h8 dL_law_191 dL_law_193 dL_law_194 dL_law_197 dL_law_199 dL_law_204 dL_law_206 dL_law_209 dL_law_210 dL_law_211 dL_law_212 dL_law_214 dL_law_215 dL_law_216 dL_law_221 (by decide) (hT _ _ (wi_nset hw) h9)
theorem lc_push {X : VX} {B : VB} {Q : State → Prop} {G : GH} {b : Nat} {L : Nat} {p : Nat} {m : Nat} {oL : Nat} {oD : Nat} {jj : Nat} {ys : Nat → Int32} {w : WW} {C : Nat} {S : Nat} (hfl : (xl X).stackTraces = false) (hN : NX (xs X)) (hX : va_X b L ys (xs X) (xs X).heap) (hbl : b < (xs X).heap.size) (hbA : ¬ (xA X) b) (hL : L ≤ 2048) (hj : 4 * jj + 4 ≤ L) (hw : WI w) (hI : LI2 G p m oL oD w w C S) (hBC : C + 1 ≤ B.2.2.1 ∧ S + 6 ≤ B.2.2.2) (hT : ∀ G' w', WI w' → LI2 G' p m oL oD w' w' (C + 1) (S + 6) → V X RL cL_law 9 11 390 wsL_law B Q G' 1540 [(5, .int (iI ((4 * jj : Nat) : Int))), (0, .ref b), (1, .ref p), (2, .ref m), (3, .ref oL), (4, .ref oD)] []) : V X RL cL_law 9 11 390 wsL_law B Q G 224 [(5, .int (iI ((4 * jj : Nat) : Int))), (0, .ref b), (1, .ref p), (2, .ref m), (3, .ref oL), (4, .ref oD)] [] := by
  obtain ⟨a1, ha1, ea1⟩ := arg_of (ys (4 * jj + 1))
  obtain ⟨a2, ha2, ea2⟩ := arg_of (ys (4 * jj + 2))
  obtain ⟨z, G1, Gu, h1, h2, h3, h4, h5⟩ := ls_step (F := f_X4_push p (iI a1) (iI a2) (iI (b2i (ys (4 * jj + 3) != 0)))) (FR := f_X5_push m (iI a1) (iI a2) (iI (b2i (ys (4 * jj + 3) != 0)))) (tb := [(exI, 1), (exA, 2), (exS, 3)]) (fun v => v.toInt64) hI (wi_npush hw _) (fun ow P hr => (c_push hw hr ha1 ha2 _).rt) (fun H ad z c hi h0 h => by subst h0; exact r_push hi hw h ha1 ha2 _) (by unfold tPush; exact tb3)
  refine v_aload_n 2 dL_law_224 rfl rfl ?_
  refine u_arg 1 0 1 hX hbl hbA hL hj (by decide) rfl ea1 rfl rfl dL_law_225 dL_law_226 dL_law_228 dL_law_229 dL_law_230 ?_
  refine u_arg 1 0 2 hX hbl hbA hL hj (by decide) rfl ea2 rfl rfl dL_law_231 dL_law_232 dL_law_234 dL_law_235 dL_law_236 ?_
  refine u_arg 1 0 3 hX hbl hbA hL hj (by decide) rfl rfl rfl rfl dL_law_237 dL_law_238 dL_law_240 dL_law_241 dL_law_242 ?_
  refine u_bl dL_law_243 dL_law_246 dL_law_247 dL_law_250 ?_
  refine v_aload_n 4 dL_law_251 rfl rfl ?_
  refine u_wrap (x := p) 5 [.ref p, .int (iI a1), .int (iI a2), .int (iI (b2i (ys (4 * jj + 3) != 0))), .ref oL] (c_L_push (xl X) hfl p (iI a1) (iI a2) (iI (b2i (ys (4 * jj + 3) != 0))) oL) gL_law_L_push rfl (by decide +kernel) (by decide) (by decide) rfl dL_law_252 (Nat.le_of_ble_eq_true rfl) rfl hN hI.obj.1 h1 h2 h3 ⟨Nat.le_trans h4.1 hBC.1, Nat.le_trans h4.2 hBC.2⟩ (fun n hn => ?_)
  obtain ⟨H2, fs, fs2, hm, h6, hm2, h7, h8, h9⟩ := h5 n hn
  have hB2 : H2.2.2.1 ≤ B.2.2.1 ∧ H2.2.2.2 ≤ B.2.2.2 := ⟨Nat.le_trans h9.le.1 hBC.1, Nat.le_trans h9.le.2 hBC.2⟩
  refine v_istore ((6, _) :: [(5, .int (iI ((4 * jj : Nat) : Int))), (0, .ref b), (1, .ref p), (2, .ref m), (3, .ref oL), (4, .ref oD)]) dL_law_255 (by decide) rfl ?_
  refine v_aload_n 4 dL_law_257 rfl rfl ?_
  refine u_arg 2 1 1 hX hbl hbA hL hj (by decide) rfl ea1 rfl rfl dL_law_258 dL_law_259 dL_law_261 dL_law_262 dL_law_263 ?_
  refine u_arg 2 1 2 hX hbl hbA hL hj (by decide) rfl ea2 rfl rfl dL_law_264 dL_law_265 dL_law_267 dL_law_268 dL_law_269 ?_
  refine u_arg 2 1 3 hX hbl hbA hL hj (by decide) rfl rfl rfl rfl dL_law_270 dL_law_271 dL_law_273 dL_law_274 dL_law_275 ?_
  refine u_bl dL_law_276 dL_law_279 dL_law_280 dL_law_283 ?_
  refine u_callV (val := vI) 5 3 [.int (iI a1), .int (iI a2), .int (iI (b2i (ys (4 * jj + 3) != 0)))] (c_X5_push (xl X) hfl m (iI a1) (iI a2) (iI (b2i (ys (4 * jj + 3) != 0)))) gL_law_X5_push rfl (by decide +kernel) (by decide) (by decide) rfl rfl dL_law_284 (Nat.le_of_ble_eq_true rfl) rfl hm h6 hB2 rfl ?_
  exact u_cmp hfl hB2 hm2 h7 h8 dL_law_287 dL_law_289 dL_law_290 dL_law_293 dL_law_295 dL_law_300 dL_law_302 dL_law_305 dL_law_306 dL_law_307 dL_law_308 dL_law_310 dL_law_311 dL_law_312 dL_law_317 (by decide) (hT _ _ (wi_npush hw _) h9)
theorem lc_pop {X : VX} {B : VB} {Q : State → Prop} {G : GH} {b : Nat} {L : Nat} {p : Nat} {m : Nat} {oL : Nat} {oD : Nat} {jj : Nat} {ys : Nat → Int32} {w : WW} {C : Nat} {S : Nat} (hfl : (xl X).stackTraces = false) (hN : NX (xs X)) (hX : va_X b L ys (xs X) (xs X).heap) (hbl : b < (xs X).heap.size) (hbA : ¬ (xA X) b) (hL : L ≤ 2048) (hj : 4 * jj + 4 ≤ L) (hw : WI w) (hI : LI2 G p m oL oD w w C S) (hBC : C + 1 ≤ B.2.2.1 ∧ S + 6 ≤ B.2.2.2) (hT : ∀ G' w', WI w' → LI2 G' p m oL oD w' w' (C + 1) (S + 6) → V X RL cL_law 9 11 390 wsL_law B Q G' 1540 [(5, .int (iI ((4 * jj : Nat) : Int))), (0, .ref b), (1, .ref p), (2, .ref m), (3, .ref oL), (4, .ref oD)] []) : V X RL cL_law 9 11 390 wsL_law B Q G 320 [(5, .int (iI ((4 * jj : Nat) : Int))), (0, .ref b), (1, .ref p), (2, .ref m), (3, .ref oL), (4, .ref oD)] [] := by
  obtain ⟨a1, ha1, ea1⟩ := arg_of (ys (4 * jj + 1))
  obtain ⟨z, G1, Gu, h1, h2, h3, h4, h5⟩ := ls_step (F := f_X4_pop p (iI a1) (iI (b2i (ys (4 * jj + 2) != 0)))) (FR := f_X5_pop m (iI a1) (iI (b2i (ys (4 * jj + 2) != 0)))) (tb := [(exI, 1), (exN, 2), (exS, 3)]) (fun v => v.toInt64) hI (wi_npop hw _) (fun ow P hr => (c_pop hw hr ha1 _).rt) (fun H ad z c hi h0 h => by subst h0; exact r_pop hi hw h ha1 _) (by unfold tPop; exact tb3)
  refine v_aload_n 2 dL_law_320 rfl rfl ?_
  refine u_arg 1 0 1 hX hbl hbA hL hj (by decide) rfl ea1 rfl rfl dL_law_321 dL_law_322 dL_law_324 dL_law_325 dL_law_326 ?_
  refine u_arg 1 0 2 hX hbl hbA hL hj (by decide) rfl rfl rfl rfl dL_law_327 dL_law_328 dL_law_330 dL_law_331 dL_law_332 ?_
  refine u_bl dL_law_333 dL_law_336 dL_law_337 dL_law_340 ?_
  refine v_aload_n 4 dL_law_341 rfl rfl ?_
  refine u_wrap (x := p) 4 [.ref p, .int (iI a1), .int (iI (b2i (ys (4 * jj + 2) != 0))), .ref oL] (c_L_pop (xl X) hfl p (iI a1) (iI (b2i (ys (4 * jj + 2) != 0))) oL) gL_law_L_pop rfl (by decide +kernel) (by decide) (by decide) rfl dL_law_342 (Nat.le_of_ble_eq_true rfl) rfl hN hI.obj.1 h1 h2 h3 ⟨Nat.le_trans h4.1 hBC.1, Nat.le_trans h4.2 hBC.2⟩ (fun n hn => ?_)
  obtain ⟨H2, fs, fs2, hm, h6, hm2, h7, h8, h9⟩ := h5 n hn
  have hB2 : H2.2.2.1 ≤ B.2.2.1 ∧ H2.2.2.2 ≤ B.2.2.2 := ⟨Nat.le_trans h9.le.1 hBC.1, Nat.le_trans h9.le.2 hBC.2⟩
  refine v_istore ((6, _) :: [(5, .int (iI ((4 * jj : Nat) : Int))), (0, .ref b), (1, .ref p), (2, .ref m), (3, .ref oL), (4, .ref oD)]) dL_law_345 (by decide) rfl ?_
  refine v_aload_n 4 dL_law_347 rfl rfl ?_
  refine u_arg 2 1 1 hX hbl hbA hL hj (by decide) rfl ea1 rfl rfl dL_law_348 dL_law_349 dL_law_351 dL_law_352 dL_law_353 ?_
  refine u_arg 2 1 2 hX hbl hbA hL hj (by decide) rfl rfl rfl rfl dL_law_354 dL_law_355 dL_law_357 dL_law_358 dL_law_359 ?_
  refine u_bl dL_law_360 dL_law_363 dL_law_364 dL_law_367 ?_
  refine u_callV (val := vI) 5 2 [.int (iI a1), .int (iI (b2i (ys (4 * jj + 2) != 0)))] (c_X5_pop (xl X) hfl m (iI a1) (iI (b2i (ys (4 * jj + 2) != 0)))) gL_law_X5_pop rfl (by decide +kernel) (by decide) (by decide) rfl rfl dL_law_368 (Nat.le_of_ble_eq_true rfl) rfl hm h6 hB2 rfl ?_
  exact u_cmp hfl hB2 hm2 h7 h8 dL_law_371 dL_law_373 dL_law_374 dL_law_377 dL_law_379 dL_law_384 dL_law_386 dL_law_389 dL_law_390 dL_law_391 dL_law_392 dL_law_394 dL_law_395 dL_law_396 dL_law_401 (by decide) (hT _ _ (wi_npop hw _) h9)
theorem lc_drop {X : VX} {B : VB} {Q : State → Prop} {G : GH} {b : Nat} {L : Nat} {p : Nat} {m : Nat} {oL : Nat} {oD : Nat} {jj : Nat} {ys : Nat → Int32} {w : WW} {C : Nat} {S : Nat} (hfl : (xl X).stackTraces = false) (hN : NX (xs X)) (hX : va_X b L ys (xs X) (xs X).heap) (hbl : b < (xs X).heap.size) (hbA : ¬ (xA X) b) (hL : L ≤ 2048) (hj : 4 * jj + 4 ≤ L) (hw : WI w) (hI : LI2 G p m oL oD w w C S) (hBC : C + 1 ≤ B.2.2.1 ∧ S + 6 ≤ B.2.2.2) (hT : ∀ G' w', WI w' → LI2 G' p m oL oD w' w' (C + 1) (S + 6) → V X RL cL_law 9 11 390 wsL_law B Q G' 1540 [(5, .int (iI ((4 * jj : Nat) : Int))), (0, .ref b), (1, .ref p), (2, .ref m), (3, .ref oL), (4, .ref oD)] []) : V X RL cL_law 9 11 390 wsL_law B Q G 404 [(5, .int (iI ((4 * jj : Nat) : Int))), (0, .ref b), (1, .ref p), (2, .ref m), (3, .ref oL), (4, .ref oD)] [] := by
  obtain ⟨z, G1, Gu, h1, h2, h3, h4, h5⟩ := ls_step (F := f_X4_drop p) (FR := f_X5_drop m) (tb := [(exS, 1)]) (fun v => v.toInt64) hI (wi_ndrop hw) (fun ow P hr => (c_drop hw hr).rt) (fun H ad z c hi h0 h => by subst h0; exact r_drop hi hw h) (tb1)
  refine v_aload_n 2 dL_law_404 rfl rfl ?_
  refine v_aload_n 4 dL_law_405 rfl rfl ?_
  refine u_wrap (x := p) 2 [.ref p, .ref oL] (c_L_drop (xl X) hfl p oL) gL_law_L_drop rfl (by decide +kernel) (by decide) (by decide) rfl dL_law_406 (Nat.le_of_ble_eq_true rfl) rfl hN hI.obj.1 h1 h2 h3 ⟨Nat.le_trans h4.1 hBC.1, Nat.le_trans h4.2 hBC.2⟩ (fun n hn => ?_)
  obtain ⟨H2, fs, fs2, hm, h6, hm2, h7, h8, h9⟩ := h5 n hn
  have hB2 : H2.2.2.1 ≤ B.2.2.1 ∧ H2.2.2.2 ≤ B.2.2.2 := ⟨Nat.le_trans h9.le.1 hBC.1, Nat.le_trans h9.le.2 hBC.2⟩
  refine v_istore ((6, _) :: [(5, .int (iI ((4 * jj : Nat) : Int))), (0, .ref b), (1, .ref p), (2, .ref m), (3, .ref oL), (4, .ref oD)]) dL_law_409 (by decide) rfl ?_
  refine v_aload_n 4 dL_law_411 rfl rfl ?_
  refine u_callV (val := vI) 5 0 [] (c_X5_drop (xl X) hfl m) gL_law_X5_drop rfl (by decide +kernel) (by decide) (by decide) rfl rfl dL_law_412 (Nat.le_of_ble_eq_true rfl) rfl hm h6 hB2 rfl ?_
  exact u_cmp hfl hB2 hm2 h7 h8 dL_law_415 dL_law_417 dL_law_418 dL_law_421 dL_law_423 dL_law_428 dL_law_430 dL_law_433 dL_law_434 dL_law_435 dL_law_436 dL_law_438 dL_law_439 dL_law_440 dL_law_445 (by decide) (hT _ _ (wi_ndrop hw) h9)
theorem lc_version {X : VX} {B : VB} {Q : State → Prop} {G : GH} {b : Nat} {L : Nat} {p : Nat} {m : Nat} {oL : Nat} {oD : Nat} {jj : Nat} {ys : Nat → Int32} {w : WW} {C : Nat} {S : Nat} (hfl : (xl X).stackTraces = false) (hN : NX (xs X)) (hX : va_X b L ys (xs X) (xs X).heap) (hbl : b < (xs X).heap.size) (hbA : ¬ (xA X) b) (hL : L ≤ 2048) (hj : 4 * jj + 4 ≤ L) (hw : WI w) (hI : LI2 G p m oL oD w w C S) (hBC : C + 1 ≤ B.2.2.1 ∧ S + 6 ≤ B.2.2.2) (hT : ∀ G' w', WI w' → LI2 G' p m oL oD w' w' (C + 1) (S + 6) → V X RL cL_law 9 11 390 wsL_law B Q G' 1540 [(5, .int (iI ((4 * jj : Nat) : Int))), (0, .ref b), (1, .ref p), (2, .ref m), (3, .ref oL), (4, .ref oD)] []) : V X RL cL_law 9 11 390 wsL_law B Q G 461 [(5, .int (iI ((4 * jj : Nat) : Int))), (0, .ref b), (1, .ref p), (2, .ref m), (3, .ref oL), (4, .ref oD)] [] := by
  obtain ⟨a1, ha1, ea1⟩ := arg_of (ys (4 * jj + 1))
  obtain ⟨a2, ha2, ea2⟩ := arg_of (ys (4 * jj + 2))
  obtain ⟨z, G1, Gu, h1, h2, h3, h4, h5⟩ := ls_step (F := f_X4_version p (iI a1) (iI a2)) (FR := f_X5_version m (iI a1) (iI a2)) (tb := [(exI, 1), (exA, 2)]) (fun v => v.toInt64) hI (hw) (fun ow P hr => (c_version hw hr ha1 ha2).rt) (fun H ad z c hi h0 h => by subst h0; exact r_old h (r_version hi hw h ha1 ha2)) (tb2)
  refine v_aload_n 2 dL_law_461 rfl rfl ?_
  refine u_arg 1 0 1 hX hbl hbA hL hj (by decide) rfl ea1 rfl rfl dL_law_462 dL_law_463 dL_law_465 dL_law_466 dL_law_467 ?_
  refine u_arg 1 0 2 hX hbl hbA hL hj (by decide) rfl ea2 rfl rfl dL_law_468 dL_law_469 dL_law_471 dL_law_472 dL_law_473 ?_
  refine v_aload_n 4 dL_law_474 rfl rfl ?_
  refine u_wrap (x := p) 4 [.ref p, .int (iI a1), .int (iI a2), .ref oL] (c_L_version (xl X) hfl p (iI a1) (iI a2) oL) gL_law_L_version rfl (by decide +kernel) (by decide) (by decide) rfl dL_law_475 (Nat.le_of_ble_eq_true rfl) rfl hN hI.obj.1 h1 h2 h3 ⟨Nat.le_trans h4.1 hBC.1, Nat.le_trans h4.2 hBC.2⟩ (fun n hn => ?_)
  obtain ⟨H2, fs, fs2, hm, h6, hm2, h7, h8, h9⟩ := h5 n hn
  have hB2 : H2.2.2.1 ≤ B.2.2.1 ∧ H2.2.2.2 ≤ B.2.2.2 := ⟨Nat.le_trans h9.le.1 hBC.1, Nat.le_trans h9.le.2 hBC.2⟩
  refine v_istore ((6, _) :: [(5, .int (iI ((4 * jj : Nat) : Int))), (0, .ref b), (1, .ref p), (2, .ref m), (3, .ref oL), (4, .ref oD)]) dL_law_478 (by decide) rfl ?_
  refine v_aload_n 4 dL_law_480 rfl rfl ?_
  refine u_arg 2 1 1 hX hbl hbA hL hj (by decide) rfl ea1 rfl rfl dL_law_481 dL_law_482 dL_law_484 dL_law_485 dL_law_486 ?_
  refine u_arg 2 1 2 hX hbl hbA hL hj (by decide) rfl ea2 rfl rfl dL_law_487 dL_law_488 dL_law_490 dL_law_491 dL_law_492 ?_
  refine u_callV (val := vI) 5 2 [.int (iI a1), .int (iI a2)] (c_X5_version (xl X) hfl m (iI a1) (iI a2)) gL_law_X5_version rfl (by decide +kernel) (by decide) (by decide) rfl rfl dL_law_493 (Nat.le_of_ble_eq_true rfl) rfl hm h6 hB2 rfl ?_
  exact u_cmp hfl hB2 hm2 h7 h8 dL_law_496 dL_law_498 dL_law_499 dL_law_502 dL_law_504 dL_law_509 dL_law_511 dL_law_514 dL_law_515 dL_law_516 dL_law_517 dL_law_519 dL_law_520 dL_law_521 dL_law_526 (by decide) (hT _ _ (hw) h9)
theorem lc_value {X : VX} {B : VB} {Q : State → Prop} {G : GH} {b : Nat} {L : Nat} {p : Nat} {m : Nat} {oL : Nat} {oD : Nat} {jj : Nat} {ys : Nat → Int32} {w : WW} {C : Nat} {S : Nat} (hfl : (xl X).stackTraces = false) (hN : NX (xs X)) (hX : va_X b L ys (xs X) (xs X).heap) (hbl : b < (xs X).heap.size) (hbA : ¬ (xA X) b) (hL : L ≤ 2048) (hj : 4 * jj + 4 ≤ L) (hw : WI w) (hI : LI2 G p m oL oD w w C S) (hBC : C + 1 ≤ B.2.2.1 ∧ S + 6 ≤ B.2.2.2) (hT : ∀ G' w', WI w' → LI2 G' p m oL oD w' w' (C + 1) (S + 6) → V X RL cL_law 9 11 390 wsL_law B Q G' 1540 [(5, .int (iI ((4 * jj : Nat) : Int))), (0, .ref b), (1, .ref p), (2, .ref m), (3, .ref oL), (4, .ref oD)] []) : V X RL cL_law 9 11 390 wsL_law B Q G 529 [(5, .int (iI ((4 * jj : Nat) : Int))), (0, .ref b), (1, .ref p), (2, .ref m), (3, .ref oL), (4, .ref oD)] [] := by
  obtain ⟨a1, ha1, ea1⟩ := arg_of (ys (4 * jj + 1))
  obtain ⟨z, G1, Gu, h1, h2, h3, h4, h5⟩ := ls_step (F := f_X4_value p (iI a1)) (FR := f_X5_value m (iI a1)) (tb := [(exI, 1), (exS, 2)]) (fun v => v.toInt64) hI (hw) (fun ow P hr => (c_value hw hr ha1).rt) (fun H ad z c hi h0 h => by subst h0; exact r_old h (r_value hi hw h ha1)) (tb2)
  refine v_aload_n 2 dL_law_529 rfl rfl ?_
  refine u_arg 1 0 1 hX hbl hbA hL hj (by decide) rfl ea1 rfl rfl dL_law_530 dL_law_531 dL_law_533 dL_law_534 dL_law_535 ?_
  refine v_aload_n 4 dL_law_536 rfl rfl ?_
  refine u_wrap (x := p) 3 [.ref p, .int (iI a1), .ref oL] (c_L_value (xl X) hfl p (iI a1) oL) gL_law_L_value rfl (by decide +kernel) (by decide) (by decide) rfl dL_law_537 (Nat.le_of_ble_eq_true rfl) rfl hN hI.obj.1 h1 h2 h3 ⟨Nat.le_trans h4.1 hBC.1, Nat.le_trans h4.2 hBC.2⟩ (fun n hn => ?_)
  obtain ⟨H2, fs, fs2, hm, h6, hm2, h7, h8, h9⟩ := h5 n hn
  have hB2 : H2.2.2.1 ≤ B.2.2.1 ∧ H2.2.2.2 ≤ B.2.2.2 := ⟨Nat.le_trans h9.le.1 hBC.1, Nat.le_trans h9.le.2 hBC.2⟩
  refine v_istore ((6, _) :: [(5, .int (iI ((4 * jj : Nat) : Int))), (0, .ref b), (1, .ref p), (2, .ref m), (3, .ref oL), (4, .ref oD)]) dL_law_540 (by decide) rfl ?_
  refine v_aload_n 4 dL_law_542 rfl rfl ?_
  refine u_arg 2 1 1 hX hbl hbA hL hj (by decide) rfl ea1 rfl rfl dL_law_543 dL_law_544 dL_law_546 dL_law_547 dL_law_548 ?_
  refine u_callV (val := vI) 5 1 [.int (iI a1)] (c_X5_value (xl X) hfl m (iI a1)) gL_law_X5_value rfl (by decide +kernel) (by decide) (by decide) rfl rfl dL_law_549 (Nat.le_of_ble_eq_true rfl) rfl hm h6 hB2 rfl ?_
  exact u_cmp hfl hB2 hm2 h7 h8 dL_law_552 dL_law_554 dL_law_555 dL_law_558 dL_law_560 dL_law_565 dL_law_567 dL_law_570 dL_law_571 dL_law_572 dL_law_573 dL_law_575 dL_law_576 dL_law_577 dL_law_582 (by decide) (hT _ _ (hw) h9)
theorem lc_at {X : VX} {B : VB} {Q : State → Prop} {G : GH} {b : Nat} {L : Nat} {p : Nat} {m : Nat} {oL : Nat} {oD : Nat} {jj : Nat} {ys : Nat → Int32} {w : WW} {C : Nat} {S : Nat} (hfl : (xl X).stackTraces = false) (hN : NX (xs X)) (hX : va_X b L ys (xs X) (xs X).heap) (hbl : b < (xs X).heap.size) (hbA : ¬ (xA X) b) (hL : L ≤ 2048) (hj : 4 * jj + 4 ≤ L) (hw : WI w) (hI : LI2 G p m oL oD w w C S) (hBC : C + 1 ≤ B.2.2.1 ∧ S + 6 ≤ B.2.2.2) (hT : ∀ G' w', WI w' → LI2 G' p m oL oD w' w' (C + 1) (S + 6) → V X RL cL_law 9 11 390 wsL_law B Q G' 1540 [(5, .int (iI ((4 * jj : Nat) : Int))), (0, .ref b), (1, .ref p), (2, .ref m), (3, .ref oL), (4, .ref oD)] []) : V X RL cL_law 9 11 390 wsL_law B Q G 585 [(5, .int (iI ((4 * jj : Nat) : Int))), (0, .ref b), (1, .ref p), (2, .ref m), (3, .ref oL), (4, .ref oD)] [] := by
  obtain ⟨a1, ha1, ea1⟩ := arg_of (ys (4 * jj + 1))
  obtain ⟨a2, ha2, ea2⟩ := arg_of (ys (4 * jj + 2))
  obtain ⟨z, G1, Gu, h1, h2, h3, h4, h5⟩ := ls_step (F := f_X4_at p (iI a1) (iI a2)) (FR := f_X5_at m (iI a1) (iI a2)) (tb := [(exI, 1)]) (fun v => v.toInt64) hI (hw) (fun ow P hr => (c_at hw hr ha1 ha2).rt) (fun H ad z c hi h0 h => by subst h0; exact r_at hi hw h ha1 ha2) (tb1)
  refine v_aload_n 2 dL_law_585 rfl rfl ?_
  refine u_arg 1 0 1 hX hbl hbA hL hj (by decide) rfl ea1 rfl rfl dL_law_586 dL_law_587 dL_law_589 dL_law_590 dL_law_591 ?_
  refine u_arg 1 0 2 hX hbl hbA hL hj (by decide) rfl ea2 rfl rfl dL_law_592 dL_law_593 dL_law_595 dL_law_596 dL_law_597 ?_
  refine v_aload_n 4 dL_law_598 rfl rfl ?_
  refine u_wrap (x := p) 4 [.ref p, .int (iI a1), .int (iI a2), .ref oL] (c_L_at (xl X) hfl p (iI a1) (iI a2) oL) gL_law_L_at rfl (by decide +kernel) (by decide) (by decide) rfl dL_law_599 (Nat.le_of_ble_eq_true rfl) rfl hN hI.obj.1 h1 h2 h3 ⟨Nat.le_trans h4.1 hBC.1, Nat.le_trans h4.2 hBC.2⟩ (fun n hn => ?_)
  obtain ⟨H2, fs, fs2, hm, h6, hm2, h7, h8, h9⟩ := h5 n hn
  have hB2 : H2.2.2.1 ≤ B.2.2.1 ∧ H2.2.2.2 ≤ B.2.2.2 := ⟨Nat.le_trans h9.le.1 hBC.1, Nat.le_trans h9.le.2 hBC.2⟩
  refine v_istore ((6, _) :: [(5, .int (iI ((4 * jj : Nat) : Int))), (0, .ref b), (1, .ref p), (2, .ref m), (3, .ref oL), (4, .ref oD)]) dL_law_602 (by decide) rfl ?_
  refine v_aload_n 4 dL_law_604 rfl rfl ?_
  refine u_arg 2 1 1 hX hbl hbA hL hj (by decide) rfl ea1 rfl rfl dL_law_605 dL_law_606 dL_law_608 dL_law_609 dL_law_610 ?_
  refine u_arg 2 1 2 hX hbl hbA hL hj (by decide) rfl ea2 rfl rfl dL_law_611 dL_law_612 dL_law_614 dL_law_615 dL_law_616 ?_
  refine u_callV (val := vI) 5 2 [.int (iI a1), .int (iI a2)] (c_X5_at (xl X) hfl m (iI a1) (iI a2)) gL_law_X5_at rfl (by decide +kernel) (by decide) (by decide) rfl rfl dL_law_617 (Nat.le_of_ble_eq_true rfl) rfl hm h6 hB2 rfl ?_
  exact u_cmp hfl hB2 hm2 h7 h8 dL_law_620 dL_law_622 dL_law_623 dL_law_626 dL_law_628 dL_law_633 dL_law_635 dL_law_638 dL_law_639 dL_law_640 dL_law_641 dL_law_643 dL_law_644 dL_law_645 dL_law_650 (by decide) (hT _ _ (hw) h9)
theorem lc_steps {X : VX} {B : VB} {Q : State → Prop} {G : GH} {b : Nat} {L : Nat} {p : Nat} {m : Nat} {oL : Nat} {oD : Nat} {jj : Nat} {ys : Nat → Int32} {w : WW} {C : Nat} {S : Nat} (hfl : (xl X).stackTraces = false) (hN : NX (xs X)) (hX : va_X b L ys (xs X) (xs X).heap) (hbl : b < (xs X).heap.size) (hbA : ¬ (xA X) b) (hL : L ≤ 2048) (hj : 4 * jj + 4 ≤ L) (hw : WI w) (hI : LI2 G p m oL oD w w C S) (hBC : C + 1 ≤ B.2.2.1 ∧ S + 6 ≤ B.2.2.2) (hT : ∀ G' w', WI w' → LI2 G' p m oL oD w' w' (C + 1) (S + 6) → V X RL cL_law 9 11 390 wsL_law B Q G' 1540 [(5, .int (iI ((4 * jj : Nat) : Int))), (0, .ref b), (1, .ref p), (2, .ref m), (3, .ref oL), (4, .ref oD)] []) : V X RL cL_law 9 11 390 wsL_law B Q G 653 [(5, .int (iI ((4 * jj : Nat) : Int))), (0, .ref b), (1, .ref p), (2, .ref m), (3, .ref oL), (4, .ref oD)] [] := by
  obtain ⟨a1, ha1, ea1⟩ := arg_of (ys (4 * jj + 1))
  obtain ⟨a2, ha2, ea2⟩ := arg_of (ys (4 * jj + 2))
  obtain ⟨z, G1, Gu, h1, h2, h3, h4, h5⟩ := ls_step (F := f_X4_steps p (iI a1) (iI a2)) (FR := f_X5_steps m (iI a1) (iI a2)) (tb := [(exI, 1)]) (fun v => v.toInt64) hI (hw) (fun ow P hr => (c_steps hw hr ha1 ha2).rt) (fun H ad z c hi h0 h => by subst h0; exact r_old h (r_steps hi hw h ha1 ha2)) (tb1)
  refine v_aload_n 2 dL_law_653 rfl rfl ?_
  refine u_arg 1 0 1 hX hbl hbA hL hj (by decide) rfl ea1 rfl rfl dL_law_654 dL_law_655 dL_law_657 dL_law_658 dL_law_659 ?_
  refine u_arg 1 0 2 hX hbl hbA hL hj (by decide) rfl ea2 rfl rfl dL_law_660 dL_law_661 dL_law_663 dL_law_664 dL_law_665 ?_
  refine v_aload_n 4 dL_law_666 rfl rfl ?_
  refine u_wrap (x := p) 4 [.ref p, .int (iI a1), .int (iI a2), .ref oL] (c_L_steps (xl X) hfl p (iI a1) (iI a2) oL) gL_law_L_steps rfl (by decide +kernel) (by decide) (by decide) rfl dL_law_667 (Nat.le_of_ble_eq_true rfl) rfl hN hI.obj.1 h1 h2 h3 ⟨Nat.le_trans h4.1 hBC.1, Nat.le_trans h4.2 hBC.2⟩ (fun n hn => ?_)
  obtain ⟨H2, fs, fs2, hm, h6, hm2, h7, h8, h9⟩ := h5 n hn
  have hB2 : H2.2.2.1 ≤ B.2.2.1 ∧ H2.2.2.2 ≤ B.2.2.2 := ⟨Nat.le_trans h9.le.1 hBC.1, Nat.le_trans h9.le.2 hBC.2⟩
  refine v_istore ((6, _) :: [(5, .int (iI ((4 * jj : Nat) : Int))), (0, .ref b), (1, .ref p), (2, .ref m), (3, .ref oL), (4, .ref oD)]) dL_law_670 (by decide) rfl ?_
  refine v_aload_n 4 dL_law_672 rfl rfl ?_
  refine u_arg 2 1 1 hX hbl hbA hL hj (by decide) rfl ea1 rfl rfl dL_law_673 dL_law_674 dL_law_676 dL_law_677 dL_law_678 ?_
  refine u_arg 2 1 2 hX hbl hbA hL hj (by decide) rfl ea2 rfl rfl dL_law_679 dL_law_680 dL_law_682 dL_law_683 dL_law_684 ?_
  refine u_callV (val := vI) 5 2 [.int (iI a1), .int (iI a2)] (c_X5_steps (xl X) hfl m (iI a1) (iI a2)) gL_law_X5_steps rfl (by decide +kernel) (by decide) (by decide) rfl rfl dL_law_685 (Nat.le_of_ble_eq_true rfl) rfl hm h6 hB2 rfl ?_
  exact u_cmp hfl hB2 hm2 h7 h8 dL_law_688 dL_law_690 dL_law_691 dL_law_694 dL_law_696 dL_law_701 dL_law_703 dL_law_706 dL_law_707 dL_law_708 dL_law_709 dL_law_711 dL_law_712 dL_law_713 dL_law_718 (by decide) (hT _ _ (hw) h9)
theorem lc_count {X : VX} {B : VB} {Q : State → Prop} {G : GH} {b : Nat} {L : Nat} {p : Nat} {m : Nat} {oL : Nat} {oD : Nat} {jj : Nat} {ys : Nat → Int32} {w : WW} {C : Nat} {S : Nat} (hfl : (xl X).stackTraces = false) (hN : NX (xs X)) (hX : va_X b L ys (xs X) (xs X).heap) (hbl : b < (xs X).heap.size) (hbA : ¬ (xA X) b) (hL : L ≤ 2048) (hj : 4 * jj + 4 ≤ L) (hw : WI w) (hI : LI2 G p m oL oD w w C S) (hBC : C + 1 ≤ B.2.2.1 ∧ S + 6 ≤ B.2.2.2) (hT : ∀ G' w', WI w' → LI2 G' p m oL oD w' w' (C + 1) (S + 6) → V X RL cL_law 9 11 390 wsL_law B Q G' 1540 [(5, .int (iI ((4 * jj : Nat) : Int))), (0, .ref b), (1, .ref p), (2, .ref m), (3, .ref oL), (4, .ref oD)] []) : V X RL cL_law 9 11 390 wsL_law B Q G 721 [(5, .int (iI ((4 * jj : Nat) : Int))), (0, .ref b), (1, .ref p), (2, .ref m), (3, .ref oL), (4, .ref oD)] [] := by
  obtain ⟨a1, ha1, ea1⟩ := arg_of (ys (4 * jj + 1))
  obtain ⟨z, G1, Gu, h1, h2, h3, h4, h5⟩ := ls_step (F := f_X4_count p (iI a1)) (FR := f_X5_count m (iI a1)) (tb := [(exA, 1)]) (fun v => v.toInt64) hI (hw) (fun ow P hr => (c_count hw hr ha1).rt) (fun H ad z c hi h0 h => by subst h0; exact r_old h (r_count hi hw h ha1)) (tb1)
  refine v_aload_n 2 dL_law_721 rfl rfl ?_
  refine u_arg 1 0 1 hX hbl hbA hL hj (by decide) rfl ea1 rfl rfl dL_law_722 dL_law_723 dL_law_725 dL_law_726 dL_law_727 ?_
  refine v_aload_n 4 dL_law_728 rfl rfl ?_
  refine u_wrap (x := p) 3 [.ref p, .int (iI a1), .ref oL] (c_L_count (xl X) hfl p (iI a1) oL) gL_law_L_count rfl (by decide +kernel) (by decide) (by decide) rfl dL_law_729 (Nat.le_of_ble_eq_true rfl) rfl hN hI.obj.1 h1 h2 h3 ⟨Nat.le_trans h4.1 hBC.1, Nat.le_trans h4.2 hBC.2⟩ (fun n hn => ?_)
  obtain ⟨H2, fs, fs2, hm, h6, hm2, h7, h8, h9⟩ := h5 n hn
  have hB2 : H2.2.2.1 ≤ B.2.2.1 ∧ H2.2.2.2 ≤ B.2.2.2 := ⟨Nat.le_trans h9.le.1 hBC.1, Nat.le_trans h9.le.2 hBC.2⟩
  refine v_istore ((6, _) :: [(5, .int (iI ((4 * jj : Nat) : Int))), (0, .ref b), (1, .ref p), (2, .ref m), (3, .ref oL), (4, .ref oD)]) dL_law_732 (by decide) rfl ?_
  refine v_aload_n 4 dL_law_734 rfl rfl ?_
  refine u_arg 2 1 1 hX hbl hbA hL hj (by decide) rfl ea1 rfl rfl dL_law_735 dL_law_736 dL_law_738 dL_law_739 dL_law_740 ?_
  refine u_callV (val := vI) 5 1 [.int (iI a1)] (c_X5_count (xl X) hfl m (iI a1)) gL_law_X5_count rfl (by decide +kernel) (by decide) (by decide) rfl rfl dL_law_741 (Nat.le_of_ble_eq_true rfl) rfl hm h6 hB2 rfl ?_
  exact u_cmp hfl hB2 hm2 h7 h8 dL_law_744 dL_law_746 dL_law_747 dL_law_750 dL_law_752 dL_law_757 dL_law_759 dL_law_762 dL_law_763 dL_law_764 dL_law_765 dL_law_767 dL_law_768 dL_law_769 dL_law_774 (by decide) (hT _ _ (hw) h9)
theorem lc_setting {X : VX} {B : VB} {Q : State → Prop} {G : GH} {b : Nat} {L : Nat} {p : Nat} {m : Nat} {oL : Nat} {oD : Nat} {jj : Nat} {ys : Nat → Int32} {w : WW} {C : Nat} {S : Nat} (hfl : (xl X).stackTraces = false) (hN : NX (xs X)) (hX : va_X b L ys (xs X) (xs X).heap) (hbl : b < (xs X).heap.size) (hbA : ¬ (xA X) b) (hL : L ≤ 2048) (hj : 4 * jj + 4 ≤ L) (hw : WI w) (hI : LI2 G p m oL oD w w C S) (hBC : C + 1 ≤ B.2.2.1 ∧ S + 6 ≤ B.2.2.2) (hT : ∀ G' w', WI w' → LI2 G' p m oL oD w' w' (C + 1) (S + 6) → V X RL cL_law 9 11 390 wsL_law B Q G' 1540 [(5, .int (iI ((4 * jj : Nat) : Int))), (0, .ref b), (1, .ref p), (2, .ref m), (3, .ref oL), (4, .ref oD)] []) : V X RL cL_law 9 11 390 wsL_law B Q G 777 [(5, .int (iI ((4 * jj : Nat) : Int))), (0, .ref b), (1, .ref p), (2, .ref m), (3, .ref oL), (4, .ref oD)] [] := by
  obtain ⟨a1, ha1, ea1⟩ := arg_of (ys (4 * jj + 1))
  obtain ⟨z, G1, Gu, h1, h2, h3, h4, h5⟩ := ls_step (F := f_X4_setting p (iI a1)) (FR := f_X5_setting m (iI a1)) (tb := [(exA, 1)]) (fun v => v.toInt64) hI (hw) (fun ow P hr => (c_setting hw hr ha1).rt) (fun H ad z c hi h0 h => by subst h0; exact r_old h (r_setting hi hw h ha1)) (tb1)
  refine v_aload_n 2 dL_law_777 rfl rfl ?_
  refine u_arg 1 0 1 hX hbl hbA hL hj (by decide) rfl ea1 rfl rfl dL_law_778 dL_law_779 dL_law_781 dL_law_782 dL_law_783 ?_
  refine v_aload_n 4 dL_law_784 rfl rfl ?_
  refine u_wrap (x := p) 3 [.ref p, .int (iI a1), .ref oL] (c_L_setting (xl X) hfl p (iI a1) oL) gL_law_L_setting rfl (by decide +kernel) (by decide) (by decide) rfl dL_law_785 (Nat.le_of_ble_eq_true rfl) rfl hN hI.obj.1 h1 h2 h3 ⟨Nat.le_trans h4.1 hBC.1, Nat.le_trans h4.2 hBC.2⟩ (fun n hn => ?_)
  obtain ⟨H2, fs, fs2, hm, h6, hm2, h7, h8, h9⟩ := h5 n hn
  have hB2 : H2.2.2.1 ≤ B.2.2.1 ∧ H2.2.2.2 ≤ B.2.2.2 := ⟨Nat.le_trans h9.le.1 hBC.1, Nat.le_trans h9.le.2 hBC.2⟩
  refine v_istore ((6, _) :: [(5, .int (iI ((4 * jj : Nat) : Int))), (0, .ref b), (1, .ref p), (2, .ref m), (3, .ref oL), (4, .ref oD)]) dL_law_788 (by decide) rfl ?_
  refine v_aload_n 4 dL_law_790 rfl rfl ?_
  refine u_arg 2 1 1 hX hbl hbA hL hj (by decide) rfl ea1 rfl rfl dL_law_791 dL_law_792 dL_law_794 dL_law_795 dL_law_796 ?_
  refine u_callV (val := vI) 5 1 [.int (iI a1)] (c_X5_setting (xl X) hfl m (iI a1)) gL_law_X5_setting rfl (by decide +kernel) (by decide) (by decide) rfl rfl dL_law_797 (Nat.le_of_ble_eq_true rfl) rfl hm h6 hB2 rfl ?_
  exact u_cmp hfl hB2 hm2 h7 h8 dL_law_800 dL_law_802 dL_law_803 dL_law_806 dL_law_808 dL_law_813 dL_law_815 dL_law_818 dL_law_819 dL_law_820 dL_law_821 dL_law_823 dL_law_824 dL_law_825 dL_law_830 (by decide) (hT _ _ (hw) h9)
theorem lc_common {X : VX} {B : VB} {Q : State → Prop} {G : GH} {b : Nat} {L : Nat} {p : Nat} {m : Nat} {oL : Nat} {oD : Nat} {jj : Nat} {ys : Nat → Int32} {w : WW} {C : Nat} {S : Nat} (hfl : (xl X).stackTraces = false) (hN : NX (xs X)) (hX : va_X b L ys (xs X) (xs X).heap) (hbl : b < (xs X).heap.size) (hbA : ¬ (xA X) b) (hL : L ≤ 2048) (hj : 4 * jj + 4 ≤ L) (hw : WI w) (hI : LI2 G p m oL oD w w C S) (hBC : C + 1 ≤ B.2.2.1 ∧ S + 6 ≤ B.2.2.2) (hT : ∀ G' w', WI w' → LI2 G' p m oL oD w' w' (C + 1) (S + 6) → V X RL cL_law 9 11 390 wsL_law B Q G' 1540 [(5, .int (iI ((4 * jj : Nat) : Int))), (0, .ref b), (1, .ref p), (2, .ref m), (3, .ref oL), (4, .ref oD)] []) : V X RL cL_law 9 11 390 wsL_law B Q G 833 [(5, .int (iI ((4 * jj : Nat) : Int))), (0, .ref b), (1, .ref p), (2, .ref m), (3, .ref oL), (4, .ref oD)] [] := by
  obtain ⟨a1, ha1, ea1⟩ := arg_of (ys (4 * jj + 1))
  obtain ⟨a2, ha2, ea2⟩ := arg_of (ys (4 * jj + 2))
  obtain ⟨z, G1, Gu, h1, h2, h3, h4, h5⟩ := ls_step (F := f_X4_common p (iI a1) (iI a2)) (FR := f_X5_common m (iI a1) (iI a2)) (tb := [(exI, 1)]) (fun v => v.toInt64) hI (hw) (fun ow P hr => (c_common hw hr ha1 ha2).rt) (fun H ad z c hi h0 h => by subst h0; exact r_old h (r_common hi hw h ha1 ha2)) (tb1)
  refine v_aload_n 2 dL_law_833 rfl rfl ?_
  refine u_arg 1 0 1 hX hbl hbA hL hj (by decide) rfl ea1 rfl rfl dL_law_834 dL_law_835 dL_law_837 dL_law_838 dL_law_839 ?_
  refine u_arg 1 0 2 hX hbl hbA hL hj (by decide) rfl ea2 rfl rfl dL_law_840 dL_law_841 dL_law_843 dL_law_844 dL_law_845 ?_
  refine v_aload_n 4 dL_law_846 rfl rfl ?_
  refine u_wrap (x := p) 4 [.ref p, .int (iI a1), .int (iI a2), .ref oL] (c_L_common (xl X) hfl p (iI a1) (iI a2) oL) gL_law_L_common rfl (by decide +kernel) (by decide) (by decide) rfl dL_law_847 (Nat.le_of_ble_eq_true rfl) rfl hN hI.obj.1 h1 h2 h3 ⟨Nat.le_trans h4.1 hBC.1, Nat.le_trans h4.2 hBC.2⟩ (fun n hn => ?_)
  obtain ⟨H2, fs, fs2, hm, h6, hm2, h7, h8, h9⟩ := h5 n hn
  have hB2 : H2.2.2.1 ≤ B.2.2.1 ∧ H2.2.2.2 ≤ B.2.2.2 := ⟨Nat.le_trans h9.le.1 hBC.1, Nat.le_trans h9.le.2 hBC.2⟩
  refine v_istore ((6, _) :: [(5, .int (iI ((4 * jj : Nat) : Int))), (0, .ref b), (1, .ref p), (2, .ref m), (3, .ref oL), (4, .ref oD)]) dL_law_850 (by decide) rfl ?_
  refine v_aload_n 4 dL_law_852 rfl rfl ?_
  refine u_arg 2 1 1 hX hbl hbA hL hj (by decide) rfl ea1 rfl rfl dL_law_853 dL_law_854 dL_law_856 dL_law_857 dL_law_858 ?_
  refine u_arg 2 1 2 hX hbl hbA hL hj (by decide) rfl ea2 rfl rfl dL_law_859 dL_law_860 dL_law_862 dL_law_863 dL_law_864 ?_
  refine u_callV (val := vI) 5 2 [.int (iI a1), .int (iI a2)] (c_X5_common (xl X) hfl m (iI a1) (iI a2)) gL_law_X5_common rfl (by decide +kernel) (by decide) (by decide) rfl rfl dL_law_865 (Nat.le_of_ble_eq_true rfl) rfl hm h6 hB2 rfl ?_
  exact u_cmp hfl hB2 hm2 h7 h8 dL_law_868 dL_law_870 dL_law_871 dL_law_874 dL_law_876 dL_law_881 dL_law_883 dL_law_886 dL_law_887 dL_law_888 dL_law_889 dL_law_891 dL_law_892 dL_law_893 dL_law_898 (by decide) (hT _ _ (hw) h9)
theorem lc_firstLike {X : VX} {B : VB} {Q : State → Prop} {G : GH} {b : Nat} {L : Nat} {p : Nat} {m : Nat} {oL : Nat} {oD : Nat} {jj : Nat} {ys : Nat → Int32} {w : WW} {C : Nat} {S : Nat} (hfl : (xl X).stackTraces = false) (hN : NX (xs X)) (hX : va_X b L ys (xs X) (xs X).heap) (hbl : b < (xs X).heap.size) (hbA : ¬ (xA X) b) (hL : L ≤ 2048) (hj : 4 * jj + 4 ≤ L) (hw : WI w) (hI : LI2 G p m oL oD w w C S) (hBC : C + 1 ≤ B.2.2.1 ∧ S + 6 ≤ B.2.2.2) (hT : ∀ G' w', WI w' → LI2 G' p m oL oD w' w' (C + 1) (S + 6) → V X RL cL_law 9 11 390 wsL_law B Q G' 1540 [(5, .int (iI ((4 * jj : Nat) : Int))), (0, .ref b), (1, .ref p), (2, .ref m), (3, .ref oL), (4, .ref oD)] []) : V X RL cL_law 9 11 390 wsL_law B Q G 976 [(5, .int (iI ((4 * jj : Nat) : Int))), (0, .ref b), (1, .ref p), (2, .ref m), (3, .ref oL), (4, .ref oD)] [] := by
  obtain ⟨a1, ha1, ea1⟩ := arg_of (ys (4 * jj + 1))
  obtain ⟨z, G1, Gu, h1, h2, h3, h4, h5⟩ := ls_step (F := f_X4_firstLike p (iI a1)) (FR := f_X5_firstLike m (iI a1)) (tb := [(exI, 1)]) (fun v => v.toInt64) hI (hw) (fun ow P hr => (c_firstLike hw hr ha1).rt) (fun H ad z c hi h0 h => by subst h0; exact r_firstLike hi hw h ha1) (tb1)
  refine v_aload_n 2 dL_law_976 rfl rfl ?_
  refine u_arg 1 0 1 hX hbl hbA hL hj (by decide) rfl ea1 rfl rfl dL_law_977 dL_law_978 dL_law_980 dL_law_981 dL_law_982 ?_
  refine v_aload_n 4 dL_law_983 rfl rfl ?_
  refine u_wrap (x := p) 3 [.ref p, .int (iI a1), .ref oL] (c_L_firstLike (xl X) hfl p (iI a1) oL) gL_law_L_firstLike rfl (by decide +kernel) (by decide) (by decide) rfl dL_law_984 (Nat.le_of_ble_eq_true rfl) rfl hN hI.obj.1 h1 h2 h3 ⟨Nat.le_trans h4.1 hBC.1, Nat.le_trans h4.2 hBC.2⟩ (fun n hn => ?_)
  obtain ⟨H2, fs, fs2, hm, h6, hm2, h7, h8, h9⟩ := h5 n hn
  have hB2 : H2.2.2.1 ≤ B.2.2.1 ∧ H2.2.2.2 ≤ B.2.2.2 := ⟨Nat.le_trans h9.le.1 hBC.1, Nat.le_trans h9.le.2 hBC.2⟩
  refine v_istore ((6, _) :: [(5, .int (iI ((4 * jj : Nat) : Int))), (0, .ref b), (1, .ref p), (2, .ref m), (3, .ref oL), (4, .ref oD)]) dL_law_987 (by decide) rfl ?_
  refine v_aload_n 4 dL_law_989 rfl rfl ?_
  refine u_arg 2 1 1 hX hbl hbA hL hj (by decide) rfl ea1 rfl rfl dL_law_990 dL_law_991 dL_law_993 dL_law_994 dL_law_995 ?_
  refine u_callV (val := vI) 5 1 [.int (iI a1)] (c_X5_firstLike (xl X) hfl m (iI a1)) gL_law_X5_firstLike rfl (by decide +kernel) (by decide) (by decide) rfl rfl dL_law_996 (Nat.le_of_ble_eq_true rfl) rfl hm h6 hB2 rfl ?_
  exact u_cmp hfl hB2 hm2 h7 h8 dL_law_999 dL_law_1001 dL_law_1002 dL_law_1005 dL_law_1007 dL_law_1012 dL_law_1014 dL_law_1017 dL_law_1018 dL_law_1019 dL_law_1020 dL_law_1022 dL_law_1023 dL_law_1024 dL_law_1029 (by decide) (hT _ _ (hw) h9)
theorem lc_worst {X : VX} {B : VB} {Q : State → Prop} {G : GH} {b : Nat} {L : Nat} {p : Nat} {m : Nat} {oL : Nat} {oD : Nat} {jj : Nat} {ys : Nat → Int32} {w : WW} {C : Nat} {S : Nat} (hfl : (xl X).stackTraces = false) (hN : NX (xs X)) (hX : va_X b L ys (xs X) (xs X).heap) (hbl : b < (xs X).heap.size) (hbA : ¬ (xA X) b) (hL : L ≤ 2048) (hj : 4 * jj + 4 ≤ L) (hw : WI w) (hI : LI2 G p m oL oD w w C S) (hBC : C + 1 ≤ B.2.2.1 ∧ S + 6 ≤ B.2.2.2) (hT : ∀ G' w', WI w' → LI2 G' p m oL oD w' w' (C + 1) (S + 6) → V X RL cL_law 9 11 390 wsL_law B Q G' 1540 [(5, .int (iI ((4 * jj : Nat) : Int))), (0, .ref b), (1, .ref p), (2, .ref m), (3, .ref oL), (4, .ref oD)] []) : V X RL cL_law 9 11 390 wsL_law B Q G 1032 [(5, .int (iI ((4 * jj : Nat) : Int))), (0, .ref b), (1, .ref p), (2, .ref m), (3, .ref oL), (4, .ref oD)] [] := by
  obtain ⟨a1, ha1, ea1⟩ := arg_of (ys (4 * jj + 1))
  obtain ⟨z, G1, Gu, h1, h2, h3, h4, h5⟩ := ls_step (F := f_X4_worst p (iI a1)) (FR := f_X5_worst m (iI a1)) (tb := [(exI, 1)]) (fun v => v.toInt64) hI (hw) (fun ow P hr => (c_worst hw hr ha1).rt) (fun H ad z c hi h0 h => by subst h0; exact r_worst hi hw h ha1) (tb1)
  refine v_aload_n 2 dL_law_1032 rfl rfl ?_
  refine u_arg 1 0 1 hX hbl hbA hL hj (by decide) rfl ea1 rfl rfl dL_law_1033 dL_law_1034 dL_law_1036 dL_law_1037 dL_law_1038 ?_
  refine v_aload_n 4 dL_law_1039 rfl rfl ?_
  refine u_wrap (x := p) 3 [.ref p, .int (iI a1), .ref oL] (c_L_worst (xl X) hfl p (iI a1) oL) gL_law_L_worst rfl (by decide +kernel) (by decide) (by decide) rfl dL_law_1040 (Nat.le_of_ble_eq_true rfl) rfl hN hI.obj.1 h1 h2 h3 ⟨Nat.le_trans h4.1 hBC.1, Nat.le_trans h4.2 hBC.2⟩ (fun n hn => ?_)
  obtain ⟨H2, fs, fs2, hm, h6, hm2, h7, h8, h9⟩ := h5 n hn
  have hB2 : H2.2.2.1 ≤ B.2.2.1 ∧ H2.2.2.2 ≤ B.2.2.2 := ⟨Nat.le_trans h9.le.1 hBC.1, Nat.le_trans h9.le.2 hBC.2⟩
  refine v_istore ((6, _) :: [(5, .int (iI ((4 * jj : Nat) : Int))), (0, .ref b), (1, .ref p), (2, .ref m), (3, .ref oL), (4, .ref oD)]) dL_law_1043 (by decide) rfl ?_
  refine v_aload_n 4 dL_law_1045 rfl rfl ?_
  refine u_arg 2 1 1 hX hbl hbA hL hj (by decide) rfl ea1 rfl rfl dL_law_1046 dL_law_1047 dL_law_1049 dL_law_1050 dL_law_1051 ?_
  refine u_callV (val := vI) 5 1 [.int (iI a1)] (c_X5_worst (xl X) hfl m (iI a1)) gL_law_X5_worst rfl (by decide +kernel) (by decide) (by decide) rfl rfl dL_law_1052 (Nat.le_of_ble_eq_true rfl) rfl hm h6 hB2 rfl ?_
  exact u_cmp hfl hB2 hm2 h7 h8 dL_law_1055 dL_law_1057 dL_law_1058 dL_law_1061 dL_law_1063 dL_law_1068 dL_law_1070 dL_law_1073 dL_law_1074 dL_law_1075 dL_law_1076 dL_law_1078 dL_law_1079 dL_law_1080 dL_law_1085 (by decide) (hT _ _ (hw) h9)
theorem lc_append {X : VX} {B : VB} {Q : State → Prop} {G : GH} {b : Nat} {L : Nat} {p : Nat} {m : Nat} {oL : Nat} {oD : Nat} {jj : Nat} {ys : Nat → Int32} {w : WW} {C : Nat} {S : Nat} (hfl : (xl X).stackTraces = false) (hN : NX (xs X)) (hX : va_X b L ys (xs X) (xs X).heap) (hbl : b < (xs X).heap.size) (hbA : ¬ (xA X) b) (hL : L ≤ 2048) (hj : 4 * jj + 4 ≤ L) (hw : WI w) (hI : LI2 G p m oL oD w w C S) (hBC : C + 1 ≤ B.2.2.1 ∧ S + 6 ≤ B.2.2.2) (hT : ∀ G' w', WI w' → LI2 G' p m oL oD w' w' (C + 1) (S + 6) → V X RL cL_law 9 11 390 wsL_law B Q G' 1540 [(5, .int (iI ((4 * jj : Nat) : Int))), (0, .ref b), (1, .ref p), (2, .ref m), (3, .ref oL), (4, .ref oD)] []) : V X RL cL_law 9 11 390 wsL_law B Q G 1165 [(5, .int (iI ((4 * jj : Nat) : Int))), (0, .ref b), (1, .ref p), (2, .ref m), (3, .ref oL), (4, .ref oD)] [] := by
  obtain ⟨a1, ha1, ea1⟩ := arg_of (ys (4 * jj + 1))
  obtain ⟨z, G1, Gu, h1, h2, h3, h4, h5⟩ := ls_step (F := f_X4_append p (iI a1)) (FR := f_X5_append m (iI a1)) (tb := [(exA, 1), (exS, 2)]) (fun v => v.toInt64) hI (wi_nappend hw) (fun ow P hr => (c_append hw hr ha1)) (fun H ad z c hi h0 h => by subst h0; exact r_append hi hw h ha1) (tb2)
  refine v_aload_n 2 dL_law_1165 rfl rfl ?_
  refine u_arg 1 0 1 hX hbl hbA hL hj (by decide) rfl ea1 rfl rfl dL_law_1166 dL_law_1167 dL_law_1169 dL_law_1170 dL_law_1171 ?_
  refine v_aload_n 4 dL_law_1172 rfl rfl ?_
  refine u_wrap (x := p) 3 [.ref p, .int (iI a1), .ref oL] (c_L_append (xl X) hfl p (iI a1) oL) gL_law_L_append rfl (by decide +kernel) (by decide) (by decide) rfl dL_law_1173 (Nat.le_of_ble_eq_true rfl) rfl hN hI.obj.1 h1 h2 h3 ⟨Nat.le_trans h4.1 hBC.1, Nat.le_trans h4.2 hBC.2⟩ (fun n hn => ?_)
  obtain ⟨H2, fs, fs2, hm, h6, hm2, h7, h8, h9⟩ := h5 n hn
  have hB2 : H2.2.2.1 ≤ B.2.2.1 ∧ H2.2.2.2 ≤ B.2.2.2 := ⟨Nat.le_trans h9.le.1 hBC.1, Nat.le_trans h9.le.2 hBC.2⟩
  refine v_istore ((6, _) :: [(5, .int (iI ((4 * jj : Nat) : Int))), (0, .ref b), (1, .ref p), (2, .ref m), (3, .ref oL), (4, .ref oD)]) dL_law_1176 (by decide) rfl ?_
  refine v_aload_n 4 dL_law_1178 rfl rfl ?_
  refine u_arg 2 1 1 hX hbl hbA hL hj (by decide) rfl ea1 rfl rfl dL_law_1179 dL_law_1180 dL_law_1182 dL_law_1183 dL_law_1184 ?_
  refine u_callV (val := vI) 5 1 [.int (iI a1)] (c_X5_append (xl X) hfl m (iI a1)) gL_law_X5_append rfl (by decide +kernel) (by decide) (by decide) rfl rfl dL_law_1185 (Nat.le_of_ble_eq_true rfl) rfl hm h6 hB2 rfl ?_
  exact u_cmp hfl hB2 hm2 h7 h8 dL_law_1188 dL_law_1190 dL_law_1191 dL_law_1194 dL_law_1196 dL_law_1201 dL_law_1203 dL_law_1206 dL_law_1207 dL_law_1208 dL_law_1209 dL_law_1211 dL_law_1212 dL_law_1213 dL_law_1218 (by decide) (hT _ _ (wi_nappend hw) h9)
theorem lc_run {X : VX} {B : VB} {Q : State → Prop} {G : GH} {b : Nat} {L : Nat} {p : Nat} {m : Nat} {oL : Nat} {oD : Nat} {jj : Nat} {ys : Nat → Int32} {w : WW} {C : Nat} {S : Nat} (hfl : (xl X).stackTraces = false) (hN : NX (xs X)) (hX : va_X b L ys (xs X) (xs X).heap) (hbl : b < (xs X).heap.size) (hbA : ¬ (xA X) b) (hL : L ≤ 2048) (hj : 4 * jj + 4 ≤ L) (hw : WI w) (hI : LI2 G p m oL oD w w C S) (hBC : C + 1 ≤ B.2.2.1 ∧ S + 6 ≤ B.2.2.2) (hT : ∀ G' w', WI w' → LI2 G' p m oL oD w' w' (C + 1) (S + 6) → V X RL cL_law 9 11 390 wsL_law B Q G' 1540 [(5, .int (iI ((4 * jj : Nat) : Int))), (0, .ref b), (1, .ref p), (2, .ref m), (3, .ref oL), (4, .ref oD)] []) : V X RL cL_law 9 11 390 wsL_law B Q G 1234 [(5, .int (iI ((4 * jj : Nat) : Int))), (0, .ref b), (1, .ref p), (2, .ref m), (3, .ref oL), (4, .ref oD)] [] := by
  obtain ⟨a1, ha1, ea1⟩ := arg_of (ys (4 * jj + 1))
  obtain ⟨z, G1, Gu, h1, h2, h3, h4, h5⟩ := ls_step (F := f_X4_run p (iI a1)) (FR := f_X5_run m (iI a1)) (tb := [(exI, 1)]) (fun v => v.toInt64) hI (wi_nrun hw) (fun ow P hr => (c_run hw hr ha1)) (fun H ad z c hi h0 h => by subst h0; exact r_run hi hw h ha1) (tb1)
  refine v_aload_n 2 dL_law_1234 rfl rfl ?_
  refine u_arg 1 0 1 hX hbl hbA hL hj (by decide) rfl ea1 rfl rfl dL_law_1235 dL_law_1236 dL_law_1238 dL_law_1239 dL_law_1240 ?_
  refine v_aload_n 4 dL_law_1241 rfl rfl ?_
  refine u_wrap (x := p) 3 [.ref p, .int (iI a1), .ref oL] (c_L_run (xl X) hfl p (iI a1) oL) gL_law_L_run rfl (by decide +kernel) (by decide) (by decide) rfl dL_law_1242 (Nat.le_of_ble_eq_true rfl) rfl hN hI.obj.1 h1 h2 h3 ⟨Nat.le_trans h4.1 hBC.1, Nat.le_trans h4.2 hBC.2⟩ (fun n hn => ?_)
  obtain ⟨H2, fs, fs2, hm, h6, hm2, h7, h8, h9⟩ := h5 n hn
  have hB2 : H2.2.2.1 ≤ B.2.2.1 ∧ H2.2.2.2 ≤ B.2.2.2 := ⟨Nat.le_trans h9.le.1 hBC.1, Nat.le_trans h9.le.2 hBC.2⟩
  refine v_istore ((6, _) :: [(5, .int (iI ((4 * jj : Nat) : Int))), (0, .ref b), (1, .ref p), (2, .ref m), (3, .ref oL), (4, .ref oD)]) dL_law_1245 (by decide) rfl ?_
  refine v_aload_n 4 dL_law_1247 rfl rfl ?_
  refine u_arg 2 1 1 hX hbl hbA hL hj (by decide) rfl ea1 rfl rfl dL_law_1248 dL_law_1249 dL_law_1251 dL_law_1252 dL_law_1253 ?_
  refine u_callV (val := vI) 5 1 [.int (iI a1)] (c_X5_run (xl X) hfl m (iI a1)) gL_law_X5_run rfl (by decide +kernel) (by decide) (by decide) rfl rfl dL_law_1254 (Nat.le_of_ble_eq_true rfl) rfl hm h6 hB2 rfl ?_
  exact u_cmp hfl hB2 hm2 h7 h8 dL_law_1257 dL_law_1259 dL_law_1260 dL_law_1263 dL_law_1265 dL_law_1270 dL_law_1272 dL_law_1275 dL_law_1276 dL_law_1277 dL_law_1278 dL_law_1280 dL_law_1281 dL_law_1282 dL_law_1287 (by decide) (hT _ _ (wi_nrun hw) h9)
theorem lc_stalls {X : VX} {B : VB} {Q : State → Prop} {G : GH} {b : Nat} {L : Nat} {p : Nat} {m : Nat} {oL : Nat} {oD : Nat} {jj : Nat} {ys : Nat → Int32} {w : WW} {C : Nat} {S : Nat} (hfl : (xl X).stackTraces = false) (hN : NX (xs X)) (hX : va_X b L ys (xs X) (xs X).heap) (hbl : b < (xs X).heap.size) (hbA : ¬ (xA X) b) (hL : L ≤ 2048) (hj : 4 * jj + 4 ≤ L) (hw : WI w) (hI : LI2 G p m oL oD w w C S) (hBC : C + 1 ≤ B.2.2.1 ∧ S + 6 ≤ B.2.2.2) (hT : ∀ G' w', WI w' → LI2 G' p m oL oD w' w' (C + 1) (S + 6) → V X RL cL_law 9 11 390 wsL_law B Q G' 1540 [(5, .int (iI ((4 * jj : Nat) : Int))), (0, .ref b), (1, .ref p), (2, .ref m), (3, .ref oL), (4, .ref oD)] []) : V X RL cL_law 9 11 390 wsL_law B Q G 1290 [(5, .int (iI ((4 * jj : Nat) : Int))), (0, .ref b), (1, .ref p), (2, .ref m), (3, .ref oL), (4, .ref oD)] [] := by
  obtain ⟨a1, ha1, ea1⟩ := arg_of (ys (4 * jj + 1))
  obtain ⟨a2, ha2, ea2⟩ := arg_of (ys (4 * jj + 2))
  obtain ⟨z, G1, Gu, h1, h2, h3, h4, h5⟩ := ls_step (F := f_X4_stalls p (iI a1) (iI a2)) (FR := f_X5_stalls m (iI a1) (iI a2)) (tb := [(exI, 1), (exA, 2), (exS, 3)]) (fun v => v.toInt64) hI (hw) (fun ow P hr => (c_stalls hw hr ha1 ha2)) (fun H ad z c hi h0 h => by subst h0; exact r_stalls hi hw h ha1 ha2) (by unfold tRate; exact tb3)
  refine v_aload_n 2 dL_law_1290 rfl rfl ?_
  refine u_arg 1 0 1 hX hbl hbA hL hj (by decide) rfl ea1 rfl rfl dL_law_1291 dL_law_1292 dL_law_1294 dL_law_1295 dL_law_1296 ?_
  refine u_arg 1 0 2 hX hbl hbA hL hj (by decide) rfl ea2 rfl rfl dL_law_1297 dL_law_1298 dL_law_1300 dL_law_1301 dL_law_1302 ?_
  refine v_aload_n 4 dL_law_1303 rfl rfl ?_
  refine u_wrap (x := p) 4 [.ref p, .int (iI a1), .int (iI a2), .ref oL] (c_L_stalls (xl X) hfl p (iI a1) (iI a2) oL) gL_law_L_stalls rfl (by decide +kernel) (by decide) (by decide) rfl dL_law_1304 (Nat.le_of_ble_eq_true rfl) rfl hN hI.obj.1 h1 h2 h3 ⟨Nat.le_trans h4.1 hBC.1, Nat.le_trans h4.2 hBC.2⟩ (fun n hn => ?_)
  obtain ⟨H2, fs, fs2, hm, h6, hm2, h7, h8, h9⟩ := h5 n hn
  have hB2 : H2.2.2.1 ≤ B.2.2.1 ∧ H2.2.2.2 ≤ B.2.2.2 := ⟨Nat.le_trans h9.le.1 hBC.1, Nat.le_trans h9.le.2 hBC.2⟩
  refine v_istore ((6, _) :: [(5, .int (iI ((4 * jj : Nat) : Int))), (0, .ref b), (1, .ref p), (2, .ref m), (3, .ref oL), (4, .ref oD)]) dL_law_1307 (by decide) rfl ?_
  refine v_aload_n 4 dL_law_1309 rfl rfl ?_
  refine u_arg 2 1 1 hX hbl hbA hL hj (by decide) rfl ea1 rfl rfl dL_law_1310 dL_law_1311 dL_law_1313 dL_law_1314 dL_law_1315 ?_
  refine u_arg 2 1 2 hX hbl hbA hL hj (by decide) rfl ea2 rfl rfl dL_law_1316 dL_law_1317 dL_law_1319 dL_law_1320 dL_law_1321 ?_
  refine u_callV (val := vI) 5 2 [.int (iI a1), .int (iI a2)] (c_X5_stalls (xl X) hfl m (iI a1) (iI a2)) gL_law_X5_stalls rfl (by decide +kernel) (by decide) (by decide) rfl rfl dL_law_1322 (Nat.le_of_ble_eq_true rfl) rfl hm h6 hB2 rfl ?_
  exact u_cmp hfl hB2 hm2 h7 h8 dL_law_1325 dL_law_1327 dL_law_1328 dL_law_1331 dL_law_1333 dL_law_1338 dL_law_1340 dL_law_1343 dL_law_1344 dL_law_1345 dL_law_1346 dL_law_1348 dL_law_1349 dL_law_1350 dL_law_1355 (by decide) (hT _ _ (hw) h9)
theorem lc_worstWith {X : VX} {B : VB} {Q : State → Prop} {G : GH} {b : Nat} {L : Nat} {p : Nat} {m : Nat} {oL : Nat} {oD : Nat} {jj : Nat} {ys : Nat → Int32} {w : WW} {C : Nat} {S : Nat} (hfl : (xl X).stackTraces = false) (hN : NX (xs X)) (hX : va_X b L ys (xs X) (xs X).heap) (hbl : b < (xs X).heap.size) (hbA : ¬ (xA X) b) (hL : L ≤ 2048) (hj : 4 * jj + 4 ≤ L) (hw : WI w) (hI : LI2 G p m oL oD w w C S) (hBC : C + 1 ≤ B.2.2.1 ∧ S + 6 ≤ B.2.2.2) (hT : ∀ G' w', WI w' → LI2 G' p m oL oD w' w' (C + 1) (S + 6) → V X RL cL_law 9 11 390 wsL_law B Q G' 1540 [(5, .int (iI ((4 * jj : Nat) : Int))), (0, .ref b), (1, .ref p), (2, .ref m), (3, .ref oL), (4, .ref oD)] []) : V X RL cL_law 9 11 390 wsL_law B Q G 1358 [(5, .int (iI ((4 * jj : Nat) : Int))), (0, .ref b), (1, .ref p), (2, .ref m), (3, .ref oL), (4, .ref oD)] [] := by
  obtain ⟨a1, ha1, ea1⟩ := arg_of (ys (4 * jj + 1))
  obtain ⟨a2, ha2, ea2⟩ := arg_of (ys (4 * jj + 2))
  obtain ⟨z, G1, Gu, h1, h2, h3, h4, h5⟩ := ls_step (F := f_X4_worstWith p (iI a1) (iI a2)) (FR := f_X5_worstWith m (iI a1) (iI a2)) (tb := [(exI, 1), (exA, 2), (exS, 3)]) (fun v => v.toInt64) hI (hw) (fun ow P hr => (c_worstWith hw hr ha1 ha2)) (fun H ad z c hi h0 h => by subst h0; exact r_worstWith hi hw h ha1 ha2) (by unfold tRate; exact tb3)
  refine v_aload_n 2 dL_law_1358 rfl rfl ?_
  refine u_arg 1 0 1 hX hbl hbA hL hj (by decide) rfl ea1 rfl rfl dL_law_1359 dL_law_1360 dL_law_1362 dL_law_1363 dL_law_1364 ?_
  refine u_arg 1 0 2 hX hbl hbA hL hj (by decide) rfl ea2 rfl rfl dL_law_1365 dL_law_1366 dL_law_1368 dL_law_1369 dL_law_1370 ?_
  refine v_aload_n 4 dL_law_1371 rfl rfl ?_
  refine u_wrap (x := p) 4 [.ref p, .int (iI a1), .int (iI a2), .ref oL] (c_L_worstWith (xl X) hfl p (iI a1) (iI a2) oL) gL_law_L_worstWith rfl (by decide +kernel) (by decide) (by decide) rfl dL_law_1372 (Nat.le_of_ble_eq_true rfl) rfl hN hI.obj.1 h1 h2 h3 ⟨Nat.le_trans h4.1 hBC.1, Nat.le_trans h4.2 hBC.2⟩ (fun n hn => ?_)
  obtain ⟨H2, fs, fs2, hm, h6, hm2, h7, h8, h9⟩ := h5 n hn
  have hB2 : H2.2.2.1 ≤ B.2.2.1 ∧ H2.2.2.2 ≤ B.2.2.2 := ⟨Nat.le_trans h9.le.1 hBC.1, Nat.le_trans h9.le.2 hBC.2⟩
  refine v_istore ((6, _) :: [(5, .int (iI ((4 * jj : Nat) : Int))), (0, .ref b), (1, .ref p), (2, .ref m), (3, .ref oL), (4, .ref oD)]) dL_law_1375 (by decide) rfl ?_
  refine v_aload_n 4 dL_law_1377 rfl rfl ?_
  refine u_arg 2 1 1 hX hbl hbA hL hj (by decide) rfl ea1 rfl rfl dL_law_1378 dL_law_1379 dL_law_1381 dL_law_1382 dL_law_1383 ?_
  refine u_arg 2 1 2 hX hbl hbA hL hj (by decide) rfl ea2 rfl rfl dL_law_1384 dL_law_1385 dL_law_1387 dL_law_1388 dL_law_1389 ?_
  refine u_callV (val := vI) 5 2 [.int (iI a1), .int (iI a2)] (c_X5_worstWith (xl X) hfl m (iI a1) (iI a2)) gL_law_X5_worstWith rfl (by decide +kernel) (by decide) (by decide) rfl rfl dL_law_1390 (Nat.le_of_ble_eq_true rfl) rfl hm h6 hB2 rfl ?_
  exact u_cmp hfl hB2 hm2 h7 h8 dL_law_1393 dL_law_1395 dL_law_1396 dL_law_1399 dL_law_1401 dL_law_1406 dL_law_1408 dL_law_1411 dL_law_1412 dL_law_1413 dL_law_1414 dL_law_1416 dL_law_1417 dL_law_1418 dL_law_1423 (by decide) (hT _ _ (hw) h9)
theorem lc_leastRate {X : VX} {B : VB} {Q : State → Prop} {G : GH} {b : Nat} {L : Nat} {p : Nat} {m : Nat} {oL : Nat} {oD : Nat} {jj : Nat} {ys : Nat → Int32} {w : WW} {C : Nat} {S : Nat} (hfl : (xl X).stackTraces = false) (hN : NX (xs X)) (hX : va_X b L ys (xs X) (xs X).heap) (hbl : b < (xs X).heap.size) (hbA : ¬ (xA X) b) (hL : L ≤ 2048) (hj : 4 * jj + 4 ≤ L) (hw : WI w) (hI : LI2 G p m oL oD w w C S) (hBC : C + 1 ≤ B.2.2.1 ∧ S + 6 ≤ B.2.2.2) (hT : ∀ G' w', WI w' → LI2 G' p m oL oD w' w' (C + 1) (S + 6) → V X RL cL_law 9 11 390 wsL_law B Q G' 1540 [(5, .int (iI ((4 * jj : Nat) : Int))), (0, .ref b), (1, .ref p), (2, .ref m), (3, .ref oL), (4, .ref oD)] []) : V X RL cL_law 9 11 390 wsL_law B Q G 1426 [(5, .int (iI ((4 * jj : Nat) : Int))), (0, .ref b), (1, .ref p), (2, .ref m), (3, .ref oL), (4, .ref oD)] [] := by
  obtain ⟨a1, ha1, ea1⟩ := arg_of (ys (4 * jj + 1))
  obtain ⟨z, G1, Gu, h1, h2, h3, h4, h5⟩ := ls_step (F := f_X4_leastRate p (iI a1)) (FR := f_X5_leastRate m (iI a1)) (tb := [(exI, 1), (exS, 2)]) (fun v => v.toInt64) hI (hw) (fun ow P hr => (c_leastRate hw hr ha1)) (fun H ad z c hi h0 h => by subst h0; exact r_leastRate hi hw h ha1) (by unfold tLeast; exact tb2)
  refine v_aload_n 2 dL_law_1426 rfl rfl ?_
  refine u_arg 1 0 1 hX hbl hbA hL hj (by decide) rfl ea1 rfl rfl dL_law_1427 dL_law_1428 dL_law_1430 dL_law_1431 dL_law_1432 ?_
  refine v_aload_n 4 dL_law_1433 rfl rfl ?_
  refine u_wrap (x := p) 3 [.ref p, .int (iI a1), .ref oL] (c_L_leastRate (xl X) hfl p (iI a1) oL) gL_law_L_leastRate rfl (by decide +kernel) (by decide) (by decide) rfl dL_law_1434 (Nat.le_of_ble_eq_true rfl) rfl hN hI.obj.1 h1 h2 h3 ⟨Nat.le_trans h4.1 hBC.1, Nat.le_trans h4.2 hBC.2⟩ (fun n hn => ?_)
  obtain ⟨H2, fs, fs2, hm, h6, hm2, h7, h8, h9⟩ := h5 n hn
  have hB2 : H2.2.2.1 ≤ B.2.2.1 ∧ H2.2.2.2 ≤ B.2.2.2 := ⟨Nat.le_trans h9.le.1 hBC.1, Nat.le_trans h9.le.2 hBC.2⟩
  refine v_istore ((6, _) :: [(5, .int (iI ((4 * jj : Nat) : Int))), (0, .ref b), (1, .ref p), (2, .ref m), (3, .ref oL), (4, .ref oD)]) dL_law_1437 (by decide) rfl ?_
  refine v_aload_n 4 dL_law_1439 rfl rfl ?_
  refine u_arg 2 1 1 hX hbl hbA hL hj (by decide) rfl ea1 rfl rfl dL_law_1440 dL_law_1441 dL_law_1443 dL_law_1444 dL_law_1445 ?_
  refine u_callV (val := vI) 5 1 [.int (iI a1)] (c_X5_leastRate (xl X) hfl m (iI a1)) gL_law_X5_leastRate rfl (by decide +kernel) (by decide) (by decide) rfl rfl dL_law_1446 (Nat.le_of_ble_eq_true rfl) rfl hm h6 hB2 rfl ?_
  exact u_cmp hfl hB2 hm2 h7 h8 dL_law_1449 dL_law_1451 dL_law_1452 dL_law_1455 dL_law_1457 dL_law_1462 dL_law_1464 dL_law_1467 dL_law_1468 dL_law_1469 dL_law_1470 dL_law_1472 dL_law_1473 dL_law_1474 dL_law_1479 (by decide) (hT _ _ (hw) h9)
theorem lc_undo {X : VX} {B : VB} {Q : State → Prop} {G : GH} {b : Nat} {L : Nat} {p : Nat} {m : Nat} {oL : Nat} {oD : Nat} {jj : Nat} {ys : Nat → Int32} {w : WW} {C : Nat} {S : Nat} (hfl : (xl X).stackTraces = false) (hN : NX (xs X)) (hX : va_X b L ys (xs X) (xs X).heap) (hbl : b < (xs X).heap.size) (hbA : ¬ (xA X) b) (hL : L ≤ 2048) (hj : 4 * jj + 4 ≤ L) (hw : WI w) (hI : LI2 G p m oL oD w w C S) (hBC : C + 1 ≤ B.2.2.1 ∧ S + 6 ≤ B.2.2.2) (hT : ∀ G' w', WI w' → LI2 G' p m oL oD w' w' (C + 1) (S + 6) → V X RL cL_law 9 11 390 wsL_law B Q G' 1540 [(5, .int (iI ((4 * jj : Nat) : Int))), (0, .ref b), (1, .ref p), (2, .ref m), (3, .ref oL), (4, .ref oD)] []) : V X RL cL_law 9 11 390 wsL_law B Q G 1482 [(5, .int (iI ((4 * jj : Nat) : Int))), (0, .ref b), (1, .ref p), (2, .ref m), (3, .ref oL), (4, .ref oD)] [] := by
  obtain ⟨z, G1, Gu, h1, h2, h3, h4, h5⟩ := ls_step (F := f_X4_undo p) (FR := f_X5_undo m) (tb := [(exS, 1)]) (fun v => v.toInt64) hI (wi_nundo hw) (fun ow P hr => (c_undo hw hr).rt) (fun H ad z c hi h0 h => by subst h0; exact r_undo hi hw h) (tb1)
  refine v_aload_n 2 dL_law_1482 rfl rfl ?_
  refine v_aload_n 4 dL_law_1483 rfl rfl ?_
  refine u_wrap (x := p) 2 [.ref p, .ref oL] (c_L_undo (xl X) hfl p oL) gL_law_L_undo rfl (by decide +kernel) (by decide) (by decide) rfl dL_law_1484 (Nat.le_of_ble_eq_true rfl) rfl hN hI.obj.1 h1 h2 h3 ⟨Nat.le_trans h4.1 hBC.1, Nat.le_trans h4.2 hBC.2⟩ (fun n hn => ?_)
  obtain ⟨H2, fs, fs2, hm, h6, hm2, h7, h8, h9⟩ := h5 n hn
  have hB2 : H2.2.2.1 ≤ B.2.2.1 ∧ H2.2.2.2 ≤ B.2.2.2 := ⟨Nat.le_trans h9.le.1 hBC.1, Nat.le_trans h9.le.2 hBC.2⟩
  refine v_istore ((6, _) :: [(5, .int (iI ((4 * jj : Nat) : Int))), (0, .ref b), (1, .ref p), (2, .ref m), (3, .ref oL), (4, .ref oD)]) dL_law_1487 (by decide) rfl ?_
  refine v_aload_n 4 dL_law_1489 rfl rfl ?_
  refine u_callV (val := vI) 5 0 [] (c_X5_undo (xl X) hfl m) gL_law_X5_undo rfl (by decide +kernel) (by decide) (by decide) rfl rfl dL_law_1490 (Nat.le_of_ble_eq_true rfl) rfl hm h6 hB2 rfl ?_
  exact u_cmp hfl hB2 hm2 h7 h8 dL_law_1493 dL_law_1495 dL_law_1496 dL_law_1499 dL_law_1501 dL_law_1506 dL_law_1508 dL_law_1511 dL_law_1512 dL_law_1513 dL_law_1514 dL_law_1516 dL_law_1517 dL_law_1518 dL_law_1523 (by decide) (hT _ _ (wi_nundo hw) h9)
theorem lc_same {X : VX} {B : VB} {Q : State → Prop} {G : GH} {b : Nat} {L : Nat} {p : Nat} {m : Nat} {oL : Nat} {oD : Nat} {jj : Nat} {ys : Nat → Int32} {w : WW} {C : Nat} {S : Nat} (hfl : (xl X).stackTraces = false) (hN : NX (xs X)) (hX : va_X b L ys (xs X) (xs X).heap) (hbl : b < (xs X).heap.size) (hbA : ¬ (xA X) b) (hL : L ≤ 2048) (hj : 4 * jj + 4 ≤ L) (hw : WI w) (hI : LI2 G p m oL oD w w C S) (hBC : C + 1 ≤ B.2.2.1 ∧ S + 6 ≤ B.2.2.2) (hT : ∀ G' w', WI w' → LI2 G' p m oL oD w' w' (C + 1) (S + 6) → V X RL cL_law 9 11 390 wsL_law B Q G' 1540 [(5, .int (iI ((4 * jj : Nat) : Int))), (0, .ref b), (1, .ref p), (2, .ref m), (3, .ref oL), (4, .ref oD)] []) : V X RL cL_law 9 11 390 wsL_law B Q G 901 [(5, .int (iI ((4 * jj : Nat) : Int))), (0, .ref b), (1, .ref p), (2, .ref m), (3, .ref oL), (4, .ref oD)] [] := by
  obtain ⟨a1, ha1, ea1⟩ := arg_of (ys (4 * jj + 1))
  obtain ⟨a2, ha2, ea2⟩ := arg_of (ys (4 * jj + 2))
  obtain ⟨z, G1, Gu, h1, h2, h3, h4, h5⟩ := ls_step (F := f_X4_same p (iI a1) (iI a2)) (FR := f_X5_same m (iI a1) (iI a2)) (tb := [(exI, 1)]) (fun v => if v = 0 then 0 else 1) hI (hw) (fun ow P hr => (c_same hw hr ha1 ha2).rt) (fun H ad z c hi h0 h => by subst h0; exact r_same hi hw h ha1 ha2) (tb1)
  refine v_aload_n 2 dL_law_901 rfl rfl ?_
  refine u_arg 1 0 1 hX hbl hbA hL hj (by decide) rfl ea1 rfl rfl dL_law_902 dL_law_903 dL_law_905 dL_law_906 dL_law_907 ?_
  refine u_arg 1 0 2 hX hbl hbA hL hj (by decide) rfl ea2 rfl rfl dL_law_908 dL_law_909 dL_law_911 dL_law_912 dL_law_913 ?_
  refine v_aload_n 4 dL_law_914 rfl rfl ?_
  refine u_wrap (x := p) 4 [.ref p, .int (iI a1), .int (iI a2), .ref oL] (c_L_same (xl X) hfl p (iI a1) (iI a2) oL) gL_law_L_same rfl (by decide +kernel) (by decide) (by decide) rfl dL_law_915 (Nat.le_of_ble_eq_true rfl) rfl hN hI.obj.1 h1 h2 h3 ⟨Nat.le_trans h4.1 hBC.1, Nat.le_trans h4.2 hBC.2⟩ (fun n hn => ?_)
  obtain ⟨H2, fs, fs2, hm, h6, hm2, h7, h8, h9⟩ := h5 n hn
  have hB2 : H2.2.2.1 ≤ B.2.2.1 ∧ H2.2.2.2 ≤ B.2.2.2 := ⟨Nat.le_trans h9.le.1 hBC.1, Nat.le_trans h9.le.2 hBC.2⟩
  refine v_istore ((6, _) :: [(5, .int (iI ((4 * jj : Nat) : Int))), (0, .ref b), (1, .ref p), (2, .ref m), (3, .ref oL), (4, .ref oD)]) dL_law_918 (by decide) rfl ?_
  refine v_aload_n 4 dL_law_920 rfl rfl ?_
  refine u_arg 2 1 1 hX hbl hbA hL hj (by decide) rfl ea1 rfl rfl dL_law_921 dL_law_922 dL_law_924 dL_law_925 dL_law_926 ?_
  refine u_arg 2 1 2 hX hbl hbA hL hj (by decide) rfl ea2 rfl rfl dL_law_927 dL_law_928 dL_law_930 dL_law_931 dL_law_932 ?_
  refine u_callV (val := vI) 5 2 [.int (iI a1), .int (iI a2)] (c_X5_same (xl X) hfl m (iI a1) (iI a2)) gL_law_X5_same rfl (by decide +kernel) (by decide) (by decide) rfl rfl dL_law_933 (Nat.le_of_ble_eq_true rfl) rfl hm h6 hB2 rfl ?_
  generalize hbv : iI (b2i ((inV w.1 a1 && inV w.1 a2) && sameRow (w.1.2.2.2 a1.toNat).1 (w.1.2.2.2 a1.toNat).2 (w.1.2.2.2 a2.toNat).1 (w.1.2.2.2 a2.toNat).2)) = bv at h8 ⊢
  refine v_istore ((7, .int bv) :: (6, _) :: [(5, .int (iI ((4 * jj : Nat) : Int))), (0, .ref b), (1, .ref p), (2, .ref m), (3, .ref oL), (4, .ref oD)]) dL_law_936 (by decide) rfl ?_
  refine u_thr 5 1 hfl hB2 hm2 h7 rfl rfl dL_law_938 dL_law_939 dL_law_942 dL_law_944 ?_
  have hend : V X RL cL_law 9 11 390 wsL_law B Q H2 973 ((7, .int bv) :: (6, .int (iI (if (inV w.1 a1 && inV w.1 a2) = true then 0 else 1))) :: [(5, .int (iI ((4 * jj : Nat) : Int))), (0, .ref b), (1, .ref p), (2, .ref m), (3, .ref oL), (4, .ref oD)]) [] := v_goto 1540 dL_law_973 (by decide) (v_sub [2, 3, 4, 5, 6, 7] rfl (hT _ _ (hw) h9))
  refine v_iload 1 dL_law_949 rfl ?_
  by_cases hk : iI (if (inV w.1 a1 && inV w.1 a2) = true then 0 else 1) = 0
  · refine v_if_ne_f 973 dL_law_951 (by decide) hk ?_
    refine v_aload_n 6 dL_law_954 rfl rfl ?_
    refine v_iconst 0 dL_law_955 (by decide) ?_
    refine u_lald dL_law_956 (h8 hk) ?_
    refine v_iload 0 dL_law_957 rfl ?_
    by_cases hb0 : bv = 0
    · refine v_if_eq_t 966 dL_law_959 (by decide) hb0 ?_
      refine v_lconst 0 dL_law_966 (by decide) ?_
      refine u_lcmp0 (if_pos hb0) dL_law_967 ?_
      exact v_if_eq_t 973 dL_law_968 (by decide) rfl hend
    · refine v_if_eq_f 966 dL_law_959 (by decide) hb0 ?_
      refine v_lconst 1 dL_law_962 (by decide) ?_
      refine v_goto 967 dL_law_963 (by decide) ?_
      refine u_lcmp0 (if_neg hb0) dL_law_967 ?_
      exact v_if_eq_t 973 dL_law_968 (by decide) rfl hend
  · exact v_if_ne_t 973 dL_law_951 (by decide) hk hend
theorem lc_mean {X : VX} {B : VB} {Q : State → Prop} {G : GH} {b : Nat} {L : Nat} {p : Nat} {m : Nat} {oL : Nat} {oD : Nat} {jj : Nat} {ys : Nat → Int32} {w : WW} {C : Nat} {S : Nat} (hfl : (xl X).stackTraces = false) (hN : NX (xs X)) (hX : va_X b L ys (xs X) (xs X).heap) (hbl : b < (xs X).heap.size) (hbA : ¬ (xA X) b) (hL : L ≤ 2048) (hj : 4 * jj + 4 ≤ L) (hw : WI w) (hI : LI2 G p m oL oD w w C S) (hBC : C + 1 ≤ B.2.2.1 ∧ S + 6 ≤ B.2.2.2) (hT : ∀ G' w', WI w' → LI2 G' p m oL oD w' w' (C + 1) (S + 6) → V X RL cL_law 9 11 390 wsL_law B Q G' 1540 [(5, .int (iI ((4 * jj : Nat) : Int))), (0, .ref b), (1, .ref p), (2, .ref m), (3, .ref oL), (4, .ref oD)] []) : V X RL cL_law 9 11 390 wsL_law B Q G 1088 [(5, .int (iI ((4 * jj : Nat) : Int))), (0, .ref b), (1, .ref p), (2, .ref m), (3, .ref oL), (4, .ref oD)] [] := by
  obtain ⟨a1, ha1, ea1⟩ := arg_of (ys (4 * jj + 1))
  obtain ⟨z, G1, Gu, h1, h2, h3, h4, h5⟩ := lm_step (F := f_X4_mean p (iI a1)) (FR := f_X5_mean m (iI a1)) hI hw (fun ow P hr => (c_mean hw hr ha1).rt) (fun H ad z c hi h0 h => by subst h0; exact r_mean hi hw h ha1)
  refine v_aload_n 2 dL_law_1088 rfl rfl ?_
  refine u_arg 1 0 1 hX hbl hbA hL hj (by decide) rfl ea1 rfl rfl dL_law_1089 dL_law_1090 dL_law_1092 dL_law_1093 dL_law_1094 ?_
  refine v_aload 5 dL_law_1095 rfl ?_
  refine u_wrap (x := p) 3 [.ref p, .int (iI a1), .ref oD] (c_L_mean (xl X) hfl p (iI a1) oD) gL_law_L_mean rfl (by decide +kernel) (by decide) (by decide) rfl dL_law_1097 (Nat.le_of_ble_eq_true rfl) rfl hN hI.obj.1 h1 h2 h3 ⟨Nat.le_trans h4.1 hBC.1, Nat.le_trans h4.2 hBC.2⟩ (fun n hn => ?_)
  obtain ⟨H2, fs, fs2, hm, h6, hm2, h7, h8, h9⟩ := h5 n hn
  have hB2 : H2.2.2.1 ≤ B.2.2.1 ∧ H2.2.2.2 ≤ B.2.2.2 := ⟨Nat.le_trans h9.le.1 hBC.1, Nat.le_trans h9.le.2 hBC.2⟩
  refine v_istore ((6, _) :: [(5, .int (iI ((4 * jj : Nat) : Int))), (0, .ref b), (1, .ref p), (2, .ref m), (3, .ref oL), (4, .ref oD)]) dL_law_1100 (by decide) rfl ?_
  refine v_aload_n 4 dL_law_1102 rfl rfl ?_
  refine u_arg 2 1 1 hX hbl hbA hL hj (by decide) rfl ea1 rfl rfl dL_law_1103 dL_law_1104 dL_law_1106 dL_law_1107 dL_law_1108 ?_
  refine u_callV (val := vD) 5 1 [.int (iI a1)] (c_X5_mean (xl X) hfl m (iI a1)) gL_law_X5_mean rfl (by decide +kernel) (by decide) (by decide) rfl rfl dL_law_1109 (Nat.le_of_ble_eq_true rfl) rfl hm h6 hB2 rfl ?_
  generalize hbv : (if inV w.1 a1 = true then mnF w.1 a1.toNat else 0) = bv at h8 ⊢
  refine u_dstore ((7, .double bv) :: (6, _) :: [(5, .int (iI ((4 * jj : Nat) : Int))), (0, .ref b), (1, .ref p), (2, .ref m), (3, .ref oL), (4, .ref oD)]) dL_law_1112 (by decide) rfl ?_
  refine u_thr 5 1 hfl hB2 hm2 h7 rfl rfl dL_law_1114 dL_law_1115 dL_law_1118 dL_law_1120 ?_
  have hend : V X RL cL_law 9 11 390 wsL_law B Q H2 1162 ((7, .double bv) :: (6, .int (iI (if inV w.1 a1 = true then 0 else 1))) :: [(5, .int (iI ((4 * jj : Nat) : Int))), (0, .ref b), (1, .ref p), (2, .ref m), (3, .ref oL), (4, .ref oD)]) [] := v_goto 1540 dL_law_1162 (by decide) (v_sub [2, 3, 4, 5, 6, 7] rfl (hT _ _ (hw) h9))
  refine v_iload 1 dL_law_1125 rfl ?_
  by_cases hk : iI (if inV w.1 a1 = true then 0 else 1) = 0
  · refine v_if_ne_f 1162 dL_law_1127 (by decide) hk ?_
    refine v_aload 7 dL_law_1130 rfl ?_
    refine v_iconst 0 dL_law_1132 (by decide) ?_
    refine u_dald dL_law_1133 (h8 hk) ?_
    refine u_dload 0 dL_law_1134 rfl ?_
    refine u_dcmp dL_law_1136 ?_
    by_cases hd : Op.cmpValue (FP.dcmp bv bv) .l = 0
    · exact v_if_eq_t 1162 dL_law_1137 (by decide) hd hend
    · refine v_if_eq_f 1162 dL_law_1137 (by decide) hd ?_
      refine v_aload 7 dL_law_1140 rfl ?_
      refine v_iconst 0 dL_law_1142 (by decide) ?_
      refine u_dald dL_law_1143 (h8 hk) ?_
      refine v_aload 7 dL_law_1144 rfl ?_
      refine v_iconst 0 dL_law_1146 (by decide) ?_
      refine u_dald dL_law_1147 (h8 hk) ?_
      refine u_dcmp dL_law_1148 ?_
      refine v_if_eq_f 1160 dL_law_1149 (by decide) hd ?_
      refine u_dload 0 dL_law_1152 rfl ?_
      refine u_dload 0 dL_law_1154 rfl ?_
      refine u_dcmp dL_law_1156 ?_
      exact v_if_ne_t 1162 dL_law_1157 (by decide) hd hend
  · exact v_if_ne_t 1162 dL_law_1127 (by decide) hk hend
theorem lc_clear {X : VX} {B : VB} {Q : State → Prop} {G : GH} {b : Nat} {L : Nat} {p : Nat} {m : Nat} {oL : Nat} {oD : Nat} {jj : Nat} {ys : Nat → Int32} {w : WW} {C : Nat} {S : Nat} (hfl : (xl X).stackTraces = false) (hN : NX (xs X)) (hX : va_X b L ys (xs X) (xs X).heap) (hbl : b < (xs X).heap.size) (hbA : ¬ (xA X) b) (hL : L ≤ 2048) (hj : 4 * jj + 4 ≤ L) (hw : WI w) (hI : LI2 G p m oL oD w w C S) (hBC : C + 1 ≤ B.2.2.1 ∧ S + 6 ≤ B.2.2.2) (hT : ∀ G' w', WI w' → LI2 G' p m oL oD w' w' (C + 1) (S + 6) → V X RL cL_law 9 11 390 wsL_law B Q G' 1540 [(5, .int (iI ((4 * jj : Nat) : Int))), (0, .ref b), (1, .ref p), (2, .ref m), (3, .ref oL), (4, .ref oD)] []) : V X RL cL_law 9 11 390 wsL_law B Q G 448 [(5, .int (iI ((4 * jj : Nat) : Int))), (0, .ref b), (1, .ref p), (2, .ref m), (3, .ref oL), (4, .ref oD)] [] := by
  obtain ⟨G1, H2, fs, fs2, hp, h1, h4, hm, h5⟩ := lp_step (F := f_X4_clear p) (FR := f_X5_clear m) hI (wi_nclear hw) (fun ow P hr => (c_clear hw hr).rt) (fun H ad z c hi h0 h => by subst h0; exact r_clear hi hw h)
  refine v_aload_n 2 dL_law_448 rfl rfl ?_
  refine u_callV (val := vI) 4 0 [] (c_X4_clear (xl X) hfl p) gL_law_X4_clear rfl (by decide +kernel) (by decide) (by decide) rfl rfl dL_law_449 (Nat.le_of_ble_eq_true rfl) rfl hp h1 ⟨by omega, by omega⟩ rfl ?_
  refine v_gw (fun hn => ?_)
  obtain ⟨h6, h9⟩ := h5 hn
  have hle := h9.le
  refine v_aload_n 3 dL_law_452 rfl rfl ?_
  refine u_callV (val := vI) 5 0 [] (c_X5_clear (xl X) hfl m) gL_law_X5_clear rfl (by decide +kernel) (by decide) (by decide) rfl rfl dL_law_453 (Nat.le_of_ble_eq_true rfl) rfl hm h6 ⟨by omega, by omega⟩ rfl ?_
  exact v_icmp_eq_t 1540 dL_law_456 (by decide) rfl (hT _ _ (wi_nclear hw) (h9.up (by omega) (by omega)))
theorem lc_clearText {X : VX} {B : VB} {Q : State → Prop} {G : GH} {b : Nat} {L : Nat} {p : Nat} {m : Nat} {oL : Nat} {oD : Nat} {jj : Nat} {ys : Nat → Int32} {w : WW} {C : Nat} {S : Nat} (hfl : (xl X).stackTraces = false) (hN : NX (xs X)) (hX : va_X b L ys (xs X) (xs X).heap) (hbl : b < (xs X).heap.size) (hbA : ¬ (xA X) b) (hL : L ≤ 2048) (hj : 4 * jj + 4 ≤ L) (hw : WI w) (hI : LI2 G p m oL oD w w C S) (hBC : C + 1 ≤ B.2.2.1 ∧ S + 6 ≤ B.2.2.2) (hT : ∀ G' w', WI w' → LI2 G' p m oL oD w' w' (C + 1) (S + 6) → V X RL cL_law 9 11 390 wsL_law B Q G' 1540 [(5, .int (iI ((4 * jj : Nat) : Int))), (0, .ref b), (1, .ref p), (2, .ref m), (3, .ref oL), (4, .ref oD)] []) : V X RL cL_law 9 11 390 wsL_law B Q G 1221 [(5, .int (iI ((4 * jj : Nat) : Int))), (0, .ref b), (1, .ref p), (2, .ref m), (3, .ref oL), (4, .ref oD)] [] := by
  obtain ⟨G1, H2, fs, fs2, hp, h1, h4, hm, h5⟩ := lp_step (F := f_X4_clearText p) (FR := f_X5_clearText m) hI (wi_nct hw) (fun ow P hr => c_clearText hw hr) (fun H ad z c hi h0 h => by subst h0; exact ⟨_, _, (r_clearText (G := H) hi hw h).1, (r_clearText (G := H) hi hw h).2⟩)
  refine v_aload_n 2 dL_law_1221 rfl rfl ?_
  refine u_callV (val := vI) 4 0 [] (c_X4_clearText (xl X) hfl p) gL_law_X4_clearText rfl (by decide +kernel) (by decide) (by decide) rfl rfl dL_law_1222 (Nat.le_of_ble_eq_true rfl) rfl hp h1 ⟨by omega, by omega⟩ rfl ?_
  refine v_gw (fun hn => ?_)
  obtain ⟨h6, h9⟩ := h5 hn
  have hle := h9.le
  refine v_aload_n 3 dL_law_1225 rfl rfl ?_
  refine u_callV (val := vI) 5 0 [] (c_X5_clearText (xl X) hfl m) gL_law_X5_clearText rfl (by decide +kernel) (by decide) (by decide) rfl rfl dL_law_1226 (Nat.le_of_ble_eq_true rfl) rfl hm h6 ⟨by omega, by omega⟩ rfl ?_
  exact v_icmp_eq_t 1540 dL_law_1229 (by decide) rfl (hT _ _ (wi_nct hw) (h9.up (by omega) (by omega)))
theorem lc_digest {X : VX} {B : VB} {Q : State → Prop} {G : GH} {b : Nat} {L : Nat} {p : Nat} {m : Nat} {oL : Nat} {oD : Nat} {jj : Nat} {ys : Nat → Int32} {w : WW} {C : Nat} {S : Nat} (hfl : (xl X).stackTraces = false) (hN : NX (xs X)) (hX : va_X b L ys (xs X) (xs X).heap) (hbl : b < (xs X).heap.size) (hbA : ¬ (xA X) b) (hL : L ≤ 2048) (hj : 4 * jj + 4 ≤ L) (hw : WI w) (hI : LI2 G p m oL oD w w C S) (hBC : C + 1 ≤ B.2.2.1 ∧ S + 6 ≤ B.2.2.2) (hT : ∀ G' w', WI w' → LI2 G' p m oL oD w' w' (C + 1) (S + 6) → V X RL cL_law 9 11 390 wsL_law B Q G' 1540 [(5, .int (iI ((4 * jj : Nat) : Int))), (0, .ref b), (1, .ref p), (2, .ref m), (3, .ref oL), (4, .ref oD)] []) : V X RL cL_law 9 11 390 wsL_law B Q G 1526 [(5, .int (iI ((4 * jj : Nat) : Int))), (0, .ref b), (1, .ref p), (2, .ref m), (3, .ref oL), (4, .ref oD)] [] := by
  obtain ⟨G1, H2, fs, fs2, hp, h1, h4, hm, h5⟩ := lp_step (F := f_X4_digest p) (FR := f_X5_digest m) hI (hw) (fun ow P hr => c_digest hw hr) (fun H ad z c hi h0 h => by subst h0; exact r_digest hi hw h)
  refine v_aload_n 2 dL_law_1526 rfl rfl ?_
  refine u_callV (val := vL) 4 0 [] (c_X4_digest (xl X) hfl p) gL_law_X4_digest rfl (by decide +kernel) (by decide) (by decide) rfl rfl dL_law_1527 (Nat.le_of_ble_eq_true rfl) rfl hp h1 ⟨by omega, by omega⟩ rfl ?_
  refine v_gw (fun hn => ?_)
  obtain ⟨h6, h9⟩ := h5 hn
  have hle := h9.le
  refine v_aload_n 3 dL_law_1530 rfl rfl ?_
  refine u_callV (val := vL) 5 0 [] (c_X5_digest (xl X) hfl m) gL_law_X5_digest rfl (by decide +kernel) (by decide) (by decide) rfl rfl dL_law_1531 (Nat.le_of_ble_eq_true rfl) rfl hm h6 ⟨by omega, by omega⟩ rfl ?_
  refine u_lcmp0 rfl dL_law_1534 ?_
  exact v_if_eq_t 1540 dL_law_1535 (by decide) rfl (hT _ _ (hw) (h9.up (by omega) (by omega)))
