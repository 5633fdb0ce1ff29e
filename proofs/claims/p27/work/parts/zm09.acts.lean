/-! LAW: acts: one act by a number (walks printed by wip/p27/mk_acts.py). -/
def cQa (D : va_G) (dA : Nat → ClassId) (A : Nat → Prop) (p : Nat) : Array Value → State → Outcome → State → Prop := fun _ st oc t => oc = .returned (some (.int 1)) ∧ (∃ Gf w' ow P, gP D dA Gf t.heap ∧ RepC Gf ow p w' P ∧ WG w' ∧ ∀ a, Gf.1 a ≠ none → A a) ∧ va_F A st t
def QA (X : VX) (p : Nat) (B : VB) : State → Prop := MQ (xb X) (cQa (xDD X) (xdA X) (xA X) p) (xa X) (xs X) (B.2.2.1 - B.1) (B.2.2.2 - B.2.1) (xA X)
theorem a_ret {X : VX} {own : String} {cc : ByteArray} {nL fr lo : Nat} {Ts : List Cond} {B : VB} {G : GH} {pc : Nat} {lv : List (Nat × Value)} {p C S : Nat} {w : WW} (hr : (xme X).sig.returnType = some .boolean) (hd : decode cc pc = .ok (.ireturn, 1)) (hI : HI p C S G w) (hg : WG w) (hB : C ≤ B.2.2.1 ∧ S ≤ B.2.2.2) : V X own cc nL fr lo Ts B (QA X p B) G pc lv [.int 1] := by
  have hb := hI.bb hB
  obtain ⟨ow, P, hR, -, -⟩ := hI
  intro D Kb H ls locs hJ hl
  obtain ⟨k1, k2, k3, k4⟩ := Kb
  unfold QA
  refine W.widen (k := B.2.2.1 - B.1) (n := B.2.2.2 - B.2.1) (by omega) (by omega) ?_
  exact W.zret D.x D.b hr (zb_ok (Or.inr rfl)) (fun t ht hW => ⟨rfl, ⟨G, w, ow, P, by rw [ht]; exact hJ.1, hR, hg, hJ.2.1⟩, hJ.2.2.F ht⟩) hJ.2.2.2.2 hd D.lk
/-! what saving and taking back do -/
theorem sv_top (sv : Nat → SS) (n : Nat) (s : SS) (hn : n ≤ 4) : 0 < nSv n ∧ sSv sv n s (nSv n - 1) = s := by
  unfold nSv sSv
  by_cases h : n < 4
  · rw [if_pos h, if_pos h, show n + 1 - 1 = n by omega, up_self]
    exact ⟨by omega, rfl⟩
  · rw [if_neg h, if_neg h]
    exact ⟨by decide, up_self _ _ _⟩
def unW (w : WW) : WW := (w.2.1 (w.2.2.1 - 1), w.2.1, w.2.2.1 - 1, w.2.2.2)
theorem wg_un {w : WW} (hg : WG w) (h : 0 < w.2.2.1) : WG (unW w) := by
  have h1 := wi_nundo hg.1
  rw [if_pos h] at h1
  refine ⟨h1, hg.2.2 _ (by omega), fun i hi => hg.2.2 i ?_⟩
  have hi' : i < w.2.2.1 - 1 := hi
  omega
theorem wg_save {w : WW} (hg : WG w) {s : SS} (hs : SI s) (hj : SJ s) : WG (wSave w s) := ⟨wi_save hg.1 hs, wj_save hg.2 hj⟩
theorem un_save {w : WW} (hg : WG w) {s : SS} (hs : SI s) (hj : SJ s) : (unW (wSave w s)).1 = w.1 ∧ WG (unW (wSave w s)) ∧ 0 < (wSave w s).2.2.1 := by
  have h := sv_top w.2.1 w.2.2.1 w.1 hg.1.2.2.1
  exact ⟨h.2, wg_un (wg_save hg hs hj) h.1, h.1⟩
section Ac0
variable {G : GH} {ow : Nat → Nat} {p : Nat} {w : WW} {P : Nat}
theorem q_undo (hw : WI w) (h : RepC G ow p w P) (h0 : 0 < w.2.2.1) : RT (f_X4_undo p) G ow p w P (.inr (iI ((w.2.2.1 : Int) - 1))) (unW w) 0 := by
  have t := (c_undo hw h).rt
  rw [if_pos h0, if_pos h0, if_pos h0] at t
  exact t
theorem q_drop1 (hw : WI w) (h : RepC G ow p w P) (h0 : 1 < w.1.2.2.1) : RT (f_X4_drop p) G ow p w P (.inr (iI ((w.1.2.2.1 : Int) - 1))) (wSave w (sHeld w.1 (w.1.2.2.1 - 1))) 0 := by
  have t := (c_drop hw h).rt
  rw [if_pos h0, if_pos h0, if_pos h0] at t
  exact t
theorem q_drop0 (hw : WI w) (h : RepC G ow p w P) (h0 : ¬ 1 < w.1.2.2.1) : RT (f_X4_drop p) G ow p w P (.inl exS) w 1 := by
  have t := (c_drop hw h).rt
  rw [if_neg h0, if_neg h0, if_neg h0] at t
  exact t
theorem q_pop (hw : WI w) (h : RepC G ow p w P) {a b : Int32} {v : Nat} (fr : Bool) (ha : a = iI v) (hb : b = iI (b2i fr)) (hv : v < w.1.2.2.1) (t : Int) (ht : tPop w.1 (v : Int) = t) : RT (f_X4_pop p a b) G ow p w P (yr t exI exN exS (if t = 0 then (w.1.2.2.1 : Int) else 0)) (if t = 0 then wSave w (sGrow w.1 v (kPop fr) 0) else w) (ye t) := by
  have t1 := (c_pop hw h (irg_v hw hv) fr).rt
  rw [ht, Int.toNat_natCast, ← ha, ← hb] at t1
  exact t1
theorem q_push (hw : WI w) (h : RepC G ow p w P) {a b c : Int32} {v : Nat} {x : Int} (fr : Bool) (ha : a = iI v) (hc : c = iI x) (hb : b = iI (b2i fr)) (hv : v < w.1.2.2.1) (hx : -999 ≤ x ∧ x ≤ 999) (t : Int) (ht : tPush w.1 (v : Int) x = t) : RT (f_X4_push p a c b) G ow p w P (yr t exI exA exS (if t = 0 then (w.1.2.2.1 : Int) else 0)) (if t = 0 then wSave w (sGrow w.1 v (kPush fr) x) else w) (ye t) := by
  have t1 := (c_push hw h (irg_v hw hv) (irg_s (a := x) (by omega)) fr).rt
  rw [ht, Int.toNat_natCast, ← ha, ← hb, ← hc] at t1
  exact t1
theorem q_dig (hw : WI w) (h : RepC G ow p w P) : RT (f_X4_digest p) G ow p w P (dgW w) w 0 := c_digest hw h
end Ac0
theorem kpush_b (fr : Bool) : 0 ≤ kPush fr ∧ kPush fr < 2 := by cases fr <;> decide
theorem kpop_b (fr : Bool) : 2 ≤ kPop fr ∧ kPop fr ≤ 3 := by cases fr <;> decide
theorem act_val (v g : Nat → Int) {kind x rate ratio : Int} (hk : kind < 2) : sAct v g kind x rate ratio 2 = x := by
  unfold sAct
  rw [if_pos hk]
  obtain ⟨-, a2, -⟩ := put_k (sStart v kind) (decide (kind = 0)) x
  generalize sPut (sStart v kind) (decide (kind = 0)) x = w1 at a2 ⊢
  obtain ⟨-, c2, -⟩ := pay_k (sCost w1) rate
  obtain ⟨-, d2, -⟩ := begin_k (sPay (sCost w1) rate) ratio
  rw [d2, c2]
  exact a2
/-- an act that is done makes a good world -/
theorem wg_grow {w : WW} (hg : WG w) (hN : w.1.2.2.1 < 100) {v : Nat} (hv : v < w.1.2.2.1) {kind x : Int} (hk : 0 ≤ kind ∧ kind ≤ 3) (hx : -999 ≤ x ∧ x ≤ 999) (hp : pmt (w.1.2.2.2 v).1 kind = true) : SI (sGrow w.1 v kind x) ∧ SJ (sGrow w.1 v kind x) := ⟨si_grow hg.1.1 hN hv hk hx hp, sj_grow hg.1.1 hg.2.1 hN hv hk hp⟩
section Acts
variable {X : VX} {B : VB} {p C S : Nat} {G : GH} {w : WW} {q : Int32}
theorem a120 (hfl : (xl X).stackTraces = false) (hNX : NX (xs X)) (hr : (xme X).sig.returnType = some .boolean) (hB1 : C + 1 ≤ B.2.2.1 ∧ S + 6 ≤ B.2.2.2) (hI : HI p C S G w) (hg : WG w) {v : Nat} {fr : Bool} (hv : v < w.1.2.2.1) : V X RL cL_acts 12 9 167 wsL_acts B (QA X p B) G 120 [(9, .int (iI (b2i fr))), (8, .int (iI (sz (w.1.2.2.2 v)))), (7, .int (iI (v : Int))), (6, .int (iI (w.1.2.2.1 : Int))), (4, .long (mkF w.1)), (2, .long (dgW w)), (0, .ref p), (1, .int q)] [] := by
  have hB : C ≤ B.2.2.1 ∧ S ≤ B.2.2.2 := ⟨by omega, by omega⟩
  have hw := hg.1
  have hn := hw.1.2.2.1
  refine v_aload_n 6 dL_acts_120 rfl rfl ?_
  refine v_iconst 1 dL_acts_121 (by decide) ?_
  refine v_iconst 2 dL_acts_122 (by decide) ?_
  refine v_iload_n 7 dL_acts_123 rfl rfl ?_
  refine v_iconst 2 dL_acts_124 (by decide) ?_
  refine v_ishr dL_acts_125 ?_
  refine v_iconst 4 dL_acts_126 (by decide) ?_
  obtain ⟨k, k_lt, k_e⟩ := q_up (x := (q >>> (2 &&& 31))) (y := 4) (n := 4) rfl (by decide) G
  refine u_callS (val := vI) 2 [.int (q >>> (2 &&& 31)), .int 4] (c_L_up (xl X) hfl (q >>> (2 &&& 31)) 4) gL_acts_L_up rfl dn_L_up (by decide) (by decide) rfl dL_acts_127 (Nat.le_of_ble_eq_true rfl) rfl k_e (hI.bb hB) rfl ?_
  refine v_iadd dL_acts_130 ?_
  have hok : okS 1 (2 + (k : Int)) = true := decide_eq_true (Or.inr ⟨rfl, by omega, by omega⟩)
  have hs := si_set hw.1 hok
  have hj : SJ (sSet w.1 1 (2 + (k : Int))) := sj_set hg.2.1
  obtain ⟨u1, u2, u3⟩ := un_save hg hs hj
  have hr2 := hw.1.2.1
  obtain ⟨G1, e1, h1⟩ := hI.rt (F := f_X4_set p 1 (2 + iI (k : Int))) (e := 0) (fun ow P hR => q_set (k := 1) (x := 2 + (k : Int)) hw hR lz1 (by rw [lz2, iI_add]) hok)
  obtain ⟨fs1, b1⟩ := hI.obj
  refine u_xcallV (val := vI) 4 2 [.int 1, .int (2 + iI (k : Int))] (c_X4_set (xl X) hfl p 1 (2 + iI (k : Int))) gL_acts_X4_set rfl dv_X4_set (by decide) (by decide) rfl rfl dL_acts_131 (Nat.le_of_ble_eq_true rfl) rfl b1 e1 (h1.bb hB) rfl ?_
  refine v_istore [(10, .int (iI w.1.2.1)), (9, .int (iI (b2i fr))), (8, .int (iI (sz (w.1.2.2.2 v)))), (7, .int (iI (v : Int))), (6, .int (iI (w.1.2.2.1 : Int))), (4, .long (mkF w.1)), (2, .long (dgW w)), (0, .ref p), (1, .int q)] dL_acts_134 (by decide) rfl ?_
  refine v_iload 0 dL_acts_136 rfl ?_
  refine v_iconst 2 dL_acts_138 (by decide) ?_
  refine v_icmp_lt_f 169 dL_acts_139 (by decide) (i_nlt (a := w.1.2.1) rfl lz2 (by omega)) ?_
  refine v_iload 0 dL_acts_142 rfl ?_
  refine v_iconst 5 dL_acts_144 (by decide) ?_
  refine v_icmp_gt_f 169 dL_acts_145 (by decide) (i_nlt (b := w.1.2.1) lz5 rfl (by omega)) ?_
  refine v_aload_n 7 dL_acts_148 rfl rfl ?_
  obtain ⟨G2, e2, h2⟩ := h1.rt (F := f_X4_undo p) (e := 0) (fun ow P hR => q_undo (wg_save hg hs hj).1 hR u3)
  obtain ⟨fs2, b2⟩ := h1.obj
  refine u_xcallV (val := vI) 4 0 [] (c_X4_undo (xl X) hfl p) gL_acts_X4_undo rfl dv_X4_undo (by decide) (by decide) rfl rfl dL_acts_149 (Nat.le_of_ble_eq_true rfl) rfl b2 e2 (h2.bb hB) rfl ?_
  have u4 := (wg_save hg hs hj).1.2.2.1
  refine v_if_lt_f 169 dL_acts_152 (by decide) (i_nlt rfl lz0 (by omega)) ?_
  refine v_aload_n 7 dL_acts_155 rfl rfl ?_
  obtain ⟨G3, e3, h3⟩ := h2.rt (F := f_L_mark p) (e := 0) (fun ow P hR => l_mark u2.1 hR)
  refine u_xcallS (val := vL) 1 [.ref p] (c_L_mark (xl X) hfl p) gL_acts_L_mark rfl dn_L_mark (by decide) (by decide) rfl dL_acts_156 (Nat.le_of_ble_eq_true rfl) rfl e3 (h3.bb hB) rfl ?_
  refine v_lload 5 dL_acts_159 rfl ?_
  rw [u1]
  refine v_lcmp dL_acts_161 ?_
  rw [lcmp_self]
  refine v_if_ne_f 169 dL_acts_162 (by decide) rfl ?_
  refine v_iconst 1 dL_acts_165 (by decide) ?_
  refine v_goto 170 dL_acts_166 (by decide) ?_
  exact a_ret hr dL_acts_170 h3 u2 hB
theorem a171 (hfl : (xl X).stackTraces = false) (hNX : NX (xs X)) (hr : (xme X).sig.returnType = some .boolean) (hB1 : C + 1 ≤ B.2.2.1 ∧ S + 6 ≤ B.2.2.2) (hI : HI p C S G w) (hg : WG w) {v : Nat} {fr : Bool} (hv : v < w.1.2.2.1) : V X RL cL_acts 12 9 167 wsL_acts B (QA X p B) G 171 [(9, .int (iI (b2i fr))), (8, .int (iI (sz (w.1.2.2.2 v)))), (7, .int (iI (v : Int))), (6, .int (iI (w.1.2.2.1 : Int))), (4, .long (mkF w.1)), (2, .long (dgW w)), (0, .ref p), (1, .int q)] [] := by
  have hB : C ≤ B.2.2.1 ∧ S ≤ B.2.2.2 := ⟨by omega, by omega⟩
  have hw := hg.1
  have hn := hw.1.2.2.1
  refine v_aload_n 6 dL_acts_171 rfl rfl ?_
  have key : ∀ (z : String ⊕ Int32) (k : Int) (w1 : WW) (e : Nat), e ≤ 1 → (∀ ow P, RepC G ow p w P → RT (f_X4_drop p) G ow p w P z w1 e) → WR [(exS, -1)] z (iI k) → k = (if w.1.2.2.1 = 1 then -1 else (w.1.2.2.1 : Int) - 1) → (w1.1.2.2.1 : Int) = (if w.1.2.2.1 = 1 then 1 else (w.1.2.2.1 : Int) - 1) → WG w1 → V X RL cL_acts 12 9 167 wsL_acts B (QA X p B) G 172 [(9, .int (iI (b2i fr))), (8, .int (iI (sz (w.1.2.2.2 v)))), (7, .int (iI (v : Int))), (6, .int (iI (w.1.2.2.1 : Int))), (4, .long (mkF w.1)), (2, .long (dgW w)), (0, .ref p), (1, .int q)] [.ref p] := by
    intro z k w1 e he hF hW hk hN1 hg1
    obtain ⟨G1, e1, h1'⟩ := hI.rt hF
    have h1 := h1'.up (C' := C + 1) (S' := S + 6) (by omega) (by omega)
    refine u_wrap 1 [.ref p] (c_L_dropOr (xl X) hfl p) gL_acts_L_dropOr rfl dn_L_dropOr (by decide) (by decide) rfl dL_acts_172 (Nat.le_of_ble_eq_true rfl) rfl hNX hI.obj e1 hW (h1.bb hB1) (fun n hn1 => ?_)
    have h2 := h1.mv hn1
    have hn2 := hg1.1.1.2.2.1
    refine v_istore [(10, .int (iI k)), (9, .int (iI (b2i fr))), (8, .int (iI (sz (w.1.2.2.2 v)))), (7, .int (iI (v : Int))), (6, .int (iI (w.1.2.2.1 : Int))), (4, .long (mkF w.1)), (2, .long (dgW w)), (0, .ref p), (1, .int q)] dL_acts_175 (by decide) rfl ?_
    refine v_iload 0 dL_acts_177 rfl ?_
    refine v_iload 4 dL_acts_179 rfl ?_
    refine v_iconst 1 dL_acts_181 (by decide) ?_
    by_cases hc : w.1.2.2.1 = 1
    · refine v_icmp_ne_f 189 dL_acts_182 (by decide) (i_eq rfl lz1 (by omega)) ?_
      rw [if_pos hc] at hk hN1
      refine v_iconst (-1) dL_acts_185 (by decide) ?_
      refine v_goto 193 dL_acts_186 (by decide) ?_
      refine v_icmp_ne_f 222 dL_acts_193 (by decide) (i_eq rfl lzm1 hk) ?_
      refine v_aload_n 7 dL_acts_196 rfl rfl ?_
      refine v_iconst 0 dL_acts_197 (by decide) ?_
      obtain ⟨G2, e2, h3⟩ := h2.rt (e := 0) (fun ow P hR => q_c0 hg1.1 hR)
      obtain ⟨fs2, b2⟩ := h2.obj
      refine u_xcallV (val := vI) 4 1 [.int 0] (c_X4_count (xl X) hfl p 0) gL_acts_X4_count rfl dv_X4_count (by decide) (by decide) rfl rfl dL_acts_198 (Nat.le_of_ble_eq_true rfl) rfl b2 e2 (h3.bb hB1) rfl ?_
      refine v_iload 4 dL_acts_201 rfl ?_
      refine v_iconst 1 dL_acts_203 (by decide) ?_
      refine v_icmp_ne_f 211 dL_acts_204 (by decide) (i_eq rfl lz1 (by omega)) ?_
      refine v_iconst 1 dL_acts_207 (by decide) ?_
      refine v_goto 215 dL_acts_208 (by decide) ?_
      refine v_icmp_ne_f 222 dL_acts_215 (by decide) (i_eq rfl lz1 (by omega)) ?_
      refine v_iconst 1 dL_acts_218 (by decide) ?_
      refine v_goto 223 dL_acts_219 (by decide) ?_
      exact a_ret hr dL_acts_223 h3 hg1 hB1
    · refine v_icmp_ne_t 189 dL_acts_182 (by decide) (i_ne rfl lz1 (by omega)) ?_
      rw [if_neg hc] at hk hN1
      refine v_iload 4 dL_acts_189 rfl ?_
      refine v_iconst 1 dL_acts_191 (by decide) ?_
      refine v_isub dL_acts_192 ?_
      refine v_icmp_ne_f 222 dL_acts_193 (by decide) (i_eq rfl (by rw [lz1, iI_sub]) hk) ?_
      refine v_aload_n 7 dL_acts_196 rfl rfl ?_
      refine v_iconst 0 dL_acts_197 (by decide) ?_
      obtain ⟨G2, e2, h3⟩ := h2.rt (e := 0) (fun ow P hR => q_c0 hg1.1 hR)
      obtain ⟨fs2, b2⟩ := h2.obj
      refine u_xcallV (val := vI) 4 1 [.int 0] (c_X4_count (xl X) hfl p 0) gL_acts_X4_count rfl dv_X4_count (by decide) (by decide) rfl rfl dL_acts_198 (Nat.le_of_ble_eq_true rfl) rfl b2 e2 (h3.bb hB1) rfl ?_
      refine v_iload 4 dL_acts_201 rfl ?_
      refine v_iconst 1 dL_acts_203 (by decide) ?_
      refine v_icmp_ne_t 211 dL_acts_204 (by decide) (i_ne rfl lz1 (by omega)) ?_
      refine v_iload 4 dL_acts_211 rfl ?_
      refine v_iconst 1 dL_acts_213 (by decide) ?_
      refine v_isub dL_acts_214 ?_
      refine v_icmp_ne_f 222 dL_acts_215 (by decide) (i_eq rfl (by rw [lz1, iI_sub]) hN1) ?_
      refine v_iconst 1 dL_acts_218 (by decide) ?_
      refine v_goto 223 dL_acts_219 (by decide) ?_
      exact a_ret hr dL_acts_223 h3 hg1 hB1
  by_cases h1 : 1 < w.1.2.2.1
  · exact key (.inr (iI ((w.1.2.2.1 : Int) - 1))) _ _ 0 (by omega) (fun ow P hR => q_drop1 hw hR h1) rfl (by rw [if_neg (by omega)]) (by show ((w.1.2.2.1 - 1 : Nat) : Int) = _; rw [if_neg (by omega)]; omega) (wg_save hg (si_held hw.1 (by omega) (by omega)) (sj_held hg.2.1 (by omega)))
  · exact key (.inl exS) (-1) w 1 (by omega) (fun ow P hR => q_drop0 hw hR h1) (List.mem_of_getElem? (i := 0) rfl) (by rw [if_pos (by omega)]) (by rw [if_pos (by omega)]; omega) hg
theorem a224 (hfl : (xl X).stackTraces = false) (hNX : NX (xs X)) (hr : (xme X).sig.returnType = some .boolean) (hB1 : C + 1 ≤ B.2.2.1 ∧ S + 6 ≤ B.2.2.2) (hI : HI p C S G w) (hg : WG w) {v : Nat} {fr : Bool} (hv : v < w.1.2.2.1) : V X RL cL_acts 12 9 167 wsL_acts B (QA X p B) G 224 [(9, .int (iI (b2i fr))), (8, .int (iI (sz (w.1.2.2.2 v)))), (7, .int (iI (v : Int))), (6, .int (iI (w.1.2.2.1 : Int))), (4, .long (mkF w.1)), (2, .long (dgW w)), (0, .ref p), (1, .int q)] [] := by
  have hB : C ≤ B.2.2.1 ∧ S ≤ B.2.2.2 := ⟨by omega, by omega⟩
  have hw := hg.1
  have hn := hw.1.2.2.1
  refine v_aload_n 6 dL_acts_224 rfl rfl ?_
  refine v_iload 2 dL_acts_225 rfl ?_
  refine v_iload 0 dL_acts_227 rfl ?_
  have bv := sz_b hw.1 hv
  have key : ∀ (z : String ⊕ Int32) (k : Int) (w1 : WW) (e : Nat), e ≤ 1 → (∀ ow P, RepC G ow p w P → RT (f_X4_pop p (iI (v : Int)) (iI (b2i fr))) G ow p w P z w1 e) → WR [(exN, -2), (exS, -1)] z (iI k) → k = (if sz (w.1.2.2.2 v) = 0 then -2 else if w.1.2.2.1 = 100 then -1 else (w.1.2.2.1 : Int)) → (k < 0 → w1 = w) → WG w1 → V X RL cL_acts 12 9 167 wsL_acts B (QA X p B) G 229 [(9, .int (iI (b2i fr))), (8, .int (iI (sz (w.1.2.2.2 v)))), (7, .int (iI (v : Int))), (6, .int (iI (w.1.2.2.1 : Int))), (4, .long (mkF w.1)), (2, .long (dgW w)), (0, .ref p), (1, .int q)] [.int (iI (b2i fr)), .int (iI (v : Int)), .ref p] := by
    intro z k w1 e he hF hW hk hsame hg1
    obtain ⟨G1, e1, h1'⟩ := hI.rt hF
    have h1 := h1'.up (C' := C + 1) (S' := S + 6) (by omega) (by omega)
    refine u_wrap 3 [.ref p, .int (iI (v : Int)), .int (iI (b2i fr))] (c_L_popOr (xl X) hfl p (iI (v : Int)) (iI (b2i fr))) gL_acts_L_popOr rfl dn_L_popOr (by decide) (by decide) rfl dL_acts_229 (Nat.le_of_ble_eq_true rfl) rfl hNX hI.obj e1 hW (h1.bb hB1) (fun n hn1 => ?_)
    have h2 := h1.mv hn1
    refine v_istore [(10, .int (iI k)), (9, .int (iI (b2i fr))), (8, .int (iI (sz (w.1.2.2.2 v)))), (7, .int (iI (v : Int))), (6, .int (iI (w.1.2.2.1 : Int))), (4, .long (mkF w.1)), (2, .long (dgW w)), (0, .ref p), (1, .int q)] dL_acts_232 (by decide) rfl ?_
    have tail : V X RL cL_acts 12 9 167 wsL_acts B (QA X p B) (G1.1, n, G1.2.2) 262 [(10, .int (iI k)), (9, .int (iI (b2i fr))), (8, .int (iI (sz (w.1.2.2.2 v)))), (7, .int (iI (v : Int))), (6, .int (iI (w.1.2.2.1 : Int))), (4, .long (mkF w.1)), (2, .long (dgW w)), (0, .ref p), (1, .int q)] [] := by
      refine v_iload 0 dL_acts_262 rfl ?_
      by_cases hk0 : 0 ≤ k
      · refine v_if_ge_t 276 dL_acts_264 (by decide) (i_le lz0 rfl (by omega)) ?_
        refine v_iconst 1 dL_acts_276 (by decide) ?_
        refine v_goto 281 dL_acts_277 (by decide) ?_
        exact a_ret hr dL_acts_281 h2 hg1 hB1
      · refine v_if_ge_f 276 dL_acts_264 (by decide) (i_nle lz0 rfl (by omega)) ?_
        have e9 := hsame (by omega)
        subst e9
        refine v_aload_n 7 dL_acts_267 rfl rfl ?_
        obtain ⟨G2, e2, h3⟩ := h2.rt (e := 0) (fun ow P hR => q_dig hg1.1 hR)
        obtain ⟨fs2, b2⟩ := h2.obj
        refine u_callV (val := vL) 4 0 [] (c_X4_digest (xl X) hfl p) gL_acts_X4_digest rfl dv_X4_digest (by decide) (by decide) rfl rfl dL_acts_268 (Nat.le_of_ble_eq_true rfl) rfl b2 e2 (h3.bb hB1) rfl ?_
        refine v_lload_n 6 dL_acts_271 rfl rfl ?_
        refine v_lcmp dL_acts_272 ?_
        rw [lcmp_self]
        refine v_if_ne_f 280 dL_acts_273 (by decide) rfl ?_
        refine v_iconst 1 dL_acts_276 (by decide) ?_
        refine v_goto 281 dL_acts_277 (by decide) ?_
        exact a_ret hr dL_acts_281 h3 hg1 hB1
    have bk : -2 ≤ k ∧ k ≤ 100 := by
      rw [hk]
      split
      · omega
      · split <;> omega
    refine v_iload 0 dL_acts_234 rfl ?_
    refine v_iload 2 dL_acts_236 rfl ?_
    by_cases hs : sz (w.1.2.2.2 v) = 0
    · refine v_if_ne_f 246 dL_acts_238 (by decide) (i_eq rfl lz0 hs) ?_
      rw [if_pos hs] at hk
      refine v_bipush (-2) dL_acts_241 (by decide) ?_
      refine v_goto 259 dL_acts_243 (by decide) ?_
      refine v_icmp_ne_f 280 dL_acts_259 (by decide) (i_eq (b := -2) rfl rfl hk) ?_
      exact tail
    · refine v_if_ne_t 246 dL_acts_238 (by decide) (i_ne rfl lz0 (by omega)) ?_
      rw [if_neg hs] at hk
      refine v_iload 4 dL_acts_246 rfl ?_
      refine v_bipush 100 dL_acts_248 (by decide) ?_
      by_cases hc : w.1.2.2.1 = 100
      · refine v_icmp_ne_f 257 dL_acts_250 (by decide) (i_eq rfl lz100 (by omega)) ?_
        rw [if_pos hc] at hk
        refine v_iconst (-1) dL_acts_253 (by decide) ?_
        refine v_goto 259 dL_acts_254 (by decide) ?_
        refine v_icmp_ne_f 280 dL_acts_259 (by decide) (i_eq rfl lzm1 hk) ?_
        exact tail
      · refine v_icmp_ne_t 257 dL_acts_250 (by decide) (i_ne rfl lz100 (by omega)) ?_
        rw [if_neg hc] at hk
        refine v_iload 4 dL_acts_257 rfl ?_
        refine v_icmp_ne_f 280 dL_acts_259 (by decide) (i_eq rfl rfl hk) ?_
        exact tail
  have hin := inV_t hv
  have kb := kpop_b fr
  by_cases hs : sz (w.1.2.2.2 v) = 0
  · have ht : tPop w.1 (v : Int) = 2 := by
      unfold tPop
      rw [if_pos hin, Int.toNat_natCast, if_neg (by omega)]
    exact key (.inl exN) (-2) w 1 (by omega) (fun ow P hR => q_pop hw hR fr rfl rfl hv 2 ht) (List.mem_of_getElem? (i := 0) rfl) (by rw [if_pos hs]) (fun _ => rfl) hg
  · by_cases hc : w.1.2.2.1 < 100
    · have ht : tPop w.1 (v : Int) = 0 := by
        unfold tPop
        rw [if_pos hin, Int.toNat_natCast, if_pos (by omega), if_pos hc]
      have hp : pmt (w.1.2.2.2 v).1 (kPop fr) = true := by
        unfold pmt
        rw [if_neg (by omega)]
        exact decide_eq_true (by show 0 < sz (w.1.2.2.2 v); omega)
      have hgr := wg_grow hg hc hv (kind := kPop fr) (x := 0) (by omega) (by omega) hp
      exact key (.inr (iI (w.1.2.2.1 : Int))) _ (wSave w (sGrow w.1 v (kPop fr) 0)) 0 (by omega) (fun ow P hR => q_pop hw hR fr rfl rfl hv 0 ht) rfl (by rw [if_neg hs, if_neg (by omega)]) (fun hh => absurd hh (by omega)) (wg_save hg hgr.1 hgr.2)
    · have ht : tPop w.1 (v : Int) = 3 := by
        unfold tPop
        rw [if_pos hin, Int.toNat_natCast, if_pos (by omega), if_neg hc]
      exact key (.inl exS) (-1) w 1 (by omega) (fun ow P hR => q_pop hw hR fr rfl rfl hv 3 ht) (List.mem_of_getElem? (i := 1) rfl) (by rw [if_neg hs, if_pos (by omega)]) (fun _ => rfl) hg
theorem a282 (hfl : (xl X).stackTraces = false) (hNX : NX (xs X)) (hr : (xme X).sig.returnType = some .boolean) (hB1 : C + 1 ≤ B.2.2.1 ∧ S + 6 ≤ B.2.2.2) (hI : HI p C S G w) (hg : WG w) {v : Nat} {fr : Bool} (hv : v < w.1.2.2.1) : V X RL cL_acts 12 9 167 wsL_acts B (QA X p B) G 282 [(9, .int (iI (b2i fr))), (8, .int (iI (sz (w.1.2.2.2 v)))), (7, .int (iI (v : Int))), (6, .int (iI (w.1.2.2.1 : Int))), (4, .long (mkF w.1)), (2, .long (dgW w)), (0, .ref p), (1, .int q)] [] := by
  have hB : C ≤ B.2.2.1 ∧ S ≤ B.2.2.2 := ⟨by omega, by omega⟩
  have hw := hg.1
  have hn := hw.1.2.2.1
  refine v_iload_n 7 dL_acts_282 rfl rfl ?_
  refine v_bipush 15 dL_acts_283 (by decide) ?_
  refine v_ishr dL_acts_285 ?_
  refine v_sipush 1999 dL_acts_286 (by decide) ?_
  obtain ⟨k, k_lt, k_e⟩ := q_up (x := (q >>> (15 &&& 31))) (y := 1999) (n := 1999) rfl (by decide) G
  refine u_callS (val := vI) 2 [.int (q >>> (15 &&& 31)), .int 1999] (c_L_up (xl X) hfl (q >>> (15 &&& 31)) 1999) gL_acts_L_up rfl dn_L_up (by decide) (by decide) rfl dL_acts_289 (Nat.le_of_ble_eq_true rfl) rfl k_e (hI.bb hB) rfl ?_
  refine v_sipush 999 dL_acts_292 (by decide) ?_
  refine v_isub dL_acts_295 ?_
  rw [show iI (k : Int) - 999 = iI ((k : Int) - 999) by rw [show (999 : Int32) = iI 999 from rfl, iI_sub]]
  obtain ⟨x, hx, hxb⟩ : ∃ x : Int, x = (k : Int) - 999 ∧ (-999 ≤ x ∧ x ≤ 999) := ⟨_, rfl, by omega⟩
  rw [← hx]
  refine v_istore [(11, .int (iI x)), (9, .int (iI (b2i fr))), (8, .int (iI (sz (w.1.2.2.2 v)))), (7, .int (iI (v : Int))), (6, .int (iI (w.1.2.2.1 : Int))), (4, .long (mkF w.1)), (2, .long (dgW w)), (0, .ref p), (1, .int q)] dL_acts_296 (by decide) rfl ?_
  refine v_aload_n 7 dL_acts_298 rfl rfl ?_
  refine v_iload 3 dL_acts_299 rfl ?_
  refine v_iload 0 dL_acts_301 rfl ?_
  refine v_iload 1 dL_acts_303 rfl ?_
  have bv := sz_b hw.1 hv
  have key : ∀ (z : String ⊕ Int32) (k : Int) (w1 : WW) (e : Nat), e ≤ 1 → (∀ ow P, RepC G ow p w P → RT (f_X4_push p (iI (v : Int)) (iI x) (iI (b2i fr))) G ow p w P z w1 e) → WR [(exS, -1)] z (iI k) → k = (if sz (w.1.2.2.2 v) = 40 ∨ w.1.2.2.1 = 100 then -1 else (w.1.2.2.1 : Int)) → (k < 0 → w1 = w) → WG w1 → (0 ≤ k → ∃ s, w1 = wSave w s ∧ SI s ∧ SJ s ∧ s.2.2.1 = w.1.2.2.1 + 1 ∧ (s.2.2.2 w.1.2.2.1).1 2 = x) → V X RL cL_acts 12 9 167 wsL_acts B (QA X p B) G 305 [(11, .int (iI x)), (9, .int (iI (b2i fr))), (8, .int (iI (sz (w.1.2.2.2 v)))), (7, .int (iI (v : Int))), (6, .int (iI (w.1.2.2.1 : Int))), (4, .long (mkF w.1)), (2, .long (dgW w)), (0, .ref p), (1, .int q)] [.int (iI (b2i fr)), .int (iI x), .int (iI (v : Int)), .ref p] := by
    intro z k w1 e he hF hW hk hsame hg1 hnew
    obtain ⟨G1, e1, h1'⟩ := hI.rt hF
    have h1 := h1'.up (C' := C + 1) (S' := S + 6) (by omega) (by omega)
    refine u_wrap 4 [.ref p, .int (iI (v : Int)), .int (iI x), .int (iI (b2i fr))] (c_L_pushOr (xl X) hfl p (iI (v : Int)) (iI x) (iI (b2i fr))) gL_acts_L_pushOr rfl dn_L_pushOr (by decide) (by decide) rfl dL_acts_305 (Nat.le_of_ble_eq_true rfl) rfl hNX hI.obj e1 hW (h1.bb hB1) (fun n hn1 => ?_)
    have h2 := h1.mv hn1
    refine v_istore [(10, .int (iI k)), (11, .int (iI x)), (9, .int (iI (b2i fr))), (8, .int (iI (sz (w.1.2.2.2 v)))), (7, .int (iI (v : Int))), (6, .int (iI (w.1.2.2.1 : Int))), (4, .long (mkF w.1)), (2, .long (dgW w)), (0, .ref p), (1, .int q)] dL_acts_308 (by decide) rfl ?_
    have bk : -1 ≤ k ∧ k ≤ 100 := by
      rw [hk]
      split <;> omega
    have tail : V X RL cL_acts 12 9 167 wsL_acts B (QA X p B) (G1.1, n, G1.2.2) 335 [(10, .int (iI k)), (11, .int (iI x)), (9, .int (iI (b2i fr))), (8, .int (iI (sz (w.1.2.2.2 v)))), (7, .int (iI (v : Int))), (6, .int (iI (w.1.2.2.1 : Int))), (4, .long (mkF w.1)), (2, .long (dgW w)), (0, .ref p), (1, .int q)] [] := by
      refine v_iload 0 dL_acts_335 rfl ?_
      by_cases hk0 : 0 ≤ k
      · refine v_if_ge_t 352 dL_acts_337 (by decide) (i_le lz0 rfl (by omega)) ?_
        obtain ⟨s, rfl, hs, hj, hs1, hs2⟩ := hnew hk0
        have ek : k = ((w.1.2.2.1 : Nat) : Int) := by
          rw [hk]
          split
          · rename_i hh
            rw [if_pos hh] at hk
            omega
          · rfl
        rw [ek] at *
        refine v_aload_n 8 dL_acts_352 rfl rfl ?_
        refine v_iload 0 dL_acts_353 rfl ?_
        obtain ⟨G2, e2, h3⟩ := h2.rt (e := 0) (fun ow P hR => q_value (v := w.1.2.2.1) hg1.1 hR rfl (by show w.1.2.2.1 < s.2.2.1; omega) (by omega))
        obtain ⟨fs2, b2⟩ := h2.obj
        refine u_xcallV (val := vI) 4 1 [.int (iI ((w.1.2.2.1 : Nat) : Int))] (c_X4_value (xl X) hfl p (iI ((w.1.2.2.1 : Nat) : Int))) gL_acts_X4_value rfl dv_X4_value (by decide) (by decide) rfl rfl dL_acts_355 (Nat.le_of_ble_eq_true rfl) rfl b2 e2 (h3.bb hB1) rfl ?_
        refine v_iload 1 dL_acts_358 rfl ?_
        refine v_icmp_ne_f 393 dL_acts_360 (by decide) (i_eq rfl rfl hs2) ?_
        refine v_iload_n 9 dL_acts_363 rfl rfl ?_
        refine v_iconst 4 dL_acts_364 (by decide) ?_
        refine v_ishr dL_acts_365 ?_
        refine v_bipush 7 dL_acts_366 (by decide) ?_
        refine v_iand dL_acts_368 ?_
        by_cases hq : (0 : Int32) < ((q >>> (4 &&& 31)) &&& 7)
        · refine v_if_gt_t 389 dL_acts_369 (by decide) hq ?_
          refine v_iconst 1 dL_acts_389 (by decide) ?_
          refine v_goto 394 dL_acts_390 (by decide) ?_
          exact a_ret hr dL_acts_394 h3 hg1 hB1
        · refine v_if_gt_f 389 dL_acts_369 (by decide) hq ?_
          obtain ⟨u1, u2, u3⟩ := un_save hg hs hj
          have u4 := hg1.1.2.2.1
          refine v_aload_n 8 dL_acts_372 rfl rfl ?_
          obtain ⟨G3, e3, h4⟩ := h3.rt (e := 0) (fun ow P hR => q_undo hg1.1 hR u3)
          obtain ⟨fs3, b3⟩ := h3.obj
          refine u_xcallV (val := vI) 4 0 [] (c_X4_undo (xl X) hfl p) gL_acts_X4_undo rfl dv_X4_undo (by decide) (by decide) rfl rfl dL_acts_373 (Nat.le_of_ble_eq_true rfl) rfl b3 e3 (h4.bb hB1) rfl ?_
          refine v_if_lt_f 393 dL_acts_376 (by decide) (i_nlt rfl lz0 (by omega)) ?_
          refine v_aload_n 8 dL_acts_379 rfl rfl ?_
          obtain ⟨G4, e4, h5⟩ := h4.rt (e := 0) (fun ow P hR => l_mark u2.1 hR)
          refine u_xcallS (val := vL) 1 [.ref p] (c_L_mark (xl X) hfl p) gL_acts_L_mark rfl dn_L_mark (by decide) (by decide) rfl dL_acts_380 (Nat.le_of_ble_eq_true rfl) rfl e4 (h5.bb hB1) rfl ?_
          rw [u1]
          refine v_lload 6 dL_acts_383 rfl ?_
          refine v_lcmp dL_acts_385 ?_
          rw [lcmp_self]
          refine v_if_ne_f 393 dL_acts_386 (by decide) rfl ?_
          refine v_iconst 1 dL_acts_389 (by decide) ?_
          refine v_goto 394 dL_acts_390 (by decide) ?_
          exact a_ret hr dL_acts_394 h5 u2 hB1
      · refine v_if_ge_f 352 dL_acts_337 (by decide) (i_nle lz0 rfl (by omega)) ?_
        have e9 := hsame (by omega)
        subst e9
        refine v_aload_n 8 dL_acts_340 rfl rfl ?_
        obtain ⟨G2, e2, h3⟩ := h2.rt (e := 0) (fun ow P hR => q_dig hg1.1 hR)
        obtain ⟨fs2, b2⟩ := h2.obj
        refine u_callV (val := vL) 4 0 [] (c_X4_digest (xl X) hfl p) gL_acts_X4_digest rfl dv_X4_digest (by decide) (by decide) rfl rfl dL_acts_341 (Nat.le_of_ble_eq_true rfl) rfl b2 e2 (h3.bb hB1) rfl ?_
        refine v_lload_n 7 dL_acts_344 rfl rfl ?_
        refine v_lcmp dL_acts_345 ?_
        rw [lcmp_self]
        refine v_if_ne_f 393 dL_acts_346 (by decide) rfl ?_
        refine v_goto 389 dL_acts_349 (by decide) ?_
        refine v_iconst 1 dL_acts_389 (by decide) ?_
        refine v_goto 394 dL_acts_390 (by decide) ?_
        exact a_ret hr dL_acts_394 h3 hg1 hB1
    refine v_iload 0 dL_acts_310 rfl ?_
    refine v_iload 3 dL_acts_312 rfl ?_
    refine v_bipush 40 dL_acts_314 (by decide) ?_
    by_cases hs : sz (w.1.2.2.2 v) = 40
    · refine v_icmp_eq_t 326 dL_acts_316 (by decide) (i_eq rfl lz40 hs) ?_
      rw [if_pos (Or.inl hs)] at hk
      refine v_iconst (-1) dL_acts_326 (by decide) ?_
      refine v_goto 332 dL_acts_327 (by decide) ?_
      refine v_icmp_ne_f 393 dL_acts_332 (by decide) (i_eq rfl lzm1 hk) ?_
      exact tail
    · refine v_icmp_eq_f 326 dL_acts_316 (by decide) (i_ne rfl lz40 (by omega)) ?_
      refine v_iload 5 dL_acts_319 rfl ?_
      refine v_bipush 100 dL_acts_321 (by decide) ?_
      by_cases hc : w.1.2.2.1 = 100
      · refine v_icmp_ne_f 330 dL_acts_323 (by decide) (i_eq rfl lz100 (by omega)) ?_
        rw [if_pos (Or.inr hc)] at hk
        refine v_iconst (-1) dL_acts_326 (by decide) ?_
        refine v_goto 332 dL_acts_327 (by decide) ?_
        refine v_icmp_ne_f 393 dL_acts_332 (by decide) (i_eq rfl lzm1 hk) ?_
        exact tail
      · refine v_icmp_ne_t 330 dL_acts_323 (by decide) (i_ne rfl lz100 (by omega)) ?_
        rw [if_neg (by omega)] at hk
        refine v_iload 5 dL_acts_330 rfl ?_
        refine v_icmp_ne_f 393 dL_acts_332 (by decide) (i_eq rfl rfl hk) ?_
        exact tail
  have hin := inV_t hv
  have kb := kpush_b fr
  by_cases hc : sz (w.1.2.2.2 v) < 40 ∧ w.1.2.2.1 < 100
  · have ht : tPush w.1 (v : Int) x = 0 := by
      unfold tPush
      rw [if_pos hin, Int.toNat_natCast, if_pos hxb, if_pos hc]
    have hp : pmt (w.1.2.2.2 v).1 (kPush fr) = true := by
      unfold pmt
      rw [if_pos (by omega)]
      exact decide_eq_true hc.1
    have hgr := wg_grow hg hc.2 hv (kind := kPush fr) (x := x) (by omega) hxb hp
    exact key (.inr (iI (w.1.2.2.1 : Int))) _ (wSave w (sGrow w.1 v (kPush fr) x)) 0 (by omega) (fun ow P hR => q_push hw hR fr rfl rfl rfl hv hxb 0 ht) rfl (by rw [if_neg (by omega)]) (fun hh => absurd hh (by omega)) (wg_save hg hgr.1 hgr.2) (fun _ => ⟨_, rfl, hgr.1, hgr.2, rfl, by
      unfold sGrow
      dsimp only
      rw [up_self]
      exact act_val _ _ (by omega)⟩)
  · have ht : tPush w.1 (v : Int) x = 3 := by
      unfold tPush
      rw [if_pos hin, Int.toNat_natCast, if_pos hxb, if_neg hc]
    exact key (.inl exS) (-1) w 1 (by omega) (fun ow P hR => q_push hw hR fr rfl rfl rfl hv hxb 3 ht) (List.mem_of_getElem? (i := 0) rfl) (by rw [if_pos (by omega)]) (fun _ => rfl) hg (fun hh => absurd hh (by omega))
theorem a65 (hfl : (xl X).stackTraces = false) (hNX : NX (xs X)) (hr : (xme X).sig.returnType = some .boolean) (hB1 : C + 1 ≤ B.2.2.1 ∧ S + 6 ≤ B.2.2.2) (hI : HI p C S G w) (hg : WG w) {v : Nat} {fr : Bool} (hv : v < w.1.2.2.1) : V X RL cL_acts 12 9 167 wsL_acts B (QA X p B) G 65 [(8, .int (iI (sz (w.1.2.2.2 v)))), (7, .int (iI (v : Int))), (6, .int (iI (w.1.2.2.1 : Int))), (4, .long (mkF w.1)), (2, .long (dgW w)), (0, .ref p), (1, .int q)] [.int (iI (b2i fr))] := by
  have hB : C ≤ B.2.2.1 ∧ S ≤ B.2.2.2 := ⟨by omega, by omega⟩
  have hw := hg.1
  have hn := hw.1.2.2.1
  refine v_istore [(9, .int (iI (b2i fr))), (8, .int (iI (sz (w.1.2.2.2 v)))), (7, .int (iI (v : Int))), (6, .int (iI (w.1.2.2.1 : Int))), (4, .long (mkF w.1)), (2, .long (dgW w)), (0, .ref p), (1, .int q)] dL_acts_65 (by decide) rfl ?_
  refine v_iload_n 7 dL_acts_67 rfl rfl ?_
  refine v_bipush 11 dL_acts_68 (by decide) ?_
  refine v_ishr dL_acts_70 ?_
  refine v_bipush 16 dL_acts_71 (by decide) ?_
  obtain ⟨k, k_lt, k_e⟩ := q_up (x := (q >>> (11 &&& 31))) (y := 16) (n := 16) rfl (by decide) G
  refine u_callS (val := vI) 2 [.int (q >>> (11 &&& 31)), .int 16] (c_L_up (xl X) hfl (q >>> (11 &&& 31)) 16) gL_acts_L_up rfl dn_L_up (by decide) (by decide) rfl dL_acts_73 (Nat.le_of_ble_eq_true rfl) rfl k_e (hI.bb hB) rfl ?_
  have h0 := @a120 X B p C S G w q hfl hNX hr hB1 hI hg v fr hv
  have h1 := @a171 X B p C S G w q hfl hNX hr hB1 hI hg v fr hv
  have h2 := @a224 X B p C S G w q hfl hNX hr hB1 hI hg v fr hv
  have h3 := @a282 X B p C S G w q hfl hNX hr hB1 hI hg v fr hv
  by_cases c0 : k = 0
  · exact v_tblIn 0 120 (i_eq (b := 0) rfl rfl (by omega)) dL_acts_76 (by decide) (by decide) rfl (by decide) h0
  by_cases c1 : k = 1
  · exact v_tblIn 1 171 (i_eq (b := 1) rfl rfl (by omega)) dL_acts_76 (by decide) (by decide) rfl (by decide) h1
  by_cases c2 : k = 2
  · exact v_tblIn 2 224 (i_eq (b := 2) rfl rfl (by omega)) dL_acts_76 (by decide) (by decide) rfl (by decide) h2
  by_cases c3 : k = 3
  · exact v_tblIn 3 224 (i_eq (b := 3) rfl rfl (by omega)) dL_acts_76 (by decide) (by decide) rfl (by decide) h2
  by_cases c4 : k = 4
  · exact v_tblIn 4 224 (i_eq (b := 4) rfl rfl (by omega)) dL_acts_76 (by decide) (by decide) rfl (by decide) h2
  by_cases c5 : k = 5
  · exact v_tblIn 5 224 (i_eq (b := 5) rfl rfl (by omega)) dL_acts_76 (by decide) (by decide) rfl (by decide) h2
  by_cases c6 : k = 6
  · exact v_tblIn 6 224 (i_eq (b := 6) rfl rfl (by omega)) dL_acts_76 (by decide) (by decide) rfl (by decide) h2
  refine v_tblOut 6 282 dL_acts_76 (by decide) rfl (fun a ha => ?_) (by decide) h3
  rw [iI_ofNat]
  exact i_ne rfl rfl (by omega)
theorem a39 (hfl : (xl X).stackTraces = false) (hNX : NX (xs X)) (hr : (xme X).sig.returnType = some .boolean) (hB1 : C + 1 ≤ B.2.2.1 ∧ S + 6 ≤ B.2.2.2) (hI : HI p C S G w) (hg : WG w) {v : Nat} (hv : v < w.1.2.2.1) : V X RL cL_acts 12 9 167 wsL_acts B (QA X p B) G 39 [(6, .int (iI (w.1.2.2.1 : Int))), (4, .long (mkF w.1)), (2, .long (dgW w)), (0, .ref p), (1, .int q)] [.int (iI (v : Int))] := by
  have hB : C ≤ B.2.2.1 ∧ S ≤ B.2.2.2 := ⟨by omega, by omega⟩
  have hw := hg.1
  have hn := hw.1.2.2.1
  refine v_istore [(7, .int (iI (v : Int))), (6, .int (iI (w.1.2.2.1 : Int))), (4, .long (mkF w.1)), (2, .long (dgW w)), (0, .ref p), (1, .int q)] dL_acts_39 (by decide) rfl ?_
  refine v_aload_n 4 dL_acts_41 rfl rfl ?_
  refine v_iload 0 dL_acts_42 rfl ?_
  refine v_iconst 1 dL_acts_44 (by decide) ?_
  obtain ⟨G1, e1, h1⟩ := hI.rt (F := f_X4_version p (iI (v : Int)) 1) (e := 0) (fun ow P hR => q_v1 hw hR rfl hv)
  obtain ⟨fs1, b1⟩ := hI.obj
  refine u_xcallV (val := vI) 4 2 [.int (iI (v : Int)), .int 1] (c_X4_version (xl X) hfl p (iI (v : Int)) 1) gL_acts_X4_version rfl dv_X4_version (by decide) (by decide) rfl rfl dL_acts_45 (Nat.le_of_ble_eq_true rfl) rfl b1 e1 (h1.bb hB) rfl ?_
  refine v_istore [(8, .int (iI (sz (w.1.2.2.2 v)))), (7, .int (iI (v : Int))), (6, .int (iI (w.1.2.2.1 : Int))), (4, .long (mkF w.1)), (2, .long (dgW w)), (0, .ref p), (1, .int q)] dL_acts_48 (by decide) rfl ?_
  refine v_iload_n 6 dL_acts_50 rfl rfl ?_
  refine v_bipush 10 dL_acts_51 (by decide) ?_
  refine v_ishr dL_acts_53 ?_
  refine v_iconst 1 dL_acts_54 (by decide) ?_
  refine v_iand dL_acts_55 ?_
  refine v_iconst 1 dL_acts_56 (by decide) ?_
  by_cases hq : ((q >>> (10 &&& 31)) &&& 1) = (1 : Int32)
  · refine v_icmp_ne_f 64 dL_acts_57 (by decide) hq ?_
    refine v_iconst 1 dL_acts_60 (by decide) ?_
    refine v_goto 65 dL_acts_61 (by decide) ?_
    exact a65 (fr := true) hfl hNX hr hB1 h1 hg hv
  · refine v_icmp_ne_t 64 dL_acts_57 (by decide) hq ?_
    refine v_iconst 0 dL_acts_64 (by decide) ?_
    exact a65 (fr := false) hfl hNX hr hB1 h1 hg hv
theorem a0 (hfl : (xl X).stackTraces = false) (hNX : NX (xs X)) (hr : (xme X).sig.returnType = some .boolean) (hB1 : C + 1 ≤ B.2.2.1 ∧ S + 6 ≤ B.2.2.2) (hI : HI p C S G w) (hg : WG w) : V X RL cL_acts 12 9 167 wsL_acts B (QA X p B) G 0 [(0, .ref p), (1, .int q)] [] := by
  have hB : C ≤ B.2.2.1 ∧ S ≤ B.2.2.2 := ⟨by omega, by omega⟩
  have hw := hg.1
  have hn := hw.1.2.2.1
  refine v_aload_n 0 dL_acts_0 rfl rfl ?_
  obtain ⟨G1, e1, h1⟩ := hI.rt (F := f_X4_digest p) (e := 0) (fun ow P hR => q_dig hw hR)
  obtain ⟨fs1, b1⟩ := hI.obj
  refine u_callV (val := vL) 4 0 [] (c_X4_digest (xl X) hfl p) gL_acts_X4_digest rfl dv_X4_digest (by decide) (by decide) rfl rfl dL_acts_1 (Nat.le_of_ble_eq_true rfl) rfl b1 e1 (h1.bb hB) rfl ?_
  refine v_lstore_n [(2, .long (dgW w)), (0, .ref p), (1, .int q)] dL_acts_4 rfl (by decide) rfl ?_
  refine v_aload_n 1 dL_acts_5 rfl rfl ?_
  obtain ⟨G2, e2, h2⟩ := h1.rt (F := f_L_mark p) (e := 0) (fun ow P hR => l_mark hw hR)
  refine u_xcallS (val := vL) 1 [.ref p] (c_L_mark (xl X) hfl p) gL_acts_L_mark rfl dn_L_mark (by decide) (by decide) rfl dL_acts_6 (Nat.le_of_ble_eq_true rfl) rfl e2 (h2.bb hB) rfl ?_
  refine v_lstore [(4, .long (mkF w.1)), (2, .long (dgW w)), (0, .ref p), (1, .int q)] dL_acts_9 (by decide) rfl ?_
  refine v_aload_n 2 dL_acts_11 rfl rfl ?_
  refine v_iconst 0 dL_acts_12 (by decide) ?_
  obtain ⟨G3, e3, h3⟩ := h2.rt (F := f_X4_count p 0) (e := 0) (fun ow P hR => q_c0 hw hR)
  obtain ⟨fs3, b3⟩ := h2.obj
  refine u_xcallV (val := vI) 4 1 [.int 0] (c_X4_count (xl X) hfl p 0) gL_acts_X4_count rfl dv_X4_count (by decide) (by decide) rfl rfl dL_acts_13 (Nat.le_of_ble_eq_true rfl) rfl b3 e3 (h3.bb hB) rfl ?_
  refine v_istore [(6, .int (iI (w.1.2.2.1 : Int))), (4, .long (mkF w.1)), (2, .long (dgW w)), (0, .ref p), (1, .int q)] dL_acts_16 (by decide) rfl ?_
  refine v_iload_n 4 dL_acts_18 rfl rfl ?_
  refine v_iconst 3 dL_acts_19 (by decide) ?_
  refine v_iand dL_acts_20 ?_
  by_cases hq : (q &&& 3) ≤ (0 : Int32)
  · refine v_if_le_t 31 dL_acts_21 (by decide) hq ?_
    refine v_iload_n 4 dL_acts_31 rfl rfl ?_
    refine v_iconst 2 dL_acts_32 (by decide) ?_
    refine v_ishr dL_acts_33 ?_
    refine v_iload 0 dL_acts_34 rfl ?_
    obtain ⟨v, v_lt, v_e⟩ := q_up (x := (q >>> (2 &&& 31))) (y := (iI (w.1.2.2.1 : Int))) (n := (w.1.2.2.1 : Int)) rfl (by omega) G3
    refine u_callS (val := vI) 2 [.int (q >>> (2 &&& 31)), .int (iI (w.1.2.2.1 : Int))] (c_L_up (xl X) hfl (q >>> (2 &&& 31)) (iI (w.1.2.2.1 : Int))) gL_acts_L_up rfl dn_L_up (by decide) (by decide) rfl dL_acts_36 (Nat.le_of_ble_eq_true rfl) rfl v_e (h3.bb hB) rfl ?_
    exact a39 hfl hNX hr hB1 h3 hg (by omega)
  · refine v_if_le_f 31 dL_acts_21 (by decide) hq ?_
    refine v_iload 0 dL_acts_24 rfl ?_
    refine v_iconst 1 dL_acts_26 (by decide) ?_
    refine v_isub dL_acts_27 ?_
    rw [iI_p (j := w.1.2.2.1 - 1) (by omega)]
    refine v_goto 39 dL_acts_28 (by decide) ?_
    exact a39 hfl hNX hr hB1 h3 hg (by omega)
end Acts
def CA (l : Launch) (y : MethodName) (ws : List Cond) (fr lo : Nat) (p : Nat) (q : Int32) : Prop := ∀ (D : va_G) (dA : Nat → ClassId) (G : GH) (ow : Nat → Nat) (P : Nat) (w : WW), RepC G ow p w P → WG w → Met l y ws { frames := fr, cells := 1045, slots := 26600, locals := lo } (cPw D dA [.ref p, .int q] G) (cQa D dA (gA G) p) 1045 26600 (gA G)
theorem c_L_acts (l : Launch) (hfl : l.stackTraces = false) (p : Nat) (q : Int32) : CA l yL_acts wsL_acts 9 167 p q := by
  intro D dA G ow P w hR hg
  refine Met.ofW (cc := cL_acts) (maxL := 12) (ret := some .boolean) (by decide +kernel) rfl ?_
  intro p' e s m args below meth c s₁ Bd hml hP
  obtain ⟨⟨rfl, hgp, hk, hex, hz⟩, hnx⟩ := hP
  have hts := atoms_spec (ws := wsL_acts) Bd.pre
  have ho : s.vm.findClass RL = some m.cls := findClass_of_methodNamed Bd.named
  rw [lg_entry_eq]
  obtain ⟨X, hX⟩ : ∃ X : VX, X = (p', l, e, (headSpec wsL_acts { frames := 9, cells := 1045, slots := 26600, locals := 167 }).room, s, m, ([.ref p, .int q] : List Value).toArray, below, meth, c, D, dA, gA G) := ⟨_, rfl⟩
  have hpb := hR.pb
  have k := a0 (X := X) (B := (G.2.2.1, G.2.2.2, G.2.2.1 + 1045, G.2.2.2 + 26600)) (p := p) (C := G.2.2.1 + 1040) (S := G.2.2.2 + 26520) (G := G) (w := w) (q := q) (by rw [hX]; exact hfl) (by rw [hX]; exact hnx) (by rw [hX]; exact Bd.returns) ⟨by show G.2.2.1 + 1040 + 1 ≤ G.2.2.1 + 1045; omega, by show G.2.2.2 + 26520 + 6 ≤ G.2.2.2 + 26600; omega⟩ ⟨ow, P, hR, by omega, by omega⟩ hg
  have k2 := k (by rw [hX]; exact ⟨Bd.exec, Bd.bytes, hml, ho, hts, Bd.notSynchronized, rfl, rfl, hk, fun a ha => Or.inr (by rw [hgp.1]; exact ha), hfl, hex, hz⟩) (by rw [hX]; exact ⟨(Nat.add_sub_cancel_left G.2.2.1 1045).symm, (Nat.add_sub_cancel_left G.2.2.2 26600).symm, Nat.le_refl _, Nat.le_refl _⟩) s.heap _ [] (by rw [hX]; exact ⟨hgp, fun a ha => Or.inl ha, va_S.rf⟩) (lv_entry [.ref p, .int q] (Nat.le_of_ble_eq_true rfl))
  rw [hX] at k2
  unfold QA at k2
  dsimp only at k2
  rw [Nat.sub_self, Nat.sub_self, Nat.add_sub_cancel_left, Nat.add_sub_cancel_left] at k2
  exact k2
