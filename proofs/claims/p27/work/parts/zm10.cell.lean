/-! LAW: a cell of the script, and one act, as the law calls them. -/
def cv (ys : Nat → Int32) (L j : Nat) : Int32 := if j < L then ys j else 763049417 * (iI (j : Int) + 3)
def cPs (D : va_G) (dA : Nat → ClassId) (av : List Value) (G : GH) (b L : Nat) (ys : Nat → Int32) : Array Value → State → Prop := fun a U => cPc D dA av G a U ∧ va_X b L ys U U.heap ∧ b < U.heap.size ∧ ¬ gA G b
theorem cPs_blind (D : va_G) (dA : Nat → ClassId) (av : List Value) (G : GH) (b L : Nat) (ys : Nat → Int32) : FrameBlind (cPs D dA av G b L ys) := fun a U g mk h => ⟨cPc_blind D dA av G a U g mk h.1, va_X.moved (u := U) (U := U.calling g mk a) (Vm.Alike.refl U.vm) h.2.1, h.2.2⟩
section Vcell
variable {X : VX} {own : String} {cc : ByteArray} {nL fr lo : Nat} {Ts : List Cond} {B : VB} {Q : State → Prop} {G : GH} {pc : Nat} {lv : List (Nat × Value)} {st : List Value}
theorem u_sld {b L : Nat} {ys : Nat → Int32} {i : Int32} (hX : va_X b L ys (xs X) (xs X).heap) (hbl : b < (xs X).heap.size) (hbA : ¬ (xA X) b) (hin : vp_in i L) (hd : decode cc pc = .ok (.iaload, 1)) (kk : V X own cc nL fr lo Ts B Q G (pc + 1) lv (.int (ys i.toNatClampNeg) :: st)) : V X own cc nL fr lo Ts B Q G pc lv (.int i :: .ref b :: st) := fun D Kb H ls locs hI hl => va_sld D.x D.b hX hbl hbA hI.2.2 hin hd (kk D Kb H ls locs hI hl)
theorem u_slen {b L : Nat} {ys : Nat → Int32} (hX : va_X b L ys (xs X) (xs X).heap) (hbl : b < (xs X).heap.size) (hbA : ¬ (xA X) b) (hd : decode cc pc = .ok (.arraylength, 1)) (kk : V X own cc nL fr lo Ts B Q G (pc + 1) lv (.int (Int32.ofNat L) :: st)) : V X own cc nL fr lo Ts B Q G pc lv (.ref b :: st) := fun D Kb H ls locs hI hl => va_slen D.x D.b hX hbl hbA hI.2.2 hd (kk D Kb H ls locs hI hl)
end Vcell
theorem cell_in {L x : Nat} (h : x < L) (hL : L ≤ 260) : vp_in (iI (x : Int)) L := by
  intro h2
  rcases h2 with h2 | h2
  · rw [lz0, iI_lt (by omega) (by omega) (by omega) (by omega)] at h2
    omega
  · rw [iI_cl (by omega) (by omega)] at h2
    omega
theorem c_L_cell (l : Launch) (hfl : l.stackTraces = false) {b L : Nat} {ys : Nat → Int32} (hL : L ≤ 260) {j : Nat} (hj : j ≤ 260) (D : va_G) (dA : Nat → ClassId) (G : GH) : Met l yL_cell wsL_cell { frames := 0, cells := 0, slots := 0, locals := 0 } (cPs D dA [.ref b, .int (iI (j : Int))] G b L ys) (cQc D dA (vI (cv ys L j)) (gA G) G) 0 0 (gA G) := by
  refine Met.ofW (cc := cL_cell) (maxL := 2) (ret := some .int) (by decide +kernel) rfl ?_
  intro p' e s m args below meth c s₁ Bd hml hP
  obtain ⟨⟨rfl, hgp, hk, hex, hz⟩, hX, hbl, hbA⟩ := hP
  have hts := atoms_spec (ws := wsL_cell) Bd.pre
  have ho : s.vm.findClass RL = some m.cls := findClass_of_methodNamed Bd.named
  rw [lg_entry_eq]
  obtain ⟨X, hXX⟩ : ∃ X : VX, X = (p', l, e, (headSpec wsL_cell { frames := 0, cells := 0, slots := 0, locals := 0 }).room, s, m, ([.ref b, .int (iI (j : Int))] : List Value).toArray, below, meth, c, D, dA, gA G) := ⟨_, rfl⟩
  have hX' : va_X b L ys (xs X) (xs X).heap := by rw [hXX]; exact hX
  have hbl' : b < (xs X).heap.size := by rw [hXX]; exact hbl
  have hbA' : ¬ (xA X) b := by rw [hXX]; exact hbA
  have hr : (xme X).sig.returnType = some .int := by rw [hXX]; exact Bd.returns
  have k : V X RL cL_cell 2 0 0 wsL_cell (G.2.2.1, G.2.2.2, G.2.2.1, G.2.2.2) (QE X (vI (cv ys L j)) G (G.2.2.1, G.2.2.2, G.2.2.1, G.2.2.2)) G 0 [(0, .ref b), (1, .int (iI (j : Int)))] [] := by
    refine v_iload_n 1 dL_cell_0 rfl rfl ?_
    refine v_aload_n 0 dL_cell_1 rfl rfl ?_
    refine u_slen hX' hbl' hbA' dL_cell_2 ?_
    rw [iI_ofNat]
    by_cases hjL : j < L
    · refine v_icmp_ge_f 12 dL_cell_3 (by decide) (i_nle rfl rfl (by omega)) ?_
      refine v_aload_n 0 dL_cell_6 rfl rfl ?_
      refine v_iload_n 1 dL_cell_7 rfl rfl ?_
      refine u_sld hX' hbl' hbA' (cell_in hjL hL) dL_cell_8 ?_
      rw [iI_cl (by omega) (by omega), Int.toNat_natCast]
      refine v_goto 18 dL_cell_9 (by decide) ?_
      have e : cv ys L j = ys j := if_pos hjL
      rw [e]
      exact v_iret hr dL_cell_18 ⟨rfl, rfl⟩ rfl
    · refine v_icmp_ge_t 12 dL_cell_3 (by decide) (i_le rfl rfl (by omega)) ?_
      refine v_ldci (v := 763049417) (by decide +kernel) dL_cell_12 ?_
      refine v_iload_n 1 dL_cell_14 rfl rfl ?_
      refine v_iconst 3 dL_cell_15 (by decide) ?_
      refine v_iadd dL_cell_16 ?_
      refine v_imul dL_cell_17 ?_
      have e : cv ys L j = 763049417 * (iI (j : Int) + 3) := if_neg hjL
      rw [e]
      exact v_iret hr dL_cell_18 ⟨rfl, rfl⟩ rfl
  have k2 := k (by rw [hXX]; exact ⟨Bd.exec, Bd.bytes, hml, ho, hts, Bd.notSynchronized, rfl, rfl, hk, fun a ha => Or.inr (by rw [hgp.1]; exact ha), hfl, hex, hz⟩) (by rw [hXX]; exact ⟨(Nat.sub_self _).symm, (Nat.sub_self _).symm, Nat.le_refl _, Nat.le_refl _⟩) s.heap _ [] (by rw [hXX]; exact ⟨hgp, fun a ha => Or.inl ha, va_S.rf⟩) (lv_entry [.ref b, .int (iI (j : Int))] (Nat.le_of_ble_eq_true rfl))
  rw [hXX] at k2
  unfold QE at k2
  dsimp only at k2
  rw [Nat.sub_self, Nat.sub_self] at k2
  exact k2
theorem dn_L_cell : yL_cell.cls ≠ "java/lang/invoke/MethodHandle" ∧ yL_cell.cls ≠ "java/lang/invoke/VarHandle" ∧ (parseMethodDescriptor yL_cell.desc).map (fun d => d.parameters.length) = some 2 := by decide +kernel
theorem dn_L_acts : yL_acts.cls ≠ "java/lang/invoke/MethodHandle" ∧ yL_acts.cls ≠ "java/lang/invoke/VarHandle" ∧ (parseMethodDescriptor yL_acts.desc).map (fun d => d.parameters.length) = some 2 := by decide +kernel
section Vlaw2
variable {X : VX} {own : String} {cc : ByteArray} {nL fr lo : Nat} {Ts : List Cond} {B : VB} {Q : State → Prop} {G : GH} {pc : Nat} {lv : List (Nat × Value)} {st : List Value}
theorem u_cell {b L j index : Nat} {ys : Nat → Int32} {st0 : List Value} (hfl : (xl X).stackTraces = false) (hX : va_X b L ys (xs X) (xs X).heap) (hbl : b < (xs X).heap.size) (hbA : ¬ (xA X) b) (hL : L ≤ 260) (hj : j ≤ 260) (hB : G.2.2.1 ≤ B.2.2.1 ∧ G.2.2.2 ≤ B.2.2.2) (hG : GoodIn Ts (va_wsS own index yL_cell wsL_cell)) (hdd : yL_cell.cls ≠ "java/lang/invoke/MethodHandle" ∧ yL_cell.cls ≠ "java/lang/invoke/VarHandle" ∧ (parseMethodDescriptor yL_cell.desc).map (fun d => d.parameters.length) = some 2) (hfr : 1 ≤ fr) (hlo : 21 ≤ lo) (hd : decode cc pc = .ok (.invokestatic index, 3)) (hst : (st.map fun v => v.category).sum ≤ 8) (hst0 : st0 = .int (iI (j : Int)) :: .ref b :: st)
    (kk : V X own cc nL fr lo Ts B Q G (pc + 3) lv (.int (cv ys L j) :: st)) : V X own cc nL fr lo Ts B Q G pc lv st0 := by
  intro D Kb H ls locs hI hl
  have Kb' := Kb
  obtain ⟨k1, k2, k3, k4⟩ := Kb
  have r1 : (G.2.2.1 - B.1) + 0 ≤ (xR X).cells := by rw [k1]; omega
  have r2 : (G.2.2.2 - B.2.1) + 0 ≤ (xR X).slots := by rw [k2]; omega
  have hrun : va_Run (xp X) (xl X) (xe X) (xR X) (xs X) (xm X) (xa X) (xb X) (xme X) (xc X) H locs (G.2.2.1 - B.1) (G.2.2.2 - B.2.1) 0 0 (F0 (xm X) pc ls st0) st (cQc (xDD X) (xdA X) (vI (cv ys L j)) (gA G) G ([.ref b, .int (iI (j : Int))] : List Value).toArray) (gA G) := va_runS (As := [.ref b, .int (iI (j : Int))]) (rest := st) (ws := wsL_cell) ⟨D.x, D.b, D.ml, D.ow, D.ts⟩ (c_L_cell (xl X) hfl (b := b) (ys := ys) hL hj (xDD X) (xdA X) G) (va_cwS 2 D.ts hG rfl rfl rfl hdd ⟨by rw [D.rf]; exact hfr, by rw [D.rl]; exact hlo⟩) ⟨cPs_blind _ _ _ _ _ _ _, fun U hU hW => ⟨hI.pre D hU hW, va_X.moved hW.alike (by rw [hU]; exact hX.kept (hI.2.2.2.1 b hbl hbA)), by rw [hU]; exact Nat.lt_of_lt_of_le hbl hI.2.2.1, fun hh => hbA (hI.sub D b hh)⟩⟩ rfl rfl hl.1 hst0 (lv_room hst) hd ⟨r1, r2⟩
  have e1 : G.2.2.1 - G.2.2.1 = 0 := Nat.sub_self _
  have e2 : G.2.2.2 - G.2.2.2 = 0 := Nat.sub_self _
  exact v_after (res := vI (cv ys L j)) (G1 := G) D Kb' hI hl (gle.rf G) (by rw [e1, e2]; exact hrun) kk
theorem u_acts {p C S index : Nat} {w : WW} {q : Int32} {st0 : List Value} (hfl : (xl X).stackTraces = false) (hNX : NX (xs X)) (hHI : HI p C S G w) (hg : WG w) (hB : C + 1045 ≤ B.2.2.1 ∧ S + 26600 ≤ B.2.2.2) (hG : GoodIn Ts (va_wsS own index yL_acts wsL_acts)) (hdd : yL_acts.cls ≠ "java/lang/invoke/MethodHandle" ∧ yL_acts.cls ≠ "java/lang/invoke/VarHandle" ∧ (parseMethodDescriptor yL_acts.desc).map (fun d => d.parameters.length) = some 2) (hfr : 10 ≤ fr) (hlo : 8 + (12 + 11) + 167 ≤ lo) (hd : decode cc pc = .ok (.invokestatic index, 3)) (hst : (st.map fun v => v.category).sum ≤ 8) (hst0 : st0 = .int q :: .ref p :: st)
    (kk : ∀ G2 w2, HI p (C + 2085) (S + 53120) G2 w2 → WG w2 → V X own cc nL fr lo Ts B Q G2 (pc + 3) lv (.int 1 :: st)) : V X own cc nL fr lo Ts B Q G pc lv st0 := by
  have hbd := hHI.bd
  obtain ⟨ow, P, hR, hc1, hc2⟩ := hHI
  intro D Kb H ls locs hI hl
  obtain ⟨k1, k2, k3, k4⟩ := Kb
  have r1 : (G.2.2.1 - B.1) + 1045 ≤ (xR X).cells := by rw [k1]; omega
  have r2 : (G.2.2.2 - B.2.1) + 26600 ≤ (xR X).slots := by rw [k2]; omega
  have hrun : va_Run (xp X) (xl X) (xe X) (xR X) (xs X) (xm X) (xa X) (xb X) (xme X) (xc X) H locs (G.2.2.1 - B.1) (G.2.2.2 - B.2.1) 1045 26600 (F0 (xm X) pc ls st0) st (cQa (xDD X) (xdA X) (gA G) p ([.ref p, .int q] : List Value).toArray) (gA G) := va_runS (As := [.ref p, .int q]) (rest := st) (ws := wsL_acts) ⟨D.x, D.b, D.ml, D.ow, D.ts⟩ (c_L_acts (xl X) hfl p q (xDD X) (xdA X) G ow P w hR hg) (va_cwS 2 D.ts hG rfl rfl rfl hdd ⟨by rw [D.rf]; exact hfr, by rw [D.rl]; exact hlo⟩) ⟨cPw_blind _ _ _ _, fun U hU hWW => ⟨hI.pre D hU hWW, NX.moved hWW.alike hNX⟩⟩ rfl rfl hl.1 hst0 (lv_room hst) hd ⟨r1, r2⟩
  intro T hT XS
  obtain ⟨v, st₀, t, T', L, h0, X', hL, e1, e2, ⟨hv, ⟨Gf, w2, ow2, P2, hp, hR2, hg2, hdom⟩, hz, hk⟩, stp⟩ := hrun T hT XS
  cases hv
  rw [h0] at hz hk
  have hsub := hI.sub D
  have hI1 : gI X (Gf.1, Gf.2.1, G.2.2.1 + 1045, G.2.2.2 + 26600) T'.heap (locs ++ L) := ⟨by rw [e1]; exact hp, fun a ha => hsub a (hdom a ha), Nat.le_trans hI.2.2.1 (by rw [e1]; exact hz), fun q h1 h2 => by rw [e1, hk q (Nat.lt_of_lt_of_le h1 hI.2.2.1) (fun z => h2 (hsub q z))]; exact hI.2.2.2.1 q h1 h2, fun q hq => by
    rcases List.mem_append.mp hq with h | h
    · exact hI.2.2.2.2 q h
    · exact hsub _ (hL q h)⟩
  have hpb := hR2.pb
  have hH2 : HI p (C + 2085) (S + 53120) (Gf.1, Gf.2.1, G.2.2.1 + 1045, G.2.2.2 + 26600) w2 := ⟨ow2, P2, hR2.grown _ _ _ (Nat.le_refl _), by show G.2.2.1 + 1045 + 2 * P2 ≤ C + 2085; omega, by show G.2.2.2 + 26600 + 51 * P2 ≤ S + 53120; omega⟩
  have c1 : G.2.2.1 - B.1 + 1045 = G.2.2.1 + 1045 - B.1 := by omega
  have c2 : G.2.2.2 - B.2.1 + 26600 = G.2.2.2 + 26600 - B.2.1 := by omega
  rw [c1, c2] at X'
  obtain ⟨t2, a1, b1⟩ := kk _ w2 hH2 hg2 D ⟨k1, k2, by show B.1 ≤ G.2.2.1 + 1045; omega, by show B.2.1 ≤ G.2.2.2 + 26600; omega⟩ T'.heap ls (locs ++ L) hI1 hl T' rfl X'
  exact ⟨t2, stp t2 a1, b1⟩
end Vlaw2
