/-! LAW: rows for the walks of acts and of the law itself: calls by their answers; what the heap holds of the object between calls. -/
section Vl2
variable {X : VX} {own : String} {cc : ByteArray} {nL fr lo : Nat} {Ts : List Cond} {B : VB} {Q : State → Prop} {G : GH} {pc : Nat} {lv : List (Nat × Value)} {st : List Value}
theorem u_xafter {lv : List (Nat × Value)} {st0 : List Value} {res : Option Value} {G1 : GH} {a : Array Value} {H : Heap} {ls : Array Slot} {locs : List Loc} (D : VC X own cc nL fr lo Ts) (Kb : VK X B G) (hI : gI X G H locs) (hl : lv_has ls nL lv) (hle : gle G G1)
    (hr : vx_Run (xp X) (xl X) (xe X) (xR X) (xs X) (xm X) (xa X) (xb X) (xme X) (xc X) H locs (G.2.2.1 - B.1) (G.2.2.2 - B.2.1) (G1.2.2.1 - G.2.2.1) (G1.2.2.2 - G.2.2.2) (F0 (xm X) pc ls st0) st (cXq (xDD X) (xdA X) (.inr res) (gA G) G1 a) (cXc (xDD X) (xdA X) (.inr res) (gA G) G1) (gA G))
    (kk : V X own cc nL fr lo Ts B Q G1 (pc + 3) lv (res.toList ++ st)) : W (xp X) (xl X) (xe X) (xR X) (xs X) (xm X) (xa X) (xb X) (xme X) (xc X) H locs (G.2.2.1 - B.1) (G.2.2.2 - B.2.1) Q (F0 (xm X) pc ls st0) := by
  intro T hT XS
  have hsub := hI.sub D
  obtain ⟨k1, k2, k3, k4⟩ := Kb
  obtain ⟨g0, g1, g2⟩ := hle
  have c1 : G.2.2.1 - B.1 + (G1.2.2.1 - G.2.2.1) = G1.2.2.1 - B.1 := by omega
  have c2 : G.2.2.2 - B.2.1 + (G1.2.2.2 - G.2.2.2) = G1.2.2.2 - B.2.1 := by omega
  rcases hr T hT XS with ⟨v, st₀, t, T', L, h0, X', hL, e1, e2, ⟨v', hrv, hv, hp, hdom, hz, hk⟩, stp⟩ | ⟨q, st₀, t, T', L, E, ce, h0, X', hL, e1, e2, ⟨hrE, -⟩, -⟩
  · cases hv
    cases hrv
    rw [h0] at hz hk
    have hI1 : gI X G1 T'.heap (locs ++ L) := ⟨by rw [e1]; exact hp, fun a ha => hsub a (hdom a ha), Nat.le_trans hI.2.2.1 (by rw [e1]; exact hz), fun q h1 h2 => by rw [e1, hk q (Nat.lt_of_lt_of_le h1 hI.2.2.1) (fun z => h2 (hsub q z))]; exact hI.2.2.2.1 q h1 h2, fun q hq => by
      rcases List.mem_append.mp hq with h | h
      · exact hI.2.2.2.2 q h
      · exact hsub _ (hL q h)⟩
    rw [c1, c2] at X'
    obtain ⟨t2, a1, b1⟩ := kk D ⟨k1, k2, Nat.le_trans k3 g1, Nat.le_trans k4 g2⟩ T'.heap ls (locs ++ L) hI1 hl T' rfl X'
    exact ⟨t2, stp t2 a1, b1⟩
  · cases hrE
theorem u_xcallV {α : Type} {F : MX α} {x : α} {G1 : GH} {val : α → Option Value} {y : MethodName} {ws ws' : List Cond} {bytes : ByteArray} {maxL : Nat} {ret : Option FieldType} {fr' lo' index b : Nat} {C : String} {T : u_T} {N : Nat} {st0 st1 : List Value} {fs : List Value} (ci n : Nat) (As : List Value)
    (hM : CX (xl X) y ws fr' lo' (.ref b :: As) val F) (hG : GoodIn Ts (wsV own index C y ws)) (hw : ws = Cond.code y bytes maxL ret :: ws') (hdd : y.cls = C ∧ y.cls ≠ "java/lang/invoke/MethodHandle" ∧ y.cls ≠ "java/lang/invoke/VarHandle" ∧ (parseMethodDescriptor y.desc).map (fun d => d.parameters.length) = some n) (hfr : fr' + 1 ≤ fr) (hlo : 8 + (maxL + 11) + lo' ≤ lo) (hn : As.length = n) (hc : vwCl[ci]? = some (C, T, N)) (hd : decode cc pc = .ok (.invokevirtual index, 3)) (hst : (st.map fun v => v.category).sum ≤ 8) (hst0 : st0 = As.reverse ++ .ref b :: st) (hb : G.1 b = some (.inr (ci, fs))) (h1 : F.1 G = some (.inr x, G1)) (hB : G1.2.2.1 ≤ B.2.2.1 ∧ G1.2.2.2 ≤ B.2.2.2) (hst1 : (val x).toList ++ st = st1)
    (kk : V X own cc nL fr lo Ts B Q G1 (pc + 3) lv st1) : V X own cc nL fr lo Ts B Q G pc lv st0 := by
  intro D Kb H ls locs hI hl
  obtain ⟨k0, hk0⟩ := hI.cell hb
  have hle := F.2 _ _ _ h1
  have Kb' := Kb
  obtain ⟨k1, k2, k3, k4⟩ := Kb
  obtain ⟨g0, g1, g2⟩ := hle
  have r1 : (G.2.2.1 - B.1) + (G1.2.2.1 - G.2.2.1) ≤ (xR X).cells := by rw [k1]; omega
  have r2 : (G.2.2.2 - B.2.1) + (G1.2.2.2 - G.2.2.2) ≤ (xR X).slots := by rw [k2]; omega
  subst hst1
  exact u_xafter D Kb' hI hl ⟨g0, g1, g2⟩ (vx_runV (As := As) (rest := st) ⟨D.x, D.b, D.ml, D.ow, D.ts⟩ (hM _ _ _ _ _ h1) (cwV n D.ts hG hw rfl rfl hdd ⟨by rw [D.rf]; exact hfr, by rw [D.rl]; exact hlo⟩) ⟨cPc_blind _ _ _ _, va_recv D.k hI.1.2.1 (ci := ci) (q0 := k0) hc hk0, fun U hU hW => hI.pre D hU hW⟩ rfl hn hl.1 hst0 (lv_room hst) hd ⟨r1, r2⟩) kk
theorem u_xcallS {α : Type} {F : MX α} {x : α} {G1 : GH} {val : α → Option Value} {y : MethodName} {ws ws' : List Cond} {bytes : ByteArray} {maxL : Nat} {ret : Option FieldType} {fr' lo' index : Nat} {st0 st1 : List Value} (n : Nat) (As : List Value)
    (hM : CX (xl X) y ws fr' lo' As val F) (hG : GoodIn Ts (va_wsS own index y ws)) (hw : ws = Cond.code y bytes maxL ret :: ws') (hdd : y.cls ≠ "java/lang/invoke/MethodHandle" ∧ y.cls ≠ "java/lang/invoke/VarHandle" ∧ (parseMethodDescriptor y.desc).map (fun d => d.parameters.length) = some n) (hfr : fr' + 1 ≤ fr) (hlo : 8 + (maxL + 11) + lo' ≤ lo) (hn : As.length = n) (hd : decode cc pc = .ok (.invokestatic index, 3)) (hst : (st.map fun v => v.category).sum ≤ 8) (hst0 : st0 = As.reverse ++ st) (h1 : F.1 G = some (.inr x, G1)) (hB : G1.2.2.1 ≤ B.2.2.1 ∧ G1.2.2.2 ≤ B.2.2.2) (hst1 : (val x).toList ++ st = st1)
    (kk : V X own cc nL fr lo Ts B Q G1 (pc + 3) lv st1) : V X own cc nL fr lo Ts B Q G pc lv st0 := by
  intro D Kb H ls locs hI hl
  have hle := F.2 _ _ _ h1
  have Kb' := Kb
  obtain ⟨k1, k2, k3, k4⟩ := Kb
  obtain ⟨g0, g1, g2⟩ := hle
  have r1 : (G.2.2.1 - B.1) + (G1.2.2.1 - G.2.2.1) ≤ (xR X).cells := by rw [k1]; omega
  have r2 : (G.2.2.2 - B.2.1) + (G1.2.2.2 - G.2.2.2) ≤ (xR X).slots := by rw [k2]; omega
  subst hst1
  exact u_xafter D Kb' hI hl ⟨g0, g1, g2⟩ (vx_runS (As := As) (rest := st) ⟨D.x, D.b, D.ml, D.ow, D.ts⟩ (hM _ _ _ _ _ h1) (va_cwS n D.ts hG hw rfl rfl hdd ⟨by rw [D.rf]; exact hfr, by rw [D.rl]; exact hlo⟩) ⟨cPc_blind _ _ _ _, fun U hU hW => hI.pre D hU hW⟩ rfl hn hl.1 hst0 (lv_room hst) hd ⟨r1, r2⟩) kk
theorem u_callV {α : Type} {F : MM α} {x : α} {G1 : GH} {val : α → Option Value} {y : MethodName} {ws ws' : List Cond} {bytes : ByteArray} {maxL : Nat} {ret : Option FieldType} {fr' lo' index b : Nat} {C : String} {T : u_T} {N : Nat} {st0 st1 : List Value} {fs : List Value} (ci n : Nat) (As : List Value)
    (hM : CM (xl X) y ws fr' lo' (.ref b :: As) val F) (hG : GoodIn Ts (wsV own index C y ws)) (hw : ws = Cond.code y bytes maxL ret :: ws') (hdd : y.cls = C ∧ y.cls ≠ "java/lang/invoke/MethodHandle" ∧ y.cls ≠ "java/lang/invoke/VarHandle" ∧ (parseMethodDescriptor y.desc).map (fun d => d.parameters.length) = some n) (hfr : fr' + 1 ≤ fr) (hlo : 8 + (maxL + 11) + lo' ≤ lo) (hn : As.length = n) (hc : vwCl[ci]? = some (C, T, N)) (hd : decode cc pc = .ok (.invokevirtual index, 3)) (hst : (st.map fun v => v.category).sum ≤ 8) (hst0 : st0 = As.reverse ++ .ref b :: st) (hb : G.1 b = some (.inr (ci, fs))) (h1 : F.1 G = some (x, G1)) (hB : G1.2.2.1 ≤ B.2.2.1 ∧ G1.2.2.2 ≤ B.2.2.2) (hst1 : (val x).toList ++ st = st1)
    (kk : V X own cc nL fr lo Ts B Q G1 (pc + 3) lv st1) : V X own cc nL fr lo Ts B Q G pc lv st0 := by
  intro D Kb H ls locs hI hl
  obtain ⟨k0, hk0⟩ := hI.cell hb
  have hle := F.2 _ _ _ h1
  have Kb' := Kb
  obtain ⟨k1, k2, k3, k4⟩ := Kb
  obtain ⟨g0, g1, g2⟩ := hle
  have r1 : (G.2.2.1 - B.1) + (G1.2.2.1 - G.2.2.1) ≤ (xR X).cells := by rw [k1]; omega
  have r2 : (G.2.2.2 - B.2.1) + (G1.2.2.2 - G.2.2.2) ≤ (xR X).slots := by rw [k2]; omega
  subst hst1
  exact v_after D Kb' hI hl ⟨g0, g1, g2⟩ (va_runV (As := As) (rest := st) ⟨D.x, D.b, D.ml, D.ow, D.ts⟩ (hM _ _ _ _ _ h1) (cwV n D.ts hG hw rfl rfl hdd ⟨by rw [D.rf]; exact hfr, by rw [D.rl]; exact hlo⟩) ⟨cPc_blind _ _ _ _, va_recv D.k hI.1.2.1 (ci := ci) (q0 := k0) hc hk0, fun U hU hW => hI.pre D hU hW⟩ rfl hn hl.1 hst0 (lv_room hst) hd ⟨r1, r2⟩) kk
theorem u_callS {α : Type} {F : MM α} {x : α} {G1 : GH} {val : α → Option Value} {y : MethodName} {ws ws' : List Cond} {bytes : ByteArray} {maxL : Nat} {ret : Option FieldType} {fr' lo' index : Nat} {st0 st1 : List Value} (n : Nat) (As : List Value)
    (hM : CM (xl X) y ws fr' lo' As val F) (hG : GoodIn Ts (va_wsS own index y ws)) (hw : ws = Cond.code y bytes maxL ret :: ws') (hdd : y.cls ≠ "java/lang/invoke/MethodHandle" ∧ y.cls ≠ "java/lang/invoke/VarHandle" ∧ (parseMethodDescriptor y.desc).map (fun d => d.parameters.length) = some n) (hfr : fr' + 1 ≤ fr) (hlo : 8 + (maxL + 11) + lo' ≤ lo) (hn : As.length = n) (hd : decode cc pc = .ok (.invokestatic index, 3)) (hst : (st.map fun v => v.category).sum ≤ 8) (hst0 : st0 = As.reverse ++ st) (h1 : F.1 G = some (x, G1)) (hB : G1.2.2.1 ≤ B.2.2.1 ∧ G1.2.2.2 ≤ B.2.2.2) (hst1 : (val x).toList ++ st = st1)
    (kk : V X own cc nL fr lo Ts B Q G1 (pc + 3) lv st1) : V X own cc nL fr lo Ts B Q G pc lv st0 := by
  intro D Kb H ls locs hI hl
  have hle := F.2 _ _ _ h1
  have Kb' := Kb
  obtain ⟨k1, k2, k3, k4⟩ := Kb
  obtain ⟨g0, g1, g2⟩ := hle
  have r1 : (G.2.2.1 - B.1) + (G1.2.2.1 - G.2.2.1) ≤ (xR X).cells := by rw [k1]; omega
  have r2 : (G.2.2.2 - B.2.1) + (G1.2.2.2 - G.2.2.2) ≤ (xR X).slots := by rw [k2]; omega
  subst hst1
  exact v_after D Kb' hI hl ⟨g0, g1, g2⟩ (va_runS (As := As) (rest := st) ⟨D.x, D.b, D.ml, D.ow, D.ts⟩ (hM _ _ _ _ _ h1) (va_cwS n D.ts hG hw rfl rfl hdd ⟨by rw [D.rf]; exact hfr, by rw [D.rl]; exact hlo⟩) ⟨cPc_blind _ _ _ _, fun U hU hW => hI.pre D hU hW⟩ rfl hn hl.1 hst0 (lv_room hst) hd ⟨r1, r2⟩) kk
theorem v_afterW {lv : List (Nat × Value)} {st0 : List Value} {k : Int32} {G1 : GH} {a : Array Value} {H : Heap} {ls : Array Slot} {locs : List Loc} (D : VC X own cc nL fr lo Ts) (Kb : VK X B G) (hI : gI X G H locs) (hl : lv_has ls nL lv) (hle : gle G G1)
    (hr : va_Run (xp X) (xl X) (xe X) (xR X) (xs X) (xm X) (xa X) (xb X) (xme X) (xc X) H locs (G.2.2.1 - B.1) (G.2.2.2 - B.2.1) (G1.2.2.1 - G.2.2.1) (G1.2.2.2 - G.2.2.2) (F0 (xm X) pc ls st0) st (cQw (xDD X) (xdA X) (some (.int k)) (gA G) G1 a) (gA G))
    (kk : ∀ n, (∀ a, G1.1 a ≠ none → a < n) → V X own cc nL fr lo Ts B Q (G1.1, n, G1.2.2) (pc + 3) lv (.int k :: st)) : W (xp X) (xl X) (xe X) (xR X) (xs X) (xm X) (xa X) (xb X) (xme X) (xc X) H locs (G.2.2.1 - B.1) (G.2.2.2 - B.2.1) Q (F0 (xm X) pc ls st0) := by
  intro T hT XS
  obtain ⟨v, st₀, t, T', L, h0, X', hL, e1, e2, ⟨hv, ⟨n9, hp⟩, hdom, hz, hk⟩, stp⟩ := hr T hT XS
  cases hv
  rw [h0] at hz hk
  have hsub := hI.sub D
  have hI1 : gI X (G1.1, n9, G1.2.2) T'.heap (locs ++ L) := ⟨by rw [e1]; exact hp, fun a ha => hsub a (hdom a ha), Nat.le_trans hI.2.2.1 (by rw [e1]; exact hz), fun q h1 h2 => by rw [e1, hk q (Nat.lt_of_lt_of_le h1 hI.2.2.1) (fun z => h2 (hsub q z))]; exact hI.2.2.2.1 q h1 h2, fun q hq => by
    rcases List.mem_append.mp hq with h | h
    · exact hI.2.2.2.2 q h
    · exact hsub _ (hL q h)⟩
  obtain ⟨k1, k2, k3, k4⟩ := Kb
  obtain ⟨g0, g1, g2⟩ := hle
  have c1 : G.2.2.1 - B.1 + (G1.2.2.1 - G.2.2.1) = G1.2.2.1 - B.1 := by omega
  have c2 : G.2.2.2 - B.2.1 + (G1.2.2.2 - G.2.2.2) = G1.2.2.2 - B.2.1 := by omega
  rw [c1, c2] at X'
  obtain ⟨t2, a1, b1⟩ := kk n9 hp.2.2 D ⟨k1, k2, Nat.le_trans k3 g1, Nat.le_trans k4 g2⟩ T'.heap ls (locs ++ L) hI1 hl T' rfl X'
  exact ⟨t2, stp t2 a1, b1⟩
theorem u_wrap {F : MX Int32} {z : String ⊕ Int32} {G1 : GH} {k : Int32} {x : Nat} {tb : List (String × Int32)} {y : MethodName} {ws ws' : List Cond} {bytes : ByteArray} {maxL : Nat} {hh : List (Nat × Nat × Nat × Nat)} {fr' lo' index : Nat} {st0 : List Value} (n : Nat) (As : List Value)
    (hM : CWr (xl X) y ws fr' lo' x As F tb) (hG : GoodIn Ts (va_wsS own index y ws)) (hw : ws = Cond.codeWith y bytes maxL (some .int) hh :: ws') (hdd : y.cls ≠ "java/lang/invoke/MethodHandle" ∧ y.cls ≠ "java/lang/invoke/VarHandle" ∧ (parseMethodDescriptor y.desc).map (fun d => d.parameters.length) = some n) (hfr : fr' + 1 ≤ fr) (hlo : 8 + (maxL + 11) + lo' ≤ lo) (hn : As.length = n) (hd : decode cc pc = .ok (.invokestatic index, 3)) (hst : (st.map fun v => v.category).sum ≤ 8) (hst0 : st0 = As.reverse ++ st) (hN : NX (xs X)) (hb : ∃ fs, G.1 x = some (.inr (4, fs))) (h1 : F.1 G = some (z, G1)) (hW : WR tb z k) (hB : G1.2.2.1 ≤ B.2.2.1 ∧ G1.2.2.2 ≤ B.2.2.2)
    (kk : ∀ n, (∀ a, G1.1 a ≠ none → a < n) → V X own cc nL fr lo Ts B Q (G1.1, n, G1.2.2) (pc + 3) lv (.int k :: st)) : V X own cc nL fr lo Ts B Q G pc lv st0 := by
  intro D Kb H ls locs hI hl
  have hle := F.2 _ _ _ h1
  have Kb' := Kb
  obtain ⟨k1, k2, k3, k4⟩ := Kb
  obtain ⟨g0, g1, g2⟩ := hle
  have r1 : (G.2.2.1 - B.1) + (G1.2.2.1 - G.2.2.1) ≤ (xR X).cells := by rw [k1]; omega
  have r2 : (G.2.2.2 - B.2.1) + (G1.2.2.2 - G.2.2.2) ≤ (xR X).slots := by rw [k2]; omega
  exact v_afterW D Kb' hI hl ⟨g0, g1, g2⟩ (vx_runSW (As := As) (rest := st) ⟨D.x, D.b, D.ml, D.ow, D.ts⟩ (hM _ _ _ _ _ _ h1 hb hW) (vx_cwSW n D.ts hG hw rfl rfl hdd ⟨by rw [D.rf]; exact hfr, by rw [D.rl]; exact hlo⟩) ⟨cPw_blind _ _ _ _, fun U hU hWW => ⟨hI.pre D hU hWW, NX.moved hWW.alike hN⟩⟩ rfl hn hl.1 hst0 (lv_room hst) hd ⟨r1, r2⟩) kk
end Vl2
/-! the object between two calls -/
theorem cnt_le (refs : Nat → Option Nat) : ∀ k, cnt refs k ≤ k
  | 0 => Nat.le_refl _
  | k + 1 => by
    have := cnt_le refs k
    unfold cnt
    split <;> omega
theorem RepC.pb {G : GH} {ow : Nat → Nat} {p : Nat} {w : WW} {P : Nat} (h : RepC G ow p w P) : P ≤ 520 := by
  obtain ⟨ads, tp, sa, srefs, n, R, -, -, -, -, -, -, h7⟩ := h
  have hp : ∀ i, pu R srefs i ≤ 105 := fun i => by
    unfold pu
    split
    · exact Nat.le_refl _
    · have := cnt_le (R i).2.2.2.2 100
      omega
  have h0 := hp 0
  have h1 := hp 1
  have h2 := hp 2
  have h3 := hp 3
  have h4 := cnt_le n.2.2.2.2 100
  rw [h7]
  unfold pot
  omega
theorem RepC.obj {G : GH} {ow : Nat → Nat} {p : Nat} {w : WW} {P : Nat} (h : RepC G ow p w P) : ∃ fs, G.1 p = some (.inr (4, fs)) := by
  obtain ⟨ads, tp, sa, srefs, n, R, h1, -⟩ := h
  exact ⟨_, h1.2⟩
def HI (p C S : Nat) (G : GH) (w : WW) : Prop := ∃ ow P, RepC G ow p w P ∧ G.2.2.1 + 2 * P ≤ C ∧ G.2.2.2 + 51 * P ≤ S
section Hi
variable {p C S : Nat} {G : GH} {w : WW}
theorem HI.rt {α : Type} {F : MM α} {x : α} {w' : WW} {e : Nat} (h : HI p C S G w) (hF : ∀ ow P, RepC G ow p w P → RT F G ow p w P x w' e) : ∃ G', F.1 G = some (x, G') ∧ HI p (C + e) (S + 6 * e) G' w' := by
  obtain ⟨ow, P, h1, h2, h3⟩ := h
  obtain ⟨G', ow', P', k1, k2, k3⟩ := hF ow P h1
  obtain ⟨-, -, -, k4, k5⟩ := k3
  exact ⟨G', k1, ow', P', k2, by omega, by omega⟩
theorem HI.rp {α : Type} {F : MM α} {Φ : α → WW → Prop} (h : HI p C S G w) (hF : ∀ ow P, RepC G ow p w P → RP F G ow p w P Φ) : ∃ x w' G', F.1 G = some (x, G') ∧ HI p C S G' w' ∧ Φ x w' := by
  obtain ⟨ow, P, h1, h2, h3⟩ := h
  obtain ⟨x, w', ⟨G', ow', P', k1, k2, k3⟩, hp⟩ := hF ow P h1
  obtain ⟨-, -, -, k4, k5⟩ := k3
  exact ⟨x, w', G', k1, ⟨ow', P', k2, by omega, by omega⟩, hp⟩
theorem HI.obj (h : HI p C S G w) : ∃ fs, G.1 p = some (.inr (4, fs)) := by
  obtain ⟨ow, P, h1, -⟩ := h
  exact h1.obj
theorem HI.bd (h : HI p C S G w) : G.2.2.1 ≤ C ∧ G.2.2.2 ≤ S := by
  obtain ⟨ow, P, h1, h2, h3⟩ := h
  exact ⟨by omega, by omega⟩
theorem HI.bb (h : HI p C S G w) {B : VB} (hB : C ≤ B.2.2.1 ∧ S ≤ B.2.2.2) : G.2.2.1 ≤ B.2.2.1 ∧ G.2.2.2 ≤ B.2.2.2 := ⟨Nat.le_trans h.bd.1 hB.1, Nat.le_trans h.bd.2 hB.2⟩
theorem HI.mv (h : HI p C S G w) {n : Nat} (hn : ∀ a, G.1 a ≠ none → a < n) : HI p C S (G.1, n, G.2.2) w := by
  obtain ⟨ow, P, h1, h2, h3⟩ := h
  refine ⟨fun a => if (G.1 a).isSome = true then ow a else 0, P, RepC.mv (G := G) (G' := (G.1, n, G.2.2)) (ow := ow) (ow' := fun a => if (G.1 a).isSome = true then ow a else 0) (fun a _ ha => ?_) (fun _ _ _ => rfl) h1 (fun a ha => hn a (fun hh => ?_)), h2, h3⟩
  · have : (G.1 a).isSome = true := by
      cases hg : G.1 a with
      | none => exact absurd hg ha
      | some _ => rfl
    exact if_pos this
  · have ha' : (if (G.1 a).isSome = true then ow a else 0) ≠ 0 := ha
    rw [hh] at ha'
    exact ha' rfl
theorem HI.up (h : HI p C S G w) {C' S' : Nat} (hC : C ≤ C') (hS : S ≤ S') : HI p C' S' G w := by
  obtain ⟨ow, P, h1, h2, h3⟩ := h
  exact ⟨ow, P, h1, by omega, by omega⟩
end Hi
theorem lcmp_self (x : Int64) : lg_cmp x x = 0 := by
  simp [lg_cmp]
