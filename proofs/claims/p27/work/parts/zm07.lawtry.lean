/-! LAW 1: the law's own small methods: a call within a try block, its answer into a cell. -/
def ncs : List (String × String) := [("java/lang/IllegalStateException", "java/util/NoSuchElementException")]
def NX (U : State) : Prop := ∀ q ∈ ncs, va_Nc q.1 q.2 U
theorem NX.moved {u U : State} (hvm : u.vm.Alike U.vm) (h : NX u) : NX U := fun q hq => va_Nc.moved hvm (h q hq)
def cPw (D : va_G) (dA : Nat → ClassId) (av : List Value) (G : GH) : Array Value → State → Prop := fun a U => cPc D dA av G a U ∧ NX U
theorem cPw_blind (D : va_G) (dA : Nat → ClassId) (av : List Value) (G : GH) : FrameBlind (cPw D dA av G) := fun a U g mk h => ⟨cPc_blind D dA av G a U g mk h.1, NX.moved (u := U) (U := U.calling g mk a) (Vm.Alike.refl U.vm) h.2⟩
def cQw (D : va_G) (dA : Nat → ClassId) (v : Option Value) (A : Nat → Prop) (Gf : GH) : Array Value → State → Outcome → State → Prop := fun _ st oc t => oc = .returned v ∧ (∃ n, gP D dA (Gf.1, n, Gf.2.2) t.heap) ∧ (∀ a, Gf.1 a ≠ none → A a) ∧ va_F A st t
/-- what a call in a try block answers: the call's answer, or the number behind its exception -/
def WR (tb : List (String × Int32)) (z : String ⊕ Int32) (k : Int32) : Prop := match z with
  | .inl E => (E, k) ∈ tb
  | .inr a => k = a
def CWr (l : Launch) (y : MethodName) (ws : List Cond) (fr lo : Nat) (x : Nat) (av : List Value) (F : MX Int32) (tb : List (String × Int32)) : Prop :=
  ∀ (D : va_G) (dA : Nat → ClassId) (G : GH) (z : String ⊕ Int32) (Gf : GH) (k : Int32), F.1 G = some (z, Gf) → (∃ fs, G.1 x = some (.inr (4, fs))) → WR tb z k → Met l y ws { frames := fr, cells := Gf.2.2.1 - G.2.2.1, slots := Gf.2.2.2 - G.2.2.2, locals := lo } (cPw D dA av G) (cQw D dA (some (.int k)) (gA G) Gf) (Gf.2.2.1 - G.2.2.1) (Gf.2.2.2 - G.2.2.2) (gA G)
def QW (X : VX) (k : Int32) (Gf : GH) (B : VB) : State → Prop := MQ (xb X) (cQw (xDD X) (xdA X) (some (.int k)) (xA X) Gf) (xa X) (xs X) (B.2.2.1 - B.1) (B.2.2.2 - B.2.1) (xA X)
theorem CWr.start {l : Launch} {y : MethodName} {cc : ByteArray} {maxL : Nat} {hh : List (Nat × Nat × Nat × Nat)} {ws ws' : List Cond} {fr lo x : Nat} {av : List Value} {F : MX Int32} {tb : List (String × Int32)} (hfl : l.stackTraces = false) (own : String) (hown : y.cls = own) (hy : plainName y.cls = true) (hw : ws = Cond.codeWith y cc maxL (some .int) hh :: ws') (hsl : (lg_sl av).length ≤ maxL)
    (body : ∀ (X : VX) (G : GH) (z : String ⊕ Int32) (Gf : GH) (k : Int32), xl X = l → (xc X).exceptionTable.toList = tableOf hh → (xme X).sig.returnType = some .int → NX (xs X) → F.1 G = some (z, Gf) → (∃ fs, G.1 x = some (.inr (4, fs))) → WR tb z k → V X own cc maxL fr lo ws (G.2.2.1, G.2.2.2, Gf.2.2.1, Gf.2.2.2) (QW X k Gf (G.2.2.1, G.2.2.2, Gf.2.2.1, Gf.2.2.2)) G 0 (lv_args 0 av) []) : CWr l y ws fr lo x av F tb := by
  intro D dA G z Gf kk hF hb hR
  refine va_MetW (cc := cc) (maxL := maxL) (ret := some .int) hy hw ?_
  intro p e s m args below meth c s₁ Bd hml hP
  obtain ⟨⟨rfl, hg, hk, hex, hz⟩, hnx⟩ := hP
  have hts := atoms_spec (ws := ws) Bd.pre
  have htb := vx_table (x := y) Bd (hts _ (by rw [hw]; exact List.mem_cons_self))
  have ho : s.vm.findClass own = some m.cls := hown ▸ findClass_of_methodNamed Bd.named
  rw [lg_entry_eq]
  obtain ⟨X, hX⟩ : ∃ X : VX, X = (p, l, e, (headSpec ws { frames := fr, cells := Gf.2.2.1 - G.2.2.1, slots := Gf.2.2.2 - G.2.2.2, locals := lo }).room, s, m, av.toArray, below, meth, c, D, dA, gA G) := ⟨_, rfl⟩
  have k := body X G z Gf kk (by rw [hX]) (by rw [hX]; exact htb) (by rw [hX]; exact Bd.returns) (by rw [hX]; exact hnx) hF hb hR
  have k2 := k (by rw [hX]; exact ⟨Bd.exec, Bd.bytes, hml, ho, hts, Bd.notSynchronized, rfl, rfl, hk, fun q hq => Or.inr (by rw [hg.1]; exact hq), hfl, hex, hz⟩) (by rw [hX]; exact ⟨rfl, rfl, Nat.le_refl _, Nat.le_refl _⟩) s.heap _ [] (by rw [hX]; exact ⟨hg, fun a ha => Or.inl ha, va_S.rf⟩) (lv_entry av hsl)
  rw [hX] at k2
  have e1 : G.2.2.1 - G.2.2.1 = 0 := Nat.sub_self _
  have e2 : G.2.2.2 - G.2.2.2 = 0 := Nat.sub_self _
  rw [e1, e2] at k2
  exact k2
section Vwraps
variable {X : VX} {own : String} {cc : ByteArray} {nL fr lo : Nat} {Ts : List Cond} {B : VB} {Q : State → Prop} {G : GH} {pc : Nat} {lv : List (Nat × Value)} {st : List Value}
theorem v_wiret {k : Int32} {Gf : GH} (hr : (xme X).sig.returnType = some .int) (hd : decode cc pc = .ok (.ireturn, 1)) (hE : B.2.2.1 = G.2.2.1 ∧ B.2.2.2 = G.2.2.2) (h1 : Gf.1 = G.1) (h2 : Gf.2.2 = G.2.2) : V X own cc nL fr lo Ts B (QW X k Gf B) G pc lv [.int k] := by
  intro D Kb H ls locs hI hl
  unfold QW
  rw [hE.1, hE.2]
  exact W.iret D.x D.b hr (fun t ht hW => ⟨rfl, ⟨G.2.1, by rw [ht, h1, h2]; exact hI.1⟩, by rw [h1]; exact hI.2.1, hI.2.2.F ht⟩) hI.2.2.2.2 hd D.lk
theorem v_xcatch {lv : List (Nat × Value)} {st0 : List Value} {r : String ⊕ Option Value} {G1 : GH} {a : Array Value} {H : Heap} {ls : Array Slot} {locs : List Loc} (D : VC X own cc nL fr lo Ts) (Kb : VK X B G) (hI : gI X G H locs) (hl : lv_has ls nL lv) (hle : gle G G1)
    (hr : vx_Run (xp X) (xl X) (xe X) (xR X) (xs X) (xm X) (xa X) (xb X) (xme X) (xc X) H locs (G.2.2.1 - B.1) (G.2.2.2 - B.2.1) (G1.2.2.1 - G.2.2.1) (G1.2.2.2 - G.2.2.2) (F0 (xm X) pc ls st0) st (cXq (xDD X) (xdA X) r (gA G) G1 a) (cXc (xDD X) (xdA X) r (gA G) G1) (gA G))
    (kn : ∀ v, r = .inr v → V X own cc nL fr lo Ts B Q G1 (pc + 3) lv (v.toList ++ st))
    (ke : ∀ E, r = .inl E → ∃ (pre : List ExceptionTableEntry) (x : ExceptionTableEntry) (suf : List ExceptionTableEntry) (nm : String), (xc X).exceptionTable.toList = pre ++ x :: suf ∧ (∀ z ∈ pre, z.catchType ≠ 0 ∧ ∃ nm' : String, Cond.classLink own z.catchType nm' ∈ Ts ∧ va_Nc E nm' (xs X)) ∧ covers x pc = true ∧ x.catchType ≠ 0 ∧ Cond.classLink own x.catchType nm ∈ Ts ∧ (Cond.castable E nm).before (xa X) (xs X) = true ∧ ∀ n q, V X own cc nL fr lo Ts B Q (G1.1, n, G1.2.2) x.handlerPc lv [.ref q]) : W (xp X) (xl X) (xe X) (xR X) (xs X) (xm X) (xa X) (xb X) (xme X) (xc X) H locs (G.2.2.1 - B.1) (G.2.2.2 - B.2.1) Q (F0 (xm X) pc ls st0) := by
  intro T hT XS
  have hsub := hI.sub D
  obtain ⟨k1, k2, k3, k4⟩ := Kb
  obtain ⟨g0, g1, g2⟩ := hle
  have c1 : G.2.2.1 - B.1 + (G1.2.2.1 - G.2.2.1) = G1.2.2.1 - B.1 := by omega
  have c2 : G.2.2.2 - B.2.1 + (G1.2.2.2 - G.2.2.2) = G1.2.2.2 - B.2.1 := by omega
  rcases hr T hT XS with ⟨v, st₀, t, T', L, h0, X', hL, e1, e2, ⟨v', hrv, hv, hp, hdom, hz, hk⟩, stp⟩ | ⟨q, st₀, t, T', L, E, ce, h0, X', hL, e1, e2, ⟨hrE, ⟨n9, hp⟩, hdom, hz, hk⟩, hce, hcv, hcl, stp⟩
  · cases hv
    rw [h0] at hz hk
    have hI1 : gI X G1 T'.heap (locs ++ L) := ⟨by rw [e1]; exact hp, fun a ha => hsub a (hdom a ha), Nat.le_trans hI.2.2.1 (by rw [e1]; exact hz), fun q h1 h2 => by rw [e1, hk q (Nat.lt_of_lt_of_le h1 hI.2.2.1) (fun z => h2 (hsub q z))]; exact hI.2.2.2.1 q h1 h2, fun q hq => by
      rcases List.mem_append.mp hq with h | h
      · exact hI.2.2.2.2 q h
      · exact hsub _ (hL q h)⟩
    rw [c1, c2] at X'
    obtain ⟨t2, a1, b1⟩ := kn v hrv D ⟨k1, k2, Nat.le_trans k3 g1, Nat.le_trans k4 g2⟩ T'.heap ls (locs ++ L) hI1 hl T' rfl X'
    exact ⟨t2, stp t2 a1, b1⟩
  · obtain ⟨pre, x, suf, nm, hsplit, hpass, hx, h00, hlink, hcast, kk⟩ := ke E hrE
    rw [h0] at hz hk
    rw [c1, c2] at X'
    have hI1 : gI X (G1.1, n9, G1.2.2) T'.heap (locs ++ L) := ⟨by rw [e1]; exact hp, fun a ha => hsub a (hdom a ha), Nat.le_trans hI.2.2.1 (by rw [e1]; exact hz), fun q h1 h2 => by rw [e1, hk q (Nat.lt_of_lt_of_le h1 hI.2.2.1) (fun z => h2 (hsub q z))]; exact hI.2.2.2.1 q h1 h2, fun q hq => by
      rcases List.mem_append.mp hq with h | h
      · exact hI.2.2.2.2 q h
      · exact hsub _ (hL q h)⟩
    have o := vx_catch (p := xp X) (l := xl X) (e := xe X) (R := xR X) (s := xs X) (m := xm X) (args := xa X) (below := xb X) (meth := xme X) (c := xc X) (H := T'.heap) (locs := locs ++ L) (cells := G1.2.2.1 - B.1) (slots := G1.2.2.2 - B.2.1) (ls := ls) (rest := st) (pc := pc) (E := E) (ce := ce) (q := q) (Q := Q) D.ow pre x suf hsplit (fun z hz => by
      obtain ⟨z1, nm', z2, z3⟩ := hpass z hz
      exact Or.inr ⟨z1, nm', D.ts _ z2, z3⟩) hx h00 (D.ts _ hlink) hcast (by rw [e1]; exact hce) hcv hcl (kk n9 q D ⟨k1, k2, Nat.le_trans k3 g1, Nat.le_trans k4 g2⟩ T'.heap ls (locs ++ L) hI1 hl)
    obtain ⟨t2, a1, b9⟩ := o T' rfl X'
    exact ⟨t2, stp.trans a1, b9⟩
theorem v_wcall {α : Type} {val : α → Option Value} {F : MX α} {z : String ⊕ α} {G1 : GH} {y : MethodName} {ws ws' : List Cond} {bytes : ByteArray} {maxL : Nat} {ret : Option FieldType} {fr' lo' index b : Nat} {C : String} {T : u_T} {N : Nat} {st0 : List Value} {hh : List (Nat × Nat × Nat × Nat)} {fs : List Value} (ci n : Nat) (As : List Value)
    (hM : CX (xl X) y ws fr' lo' (.ref b :: As) val F) (hG : GoodIn Ts (wsV own index C y ws)) (hw : ws = Cond.code y bytes maxL ret :: ws') (hdd : y.cls = C ∧ y.cls ≠ "java/lang/invoke/MethodHandle" ∧ y.cls ≠ "java/lang/invoke/VarHandle" ∧ (parseMethodDescriptor y.desc).map (fun d => d.parameters.length) = some n) (hfr : fr' + 1 ≤ fr) (hlo : 8 + (maxL + 11) + lo' ≤ lo) (hn : As.length = n) (hc : vwCl[ci]? = some (C, T, N)) (hd : decode cc pc = .ok (.invokevirtual index, 3)) (hst : (st.map fun v => v.category).sum ≤ 8) (hst0 : st0 = As.reverse ++ .ref b :: st) (hE : B.2.2.1 = G1.2.2.1 ∧ B.2.2.2 = G1.2.2.2) (hb : G.1 b = some (.inr (ci, fs))) (h1 : F.1 G = some (z, G1)) (htb : (xc X).exceptionTable.toList = tableOf hh)
    (kn : ∀ x, z = .inr x → V X own cc nL fr lo Ts B Q G1 (pc + 3) lv ((val x).toList ++ st))
    (ke : ∀ E, z = .inl E → ∃ (pre : List ExceptionTableEntry) (x : ExceptionTableEntry) (suf : List ExceptionTableEntry), tableOf hh = pre ++ x :: suf ∧ (∀ z ∈ pre, z.catchType ≠ 0 ∧ ∃ nm' : String, Cond.classLink own z.catchType nm' ∈ Ts ∧ va_Nc E nm' (xs X)) ∧ covers x pc = true ∧ x.catchType ≠ 0 ∧ Cond.classLink own x.catchType E ∈ Ts ∧ E ∈ casts ∧ ∀ n q, V X own cc nL fr lo Ts B Q (G1.1, n, G1.2.2) x.handlerPc lv [.ref q]) : V X own cc nL fr lo Ts B Q G pc lv st0 := by
  intro D Kb H ls locs hI hl
  obtain ⟨k0, hk0⟩ := hI.cell hb
  have hle := F.2 _ _ _ h1
  have Kb' := Kb
  obtain ⟨k1, k2, k3, k4⟩ := Kb
  obtain ⟨g0, g1, g2⟩ := hle
  have r1 : (G.2.2.1 - B.1) + (G1.2.2.1 - G.2.2.1) ≤ (xR X).cells := by rw [k1, hE.1]; omega
  have r2 : (G.2.2.2 - B.2.1) + (G1.2.2.2 - G.2.2.2) ≤ (xR X).slots := by rw [k2, hE.2]; omega
  refine v_xcatch (r := xmap val z) D Kb' hI hl ⟨g0, g1, g2⟩ (vx_runV (As := As) (rest := st) ⟨D.x, D.b, D.ml, D.ow, D.ts⟩ (hM _ _ _ _ _ h1) (cwV n D.ts hG hw rfl rfl hdd ⟨by rw [D.rf]; exact hfr, by rw [D.rl]; exact hlo⟩) ⟨cPc_blind _ _ _ _, va_recv D.k hI.1.2.1 (ci := ci) (q0 := k0) hc hk0, fun U hU hW => hI.pre D hU hW⟩ rfl hn hl.1 hst0 (lv_room hst) hd ⟨r1, r2⟩) (fun v hv => ?_) (fun E hv => ?_)
  · cases z with
    | inl E => cases hv
    | inr x => cases hv; exact kn x rfl
  · cases z with
    | inr x => cases hv
    | inl Ez =>
      have e9 : E = Ez := by
        cases hv
        rfl
      rw [e9]
      obtain ⟨pre, x, suf, a1, a2, a3, a4, a5, a6, a7⟩ := ke Ez rfl
      have hw2 := D.ex.2.2.2.2 (Cond.castable Ez Ez) (List.mem_append.mpr (Or.inl (List.mem_map.mpr ⟨Ez, a6, rfl⟩)))
      exact ⟨pre, x, suf, Ez, htb.trans a1, a2, a3, a4, a5, va_Nw.use rfl hw2, a7⟩
end Vwraps

theorem c_L_pushOr (l : Launch) (hfl : l.stackTraces = false) (x : Nat) (p1 p2 p3 : Int32) : CWr l yL_pushOr wsL_pushOr 8 143 x [.ref x, .int p1, .int p2, .int p3] (f_X4_push x p1 p2 p3) [(exS, -1)] := CWr.start hfl RL rfl (by decide +kernel) rfl (Nat.le_of_ble_eq_true rfl) (fun X G z Gf k hl htb hr hN hf hb0 hR => by
  obtain ⟨fs, hb⟩ := hb0
  have hfx : (xl X).stackTraces = false := by rw [hl]; exact hfl
  refine v_aload_n 0 dL_pushOr_0 rfl rfl ?_
  refine v_iload_n 1 dL_pushOr_1 rfl rfl ?_
  refine v_iload_n 2 dL_pushOr_2 rfl rfl ?_
  refine v_iload_n 3 dL_pushOr_3 rfl rfl ?_
  refine v_wcall (hh := [(0, 7, 8, 15)]) 4 3 [.int p1, .int p2, .int p3] (c_X4_push (xl X) hfx x p1 p2 p3) gL_pushOr_X4_push rfl (by decide +kernel) (by decide) (by decide) rfl rfl dL_pushOr_4 (Nat.le_of_ble_eq_true rfl) rfl ⟨rfl, rfl⟩ hb hf htb (fun v hv => ?_) (fun E hv => ?_)
  · subst hv
    have hR2 : k = v := hR
    subst hR2
    exact v_wiret hr dL_pushOr_7 ⟨rfl, rfl⟩ rfl rfl
  · subst hv
    have hm : (E, k) ∈ [(exS, (-1 : Int32))] := hR
    obtain ⟨rfl, rfl⟩ := Prod.mk.inj (List.mem_singleton.mp hm)
    refine ⟨[], ⟨0, 7, 8, 15⟩, [], rfl, fun z hz => absurd hz List.not_mem_nil, by decide, by decide, List.mem_of_getElem? (i := 1) rfl, List.mem_of_getElem? (i := 1) rfl, fun n q => ?_⟩
    refine v_astore [(4, .ref q), (0, .ref x), (1, .int p1), (2, .int p2), (3, .int p3)] dL_pushOr_8 (by decide) rfl ?_
    refine v_iconst (-1) dL_pushOr_10 (by decide) ?_
    exact v_wiret hr dL_pushOr_11 ⟨rfl, rfl⟩ rfl rfl)
theorem c_L_popOr (l : Launch) (hfl : l.stackTraces = false) (x : Nat) (p1 p2 : Int32) : CWr l yL_popOr wsL_popOr 8 142 x [.ref x, .int p1, .int p2] (f_X4_pop x p1 p2) [(exN, -2), (exS, -1)] := CWr.start hfl RL rfl (by decide +kernel) rfl (Nat.le_of_ble_eq_true rfl) (fun X G z Gf k hl htb hr hN hf hb0 hR => by
  obtain ⟨fs, hb⟩ := hb0
  have hfx : (xl X).stackTraces = false := by rw [hl]; exact hfl
  refine v_aload_n 0 dL_popOr_0 rfl rfl ?_
  refine v_iload_n 1 dL_popOr_1 rfl rfl ?_
  refine v_iload_n 2 dL_popOr_2 rfl rfl ?_
  refine v_wcall (hh := [(0, 6, 7, 21), (0, 6, 11, 15)]) 4 2 [.int p1, .int p2] (c_X4_pop (xl X) hfx x p1 p2) gL_popOr_X4_pop rfl (by decide +kernel) (by decide) (by decide) rfl rfl dL_popOr_3 (Nat.le_of_ble_eq_true rfl) rfl ⟨rfl, rfl⟩ hb hf htb (fun v hv => ?_) (fun E hv => ?_)
  · subst hv
    have hR2 : k = v := hR
    subst hR2
    exact v_wiret hr dL_popOr_6 ⟨rfl, rfl⟩ rfl rfl
  · subst hv
    have hm : (E, k) ∈ [(exN, (-2 : Int32)), (exS, (-1 : Int32))] := hR
    rcases List.mem_cons.mp hm with h0 | hm
    · obtain ⟨rfl, rfl⟩ := Prod.mk.inj h0
      refine ⟨[], ⟨0, 6, 7, 21⟩, [⟨0, 6, 11, 15⟩], rfl, fun z hz => absurd hz List.not_mem_nil, by decide, by decide, List.mem_of_getElem? (i := 1) rfl, List.mem_of_getElem? (i := 3) rfl, fun n q => ?_⟩
      refine v_astore_n [(3, .ref q), (0, .ref x), (1, .int p1), (2, .int p2)] dL_popOr_7 rfl (by decide) rfl ?_
      refine v_bipush (-2) dL_popOr_8 (by decide) ?_
      exact v_wiret hr dL_popOr_10 ⟨rfl, rfl⟩ rfl rfl
    · obtain ⟨rfl, rfl⟩ := Prod.mk.inj (List.mem_singleton.mp hm)
      refine ⟨[⟨0, 6, 7, 21⟩], ⟨0, 6, 11, 15⟩, [], rfl, fun z hz => ?_, by decide, by decide, List.mem_of_getElem? (i := 2) rfl, List.mem_of_getElem? (i := 1) rfl, fun n q => ?_⟩
      · obtain rfl := List.mem_singleton.mp hz
        exact ⟨by decide, _, List.mem_of_getElem? (i := 1) rfl, hN _ (List.mem_of_getElem? (i := 0) rfl)⟩
      · refine v_astore_n [(3, .ref q), (0, .ref x), (1, .int p1), (2, .int p2)] dL_popOr_11 rfl (by decide) rfl ?_
        refine v_iconst (-1) dL_popOr_12 (by decide) ?_
        exact v_wiret hr dL_popOr_13 ⟨rfl, rfl⟩ rfl rfl)
theorem c_L_dropOr (l : Launch) (hfl : l.stackTraces = false) (x : Nat) : CWr l yL_dropOr wsL_dropOr 7 117 x [.ref x] (f_X4_drop x) [(exS, -1)] := CWr.start hfl RL rfl (by decide +kernel) rfl (Nat.le_of_ble_eq_true rfl) (fun X G z Gf k hl htb hr hN hf hb0 hR => by
  obtain ⟨fs, hb⟩ := hb0
  have hfx : (xl X).stackTraces = false := by rw [hl]; exact hfl
  refine v_aload_n 0 dL_dropOr_0 rfl rfl ?_
  refine v_wcall (hh := [(0, 4, 5, 15)]) 4 0 [] (c_X4_drop (xl X) hfx x) gL_dropOr_X4_drop rfl (by decide +kernel) (by decide) (by decide) rfl rfl dL_dropOr_1 (Nat.le_of_ble_eq_true rfl) rfl ⟨rfl, rfl⟩ hb hf htb (fun v hv => ?_) (fun E hv => ?_)
  · subst hv
    have hR2 : k = v := hR
    subst hR2
    exact v_wiret hr dL_dropOr_4 ⟨rfl, rfl⟩ rfl rfl
  · subst hv
    have hm : (E, k) ∈ [(exS, (-1 : Int32))] := hR
    obtain ⟨rfl, rfl⟩ := Prod.mk.inj (List.mem_singleton.mp hm)
    refine ⟨[], ⟨0, 4, 5, 15⟩, [], rfl, fun z hz => absurd hz List.not_mem_nil, by decide, by decide, List.mem_of_getElem? (i := 1) rfl, List.mem_of_getElem? (i := 1) rfl, fun n q => ?_⟩
    refine v_astore_n [(1, .ref q), (0, .ref x)] dL_dropOr_5 rfl (by decide) rfl ?_
    refine v_iconst (-1) dL_dropOr_6 (by decide) ?_
    exact v_wiret hr dL_dropOr_7 ⟨rfl, rfl⟩ rfl rfl)
theorem dn_L_pushOr : yL_pushOr.cls ≠ "java/lang/invoke/MethodHandle" ∧ yL_pushOr.cls ≠ "java/lang/invoke/VarHandle" ∧ (parseMethodDescriptor yL_pushOr.desc).map (fun d => d.parameters.length) = some 4 := by decide +kernel
theorem dn_L_popOr : yL_popOr.cls ≠ "java/lang/invoke/MethodHandle" ∧ yL_popOr.cls ≠ "java/lang/invoke/VarHandle" ∧ (parseMethodDescriptor yL_popOr.desc).map (fun d => d.parameters.length) = some 3 := by decide +kernel
theorem dn_L_dropOr : yL_dropOr.cls ≠ "java/lang/invoke/MethodHandle" ∧ yL_dropOr.cls ≠ "java/lang/invoke/VarHandle" ∧ (parseMethodDescriptor yL_dropOr.desc).map (fun d => d.parameters.length) = some 1 := by decide +kernel
