/-! PART 08: contracts of methods by partial programs (CM: returns; CX: returns or throws), their starts, ends and calls. -/
def cPc (D : va_G) (dA : Nat → ClassId) (av : List Value) (G : GH) : Array Value → State → Prop := va_Pc av (fun U => gP D dA G U.heap ∧ va_K D vwCl (gty dA) U ∧ EX U ∧ XZ (gA G) U U.heap)
def cQc (D : va_G) (dA : Nat → ClassId) (res : Option Value) (A : Nat → Prop) (Gf : GH) : Array Value → State → Outcome → State → Prop := fun _ st oc t => oc = .returned res ∧ gP D dA Gf t.heap ∧ (∀ a, Gf.1 a ≠ none → A a) ∧ va_F A st t
def CM (l : Launch) (y : MethodName) (ws : List Cond) (fr lo : Nat) (av : List Value) {α : Type} (val : α → Option Value) (F : MM α) : Prop :=
  ∀ (D : va_G) (dA : Nat → ClassId) (G : GH) (x : α) (Gf : GH), F.1 G = some (x, Gf) → Met l y ws { frames := fr, cells := Gf.2.2.1 - G.2.2.1, slots := Gf.2.2.2 - G.2.2.2, locals := lo } (cPc D dA av G) (cQc D dA (val x) (gA G) Gf) (Gf.2.2.1 - G.2.2.1) (Gf.2.2.2 - G.2.2.2) (gA G)
theorem cPc_blind (D : va_G) (dA : Nat → ClassId) (av : List Value) (G : GH) : FrameBlind (cPc D dA av G) := fun a U g mk ⟨q0, q1, q2, q3, q4⟩ => ⟨q0, q1, va_K.moved (u := U) (U := U.calling g mk a) (Vm.Alike.refl U.vm) q2, EX.same (u := U) (U := U.calling g mk a) rfl q3, XZ.moved (u := U) (U := U.calling g mk a) (Vm.Alike.refl U.vm) q4⟩
/-- what a walk owes at its end -/
def QE (X : VX) (res : Option Value) (Gf : GH) (B : VB) : State → Prop := MQ (xb X) (cQc (xDD X) (xdA X) res (xA X) Gf) (xa X) (xs X) (B.2.2.1 - B.1) (B.2.2.2 - B.2.1) (xA X)
def vI (x : Int32) : Option Value := some (.int x)
def vL (x : Int64) : Option Value := some (.long x)
def vD (x : UInt64) : Option Value := some (.double x)
def vV (_ : Unit) : Option Value := none
def vR (x : Nat) : Option Value := some (.ref x)
theorem CM.start {l : Launch} {y : MethodName} {cc : ByteArray} {maxL : Nat} {ret : Option FieldType} {ws ws' : List Cond} {fr lo : Nat} {av : List Value} {α : Type} {val : α → Option Value} {F : MM α} (hfl : l.stackTraces = false) (own : String) (hown : y.cls = own) (hy : plainName y.cls = true) (hw : ws = Cond.code y cc maxL ret :: ws') (hsl : (lg_sl av).length ≤ maxL)
    (body : ∀ (X : VX) (G : GH) (x : α) (Gf : GH), xl X = l → (xme X).name = y.name → (xme X).sig.returnType = ret → F.1 G = some (x, Gf) → V X own cc maxL fr lo ws (G.2.2.1, G.2.2.2, Gf.2.2.1, Gf.2.2.2) (QE X (val x) Gf (G.2.2.1, G.2.2.2, Gf.2.2.1, Gf.2.2.2)) G 0 (lv_args 0 av) []) : CM l y ws fr lo av val F := by
  intro D dA G x Gf hF
  refine Met.ofW (cc := cc) (maxL := maxL) (ret := ret) hy hw ?_
  intro p e s m args below meth c s₁ Bd hml hP
  obtain ⟨rfl, hg, hk, hex, hz⟩ := hP
  have hts := atoms_spec (ws := ws) Bd.pre
  have ho : s.vm.findClass own = some m.cls := hown ▸ findClass_of_methodNamed Bd.named
  rw [lg_entry_eq]
  obtain ⟨X, hX⟩ : ∃ X : VX, X = (p, l, e, (headSpec ws { frames := fr, cells := Gf.2.2.1 - G.2.2.1, slots := Gf.2.2.2 - G.2.2.2, locals := lo }).room, s, m, av.toArray, below, meth, c, D, dA, gA G) := ⟨_, rfl⟩
  have k := body X G x Gf (by rw [hX]) (by rw [hX]; exact (name_of_methodNamed Bd.named Bd.method).1) (by rw [hX]; exact Bd.returns) hF
  have k2 := k (by rw [hX]; exact ⟨Bd.exec, Bd.bytes, hml, ho, hts, Bd.notSynchronized, rfl, rfl, hk, fun q hq => Or.inr (by rw [hg.1]; exact hq), hfl, hex, hz⟩) (by rw [hX]; exact ⟨rfl, rfl, Nat.le_refl _, Nat.le_refl _⟩) s.heap _ [] (by rw [hX]; exact ⟨hg, fun a ha => Or.inl ha, va_S.rf⟩) (lv_entry av hsl)
  rw [hX] at k2
  have e1 : G.2.2.1 - G.2.2.1 = 0 := Nat.sub_self _
  have e2 : G.2.2.2 - G.2.2.2 = 0 := Nat.sub_self _
  rw [e1, e2] at k2
  exact k2
section Vends
variable {X : VX} {own : String} {cc : ByteArray} {nL fr lo : Nat} {Ts : List Cond} {B : VB} {Q : State → Prop} {G : GH} {pc : Nat} {lv : List (Nat × Value)} {st : List Value} {ρ : Type} {R : ρ × GH}
theorem pure_inv {α : Type} {x : α} {R : α × GH} (h : (mpure x).1 G = some R) : R = (x, G) := (Option.some.inj h).symm
theorem gI.q {H : Heap} {locs : List Loc} {t : State} {res : Option Value} (hI : gI X G H locs) (ht : t.heap = H) : cQc (xDD X) (xdA X) res (xA X) G (xa X) (xs X) (.returned res) t := ⟨rfl, by rw [ht]; exact hI.1, hI.2.1, hI.2.2.F ht⟩
theorem v_iret {x x' : Int32} {Gf : GH} (hr : (xme X).sig.returnType = some .int) (hd : decode cc pc = .ok (.ireturn, 1)) (hE : VE B (x', Gf)) (hf : (mpure x).1 G = some (x', Gf)) : V X own cc nL fr lo Ts B (QE X (vI x') Gf B) G pc lv [.int x] := by
  cases pure_inv hf
  intro D Kb H ls locs hI hl
  unfold QE
  rw [hE.1, hE.2]
  exact W.iret D.x D.b hr (fun t ht hW => hI.q ht) hI.2.2.2.2 hd D.lk
theorem v_lret {x x' : Int64} {Gf : GH} (hr : (xme X).sig.returnType = some .long) (hd : decode cc pc = .ok (.lreturn, 1)) (hE : VE B (x', Gf)) (hf : (mpure x).1 G = some (x', Gf)) : V X own cc nL fr lo Ts B (QE X (vL x') Gf B) G pc lv [.long x] := by
  cases pure_inv hf
  intro D Kb H ls locs hI hl
  unfold QE
  rw [hE.1, hE.2]
  exact W.lret D.x D.b hr (fun t ht hW => hI.q ht) hI.2.2.2.2 hd D.lk
theorem v_dret {x x' : UInt64} {Gf : GH} (hr : (xme X).sig.returnType = some .double) (hd : decode cc pc = .ok (.dreturn, 1)) (hE : VE B (x', Gf)) (hf : (mpure x).1 G = some (x', Gf)) : V X own cc nL fr lo Ts B (QE X (vD x') Gf B) G pc lv [.double x] := by
  cases pure_inv hf
  intro D Kb H ls locs hI hl
  unfold QE
  rw [hE.1, hE.2]
  exact W.dret D.x D.b hr (fun t ht hW => hI.q ht) hI.2.2.2.2 hd D.lk
theorem v_vret {Gf : GH} {u : Unit} (hr : (xme X).sig.returnType = none) (hd : decode cc pc = .ok (.return_, 1)) (hE : VE B (u, Gf)) (hf : (mpure ()).1 G = some (u, Gf)) : V X own cc nL fr lo Ts B (QE X (vV u) Gf B) G pc lv [] := by
  cases pure_inv hf
  intro D Kb H ls locs hI hl
  unfold QE
  rw [hE.1, hE.2]
  exact W.vret D.x D.b hr (fun t ht hW => hI.q ht) hI.2.2.2.2 hd D.lk
theorem v_aret {x x' : Nat} {n : String} {Gf : GH} (hr : (xme X).sig.returnType = some (.object n)) (hd : decode cc pc = .ok (.areturn, 1)) (hE : VE B (x', Gf)) (hf : (mpure x).1 G = some (x', Gf)) : V X own cc nL fr lo Ts B (QE X (vR x') Gf B) G pc lv [.ref x] := by
  cases pure_inv hf
  intro D Kb H ls locs hI hl
  unfold QE
  rw [hE.1, hE.2]
  exact W.aret D.x D.b hr (Or.inl ⟨n, rfl⟩) (Or.inr ⟨x, rfl⟩) (fun t ht hW => hI.q ht) hI.2.2.2.2 hd D.lk
theorem zb_ok {x : Int32} (h : x = 0 ∨ x = 1) : narrow .boolean (.int x) = .int x := by rcases h with rfl | rfl <;> decide
theorem v_zret {x x' : Int32} {Gf : GH} (hr : (xme X).sig.returnType = some .boolean) (hd : decode cc pc = .ok (.ireturn, 1)) (hE : VE B (x', Gf)) (hf : (mbind (mbool x) (fun _ => mpure x)).1 G = some (x', Gf)) : V X own cc nL fr lo Ts B (QE X (vI x') Gf B) G pc lv [.int x] := by
  obtain ⟨y, G1, h1, h2⟩ := mbind_inv hf
  obtain ⟨z, h3, h4⟩ := mread_inv h1
  cases h4
  split at h3
  · rename_i hz
    cases pure_inv h2
    intro D Kb H ls locs hI hl
    unfold QE
    rw [hE.1, hE.2]
    exact W.zret D.x D.b hr (zb_ok hz) (fun t ht hW => hI.q ht) hI.2.2.2.2 hd D.lk
  · cases h3
/-! calls -/
theorem gI.sub {H : Heap} {locs : List Loc} (D : VC X own cc nL fr lo Ts) (hI : gI X G H locs) : ∀ q, gA G q → (xA X) q := fun q h => by
  rcases h with h | h
  · exact hI.2.1 q h
  · exact D.a q (Nat.le_trans hI.2.2.1 (by rw [← hI.1.1]; exact h))
theorem gI.pre {H : Heap} {locs : List Loc} {av : List Value} {U : State} (D : VC X own cc nL fr lo Ts) (hI : gI X G H locs) (hU : U.heap = H) (hW : (xs X).WarmedH U.vm) : cPc (xDD X) (xdA X) av G av.toArray U :=
  ⟨rfl, by rw [hU]; exact hI.1, va_K.moved hW.alike D.k, EX.warm hW D.ex, by
    rw [hU]
    exact XZ.moved hW.alike ((D.z.kept hI.2.2.2.1).narrow (hI.sub D))⟩
theorem v_after {lv : List (Nat × Value)} {st0 : List Value} {res : Option Value} {G1 : GH} {a : Array Value} {H : Heap} {ls : Array Slot} {locs : List Loc} (D : VC X own cc nL fr lo Ts) (Kb : VK X B G) (hI : gI X G H locs) (hl : lv_has ls nL lv) (hle : gle G G1)
    (hr : va_Run (xp X) (xl X) (xe X) (xR X) (xs X) (xm X) (xa X) (xb X) (xme X) (xc X) H locs (G.2.2.1 - B.1) (G.2.2.2 - B.2.1) (G1.2.2.1 - G.2.2.1) (G1.2.2.2 - G.2.2.2) (F0 (xm X) pc ls st0) st (cQc (xDD X) (xdA X) res (gA G) G1 a) (gA G))
    (kk : V X own cc nL fr lo Ts B Q G1 (pc + 3) lv (res.toList ++ st)) : W (xp X) (xl X) (xe X) (xR X) (xs X) (xm X) (xa X) (xb X) (xme X) (xc X) H locs (G.2.2.1 - B.1) (G.2.2.2 - B.2.1) Q (F0 (xm X) pc ls st0) := by
  intro T hT XS
  obtain ⟨v, st₀, t, T', L, h0, X', hL, e1, e2, ⟨hv, hp, hdom, hz, hk⟩, stp⟩ := hr T hT XS
  cases hv
  rw [h0] at hz hk
  have hsub := hI.sub D
  have hI1 : gI X G1 T'.heap (locs ++ L) := ⟨by rw [e1]; exact hp, fun a ha => hsub a (hdom a ha), Nat.le_trans hI.2.2.1 (by rw [e1]; exact hz), fun q h1 h2 => by rw [e1, hk q (Nat.lt_of_lt_of_le h1 hI.2.2.1) (fun z => h2 (hsub q z))]; exact hI.2.2.2.1 q h1 h2, fun q hq => by
    rcases List.mem_append.mp hq with h | h
    · exact hI.2.2.2.2 q h
    · exact hsub _ (hL q h)⟩
  obtain ⟨k1, k2, k3, k4⟩ := Kb
  obtain ⟨g0, g1, g2⟩ := hle
  have c1 : G.2.2.1 - B.1 + (G1.2.2.1 - G.2.2.1) = G1.2.2.1 - B.1 := by omega
  have c2 : G.2.2.2 - B.2.1 + (G1.2.2.2 - G.2.2.2) = G1.2.2.2 - B.2.1 := by omega
  rw [c1, c2] at X'
  obtain ⟨t2, a1, b1⟩ := kk D ⟨k1, k2, Nat.le_trans k3 g1, Nat.le_trans k4 g2⟩ T'.heap ls (locs ++ L) hI1 hl T' rfl X'
  exact ⟨t2, stp t2 a1, b1⟩
theorem call_inv {α : Type} {F : MM α} {K : α → MM ρ} (Kb : VK X B G) (hE : VE B R) (hf : (mbind F K).1 G = some R) : ∃ x G1, F.1 G = some (x, G1) ∧ (K x).1 G1 = some R ∧ gle G G1 ∧ (G.2.2.1 - B.1) + (G1.2.2.1 - G.2.2.1) ≤ (xR X).cells ∧ (G.2.2.2 - B.2.1) + (G1.2.2.2 - G.2.2.2) ≤ (xR X).slots := by
  obtain ⟨x, G1, h1, h2⟩ := mbind_inv hf
  obtain ⟨g0, g1, g2⟩ := F.2 _ _ _ h1
  obtain ⟨f0, f1, f2⟩ := (K x).2 _ _ _ h2
  obtain ⟨k1, k2, k3, k4⟩ := Kb
  obtain ⟨e1, e2⟩ := hE
  exact ⟨x, G1, h1, h2, ⟨g0, g1, g2⟩, by rw [k1, e1]; omega, by rw [k2, e2]; omega⟩
theorem chk_inv {b ci : Nat} {K : Unit → MM ρ} (hf : (mbind (mchk b ci) K).1 G = some R) : ∃ fs, G.1 b = some (.inr (ci, fs)) ∧ (K ()).1 G = some R := by
  obtain ⟨x, G1, h1, h2⟩ := mbind_inv hf
  obtain ⟨y, h3, h4⟩ := mread_inv h1
  cases h4
  obtain ⟨fs, h5, -⟩ := Option.map_eq_some_iff.mp h3
  exact ⟨fs, gobj_inv h5, h2⟩
theorem v_callV {α : Type} {F : MM α} {K : α → MM ρ} {val : α → Option Value} {y : MethodName} {ws ws' : List Cond} {bytes : ByteArray} {maxL : Nat} {ret : Option FieldType} {fr' lo' index b : Nat} {C : String} {T : u_T} {N : Nat} {st0 : List Value} (ci n : Nat) (As : List Value)
    (hM : CM (xl X) y ws fr' lo' (.ref b :: As) val F) (hG : GoodIn Ts (wsV own index C y ws)) (hw : ws = Cond.code y bytes maxL ret :: ws') (hdd : y.cls = C ∧ y.cls ≠ "java/lang/invoke/MethodHandle" ∧ y.cls ≠ "java/lang/invoke/VarHandle" ∧ (parseMethodDescriptor y.desc).map (fun d => d.parameters.length) = some n) (hfr : fr' + 1 ≤ fr) (hlo : 8 + (maxL + 11) + lo' ≤ lo) (hn : As.length = n) (hc : vwCl[ci]? = some (C, T, N)) (hd : decode cc pc = .ok (.invokevirtual index, 3)) (hst : (st.map fun v => v.category).sum ≤ 8) (hst0 : st0 = As.reverse ++ .ref b :: st) (hE : VE B R) (hf : (mbind (mchk b ci) (fun _ => mbind F K)).1 G = some R)
    (kk : ∀ x G1, (K x).1 G1 = some R → V X own cc nL fr lo Ts B Q G1 (pc + 3) lv ((val x).toList ++ st)) : V X own cc nL fr lo Ts B Q G pc lv st0 := by
  intro D Kb H ls locs hI hl
  obtain ⟨fs, hb, hf⟩ := chk_inv hf
  obtain ⟨x, G1, h1, h2, hle, r1, r2⟩ := call_inv Kb hE hf
  obtain ⟨k0, hk0⟩ := hI.cell hb
  exact v_after D Kb hI hl hle (va_runV (As := As) (rest := st) ⟨D.x, D.b, D.ml, D.ow, D.ts⟩ (hM _ _ _ _ _ h1) (cwV n D.ts hG hw rfl rfl hdd ⟨by rw [D.rf]; exact hfr, by rw [D.rl]; exact hlo⟩) ⟨cPc_blind _ _ _ _, va_recv D.k hI.1.2.1 (ci := ci) (q0 := k0) hc hk0, fun U hU hW => hI.pre D hU hW⟩ rfl hn hl.1 hst0 (lv_room hst) hd ⟨r1, r2⟩) (kk x G1 h2)
theorem v_callS {α : Type} {F : MM α} {K : α → MM ρ} {val : α → Option Value} {y : MethodName} {ws ws' : List Cond} {bytes : ByteArray} {maxL : Nat} {ret : Option FieldType} {fr' lo' index : Nat} {st0 : List Value} (n : Nat) (As : List Value)
    (hM : CM (xl X) y ws fr' lo' As val F) (hG : GoodIn Ts (va_wsS own index y ws)) (hw : ws = Cond.code y bytes maxL ret :: ws') (hdd : y.cls ≠ "java/lang/invoke/MethodHandle" ∧ y.cls ≠ "java/lang/invoke/VarHandle" ∧ (parseMethodDescriptor y.desc).map (fun d => d.parameters.length) = some n) (hfr : fr' + 1 ≤ fr) (hlo : 8 + (maxL + 11) + lo' ≤ lo) (hn : As.length = n) (hd : decode cc pc = .ok (.invokestatic index, 3)) (hst : (st.map fun v => v.category).sum ≤ 8) (hst0 : st0 = As.reverse ++ st) (hE : VE B R) (hf : (mbind F K).1 G = some R)
    (kk : ∀ x G1, (K x).1 G1 = some R → V X own cc nL fr lo Ts B Q G1 (pc + 3) lv ((val x).toList ++ st)) : V X own cc nL fr lo Ts B Q G pc lv st0 := by
  intro D Kb H ls locs hI hl
  obtain ⟨x, G1, h1, h2, hle, r1, r2⟩ := call_inv Kb hE hf
  exact v_after D Kb hI hl hle (va_runS (As := As) (rest := st) ⟨D.x, D.b, D.ml, D.ow, D.ts⟩ (hM _ _ _ _ _ h1) (va_cwS n D.ts hG hw rfl rfl hdd ⟨by rw [D.rf]; exact hfr, by rw [D.rl]; exact hlo⟩) ⟨cPc_blind _ _ _ _, fun U hU hW => hI.pre D hU hW⟩ rfl hn hl.1 hst0 (lv_room hst) hd ⟨r1, r2⟩) (kk x G1 h2)
theorem v_callN {α : Type} {F : MM α} {K : α → MM ρ} {val : α → Option Value} {y : MethodName} {host : String} {ws ws' : List Cond} {bytes : ByteArray} {maxL : Nat} {ret : Option FieldType} {fr' lo' index : Nat} {st0 : List Value} (n : Nat) (As : List Value)
    (hM : CM (xl X) y ws fr' lo' As val F) (hG : GoodIn Ts ws) (hnest : (own, index, y, host) ∈ nests) (hini : Cond.initialized y.cls ∈ Ts) (hstat : Cond.static y ∈ Ts) (hw : ws = Cond.code y bytes maxL ret :: ws') (hdd : y.cls ≠ "java/lang/invoke/MethodHandle" ∧ y.cls ≠ "java/lang/invoke/VarHandle" ∧ (parseMethodDescriptor y.desc).map (fun d => d.parameters.length) = some n) (hfr : fr' + 1 ≤ fr) (hlo : 8 + (maxL + 11) + lo' ≤ lo) (hn : As.length = n) (hd : decode cc pc = .ok (.invokestatic index, 3)) (hst : (st.map fun v => v.category).sum ≤ 8) (hst0 : st0 = As.reverse ++ st) (hE : VE B R) (hf : (mbind F K).1 G = some R)
    (kk : ∀ x G1, (K x).1 G1 = some R → V X own cc nL fr lo Ts B Q G1 (pc + 3) lv ((val x).toList ++ st)) : V X own cc nL fr lo Ts B Q G pc lv st0 := by
  intro D Kb H ls locs hI hl
  obtain ⟨x, G1, h1, h2, hle, r1, r2⟩ := call_inv Kb hE hf
  exact v_after D Kb hI hl hle (va_runSN (As := As) (rest := st) ⟨D.x, D.b, D.ml, D.ow, D.ts⟩ (hM _ _ _ _ _ h1) ⟨va_cnB n D.ts hG hw rfl rfl (D.ex.1 _ hnest) (D.ts _ hini) hdd ⟨by rw [D.rf]; exact hfr, by rw [D.rl]; exact hlo⟩, D.ts _ hstat, trivial⟩ ⟨cPc_blind _ _ _ _, fun U hU hW => hI.pre D hU hW⟩ rfl hn hl.1 hst0 (lv_room hst) hd ⟨r1, r2⟩) (kk x G1 h2)
theorem v_callI {F : MM Unit} {K : Unit → MM ρ} {y : MethodName} {ws ws' : List Cond} {bytes : ByteArray} {maxL : Nat} {fr' lo' index b : Nat} {st0 : List Value} (n : Nat) (As : List Value)
    (hM : CM (xl X) y ws fr' lo' (.ref b :: As) vV F) (hG : GoodIn Ts ws) (hw : ws = Cond.code y bytes maxL none :: ws') (hini : Cond.initialized y.cls ∈ Ts) (hlk : Cond.methodLink own index y ∈ Ts) (hinst : Cond.instanceMethod y ∈ Ts) (hy1 : y.name = "<init>") (hdd : y.cls ≠ "java/lang/invoke/MethodHandle" ∧ y.cls ≠ "java/lang/invoke/VarHandle" ∧ (parseMethodDescriptor y.desc).map (fun d => d.parameters.length) = some n) (hfr : fr' + 1 ≤ fr) (hlo : 8 + (maxL + 11) + lo' ≤ lo) (hn : As.length = n) (hd : decode cc pc = .ok (.invokespecial index, 3)) (hst : (st.map fun v => v.category).sum ≤ 8) (hst0 : st0 = As.reverse ++ .ref b :: st) (hE : VE B R) (hf : (mbind F K).1 G = some R)
    (kk : ∀ G1, (K ()).1 G1 = some R → V X own cc nL fr lo Ts B Q G1 (pc + 3) lv st) : V X own cc nL fr lo Ts B Q G pc lv st0 := by
  intro D Kb H ls locs hI hl
  obtain ⟨x, G1, h1, h2, hle, r1, r2⟩ := call_inv Kb hE hf
  exact v_after D Kb hI hl hle (va_runI (As := As) (rest := st) ⟨D.x, D.b, D.ml, D.ow, D.ts⟩ (hM _ _ _ _ _ h1) (cwI n D.ts hG hw rfl rfl (D.ts _ hini) (D.ts _ hlk) (D.ts _ hinst) hy1 hdd ⟨by rw [D.rf]; exact hfr, by rw [D.rl]; exact hlo⟩) ⟨cPc_blind _ _ _ _, fun U hU hW => hI.pre D hU hW⟩ rfl hn hl.1 hst0 (lv_room hst) hd ⟨r1, r2⟩) (kk G1 h2)
end Vends
