/-! PART 18: methods that may throw. -/
def xmap {α : Type} (val : α → Option Value) (r : String ⊕ α) : String ⊕ Option Value := match r with
  | .inl E => .inl E
  | .inr a => .inr (val a)
def cXq (D : va_G) (dA : Nat → ClassId) (r : String ⊕ Option Value) (A : Nat → Prop) (Gf : GH) : Array Value → State → Outcome → State → Prop := fun a st o t => ∃ v, r = .inr v ∧ cQc D dA v A Gf a st o t
/-- thrown: the map is that of the program's end; the heap may be longer -/
def cXc (D : va_G) (dA : Nat → ClassId) (r : String ⊕ Option Value) (A : Nat → Prop) (Gf : GH) : String → State → State → Prop := fun E st t => r = .inl E ∧ (∃ n, gP D dA (Gf.1, n, Gf.2.2) t.heap) ∧ (∀ a, Gf.1 a ≠ none → A a) ∧ va_F A st t
def CX (l : Launch) (y : MethodName) (ws : List Cond) (fr lo : Nat) (av : List Value) {α : Type} (val : α → Option Value) (F : MX α) : Prop :=
  ∀ (D : va_G) (dA : Nat → ClassId) (G : GH) (z : String ⊕ α) (Gf : GH), F.1 G = some (z, Gf) → vx_Met l y ws { frames := fr, cells := Gf.2.2.1 - G.2.2.1, slots := Gf.2.2.2 - G.2.2.2, locals := lo } (cPc D dA av G) (cXq D dA (xmap val z) (gA G) Gf) (cXc D dA (xmap val z) (gA G) Gf) (Gf.2.2.1 - G.2.2.1) (Gf.2.2.2 - G.2.2.2) (gA G)
def XQ (X : VX) (r : String ⊕ Option Value) (Gf : GH) (B : VB) : State → Prop := vx_MQ (xb X) (cXq (xDD X) (xdA X) r (xA X) Gf) (cXc (xDD X) (xdA X) r (xA X) Gf) (xa X) (xs X) (B.2.2.1 - B.1) (B.2.2.2 - B.2.1) (xA X)
theorem CX.start {l : Launch} {y : MethodName} {cc : ByteArray} {maxL : Nat} {ret : Option FieldType} {ws ws' : List Cond} {fr lo : Nat} {av : List Value} {α : Type} {val : α → Option Value} {F : MX α} (hfl : l.stackTraces = false) (own : String) (hown : y.cls = own) (hy : plainName y.cls = true) (hw : ws = Cond.code y cc maxL ret :: ws') (hsl : (lg_sl av).length ≤ maxL)
    (body : ∀ (X : VX) (G : GH) (z : String ⊕ α) (Gf : GH), xl X = l → (∀ x ∈ (xc X).exceptionTable.toList, False) → (xme X).sig.returnType = ret → F.1 G = some (z, Gf) → V X own cc maxL fr lo ws (G.2.2.1, G.2.2.2, Gf.2.2.1, Gf.2.2.2) (XQ X (xmap val z) Gf (G.2.2.1, G.2.2.2, Gf.2.2.1, Gf.2.2.2)) G 0 (lv_args 0 av) []) : CX l y ws fr lo av val F := by
  intro D dA G x Gf hF
  refine vx_ofW (cc := cc) (maxL := maxL) (ret := ret) hy hw ?_
  intro p e s m args below meth c s₁ Bd hml htb hP
  obtain ⟨rfl, hg, hk, hex, hz⟩ := hP
  have hts := atoms_spec (ws := ws) Bd.pre
  have ho : s.vm.findClass own = some m.cls := hown ▸ findClass_of_methodNamed Bd.named
  rw [lg_entry_eq]
  obtain ⟨X, hX⟩ : ∃ X : VX, X = (p, l, e, (headSpec ws { frames := fr, cells := Gf.2.2.1 - G.2.2.1, slots := Gf.2.2.2 - G.2.2.2, locals := lo }).room, s, m, av.toArray, below, meth, c, D, dA, gA G) := ⟨_, rfl⟩
  have k := body X G x Gf (by rw [hX]) (by rw [hX]; exact htb) (by rw [hX]; exact Bd.returns) hF
  have k2 := k (by rw [hX]; exact ⟨Bd.exec, Bd.bytes, hml, ho, hts, Bd.notSynchronized, rfl, rfl, hk, fun q hq => Or.inr (by rw [hg.1]; exact hq), hfl, hex, hz⟩) (by rw [hX]; exact ⟨rfl, rfl, Nat.le_refl _, Nat.le_refl _⟩) s.heap _ [] (by rw [hX]; exact ⟨hg, fun a ha => Or.inl ha, va_S.rf⟩) (lv_entry av hsl)
  rw [hX] at k2
  have e1 : G.2.2.1 - G.2.2.1 = 0 := Nat.sub_self _
  have e2 : G.2.2.2 - G.2.2.2 = 0 := Nat.sub_self _
  rw [e1, e2] at k2
  exact k2
/-- a longer heap that keeps the cells -/
theorem gP.longer {D : va_G} {dA : Nat → ClassId} {G : GH} {H H1 : Heap} {c s : Nat} (h : gP D dA G H) (hq : ∀ q : Nat, q < H.size → H1[q]? = H[q]?) (hz : H.size ≤ H1.size) : gP D dA (G.1, H1.size, c, s) H1 := by
  refine ⟨rfl, fun k q hk => ?_, fun a ha => ?_⟩
  · obtain ⟨hm, e, h1, h2⟩ := gLl_mem (List.mem_of_getElem? hk)
    have hlt := h.2.2 q.1 (by rw [h1]; exact fun z => by cases z)
    obtain ⟨k0, hk0⟩ := gL_get (dA := dA) hlt h1
    have h3 := h.2.1 k0 _ hk0
    rw [← h2] at h3
    exact h3.kept (hq q.1 (by rw [← h.1]; exact hlt))
  · have := h.2.2 a ha
    have e := h.1
    show a < H1.size
    omega
section Vthrow
variable {X : VX} {own : String} {cc : ByteArray} {nL fr lo : Nat} {Ts : List Cond} {B : VB} {Q : State → Prop} {G : GH} {pc : Nat} {lv : List (Nat × Value)} {st : List Value}
theorem v_xiret {x : Int32} {z : String ⊕ Int32} {Gf : GH} (hr : (xme X).sig.returnType = some .int) (hd : decode cc pc = .ok (.ireturn, 1)) (hE : VE B (z, Gf)) (hf : (mpure (.inr x)).1 G = some (z, Gf)) : V X own cc nL fr lo Ts B (XQ X (xmap vI z) Gf B) G pc lv [.int x] := by
  cases pure_inv hf
  intro D Kb H ls locs hI hl
  unfold XQ
  rw [hE.1, hE.2]
  exact vx_ret (W.iret D.x D.b hr (fun t ht hW => ⟨vI x, rfl, hI.q ht⟩) hI.2.2.2.2 hd D.lk)
theorem v_xdret {x : UInt64} {z : String ⊕ UInt64} {Gf : GH} (hr : (xme X).sig.returnType = some .double) (hd : decode cc pc = .ok (.dreturn, 1)) (hE : VE B (z, Gf)) (hf : (mpure (.inr x)).1 G = some (z, Gf)) : V X own cc nL fr lo Ts B (XQ X (xmap vD z) Gf B) G pc lv [.double x] := by
  cases pure_inv hf
  intro D Kb H ls locs hI hl
  unfold XQ
  rw [hE.1, hE.2]
  exact vx_ret (W.dret D.x D.b hr (fun t ht hW => ⟨vD x, rfl, hI.q ht⟩) hI.2.2.2.2 hd D.lk)
theorem v_xvret {z : String ⊕ Unit} {Gf : GH} (hr : (xme X).sig.returnType = none) (hd : decode cc pc = .ok (.return_, 1)) (hE : VE B (z, Gf)) (hf : (mpure (.inr ())).1 G = some (z, Gf)) : V X own cc nL fr lo Ts B (XQ X (xmap vV z) Gf B) G pc lv [] := by
  cases pure_inv hf
  intro D Kb H ls locs hI hl
  unfold XQ
  rw [hE.1, hE.2]
  exact vx_ret (W.vret D.x D.b hr (fun t ht hW => ⟨vV (), rfl, hI.q ht⟩) hI.2.2.2.2 hd D.lk)
theorem v_xzret {x : Int32} {z : String ⊕ Int32} {Gf : GH} (hr : (xme X).sig.returnType = some .boolean) (hd : decode cc pc = .ok (.ireturn, 1)) (hE : VE B (z, Gf)) (hf : (mbind (mbool x) (fun _ => mpure (.inr x))).1 G = some (z, Gf)) : V X own cc nL fr lo Ts B (XQ X (xmap vI z) Gf B) G pc lv [.int x] := by
  obtain ⟨y, G1, h1, h2⟩ := mbind_inv hf
  obtain ⟨z9, h3, h4⟩ := mread_inv h1
  cases h4
  split at h3
  · rename_i hz
    cases pure_inv h2
    intro D Kb H ls locs hI hl
    unfold XQ
    rw [hE.1, hE.2]
    exact vx_ret (W.zret D.x D.b hr (zb_ok hz) (fun t ht hW => ⟨vI x, rfl, hI.q ht⟩) hI.2.2.2.2 hd D.lk)
  · cases h3
theorem v_throw {is ic ik : Nat} {text cls : String} {names : List String} {α : Type} {val : α → Option Value} {z : String ⊕ α} {Gf : GH} (ho : own = RX4) (hn : ∀ x ∈ (xc X).exceptionTable.toList, False) (hk : Cond.classLink own ik cls ∈ Ts) (hini : Cond.initialized cls ∈ Ts) (hat : ∀ w ∈ (vx_atS own ic cls names).filter goodWord, w ∈ Ts) (hng : ∀ w ∈ (vx_atS own ic cls names).filter (fun w => !goodWord w), w ∈ ngw) (hgood : (Cond.classLink own ik cls :: Cond.initialized cls :: vx_atS own ic cls names).all vx_ot = true) (hcls : Bundle.fit cls = true) (hnames : names.all Bundle.fit = true) (hstr : (is, text) ∈ strs)
    (d0 : decode cc pc = .ok (.new ik, 3)) (d3 : decode cc (pc + 3) = .ok (.dup, 1)) (d4 : decode cc (pc + 4) = .ok (.ldc is, 2)) (d6 : decode cc (pc + 6) = .ok (.invokespecial ic, 3)) (d9 : decode cc (pc + 9) = .ok (.athrow, 1)) (hfr : names.length + 3 < fr) (hlo : (st.map fun v => v.category).sum + (13 * (names.length + 1) + 43) ≤ lo) (hE : VE B (z, Gf)) (hf : (mthrow cls : MX α).1 G = some (z, Gf)) : V X own cc nL fr lo Ts B (XQ X (xmap val z) Gf B) G pc lv st := by
  have hf' : (some (Sum.inl cls, (G.1, G.2.1 + 1, G.2.2.1 + 1, G.2.2.2 + 6)) : Option ((String ⊕ α) × GH)) = some (z, Gf) := hf
  cases hf'
  intro D Kb H ls locs hI hl
  obtain ⟨sa, hsa⟩ := D.ex.2.2.2.1 (is, text) hstr
  have hat' : ∀ w ∈ vx_atS own ic cls names, w.before (xa X) (xs X) = true := vx_hat (B := ngw) (fun w hw => D.ts w (hat w hw)) hng (fun w hw => by
    have hw2 := D.ex.2.2.2.2 w hw
    rcases List.mem_append.mp hw with hm | hm
    · obtain ⟨q, -, rfl⟩ := List.mem_map.mp hm
      exact va_Nw.use rfl hw2
    · obtain ⟨q, -, rfl⟩ := List.mem_map.mp hm
      exact va_Nw.use rfl hw2)
  obtain ⟨k1, k2, k3, k4⟩ := Kb
  obtain ⟨e1, e2⟩ := hE
  dsimp only at e1 e2
  unfold XQ
  refine vx_throwS D.x D.b D.fl D.ow hcls (fun n hn => List.all_eq_true.mp hnames n hn) (D.ts _ hk) (D.ts _ hini) (by rw [ho]; exact hsa) hat' (fun w hw => List.all_eq_true.mp hgood w hw) D.z.1 D.z.2 hI.2.2 (by rw [hl.1, D.ml]) d0 d3 d4 d6 d9 (fun x hx => (hn x hx).elim) (by rw [D.rf]; exact hfr) (by rw [D.rl]; exact hlo) (by rw [k1, e1]; omega) (by rw [k2, e2]; omega) D.lk ?_ hI.2.2.2.2 (by rw [e1]; omega) (by rw [e2]; omega)
  intro t ht hz hq
  exact ⟨rfl, ⟨t.heap.size, hI.1.longer hq hz⟩, hI.2.1, Nat.le_trans hI.2.2.1 hz, fun q h1 h2 => (hq q (Nat.lt_of_lt_of_le h1 hI.2.2.1)).trans (hI.2.2.2.1 q h1 h2)⟩
theorem v_xafter {lv : List (Nat × Value)} {st0 : List Value} {r : String ⊕ Option Value} {G1 : GH} {a : Array Value} {H : Heap} {ls : Array Slot} {locs : List Loc} (hn : ∀ x ∈ (xc X).exceptionTable.toList, False) (D : VC X own cc nL fr lo Ts) (Kb : VK X B G) (hI : gI X G H locs) (hl : lv_has ls nL lv) (hle : gle G G1)
    (hr : vx_Run (xp X) (xl X) (xe X) (xR X) (xs X) (xm X) (xa X) (xb X) (xme X) (xc X) H locs (G.2.2.1 - B.1) (G.2.2.2 - B.2.1) (G1.2.2.1 - G.2.2.1) (G1.2.2.2 - G.2.2.2) (F0 (xm X) pc ls st0) st (cXq (xDD X) (xdA X) r (gA G) G1 a) (cXc (xDD X) (xdA X) r (gA G) G1) (gA G))
    (kn : ∀ v, r = .inr v → V X own cc nL fr lo Ts B Q G1 (pc + 3) lv (v.toList ++ st)) (ke : ∀ E, r = .inl E → Q = XQ X (.inl E) G1 B ∧ B.2.2.1 = G1.2.2.1 ∧ B.2.2.2 = G1.2.2.2) : W (xp X) (xl X) (xe X) (xR X) (xs X) (xm X) (xa X) (xb X) (xme X) (xc X) H locs (G.2.2.1 - B.1) (G.2.2.2 - B.2.1) Q (F0 (xm X) pc ls st0) := by
  intro T hT XS
  have hsub := hI.sub D
  obtain ⟨k1, k2, k3, k4⟩ := Kb
  obtain ⟨g0, g1, g2⟩ := hle
  have c1 : G.2.2.1 - B.1 + (G1.2.2.1 - G.2.2.1) = G1.2.2.1 - B.1 := by omega
  have c2 : G.2.2.2 - B.2.1 + (G1.2.2.2 - G.2.2.2) = G1.2.2.2 - B.2.1 := by omega
  rcases hr T hT XS with ⟨v, st₀, t, T', L, h0, X', hL, e1, e2, ⟨v', hrv, hv, hp, hdom, hz, hk⟩, stp⟩ | ⟨q, st₀, t, T', L, E, ce, h0, X', hL, e1, e2, ⟨hrE, ⟨n9, hp⟩, hdom, hz, hk⟩, hce, hcv, hcl, stp⟩
  · cases hv
    rw [h0] at hz hk
    have hI1 : gI X G1 T'.heap (locs ++ L) := ⟨by rw [e1]; exact hp, fun a ha => hsub a (hdom a ha), Nat.le_trans hI.2.2.1 (by rw [e1]; exact hz), fun q h1 h2 => by rw [e1, hk q (Nat.lt_of_lt_of_le h1 hI.2.2.1) (fun z => h2 (hsub q z))]; exact hI.2.2.2.1 q h1 h2, fun q hq => by
      rcases List.mem_append.mp hq with h | h
      · exact hI.2.2.2.2 q h
      · exact hsub _ (hL q h)⟩
    rw [c1, c2] at X'
    obtain ⟨t2, a1, b1⟩ := kn v hrv D ⟨k1, k2, Nat.le_trans k3 g1, Nat.le_trans k4 g2⟩ T'.heap ls (locs ++ L) hI1 hl T' rfl X'
    exact ⟨t2, stp t2 a1, b1⟩
  · obtain ⟨hQ, b1, b2⟩ := ke E hrE
    subst hQ
    rw [h0] at hz hk
    rw [c1, c2] at X'
    have hlocs : ∀ z ∈ locs ++ L, (xA X) z.base := fun z hz => by
      rcases List.mem_append.mp hz with h | h
      · exact hI.2.2.2.2 z h
      · exact hsub _ (hL z h)
    have hx : ∀ t9 : State, t9.heap = T'.heap → (xs X).vm.Alike t9.vm → cXc (xDD X) (xdA X) (.inl E) (xA X) G1 E (xs X) t9 := fun t9 ht9 _ => ⟨rfl, ⟨n9, by rw [ht9, e1]; exact hp⟩, fun a ha => hsub a (hdom a ha), by rw [ht9, e1]; exact Nat.le_trans hI.2.2.1 hz, fun q h1 h2 => by rw [ht9, e1, hk q (Nat.lt_of_lt_of_le h1 hI.2.2.1) (fun z => h2 (hsub q z))]; exact hI.2.2.2.1 q h1 h2⟩
    have o := vx_out (p := xp X) (l := xl X) (e := xe X) (R := xR X) (s := xs X) (m := xm X) (args := xa X) (below := xb X) (meth := xme X) (c := xc X) (H := T'.heap) (locs := locs ++ L) (cells := G1.2.2.1 - B.1) (slots := G1.2.2.2 - B.2.1) (ls := ls) (rest := st) (Qc := cXq (xDD X) (xdA X) (.inl E) (xA X) G1) (XC := cXc (xDD X) (xdA X) (.inl E) (xA X) G1) (free := xA X) (pc := pc) (E := E) (ce := ce) (q := q) (mc := B.2.2.1 - B.1) (ms := B.2.2.2 - B.2.1) (fun x hx => (hn x hx).elim) D.lk (by rw [e1]; exact hce) hcv hcl hx hlocs (by rw [b1]; exact Nat.le_refl _) (by rw [b2]; exact Nat.le_refl _)
    obtain ⟨t2, a1, b9⟩ := o T' rfl X'
    exact ⟨t2, stp.trans a1, b9⟩
theorem xcall_inv {α β : Type} {F : MX α} {K : α → MX β} {z : String ⊕ β} {Gf : GH} (Kb : VK X B G) (hE : VE B (z, Gf)) (hf : (xbind F K).1 G = some (z, Gf)) : ∃ r G1, F.1 G = some (r, G1) ∧ gle G G1 ∧ (G.2.2.1 - B.1) + (G1.2.2.1 - G.2.2.1) ≤ (xR X).cells ∧ (G.2.2.2 - B.2.1) + (G1.2.2.2 - G.2.2.2) ≤ (xR X).slots ∧ ((∃ E, r = .inl E ∧ z = .inl E ∧ Gf = G1) ∨ ∃ x, r = .inr x ∧ (K x).1 G1 = some (z, Gf)) := by
  obtain ⟨k1, k2, k3, k4⟩ := Kb
  obtain ⟨e1, e2⟩ := hE
  rcases xbind_inv hf with ⟨E, G1, h1, h2⟩ | ⟨x, G1, h1, h2⟩
  · cases h2
    obtain ⟨g0, g1, g2⟩ := F.2 _ _ _ h1
    dsimp only at e1 e2
    exact ⟨_, _, h1, ⟨g0, g1, g2⟩, by rw [k1, e1]; omega, by rw [k2, e2]; omega, Or.inl ⟨E, rfl, rfl, rfl⟩⟩
  · obtain ⟨g0, g1, g2⟩ := F.2 _ _ _ h1
    obtain ⟨f0, f1, f2⟩ := (K x).2 _ _ _ h2
    dsimp only at e1 e2
    exact ⟨_, _, h1, ⟨g0, g1, g2⟩, by rw [k1, e1]; omega, by rw [k2, e2]; omega, Or.inr ⟨x, rfl, h2⟩⟩
theorem v_xcallVv {β : Type} {vb : β → Option Value} {F : MX Unit} {K : Unit → MX β} {z : String ⊕ β} {Gf : GH} {y : MethodName} {ws ws' : List Cond} {bytes : ByteArray} {maxL : Nat} {ret : Option FieldType} {fr' lo' index b : Nat} {C : String} {T : u_T} {N : Nat} {st0 : List Value} (hn0 : ∀ x ∈ (xc X).exceptionTable.toList, False) (ci n : Nat) (As : List Value)
    (hM : CX (xl X) y ws fr' lo' (.ref b :: As) vV F) (hG : GoodIn Ts (wsV own index C y ws)) (hw : ws = Cond.code y bytes maxL ret :: ws') (hdd : y.cls = C ∧ y.cls ≠ "java/lang/invoke/MethodHandle" ∧ y.cls ≠ "java/lang/invoke/VarHandle" ∧ (parseMethodDescriptor y.desc).map (fun d => d.parameters.length) = some n) (hfr : fr' + 1 ≤ fr) (hlo : 8 + (maxL + 11) + lo' ≤ lo) (hn : As.length = n) (hc : vwCl[ci]? = some (C, T, N)) (hd : decode cc pc = .ok (.invokevirtual index, 3)) (hst : (st.map fun v => v.category).sum ≤ 8) (hst0 : st0 = As.reverse ++ .ref b :: st) (hE : VE B (z, Gf)) (hf : (mbind (mchk b ci) (fun _ => xbind F K)).1 G = some (z, Gf))
    (kk : ∀ (x : Unit) (G1 : GH), (K x).1 G1 = some (z, Gf) → V X own cc nL fr lo Ts B (XQ X (xmap vb z) Gf B) G1 (pc + 3) lv st) : V X own cc nL fr lo Ts B (XQ X (xmap vb z) Gf B) G pc lv st0 := by
  intro D Kb H ls locs hI hl
  obtain ⟨fs, hb, hf⟩ := chk_inv hf
  obtain ⟨r, G1, h1, hle, r1, r2, hz⟩ := xcall_inv Kb hE hf
  obtain ⟨k0, hk0⟩ := hI.cell hb
  refine v_xafter (r := xmap vV r) hn0 D Kb hI hl hle (vx_runV (As := As) (rest := st) ⟨D.x, D.b, D.ml, D.ow, D.ts⟩ (hM _ _ _ _ _ h1) (cwV n D.ts hG hw rfl rfl hdd ⟨by rw [D.rf]; exact hfr, by rw [D.rl]; exact hlo⟩) ⟨cPc_blind _ _ _ _, va_recv D.k hI.1.2.1 (ci := ci) (q0 := k0) hc hk0, fun U hU hW => hI.pre D hU hW⟩ rfl hn hl.1 hst0 (lv_room hst) hd ⟨r1, r2⟩) (fun v hv => ?_) (fun E hv => ?_)
  · rcases hz with ⟨E, rfl, -, -⟩ | ⟨x, rfl, h2⟩
    · cases hv
    · cases hv
      exact kk x G1 h2
  · rcases hz with ⟨E', rfl, rfl, rfl⟩ | ⟨x, rfl, h2⟩
    · cases hv
      exact ⟨rfl, hE.1, hE.2⟩
    · cases hv
theorem v_xcallSv {β : Type} {vb : β → Option Value} {F : MX Unit} {K : Unit → MX β} {z : String ⊕ β} {Gf : GH} {y : MethodName} {ws ws' : List Cond} {bytes : ByteArray} {maxL : Nat} {ret : Option FieldType} {fr' lo' index : Nat} {st0 : List Value} (hn0 : ∀ x ∈ (xc X).exceptionTable.toList, False) (n : Nat) (As : List Value)
    (hM : CX (xl X) y ws fr' lo' As vV F) (hG : GoodIn Ts (va_wsS own index y ws)) (hw : ws = Cond.code y bytes maxL ret :: ws') (hdd : y.cls ≠ "java/lang/invoke/MethodHandle" ∧ y.cls ≠ "java/lang/invoke/VarHandle" ∧ (parseMethodDescriptor y.desc).map (fun d => d.parameters.length) = some n) (hfr : fr' + 1 ≤ fr) (hlo : 8 + (maxL + 11) + lo' ≤ lo) (hn : As.length = n) (hd : decode cc pc = .ok (.invokestatic index, 3)) (hst : (st.map fun v => v.category).sum ≤ 8) (hst0 : st0 = As.reverse ++ st) (hE : VE B (z, Gf)) (hf : (xbind F K).1 G = some (z, Gf))
    (kk : ∀ (x : Unit) (G1 : GH), (K x).1 G1 = some (z, Gf) → V X own cc nL fr lo Ts B (XQ X (xmap vb z) Gf B) G1 (pc + 3) lv st) : V X own cc nL fr lo Ts B (XQ X (xmap vb z) Gf B) G pc lv st0 := by
  intro D Kb H ls locs hI hl
  obtain ⟨r, G1, h1, hle, r1, r2, hz⟩ := xcall_inv Kb hE hf
  refine v_xafter (r := xmap vV r) hn0 D Kb hI hl hle (vx_runS (As := As) (rest := st) ⟨D.x, D.b, D.ml, D.ow, D.ts⟩ (hM _ _ _ _ _ h1) (va_cwS n D.ts hG hw rfl rfl hdd ⟨by rw [D.rf]; exact hfr, by rw [D.rl]; exact hlo⟩) ⟨cPc_blind _ _ _ _, fun U hU hW => hI.pre D hU hW⟩ rfl hn hl.1 hst0 (lv_room hst) hd ⟨r1, r2⟩) (fun v hv => ?_) (fun E hv => ?_)
  · rcases hz with ⟨E, rfl, -, -⟩ | ⟨x, rfl, h2⟩
    · cases hv
    · cases hv
      exact kk x G1 h2
  · rcases hz with ⟨E', rfl, rfl, rfl⟩ | ⟨x, rfl, h2⟩
    · cases hv
      exact ⟨rfl, hE.1, hE.2⟩
    · cases hv
end Vthrow
