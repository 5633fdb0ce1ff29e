/-! PART 19: 'throw new NoSuchElementException(text)': its own constructor calls RuntimeException's by entry 13. The walk follows the library's law for constructors whose entry is 7 (ctorThrowS), with the first link taken apart. -/
def nseC : String := "java/util/NoSuchElementException"
def nseR : String := "java/lang/RuntimeException"
def nseE : String := "java/lang/Exception"
def nseL : List Cond := (Bundle.ownAtoms RX4 92 nseC [nseR, nseE]).filter (fun w => !(decide (w = .code (Bundle.initS nseC) Bundle.six 2 none) || decide (w = .methodLink nseC 7 (Bundle.initS nseR)))) ++ [.code (Bundle.initS nseC) nse13 2 none, .methodLink nseC 13 (Bundle.initS nseR)]
theorem nse_no : nseL.filter vx_no = vx_atE RX4 92 nseC [nseR, nseE] := by decide +kernel
theorem nse_t : ∀ w ∈ Bundle.throwableAtoms, w ∈ nseL := by decide +kernel
theorem nse_ts : ∀ w ∈ Bundle.throwableSAtoms, w ∈ nseL := by decide +kernel
theorem nse_p : ∀ w ∈ Bundle.passSAtoms nseC nseR 13 nse13, w ∈ nseL := by decide +kernel
theorem nse_c : ∀ w ∈ Bundle.chainSAtoms nseR [nseE], w ∈ nseL := by decide +kernel
theorem nse_0 : decode nse13 0 = .ok (.aload_n 0, 1) := by decide +kernel
theorem nse_1 : decode nse13 1 = .ok (.aload_n 1, 1) := by decide +kernel
theorem nse_2 : decode nse13 2 = .ok (.invokespecial 13, 3) := by decide +kernel
theorem nse_5 : decode nse13 5 = .ok (.return_, 1) := by decide +kernel
theorem nse_m1 : Cond.methodLink RX4 92 (Bundle.initS nseC) ∈ nseL := by decide +kernel
theorem nse_m2 : Cond.instantiable nseC 6 ∈ nseL := by decide +kernel
theorem nse_m3 : Cond.selects nseC Bundle.tFill0 Bundle.tFill0 ∈ nseL := by decide +kernel
theorem nse_m4 : Cond.selects nseC Bundle.tFill Bundle.tFill ∈ nseL := by decide +kernel
theorem nse_m5 : Cond.lays nseC Bundle.tN "cause" "Ljava/lang/Throwable;" ∈ nseL := by decide +kernel
theorem nse_m6 : Cond.lays nseC Bundle.tN "stackTrace" Bundle.steD ∈ nseL := by decide +kernel
theorem nse_m7 : Cond.lays nseC Bundle.tN "suppressedExceptions" Bundle.listD ∈ nseL := by decide +kernel
theorem nse_m8 : Cond.lays nseC Bundle.tN "detailMessage" "Ljava/lang/String;" ∈ nseL := by decide +kernel
theorem nse_m9 : Cond.isRef (.static Bundle.tN "UNASSIGNED_STACK" Bundle.steD) ∈ nseL := by decide +kernel
theorem nse_m10 : Cond.isRef (.static Bundle.tN "SUPPRESSED_SENTINEL" Bundle.listD) ∈ nseL := by decide +kernel
theorem nse_m11 : Cond.fieldLink Bundle.tN 198 Bundle.tN "backtrace" "Ljava/lang/Object;" ∈ nseL := by decide +kernel
theorem nse_m12 : Cond.lays Bundle.tN Bundle.tN "backtrace" "Ljava/lang/Object;" ∈ nseL := by decide +kernel
theorem nse_m13 : Cond.lays nseC Bundle.tN "backtrace" "Ljava/lang/Object;" ∈ nseL := by decide +kernel
theorem nse_m14 : Cond.instanceMethod (Bundle.initS nseC) ∈ nseL := by decide +kernel
theorem nse_m15 : Cond.code (Bundle.initS nseC) nse13 2 none ∈ nseL := by decide +kernel
theorem nse_fC : Bundle.fit nseC = true := by decide +kernel
theorem nse_fR : Bundle.fit nseR = true := by decide +kernel
theorem nse_fE : ∀ n ∈ [nseE], Bundle.fit n = true := by decide +kernel
section Nse
variable {p : Program} {l : Launch} {e : Env} {R : Room} {s : State} {m₀ : MethodId} {args : Array Value} {below : List Frame} {meth : Method} {c : Code} {W : State} {locs : List Loc} {cells slots : Nat}
set_option maxHeartbeats 2000000 in
theorem nse_ctor (X : Stand p l e R s m₀ args below meth c W locs cells slots) (hexec : p.tables.exec = Jvm.exec) (htr : e.platform.stackTraces = false) (hown : s.vm.findClass RX4 = some m₀.cls)
    (h : ∀ a ∈ nseL, a.before args s = true) (hlocs : ∀ x ∈ locs, ∀ cell, s.heap[x.base]? = some cell → cell.vm.isStatics = false)
    {a : Addr} {cX : ClassId} {kX : Class} (hfoundX : s.vm.findClass nseC = some cX) (hkX : s.vm.classes[cX]? = some kX) (hcell : W.heap[a]? = some (freshCell cX kX)) (hnew : s.heap.size ≤ a) {msg : Value} (hmsg : msg.isRef = true)
    {g : JFrame} (hg : g.method = m₀) (hsize : g.locals.size = c.maxLocals) (hlocked : g.locked = none) (hentered : g.entered = []) {rest : List Value} (hstack : g.stack = msg :: .ref a :: .ref a :: rest)
    (hd6 : decode c.code g.pc = .ok (.invokespecial 92, 3)) (hd9 : decode c.code (g.pc + 3) = .ok (.athrow, 1)) (hout : ∀ x ∈ c.exceptionTable.toList, covers x (g.pc + 3) = false)
    (hRframes : 5 < R.frames) (hRlocals : 2 * g.monitorRoom + ((Value.ref a :: rest).map fun v => v.category).sum + 81 ≤ R.locals) (hlocks : meth.locks = false) :
    ∃ U : State, Steps p.tables e below (W.setTop g) U ∧ U.status = .running ∧ Ended U below (.threw a) ∧ s.WarmedH U.vm ∧ s.sameButNew ({ U with vm := s.vm } : State) locs cells slots ∧ ∃ ce, U.heap[a]? = some ce ∧ s.vm.findClass nseC = some ce.cls ∧ ce.vm = .none := by
  have hpl : e.platform.magicAccessors = ({} : Platform).magicAccessors := by rw [X.admits.platform]
  have hh : ∀ x, x ∈ nseL → x.holds args s none s [] = true := fun x hx => h x hx
  obtain ⟨T, Z0, L, -, Y⟩ := ThrowableC.of_atoms (args := args) (by rw [X.admits.platform] : e.platform.frameOwnsMonitors = true) (by rw [X.admits.platform] : e.platform.finalization = false) hpl (fun x hx => h x (nse_t x hx))
  obtain ⟨Z, M, LZ, LM, hnZ⟩ := Init0T.ofS_atoms (args := args) hpl L Y (fun x hx => h x (nse_ts x hx))
  obtain ⟨P1, L1, hP1m, hP1s⟩ := PassC.ofS_atoms (args := args) (s := s) hpl (X := nseC) (Y := nseR) (Bundle.fit_spec nse_fC).1 (Bundle.fit_spec nse_fR).2 nse_0 nse_1 nse_2 nse_5 (fun x hx => h x (nse_p x hx))
  obtain ⟨P2, Ps, hlen, L2, hL, hP2m, hlink2, hlink3⟩ := Bundle.chainS (args := args) hpl hnZ [nseE] nseR nse_fR nse_fE (fun x hx => h x (nse_c x hx))
  have hsup : P1.sup = P2.m := Option.some.inj (hP1s.symm.trans hP2m)
  have hfound : s.vm.findClass nseC = some P1.m.cls := findClass_of_methodNamed hP1m
  cases Option.some.inj (hfoundX.symm.trans hfound)
  obtain ⟨c1, kX', hc1, hk, hord, -, -, -⟩ := Cond.instantiable_spec (hh _ nse_m2)
  cases Option.some.inj (hc1.symm.trans hfound)
  cases Option.some.inj (hkX.symm.trans hk)
  have hsel0 : selectMethod e.platform s.vm P1.m.cls T.fill0 = .method T.fill0 := by
    obtain ⟨c2, r2, m2, q1, q2, q3, q4, -⟩ := Cond.selects_spec (hh _ nse_m3)
    cases Option.some.inj (q1.symm.trans hfound)
    cases Option.some.inj (q2.symm.trans (State.methodFound?_of_named Y.fill0 (by decide)))
    cases Option.some.inj (q3.symm.trans Y.fill0)
    rw [Launch.admits_selectMethod X.admits]; exact q4
  have hselF : selectMethod e.platform s.vm P1.m.cls T.fill = .method T.fill := by
    obtain ⟨c2, r2, m2, q1, q2, q3, q4, -⟩ := Cond.selects_spec (hh _ nse_m4)
    cases Option.some.inj (q1.symm.trans hfound)
    cases Option.some.inj (q2.symm.trans (State.methodFound?_of_named Y.fill (by decide)))
    cases Option.some.inj (q3.symm.trans Y.fill)
    rw [Launch.admits_selectMethod X.admits]; exact q4
  obtain ⟨cS0, hcS0, hiss⟩ := Y.statics
  obtain ⟨u0, hu0⟩ := Cond.staticRefV Y.unassigned L.unassignedStatic L.statics hcS0 hiss (hh _ nse_m9)
  obtain ⟨sen, hsen⟩ := Cond.staticRefV Y.sentinel L.sentinelStatic L.statics hcS0 hiss (hh _ nse_m10)
  obtain ⟨ci9, i9, fB, hk9, hg9, ha9, hsB, -, hnB, htB, hffB⟩ := Cond.ownField (t := .object "java/lang/Object") Y.found L.cls (by decide +kernel) (hh _ nse_m11) (hh _ nse_m12) e.platform hpl
  obtain ⟨cS, hcS, heS, -, hkeep⟩ := X.same.2.2.2.2.2 T.aS cS0 hcS0
  have hno : ∀ i, (⟨T.aS, i⟩ : Loc) ∉ locs := fun i hm => by
    have h9 := hlocs _ hm cS0 hcS0
    rw [hiss] at h9; cases h9
  have hkn : cS.vm ≠ .unknown := by
    rw [heS]; intro hu
    rw [show cS0.vm = .unknown from hu] at hiss
    cases hiss
  have hne : T.aS ≠ a := Nat.ne_of_lt (Nat.lt_of_lt_of_le (Array.getElem?_eq_some_iff.mp hcS0).1 hnew)
  obtain ⟨iM, hffM⟩ := Y.msg
  obtain ⟨tyC, dC, hdC, hdnC⟩ := Cond.laysAt hfound hk Y.cause (hh _ nse_m5)
  obtain ⟨tyS, dS, hdS, hdnS⟩ := Cond.laysAt hfound hk Y.stack (hh _ nse_m6)
  obtain ⟨tyP, dP, hdP, hdnP⟩ := Cond.laysAt hfound hk Y.supp (hh _ nse_m7)
  obtain ⟨tyM, dM, hdM, hdnM⟩ := Cond.laysAt hfound hk hffM (hh _ nse_m8)
  obtain ⟨tyB, dB, hdB, hdnB⟩ := Cond.laysAt hfound hk hffB (hh _ nse_m13)
  have bC := Cond.laysApart hdB hdC hdnB hdnC (by rw [hnB, Y.causeName]; decide)
  have bS := Cond.laysApart hdB hdS hdnB hdnS (by rw [hnB, Y.stackName]; decide)
  have bP := Cond.laysApart hdB hdP hdnB hdnP (by rw [hnB, Y.suppName]; decide)
  have hskip : SkipFacts T e.platform s (fun u => u) u0 ((preparedCellV T.toThrowableT (freshCell P1.m.cls kX) a u0 sen).withEntry W.cur) :=
    ⟨{ ci198 := ci9, i198 := i9, fBack := fB }, ⟨hk9, hg9, ha9, hsB⟩, by
      have h9 := fresh_default (c := P1.m.cls) tyB
      rw [htB] at h9
      simpa [preparedCellV, Cell.setSlot, Cell.withEntry, Array.getElem?_setIfInBounds, bC, bS, bP, bC.symm, bS.symm, bP.symm, defaultValue] using h9, fun _ _ => rfl⟩
  obtain ⟨tm, mC, cdC, kC, vm₁, hnC, -, -, -, -, -, -, -, hW₁, st1⟩ := Steps.initColdS (tb := p.tables) (e := e) (below := below) (s := s) (U := W) X.here hexec X.warmed hpl hown (t := Bundle.initS nseC) rfl rfl (Bundle.fit_spec nse_fC).2
    (hh _ nse_m1) (h _ nse_m14) (bytes := nse13) (maxL := 2) (h _ nse_m15) (f := g) hg (a := a) (msg := msg) (rest := .ref a :: rest) hstack hd6
  cases Option.some.inj (hnC.symm.trans hP1m)
  have X₁ := X.noted hW₁
  obtain ⟨vm₂, X₂, st2⟩ := X₁.ctorMessageOffV hexec (g := { g with stack := .ref a :: rest }) hg hsize T L Z LZ M LM (P1 :: P2 :: Ps)
    (fun P hP => by
      rcases List.mem_cons.mp hP with rfl | hP
      · exact L1
      · rcases List.mem_cons.mp hP with rfl | hP
        · exact L2
        · exact hL P hP) ⟨hsup, hlink2, hlink3⟩ (u0 := u0) (sen := sen) (self := a) hmsg (cell := freshCell P1.m.cls kX) (cellS := cS)
    hcell (fun _ => by simp) (by simp) rfl rfl hsel0 hselF hcS hne hkn (by rw [hkeep _ (hno _)]; exact hu0) (by rw [hkeep _ (hno _)]; exact hsen)
    (Takes.of_laid hk hord tyC (by rw [Y.causeType]; rfl)) (Takes.of_laid hk hord tyS (by rw [Y.stackType]; exact fits_refV_array _ u0)) (Takes.of_laid hk hord tyP (by rw [Y.suppType]; exact fits_refV_object _ sen))
    (Takes.of_laid hk hord tyM (by rw [Y.msgType]; exact fits_refV_object _ ⟨msg, hmsg⟩)) Y.objLocals hskip htr [] hd6
    (by simp only [List.length_cons, hlen, List.length_nil]; omega) (by simp only [List.length_cons, hlen, List.length_nil]; omega)
  obtain ⟨hwalk, hrun, hended, hWU, hsame⟩ := X₂.athrowLeaves hexec (g := { g with stack := .ref a :: rest, pc := g.pc + 3 }) hg hlocked hentered hout (a := a) (rest := rest) rfl hd9
  have hlt : a < ((W.setVm vm₁).setVm vm₂).heap.size := (Array.getElem?_eq_some_iff.mp hcell).1
  have hU := heapAt_setCell_self (s := (W.setVm vm₁).setVm vm₂) (plainBareV T.toThrowableT (freshCell P1.m.cls kX) a u0 sen msg) hlt
  refine ⟨_, st1 _ (fun acts => ?_), hrun, hended, hWU, hsame.weaken (fun y hy hlt9 => ?_) (Nat.le_refl _) (Nat.le_refl _), _, hU, hfound, rfl⟩
  · rw [doInvoke_state]
    exact st2 _ hwalk
  · rcases List.mem_append.mp hy with h1 | h1
    · exact h1
    · exfalso
      have hb : y.base = a := by
        simp only [List.mem_cons, List.not_mem_nil, or_false] at h1
        rcases h1 with rfl | rfl | rfl | rfl | rfl <;> rfl
      rw [hb] at hlt9
      exact Nat.not_lt.mpr hnew hlt9
theorem nse_words {A : Nat → Prop} {U : State} {a9 : Array Value} (hat : ∀ w ∈ vx_atE RX4 92 nseC [nseR, nseE], w.before a9 U = true) (hz : XZ A U U.heap) : ∀ w ∈ nseL, w.before a9 U = true :=
  vx_own (fun w hw => hat w (by rw [← nse_no]; exact hw)) (vx_isRefq hz.1.1) (vx_isRefq hz.2.1) hz.1.2.word hz.2.2.word
end Nse
section NseV
variable {X : VX} {cc : ByteArray} {nL fr lo : Nat} {Ts : List Cond} {B : VB} {G : GH} {pc : Nat} {lv : List (Nat × Value)} {st : List Value}
theorem v_throwE {is ik : Nat} {text : String} {α : Type} {val : α → Option Value} {z : String ⊕ α} {Gf : GH} (hn : ∀ x ∈ (xc X).exceptionTable.toList, False) (hk : Cond.classLink RX4 ik nseC ∈ Ts) (hini : Cond.initialized nseC ∈ Ts) (hat : ∀ w ∈ (vx_atE RX4 92 nseC [nseR, nseE]).filter goodWord, w ∈ Ts) (hng : ∀ w ∈ (vx_atE RX4 92 nseC [nseR, nseE]).filter (fun w => !goodWord w), w ∈ ngw) (hgood : (Cond.classLink RX4 ik nseC :: Cond.initialized nseC :: vx_atE RX4 92 nseC [nseR, nseE]).all vx_ot = true) (hstr : (is, text) ∈ strs)
    (d0 : decode cc pc = .ok (.new ik, 3)) (d3 : decode cc (pc + 3) = .ok (.dup, 1)) (d4 : decode cc (pc + 4) = .ok (.ldc is, 2)) (d6 : decode cc (pc + 6) = .ok (.invokespecial 92, 3)) (d9 : decode cc (pc + 9) = .ok (.athrow, 1)) (hfr : 5 < fr) (hlo : (st.map fun v => v.category).sum + 82 ≤ lo) (hE : VE B (z, Gf)) (hf : (mthrow nseC : MX α).1 G = some (z, Gf)) : V X RX4 cc nL fr lo Ts B (XQ X (xmap val z) Gf B) G pc lv st := by
  have hf' : (some (Sum.inl nseC, (G.1, G.2.1 + 1, G.2.2.1 + 1, G.2.2.2 + 6)) : Option ((String ⊕ α) × GH)) = some (z, Gf) := hf
  cases hf'
  intro D Kb H ls locs hI hl
  obtain ⟨sa, hsa⟩ := D.ex.2.2.2.1 (is, text) hstr
  have hat' : ∀ w ∈ vx_atE RX4 92 nseC [nseR, nseE], w.before (xa X) (xs X) = true := vx_hat (B := ngw) (fun w hw => D.ts w (hat w hw)) hng (fun w hw => by
    have hw2 := D.ex.2.2.2.2 w hw
    rcases List.mem_append.mp hw with hm | hm
    · obtain ⟨q, -, rfl⟩ := List.mem_map.mp hm
      exact va_Nw.use rfl hw2
    · obtain ⟨q, -, rfl⟩ := List.mem_map.mp hm
      exact va_Nw.use rfl hw2)
  obtain ⟨k1, k2, k3, k4⟩ := Kb
  obtain ⟨e1, e2⟩ := hE
  dsimp only at e1 e2
  intro T hT XS
  have htr : (xe X).platform.stackTraces = false := (show (xe X).platform.stackTraces = (xl X).stackTraces by rw [XS.admits.platform]).trans D.fl
  have Ys := vx_rebase XS (R' := { frames := (xR X).frames, locals := (xR X).locals, cells := 1, slots := 6 }) (Nat.le_refl _) (Nat.le_refl _) (by show _ + 1 ≤ _; rw [k1, e1]; omega) (by show _ + 6 ≤ _; rw [k2, e2]; omega)
  obtain ⟨s', hA⟩ : ∃ z, z = (T.setVm (xs X).vm).setFrames (.invoking (xm X) (xa X) :: xb X) := ⟨_, rfl⟩
  rw [← hA] at Ys
  have hvm : s'.vm = (xs X).vm := by rw [hA]; rfl
  have hhp : s'.heap = H := by rw [hA]; exact hT
  have hW0 : (xs X).WarmedH s'.vm := by rw [hvm]; exact State.WarmedH.refl _
  have ot : ∀ w ∈ Cond.classLink RX4 ik nseC :: Cond.initialized nseC :: vx_atE RX4 92 nseC [nseR, nseE], w.before (xa X) (xs X) = true → w.before (xa X) s' = true := fun w hw hb => vx_ot_at hW0 hvm.symm (List.all_eq_true.mp hgood w hw) hb
  have hk' := ot _ List.mem_cons_self (D.ts _ hk)
  have hini' := ot _ (List.mem_cons_of_mem _ List.mem_cons_self) (D.ts _ hini)
  have hz' : XZ (xA X) s' s'.heap := by rw [hhp]; exact XZ.moved hW0.alike (D.z.kept hI.2.2.2.1)
  have h : ∀ w ∈ nseL, w.before (xa X) s' = true := nse_words (fun w hw => ot w (List.mem_cons_of_mem _ (List.mem_cons_of_mem _ hw)) (hat' w hw)) hz'
  have hown' : s'.vm.findClass RX4 = some (xm X).cls := by rw [hvm]; exact D.ow
  obtain ⟨vm₁, cX, kX, hfX, hkX, -, -, X₁, st1⟩ := Ys.newCold D.x (own := RX4) (C := nseC) (index := ik) (n := 6) hown' hk' (h _ nse_m2) hini' (g := F0 (xm X) pc ls st) rfl (by rw [D.b]; exact d0) (Nat.le_refl _) (Nat.le_refl _)
  generalize hT1 : (T.setVm vm₁).pushCell { cls := cX, slots := kX.instanceTypes.map defaultValue, vm := .none } = T1 at X₁ st1
  have hcat : (Value.ref T.heap.size).category = 1 := rfl
  have hcellA : T1.heap[T.heap.size]? = some (freshCell cX kX) := by rw [← hT1]; exact State.heap_pushCell_size _ _
  have d3' : decode (xc X).code (pc + 3) = .ok (.dup, 1) := by rw [D.b]; exact d3
  have d4' : decode (xc X).code (pc + 4) = .ok (.ldc is, 2) := by rw [D.b]; exact d4
  have hstr' : vk_R RX4 is text sa s' := vk_R.warm hW0 hsa
  have hsize : ls.size = (xc X).maxLocals := by rw [hl.1, D.ml]
  obtain ⟨U, hsteps, hrun, hend, hW, hsame, ce, hce, hcl, hcv⟩ := nse_ctor X₁ D.x htr hown' h (fun x hx => nomatch hx) hfX hkX hcellA (by rw [hhp, hT]; exact Nat.le_refl _) (msg := .ref sa) rfl
    (g := { method := xm X, pc := pc + 6, locals := ls, stack := .ref sa :: .ref T.heap.size :: .ref T.heap.size :: st, locked := none }) rfl hsize rfl rfl (rest := st) rfl
    (by rw [D.b]; exact d6) (by rw [D.b]; exact d9) (fun x hx => (hn x hx).elim) (by show 5 < (xR X).frames; rw [D.rf]; exact hfr) (by show 2 * 0 + _ + 81 ≤ (xR X).locals; simp only [List.map_cons, List.sum_cons, hcat]; rw [D.rl]; omega) D.lk
  obtain ⟨f1, f2⟩ := vx_frame hsame
  rw [hhp] at f1 f2
  have hWs : (xs X).WarmedH U.vm := State.WarmedH.trans hW0 hW
  have hcl' : (xs X).vm.findClass nseC = some ce.cls := by rw [← hvm]; exact hcl
  have hall : (xs X).sameButNew ({ U with vm := (xs X).vm } : State) locs (B.2.2.1 - B.1) (B.2.2.2 - B.2.1) := by
    subst hA
    obtain ⟨g1, g2⟩ := hsame
    rw [State.setFrames_setFrames] at g1
    have h2 : (T.setVm (xs X).vm).sameButNew ({ U with vm := (xs X).vm } : State) [] (0 + 1) (0 + 6) := ⟨g1, g2⟩
    have h3 := XS.same.trans h2
    rw [List.append_nil] at h3
    exact h3.mono (by rw [e1]; omega) (by rw [e2]; omega)
  refine ⟨U, ?_, .threw T.heap.size, hrun, hend, Or.inr ⟨T.heap.size, rfl, nseC, ce, locs, ⟨rfl, ⟨U.heap.size, hI.1.longer (fun q hq => f2 q hq (fun z hz => nomatch hz)) f1⟩, hI.2.1, Nat.le_trans hI.2.2.1 f1, fun q h1 h2 => (f2 q (Nat.lt_of_lt_of_le h1 hI.2.2.1) (fun z hz => nomatch hz)).trans (hI.2.2.2.1 q h1 h2)⟩, hce, hcv, hcl', hWs, hall, hI.2.2.2.2⟩⟩
  refine st1 _ ?_
  show Steps (xp X).tables (xe X) (xb X) (T1.setTop { method := xm X, pc := pc + 3, locals := ls, stack := .ref T.heap.size :: st, locked := none }) _
  have hex := D.x
  jvm_step X₁.here [X₁.here.top, hex, d3', Value.category]
  exact X₁.ldcString D.x (own := RX4) (text := text) (index := is) (a := sa) hown' hstr'.1 hstr'.2
    (g := { method := xm X, pc := pc + 4, locals := ls, stack := .ref T.heap.size :: .ref T.heap.size :: st, locked := none }) rfl d4' _ hsteps
end NseV
