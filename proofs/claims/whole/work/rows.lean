section
/-! ===== BEGIN words of one list among another's, by their places ===== -/
theorem goodIn_r {big : List Cond} (ws : List Cond) (ps : List Nat) (hp : ws = ps.filterMap (fun i => big[i]?)) (h : ws.all goodWord = true) : GoodIn big ws := by
  intro w hw
  have h1 := List.all_eq_true.mp h w hw
  rw [hp] at hw
  obtain ⟨i, -, hi⟩ := List.mem_filterMap.mp hw
  have hm : w ∈ big := by first | exact List.mem_of_getElem? hi | exact List.getElem?_mem hi
  exact ⟨hm, good_of_word h1⟩
theorem goodIn_app {big a b : List Cond} (ha : GoodIn big a) (hb : GoodIn big b) : GoodIn big (a ++ b) := fun w h => (List.mem_append.mp h).elim (ha w) (hb w)
theorem goodIn_ca {big a b : List Cond} {c : Cond} (ha : GoodIn big (c :: a)) (hb : GoodIn big b) : GoodIn big (c :: (a ++ b)) := fun w h => (List.mem_cons.mp h).elim (fun e => ha w (List.mem_cons.mpr (Or.inl e))) (fun h => (List.mem_append.mp h).elim (fun h => ha w (List.mem_cons.mpr (Or.inr h))) (hb w))
theorem goodIn_sub {big ws : List Cond} (hm : ∀ w ∈ ws, w ∈ big) (h : ws.all goodWord = true) : GoodIn big ws := fun w hw => ⟨hm w hw, good_of_word (List.all_eq_true.mp h w hw)⟩
/-! ===== END ===== -/

/-! ===== BEGIN exceptions that leave a method, and their catching by the caller (launches without stack traces) ===== -/
section VXA
/-! The laws vx_back, vx_callV, vx_callS, vx_callSW, vx_throw0, vx_throwS follow proofs of the library, with one case more: JvmDerived/Free/Laws.lean (Back.of_free), Shelf42/LK1.lean (callV, callS), Shelf/KitTraced.lean (throwNew0V, throwNewS). -/
/-- where a method has thrown q: the class by its name, the cell, what was written, the world -/
def vx_T (XC : String → State → State → Prop) (st : State) (q : Addr) (t : State) (mc ms : Nat) (free : Addr → Prop) : Prop :=
  ∃ (E : String) (ce : Cell) (L : List Loc), XC E st t ∧ t.heap[q]? = some ce ∧ ce.vm = .none ∧ st.vm.findClass E = some ce.cls ∧ st.WarmedH t.vm ∧ st.sameButNew ({ t with vm := st.vm } : State) L mc ms ∧ ∀ z ∈ L, free z.base
def vx_Q (Qc : Array Value → State → Outcome → State → Prop) (XC : String → State → State → Prop) (mc ms : Nat) (free : Addr → Prop) : Array Value → State → Outcome → State → Prop := fun a st o t =>
  (Qc a st o t ∧ ∃ L, FrameEnd st o t L mc ms ∧ ∀ q ∈ L, free q.base) ∨ ∃ q, o = .threw q ∧ vx_T XC st q t mc ms free
/-- a callee that returns or throws -/
def vx_Met (l : Launch) (y : MethodName) (ws : List Cond) (rm : Room) (Pc : Array Value → State → Prop) (Qc : Array Value → State → Outcome → State → Prop) (XC : String → State → State → Prop) (mc ms : Nat) (free : Addr → Prop) : Prop :=
  MetFree l y (headSpec ws rm) Pc (fun _ _ _ _ _ => True) (vx_Q Qc XC mc ms free)
def vx_Post (XC : String → State → State → Prop) (mc ms : Nat) (free : Addr → Prop) : Pt → Array Value → Addr → Pt → Prop := fun A a q B =>
  ∃ (g : JFrame) (mk : MethodId) (t : State) (L : List Loc) (E : String) (ce : Cell), B.U.heap = t.heap ∧ B.U.vm = t.vm ∧ XC E (A.U.calling g mk a) t ∧ t.heap[q]? = some ce ∧ ce.vm = .none ∧ A.U.vm.findClass E = some ce.cls ∧ B.locs = A.locs ++ L ∧ (∀ z ∈ L, free z.base) ∧ B.cells = A.cells + mc ∧ B.slots = A.slots + ms
def vx_Back (l : Launch) (R : Room) (p : Program) (e : Env) (below : List Frame) (s : State) (sargs : Array Value) (y : MethodName) (len W9 : Nat)
    (Pre : Pt → Array Value → Prop) (Post : Pt → Array Value → Option Value → Pt → Prop) (PostX : Pt → Array Value → Addr → Pt → Prop) : Prop :=
  ∀ (m : MethodId) (meth : Method) (c : Code) (A : Pt) (g : JFrame) (ig : Instr) (mk : MethodId) (a : Array Value),
    Stand p l e R s m sargs below meth c A.U A.locs A.cells A.slots → g.method = m → g.locals.size = c.maxLocals → decode c.code g.pc = .ok (ig, len) →
    2 * g.monitorRoom + (g.stack.map fun v => v.category).sum ≤ W9 → A.U.methodNamed? y = some mk → Pre A a →
    (∃ (v : Option Value) (B : Pt), Stand p l e R s m sargs below meth c B.U B.locs B.cells B.slots ∧ Post A a v B ∧
      Steps p.tables e below (doInvoke e (A.U.setTop g) [] mk a).1 (B.U.setTop { g with pc := g.pc + len, stack := v.toList ++ g.stack })) ∨
    (∃ (q : Addr) (B : Pt), Stand p l e R s m sargs below meth c B.U B.locs B.cells B.slots ∧ PostX A a q B ∧
      Steps p.tables e below (doInvoke e (A.U.setTop g) [] mk a).1 ((B.U.setTop g).pushFrame (.throwing q)))
section Payer
variable {l : Launch} {R : Room} {p : Program} {e : Env} {below : List Frame} {s : State} {sargs : Array Value} {y : MethodName} {len W9 : Nat}
theorem vx_back {ws : List Cond} {rm : Room} {Pc : Array Value → State → Prop} {Qc : Array Value → State → Outcome → State → Prop} {XC : String → State → State → Prop} {mc ms : Nat} {free : Addr → Prop} {bytes : ByteArray} {maxL : Nat} {ret : Option FieldType}
    (hM : vx_Met l y ws rm Pc Qc XC mc ms free) (hblind : FrameBlind Pc) (hrc : rm.cells = mc) (hrs : rm.slots = ms)
    (hframes : rm.frames + 1 ≤ R.frames) (hlocals : W9 + (maxL + 11) + rm.locals ≤ R.locals)
    (hws : ∀ w ∈ ws, ∀ a' U, s.WarmedH U.vm → w.before a' U = true) (hcode : Cond.code y bytes maxL ret ∈ ws) (hinit : ∀ a' U, s.WarmedH U.vm → (Cond.initialized y.cls).before a' U = true) :
    vx_Back l R p e below s sargs y len W9 (PreOf R mc ms Pc) (PostOf Qc mc ms free) (vx_Post XC mc ms free) := by
  intro m meth c A g ig mk a X hg hsize hdg hW hn hp
  have h1 : (headSpec ws rm).pre.before a A.U = true := atoms_intro fun w hw => hws w hw _ _ X.warmed
  have h2 : (Cond.code y bytes maxL ret).before a A.U = true := hws _ hcode _ _ X.warmed
  have h3 : (Cond.initialized y.cls).before a A.U = true := hinit _ _ X.warmed
  have h4 : A.cells + (headSpec ws rm).room.cells ≤ R.cells := by rw [show (headSpec ws rm).room.cells = mc from hrc]; exact hp.1
  have h5 : A.slots + (headSpec ws rm).room.slots ≤ R.slots := by rw [show (headSpec ws rm).room.slots = ms from hrs]; exact hp.2.1
  have hPc : Pc a (A.U.calling g mk a) := hblind _ _ _ _ hp.2.2
  obtain ⟨U, Ls, c0, s0⟩ := A
  dsimp only [Pt.U, Pt.locs, Pt.cells, Pt.slots] at h1 h2 h3 h4 h5 X hn hPc ⊢
  obtain ⟨methY, cY, hmY, hcY, -, hlY, -, -, -, -⟩ := Cond.code_spec hn h2
  obtain ⟨kY, hkY, -⟩ := className_of_methodNamed hn
  have hinitY : kY.init = .initialized := Cond.initialized_spec (findClass_of_methodNamed hn) hkY h3
  have h : At U g.method c below := by rw [hg]; exact X.here
  have hlocals9 : W9 + (maxL + 11) + (headSpec ws rm).room.locals ≤ R.locals := hlocals
  have happ : (headSpec ws rm).appliesLoose y e.platform (U.calling g mk a) = true :=
    Spec.appliesLoose_calling (g := g) h hdg hn hkY hinitY
      (X.room_calling (g := g) (R' := (headSpec ws rm).room) hsize hmY hcY hframes (by rw [hlY]; omega) h4 h5) h1
  obtain ⟨mid, hmid⟩ := h.above
  have hfr : (U.setTop g).frames = (.java g :: mid) ++ below := by rw [State.frames_setTop' g h.top, hmid]; rfl
  obtain ⟨o, s₂, hsteps, -, hend, hq⟩ := Steps.callFree hM p X.admits X.cas X.clock (acts := []) hfr happ hPc trivial
  have hq' : vx_Q Qc XC mc ms free a (U.calling g mk a) o s₂ := hq
  rw [State.frames_setTop' g h.top] at hend
  obtain ⟨g₀, hg0⟩ := Option.isSome_iff_exists.mp h.top
  obtain ⟨r, hr⟩ := State.topJava?_eq_some.mp hg0
  have hr' : (({ U with heap := s₂.heap, slotsUsed := s₂.slotsUsed } : State).setVm s₂.vm).frames = .java g₀ :: r := hr
  rcases hq' with ⟨hqc, L, hfe, hL⟩ | ⟨q, rfl, E, ce, L, hx, hce, hcv, hcl, hW₂, hsm, hL⟩
  · obtain ⟨⟨v, rfl⟩, hW₂, e2, q2, q3, q4, q5, q6⟩ := id hfe
    have e3 : s₂ = ({ (U.calling g mk a).setFrames s₂.frames with heap := s₂.heap, slotsUsed := s₂.slotsUsed } : State).setVm s₂.vm := by
      have : s₂ = ({ s₂ with vm := (U.calling g mk a).vm } : State).setVm s₂.vm := rfl
      rw [e2] at this
      exact this
    obtain ⟨c₂, i₂, len₂, hc₂, hd₂, hf₂⟩ := hend
    have hW' : U.WarmedH s₂.vm := hW₂
    have hcc : c₂ = c := by
      have h1 : s₂.code? g.method = U.code? g.method := by
        rw [State.code?_eq, State.code?_eq, hW'.alike.method?]
      exact Option.some.inj (hc₂.symm.trans (h1.trans h.code))
    subst hcc
    have hlen : len₂ = len := by rw [hdg] at hd₂; cases hd₂; rfl
    subst hlen
    have hs₂ : s₂ = (({ U with heap := s₂.heap, slotsUsed := s₂.slotsUsed } : State).setVm s₂.vm).setTop { g with pc := g.pc + len₂, stack := v.toList ++ g.stack } := by
      refine e3.trans ?_
      rw [hf₂, State.calling_eq h.top, State.setFrames_setFrames, State.setTop_of_frames _ hr', hr]
      rfl
    have hsame : U.sameButNew ({ U with heap := s₂.heap, slotsUsed := s₂.slotsUsed } : State) L mc ms := by
      refine ⟨?_, q2, q3, q4, q5, q6⟩
      obtain ⟨t, ht, -⟩ := State.frames_cons hr
      show ({ U with heap := s₂.heap, slotsUsed := s₂.slotsUsed } : State) = { U.setFrames U.frames with heap := s₂.heap, slotsUsed := s₂.slotsUsed }
      rw [State.setFrames_self ht]
    subst hg
    refine Or.inl ⟨v, ⟨(({ U with heap := s₂.heap, slotsUsed := s₂.slotsUsed } : State).setVm s₂.vm), Ls ++ L, c0 + mc, s0 + ms⟩,
      ⟨X.admits, X.cas, X.clock, X.frames, X.room, X.hears, X.method, X.code, (X.here.setHeapUsed s₂.heap s₂.slotsUsed).setVm hW'.alike, X.tail, State.WarmedH.trans X.warmed hW', X.limits, X.bytes, X.same.trans (hsame.setVm s.vm)⟩,
      ⟨g, mk, s₂, L, rfl, rfl, hqc, rfl, hL, rfl, rfl⟩, ?_⟩
    show Steps p.tables e below _ ((({ U with heap := s₂.heap, slotsUsed := s₂.slotsUsed } : State).setVm s₂.vm).setTop { g with pc := g.pc + len₂, stack := v.toList ++ g.stack })
    rw [← hs₂]
    exact hsteps
  · obtain ⟨e2, q2, q3, q4, q5, q6⟩ := id hsm
    have e3 : s₂ = ({ (U.calling g mk a).setFrames s₂.frames with heap := s₂.heap, slotsUsed := s₂.slotsUsed } : State).setVm s₂.vm := by
      have : s₂ = ({ s₂ with vm := (U.calling g mk a).vm } : State).setVm s₂.vm := rfl
      rw [e2] at this
      exact this
    have hf₂ : s₂.frames = .throwing q :: .java g :: U.frames.tail := hend
    have hW' : U.WarmedH s₂.vm := hW₂
    have hs₂ : s₂ = ((({ U with heap := s₂.heap, slotsUsed := s₂.slotsUsed } : State).setVm s₂.vm).setTop g).pushFrame (.throwing q) := by
      refine e3.trans ?_
      rw [hf₂, State.calling_eq h.top, State.setFrames_setFrames, State.pushFrame, State.frames_setTop _ hr', State.setTop_of_frames _ hr', State.setFrames_setFrames, hr]
      rfl
    have hsame : U.sameButNew ({ U with heap := s₂.heap, slotsUsed := s₂.slotsUsed } : State) L mc ms := by
      refine ⟨?_, q2, q3, q4, q5, q6⟩
      obtain ⟨t, ht, -⟩ := State.frames_cons hr
      show ({ U with heap := s₂.heap, slotsUsed := s₂.slotsUsed } : State) = { U.setFrames U.frames with heap := s₂.heap, slotsUsed := s₂.slotsUsed }
      rw [State.setFrames_self ht]
    subst hg
    refine Or.inr ⟨q, ⟨(({ U with heap := s₂.heap, slotsUsed := s₂.slotsUsed } : State).setVm s₂.vm), Ls ++ L, c0 + mc, s0 + ms⟩,
      ⟨X.admits, X.cas, X.clock, X.frames, X.room, X.hears, X.method, X.code, (X.here.setHeapUsed s₂.heap s₂.slotsUsed).setVm hW'.alike, X.tail, State.WarmedH.trans X.warmed hW', X.limits, X.bytes, X.same.trans (hsame.setVm s.vm)⟩,
      ⟨g, mk, s₂, L, E, ce, rfl, rfl, hx, hce, hcv, hcl, rfl, hL, rfl, rfl⟩, ?_⟩
    show Steps p.tables e below _ (((({ U with heap := s₂.heap, slotsUsed := s₂.slotsUsed } : State).setVm s₂.vm).setTop g).pushFrame (.throwing q))
    rw [← hs₂]
    exact hsteps
end Payer
section Calls
variable {p : Program} {l : Launch} {e : Env} {R : Room} {s : State} {m : MethodId} {args : Array Value} {below : List Frame} {meth : Method} {c : Code} {T : State} {locs : List Loc} {cells slots : Nat}
theorem vx_callV (X : Stand p l e R s m args below meth c T locs cells slots) (hexec : p.tables.exec = Jvm.exec) {own C : String} {index : Nat} {y : MethodName} {bytes : ByteArray} {maxL : Nat} {ret : Option FieldType}
    (hown : s.vm.findClass own = some m.cls) (hlink : (Cond.methodLink own index y).before args s = true) (hinst : (Cond.instanceMethod y).before args s = true) (hsel : (Cond.selects C y y).before args s = true)
    (hcode : (Cond.code y bytes maxL ret).before args s = true) (hy : y.cls ≠ "java/lang/invoke/MethodHandle" ∧ y.cls ≠ "java/lang/invoke/VarHandle")
    {W9 : Nat} {Pre : Pt → Array Value → Prop} {Post : Pt → Array Value → Option Value → Pt → Prop} {PostX : Pt → Array Value → Addr → Pt → Prop} (hK : vx_Back l R p e below s args y 3 W9 Pre Post PostX)
    {b : Addr} {cellB : Cell} (hcell : T.heap[b]? = some cellB) (hobj : cellB.vm.isStatics = false) (hcls : s.vm.findClass C = some cellB.cls)
    {g : JFrame} (hg : g.method = m) (hsize : g.locals.size = c.maxLocals) {argsL rest : List Value} (hlen : ∀ sig, parseMethodDescriptor y.desc = some sig → argsL.length = sig.parameters.length)
    (hstack : g.stack = argsL.reverse ++ .ref b :: rest) (hW : 2 * g.monitorRoom + (rest.map fun v => v.category).sum ≤ W9) (hdg : decode c.code g.pc = .ok (.invokevirtual index, 3))
    (hpre : ∀ vm₁, s.WarmedH vm₁ → Pre ⟨T.setVm vm₁, locs, cells, slots⟩ (Value.ref b :: argsL).toArray) :
    (∃ (v : Option Value) (vm₁ : Vm) (B : Pt), s.WarmedH vm₁ ∧ Stand p l e R s m args below meth c B.U B.locs B.cells B.slots ∧ Post ⟨T.setVm vm₁, locs, cells, slots⟩ (Value.ref b :: argsL).toArray v B ∧
      ∀ target, Steps p.tables e below (B.U.setTop { g with pc := g.pc + 3, stack := v.toList ++ rest }) target → Steps p.tables e below (T.setTop g) target) ∨
    (∃ (q : Addr) (vm₁ : Vm) (B : Pt), s.WarmedH vm₁ ∧ Stand p l e R s m args below meth c B.U B.locs B.cells B.slots ∧ PostX ⟨T.setVm vm₁, locs, cells, slots⟩ (Value.ref b :: argsL).toArray q B ∧
      Steps p.tables e below (T.setTop g) ((B.U.setTop { g with stack := rest }).pushFrame (.throwing q))) := by
  obtain ⟨mk, methM, hnamed, hmethM, hstM, habM⟩ := Cond.instanceMethod_spec hinst
  obtain ⟨methM', cM, hmethM', -, -, -, -, -, -, hsigM⟩ := Cond.code_spec hnamed hcode
  cases hmethM.symm.trans hmethM'
  obtain ⟨c2, r2, m2, q1, q2, q3, q4, kP, hkP, hkPi⟩ := Cond.selects_spec hsel
  cases hcls.symm.trans q1
  cases (State.methodFound?_of_named hnamed hy).symm.trans q2
  cases hnamed.symm.trans q3
  have hselP : selectMethod e.platform s.vm cellB.cls mk = .method mk := by rw [Launch.admits_selectMethod X.admits]; exact q4
  obtain ⟨vm₁, X₁, hstep₁⟩ := X.invokevirtual hexec hown hlink hnamed hmethM hstM hkP hkPi hy (a := b) (cell := cellB) hcell
    (fun z h => by rw [h] at hobj; cases hobj) hselP hmethM habM hkP hkPi (g := g) hg (argsL := argsL) (rest := rest) (hlen _ hsigM) hstack hdg
  rcases hK m meth c ⟨T.setVm vm₁, locs, cells, slots⟩ { g with stack := rest } (.invokevirtual index) mk (Value.ref b :: argsL).toArray X₁ hg hsize hdg hW (X₁.named hnamed) (hpre vm₁ X₁.warmed) with ⟨v, B, X', hpost, hsteps⟩ | ⟨q, B, X', hpost, hsteps⟩
  · exact Or.inl ⟨v, vm₁, B, X₁.warmed, X', hpost, fun target h => hstep₁ _ fun acts => by rw [doInvoke_state]; exact hsteps.trans h⟩
  · exact Or.inr ⟨q, vm₁, B, X₁.warmed, X', hpost, hstep₁ _ fun acts => by rw [doInvoke_state]; exact hsteps⟩
theorem vx_callS (X : Stand p l e R s m args below meth c T locs cells slots) (hexec : p.tables.exec = Jvm.exec) {own : String} {index : Nat} {y : MethodName} {bytes : ByteArray} {maxL : Nat} {ret : Option FieldType}
    (hown : s.vm.findClass own = some m.cls) (hlink : (Cond.methodLink own index y).before args s = true) (hstat : (Cond.static y).before args s = true) (hinit : (Cond.initialized y.cls).before args s = true)
    (hcode : (Cond.code y bytes maxL ret).before args s = true) (hy : y.cls ≠ "java/lang/invoke/MethodHandle" ∧ y.cls ≠ "java/lang/invoke/VarHandle")
    {W9 : Nat} {Pre : Pt → Array Value → Prop} {Post : Pt → Array Value → Option Value → Pt → Prop} {PostX : Pt → Array Value → Addr → Pt → Prop} (hK : vx_Back l R p e below s args y 3 W9 Pre Post PostX)
    {g : JFrame} (hg : g.method = m) (hsize : g.locals.size = c.maxLocals) {argsL rest : List Value} (hlen : ∀ sig, parseMethodDescriptor y.desc = some sig → argsL.length = sig.parameters.length)
    (hstack : g.stack = argsL.reverse ++ rest) (hW : 2 * g.monitorRoom + (rest.map fun v => v.category).sum ≤ W9) (hdg : decode c.code g.pc = .ok (.invokestatic index, 3))
    (hpre : ∀ vm₁, s.WarmedH vm₁ → Pre ⟨T.setVm vm₁, locs, cells, slots⟩ argsL.toArray) :
    (∃ (v : Option Value) (vm₁ : Vm) (B : Pt), s.WarmedH vm₁ ∧ Stand p l e R s m args below meth c B.U B.locs B.cells B.slots ∧ Post ⟨T.setVm vm₁, locs, cells, slots⟩ argsL.toArray v B ∧
      ∀ target, Steps p.tables e below (B.U.setTop { g with pc := g.pc + 3, stack := v.toList ++ rest }) target → Steps p.tables e below (T.setTop g) target) ∨
    (∃ (q : Addr) (vm₁ : Vm) (B : Pt), s.WarmedH vm₁ ∧ Stand p l e R s m args below meth c B.U B.locs B.cells B.slots ∧ PostX ⟨T.setVm vm₁, locs, cells, slots⟩ argsL.toArray q B ∧
      Steps p.tables e below (T.setTop g) ((B.U.setTop { g with stack := rest }).pushFrame (.throwing q))) := by
  obtain ⟨mk, hnamed⟩ := Cond.code_named hcode
  obtain ⟨methM, cM, hmethM, -, -, -, -, -, -, hsigM⟩ := Cond.code_spec hnamed hcode
  have hstatic : methM.isStatic = true := Cond.static_spec hnamed hmethM hstat
  obtain ⟨kP, hkP, -⟩ := className_of_methodNamed hnamed
  have hinitP : kP.init = .initialized := Cond.initialized_spec (findClass_of_methodNamed hnamed) hkP hinit
  obtain ⟨vm₁, X₁, hstep₁⟩ := X.invokestatic hexec hown hlink hnamed hmethM hstatic hkP hinitP hy (g := g) hg (argsL := argsL) (rest := rest) (hlen _ hsigM) hstack hdg
  rcases hK m meth c ⟨T.setVm vm₁, locs, cells, slots⟩ { g with stack := rest } (.invokestatic index) mk argsL.toArray X₁ hg hsize hdg hW (X₁.named hnamed) (hpre vm₁ X₁.warmed) with ⟨v, B, X', hpost, hsteps⟩ | ⟨q, B, X', hpost, hsteps⟩
  · exact Or.inl ⟨v, vm₁, B, X₁.warmed, X', hpost, fun target h => hstep₁ _ fun acts => by rw [doInvoke_state]; exact hsteps.trans h⟩
  · exact Or.inr ⟨q, vm₁, B, X₁.warmed, X', hpost, hstep₁ _ fun acts => by rw [doInvoke_state]; exact hsteps⟩
end Calls
theorem vx_cls {s : State} {T : State} {vm₁ : Vm} {E : String} {k : ClassId} (hW : s.WarmedH vm₁) (h : (T.setVm vm₁).vm.findClass E = some k) : s.vm.findClass E = some k := by
  have h1 : vm₁.findClass E = some k := h
  rw [hW.alike.findClass] at h1
  exact h1
/-- the method's frame g, with q thrown over it -/
def vx_W (p : Program) (l : Launch) (e : Env) (R : Room) (s : State) (m : MethodId) (args : Array Value) (below : List Frame) (meth : Method) (c : Code) (H : Heap) (locs : List Loc) (cells slots : Nat) (Q : State → Prop) (g : JFrame) (q : Addr) : Prop :=
  ∀ T : State, T.heap = H → Stand p l e R s m args below meth c T locs cells slots → ∃ t, Steps p.tables e below ((T.setTop g).pushFrame (.throwing q)) t ∧ Q t
def vx_Run (p : Program) (l : Launch) (e : Env) (R : Room) (s : State) (m : MethodId) (args : Array Value) (below : List Frame) (meth : Method) (c : Code) (H : Heap) (locs : List Loc) (cells slots mc ms : Nat) (g : JFrame) (rest : List Value) (Qa : State → Outcome → State → Prop) (XC : String → State → State → Prop) (free : Addr → Prop) : Prop :=
  ∀ T : State, T.heap = H → Stand p l e R s m args below meth c T locs cells slots →
    (∃ (v : Option Value) (st₀ t T' : State) (L : List Loc), st₀.heap = H ∧ Stand p l e R s m args below meth c T' (locs ++ L) (cells + mc) (slots + ms) ∧ (∀ q ∈ L, free q.base) ∧ T'.heap = t.heap ∧ T'.vm = t.vm ∧ Qa st₀ (.returned v) t ∧
      Goes p e below T g T' { g with pc := g.pc + 3, stack := v.toList ++ rest }) ∨
    (∃ (q : Addr) (st₀ t T' : State) (L : List Loc) (E : String) (ce : Cell), st₀.heap = H ∧ Stand p l e R s m args below meth c T' (locs ++ L) (cells + mc) (slots + ms) ∧ (∀ z ∈ L, free z.base) ∧ T'.heap = t.heap ∧ T'.vm = t.vm ∧ XC E st₀ t ∧ t.heap[q]? = some ce ∧ ce.vm = .none ∧ s.vm.findClass E = some ce.cls ∧
      Steps p.tables e below (T.setTop g) ((T'.setTop { g with stack := rest }).pushFrame (.throwing q)))
def vx_X {S : Type} (px : S → Prop) (B : String → S → State → Prop) (A : Nat → Prop) : String → State → State → Prop := fun E st t => ∃ u : S, px u ∧ B E u t ∧ va_F A st t
section Runs
variable {p : Program} {l : Launch} {e : Env} {R : Room} {s : State} {m : MethodId} {args : Array Value} {below : List Frame} {meth : Method} {c : Code} {H : Heap} {locs : List Loc} {cells slots : Nat}
variable {y : MethodName} {bytes cc : ByteArray} {maxL nL mc ms n index : Nat} {ret : Option FieldType} {ws : List Cond} {rm : Room} {Pc : Array Value → State → Prop} {Qc : Array Value → State → Outcome → State → Prop} {XC : String → State → State → Prop} {free : Addr → Prop} {Ts : List Cond} {own C : String} {b : Addr} {As rest : List Value} {g : JFrame}
theorem vx_callBack (cb : CallB R s args own index y bytes maxL ret ws rm mc ms n) (hM : vx_Met l y ws rm Pc Qc XC mc ms free) (hbl : FrameBlind Pc) : vx_Back l R p e below s args y 3 8 (PreOf R mc ms Pc) (PostOf Qc mc ms free) (vx_Post XC mc ms free) := by
  obtain ⟨hrc, hrs, hfr, hlo, hws, hcw, -, hini, -⟩ := cb
  exact vx_back (bytes := bytes) (maxL := maxL) (ret := ret) hM hbl hrc hrs hfr hlo hws hcw (fun a' U hW => word_at hW (Or.inl (by first | rfl | simp [Cond.onTables, Cond.keeps, Cond.steady])) hini)
theorem vx_runV (S : CallFix p m c cc nL s args Ts own) (hM : vx_Met l y ws rm Pc Qc XC mc ms free) (cw : CallW R s args own C index y bytes maxL ret ws rm mc ms n) (hp : PreV s H C b Pc As)
    (hg : g.method = m) (hn : As.length = n) (hsize : g.locals.size = nL) (hstack : g.stack = As.reverse ++ .ref b :: rest) (hW : 2 * g.monitorRoom + (rest.map fun v => v.category).sum ≤ 8) (hdg : decode cc g.pc = .ok (.invokevirtual index, 3)) (hf : cells + mc ≤ R.cells ∧ slots + ms ≤ R.slots) :
    vx_Run p l e R s m args below meth c H locs cells slots mc ms g rest (Qc (Value.ref b :: As).toArray) XC free := by
  have hK : vx_Back l R p e below s args y 3 8 (PreOf R mc ms Pc) (PostOf Qc mc ms free) (vx_Post XC mc ms free) := vx_callBack cw.1 hM hp.1
  obtain ⟨⟨-, -, -, -, -, -, hcode, -, hy, hlen, hl⟩, hin, hse⟩ := cw
  obtain ⟨hx, hb, hml, ho, -⟩ := S
  obtain ⟨-, ⟨cellB, hcB, hoB, hclB⟩, hPc⟩ := hp
  intro T hT X
  rcases vx_callV X hx (C := C) (bytes := bytes) (maxL := maxL) (ret := ret) ho hl hin hse hcode hy hK (by rw [hT]; exact hcB) hoB hclB hg (hsize.trans hml.symm) (argsL := As) (rest := rest) (fun sig h => hn.trans (hlen sig h)) hstack hW (by rw [hb]; exact hdg)
    (fun vm₁ hW₁ => ⟨hf.1, hf.2, hPc (T.setVm vm₁) hT hW₁⟩) with ⟨v, vm₁, ⟨U', l2, c2, s2⟩, hW₁, X', ⟨g', mk, t, L, e1, e2, hq, h1, hL, h2, h3⟩, st⟩ | ⟨q, vm₁, ⟨U', l2, c2, s2⟩, hW₁, X', ⟨g', mk, t, L, E, ce, e1, e2, hq, hce, hcv, hcl, h1, hL, h2, h3⟩, st⟩
  · dsimp only [Pt.U, Pt.locs, Pt.cells, Pt.slots] at X' e1 e2 h1 h2 h3 st
    subst h1; subst h2; subst h3
    exact Or.inl ⟨v, (T.setVm vm₁).calling g' mk (Value.ref b :: As).toArray, t, U', L, hT, X', hL, e1, e2, hq, st⟩
  · dsimp only [Pt.U, Pt.locs, Pt.cells, Pt.slots] at X' e1 e2 h1 h2 h3 st hcl
    subst h1; subst h2; subst h3
    exact Or.inr ⟨q, (T.setVm vm₁).calling g' mk (Value.ref b :: As).toArray, t, U', L, E, ce, hT, X', hL, e1, e2, hq, hce, hcv, vx_cls hW₁ hcl, st⟩
theorem vx_runS (S : CallFix p m c cc nL s args Ts own) (hM : vx_Met l y ws rm Pc Qc XC mc ms free) (cw : CallB R s args own index y bytes maxL ret ws rm mc ms n ∧ (Cond.static y).before args s = true) (hp : PreS s H Pc As)
    (hg : g.method = m) (hn : As.length = n) (hsize : g.locals.size = nL) (hstack : g.stack = As.reverse ++ rest) (hW : 2 * g.monitorRoom + (rest.map fun v => v.category).sum ≤ 8) (hdg : decode cc g.pc = .ok (.invokestatic index, 3)) (hf : cells + mc ≤ R.cells ∧ slots + ms ≤ R.slots) :
    vx_Run p l e R s m args below meth c H locs cells slots mc ms g rest (Qc As.toArray) XC free := by
  have hK : vx_Back l R p e below s args y 3 8 (PreOf R mc ms Pc) (PostOf Qc mc ms free) (vx_Post XC mc ms free) := vx_callBack cw.1 hM hp.1
  obtain ⟨⟨-, -, -, -, -, -, hcode, hini, hy, hlen, hl⟩, hstt⟩ := cw
  obtain ⟨hx, hb, hml, ho, -⟩ := S
  intro T hT X
  rcases vx_callS X hx (bytes := bytes) (maxL := maxL) (ret := ret) ho hl hstt hini hcode hy hK hg (hsize.trans hml.symm) (argsL := As) (rest := rest) (fun sig h => hn.trans (hlen sig h)) hstack hW (by rw [hb]; exact hdg)
    (fun vm₁ hW₁ => ⟨hf.1, hf.2, hp.2 (T.setVm vm₁) hT hW₁⟩) with ⟨v, vm₁, ⟨U', l2, c2, s2⟩, hW₁, X', ⟨g', mk, t, L, e1, e2, hq, h1, hL, h2, h3⟩, st⟩ | ⟨q, vm₁, ⟨U', l2, c2, s2⟩, hW₁, X', ⟨g', mk, t, L, E, ce, e1, e2, hq, hce, hcv, hcl, h1, hL, h2, h3⟩, st⟩
  · dsimp only [Pt.U, Pt.locs, Pt.cells, Pt.slots] at X' e1 e2 h1 h2 h3 st
    subst h1; subst h2; subst h3
    exact Or.inl ⟨v, (T.setVm vm₁).calling g' mk As.toArray, t, U', L, hT, X', hL, e1, e2, hq, st⟩
  · dsimp only [Pt.U, Pt.locs, Pt.cells, Pt.slots] at X' e1 e2 h1 h2 h3 st hcl
    subst h1; subst h2; subst h3
    exact Or.inr ⟨q, (T.setVm vm₁).calling g' mk As.toArray, t, U', L, E, ce, hT, X', hL, e1, e2, hq, hce, hcv, vx_cls hW₁ hcl, st⟩
end Runs
section Rows
variable {p : Program} {l : Launch} {e : Env} {R : Room} {s : State} {m : MethodId} {args : Array Value} {below : List Frame} {meth : Method} {c : Code} {H : Heap} {locs : List Loc} {cells slots : Nat} {Q : State → Prop}
variable {mc ms : Nat} {free : Addr → Prop} {A0 A1 : Nat → Prop} {H0 : Heap} {a : Array Value} {pc : Nat} {ls : Array Slot} {st0 rest : List Value}
theorem vx_keep {st₀ t T' : State} {L : List Loc} (h0 : st₀.heap = H) (e1 : T'.heap = t.heap) (hS : va_S A0 H0 H locs) (hA : ∀ q, q < H.size → A1 q → A0 q) (hf : ∀ q, free q → A0 q) (hL : ∀ q ∈ L, free q.base) (hF : va_F A1 st₀ t) :
    H.size ≤ T'.heap.size ∧ (∀ q : Nat, q < H.size → ¬ A1 q → T'.heap[q]? = H[q]?) ∧ va_S A0 H0 T'.heap (locs ++ L) := by
  obtain ⟨hz, hk⟩ := hF
  rw [h0] at hz hk
  exact ⟨by rw [e1]; exact hz, fun q h1 h2 => by rw [e1]; exact hk q h1 h2,
    ⟨Nat.le_trans hS.1 (by rw [e1]; exact hz), fun q h1 h2 => by rw [e1, hk q (Nat.lt_of_lt_of_le h1 hS.1) (fun z => h2 (hA q (Nat.lt_of_lt_of_le h1 hS.1) z))]; exact hS.2.1 q h1 h2, fun q hq => by
      rcases List.mem_append.mp hq with h | h
      · exact hS.2.2 q h
      · exact hf _ (hL q h)⟩⟩
theorem vx_calli {S SX : Type} {post : Int32 → S → Prop} {px : SX → Prop} {B : S → State → Prop} {BX : String → SX → State → Prop} {AX : Nat → Prop} (hr : vx_Run p l e R s m args below meth c H locs cells slots mc ms (F0 m pc ls st0) rest (va_Qi post B A1 a) (vx_X px BX AX) free) (hS : va_S A0 H0 H locs) (hA : ∀ q, q < H.size → A1 q → A0 q) (hf : ∀ q, free q → A0 q) (hAX : ∀ q, q < H.size → AX q → A0 q)
    (kx : ∀ (E : String) (ce : Cell) (q9 : Addr) (u : SX) (t : State) (H1 : Heap) (locs1 : List Loc), t.heap = H1 → s.vm.Alike t.vm → px u → BX E u t → H.size ≤ H1.size → (∀ q : Nat, q < H.size → ¬ AX q → H1[q]? = H[q]?) → va_S A0 H0 H1 locs1 → H1[q9]? = some ce → ce.vm = .none → s.vm.findClass E = some ce.cls → vx_W p l e R s m args below meth c H1 locs1 (cells + mc) (slots + ms) Q (F0 m pc ls rest) q9)
    (kk : ∀ (r : Int32) (u : S) (t : State) (H1 : Heap) (locs1 : List Loc), t.heap = H1 → s.vm.Alike t.vm → post r u → B u t → H.size ≤ H1.size → (∀ q : Nat, q < H.size → ¬ A1 q → H1[q]? = H[q]?) → va_S A0 H0 H1 locs1 → W p l e R s m args below meth c H1 locs1 (cells + mc) (slots + ms) Q (F0 m (pc + 3) ls (.int r :: rest))) : W p l e R s m args below meth c H locs cells slots Q (F0 m pc ls st0) := by
  intro T hT X
  rcases hr T hT X with ⟨v, st₀, t, T', L, h0, X', hL, e1, e2, ⟨⟨r, u, hv, hp, hb⟩, hF⟩, st⟩ | ⟨q, st₀, t, T', L, E, ce, h0, X', hL, e1, e2, ⟨u, hp, hb, hF⟩, hce, hcv, hcl, st⟩
  · cases hv
    obtain ⟨k1, k2, k3⟩ := vx_keep h0 e1 hS hA hf hL hF
    obtain ⟨t2, a1, b1⟩ := kk r u t T'.heap (locs ++ L) e1.symm (by rw [← e2]; exact X'.warmed.alike) hp hb k1 k2 k3 T' rfl X'
    exact ⟨t2, st t2 a1, b1⟩
  · obtain ⟨k1, k2, k3⟩ := vx_keep h0 e1 hS hAX hf hL hF
    obtain ⟨t2, a1, b1⟩ := kx E ce q u t T'.heap (locs ++ L) e1.symm (by rw [← e2]; exact X'.warmed.alike) hp hb k1 k2 k3 (by rw [e1]; exact hce) hcv hcl T' rfl X'
    exact ⟨t2, st.trans a1, b1⟩
theorem vx_calll {S SX : Type} {post : Int64 → S → Prop} {px : SX → Prop} {B : S → State → Prop} {BX : String → SX → State → Prop} {AX : Nat → Prop} (hr : vx_Run p l e R s m args below meth c H locs cells slots mc ms (F0 m pc ls st0) rest (va_Ql post B A1 a) (vx_X px BX AX) free) (hS : va_S A0 H0 H locs) (hA : ∀ q, q < H.size → A1 q → A0 q) (hf : ∀ q, free q → A0 q) (hAX : ∀ q, q < H.size → AX q → A0 q)
    (kx : ∀ (E : String) (ce : Cell) (q9 : Addr) (u : SX) (t : State) (H1 : Heap) (locs1 : List Loc), t.heap = H1 → s.vm.Alike t.vm → px u → BX E u t → H.size ≤ H1.size → (∀ q : Nat, q < H.size → ¬ AX q → H1[q]? = H[q]?) → va_S A0 H0 H1 locs1 → H1[q9]? = some ce → ce.vm = .none → s.vm.findClass E = some ce.cls → vx_W p l e R s m args below meth c H1 locs1 (cells + mc) (slots + ms) Q (F0 m pc ls rest) q9)
    (kk : ∀ (r : Int64) (u : S) (t : State) (H1 : Heap) (locs1 : List Loc), t.heap = H1 → s.vm.Alike t.vm → post r u → B u t → H.size ≤ H1.size → (∀ q : Nat, q < H.size → ¬ A1 q → H1[q]? = H[q]?) → va_S A0 H0 H1 locs1 → W p l e R s m args below meth c H1 locs1 (cells + mc) (slots + ms) Q (F0 m (pc + 3) ls (.long r :: rest))) : W p l e R s m args below meth c H locs cells slots Q (F0 m pc ls st0) := by
  intro T hT X
  rcases hr T hT X with ⟨v, st₀, t, T', L, h0, X', hL, e1, e2, ⟨⟨r, u, hv, hp, hb⟩, hF⟩, st⟩ | ⟨q, st₀, t, T', L, E, ce, h0, X', hL, e1, e2, ⟨u, hp, hb, hF⟩, hce, hcv, hcl, st⟩
  · cases hv
    obtain ⟨k1, k2, k3⟩ := vx_keep h0 e1 hS hA hf hL hF
    obtain ⟨t2, a1, b1⟩ := kk r u t T'.heap (locs ++ L) e1.symm (by rw [← e2]; exact X'.warmed.alike) hp hb k1 k2 k3 T' rfl X'
    exact ⟨t2, st t2 a1, b1⟩
  · obtain ⟨k1, k2, k3⟩ := vx_keep h0 e1 hS hAX hf hL hF
    obtain ⟨t2, a1, b1⟩ := kx E ce q u t T'.heap (locs ++ L) e1.symm (by rw [← e2]; exact X'.warmed.alike) hp hb k1 k2 k3 (by rw [e1]; exact hce) hcv hcl T' rfl X'
    exact ⟨t2, st.trans a1, b1⟩
theorem vx_callf {S SX : Type} {post : UInt32 → S → Prop} {px : SX → Prop} {B : S → State → Prop} {BX : String → SX → State → Prop} {AX : Nat → Prop} (hr : vx_Run p l e R s m args below meth c H locs cells slots mc ms (F0 m pc ls st0) rest (va_Qf post B A1 a) (vx_X px BX AX) free) (hS : va_S A0 H0 H locs) (hA : ∀ q, q < H.size → A1 q → A0 q) (hf : ∀ q, free q → A0 q) (hAX : ∀ q, q < H.size → AX q → A0 q)
    (kx : ∀ (E : String) (ce : Cell) (q9 : Addr) (u : SX) (t : State) (H1 : Heap) (locs1 : List Loc), t.heap = H1 → s.vm.Alike t.vm → px u → BX E u t → H.size ≤ H1.size → (∀ q : Nat, q < H.size → ¬ AX q → H1[q]? = H[q]?) → va_S A0 H0 H1 locs1 → H1[q9]? = some ce → ce.vm = .none → s.vm.findClass E = some ce.cls → vx_W p l e R s m args below meth c H1 locs1 (cells + mc) (slots + ms) Q (F0 m pc ls rest) q9)
    (kk : ∀ (r : UInt32) (u : S) (t : State) (H1 : Heap) (locs1 : List Loc), t.heap = H1 → s.vm.Alike t.vm → post r u → B u t → H.size ≤ H1.size → (∀ q : Nat, q < H.size → ¬ A1 q → H1[q]? = H[q]?) → va_S A0 H0 H1 locs1 → W p l e R s m args below meth c H1 locs1 (cells + mc) (slots + ms) Q (F0 m (pc + 3) ls (.float r :: rest))) : W p l e R s m args below meth c H locs cells slots Q (F0 m pc ls st0) := by
  intro T hT X
  rcases hr T hT X with ⟨v, st₀, t, T', L, h0, X', hL, e1, e2, ⟨⟨r, u, hv, hp, hb⟩, hF⟩, st⟩ | ⟨q, st₀, t, T', L, E, ce, h0, X', hL, e1, e2, ⟨u, hp, hb, hF⟩, hce, hcv, hcl, st⟩
  · cases hv
    obtain ⟨k1, k2, k3⟩ := vx_keep h0 e1 hS hA hf hL hF
    obtain ⟨t2, a1, b1⟩ := kk r u t T'.heap (locs ++ L) e1.symm (by rw [← e2]; exact X'.warmed.alike) hp hb k1 k2 k3 T' rfl X'
    exact ⟨t2, st t2 a1, b1⟩
  · obtain ⟨k1, k2, k3⟩ := vx_keep h0 e1 hS hAX hf hL hF
    obtain ⟨t2, a1, b1⟩ := kx E ce q u t T'.heap (locs ++ L) e1.symm (by rw [← e2]; exact X'.warmed.alike) hp hb k1 k2 k3 (by rw [e1]; exact hce) hcv hcl T' rfl X'
    exact ⟨t2, st.trans a1, b1⟩
theorem vx_calld {S SX : Type} {post : UInt64 → S → Prop} {px : SX → Prop} {B : S → State → Prop} {BX : String → SX → State → Prop} {AX : Nat → Prop} (hr : vx_Run p l e R s m args below meth c H locs cells slots mc ms (F0 m pc ls st0) rest (va_Qd post B A1 a) (vx_X px BX AX) free) (hS : va_S A0 H0 H locs) (hA : ∀ q, q < H.size → A1 q → A0 q) (hf : ∀ q, free q → A0 q) (hAX : ∀ q, q < H.size → AX q → A0 q)
    (kx : ∀ (E : String) (ce : Cell) (q9 : Addr) (u : SX) (t : State) (H1 : Heap) (locs1 : List Loc), t.heap = H1 → s.vm.Alike t.vm → px u → BX E u t → H.size ≤ H1.size → (∀ q : Nat, q < H.size → ¬ AX q → H1[q]? = H[q]?) → va_S A0 H0 H1 locs1 → H1[q9]? = some ce → ce.vm = .none → s.vm.findClass E = some ce.cls → vx_W p l e R s m args below meth c H1 locs1 (cells + mc) (slots + ms) Q (F0 m pc ls rest) q9)
    (kk : ∀ (r : UInt64) (u : S) (t : State) (H1 : Heap) (locs1 : List Loc), t.heap = H1 → s.vm.Alike t.vm → post r u → B u t → H.size ≤ H1.size → (∀ q : Nat, q < H.size → ¬ A1 q → H1[q]? = H[q]?) → va_S A0 H0 H1 locs1 → W p l e R s m args below meth c H1 locs1 (cells + mc) (slots + ms) Q (F0 m (pc + 3) ls (.double r :: rest))) : W p l e R s m args below meth c H locs cells slots Q (F0 m pc ls st0) := by
  intro T hT X
  rcases hr T hT X with ⟨v, st₀, t, T', L, h0, X', hL, e1, e2, ⟨⟨r, u, hv, hp, hb⟩, hF⟩, st⟩ | ⟨q, st₀, t, T', L, E, ce, h0, X', hL, e1, e2, ⟨u, hp, hb, hF⟩, hce, hcv, hcl, st⟩
  · cases hv
    obtain ⟨k1, k2, k3⟩ := vx_keep h0 e1 hS hA hf hL hF
    obtain ⟨t2, a1, b1⟩ := kk r u t T'.heap (locs ++ L) e1.symm (by rw [← e2]; exact X'.warmed.alike) hp hb k1 k2 k3 T' rfl X'
    exact ⟨t2, st t2 a1, b1⟩
  · obtain ⟨k1, k2, k3⟩ := vx_keep h0 e1 hS hAX hf hL hF
    obtain ⟨t2, a1, b1⟩ := kx E ce q u t T'.heap (locs ++ L) e1.symm (by rw [← e2]; exact X'.warmed.alike) hp hb k1 k2 k3 (by rw [e1]; exact hce) hcv hcl T' rfl X'
    exact ⟨t2, st.trans a1, b1⟩
theorem vx_callv {S SX : Type} {post : S → Prop} {px : SX → Prop} {B : S → State → Prop} {BX : String → SX → State → Prop} {AX : Nat → Prop} (hr : vx_Run p l e R s m args below meth c H locs cells slots mc ms (F0 m pc ls st0) rest (va_Qv post B A1 a) (vx_X px BX AX) free) (hS : va_S A0 H0 H locs) (hA : ∀ q, q < H.size → A1 q → A0 q) (hf : ∀ q, free q → A0 q) (hAX : ∀ q, q < H.size → AX q → A0 q)
    (kx : ∀ (E : String) (ce : Cell) (q9 : Addr) (u : SX) (t : State) (H1 : Heap) (locs1 : List Loc), t.heap = H1 → s.vm.Alike t.vm → px u → BX E u t → H.size ≤ H1.size → (∀ q : Nat, q < H.size → ¬ AX q → H1[q]? = H[q]?) → va_S A0 H0 H1 locs1 → H1[q9]? = some ce → ce.vm = .none → s.vm.findClass E = some ce.cls → vx_W p l e R s m args below meth c H1 locs1 (cells + mc) (slots + ms) Q (F0 m pc ls rest) q9)
    (kk : ∀ (u : S) (t : State) (H1 : Heap) (locs1 : List Loc), t.heap = H1 → s.vm.Alike t.vm → post u → B u t → H.size ≤ H1.size → (∀ q : Nat, q < H.size → ¬ A1 q → H1[q]? = H[q]?) → va_S A0 H0 H1 locs1 → W p l e R s m args below meth c H1 locs1 (cells + mc) (slots + ms) Q (F0 m (pc + 3) ls (rest))) : W p l e R s m args below meth c H locs cells slots Q (F0 m pc ls st0) := by
  intro T hT X
  rcases hr T hT X with ⟨v, st₀, t, T', L, h0, X', hL, e1, e2, ⟨⟨u, hv, hp, hb⟩, hF⟩, st⟩ | ⟨q, st₀, t, T', L, E, ce, h0, X', hL, e1, e2, ⟨u, hp, hb, hF⟩, hce, hcv, hcl, st⟩
  · cases hv
    obtain ⟨k1, k2, k3⟩ := vx_keep h0 e1 hS hA hf hL hF
    obtain ⟨t2, a1, b1⟩ := kk u t T'.heap (locs ++ L) e1.symm (by rw [← e2]; exact X'.warmed.alike) hp hb k1 k2 k3 T' rfl X'
    exact ⟨t2, st t2 a1, b1⟩
  · obtain ⟨k1, k2, k3⟩ := vx_keep h0 e1 hS hAX hf hL hF
    obtain ⟨t2, a1, b1⟩ := kx E ce q u t T'.heap (locs ++ L) e1.symm (by rw [← e2]; exact X'.warmed.alike) hp hb k1 k2 k3 (by rw [e1]; exact hce) hcv hcl T' rfl X'
    exact ⟨t2, st.trans a1, b1⟩
/-- caught by the row x of this method's table; the rows ahead don't take it -/
theorem vx_catch {own name : String} {E : String} {ce : Cell} {q : Addr} (hown : s.vm.findClass own = some m.cls) (pre : List ExceptionTableEntry) (x : ExceptionTableEntry) (suf : List ExceptionTableEntry) (hsplit : c.exceptionTable.toList = pre ++ x :: suf)
    (hpass : ∀ z ∈ pre, covers z pc = false ∨ (z.catchType ≠ 0 ∧ ∃ nm : String, (Cond.classLink own z.catchType nm).before args s = true ∧ va_Nc E nm s)) (hx : covers x pc = true) (h0 : x.catchType ≠ 0)
    (hlink : (Cond.classLink own x.catchType name).before args s = true) (hcast : (Cond.castable E name).before args s = true) (hcell : H[q]? = some ce) (hv : ce.vm = .none) (hcl : s.vm.findClass E = some ce.cls)
    (kk : W p l e R s m args below meth c H locs cells slots Q (F0 m x.handlerPc ls [.ref q])) : vx_W p l e R s m args below meth c H locs cells slots Q (F0 m pc ls rest) q := by
  intro T hT X
  have hpl : e.platform.magicAccessors = ({} : Platform).magicAccessors := by rw [X.admits.platform]
  obtain ⟨c3, c4, hc3, hc4, hasg⟩ := Cond.castable_spec hcast
  cases Option.some.inj (hc3.symm.trans hcl)
  obtain ⟨c5, hc5, hcl5⟩ := Cond.classLink_spec hown hlink e.platform hpl
  cases Option.some.inj (hc4.symm.trans hc5)
  obtain ⟨vm', X', st⟩ := X.thenCaughtThrough q (g := F0 m pc ls rest) rfl (Steps.refl _) (by rw [hT]; exact hcell) (by rw [hv]; rfl) (by obtain ⟨k9, h9, -⟩ := Vm.findClass_spec hcl; exact ⟨k9, h9⟩) pre x suf hsplit
    (fun z hz => by
      rcases hpass z hz with h | ⟨hz0, nm, hl1, hn1⟩
      · exact Or.inl h
      · obtain ⟨c6, hc6, hcl6⟩ := Cond.classLink_spec hown hl1 e.platform hpl
        obtain ⟨a8, b8, h1, h2, h3⟩ := hn1
        cases Option.some.inj (h1.symm.trans hcl)
        cases Option.some.inj (h2.symm.trans hc6)
        exact Or.inr ⟨hz0, _, hcl6, h3⟩) hx (Or.inr ⟨h0, c4, hcl5, hasg⟩)
  obtain ⟨t, a1, b1⟩ := kk (T.setVm vm') hT X'
  exact ⟨t, st.trans a1, b1⟩
end Rows
section Ends
variable {p : Program} {l : Launch} {e : Env} {R : Room} {s : State} {m : MethodId} {args : Array Value} {below : List Frame} {meth : Method} {c : Code} {H : Heap} {locs : List Loc} {cells slots : Nat} {Q : State → Prop}
variable {mc ms : Nat} {free : Addr → Prop} {A0 A1 : Nat → Prop} {H0 : Heap} {a : Array Value} {ls : Array Slot} {st0 rest : List Value}
variable {Qc : Array Value → State → Outcome → State → Prop} {XC : String → State → State → Prop}
/-- what a body that may throw owes at its end -/
def vx_MQ (below : List Frame) (Qc : Array Value → State → Outcome → State → Prop) (XC : String → State → State → Prop) (a : Array Value) (s : State) (mc ms : Nat) (free : Addr → Prop) : State → Prop := fun t =>
  ∃ o, t.status = .running ∧ Ended t below o ∧ vx_Q Qc XC mc ms free a s o t
theorem vx_ret {g : JFrame} {mc ms : Nat} (k : W p l e R s m args below meth c H locs cells slots (MQ below Qc args s mc ms free) g) : W p l e R s m args below meth c H locs cells slots (vx_MQ below Qc XC args s mc ms free) g := by
  intro T hT X
  obtain ⟨t, a1, o, b1, b2, b3, b4⟩ := k T hT X
  exact ⟨t, a1, o, b1, b2, Or.inl ⟨b3, b4⟩⟩
/-- not caught here: it goes on to the caller -/
theorem vx_widen {g : JFrame} {q : Addr} {k n : Nat} (h1 : cells ≤ k) (h2 : slots ≤ n) (kk : vx_W p l e R s m args below meth c H locs k n Q g q) : vx_W p l e R s m args below meth c H locs cells slots Q g q := fun T hT X => kk T hT (stand_widen X h1 h2)
theorem vx_out {pc : Nat} {E : String} {ce : Cell} {q : Addr} {mc ms : Nat} (hout : ∀ x ∈ c.exceptionTable.toList, covers x pc = false) (hlocks : meth.locks = false) (hcell : H[q]? = some ce) (hv : ce.vm = .none) (hcl : s.vm.findClass E = some ce.cls)
    (hx : ∀ t : State, t.heap = H → s.vm.Alike t.vm → XC E s t) (hf : ∀ z ∈ locs, free z.base) (hc : cells ≤ mc) (hs : slots ≤ ms) :
    vx_W p l e R s m args below meth c H locs cells slots (vx_MQ below Qc XC args s mc ms free) (F0 m pc ls rest) q := by
  intro T hT X
  obtain ⟨st1, hrun, hend, hW, hsm⟩ := X.leaveThrown q (g := F0 m pc ls rest) rfl rfl rfl hout hlocks
  have hcell9 : (T.setFrames (.throwing q :: below)).heap[q]? = some ce := by
    show T.heap[q]? = some ce
    rw [hT]; exact hcell
  exact ⟨_, st1, .threw q, hrun, hend, Or.inr ⟨q, rfl, E, ce, locs, hx _ hT hW.alike, hcell9, hv, hcl, hW, hsm.mono hc hs, hf⟩⟩
theorem vx_frame {U : State} {k n : Nat} (h : s.sameButNew ({ U with vm := s.vm } : State) locs k n) : s.heap.size ≤ U.heap.size ∧ ∀ q : Nat, q < s.heap.size → (∀ z ∈ locs, z.base ≠ q) → U.heap[q]? = s.heap[q]? := by
  obtain ⟨-, h2, -, -, -, h6⟩ := h
  refine ⟨h2, fun q hq hz => ?_⟩
  obtain ⟨c9, e1, e2, e3, e4⟩ := h6 q _ (Array.getElem?_eq_getElem hq)
  have hs : c9.slots = (s.heap[q]).slots := Array.ext_getElem? fun i => e4 i fun hm => hz _ hm rfl
  have h9 : c9 = s.heap[q] := by
    rw [hs] at e2
    exact e2
  have e5 : U.heap[q]? = some c9 := e1
  rw [e5, h9, Array.getElem?_eq_getElem hq]
/-- the words of a throw but the four that speak of the heap -/
def vx_no (w : Cond) : Bool := decide (w ≠ .isRef (.static Bundle.tN "UNASSIGNED_STACK" Bundle.steD)) && decide (w ≠ .isRef (.static Bundle.tN "SUPPRESSED_SENTINEL" Bundle.listD)) && decide (w ≠ .laysStatic Bundle.tN "UNASSIGNED_STACK" Bundle.steD) && decide (w ≠ .laysStatic Bundle.tN "SUPPRESSED_SENTINEL" Bundle.listD)
def vx_at0 (own : String) (ic : Nat) (X : String) (names : List String) : List Cond := (Bundle.ownAtoms0 own ic X names).filter vx_no
def vx_atS (own : String) (ic : Nat) (X : String) (names : List String) : List Cond := (Bundle.ownAtoms own ic X names).filter vx_no
/-- a word that the tables alone decide, or a good one -/
def vx_ot (w : Cond) : Bool := w.onTables || goodWord w
theorem vx_ot_at {args a' : Array Value} {s U : State} {w : Cond} (hW : s.WarmedH U.vm) (hvm : s.vm = U.vm) (hg : vx_ot w = true) (h : w.before args s = true) : w.before a' U = true := by
  simp only [vx_ot, Bool.or_eq_true] at hg
  rcases hg with hg | hg
  · exact va_tabs hg hvm h
  · exact word_at hW (good_of_word hg) h
/-- a list's words: the good ones out of the method's own list, the others by premises of their own -/
theorem vx_hat {args : Array Value} {s : State} {L B : List Cond} (h1 : ∀ w ∈ L.filter goodWord, w.before args s = true) (h2 : ∀ w ∈ L.filter (fun w => !goodWord w), w ∈ B) (h3 : ∀ w ∈ B, w.before args s = true) : ∀ w ∈ L, w.before args s = true := by
  intro w hw
  by_cases g : goodWord w = true
  · exact h1 w (List.mem_filter.mpr ⟨hw, g⟩)
  · refine h3 w (h2 w (List.mem_filter.mpr ⟨hw, ?_⟩))
    show (!goodWord w) = true
    cases hgw : goodWord w
    · rfl
    · exact absurd hgw g
theorem vx_c {args : Array Value} {s : State} {w : Cond} {B : List Cond} (h : w.before args s = true) (t : ∀ w ∈ B, w.before args s = true) : ∀ w' ∈ w :: B, w'.before args s = true := fun w' h' => (List.mem_cons.mp h').elim (fun e => by rw [e]; exact h) (t w')
theorem vx_n {args : Array Value} {s : State} : ∀ w ∈ ([] : List Cond), w.before args s = true := fun _ h => nomatch h
theorem vx_own {args : Array Value} {s : State} {L : List Cond} (h1 : ∀ w ∈ L.filter vx_no, w.before args s = true)
    (hU : (Cond.isRef (.static Bundle.tN "UNASSIGNED_STACK" Bundle.steD)).before args s = true) (hN : (Cond.isRef (.static Bundle.tN "SUPPRESSED_SENTINEL" Bundle.listD)).before args s = true)
    (lU : (Cond.laysStatic Bundle.tN "UNASSIGNED_STACK" Bundle.steD).before args s = true) (lN : (Cond.laysStatic Bundle.tN "SUPPRESSED_SENTINEL" Bundle.listD).before args s = true) : ∀ w ∈ L, w.before args s = true := by
  intro w hw
  by_cases e1 : w = .isRef (.static Bundle.tN "UNASSIGNED_STACK" Bundle.steD)
  · rw [e1]; exact hU
  · by_cases e2 : w = .isRef (.static Bundle.tN "SUPPRESSED_SENTINEL" Bundle.listD)
    · rw [e2]; exact hN
    · by_cases e3 : w = .laysStatic Bundle.tN "UNASSIGNED_STACK" Bundle.steD
      · rw [e3]; exact lU
      · by_cases e4 : w = .laysStatic Bundle.tN "SUPPRESSED_SENTINEL" Bundle.listD
        · rw [e4]; exact lN
        · exact h1 w (List.mem_filter.mpr ⟨hw, by unfold vx_no; rw [decide_eq_true e1, decide_eq_true e2, decide_eq_true e3, decide_eq_true e4]; rfl⟩)
/-- where a static field lies, its class's statics cell in H -/
def vx_L (C n d : String) (A : Nat → Prop) (U : State) (H : Heap) : Prop := ∃ (c : ClassId) (k : Class) (i : Nat) (f : Field) (a : Nat) (cell : Cell), U.vm.findClass C = some c ∧ U.fieldFound? C n d = some (c, k, i, f) ∧ f.isStatic = true ∧ k.statics = some a ∧ H[a]? = some cell ∧ cell.vm.isStatics = true ∧ cell.cls = c ∧ f.slot < cell.slots.size ∧ k.staticTypes[f.slot]? = some f.type ∧ ¬ A a
theorem vx_L.moved {C n d : String} {A : Nat → Prop} {u U : State} {H : Heap} (hvm : u.vm.Alike U.vm) (h : vx_L C n d A u H) : vx_L C n d A U H := by
  obtain ⟨c, k, i, f, a, cell, h1, h2, h3, h4, h5, h6, h7, h8, h9, h10⟩ := h
  obtain ⟨k', hi', he⟩ := State.fieldFound?_setVm hvm h2
  exact ⟨c, k', i, f, a, cell, by rw [hvm.findClass]; exact h1, hi', h3, by rw [he]; exact h4, h5, h6, h7, h8, by rw [he]; exact h9, h10⟩
theorem vx_L.kept {C n d : String} {A : Nat → Prop} {U : State} {H H1 : Heap} (h : vx_L C n d A U H) (hq : ∀ a : Nat, a < H.size → ¬ A a → H1[a]? = H[a]?) : vx_L C n d A U H1 := by
  obtain ⟨c, k, i, f, a, cell, h1, h2, h3, h4, h5, h6, h7, h8, h9, h10⟩ := h
  exact ⟨c, k, i, f, a, cell, h1, h2, h3, h4, by rw [hq a (Array.getElem?_eq_some_iff.mp h5).1 h10]; exact h5, h6, h7, h8, h9, h10⟩
theorem vx_L.narrow {C n d : String} {A B : Nat → Prop} {U : State} {H : Heap} (h : vx_L C n d A U H) (hAB : ∀ q, B q → A q) : vx_L C n d B U H := by
  obtain ⟨c, k, i, f, a, cell, h1, h2, h3, h4, h5, h6, h7, h8, h9, h10⟩ := h
  exact ⟨c, k, i, f, a, cell, h1, h2, h3, h4, h5, h6, h7, h8, h9, fun z => h10 (hAB _ z)⟩
theorem vx_L.word {C n d : String} {A : Nat → Prop} {s : State} {args : Array Value} (h : vx_L C n d A s s.heap) : (Cond.laysStatic C n d).before args s = true := by
  obtain ⟨c, k, i, f, a, cell, h1, h2, h3, h4, h5, h6, h7, h8, h9, -⟩ := h
  show (Cond.laysStatic C n d).holds args s none s [] = true
  exact Cond.laysStatic_of h1 h2 h3 h4 h5 h6 h7 h8 h9
/-- .. and what it holds: null or some reference -/
def vx_Zq (C n d : String) (A : Nat → Prop) (U : State) (H : Heap) : Prop := va_Zq C n d A U H ∧ vx_L C n d A U H
theorem vx_Zq.moved {C n d : String} {A : Nat → Prop} {u U : State} {H : Heap} (hvm : u.vm.Alike U.vm) (h : vx_Zq C n d A u H) : vx_Zq C n d A U H := ⟨va_Zq.moved hvm h.1, vx_L.moved hvm h.2⟩
theorem vx_Zq.kept {C n d : String} {A : Nat → Prop} {U : State} {H H1 : Heap} (h : vx_Zq C n d A U H) (hq : ∀ a : Nat, a < H.size → ¬ A a → H1[a]? = H[a]?) : vx_Zq C n d A U H1 := ⟨va_Zq.kept h.1 hq, vx_L.kept h.2 hq⟩
theorem vx_Zq.narrow {C n d : String} {A B : Nat → Prop} {U : State} {H : Heap} (h : vx_Zq C n d A U H) (hAB : ∀ q, B q → A q) : vx_Zq C n d B U H := ⟨va_Zq.narrow h.1 hAB, vx_L.narrow h.2 hAB⟩
theorem vx_Zqof {args : Array Value} {s : State} {C n d : String} {A : Nat → Prop} (hl : (Cond.laysStatic C n d).before args s = true) (hini : (Cond.initialized C).before args s = true) (h : (Cond.isRef (.static C n d)).before args s = true) (hA : ∀ a : Nat, a < s.heap.size → ¬ A a) : vx_Zq C n d A s s.heap := by
  refine ⟨va_Zqof hl hini h hA, ?_⟩
  obtain ⟨c, k, i, f, a, cell, h1, h2, h3, h4, h5, h6, h7, h8, h9⟩ := Cond.laysStatic_spec hl
  exact ⟨c, k, i, f, a, cell, h1, h2, h3, h4, h5, h6, h7, h8, h9, hA a (Array.getElem?_eq_some_iff.mp h5).1⟩
theorem vx_isRef {C n d : String} {v : Value} {A : Nat → Prop} {s : State} {args : Array Value} (h : va_Z C n d v A s s.heap) (hv : v.isRef = true) : (Cond.isRef (.static C n d)).before args s = true := by
  obtain ⟨cf, kf, fi, f, a, cell, h1, h2, h3, h4, h5, h6, h7, -⟩ := h
  have he : (Term.static C n d).eval args s none [] s = some v := by
    simp [Term.eval, State.fieldNamed?, h1, h2, h4, h5, h6, h7]
  simp only [Cond.before, Cond.holds, Cond.value, he]
  cases v <;> simp_all [Value.isRef]
theorem vx_isRefq {C n d : String} {A : Nat → Prop} {s : State} {args : Array Value} (h : va_Zq C n d A s s.heap) : (Cond.isRef (.static C n d)).before args s = true := by
  rcases h with h | ⟨t, h⟩
  · exact vx_isRef h rfl
  · exact vx_isRef h rfl
/-- the same frame, seen from here: as if the method were called anew in this heap -/
theorem vx_rebase {T : State} (X : Stand p l e R s m args below meth c T locs cells slots) {R' : Room} (hf : R'.frames ≤ R.frames) (hl : R'.locals ≤ R.locals) (hc : cells + R'.cells ≤ R.cells) (hs : slots + R'.slots ≤ R.slots) :
    Stand p l e R' ((T.setVm s.vm).setFrames (.invoking m args :: below)) m args below meth c T [] 0 0 := by
  have htop : (T.setVm s.vm).topJava?.isSome := X.here.top
  have hF : ((T.setVm s.vm).setFrames (.invoking m args :: below)).frames = .invoking m args :: below := State.frames_setFrames _ (State.cur_lt_of_top htop)
  obtain ⟨g₀, hg0⟩ := Option.isSome_iff_exists.mp htop
  obtain ⟨r, hr⟩ := State.topJava?_eq_some.mp hg0
  have hl9 : e.platform.stackLimits (T.setVm s.vm).me = e.platform.stackLimits s.me := X.limits
  have hb9 : (T.setVm s.vm).me.stackBytes = s.me.stackBytes := X.bytes
  refine ⟨X.admits, X.cas, X.clock, hF, ?_, X.hears, X.method, X.code, X.here, X.tail, X.warmed, ?_, ?_, ?_⟩
  · have h := X.room
    have hU : ((T.setVm s.vm).setFrames (.invoking m args :: below)).localsInUse = s.localsInUse := by
      rw [State.localsInUse_invoking hF (meth := meth) (c := c) X.method X.code, State.localsInUse_invoking X.frames X.method X.code]
    simp only [State.hasRoom, Bool.and_eq_true, decide_eq_true_eq] at h ⊢
    obtain ⟨⟨⟨⟨h1, h2, h3, h4, h5, h6⟩, h7⟩, h8⟩, h9⟩ := h
    rw [X.frames, List.length_cons] at h2 h3
    have q1 := X.heapSize
    have q2 := X.used
    simp only [hF, hU, List.length_cons, State.stackLimits_setFrames, State.stackBytes_setFrames, hl9, hb9]
    refine ⟨⟨⟨⟨by omega, by omega, by omega, by omega, by omega, h6⟩, ?_⟩, ?_⟩, X.book⟩
    · show T.heap.size + R'.cells ≤ e.platform.maxCells
      omega
    · show T.slotsUsed + R'.slots ≤ e.platform.maxSlots
      omega
  · rw [State.stackLimits_setFrames]; rfl
  · rw [State.stackBytes_setFrames]; rfl
  · refine ⟨?_, Nat.le_refl _, Nat.le_refl _, ?_, ?_, fun a c9 h9 => ⟨c9, h9, rfl, rfl, fun _ _ => rfl⟩⟩
    · obtain ⟨t, ht, -⟩ := State.frames_cons hr
      show T.setVm s.vm = { ((T.setVm s.vm).setFrames (.invoking m args :: below)).setFrames (T.setVm s.vm).frames with heap := T.heap, slotsUsed := T.slotsUsed }
      rw [State.setFrames_setFrames, State.setFrames_self ht]
      rfl
    · show T.slotsUsed = T.slotsUsed + ((T.heap.toList.drop T.heap.size).map (·.slots.size)).sum
      rw [List.drop_eq_nil_of_le (Nat.le_of_eq Array.length_toList)]
      rfl
    · show ((T.heap.toList.drop T.heap.size).map (·.slots.size)).sum ≤ 0
      rw [List.drop_eq_nil_of_le (Nat.le_of_eq Array.length_toList)]
      exact Nat.le_refl _
/-- 'throw new E()': new; dup; invokespecial; athrow -/
theorem vx_throw0 {cc : ByteArray} {pc : Nat} (hexec : p.tables.exec = Jvm.exec) (hb : c.code = cc) (hl : l.stackTraces = false) {own cls : String} {names : List String} {ik ic mc ms : Nat} {A : Nat → Prop}
    (hown : s.vm.findClass own = some m.cls) (hcls : Bundle.fit cls = true) (hnames : ∀ n ∈ names, Bundle.fit n = true)
    (hk : (Cond.classLink own ik cls).before args s = true) (hini : (Cond.initialized cls).before args s = true) (hat : ∀ w ∈ vx_at0 own ic cls names, w.before args s = true)
    (hgood : ∀ w ∈ Cond.classLink own ik cls :: Cond.initialized cls :: vx_at0 own ic cls names, vx_ot w = true)
    (hU : vx_Zq Bundle.tN "UNASSIGNED_STACK" Bundle.steD A s s.heap) (hN : vx_Zq Bundle.tN "SUPPRESSED_SENTINEL" Bundle.listD A s s.heap) (hS : va_S A s.heap H locs) (hsize : ls.size = c.maxLocals)
    (d0 : decode cc pc = .ok (.new ik, 3)) (d3 : decode cc (pc + 3) = .ok (.dup, 1)) (d4 : decode cc (pc + 4) = .ok (.invokespecial ic, 3)) (d7 : decode cc (pc + 7) = .ok (.athrow, 1))
    (hout : ∀ x ∈ c.exceptionTable.toList, covers x (pc + 7) = false)
    (hRframes : names.length + 3 < R.frames) (hRlocals : (rest.map fun v => v.category).sum + (13 * (names.length + 1) + 42) ≤ R.locals) (hRcells : cells + 1 ≤ R.cells) (hRslots : slots + 6 ≤ R.slots) (hlocks : meth.locks = false)
    (hx : ∀ t : State, s.vm.Alike t.vm → H.size ≤ t.heap.size → (∀ q : Nat, q < H.size → t.heap[q]? = H[q]?) → XC cls s t)
    (hf : ∀ z ∈ locs, free z.base) (hc : cells + 1 ≤ mc) (hs : slots + 6 ≤ ms) :
    W p l e R s m args below meth c H locs cells slots (vx_MQ below Qc XC args s mc ms free) (F0 m pc ls rest) := by
  intro T hT X
  have htr : e.platform.stackTraces = false := (show e.platform.stackTraces = l.stackTraces by rw [X.admits.platform]).trans hl
  have Y := vx_rebase X (R' := { frames := R.frames, locals := R.locals, cells := 1, slots := 6 }) (Nat.le_refl _) (Nat.le_refl _) hRcells hRslots
  obtain ⟨s', hA⟩ : ∃ z, z = (T.setVm s.vm).setFrames (.invoking m args :: below) := ⟨_, rfl⟩
  rw [← hA] at Y
  have hvm : s'.vm = s.vm := by rw [hA]; rfl
  have hhp : s'.heap = H := by rw [hA]; exact hT
  have hW0 : s.WarmedH s'.vm := by rw [hvm]; exact State.WarmedH.refl s
  have hat' : ∀ w ∈ vx_at0 own ic cls names, w.before args s' = true := fun w hw => vx_ot_at hW0 hvm.symm (hgood w (List.mem_cons_of_mem _ (List.mem_cons_of_mem _ hw))) (hat w hw)
  have hk' : (Cond.classLink own ik cls).before args s' = true := vx_ot_at hW0 hvm.symm (hgood _ List.mem_cons_self) hk
  have hini' : (Cond.initialized cls).before args s' = true := vx_ot_at hW0 hvm.symm (hgood _ (List.mem_cons_of_mem _ List.mem_cons_self)) hini
  have hU' : vx_Zq Bundle.tN "UNASSIGNED_STACK" Bundle.steD A s' s'.heap := by rw [hhp]; exact vx_Zq.moved hW0.alike (hU.kept hS.2.1)
  have hN' : vx_Zq Bundle.tN "SUPPRESSED_SENTINEL" Bundle.listD A s' s'.heap := by rw [hhp]; exact vx_Zq.moved hW0.alike (hN.kept hS.2.1)
  have h : ∀ w ∈ Bundle.ownAtoms0 own ic cls names, w.before args s' = true := vx_own hat' (vx_isRefq hU'.1) (vx_isRefq hN'.1) hU'.2.word hN'.2.word
  have hown' : s'.vm.findClass own = some m.cls := by rw [hvm]; exact hown
  have hins : (Cond.instantiable cls 6).before args s' = true := h _ (by simp [Bundle.ownAtoms0])
  obtain ⟨vm₁, cX, kX, hfX, hkX, -, -, X₁, st1⟩ := Y.newCold hexec (own := own) (C := cls) (index := ik) (n := 6) hown' hk' hins hini'
    (g := F0 m pc ls rest) rfl (by rw [hb]; exact d0) (Nat.le_refl _) (Nat.le_refl _)
  generalize hT1 : (T.setVm vm₁).pushCell { cls := cX, slots := kX.instanceTypes.map defaultValue, vm := .none } = T1 at X₁ st1
  have hcat : (Value.ref T.heap.size).category = 1 := rfl
  have hcellA : T1.heap[T.heap.size]? = some (freshCell cX kX) := by rw [← hT1]; exact State.heap_pushCell_size _ _
  have d3' : decode c.code (pc + 3) = .ok (.dup, 1) := by rw [hb]; exact d3
  obtain ⟨U, hsteps, hrun, hend, hW, hsame, ce, hce, hO⟩ := X₁.ctorThrow0 hexec htr (own := own) (cls := cls) (names := names) (ic := ic) hown' hcls hnames h (fun x hx => nomatch hx) hfX hkX hcellA (by rw [hhp, hT]; exact Nat.le_refl _)
    (g := { method := m, pc := pc + 4, locals := ls, stack := .ref T.heap.size :: .ref T.heap.size :: rest, locked := none }) rfl hsize rfl rfl (rest := rest) rfl
    (by rw [hb]; exact d4) (by rw [hb]; exact d7) hout hRframes (by simp only [List.map_cons, List.sum_cons, hcat]; omega) hlocks
  obtain ⟨f1, f2⟩ := vx_frame hsame
  rw [hhp] at f1 f2
  have hWs : s.WarmedH U.vm := State.WarmedH.trans hW0 hW
  have hcl : s.vm.findClass cls = some ce.cls := by
    have h9 := hO.cls
    rw [hvm] at h9
    exact h9
  have hall : s.sameButNew ({ U with vm := s.vm } : State) locs mc ms := by
    subst hA
    obtain ⟨e1, e2⟩ := hsame
    rw [State.setFrames_setFrames] at e1
    have h2 : (T.setVm s.vm).sameButNew ({ U with vm := s.vm } : State) [] (0 + 1) (0 + 6) := ⟨e1, e2⟩
    have h3 := X.same.trans h2
    rw [List.append_nil] at h3
    exact h3.mono hc hs
  refine ⟨U, ?_, .threw T.heap.size, hrun, hend, Or.inr ⟨T.heap.size, rfl, cls, ce, locs, hx U hWs.alike f1 (fun q hq => f2 q hq (fun z hz => nomatch hz)), hce, hO.vm, hcl, hWs, hall, hf⟩⟩
  refine st1 _ ?_
  show Steps p.tables e below (T1.setTop { method := m, pc := pc + 3, locals := ls, stack := .ref T.heap.size :: rest, locked := none }) _
  jvm_step X₁.here [X₁.here.top, hexec, d3', Value.category]
  exact hsteps
/-- 'throw new E("text")': new; dup; ldc; invokespecial; athrow -/
theorem vx_throwS {cc : ByteArray} {pc : Nat} (hexec : p.tables.exec = Jvm.exec) (hb : c.code = cc) (hl : l.stackTraces = false) {own cls text : String} {names : List String} {ik is ic mc ms sa : Nat} {A : Nat → Prop}
    (hown : s.vm.findClass own = some m.cls) (hcls : Bundle.fit cls = true) (hnames : ∀ n ∈ names, Bundle.fit n = true)
    (hk : (Cond.classLink own ik cls).before args s = true) (hini : (Cond.initialized cls).before args s = true) (hstr : vk_R own is text sa s) (hat : ∀ w ∈ vx_atS own ic cls names, w.before args s = true)
    (hgood : ∀ w ∈ Cond.classLink own ik cls :: Cond.initialized cls :: vx_atS own ic cls names, vx_ot w = true)
    (hU : vx_Zq Bundle.tN "UNASSIGNED_STACK" Bundle.steD A s s.heap) (hN : vx_Zq Bundle.tN "SUPPRESSED_SENTINEL" Bundle.listD A s s.heap) (hS : va_S A s.heap H locs) (hsize : ls.size = c.maxLocals)
    (d0 : decode cc pc = .ok (.new ik, 3)) (d3 : decode cc (pc + 3) = .ok (.dup, 1)) (d4 : decode cc (pc + 4) = .ok (.ldc is, 2)) (d6 : decode cc (pc + 6) = .ok (.invokespecial ic, 3)) (d9 : decode cc (pc + 9) = .ok (.athrow, 1))
    (hout : ∀ x ∈ c.exceptionTable.toList, covers x (pc + 9) = false)
    (hRframes : names.length + 3 < R.frames) (hRlocals : (rest.map fun v => v.category).sum + (13 * (names.length + 1) + 43) ≤ R.locals) (hRcells : cells + 1 ≤ R.cells) (hRslots : slots + 6 ≤ R.slots) (hlocks : meth.locks = false)
    (hx : ∀ t : State, s.vm.Alike t.vm → H.size ≤ t.heap.size → (∀ q : Nat, q < H.size → t.heap[q]? = H[q]?) → XC cls s t)
    (hf : ∀ z ∈ locs, free z.base) (hc : cells + 1 ≤ mc) (hs : slots + 6 ≤ ms) :
    W p l e R s m args below meth c H locs cells slots (vx_MQ below Qc XC args s mc ms free) (F0 m pc ls rest) := by
  intro T hT X
  have htr : e.platform.stackTraces = false := (show e.platform.stackTraces = l.stackTraces by rw [X.admits.platform]).trans hl
  have Y := vx_rebase X (R' := { frames := R.frames, locals := R.locals, cells := 1, slots := 6 }) (Nat.le_refl _) (Nat.le_refl _) hRcells hRslots
  obtain ⟨s', hA⟩ : ∃ z, z = (T.setVm s.vm).setFrames (.invoking m args :: below) := ⟨_, rfl⟩
  rw [← hA] at Y
  have hvm : s'.vm = s.vm := by rw [hA]; rfl
  have hhp : s'.heap = H := by rw [hA]; exact hT
  have hW0 : s.WarmedH s'.vm := by rw [hvm]; exact State.WarmedH.refl s
  have hat' : ∀ w ∈ vx_atS own ic cls names, w.before args s' = true := fun w hw => vx_ot_at hW0 hvm.symm (hgood w (List.mem_cons_of_mem _ (List.mem_cons_of_mem _ hw))) (hat w hw)
  have hk' : (Cond.classLink own ik cls).before args s' = true := vx_ot_at hW0 hvm.symm (hgood _ List.mem_cons_self) hk
  have hini' : (Cond.initialized cls).before args s' = true := vx_ot_at hW0 hvm.symm (hgood _ (List.mem_cons_of_mem _ List.mem_cons_self)) hini
  have hU' : vx_Zq Bundle.tN "UNASSIGNED_STACK" Bundle.steD A s' s'.heap := by rw [hhp]; exact vx_Zq.moved hW0.alike (hU.kept hS.2.1)
  have hN' : vx_Zq Bundle.tN "SUPPRESSED_SENTINEL" Bundle.listD A s' s'.heap := by rw [hhp]; exact vx_Zq.moved hW0.alike (hN.kept hS.2.1)
  have h : ∀ w ∈ Bundle.ownAtoms own ic cls names, w.before args s' = true := vx_own hat' (vx_isRefq hU'.1) (vx_isRefq hN'.1) hU'.2.word hN'.2.word
  have hown' : s'.vm.findClass own = some m.cls := by rw [hvm]; exact hown
  have hins : (Cond.instantiable cls 6).before args s' = true := h _ (by simp [Bundle.ownAtoms])
  obtain ⟨vm₁, cX, kX, hfX, hkX, -, -, X₁, st1⟩ := Y.newCold hexec (own := own) (C := cls) (index := ik) (n := 6) hown' hk' hins hini'
    (g := F0 m pc ls rest) rfl (by rw [hb]; exact d0) (Nat.le_refl _) (Nat.le_refl _)
  generalize hT1 : (T.setVm vm₁).pushCell { cls := cX, slots := kX.instanceTypes.map defaultValue, vm := .none } = T1 at X₁ st1
  have hcat : (Value.ref T.heap.size).category = 1 := rfl
  have hcellA : T1.heap[T.heap.size]? = some (freshCell cX kX) := by rw [← hT1]; exact State.heap_pushCell_size _ _
  have d3' : decode c.code (pc + 3) = .ok (.dup, 1) := by rw [hb]; exact d3
  have d4' : decode c.code (pc + 4) = .ok (.ldc is, 2) := by rw [hb]; exact d4
  have hstr' : vk_R own is text sa s' := vk_R.warm hW0 hstr
  obtain ⟨U, hsteps, hrun, hend, hW, hsame, ce, hce, hO⟩ := X₁.ctorThrowS hexec htr (own := own) (cls := cls) (names := names) (ic := ic) hown' hcls hnames h (fun x hx => nomatch hx) hfX hkX hcellA (by rw [hhp, hT]; exact Nat.le_refl _) (msg := .ref sa) rfl
    (g := { method := m, pc := pc + 6, locals := ls, stack := .ref sa :: .ref T.heap.size :: .ref T.heap.size :: rest, locked := none }) rfl hsize rfl rfl (rest := rest) rfl
    (by rw [hb]; exact d6) (by rw [hb]; exact d9) hout hRframes (by simp only [List.map_cons, List.sum_cons, hcat]; omega) hlocks
  obtain ⟨f1, f2⟩ := vx_frame hsame
  rw [hhp] at f1 f2
  have hWs : s.WarmedH U.vm := State.WarmedH.trans hW0 hW
  have hcl : s.vm.findClass cls = some ce.cls := by
    have h9 := hO.cls
    rw [hvm] at h9
    exact h9
  have hall : s.sameButNew ({ U with vm := s.vm } : State) locs mc ms := by
    subst hA
    obtain ⟨e1, e2⟩ := hsame
    rw [State.setFrames_setFrames] at e1
    have h2 : (T.setVm s.vm).sameButNew ({ U with vm := s.vm } : State) [] (0 + 1) (0 + 6) := ⟨e1, e2⟩
    have h3 := X.same.trans h2
    rw [List.append_nil] at h3
    exact h3.mono hc hs
  refine ⟨U, ?_, .threw T.heap.size, hrun, hend, Or.inr ⟨T.heap.size, rfl, cls, ce, locs, hx U hWs.alike f1 (fun q hq => f2 q hq (fun z hz => nomatch hz)), hce, hO.vm, hcl, hWs, hall, hf⟩⟩
  refine st1 _ ?_
  show Steps p.tables e below (T1.setTop { method := m, pc := pc + 3, locals := ls, stack := .ref T.heap.size :: rest, locked := none }) _
  jvm_step X₁.here [X₁.here.top, hexec, d3', Value.category]
  exact X₁.ldcString hexec (own := own) (text := text) (index := is) (a := sa) hown' hstr'.1 hstr'.2
    (g := { method := m, pc := pc + 4, locals := ls, stack := .ref T.heap.size :: .ref T.heap.size :: rest, locked := none }) rfl d4' _ hsteps
/-- 'throw new E("text")', the text by a wide index -/
theorem vx_throwSW {cc : ByteArray} {pc : Nat} (hexec : p.tables.exec = Jvm.exec) (hb : c.code = cc) (hl : l.stackTraces = false) {own cls text : String} {names : List String} {ik is ic mc ms sa : Nat} {A : Nat → Prop}
    (hown : s.vm.findClass own = some m.cls) (hcls : Bundle.fit cls = true) (hnames : ∀ n ∈ names, Bundle.fit n = true)
    (hk : (Cond.classLink own ik cls).before args s = true) (hini : (Cond.initialized cls).before args s = true) (hstr : vk_R own is text sa s) (hat : ∀ w ∈ vx_atS own ic cls names, w.before args s = true)
    (hgood : ∀ w ∈ Cond.classLink own ik cls :: Cond.initialized cls :: vx_atS own ic cls names, vx_ot w = true)
    (hU : vx_Zq Bundle.tN "UNASSIGNED_STACK" Bundle.steD A s s.heap) (hN : vx_Zq Bundle.tN "SUPPRESSED_SENTINEL" Bundle.listD A s s.heap) (hS : va_S A s.heap H locs) (hsize : ls.size = c.maxLocals)
    (d0 : decode cc pc = .ok (.new ik, 3)) (d3 : decode cc (pc + 3) = .ok (.dup, 1)) (d4 : decode cc (pc + 4) = .ok (.ldc_w is, 3)) (d7 : decode cc (pc + 7) = .ok (.invokespecial ic, 3)) (d10 : decode cc (pc + 10) = .ok (.athrow, 1))
    (hout : ∀ x ∈ c.exceptionTable.toList, covers x (pc + 10) = false)
    (hRframes : names.length + 3 < R.frames) (hRlocals : (rest.map fun v => v.category).sum + (13 * (names.length + 1) + 43) ≤ R.locals) (hRcells : cells + 1 ≤ R.cells) (hRslots : slots + 6 ≤ R.slots) (hlocks : meth.locks = false)
    (hx : ∀ t : State, s.vm.Alike t.vm → H.size ≤ t.heap.size → (∀ q : Nat, q < H.size → t.heap[q]? = H[q]?) → XC cls s t)
    (hf : ∀ z ∈ locs, free z.base) (hc : cells + 1 ≤ mc) (hs : slots + 6 ≤ ms) :
    W p l e R s m args below meth c H locs cells slots (vx_MQ below Qc XC args s mc ms free) (F0 m pc ls rest) := by
  intro T hT X
  have htr : e.platform.stackTraces = false := (show e.platform.stackTraces = l.stackTraces by rw [X.admits.platform]).trans hl
  have Y := vx_rebase X (R' := { frames := R.frames, locals := R.locals, cells := 1, slots := 6 }) (Nat.le_refl _) (Nat.le_refl _) hRcells hRslots
  obtain ⟨s', hA⟩ : ∃ z, z = (T.setVm s.vm).setFrames (.invoking m args :: below) := ⟨_, rfl⟩
  rw [← hA] at Y
  have hvm : s'.vm = s.vm := by rw [hA]; rfl
  have hhp : s'.heap = H := by rw [hA]; exact hT
  have hW0 : s.WarmedH s'.vm := by rw [hvm]; exact State.WarmedH.refl s
  have hat' : ∀ w ∈ vx_atS own ic cls names, w.before args s' = true := fun w hw => vx_ot_at hW0 hvm.symm (hgood w (List.mem_cons_of_mem _ (List.mem_cons_of_mem _ hw))) (hat w hw)
  have hk' : (Cond.classLink own ik cls).before args s' = true := vx_ot_at hW0 hvm.symm (hgood _ List.mem_cons_self) hk
  have hini' : (Cond.initialized cls).before args s' = true := vx_ot_at hW0 hvm.symm (hgood _ (List.mem_cons_of_mem _ List.mem_cons_self)) hini
  have hU' : vx_Zq Bundle.tN "UNASSIGNED_STACK" Bundle.steD A s' s'.heap := by rw [hhp]; exact vx_Zq.moved hW0.alike (hU.kept hS.2.1)
  have hN' : vx_Zq Bundle.tN "SUPPRESSED_SENTINEL" Bundle.listD A s' s'.heap := by rw [hhp]; exact vx_Zq.moved hW0.alike (hN.kept hS.2.1)
  have h : ∀ w ∈ Bundle.ownAtoms own ic cls names, w.before args s' = true := vx_own hat' (vx_isRefq hU'.1) (vx_isRefq hN'.1) hU'.2.word hN'.2.word
  have hown' : s'.vm.findClass own = some m.cls := by rw [hvm]; exact hown
  have hins : (Cond.instantiable cls 6).before args s' = true := h _ (by simp [Bundle.ownAtoms])
  obtain ⟨vm₁, cX, kX, hfX, hkX, -, -, X₁, st1⟩ := Y.newCold hexec (own := own) (C := cls) (index := ik) (n := 6) hown' hk' hins hini'
    (g := F0 m pc ls rest) rfl (by rw [hb]; exact d0) (Nat.le_refl _) (Nat.le_refl _)
  generalize hT1 : (T.setVm vm₁).pushCell { cls := cX, slots := kX.instanceTypes.map defaultValue, vm := .none } = T1 at X₁ st1
  have hcat : (Value.ref T.heap.size).category = 1 := rfl
  have hcellA : T1.heap[T.heap.size]? = some (freshCell cX kX) := by rw [← hT1]; exact State.heap_pushCell_size _ _
  have d3' : decode c.code (pc + 3) = .ok (.dup, 1) := by rw [hb]; exact d3
  have d4' : decode c.code (pc + 4) = .ok (.ldc_w is, 3) := by rw [hb]; exact d4
  have hstr' : vk_R own is text sa s' := vk_R.warm hW0 hstr
  obtain ⟨U, hsteps, hrun, hend, hW, hsame, ce, hce, hO⟩ := X₁.ctorThrowS hexec htr (own := own) (cls := cls) (names := names) (ic := ic) hown' hcls hnames h (fun x hx => nomatch hx) hfX hkX hcellA (by rw [hhp, hT]; exact Nat.le_refl _) (msg := .ref sa) rfl
    (g := { method := m, pc := pc + 7, locals := ls, stack := .ref sa :: .ref T.heap.size :: .ref T.heap.size :: rest, locked := none }) rfl hsize rfl rfl (rest := rest) rfl
    (by rw [hb]; exact d7) (by rw [hb]; exact d10) hout hRframes (by simp only [List.map_cons, List.sum_cons, hcat]; omega) hlocks
  obtain ⟨f1, f2⟩ := vx_frame hsame
  rw [hhp] at f1 f2
  have hWs : s.WarmedH U.vm := State.WarmedH.trans hW0 hW
  have hcl : s.vm.findClass cls = some ce.cls := by
    have h9 := hO.cls
    rw [hvm] at h9
    exact h9
  have hall : s.sameButNew ({ U with vm := s.vm } : State) locs mc ms := by
    subst hA
    obtain ⟨e1, e2⟩ := hsame
    rw [State.setFrames_setFrames] at e1
    have h2 : (T.setVm s.vm).sameButNew ({ U with vm := s.vm } : State) [] (0 + 1) (0 + 6) := ⟨e1, e2⟩
    have h3 := X.same.trans h2
    rw [List.append_nil] at h3
    exact h3.mono hc hs
  refine ⟨U, ?_, .threw T.heap.size, hrun, hend, Or.inr ⟨T.heap.size, rfl, cls, ce, locs, hx U hWs.alike f1 (fun q hq => f2 q hq (fun z hz => nomatch hz)), hce, hO.vm, hcl, hWs, hall, hf⟩⟩
  refine st1 _ ?_
  show Steps p.tables e below (T1.setTop { method := m, pc := pc + 3, locals := ls, stack := .ref T.heap.size :: rest, locked := none }) _
  jvm_step X₁.here [X₁.here.top, hexec, d3', Value.category]
  exact X₁.ldcStringW hexec (own := own) (text := text) (index := is) (a := sa) hown' hstr'.1 hstr'.2
    (g := { method := m, pc := pc + 4, locals := ls, stack := .ref T.heap.size :: .ref T.heap.size :: rest, locked := none }) rfl d4' _ hsteps
end Ends
section Bodies
variable {l : Launch}
theorem vx_ofW {y : MethodName} {ws ws' : List Cond} {rm : Room} {Pc : Array Value → State → Prop} {Qc : Array Value → State → Outcome → State → Prop} {XC : String → State → State → Prop} {mc ms : Nat} {free : Addr → Prop} {cc : ByteArray} {maxL : Nat} {ret : Option FieldType}
    (hy : plainName y.cls = true) (hw : ws = Cond.code y cc maxL ret :: ws')
    (body : ∀ p e s m args below meth c s₁, BodyLoose p l y (headSpec ws rm) cc maxL ret e s m args below meth c s₁ → c.maxLocals = maxL → (∀ x ∈ c.exceptionTable.toList, False) → Pc args s →
      W p l e (headSpec ws rm).room s m args below meth c s.heap [] 0 0 (vx_MQ below Qc XC args s mc ms free) (entryFrame m args maxL)) : vx_Met l y ws rm Pc Qc XC mc ms free := by
  refine MetFree.of_bodyS (code := cc) (maxLocals := maxL) (ret := ret) hy ?_ ?_
  · intro args s m h hn
    obtain ⟨meth, c, h1, h2, h3, h4, h5, h6, -, -⟩ := Cond.code_spec hn (atoms_spec (ws := ws) h _ (by rw [hw]; exact List.mem_cons_self))
    exact ⟨meth, c, h1, h2, h3, h4, h5, h6⟩
  · intro p e s m args below meth c s₁ B hml hP _
    have hh0 : s₁.heap = s.heap := by rw [B.state]; rfl
    have ht : ∀ x ∈ c.exceptionTable.toList, False := by
      obtain ⟨meth9, c9, h1, h2, -, -, -, -, h7, -⟩ := Cond.code_spec B.named (atoms_spec (ws := ws) B.pre _ (by rw [hw]; exact List.mem_cons_self))
      cases Option.some.inj (h1.symm.trans B.method)
      cases Option.some.inj (h2.symm.trans (Stand.of_body B).code)
      intro x hx
      rw [Array.isEmpty_iff.mp h7] at hx
      cases hx
    obtain ⟨t, a1, o, b1, b2, b3⟩ := body p e s m args below meth c s₁ B hml ht hP s₁ hh0 (Stand.of_body B)
    exact ⟨t, o, a1, b1, b2, b3⟩
/-- the table of a body with handlers -/
theorem vx_table {p : Program} {x y : MethodName} {S : Spec} {cc bytes : ByteArray} {maxL maxL' : Nat} {ret ret' : Option FieldType} {e : Env} {s s₁ : State} {m : MethodId} {args : Array Value} {below : List Frame} {meth : Method} {c : Code} {hh : List (Nat × Nat × Nat × Nat)}
    (B : BodyLoose p l y S cc maxL ret e s m args below meth c s₁) (h : (Cond.codeWith y bytes maxL' ret' hh).before args s = true) : c.exceptionTable.toList = tableOf hh := by
  obtain ⟨m9, meth9, c9, hn9, h1, h2, -, -, h6, -⟩ := Cond.codeWith_spec h
  cases Option.some.inj (hn9.symm.trans B.named)
  cases Option.some.inj (h1.symm.trans B.method)
  cases Option.some.inj (h2.symm.trans (Stand.of_body B).code)
  rw [← h6, table_eq]
end Bodies
end VXA
/-! ===== END ===== -/
/-! ===== BEGIN a static call of a method with an exception table ===== -/
section VXS
variable {p : Program} {l : Launch} {e : Env} {R : Room} {s : State} {m : MethodId} {args : Array Value} {below : List Frame} {meth : Method} {c : Code} {T : State} {H : Heap} {locs : List Loc} {cells slots : Nat}
abbrev vx_CSW (R : Room) (s : State) (args : Array Value) (own : String) (index : Nat) (y : MethodName) (bytes : ByteArray) (maxL : Nat) (ret : Option FieldType) (hh : List (Nat × Nat × Nat × Nat)) (ws : List Cond) (rm : Room) (mc ms n : Nat) : Prop :=
  (rm.cells = mc ∧ rm.slots = ms ∧ rm.frames + 1 ≤ R.frames ∧ 8 + (maxL + 11) + rm.locals ≤ R.locals ∧ (∀ w ∈ ws, ∀ (a' : Array Value) (U : State), s.WarmedH U.vm → w.before a' U = true) ∧ Cond.codeWith y bytes maxL ret hh ∈ ws) ∧
  (Cond.codeWith y bytes maxL ret hh).before args s = true ∧ (Cond.initialized y.cls).before args s = true ∧ (y.cls ≠ "java/lang/invoke/MethodHandle" ∧ y.cls ≠ "java/lang/invoke/VarHandle") ∧
  (∀ sig, parseMethodDescriptor y.desc = some sig → n = sig.parameters.length) ∧ (Cond.methodLink own index y).before args s = true ∧ (Cond.static y).before args s = true
theorem vx_cwSW {own : String} {index maxL mc ms : Nat} {y : MethodName} {bytes : ByteArray} {ret : Option FieldType} {hh : List (Nat × Nat × Nat × Nat)} {Ts ws ws' : List Cond} {rm : Room} (n : Nat) (ht : ∀ w ∈ Ts, w.before args s = true) (hT : GoodIn Ts (va_wsS own index y ws)) (hw : ws = Cond.codeWith y bytes maxL ret hh :: ws') (hrc : rm.cells = mc) (hrs : rm.slots = ms)
    (hd : y.cls ≠ "java/lang/invoke/MethodHandle" ∧ y.cls ≠ "java/lang/invoke/VarHandle" ∧ (parseMethodDescriptor y.desc).map (fun d => d.parameters.length) = some n) (hR : rm.frames + 1 ≤ R.frames ∧ 8 + (maxL + 11) + rm.locals ≤ R.locals) :
    vx_CSW R s args own index y bytes maxL ret hh ws rm mc ms n := by
  have ok : ∀ w ∈ va_wsS own index y ws, w.before args s = true := fun w h => ht w (hT w h).1
  have hG : GoodIn Ts ws := fun w h => hT w (by unfold va_wsS; exact List.mem_append_right _ h)
  have hc : Cond.codeWith y bytes maxL ret hh ∈ ws := by rw [hw]; exact List.mem_cons_self
  refine ⟨⟨hrc, hrs, hR.1, hR.2, pay_in ht hG, hc⟩, ht _ (hG _ hc).1, ok _ (by simp [va_wsS]), ⟨hd.1, hd.2.1⟩, fun sig h => ?_, ok _ (by simp [va_wsS]), ok _ (by simp [va_wsS])⟩
  have h2 := hd.2.2
  rw [h] at h2
  exact (Option.some.inj h2).symm
theorem vx_callSW (X : Stand p l e R s m args below meth c T locs cells slots) (hexec : p.tables.exec = Jvm.exec) {own : String} {index : Nat} {y : MethodName} {bytes : ByteArray} {maxL : Nat} {ret : Option FieldType} {hh : List (Nat × Nat × Nat × Nat)}
    (hown : s.vm.findClass own = some m.cls) (hlink : (Cond.methodLink own index y).before args s = true) (hstat : (Cond.static y).before args s = true) (hinit : (Cond.initialized y.cls).before args s = true)
    (hcode : (Cond.codeWith y bytes maxL ret hh).before args s = true) (hy : y.cls ≠ "java/lang/invoke/MethodHandle" ∧ y.cls ≠ "java/lang/invoke/VarHandle")
    {W9 : Nat} {Pre : Pt → Array Value → Prop} {Post : Pt → Array Value → Option Value → Pt → Prop} (hK : Back l R p e below s args y 3 W9 Pre Post)
    {g : JFrame} (hg : g.method = m) (hsize : g.locals.size = c.maxLocals) {argsL rest : List Value} (hlen : ∀ sig, parseMethodDescriptor y.desc = some sig → argsL.length = sig.parameters.length)
    (hstack : g.stack = argsL.reverse ++ rest) (hW : 2 * g.monitorRoom + (rest.map fun v => v.category).sum ≤ W9) (hdg : decode c.code g.pc = .ok (.invokestatic index, 3))
    (hpre : ∀ vm₁, s.WarmedH vm₁ → Pre ⟨T.setVm vm₁, locs, cells, slots⟩ argsL.toArray) :
    ∃ (v : Option Value) (vm₁ : Vm) (B : Pt), s.WarmedH vm₁ ∧ Stand p l e R s m args below meth c B.U B.locs B.cells B.slots ∧ Post ⟨T.setVm vm₁, locs, cells, slots⟩ argsL.toArray v B ∧
      ∀ target, Steps p.tables e below (B.U.setTop { g with pc := g.pc + 3, stack := v.toList ++ rest }) target → Steps p.tables e below (T.setTop g) target := by
  obtain ⟨mk, methM, cM, hnamed, hmethM, -, -, -, -, -, -, hsigM⟩ := Cond.codeWith_spec hcode
  have hstatic : methM.isStatic = true := Cond.static_spec hnamed hmethM hstat
  obtain ⟨kP, hkP, -⟩ := className_of_methodNamed hnamed
  have hinitP : kP.init = .initialized := Cond.initialized_spec (findClass_of_methodNamed hnamed) hkP hinit
  obtain ⟨vm₁, X₁, hstep₁⟩ := X.invokestatic hexec hown hlink hnamed hmethM hstatic hkP hinitP hy (g := g) hg (argsL := argsL) (rest := rest) (hlen _ hsigM) hstack hdg
  obtain ⟨v, B, X', hpost, hsteps⟩ := hK m meth c ⟨T.setVm vm₁, locs, cells, slots⟩ { g with stack := rest } (.invokestatic index) mk argsL.toArray X₁ hg hsize hdg hW (X₁.named hnamed) (hpre vm₁ X₁.warmed)
  exact ⟨v, vm₁, B, X₁.warmed, X', hpost, fun target h => hstep₁ _ fun acts => by rw [doInvoke_state]; exact hsteps.trans h⟩
theorem vx_runSW {y : MethodName} {bytes cc : ByteArray} {maxL nL mc ms n index : Nat} {ret : Option FieldType} {hh : List (Nat × Nat × Nat × Nat)} {ws : List Cond} {rm : Room} {Pc : Array Value → State → Prop} {Qc : Array Value → State → Outcome → State → Prop} {free : Addr → Prop} {Ts : List Cond} {own : String} {As rest : List Value} {g : JFrame}
    (S : CallFix p m c cc nL s args Ts own) (hM : Met l y ws rm Pc Qc mc ms free) (cw : vx_CSW R s args own index y bytes maxL ret hh ws rm mc ms n) (hp : PreS s H Pc As)
    (hg : g.method = m) (hn : As.length = n) (hsize : g.locals.size = nL) (hstack : g.stack = As.reverse ++ rest) (hW : 2 * g.monitorRoom + (rest.map fun v => v.category).sum ≤ 8) (hdg : decode cc g.pc = .ok (.invokestatic index, 3)) (hf : cells + mc ≤ R.cells ∧ slots + ms ≤ R.slots) :
    va_Run p l e R s m args below meth c H locs cells slots mc ms g rest (Qc As.toArray) (free) := by
  obtain ⟨⟨hrc, hrs, hfr, hlo, hws, hcw⟩, hcode, hini, hy, hlen, hl, hstt⟩ := cw
  have hK : Back l R p e below s args y 3 8 (PreOf R mc ms Pc) (PostOf Qc mc ms free) := va_backW (hh := hh) (bytes := bytes) (maxL := maxL) (ret := ret) hM hp.1 hrc hrs hfr hlo hws hcw (fun a' U hW => word_at hW (Or.inl (by first | rfl | simp [Cond.onTables, Cond.keeps, Cond.steady])) hini)
  obtain ⟨hx, hb, hml, ho, -⟩ := S
  intro T hT X
  obtain ⟨v, vm₁, ⟨U', l2, c2, s2⟩, hW₁, X', ⟨g', mk, t, L, e1, e2, hq, h1, hL, h2, h3⟩, st⟩ := vx_callSW X hx (hh := hh) (bytes := bytes) (maxL := maxL) (ret := ret) ho hl hstt hini hcode hy hK hg (hsize.trans hml.symm) (argsL := As) (rest := rest) (fun sig h => hn.trans (hlen sig h)) hstack hW (by rw [hb]; exact hdg)
    (fun vm₁ hW₁ => ⟨hf.1, hf.2, hp.2 (T.setVm vm₁) hT hW₁⟩)
  dsimp only [Pt.U, Pt.locs, Pt.cells, Pt.slots] at X' e1 e2 h1 h2 h3 st
  subst h1; subst h2; subst h3
  exact ⟨v, (T.setVm vm₁).calling g' mk As.toArray, t, U', L, hT, X', hL, e1, e2, hq, st⟩
/-- not caught here, past rows that name other classes: it goes on to the caller -/
theorem vx_outP {p : Program} {l : Launch} {e : Env} {R : Room} {s : State} {m : MethodId} {args : Array Value} {below : List Frame} {meth : Method} {c : Code} {H : Heap} {locs : List Loc} {cells slots : Nat} {free : Addr → Prop} {ls : Array Slot} {rest : List Value} {Qc : Array Value → State → Outcome → State → Prop} {XC : String → State → State → Prop}
    {pc : Nat} {own E : String} {ce : Cell} {q : Addr} {mc ms : Nat} (hown : s.vm.findClass own = some m.cls) (hlocks : meth.locks = false)
    (hpass : ∀ z ∈ c.exceptionTable.toList, covers z pc = false ∨ (z.catchType ≠ 0 ∧ ∃ nm : String, (Cond.classLink own z.catchType nm).before args s = true ∧ va_Nc E nm s)) (hcell : H[q]? = some ce) (hv : ce.vm = .none) (hcl : s.vm.findClass E = some ce.cls)
    (hx : ∀ t : State, t.heap = H → s.vm.Alike t.vm → XC E s t) (hf : ∀ z ∈ locs, free z.base) (hc : cells ≤ mc) (hs : slots ≤ ms) :
    vx_W p l e R s m args below meth c H locs cells slots (vx_MQ below Qc XC args s mc ms free) (F0 m pc ls rest) q := by
  intro T hT X
  have hpl : e.platform.magicAccessors = ({} : Platform).magicAccessors := by rw [X.admits.platform]
  obtain ⟨vm', hW', X', st⟩ := X.outThrough hlocks q (g := F0 m pc ls rest) rfl rfl rfl (cell := ce) (by rw [hT]; exact hcell) (by rw [hv]; rfl)
    (by obtain ⟨k9, h9, -⟩ := Vm.findClass_spec hcl; exact ⟨k9, h9⟩) (fun z hz => by
      rcases hpass z hz with h | ⟨hz0, nm, hl1, hn1⟩
      · exact Or.inl h
      · obtain ⟨c6, hc6, hcl6⟩ := Cond.classLink_spec hown hl1 e.platform hpl
        obtain ⟨a8, b8, h1, h2, h3⟩ := hn1
        cases Option.some.inj (h1.symm.trans hcl)
        cases Option.some.inj (h2.symm.trans hc6)
        exact Or.inr ⟨hz0, _, hcl6, h3⟩)
  obtain ⟨g₀, hfr⟩ := X'.frames_eq
  have hcell9 : ((T.setVm vm').setFrames (.throwing q :: below)).heap[q]? = some ce := by
    show T.heap[q]? = some ce
    rw [hT]; exact hcell
  have hend : Ended ((T.setVm vm').setFrames (.throwing q :: below)) below (.threw q) := State.frames_setFrames _ (State.cur_lt_of_frames hfr)
  refine ⟨(T.setVm vm').setFrames (.throwing q :: below), ?_, .threw q, X'.here.running, hend, Or.inr ⟨q, rfl, E, ce, locs, hx _ hT (X'.ends _).1.alike, hcell9, hv, hcl, (X'.ends _).1, (X'.ends _).2.mono hc hs, hf⟩⟩
  rw [X.pushThrowing_eq]
  exact st
/-- a thing of a world lies in the heap -/
theorem vx_lt {D : va_G} {cl : List vw_C} {ws : va_W} {H1 : Heap} (h : va_P D cl ws H1) {k : Nat} {q : Nat × va_E} (hk : ws[k]? = some q) : q.1 < H1.size := (h k q hk).lt
end VXS
/-! ===== END ===== -/
/-! ===== BEGIN methods with a table of their own: called by a name, returning or throwing ===== -/
section VXH
/-! vx_backW, vx_callVX, vx_callSX, vx_callVW, vx_runVW, vx_runVX, vx_runSX, vx_ofWH follow the same proofs as their sisters above (Free/Laws.lean, Shelf42/LK1.lean); vx_outP calls Shelf42/NT130.lean (outThrough). -/
section
variable {l : Launch} {R : Room} {p : Program} {e : Env} {below : List Frame} {s : State} {sargs : Array Value} {y : MethodName} {len W9 : Nat}
theorem vx_backW {ws : List Cond} {rm : Room} {Pc : Array Value → State → Prop} {Qc : Array Value → State → Outcome → State → Prop} {XC : String → State → State → Prop} {mc ms : Nat} {free : Addr → Prop} {bytes : ByteArray} {maxL : Nat} {ret : Option FieldType} {hh : List (Nat × Nat × Nat × Nat)}
    (hM : vx_Met l y ws rm Pc Qc XC mc ms free) (hblind : FrameBlind Pc) (hrc : rm.cells = mc) (hrs : rm.slots = ms)
    (hframes : rm.frames + 1 ≤ R.frames) (hlocals : W9 + (maxL + 11) + rm.locals ≤ R.locals)
    (hws : ∀ w ∈ ws, ∀ a' U, s.WarmedH U.vm → w.before a' U = true) (hcode : Cond.codeWith y bytes maxL ret hh ∈ ws) (hinit : ∀ a' U, s.WarmedH U.vm → (Cond.initialized y.cls).before a' U = true) :
    vx_Back l R p e below s sargs y len W9 (PreOf R mc ms Pc) (PostOf Qc mc ms free) (vx_Post XC mc ms free) := by
  intro m meth c A g ig mk a X hg hsize hdg hW hn hp
  have h1 : (headSpec ws rm).pre.before a A.U = true := atoms_intro fun w hw => hws w hw _ _ X.warmed
  have h2 : (Cond.codeWith y bytes maxL ret hh).before a A.U = true := hws _ hcode _ _ X.warmed
  have h3 : (Cond.initialized y.cls).before a A.U = true := hinit _ _ X.warmed
  have h4 : A.cells + (headSpec ws rm).room.cells ≤ R.cells := by rw [show (headSpec ws rm).room.cells = mc from hrc]; exact hp.1
  have h5 : A.slots + (headSpec ws rm).room.slots ≤ R.slots := by rw [show (headSpec ws rm).room.slots = ms from hrs]; exact hp.2.1
  have hPc : Pc a (A.U.calling g mk a) := hblind _ _ _ _ hp.2.2
  obtain ⟨U, Ls, c0, s0⟩ := A
  dsimp only [Pt.U, Pt.locs, Pt.cells, Pt.slots] at h1 h2 h3 h4 h5 X hn hPc ⊢
  obtain ⟨m9, methY, cY, hn9, hmY, hcY, -, hlY, -⟩ := Cond.codeWith_spec h2
  cases Option.some.inj (hn9.symm.trans hn)
  obtain ⟨kY, hkY, -⟩ := className_of_methodNamed hn
  have hinitY : kY.init = .initialized := Cond.initialized_spec (findClass_of_methodNamed hn) hkY h3
  have h : At U g.method c below := by rw [hg]; exact X.here
  have hlocals9 : W9 + (maxL + 11) + (headSpec ws rm).room.locals ≤ R.locals := hlocals
  have happ : (headSpec ws rm).appliesLoose y e.platform (U.calling g mk a) = true :=
    Spec.appliesLoose_calling (g := g) h hdg hn hkY hinitY
      (X.room_calling (g := g) (R' := (headSpec ws rm).room) hsize hmY hcY hframes (by rw [hlY]; omega) h4 h5) h1
  obtain ⟨mid, hmid⟩ := h.above
  have hfr : (U.setTop g).frames = (.java g :: mid) ++ below := by rw [State.frames_setTop' g h.top, hmid]; rfl
  obtain ⟨o, s₂, hsteps, -, hend, hq⟩ := Steps.callFree hM p X.admits X.cas X.clock (acts := []) hfr happ hPc trivial
  have hq' : vx_Q Qc XC mc ms free a (U.calling g mk a) o s₂ := hq
  rw [State.frames_setTop' g h.top] at hend
  obtain ⟨g₀, hg0⟩ := Option.isSome_iff_exists.mp h.top
  obtain ⟨r, hr⟩ := State.topJava?_eq_some.mp hg0
  have hr' : (({ U with heap := s₂.heap, slotsUsed := s₂.slotsUsed } : State).setVm s₂.vm).frames = .java g₀ :: r := hr
  rcases hq' with ⟨hqc, L, hfe, hL⟩ | ⟨q, rfl, E, ce, L, hx, hce, hcv, hcl, hW₂, hsm, hL⟩
  · obtain ⟨⟨v, rfl⟩, hW₂, e2, q2, q3, q4, q5, q6⟩ := id hfe
    have e3 : s₂ = ({ (U.calling g mk a).setFrames s₂.frames with heap := s₂.heap, slotsUsed := s₂.slotsUsed } : State).setVm s₂.vm := by
      have : s₂ = ({ s₂ with vm := (U.calling g mk a).vm } : State).setVm s₂.vm := rfl
      rw [e2] at this
      exact this
    obtain ⟨c₂, i₂, len₂, hc₂, hd₂, hf₂⟩ := hend
    have hW' : U.WarmedH s₂.vm := hW₂
    have hcc : c₂ = c := by
      have h1 : s₂.code? g.method = U.code? g.method := by
        rw [State.code?_eq, State.code?_eq, hW'.alike.method?]
      exact Option.some.inj (hc₂.symm.trans (h1.trans h.code))
    subst hcc
    have hlen : len₂ = len := by rw [hdg] at hd₂; cases hd₂; rfl
    subst hlen
    have hs₂ : s₂ = (({ U with heap := s₂.heap, slotsUsed := s₂.slotsUsed } : State).setVm s₂.vm).setTop { g with pc := g.pc + len₂, stack := v.toList ++ g.stack } := by
      refine e3.trans ?_
      rw [hf₂, State.calling_eq h.top, State.setFrames_setFrames, State.setTop_of_frames _ hr', hr]
      rfl
    have hsame : U.sameButNew ({ U with heap := s₂.heap, slotsUsed := s₂.slotsUsed } : State) L mc ms := by
      refine ⟨?_, q2, q3, q4, q5, q6⟩
      obtain ⟨t, ht, -⟩ := State.frames_cons hr
      show ({ U with heap := s₂.heap, slotsUsed := s₂.slotsUsed } : State) = { U.setFrames U.frames with heap := s₂.heap, slotsUsed := s₂.slotsUsed }
      rw [State.setFrames_self ht]
    subst hg
    refine Or.inl ⟨v, ⟨(({ U with heap := s₂.heap, slotsUsed := s₂.slotsUsed } : State).setVm s₂.vm), Ls ++ L, c0 + mc, s0 + ms⟩,
      ⟨X.admits, X.cas, X.clock, X.frames, X.room, X.hears, X.method, X.code, (X.here.setHeapUsed s₂.heap s₂.slotsUsed).setVm hW'.alike, X.tail, State.WarmedH.trans X.warmed hW', X.limits, X.bytes, X.same.trans (hsame.setVm s.vm)⟩,
      ⟨g, mk, s₂, L, rfl, rfl, hqc, rfl, hL, rfl, rfl⟩, ?_⟩
    show Steps p.tables e below _ ((({ U with heap := s₂.heap, slotsUsed := s₂.slotsUsed } : State).setVm s₂.vm).setTop { g with pc := g.pc + len₂, stack := v.toList ++ g.stack })
    rw [← hs₂]
    exact hsteps
  · obtain ⟨e2, q2, q3, q4, q5, q6⟩ := id hsm
    have e3 : s₂ = ({ (U.calling g mk a).setFrames s₂.frames with heap := s₂.heap, slotsUsed := s₂.slotsUsed } : State).setVm s₂.vm := by
      have : s₂ = ({ s₂ with vm := (U.calling g mk a).vm } : State).setVm s₂.vm := rfl
      rw [e2] at this
      exact this
    have hf₂ : s₂.frames = .throwing q :: .java g :: U.frames.tail := hend
    have hW' : U.WarmedH s₂.vm := hW₂
    have hs₂ : s₂ = ((({ U with heap := s₂.heap, slotsUsed := s₂.slotsUsed } : State).setVm s₂.vm).setTop g).pushFrame (.throwing q) := by
      refine e3.trans ?_
      rw [hf₂, State.calling_eq h.top, State.setFrames_setFrames, State.pushFrame, State.frames_setTop _ hr', State.setTop_of_frames _ hr', State.setFrames_setFrames, hr]
      rfl
    have hsame : U.sameButNew ({ U with heap := s₂.heap, slotsUsed := s₂.slotsUsed } : State) L mc ms := by
      refine ⟨?_, q2, q3, q4, q5, q6⟩
      obtain ⟨t, ht, -⟩ := State.frames_cons hr
      show ({ U with heap := s₂.heap, slotsUsed := s₂.slotsUsed } : State) = { U.setFrames U.frames with heap := s₂.heap, slotsUsed := s₂.slotsUsed }
      rw [State.setFrames_self ht]
    subst hg
    refine Or.inr ⟨q, ⟨(({ U with heap := s₂.heap, slotsUsed := s₂.slotsUsed } : State).setVm s₂.vm), Ls ++ L, c0 + mc, s0 + ms⟩,
      ⟨X.admits, X.cas, X.clock, X.frames, X.room, X.hears, X.method, X.code, (X.here.setHeapUsed s₂.heap s₂.slotsUsed).setVm hW'.alike, X.tail, State.WarmedH.trans X.warmed hW', X.limits, X.bytes, X.same.trans (hsame.setVm s.vm)⟩,
      ⟨g, mk, s₂, L, E, ce, rfl, rfl, hx, hce, hcv, hcl, rfl, hL, rfl, rfl⟩, ?_⟩
    show Steps p.tables e below _ (((({ U with heap := s₂.heap, slotsUsed := s₂.slotsUsed } : State).setVm s₂.vm).setTop g).pushFrame (.throwing q))
    rw [← hs₂]
    exact hsteps
end
variable {p : Program} {l : Launch} {e : Env} {R : Room} {s : State} {m : MethodId} {args : Array Value} {below : List Frame} {meth : Method} {c : Code} {T : State} {H : Heap} {locs : List Loc} {cells slots : Nat}
theorem vx_callVX (X : Stand p l e R s m args below meth c T locs cells slots) (hexec : p.tables.exec = Jvm.exec) {own C : String} {index : Nat} {y : MethodName} {bytes : ByteArray} {maxL : Nat} {ret : Option FieldType} {hh : List (Nat × Nat × Nat × Nat)}
    (hown : s.vm.findClass own = some m.cls) (hlink : (Cond.methodLink own index y).before args s = true) (hinst : (Cond.instanceMethod y).before args s = true) (hsel : (Cond.selects C y y).before args s = true)
    (hcode : (Cond.codeWith y bytes maxL ret hh).before args s = true) (hy : y.cls ≠ "java/lang/invoke/MethodHandle" ∧ y.cls ≠ "java/lang/invoke/VarHandle")
    {W9 : Nat} {Pre : Pt → Array Value → Prop} {Post : Pt → Array Value → Option Value → Pt → Prop} {PostX : Pt → Array Value → Addr → Pt → Prop} (hK : vx_Back l R p e below s args y 3 W9 Pre Post PostX)
    {b : Addr} {cellB : Cell} (hcell : T.heap[b]? = some cellB) (hobj : cellB.vm.isStatics = false) (hcls : s.vm.findClass C = some cellB.cls)
    {g : JFrame} (hg : g.method = m) (hsize : g.locals.size = c.maxLocals) {argsL rest : List Value} (hlen : ∀ sig, parseMethodDescriptor y.desc = some sig → argsL.length = sig.parameters.length)
    (hstack : g.stack = argsL.reverse ++ .ref b :: rest) (hW : 2 * g.monitorRoom + (rest.map fun v => v.category).sum ≤ W9) (hdg : decode c.code g.pc = .ok (.invokevirtual index, 3))
    (hpre : ∀ vm₁, s.WarmedH vm₁ → Pre ⟨T.setVm vm₁, locs, cells, slots⟩ (Value.ref b :: argsL).toArray) :
    (∃ (v : Option Value) (vm₁ : Vm) (B : Pt), s.WarmedH vm₁ ∧ Stand p l e R s m args below meth c B.U B.locs B.cells B.slots ∧ Post ⟨T.setVm vm₁, locs, cells, slots⟩ (Value.ref b :: argsL).toArray v B ∧
      ∀ target, Steps p.tables e below (B.U.setTop { g with pc := g.pc + 3, stack := v.toList ++ rest }) target → Steps p.tables e below (T.setTop g) target) ∨
    (∃ (q : Addr) (vm₁ : Vm) (B : Pt), s.WarmedH vm₁ ∧ Stand p l e R s m args below meth c B.U B.locs B.cells B.slots ∧ PostX ⟨T.setVm vm₁, locs, cells, slots⟩ (Value.ref b :: argsL).toArray q B ∧
      Steps p.tables e below (T.setTop g) ((B.U.setTop { g with stack := rest }).pushFrame (.throwing q))) := by
  obtain ⟨mk, methM, hnamed, hmethM, hstM, habM⟩ := Cond.instanceMethod_spec hinst
  obtain ⟨m8, methM', cM, hn8, hmethM', -, -, -, -, -, -, hsigM⟩ := Cond.codeWith_spec hcode
  cases Option.some.inj (hn8.symm.trans hnamed)
  cases hmethM.symm.trans hmethM'
  obtain ⟨c2, r2, m2, q1, q2, q3, q4, kP, hkP, hkPi⟩ := Cond.selects_spec hsel
  cases hcls.symm.trans q1
  cases (State.methodFound?_of_named hnamed hy).symm.trans q2
  cases hnamed.symm.trans q3
  have hselP : selectMethod e.platform s.vm cellB.cls mk = .method mk := by rw [Launch.admits_selectMethod X.admits]; exact q4
  obtain ⟨vm₁, X₁, hstep₁⟩ := X.invokevirtual hexec hown hlink hnamed hmethM hstM hkP hkPi hy (a := b) (cell := cellB) hcell
    (fun z h => by rw [h] at hobj; cases hobj) hselP hmethM habM hkP hkPi (g := g) hg (argsL := argsL) (rest := rest) (hlen _ hsigM) hstack hdg
  rcases hK m meth c ⟨T.setVm vm₁, locs, cells, slots⟩ { g with stack := rest } (.invokevirtual index) mk (Value.ref b :: argsL).toArray X₁ hg hsize hdg hW (X₁.named hnamed) (hpre vm₁ X₁.warmed) with ⟨v, B, X', hpost, hsteps⟩ | ⟨q, B, X', hpost, hsteps⟩
  · exact Or.inl ⟨v, vm₁, B, X₁.warmed, X', hpost, fun target h => hstep₁ _ fun acts => by rw [doInvoke_state]; exact hsteps.trans h⟩
  · exact Or.inr ⟨q, vm₁, B, X₁.warmed, X', hpost, hstep₁ _ fun acts => by rw [doInvoke_state]; exact hsteps⟩
theorem vx_callSX (X : Stand p l e R s m args below meth c T locs cells slots) (hexec : p.tables.exec = Jvm.exec) {own : String} {index : Nat} {y : MethodName} {bytes : ByteArray} {maxL : Nat} {ret : Option FieldType} {hh : List (Nat × Nat × Nat × Nat)}
    (hown : s.vm.findClass own = some m.cls) (hlink : (Cond.methodLink own index y).before args s = true) (hstat : (Cond.static y).before args s = true) (hinit : (Cond.initialized y.cls).before args s = true)
    (hcode : (Cond.codeWith y bytes maxL ret hh).before args s = true) (hy : y.cls ≠ "java/lang/invoke/MethodHandle" ∧ y.cls ≠ "java/lang/invoke/VarHandle")
    {W9 : Nat} {Pre : Pt → Array Value → Prop} {Post : Pt → Array Value → Option Value → Pt → Prop} {PostX : Pt → Array Value → Addr → Pt → Prop} (hK : vx_Back l R p e below s args y 3 W9 Pre Post PostX)
    {g : JFrame} (hg : g.method = m) (hsize : g.locals.size = c.maxLocals) {argsL rest : List Value} (hlen : ∀ sig, parseMethodDescriptor y.desc = some sig → argsL.length = sig.parameters.length)
    (hstack : g.stack = argsL.reverse ++ rest) (hW : 2 * g.monitorRoom + (rest.map fun v => v.category).sum ≤ W9) (hdg : decode c.code g.pc = .ok (.invokestatic index, 3))
    (hpre : ∀ vm₁, s.WarmedH vm₁ → Pre ⟨T.setVm vm₁, locs, cells, slots⟩ argsL.toArray) :
    (∃ (v : Option Value) (vm₁ : Vm) (B : Pt), s.WarmedH vm₁ ∧ Stand p l e R s m args below meth c B.U B.locs B.cells B.slots ∧ Post ⟨T.setVm vm₁, locs, cells, slots⟩ argsL.toArray v B ∧
      ∀ target, Steps p.tables e below (B.U.setTop { g with pc := g.pc + 3, stack := v.toList ++ rest }) target → Steps p.tables e below (T.setTop g) target) ∨
    (∃ (q : Addr) (vm₁ : Vm) (B : Pt), s.WarmedH vm₁ ∧ Stand p l e R s m args below meth c B.U B.locs B.cells B.slots ∧ PostX ⟨T.setVm vm₁, locs, cells, slots⟩ argsL.toArray q B ∧
      Steps p.tables e below (T.setTop g) ((B.U.setTop { g with stack := rest }).pushFrame (.throwing q))) := by
  obtain ⟨mk, methM, cM, hnamed, hmethM, -, -, -, -, -, -, hsigM⟩ := Cond.codeWith_spec hcode
  have hstatic : methM.isStatic = true := Cond.static_spec hnamed hmethM hstat
  obtain ⟨kP, hkP, -⟩ := className_of_methodNamed hnamed
  have hinitP : kP.init = .initialized := Cond.initialized_spec (findClass_of_methodNamed hnamed) hkP hinit
  obtain ⟨vm₁, X₁, hstep₁⟩ := X.invokestatic hexec hown hlink hnamed hmethM hstatic hkP hinitP hy (g := g) hg (argsL := argsL) (rest := rest) (hlen _ hsigM) hstack hdg
  rcases hK m meth c ⟨T.setVm vm₁, locs, cells, slots⟩ { g with stack := rest } (.invokestatic index) mk argsL.toArray X₁ hg hsize hdg hW (X₁.named hnamed) (hpre vm₁ X₁.warmed) with ⟨v, B, X', hpost, hsteps⟩ | ⟨q, B, X', hpost, hsteps⟩
  · exact Or.inl ⟨v, vm₁, B, X₁.warmed, X', hpost, fun target h => hstep₁ _ fun acts => by rw [doInvoke_state]; exact hsteps.trans h⟩
  · exact Or.inr ⟨q, vm₁, B, X₁.warmed, X', hpost, hstep₁ _ fun acts => by rw [doInvoke_state]; exact hsteps⟩
theorem vx_callVW (X : Stand p l e R s m args below meth c T locs cells slots) (hexec : p.tables.exec = Jvm.exec) {own C : String} {index : Nat} {y : MethodName} {bytes : ByteArray} {maxL : Nat} {ret : Option FieldType} {hh : List (Nat × Nat × Nat × Nat)}
    (hown : s.vm.findClass own = some m.cls) (hlink : (Cond.methodLink own index y).before args s = true) (hinst : (Cond.instanceMethod y).before args s = true) (hsel : (Cond.selects C y y).before args s = true)
    (hcode : (Cond.codeWith y bytes maxL ret hh).before args s = true) (hy : y.cls ≠ "java/lang/invoke/MethodHandle" ∧ y.cls ≠ "java/lang/invoke/VarHandle")
    {W9 : Nat} {Pre : Pt → Array Value → Prop} {Post : Pt → Array Value → Option Value → Pt → Prop} (hK : Back l R p e below s args y 3 W9 Pre Post)
    {b : Addr} {cellB : Cell} (hcell : T.heap[b]? = some cellB) (hobj : cellB.vm.isStatics = false) (hcls : s.vm.findClass C = some cellB.cls)
    {g : JFrame} (hg : g.method = m) (hsize : g.locals.size = c.maxLocals) {argsL rest : List Value} (hlen : ∀ sig, parseMethodDescriptor y.desc = some sig → argsL.length = sig.parameters.length)
    (hstack : g.stack = argsL.reverse ++ .ref b :: rest) (hW : 2 * g.monitorRoom + (rest.map fun v => v.category).sum ≤ W9) (hdg : decode c.code g.pc = .ok (.invokevirtual index, 3))
    (hpre : ∀ vm₁, s.WarmedH vm₁ → Pre ⟨T.setVm vm₁, locs, cells, slots⟩ (Value.ref b :: argsL).toArray) :
    ∃ (v : Option Value) (vm₁ : Vm) (B : Pt), s.WarmedH vm₁ ∧ Stand p l e R s m args below meth c B.U B.locs B.cells B.slots ∧ Post ⟨T.setVm vm₁, locs, cells, slots⟩ (Value.ref b :: argsL).toArray v B ∧
      ∀ target, Steps p.tables e below (B.U.setTop { g with pc := g.pc + 3, stack := v.toList ++ rest }) target → Steps p.tables e below (T.setTop g) target := by
  obtain ⟨mk, methM, hnamed, hmethM, hstM, habM⟩ := Cond.instanceMethod_spec hinst
  obtain ⟨m8, methM', cM, hn8, hmethM', -, -, -, -, -, -, hsigM⟩ := Cond.codeWith_spec hcode
  cases Option.some.inj (hn8.symm.trans hnamed)
  cases hmethM.symm.trans hmethM'
  obtain ⟨c2, r2, m2, q1, q2, q3, q4, kP, hkP, hkPi⟩ := Cond.selects_spec hsel
  cases hcls.symm.trans q1
  cases (State.methodFound?_of_named hnamed hy).symm.trans q2
  cases hnamed.symm.trans q3
  have hselP : selectMethod e.platform s.vm cellB.cls mk = .method mk := by rw [Launch.admits_selectMethod X.admits]; exact q4
  obtain ⟨vm₁, X₁, hstep₁⟩ := X.invokevirtual hexec hown hlink hnamed hmethM hstM hkP hkPi hy (a := b) (cell := cellB) hcell
    (fun z h => by rw [h] at hobj; cases hobj) hselP hmethM habM hkP hkPi (g := g) hg (argsL := argsL) (rest := rest) (hlen _ hsigM) hstack hdg
  obtain ⟨v, B, X', hpost, hsteps⟩ := hK m meth c ⟨T.setVm vm₁, locs, cells, slots⟩ { g with stack := rest } (.invokevirtual index) mk (Value.ref b :: argsL).toArray X₁ hg hsize hdg hW (X₁.named hnamed) (hpre vm₁ X₁.warmed)
  exact ⟨v, vm₁, B, X₁.warmed, X', hpost, fun target h => hstep₁ _ fun acts => by rw [doInvoke_state]; exact hsteps.trans h⟩
abbrev vx_CVW (R : Room) (s : State) (args : Array Value) (own C : String) (index : Nat) (y : MethodName) (bytes : ByteArray) (maxL : Nat) (ret : Option FieldType) (hh : List (Nat × Nat × Nat × Nat)) (ws : List Cond) (rm : Room) (mc ms n : Nat) : Prop :=
  (rm.cells = mc ∧ rm.slots = ms ∧ rm.frames + 1 ≤ R.frames ∧ 8 + (maxL + 11) + rm.locals ≤ R.locals ∧ (∀ w ∈ ws, ∀ (a' : Array Value) (U : State), s.WarmedH U.vm → w.before a' U = true) ∧ Cond.codeWith y bytes maxL ret hh ∈ ws) ∧
  (Cond.codeWith y bytes maxL ret hh).before args s = true ∧ (Cond.initialized y.cls).before args s = true ∧ (y.cls ≠ "java/lang/invoke/MethodHandle" ∧ y.cls ≠ "java/lang/invoke/VarHandle") ∧
  (∀ sig, parseMethodDescriptor y.desc = some sig → n = sig.parameters.length) ∧ (Cond.methodLink own index y).before args s = true ∧ (Cond.instanceMethod y).before args s = true ∧ (Cond.selects C y y).before args s = true
theorem vx_cwVW {own C : String} {index maxL mc ms : Nat} {y : MethodName} {bytes : ByteArray} {ret : Option FieldType} {hh : List (Nat × Nat × Nat × Nat)} {Ts ws ws' : List Cond} {rm : Room} (n : Nat) (ht : ∀ w ∈ Ts, w.before args s = true) (hT : GoodIn Ts (wsV own index C y ws)) (hw : ws = Cond.codeWith y bytes maxL ret hh :: ws') (hrc : rm.cells = mc) (hrs : rm.slots = ms)
    (hd : y.cls = C ∧ y.cls ≠ "java/lang/invoke/MethodHandle" ∧ y.cls ≠ "java/lang/invoke/VarHandle" ∧ (parseMethodDescriptor y.desc).map (fun d => d.parameters.length) = some n) (hR : rm.frames + 1 ≤ R.frames ∧ 8 + (maxL + 11) + rm.locals ≤ R.locals) :
    vx_CVW R s args own C index y bytes maxL ret hh ws rm mc ms n := by
  obtain ⟨hC, hd⟩ := hd
  subst hC
  have ok : ∀ w ∈ wsV own index y.cls y ws, w.before args s = true := fun w h => ht w (hT w h).1
  have hG : GoodIn Ts ws := fun w h => hT w (by unfold wsV; exact List.mem_append_right _ h)
  have hc : Cond.codeWith y bytes maxL ret hh ∈ ws := by rw [hw]; exact List.mem_cons_self
  refine ⟨⟨hrc, hrs, hR.1, hR.2, pay_in ht hG, hc⟩, ht _ (hG _ hc).1, ok _ (by simp [wsV]), ⟨hd.1, hd.2.1⟩, fun sig h => ?_, ok _ (by simp [wsV]), ok _ (by simp [wsV]), ok _ (by simp [wsV])⟩
  have h2 := hd.2.2
  rw [h] at h2
  exact (Option.some.inj h2).symm
theorem vx_runVW {y : MethodName} {bytes cc : ByteArray} {maxL nL mc ms n index : Nat} {ret : Option FieldType} {hh : List (Nat × Nat × Nat × Nat)} {ws : List Cond} {rm : Room} {Pc : Array Value → State → Prop} {Qc : Array Value → State → Outcome → State → Prop} {free : Addr → Prop} {Ts : List Cond} {own C : String} {b : Addr} {As rest : List Value} {g : JFrame}
    (S : CallFix p m c cc nL s args Ts own) (hM : Met l y ws rm Pc Qc mc ms free) (cw : vx_CVW R s args own C index y bytes maxL ret hh ws rm mc ms n) (hp : PreV s H C b Pc As)
    (hg : g.method = m) (hn : As.length = n) (hsize : g.locals.size = nL) (hstack : g.stack = As.reverse ++ .ref b :: rest) (hW : 2 * g.monitorRoom + (rest.map fun v => v.category).sum ≤ 8) (hdg : decode cc g.pc = .ok (.invokevirtual index, 3)) (hf : cells + mc ≤ R.cells ∧ slots + ms ≤ R.slots) :
    va_Run p l e R s m args below meth c H locs cells slots mc ms g rest (Qc (Value.ref b :: As).toArray) free := by
  obtain ⟨⟨hrc, hrs, hfr, hlo, hws, hcw⟩, hcode, hini, hy, hlen, hl, hin, hse⟩ := cw
  have hK : Back l R p e below s args y 3 8 (PreOf R mc ms Pc) (PostOf Qc mc ms free) := va_backW (hh := hh) (bytes := bytes) (maxL := maxL) (ret := ret) hM hp.1 hrc hrs hfr hlo hws hcw (fun a' U hW => word_at hW (Or.inl (by first | rfl | simp [Cond.onTables, Cond.keeps, Cond.steady])) hini)
  obtain ⟨hx, hb, hml, ho, -⟩ := S
  obtain ⟨-, ⟨cellB, hcB, hoB, hclB⟩, hPc⟩ := hp
  intro T hT X
  obtain ⟨v, vm₁, ⟨U', l2, c2, s2⟩, hW₁, X', ⟨g', mk, t, L, e1, e2, hq, h1, hL, h2, h3⟩, st⟩ := vx_callVW X hx (C := C) (hh := hh) (bytes := bytes) (maxL := maxL) (ret := ret) ho hl hin hse hcode hy hK (by rw [hT]; exact hcB) hoB hclB hg (hsize.trans hml.symm) (argsL := As) (rest := rest) (fun sig h => hn.trans (hlen sig h)) hstack hW (by rw [hb]; exact hdg)
    (fun vm₁ hW₁ => ⟨hf.1, hf.2, hPc (T.setVm vm₁) hT hW₁⟩)
  dsimp only [Pt.U, Pt.locs, Pt.cells, Pt.slots] at X' e1 e2 h1 h2 h3 st
  subst h1; subst h2; subst h3
  exact ⟨v, (T.setVm vm₁).calling g' mk (Value.ref b :: As).toArray, t, U', L, hT, X', hL, e1, e2, hq, st⟩
section
variable {y : MethodName} {bytes cc : ByteArray} {maxL nL mc ms n index : Nat} {ret : Option FieldType} {ws : List Cond} {rm : Room} {Pc : Array Value → State → Prop} {Qc : Array Value → State → Outcome → State → Prop} {XC : String → State → State → Prop} {free : Addr → Prop} {Ts : List Cond} {own C : String} {b : Addr} {As rest : List Value} {g : JFrame}
theorem vx_runVX {hh : List (Nat × Nat × Nat × Nat)} (S : CallFix p m c cc nL s args Ts own) (hM : vx_Met l y ws rm Pc Qc XC mc ms free) (cw : vx_CVW R s args own C index y bytes maxL ret hh ws rm mc ms n) (hp : PreV s H C b Pc As)
    (hg : g.method = m) (hn : As.length = n) (hsize : g.locals.size = nL) (hstack : g.stack = As.reverse ++ .ref b :: rest) (hW : 2 * g.monitorRoom + (rest.map fun v => v.category).sum ≤ 8) (hdg : decode cc g.pc = .ok (.invokevirtual index, 3)) (hf : cells + mc ≤ R.cells ∧ slots + ms ≤ R.slots) :
    vx_Run p l e R s m args below meth c H locs cells slots mc ms g rest (Qc (Value.ref b :: As).toArray) XC free := by
  obtain ⟨⟨hrc, hrs, hfr, hlo, hws, hcw⟩, hcode, hini, hy, hlen, hl, hin, hse⟩ := cw
  have hK : vx_Back l R p e below s args y 3 8 (PreOf R mc ms Pc) (PostOf Qc mc ms free) (vx_Post XC mc ms free) := vx_backW (hh := hh) (bytes := bytes) (maxL := maxL) (ret := ret) hM hp.1 hrc hrs hfr hlo hws hcw (fun a' U hW => word_at hW (Or.inl (by first | rfl | simp [Cond.onTables, Cond.keeps, Cond.steady])) hini)
  obtain ⟨hx, hb, hml, ho, -⟩ := S
  obtain ⟨-, ⟨cellB, hcB, hoB, hclB⟩, hPc⟩ := hp
  intro T hT X
  rcases vx_callVX X hx (C := C) (hh := hh) (bytes := bytes) (maxL := maxL) (ret := ret) ho hl hin hse hcode hy hK (by rw [hT]; exact hcB) hoB hclB hg (hsize.trans hml.symm) (argsL := As) (rest := rest) (fun sig h => hn.trans (hlen sig h)) hstack hW (by rw [hb]; exact hdg)
    (fun vm₁ hW₁ => ⟨hf.1, hf.2, hPc (T.setVm vm₁) hT hW₁⟩) with ⟨v, vm₁, ⟨U', l2, c2, s2⟩, hW₁, X', ⟨g', mk, t, L, e1, e2, hq, h1, hL, h2, h3⟩, st⟩ | ⟨q, vm₁, ⟨U', l2, c2, s2⟩, hW₁, X', ⟨g', mk, t, L, E, ce, e1, e2, hq, hce, hcv, hcl, h1, hL, h2, h3⟩, st⟩
  · dsimp only [Pt.U, Pt.locs, Pt.cells, Pt.slots] at X' e1 e2 h1 h2 h3 st
    subst h1; subst h2; subst h3
    exact Or.inl ⟨v, (T.setVm vm₁).calling g' mk (Value.ref b :: As).toArray, t, U', L, hT, X', hL, e1, e2, hq, st⟩
  · dsimp only [Pt.U, Pt.locs, Pt.cells, Pt.slots] at X' e1 e2 h1 h2 h3 st hcl
    subst h1; subst h2; subst h3
    exact Or.inr ⟨q, (T.setVm vm₁).calling g' mk (Value.ref b :: As).toArray, t, U', L, E, ce, hT, X', hL, e1, e2, hq, hce, hcv, vx_cls hW₁ hcl, st⟩
theorem vx_runSX {hh : List (Nat × Nat × Nat × Nat)} (S : CallFix p m c cc nL s args Ts own) (hM : vx_Met l y ws rm Pc Qc XC mc ms free) (cw : vx_CSW R s args own index y bytes maxL ret hh ws rm mc ms n) (hp : PreS s H Pc As)
    (hg : g.method = m) (hn : As.length = n) (hsize : g.locals.size = nL) (hstack : g.stack = As.reverse ++ rest) (hW : 2 * g.monitorRoom + (rest.map fun v => v.category).sum ≤ 8) (hdg : decode cc g.pc = .ok (.invokestatic index, 3)) (hf : cells + mc ≤ R.cells ∧ slots + ms ≤ R.slots) :
    vx_Run p l e R s m args below meth c H locs cells slots mc ms g rest (Qc As.toArray) XC free := by
  obtain ⟨⟨hrc, hrs, hfr, hlo, hws, hcw⟩, hcode, hini, hy, hlen, hl, hstt⟩ := cw
  have hK : vx_Back l R p e below s args y 3 8 (PreOf R mc ms Pc) (PostOf Qc mc ms free) (vx_Post XC mc ms free) := vx_backW (hh := hh) (bytes := bytes) (maxL := maxL) (ret := ret) hM hp.1 hrc hrs hfr hlo hws hcw (fun a' U hW => word_at hW (Or.inl (by first | rfl | simp [Cond.onTables, Cond.keeps, Cond.steady])) hini)
  obtain ⟨hx, hb, hml, ho, -⟩ := S
  intro T hT X
  rcases vx_callSX X hx (hh := hh) (bytes := bytes) (maxL := maxL) (ret := ret) ho hl hstt hini hcode hy hK hg (hsize.trans hml.symm) (argsL := As) (rest := rest) (fun sig h => hn.trans (hlen sig h)) hstack hW (by rw [hb]; exact hdg)
    (fun vm₁ hW₁ => ⟨hf.1, hf.2, hp.2 (T.setVm vm₁) hT hW₁⟩) with ⟨v, vm₁, ⟨U', l2, c2, s2⟩, hW₁, X', ⟨g', mk, t, L, e1, e2, hq, h1, hL, h2, h3⟩, st⟩ | ⟨q, vm₁, ⟨U', l2, c2, s2⟩, hW₁, X', ⟨g', mk, t, L, E, ce, e1, e2, hq, hce, hcv, hcl, h1, hL, h2, h3⟩, st⟩
  · dsimp only [Pt.U, Pt.locs, Pt.cells, Pt.slots] at X' e1 e2 h1 h2 h3 st
    subst h1; subst h2; subst h3
    exact Or.inl ⟨v, (T.setVm vm₁).calling g' mk As.toArray, t, U', L, hT, X', hL, e1, e2, hq, st⟩
  · dsimp only [Pt.U, Pt.locs, Pt.cells, Pt.slots] at X' e1 e2 h1 h2 h3 st hcl
    subst h1; subst h2; subst h3
    exact Or.inr ⟨q, (T.setVm vm₁).calling g' mk As.toArray, t, U', L, E, ce, hT, X', hL, e1, e2, hq, hce, hcv, vx_cls hW₁ hcl, st⟩
end
end VXH
theorem vx_ofWH {l : Launch} {y : MethodName} {ws ws' : List Cond} {rm : Room} {Pc : Array Value → State → Prop} {Qc : Array Value → State → Outcome → State → Prop} {XC : String → State → State → Prop} {mc ms : Nat} {free : Addr → Prop} {cc : ByteArray} {maxL : Nat} {ret : Option FieldType} {hh : List (Nat × Nat × Nat × Nat)}
    (hy : plainName y.cls = true) (hw : ws = Cond.codeWith y cc maxL ret hh :: ws')
    (body : ∀ p e s m args below meth c s₁, BodyLoose p l y (headSpec ws rm) cc maxL ret e s m args below meth c s₁ → c.maxLocals = maxL → Pc args s →
      W p l e (headSpec ws rm).room s m args below meth c s.heap [] 0 0 (vx_MQ below Qc XC args s mc ms free) (entryFrame m args maxL)) : vx_Met l y ws rm Pc Qc XC mc ms free := by
  refine MetFree.of_bodyS (code := cc) (maxLocals := maxL) (ret := ret) hy ?_ ?_
  · intro args s m h hn
    obtain ⟨m9, meth, c, hn9, h1, h2, h3, h4, -, h5, h6, -⟩ := Cond.codeWith_spec (atoms_spec (ws := ws) h _ (by rw [hw]; exact List.mem_cons_self))
    cases hn.symm.trans hn9
    exact ⟨meth, c, h1, h2, h3, h4, h5, h6⟩
  · intro p e s m args below meth c s₁ B hml hP _
    have hh0 : s₁.heap = s.heap := by rw [B.state]; rfl
    obtain ⟨t, a1, o, b1, b2, b3⟩ := body p e s m args below meth c s₁ B hml hP s₁ hh0 (Stand.of_body B)
    exact ⟨t, o, a1, b1, b2, b3⟩
/-! ===== END ===== -/
end
section
/-! ===== BEGIN printed: names, fields, word lists, decode rows ===== -/
def RX0 : String := "EndVersions$Script"
def TX0 : u_T := fun k => match k with
  | 0 => ("EndVersions$Script", "length", "I", false)
  | 1 => ("EndVersions$Script", "acts", "I", false)
  | 2 => ("EndVersions$Script", "bytes", "[I", true)
  | 3 => ("EndVersions$Script", "kinds", "[I", true)
  | 4 => ("EndVersions$Script", "values", "[I", true)
  | 5 => ("EndVersions$Script", "kind", "I", false)
  | 6 => ("EndVersions$Script", "negative", "Z", false)
  | _ => ("EndVersions$Script", "number", "I", false)
def tyX0 : Nat → FieldType := fun k => match k with
  | 0 => .int
  | 1 => .int
  | 2 => .array .int
  | 3 => .array .int
  | 4 => .array .int
  | 5 => .int
  | 6 => .boolean
  | _ => .int
abbrev wsX00 : List Cond := u_ws RX0 TX0 8
theorem nmX0 : ∀ a, a < 8 → ∀ b, b < 8 → a ≠ b → (TX0 a).2.1 ≠ (TX0 b).2.1 := by decide +kernel
theorem tyX0_ok : ∀ k, k < 8 → parseFieldDescriptor (TX0 k).2.2.1 = some (tyX0 k) := by decide +kernel
abbrev cX0_init : ByteArray := prog_2_method_1_code
def yX0_init : MethodName := ⟨RX0, "<init>", "()V"⟩
abbrev cX0_extend : ByteArray := prog_2_method_2_code
def yX0_extend : MethodName := ⟨RX0, "extend", "(I)V"⟩
abbrev cX0_actAt : ByteArray := prog_2_method_3_code
def yX0_actAt : MethodName := ⟨RX0, "actAt", "(I)I"⟩
abbrev cX0_valueAt : ByteArray := prog_2_method_4_code
def yX0_valueAt : MethodName := ⟨RX0, "valueAt", "(I)I"⟩
abbrev cX0_read : ByteArray := prog_2_method_5_code
def yX0_read : MethodName := ⟨RX0, "read", "()I"⟩
abbrev cX0_next : ByteArray := prog_2_method_6_code
def yX0_next : MethodName := ⟨RX0, "next", "(II)I"⟩
abbrev cX0_begin : ByteArray := prog_2_method_7_code
def yX0_begin : MethodName := ⟨RX0, "begin", "(I)I"⟩
abbrev cX0_end : ByteArray := prog_2_method_8_code
def yX0_end : MethodName := ⟨RX0, "end", "()V"⟩
def RX1 : String := "EndVersions$State"
def TX1 : u_T := fun k => match k with
  | 0 => ("EndVersions$State", "held", "I", false)
  | 1 => ("EndVersions$State", "rate", "I", false)
  | 2 => ("EndVersions$State", "ratio", "I", false)
  | 3 => ("EndVersions$State", "versions", "[LEndVersions$Version;", true)
  | _ => ("EndVersions$State", "childMarks", "[I", true)
def tyX1 : Nat → FieldType := fun k => match k with
  | 0 => .int
  | 1 => .int
  | 2 => .int
  | 3 => .array (.object "EndVersions$Version")
  | _ => .array .int
abbrev wsX10 : List Cond := u_ws RX1 TX1 5
theorem nmX1 : ∀ a, a < 5 → ∀ b, b < 5 → a ≠ b → (TX1 a).2.1 ≠ (TX1 b).2.1 := by decide +kernel
theorem tyX1_ok : ∀ k, k < 5 → parseFieldDescriptor (TX1 k).2.2.1 = some (tyX1 k) := by decide +kernel
abbrev cX1_init : ByteArray := prog_3_method_1_code
def yX1_init : MethodName := ⟨RX1, "<init>", "()V"⟩
abbrev cX1_copyFrom : ByteArray := prog_3_method_2_code
def yX1_copyFrom : MethodName := ⟨RX1, "copyFrom", "(LEndVersions$State;)V"⟩
abbrev cX1_has : ByteArray := prog_3_method_3_code
def yX1_has : MethodName := ⟨RX1, "has", "(I)Z"⟩
abbrev cX1_hasPlace : ByteArray := prog_3_method_4_code
def yX1_hasPlace : MethodName := ⟨RX1, "hasPlace", "(II)Z"⟩
abbrev cX1_slot : ByteArray := prog_3_method_5_code
def yX1_slot : MethodName := ⟨RX1, "slot", "(I)LEndVersions$Version;"⟩
abbrev cX1_settingOf : ByteArray := prog_3_method_6_code
def yX1_settingOf : MethodName := ⟨RX1, "settingOf", "(I)I"⟩
abbrev cX1_changeSetting : ByteArray := prog_3_method_7_code
def yX1_changeSetting : MethodName := ⟨RX1, "changeSetting", "(II)V"⟩
abbrev cX1_left : ByteArray := prog_3_method_8_code
def yX1_left : MethodName := ⟨RX1, "left", "()I"⟩
abbrev cX1_allows : ByteArray := prog_3_method_9_code
def yX1_allows : MethodName := ⟨RX1, "allows", "(II)Z"⟩
abbrev cX1_grow : ByteArray := prog_3_method_10_code
def yX1_grow : MethodName := ⟨RX1, "grow", "(III)I"⟩
abbrev cX1_growBy : ByteArray := prog_3_method_11_code
def yX1_growBy : MethodName := ⟨RX1, "growBy", "(LEndVersions$Script;I)I"⟩
abbrev cX1_total : ByteArray := prog_3_method_12_code
def yX1_total : MethodName := ⟨RX1, "total", "(I)I"⟩
abbrev cX1_childless : ByteArray := prog_3_method_13_code
def yX1_childless : MethodName := ⟨RX1, "childless", "()I"⟩
abbrev cX1_greatestFact : ByteArray := prog_3_method_14_code
def yX1_greatestFact : MethodName := ⟨RX1, "greatestFact", "(I)I"⟩
abbrev cX1_sumOfFacts : ByteArray := prog_3_method_15_code
def yX1_sumOfFacts : MethodName := ⟨RX1, "sumOfFacts", "(I)I"⟩
abbrev cX1_stalled : ByteArray := prog_3_method_16_code
def yX1_stalled : MethodName := ⟨RX1, "stalled", "()I"⟩
abbrev cX1_rebuilding : ByteArray := prog_3_method_17_code
def yX1_rebuilding : MethodName := ⟨RX1, "rebuilding", "()I"⟩
abbrev cX1_meeting : ByteArray := prog_3_method_18_code
def yX1_meeting : MethodName := ⟨RX1, "meeting", "(II)I"⟩
abbrev cX1_firstWithRowOf : ByteArray := prog_3_method_19_code
def yX1_firstWithRowOf : MethodName := ⟨RX1, "firstWithRowOf", "(I)I"⟩
abbrev cX1_greatestCostOnWay : ByteArray := prog_3_method_20_code
def yX1_greatestCostOnWay : MethodName := ⟨RX1, "greatestCostOnWay", "(I)I"⟩
abbrev cX1_sumOfCostsOnWay : ByteArray := prog_3_method_21_code
def yX1_sumOfCostsOnWay : MethodName := ⟨RX1, "sumOfCostsOnWay", "(I)I"⟩
def RX2 : String := "EndVersions$Trial"
def TX2 : u_T := fun k => match k with
  | 0 => ("EndVersions$Trial", "stalled", "I", false)
  | 1 => ("EndVersions$Trial", "greatestCost", "I", false)
  | _ => ("EndVersions$Trial", "row", "LEndVersions$Version;", true)
def tyX2 : Nat → FieldType := fun k => match k with
  | 0 => .int
  | 1 => .int
  | _ => .object "EndVersions$Version"
abbrev wsX20 : List Cond := u_ws RX2 TX2 3
theorem nmX2 : ∀ a, a < 3 → ∀ b, b < 3 → a ≠ b → (TX2 a).2.1 ≠ (TX2 b).2.1 := by decide +kernel
theorem tyX2_ok : ∀ k, k < 3 → parseFieldDescriptor (TX2 k).2.2.1 = some (tyX2 k) := by decide +kernel
abbrev cX2_init : ByteArray := prog_4_method_1_code
def yX2_init : MethodName := ⟨RX2, "<init>", "()V"⟩
abbrev cX2_play : ByteArray := prog_4_method_2_code
def yX2_play : MethodName := ⟨RX2, "play", "(LEndVersions$Script;LEndVersions$State;II)V"⟩
def RX3 : String := "EndVersions$Version"
def TX3 : u_T := fun k => match k with
  | 0 => ("EndVersions$Version", "parent", "I", false)
  | 1 => ("EndVersions$Version", "kind", "I", false)
  | 2 => ("EndVersions$Version", "moved", "I", false)
  | 3 => ("EndVersions$Version", "depth", "I", false)
  | 4 => ("EndVersions$Version", "front", "I", false)
  | 5 => ("EndVersions$Version", "back", "I", false)
  | 6 => ("EndVersions$Version", "debt", "I", false)
  | 7 => ("EndVersions$Version", "goal", "I", false)
  | 8 => ("EndVersions$Version", "cost", "I", false)
  | 9 => ("EndVersions$Version", "extra", "I", false)
  | _ => ("EndVersions$Version", "row", "[I", true)
def tyX3 : Nat → FieldType := fun k => match k with
  | 0 => .int
  | 1 => .int
  | 2 => .int
  | 3 => .int
  | 4 => .int
  | 5 => .int
  | 6 => .int
  | 7 => .int
  | 8 => .int
  | 9 => .int
  | _ => .array .int
abbrev wsX30 : List Cond := u_ws RX3 TX3 11
theorem nmX3 : ∀ a, a < 11 → ∀ b, b < 11 → a ≠ b → (TX3 a).2.1 ≠ (TX3 b).2.1 := by decide +kernel
theorem tyX3_ok : ∀ k, k < 11 → parseFieldDescriptor (TX3 k).2.2.1 = some (tyX3 k) := by decide +kernel
abbrev cX3_init : ByteArray := prog_5_method_1_code
def yX3_init : MethodName := ⟨RX3, "<init>", "()V"⟩
abbrev cX3_copyFrom : ByteArray := prog_5_method_2_code
def yX3_copyFrom : MethodName := ⟨RX3, "copyFrom", "(LEndVersions$Version;)V"⟩
abbrev cX3_size : ByteArray := prog_5_method_3_code
def yX3_size : MethodName := ⟨RX3, "size", "()I"⟩
abbrev cX3_look : ByteArray := prog_5_method_4_code
def yX3_look : MethodName := ⟨RX3, "look", "(I)I"⟩
abbrev cX3_isRebuilding : ByteArray := prog_5_method_5_code
def yX3_isRebuilding : MethodName := ⟨RX3, "isRebuilding", "()Z"⟩
abbrev cX3_fact : ByteArray := prog_5_method_6_code
def yX3_fact : MethodName := ⟨RX3, "fact", "(I)I"⟩
abbrev cX3_hasRowOf : ByteArray := prog_5_method_7_code
def yX3_hasRowOf : MethodName := ⟨RX3, "hasRowOf", "(LEndVersions$Version;)Z"⟩
abbrev cX3_permits : ByteArray := prog_5_method_8_code
def yX3_permits : MethodName := ⟨RX3, "permits", "(I)Z"⟩
abbrev cX3_perform : ByteArray := prog_5_method_9_code
def yX3_perform : MethodName := ⟨RX3, "perform", "(IIII)V"⟩
abbrev cX3_fetchFromOtherPart : ByteArray := prog_5_method_10_code
def yX3_fetchFromOtherPart : MethodName := ⟨RX3, "fetchFromOtherPart", "(Z)V"⟩
abbrev cX3_put : ByteArray := prog_5_method_11_code
def yX3_put : MethodName := ⟨RX3, "put", "(IZ)V"⟩
abbrev cX3_take : ByteArray := prog_5_method_12_code
def yX3_take : MethodName := ⟨RX3, "take", "(Z)V"⟩
abbrev cX3_moveGoal : ByteArray := prog_5_method_13_code
def yX3_moveGoal : MethodName := ⟨RX3, "moveGoal", "(I)V"⟩
abbrev cX3_pay : ByteArray := prog_5_method_14_code
def yX3_pay : MethodName := ⟨RX3, "pay", "(I)V"⟩
abbrev cX3_endRebuild : ByteArray := prog_5_method_15_code
def yX3_endRebuild : MethodName := ⟨RX3, "endRebuild", "()V"⟩
abbrev cX3_beginRebuild : ByteArray := prog_5_method_16_code
def yX3_beginRebuild : MethodName := ⟨RX3, "beginRebuild", "(I)V"⟩
def RX4 : String := "EndVersions"
def TX4 : u_T := fun k => match k with
  | 0 => ("EndVersions", "script", "LEndVersions$Script;", true)
  | 1 => ("EndVersions", "trial", "LEndVersions$Trial;", true)
  | 2 => ("EndVersions", "saved", "[LEndVersions$State;", true)
  | 3 => ("EndVersions", "now", "LEndVersions$State;", false)
  | _ => ("EndVersions", "savedStates", "I", false)
def tyX4 : Nat → FieldType := fun k => match k with
  | 0 => .object "EndVersions$Script"
  | 1 => .object "EndVersions$Trial"
  | 2 => .array (.object "EndVersions$State")
  | 3 => .object "EndVersions$State"
  | _ => .int
abbrev wsX40 : List Cond := u_ws RX4 TX4 5
theorem nmX4 : ∀ a, a < 5 → ∀ b, b < 5 → a ≠ b → (TX4 a).2.1 ≠ (TX4 b).2.1 := by decide +kernel
theorem tyX4_ok : ∀ k, k < 5 → parseFieldDescriptor (TX4 k).2.2.1 = some (tyX4 k) := by decide +kernel
abbrev cX4_init : ByteArray := prog_1_method_1_code
def yX4_init : MethodName := ⟨RX4, "<init>", "()V"⟩
abbrev cX4_set : ByteArray := prog_1_method_2_code
def yX4_set : MethodName := ⟨RX4, "set", "(II)I"⟩
abbrev cX4_push : ByteArray := prog_1_method_3_code
def yX4_push : MethodName := ⟨RX4, "push", "(IIZ)I"⟩
abbrev cX4_pop : ByteArray := prog_1_method_4_code
def yX4_pop : MethodName := ⟨RX4, "pop", "(IZ)I"⟩
abbrev cX4_drop : ByteArray := prog_1_method_5_code
def yX4_drop : MethodName := ⟨RX4, "drop", "()I"⟩
abbrev cX4_clear : ByteArray := prog_1_method_6_code
def yX4_clear : MethodName := ⟨RX4, "clear", "()I"⟩
abbrev cX4_version : ByteArray := prog_1_method_7_code
def yX4_version : MethodName := ⟨RX4, "version", "(II)I"⟩
abbrev cX4_value : ByteArray := prog_1_method_8_code
def yX4_value : MethodName := ⟨RX4, "value", "(I)I"⟩
abbrev cX4_at : ByteArray := prog_1_method_9_code
def yX4_at : MethodName := ⟨RX4, "at", "(II)I"⟩
abbrev cX4_steps : ByteArray := prog_1_method_10_code
def yX4_steps : MethodName := ⟨RX4, "steps", "(II)I"⟩
abbrev cX4_count : ByteArray := prog_1_method_11_code
def yX4_count : MethodName := ⟨RX4, "count", "(I)I"⟩
abbrev cX4_setting : ByteArray := prog_1_method_12_code
def yX4_setting : MethodName := ⟨RX4, "setting", "(I)I"⟩
abbrev cX4_common : ByteArray := prog_1_method_13_code
def yX4_common : MethodName := ⟨RX4, "common", "(II)I"⟩
abbrev cX4_same : ByteArray := prog_1_method_14_code
def yX4_same : MethodName := ⟨RX4, "same", "(II)Z"⟩
abbrev cX4_firstLike : ByteArray := prog_1_method_15_code
def yX4_firstLike : MethodName := ⟨RX4, "firstLike", "(I)I"⟩
abbrev cX4_worst : ByteArray := prog_1_method_16_code
def yX4_worst : MethodName := ⟨RX4, "worst", "(I)I"⟩
abbrev cX4_mean : ByteArray := prog_1_method_17_code
def yX4_mean : MethodName := ⟨RX4, "mean", "(I)D"⟩
abbrev cX4_append : ByteArray := prog_1_method_18_code
def yX4_append : MethodName := ⟨RX4, "append", "(I)I"⟩
abbrev cX4_clearText : ByteArray := prog_1_method_19_code
def yX4_clearText : MethodName := ⟨RX4, "clearText", "()I"⟩
abbrev cX4_run : ByteArray := prog_1_method_20_code
def yX4_run : MethodName := ⟨RX4, "run", "(I)I"⟩
abbrev cX4_stalls : ByteArray := prog_1_method_21_code
def yX4_stalls : MethodName := ⟨RX4, "stalls", "(II)I"⟩
abbrev cX4_worstWith : ByteArray := prog_1_method_22_code
def yX4_worstWith : MethodName := ⟨RX4, "worstWith", "(II)I"⟩
abbrev cX4_leastRate : ByteArray := prog_1_method_23_code
def yX4_leastRate : MethodName := ⟨RX4, "leastRate", "(I)I"⟩
abbrev cX4_undo : ByteArray := prog_1_method_24_code
def yX4_undo : MethodName := ⟨RX4, "undo", "()I"⟩
abbrev cX4_digest : ByteArray := prog_1_method_25_code
def yX4_digest : MethodName := ⟨RX4, "digest", "()J"⟩
abbrev cX4_requireVersion : ByteArray := prog_1_method_26_code
def yX4_requireVersion : MethodName := ⟨RX4, "requireVersion", "(I)V"⟩
abbrev cX4_requirePlace : ByteArray := prog_1_method_27_code
def yX4_requirePlace : MethodName := ⟨RX4, "requirePlace", "(II)V"⟩
abbrev cX4_requireRate : ByteArray := prog_1_method_28_code
def yX4_requireRate : MethodName := ⟨RX4, "requireRate", "(I)V"⟩
abbrev cX4_requireReadableText : ByteArray := prog_1_method_29_code
def yX4_requireReadableText : MethodName := ⟨RX4, "requireReadableText", "()V"⟩
abbrev cX4_isRate : ByteArray := prog_1_method_30_code
def yX4_isRate : MethodName := ⟨RX4, "isRate", "(I)Z"⟩
abbrev cX4_isRatio : ByteArray := prog_1_method_31_code
def yX4_isRatio : MethodName := ⟨RX4, "isRatio", "(I)Z"⟩
abbrev cX4_isSettingValue : ByteArray := prog_1_method_32_code
def yX4_isSettingValue : MethodName := ⟨RX4, "isSettingValue", "(II)Z"⟩
abbrev cX4_isPush : ByteArray := prog_1_method_33_code
def yX4_isPush : MethodName := ⟨RX4, "isPush", "(I)Z"⟩
abbrev cX4_isAtFront : ByteArray := prog_1_method_34_code
def yX4_isAtFront : MethodName := ⟨RX4, "isAtFront", "(I)Z"⟩
abbrev cX4_cell : ByteArray := prog_1_method_35_code
def yX4_cell : MethodName := ⟨RX4, "cell", "([II)I"⟩
abbrev cX4_fill : ByteArray := prog_1_method_36_code
def yX4_fill : MethodName := ⟨RX4, "fill", "([III)V"⟩
abbrev cX4_mixed : ByteArray := prog_1_method_37_code
def yX4_mixed : MethodName := ⟨RX4, "mixed", "(JI)J"⟩
abbrev cX4_mixedWith : ByteArray := prog_1_method_38_code
def yX4_mixedWith : MethodName := ⟨RX4, "mixedWith", "(JLEndVersions$Version;)J"⟩
abbrev cX4_save : ByteArray := prog_1_method_39_code
def yX4_save : MethodName := ⟨RX4, "save", "()V"⟩
abbrev cX4_moveOldestSavedToEnd : ByteArray := prog_1_method_40_code
def yX4_moveOldestSavedToEnd : MethodName := ⟨RX4, "moveOldestSavedToEnd", "()V"⟩
def RX5 : String := "EndVersionsModel"
def TX5 : u_T := fun k => match k with
  | 0 => ("EndVersionsModel", "now", "[I", true)
  | 1 => ("EndVersionsModel", "past", "[I", true)
  | 2 => ("EndVersionsModel", "pasts", "I", false)
  | 3 => ("EndVersionsModel", "trial", "[I", true)
  | 4 => ("EndVersionsModel", "text", "[I", true)
  | 5 => ("EndVersionsModel", "typed", "I", false)
  | 6 => ("EndVersionsModel", "thrown", "I", false)
  | 7 => ("EndVersionsModel", "values", "[I", true)
  | 8 => ("EndVersionsModel", "first", "I", false)
  | 9 => ("EndVersionsModel", "behind", "I", false)
  | 10 => ("EndVersionsModel", "way", "[I", true)
  | 11 => ("EndVersionsModel", "row", "[I", true)
  | 12 => ("EndVersionsModel", "acts", "[I", true)
  | 13 => ("EndVersionsModel", "told", "[I", true)
  | 14 => ("EndVersionsModel", "actMany", "I", false)
  | _ => ("EndVersionsModel", "at", "I", false)
def tyX5 : Nat → FieldType := fun k => match k with
  | 0 => .array .int
  | 1 => .array .int
  | 2 => .int
  | 3 => .array .int
  | 4 => .array .int
  | 5 => .int
  | 6 => .int
  | 7 => .array .int
  | 8 => .int
  | 9 => .int
  | 10 => .array .int
  | 11 => .array .int
  | 12 => .array .int
  | 13 => .array .int
  | 14 => .int
  | _ => .int
abbrev wsX50 : List Cond := u_ws RX5 TX5 16
theorem nmX5 : ∀ a, a < 16 → ∀ b, b < 16 → a ≠ b → (TX5 a).2.1 ≠ (TX5 b).2.1 := by decide +kernel
theorem tyX5_ok : ∀ k, k < 16 → parseFieldDescriptor (TX5 k).2.2.1 = some (tyX5 k) := by decide +kernel
abbrev cX5_init : ByteArray := prog_7_method_1_code
def yX5_init : MethodName := ⟨RX5, "<init>", "()V"⟩
abbrev cX5_thrown : ByteArray := prog_7_method_2_code
def yX5_thrown : MethodName := ⟨RX5, "thrown", "()I"⟩
abbrev cX5_in : ByteArray := prog_7_method_3_code
def yX5_in : MethodName := ⟨RX5, "in", "(III)Z"⟩
abbrev cX5_copies : ByteArray := prog_7_method_4_code
def yX5_copies : MethodName := ⟨RX5, "copies", "([II[II)V"⟩
abbrev cX5_saves : ByteArray := prog_7_method_5_code
def yX5_saves : MethodName := ⟨RX5, "saves", "()V"⟩
abbrev cX5_of : ByteArray := prog_7_method_6_code
def yX5_of : MethodName := ⟨RX5, "of", "(II)I"⟩
abbrev cX5_lays : ByteArray := prog_7_method_7_code
def yX5_lays : MethodName := ⟨RX5, "lays", "(III)V"⟩
abbrev cX5_adds : ByteArray := prog_7_method_8_code
def yX5_adds : MethodName := ⟨RX5, "adds", "(III)V"⟩
abbrev cX5_isVersion : ByteArray := prog_7_method_9_code
def yX5_isVersion : MethodName := ⟨RX5, "isVersion", "(I)Z"⟩
abbrev cX5_partOf : ByteArray := prog_7_method_10_code
def yX5_partOf : MethodName := ⟨RX5, "partOf", "(IZ)I"⟩
abbrev cX5_laysWay : ByteArray := prog_7_method_11_code
def yX5_laysWay : MethodName := ⟨RX5, "laysWay", "(I)I"⟩
abbrev cX5_laysRow : ByteArray := prog_7_method_12_code
def yX5_laysRow : MethodName := ⟨RX5, "laysRow", "(I)V"⟩
abbrev cX5_valueAt : ByteArray := prog_7_method_13_code
def yX5_valueAt : MethodName := ⟨RX5, "valueAt", "(II)I"⟩
abbrev cX5_half : ByteArray := prog_7_method_14_code
def yX5_half : MethodName := ⟨RX5, "half", "(I)I"⟩
abbrev cX5_isOver : ByteArray := prog_7_method_15_code
def yX5_isOver : MethodName := ⟨RX5, "isOver", "(I)V"⟩
abbrev cX5_begins : ByteArray := prog_7_method_16_code
def yX5_begins : MethodName := ⟨RX5, "begins", "(I)I"⟩
abbrev cX5_opens : ByteArray := prog_7_method_17_code
def yX5_opens : MethodName := ⟨RX5, "opens", "(IZ)V"⟩
abbrev cX5_changes : ByteArray := prog_7_method_18_code
def yX5_changes : MethodName := ⟨RX5, "changes", "(IZI)V"⟩
abbrev cX5_pays : ByteArray := prog_7_method_19_code
def yX5_pays : MethodName := ⟨RX5, "pays", "(I)V"⟩
abbrev cX5_pushes : ByteArray := prog_7_method_20_code
def yX5_pushes : MethodName := ⟨RX5, "pushes", "(IIZ)I"⟩
abbrev cX5_pops : ByteArray := prog_7_method_21_code
def yX5_pops : MethodName := ⟨RX5, "pops", "(IZ)I"⟩
abbrev cX5_set : ByteArray := prog_7_method_22_code
def yX5_set : MethodName := ⟨RX5, "set", "(II)I"⟩
abbrev cX5_push : ByteArray := prog_7_method_23_code
def yX5_push : MethodName := ⟨RX5, "push", "(IIZ)I"⟩
abbrev cX5_pop : ByteArray := prog_7_method_24_code
def yX5_pop : MethodName := ⟨RX5, "pop", "(IZ)I"⟩
abbrev cX5_drop : ByteArray := prog_7_method_25_code
def yX5_drop : MethodName := ⟨RX5, "drop", "()I"⟩
abbrev cX5_clear : ByteArray := prog_7_method_26_code
def yX5_clear : MethodName := ⟨RX5, "clear", "()I"⟩
abbrev cX5_told : ByteArray := prog_7_method_27_code
def yX5_told : MethodName := ⟨RX5, "told", "(II)I"⟩
abbrev cX5_version : ByteArray := prog_7_method_28_code
def yX5_version : MethodName := ⟨RX5, "version", "(II)I"⟩
abbrev cX5_value : ByteArray := prog_7_method_29_code
def yX5_value : MethodName := ⟨RX5, "value", "(I)I"⟩
abbrev cX5_isPlace : ByteArray := prog_7_method_30_code
def yX5_isPlace : MethodName := ⟨RX5, "isPlace", "(II)Z"⟩
abbrev cX5_at : ByteArray := prog_7_method_31_code
def yX5_at : MethodName := ⟨RX5, "at", "(II)I"⟩
abbrev cX5_steps : ByteArray := prog_7_method_32_code
def yX5_steps : MethodName := ⟨RX5, "steps", "(II)I"⟩
abbrev cX5_hasChild : ByteArray := prog_7_method_33_code
def yX5_hasChild : MethodName := ⟨RX5, "hasChild", "(I)Z"⟩
abbrev cX5_counted : ByteArray := prog_7_method_34_code
def yX5_counted : MethodName := ⟨RX5, "counted", "(I)I"⟩
abbrev cX5_count : ByteArray := prog_7_method_35_code
def yX5_count : MethodName := ⟨RX5, "count", "(I)I"⟩
abbrev cX5_setting : ByteArray := prog_7_method_36_code
def yX5_setting : MethodName := ⟨RX5, "setting", "(I)I"⟩
abbrev cX5_common : ByteArray := prog_7_method_37_code
def yX5_common : MethodName := ⟨RX5, "common", "(II)I"⟩
abbrev cX5_areSame : ByteArray := prog_7_method_38_code
def yX5_areSame : MethodName := ⟨RX5, "areSame", "(II)Z"⟩
abbrev cX5_same : ByteArray := prog_7_method_39_code
def yX5_same : MethodName := ⟨RX5, "same", "(II)Z"⟩
abbrev cX5_firstLike : ByteArray := prog_7_method_40_code
def yX5_firstLike : MethodName := ⟨RX5, "firstLike", "(I)I"⟩
abbrev cX5_worst : ByteArray := prog_7_method_41_code
def yX5_worst : MethodName := ⟨RX5, "worst", "(I)I"⟩
abbrev cX5_mean : ByteArray := prog_7_method_42_code
def yX5_mean : MethodName := ⟨RX5, "mean", "(I)D"⟩
abbrev cX5_append : ByteArray := prog_7_method_43_code
def yX5_append : MethodName := ⟨RX5, "append", "(I)I"⟩
abbrev cX5_clearText : ByteArray := prog_7_method_44_code
def yX5_clearText : MethodName := ⟨RX5, "clearText", "()I"⟩
abbrev cX5_byteAt : ByteArray := prog_7_method_45_code
def yX5_byteAt : MethodName := ⟨RX5, "byteAt", "(I)I"⟩
abbrev cX5_readsValue : ByteArray := prog_7_method_46_code
def yX5_readsValue : MethodName := ⟨RX5, "readsValue", "()Z"⟩
abbrev cX5_faultOf : ByteArray := prog_7_method_47_code
def yX5_faultOf : MethodName := ⟨RX5, "faultOf", "()I"⟩
abbrev cX5_doesAll : ByteArray := prog_7_method_48_code
def yX5_doesAll : MethodName := ⟨RX5, "doesAll", "(I)I"⟩
abbrev cX5_run : ByteArray := prog_7_method_49_code
def yX5_run : MethodName := ⟨RX5, "run", "(I)I"⟩
abbrev cX5_wouldBe : ByteArray := prog_7_method_50_code
def yX5_wouldBe : MethodName := ⟨RX5, "wouldBe", "(IIZ)I"⟩
abbrev cX5_stalls : ByteArray := prog_7_method_51_code
def yX5_stalls : MethodName := ⟨RX5, "stalls", "(II)I"⟩
abbrev cX5_worstWith : ByteArray := prog_7_method_52_code
def yX5_worstWith : MethodName := ⟨RX5, "worstWith", "(II)I"⟩
abbrev cX5_leastRate : ByteArray := prog_7_method_53_code
def yX5_leastRate : MethodName := ⟨RX5, "leastRate", "(I)I"⟩
abbrev cX5_undo : ByteArray := prog_7_method_54_code
def yX5_undo : MethodName := ⟨RX5, "undo", "()I"⟩
abbrev cX5_digest : ByteArray := prog_7_method_55_code
def yX5_digest : MethodName := ⟨RX5, "digest", "()J"⟩
def RJx145de : String := "java/io/Serializable"
def TJx145de : u_T := fun k => match k with
  | _ => ("", "", "", false)
def tyJx145de : Nat → FieldType := fun k => match k with
  | _ => .int
abbrev wsJx145de0 : List Cond := u_ws RJx145de TJx145de 0
theorem nmJx145de : ∀ a, a < 0 → ∀ b, b < 0 → a ≠ b → (TJx145de a).2.1 ≠ (TJx145de b).2.1 := by decide +kernel
theorem tyJx145de_ok : ∀ k, k < 0 → parseFieldDescriptor (TJx145de k).2.2.1 = some (tyJx145de k) := by decide +kernel
def RJ9 : String := "java/lang/Math"
def TJ9 : u_T := fun k => match k with
  | _ => ("", "", "", false)
def tyJ9 : Nat → FieldType := fun k => match k with
  | _ => .int
abbrev wsJ90 : List Cond := u_ws RJ9 TJ9 0
theorem nmJ9 : ∀ a, a < 0 → ∀ b, b < 0 → a ≠ b → (TJ9 a).2.1 ≠ (TJ9 b).2.1 := by decide +kernel
theorem tyJ9_ok : ∀ k, k < 0 → parseFieldDescriptor (TJ9 k).2.2.1 = some (tyJ9 k) := by decide +kernel
abbrev cJ9_max_7cf53 : ByteArray := prog_13_method_65_code
def yJ9_max_7cf53 : MethodName := ⟨RJ9, "max", "(II)I"⟩
abbrev cJ9_min_7cf53 : ByteArray := prog_13_method_69_code
def yJ9_min_7cf53 : MethodName := ⟨RJ9, "min", "(II)I"⟩
def RJ0 : String := "java/lang/String"
def TJ0 : u_T := fun k => match k with
  | _ => ("", "", "", false)
def tyJ0 : Nat → FieldType := fun k => match k with
  | _ => .int
abbrev wsJ00 : List Cond := u_ws RJ0 TJ0 0
theorem nmJ0 : ∀ a, a < 0 → ∀ b, b < 0 → a ≠ b → (TJ0 a).2.1 ≠ (TJ0 b).2.1 := by decide +kernel
theorem tyJ0_ok : ∀ k, k < 0 → parseFieldDescriptor (TJ0 k).2.2.1 = some (tyJ0 k) := by decide +kernel
def RJ10 : String := "java/lang/System"
def TJ10 : u_T := fun k => match k with
  | _ => ("", "", "", false)
def tyJ10 : Nat → FieldType := fun k => match k with
  | _ => .int
abbrev wsJ100 : List Cond := u_ws RJ10 TJ10 0
theorem nmJ10 : ∀ a, a < 0 → ∀ b, b < 0 → a ≠ b → (TJ10 a).2.1 ≠ (TJ10 b).2.1 := by decide +kernel
theorem tyJ10_ok : ∀ k, k < 0 → parseFieldDescriptor (TJ10 k).2.2.1 = some (tyJ10 k) := by decide +kernel
def RL : String := "EndVersionsLaw"
abbrev cL_set : ByteArray := method_3_code
def yL_set : MethodName := ⟨RL, "set", "(LEndVersions;II[J)I"⟩
abbrev cL_push : ByteArray := method_4_code
def yL_push : MethodName := ⟨RL, "push", "(LEndVersions;IIZ[J)I"⟩
abbrev cL_pop : ByteArray := method_5_code
def yL_pop : MethodName := ⟨RL, "pop", "(LEndVersions;IZ[J)I"⟩
abbrev cL_drop : ByteArray := method_6_code
def yL_drop : MethodName := ⟨RL, "drop", "(LEndVersions;[J)I"⟩
abbrev cL_version : ByteArray := method_7_code
def yL_version : MethodName := ⟨RL, "version", "(LEndVersions;II[J)I"⟩
abbrev cL_value : ByteArray := method_8_code
def yL_value : MethodName := ⟨RL, "value", "(LEndVersions;I[J)I"⟩
abbrev cL_at : ByteArray := method_9_code
def yL_at : MethodName := ⟨RL, "at", "(LEndVersions;II[J)I"⟩
abbrev cL_steps : ByteArray := method_10_code
def yL_steps : MethodName := ⟨RL, "steps", "(LEndVersions;II[J)I"⟩
abbrev cL_count : ByteArray := method_11_code
def yL_count : MethodName := ⟨RL, "count", "(LEndVersions;I[J)I"⟩
abbrev cL_setting : ByteArray := method_12_code
def yL_setting : MethodName := ⟨RL, "setting", "(LEndVersions;I[J)I"⟩
abbrev cL_common : ByteArray := method_13_code
def yL_common : MethodName := ⟨RL, "common", "(LEndVersions;II[J)I"⟩
abbrev cL_same : ByteArray := method_14_code
def yL_same : MethodName := ⟨RL, "same", "(LEndVersions;II[J)I"⟩
abbrev cL_firstLike : ByteArray := method_15_code
def yL_firstLike : MethodName := ⟨RL, "firstLike", "(LEndVersions;I[J)I"⟩
abbrev cL_worst : ByteArray := method_16_code
def yL_worst : MethodName := ⟨RL, "worst", "(LEndVersions;I[J)I"⟩
abbrev cL_mean : ByteArray := method_17_code
def yL_mean : MethodName := ⟨RL, "mean", "(LEndVersions;I[D)I"⟩
abbrev cL_append : ByteArray := method_18_code
def yL_append : MethodName := ⟨RL, "append", "(LEndVersions;I[J)I"⟩
abbrev cL_run : ByteArray := method_19_code
def yL_run : MethodName := ⟨RL, "run", "(LEndVersions;I[J)I"⟩
abbrev cL_stalls : ByteArray := method_20_code
def yL_stalls : MethodName := ⟨RL, "stalls", "(LEndVersions;II[J)I"⟩
abbrev cL_worstWith : ByteArray := method_21_code
def yL_worstWith : MethodName := ⟨RL, "worstWith", "(LEndVersions;II[J)I"⟩
abbrev cL_leastRate : ByteArray := method_22_code
def yL_leastRate : MethodName := ⟨RL, "leastRate", "(LEndVersions;I[J)I"⟩
abbrev cL_undo : ByteArray := method_23_code
def yL_undo : MethodName := ⟨RL, "undo", "(LEndVersions;[J)I"⟩
abbrev cL_law : ByteArray := code
def yL_law : MethodName := ⟨RL, "law", "([I)Z"⟩
def wsX0_init : List Cond := .code yX0_init cX0_init 1 none :: ([.methodLink RX0 3 objectInit, .instanceMethod objectInit, .code objectInit ⟨#[0xb1]⟩ 1 none, .fieldLink RX0 9 "EndVersions$Script" "length" "I", .fieldLink RX0 15 "EndVersions$Script" "acts" "I", .arrayClass .int, .fieldLink RX0 18 "EndVersions$Script" "bytes" "[I", .fieldLink RX0 22 "EndVersions$Script" "kinds" "[I", .fieldLink RX0 25 "EndVersions$Script" "values" "[I", .fieldLink RX0 28 "EndVersions$Script" "kind" "I", .fieldLink RX0 31 "EndVersions$Script" "negative" "Z", .fieldLink RX0 35 "EndVersions$Script" "number" "I"] ++ wsX00)
def wsX4_fill : List Cond := .code yX4_fill cX4_fill 3 none :: ([])
def wsX0_extend : List Cond := .code yX0_extend cX0_extend 2 none :: ([.fieldLink RX0 18 "EndVersions$Script" "bytes" "[I", .fieldLink RX0 9 "EndVersions$Script" "length" "I", .static yX4_fill, .initialized RX4, .code yX4_fill cX4_fill 3 none] ++ wsX00)
def wsX4_cell : List Cond := .code yX4_cell cX4_cell 2 (some .int) :: ([])
def wsX0_actAt : List Cond := .code yX0_actAt cX0_actAt 2 (some .int) :: ([.fieldLink RX0 22 "EndVersions$Script" "kinds" "[I", .static yX4_cell, .initialized RX4, .code yX4_cell cX4_cell 2 (some .int)] ++ wsX00)
def wsX0_valueAt : List Cond := .code yX0_valueAt cX0_valueAt 2 (some .int) :: ([.fieldLink RX0 25 "EndVersions$Script" "values" "[I", .static yX4_cell, .initialized RX4, .code yX4_cell cX4_cell 2 (some .int)] ++ wsX00)
def wsX0_begin : List Cond := .code yX0_begin cX0_begin 2 (some .int) :: ([.fieldLink RX0 31 "EndVersions$Script" "negative" "Z", .fieldLink RX0 35 "EndVersions$Script" "number" "I", .fieldLink RX0 28 "EndVersions$Script" "kind" "I"] ++ wsX00)
def wsX0_end : List Cond := .code yX0_end cX0_end 1 none :: ([.fieldLink RX0 22 "EndVersions$Script" "kinds" "[I", .fieldLink RX0 15 "EndVersions$Script" "acts" "I", .fieldLink RX0 28 "EndVersions$Script" "kind" "I", .fieldLink RX0 25 "EndVersions$Script" "values" "[I", .fieldLink RX0 31 "EndVersions$Script" "negative" "Z", .fieldLink RX0 35 "EndVersions$Script" "number" "I", .static yX4_fill, .initialized RX4, .code yX4_fill cX4_fill 3 none] ++ wsX00)
def wsX0_next : List Cond := .code yX0_next cX0_next 3 (some .int) :: ([.fieldLink RX0 31 "EndVersions$Script" "negative" "Z", .fieldLink RX0 35 "EndVersions$Script" "number" "I", .methodLink RX0 50 yX0_begin, .instanceMethod yX0_begin, .selects RX0 yX0_begin yX0_begin, .initialized RX0, .code yX0_begin cX0_begin 2 (some .int), .fieldLink RX0 28 "EndVersions$Script" "kind" "I", .methodLink RX0 54 yX0_end, .instanceMethod yX0_end, .selects RX0 yX0_end yX0_end, .code yX0_end cX0_end 1 none, .fieldLink RX0 22 "EndVersions$Script" "kinds" "[I", .fieldLink RX0 15 "EndVersions$Script" "acts" "I", .fieldLink RX0 25 "EndVersions$Script" "values" "[I", .static yX4_fill, .initialized RX4, .code yX4_fill cX4_fill 3 none] ++ wsX00)
def wsX0_read_r1 : List Cond := [Cond.fieldLink RX0 15 "EndVersions$Script" "acts" "I", Cond.fieldLink RX0 9 "EndVersions$Script" "length" "I", Cond.fieldLink RX0 18 "EndVersions$Script" "bytes" "[I", Cond.static yX4_cell, Cond.initialized RX4, Cond.code yX4_cell cX4_cell 2 (some .int), Cond.methodLink RX0 46 yX0_next, Cond.instanceMethod yX0_next, Cond.selects RX0 yX0_next yX0_next, Cond.initialized RX0, Cond.code yX0_next cX0_next 3 (some .int), Cond.fieldLink RX0 31 "EndVersions$Script" "negative" "Z", Cond.fieldLink RX0 35 "EndVersions$Script" "number" "I", Cond.methodLink RX0 50 yX0_begin, Cond.instanceMethod yX0_begin, Cond.selects RX0 yX0_begin yX0_begin, Cond.code yX0_begin cX0_begin 2 (some .int), Cond.fieldLink RX0 28 "EndVersions$Script" "kind" "I", Cond.methodLink RX0 54 yX0_end, Cond.instanceMethod yX0_end, Cond.selects RX0 yX0_end yX0_end, Cond.code yX0_end cX0_end 1 none, Cond.fieldLink RX0 22 "EndVersions$Script" "kinds" "[I", Cond.fieldLink RX0 25 "EndVersions$Script" "values" "[I"]
def wsX0_read_r2 : List Cond := [Cond.static yX4_fill, Cond.code yX4_fill cX4_fill 3 none]
def wsX0_read : List Cond := .code yX0_read cX0_read 3 (some .int) :: ((wsX0_read_r1 ++ wsX0_read_r2) ++ wsX00)
def wsX1_init : List Cond := .code yX1_init cX1_init 1 none :: ([.methodLink RX1 3 objectInit, .instanceMethod objectInit, .code objectInit ⟨#[0xb1]⟩ 1 none, .fieldLink RX1 9 "EndVersions$State" "held" "I", .fieldLink RX1 15 "EndVersions$State" "rate" "I", .fieldLink RX1 18 "EndVersions$State" "ratio" "I", .classLink RX1 21 RX3, .fieldLink RX1 23 "EndVersions$State" "versions" "[LEndVersions$Version;", .arrayClass .int, .fieldLink RX1 27 "EndVersions$State" "childMarks" "[I"] ++ wsX10)
def wsX3_init : List Cond := .code yX3_init cX3_init 1 none :: ([.methodLink RX3 3 objectInit, .instanceMethod objectInit, .code objectInit ⟨#[0xb1]⟩ 1 none, .fieldLink RX3 9 "EndVersions$Version" "parent" "I", .fieldLink RX3 15 "EndVersions$Version" "kind" "I", .fieldLink RX3 18 "EndVersions$Version" "moved" "I", .fieldLink RX3 21 "EndVersions$Version" "depth" "I", .fieldLink RX3 24 "EndVersions$Version" "front" "I", .fieldLink RX3 27 "EndVersions$Version" "back" "I", .fieldLink RX3 30 "EndVersions$Version" "debt" "I", .fieldLink RX3 33 "EndVersions$Version" "goal" "I", .fieldLink RX3 36 "EndVersions$Version" "cost" "I", .fieldLink RX3 39 "EndVersions$Version" "extra" "I", .arrayClass .int, .fieldLink RX3 42 "EndVersions$Version" "row" "[I"] ++ wsX30)
def wsX1_slot : List Cond := .code yX1_slot cX1_slot 3 (some (.object "EndVersions$Version")) :: ([.fieldLink RX1 23 "EndVersions$State" "versions" "[LEndVersions$Version;", .classLink RX1 21 RX3, .instantiable RX3 11, .initialized RX3, .methodLink RX1 47 yX3_init, .instanceMethod yX3_init, .code yX3_init cX3_init 1 none, .methodLink RX3 3 objectInit, .instanceMethod objectInit, .code objectInit ⟨#[0xb1]⟩ 1 none, .fieldLink RX3 9 "EndVersions$Version" "parent" "I", .fieldLink RX3 15 "EndVersions$Version" "kind" "I", .fieldLink RX3 18 "EndVersions$Version" "moved" "I", .fieldLink RX3 21 "EndVersions$Version" "depth" "I", .fieldLink RX3 24 "EndVersions$Version" "front" "I", .fieldLink RX3 27 "EndVersions$Version" "back" "I", .fieldLink RX3 30 "EndVersions$Version" "debt" "I", .fieldLink RX3 33 "EndVersions$Version" "goal" "I", .fieldLink RX3 36 "EndVersions$Version" "cost" "I", .fieldLink RX3 39 "EndVersions$Version" "extra" "I", .arrayClass .int, .fieldLink RX3 42 "EndVersions$Version" "row" "[I"] ++ wsX10 ++ wsX30)
def wsX3_size : List Cond := .code yX3_size cX3_size 1 (some .int) :: ([.fieldLink RX3 24 "EndVersions$Version" "front" "I", .fieldLink RX3 27 "EndVersions$Version" "back" "I"] ++ wsX30)
def wsX3_copyFrom : List Cond := .code yX3_copyFrom cX3_copyFrom 3 none :: ([.fieldLink RX3 9 "EndVersions$Version" "parent" "I", .fieldLink RX3 15 "EndVersions$Version" "kind" "I", .fieldLink RX3 18 "EndVersions$Version" "moved" "I", .fieldLink RX3 21 "EndVersions$Version" "depth" "I", .fieldLink RX3 24 "EndVersions$Version" "front" "I", .fieldLink RX3 27 "EndVersions$Version" "back" "I", .fieldLink RX3 30 "EndVersions$Version" "debt" "I", .fieldLink RX3 33 "EndVersions$Version" "goal" "I", .fieldLink RX3 36 "EndVersions$Version" "cost" "I", .fieldLink RX3 39 "EndVersions$Version" "extra" "I", .fieldLink RX3 42 "EndVersions$Version" "row" "[I", .methodLink RX3 50 arraycopyName, .native arraycopyName, .static arraycopyName, .initialized "java/lang/System", .methodLink RX3 46 yX3_size, .instanceMethod yX3_size, .selects RX3 yX3_size yX3_size, .initialized RX3, .code yX3_size cX3_size 1 (some .int)] ++ wsX30)
def wsX1_copyFrom_r1 : List Cond := [Cond.fieldLink RX1 9 "EndVersions$State" "held" "I", Cond.fieldLink RX1 15 "EndVersions$State" "rate" "I", Cond.fieldLink RX1 18 "EndVersions$State" "ratio" "I", Cond.methodLink RX1 31 yX1_slot, Cond.instanceMethod yX1_slot, Cond.selects RX1 yX1_slot yX1_slot, Cond.initialized RX1, Cond.code yX1_slot cX1_slot 3 (some (.object "EndVersions$Version")), Cond.fieldLink RX1 23 "EndVersions$State" "versions" "[LEndVersions$Version;", Cond.classLink RX1 21 RX3, Cond.instantiable RX3 11, Cond.initialized RX3, Cond.methodLink RX1 47 yX3_init, Cond.instanceMethod yX3_init, Cond.code yX3_init cX3_init 1 none, Cond.methodLink RX3 3 objectInit, Cond.instanceMethod objectInit, Cond.code objectInit ⟨#[0xb1]⟩ 1 none, Cond.fieldLink RX3 9 "EndVersions$Version" "parent" "I", Cond.fieldLink RX3 15 "EndVersions$Version" "kind" "I", Cond.fieldLink RX3 18 "EndVersions$Version" "moved" "I", Cond.fieldLink RX3 21 "EndVersions$Version" "depth" "I", Cond.fieldLink RX3 24 "EndVersions$Version" "front" "I", Cond.fieldLink RX3 27 "EndVersions$Version" "back" "I"]
def wsX1_copyFrom_r2 : List Cond := [Cond.fieldLink RX3 30 "EndVersions$Version" "debt" "I", Cond.fieldLink RX3 33 "EndVersions$Version" "goal" "I", Cond.fieldLink RX3 36 "EndVersions$Version" "cost" "I", Cond.fieldLink RX3 39 "EndVersions$Version" "extra" "I", Cond.arrayClass .int, Cond.fieldLink RX3 42 "EndVersions$Version" "row" "[I", Cond.methodLink RX1 35 yX3_copyFrom, Cond.instanceMethod yX3_copyFrom, Cond.selects RX3 yX3_copyFrom yX3_copyFrom, Cond.code yX3_copyFrom cX3_copyFrom 3 none, Cond.methodLink RX3 50 arraycopyName, Cond.native arraycopyName, Cond.static arraycopyName, Cond.initialized "java/lang/System", Cond.methodLink RX3 46 yX3_size, Cond.instanceMethod yX3_size, Cond.selects RX3 yX3_size yX3_size, Cond.code yX3_size cX3_size 1 (some .int)]
def wsX1_copyFrom : List Cond := .code yX1_copyFrom cX1_copyFrom 3 none :: ((wsX1_copyFrom_r1 ++ wsX1_copyFrom_r2) ++ wsX10 ++ wsX30)
def wsX1_has : List Cond := .code yX1_has cX1_has 2 (some .boolean) :: ([.fieldLink RX1 9 "EndVersions$State" "held" "I"] ++ wsX10)
def wsX1_hasPlace_r1 : List Cond := [Cond.methodLink RX1 39 yX1_has, Cond.instanceMethod yX1_has, Cond.selects RX1 yX1_has yX1_has, Cond.initialized RX1, Cond.code yX1_has cX1_has 2 (some .boolean), Cond.fieldLink RX1 9 "EndVersions$State" "held" "I", Cond.methodLink RX1 31 yX1_slot, Cond.instanceMethod yX1_slot, Cond.selects RX1 yX1_slot yX1_slot, Cond.code yX1_slot cX1_slot 3 (some (.object "EndVersions$Version")), Cond.fieldLink RX1 23 "EndVersions$State" "versions" "[LEndVersions$Version;", Cond.classLink RX1 21 RX3, Cond.instantiable RX3 11, Cond.initialized RX3, Cond.methodLink RX1 47 yX3_init, Cond.instanceMethod yX3_init, Cond.code yX3_init cX3_init 1 none, Cond.methodLink RX3 3 objectInit, Cond.instanceMethod objectInit, Cond.code objectInit ⟨#[0xb1]⟩ 1 none, Cond.fieldLink RX3 9 "EndVersions$Version" "parent" "I", Cond.fieldLink RX3 15 "EndVersions$Version" "kind" "I", Cond.fieldLink RX3 18 "EndVersions$Version" "moved" "I", Cond.fieldLink RX3 21 "EndVersions$Version" "depth" "I"]
def wsX1_hasPlace_r2 : List Cond := [Cond.fieldLink RX3 24 "EndVersions$Version" "front" "I", Cond.fieldLink RX3 27 "EndVersions$Version" "back" "I", Cond.fieldLink RX3 30 "EndVersions$Version" "debt" "I", Cond.fieldLink RX3 33 "EndVersions$Version" "goal" "I", Cond.fieldLink RX3 36 "EndVersions$Version" "cost" "I", Cond.fieldLink RX3 39 "EndVersions$Version" "extra" "I", Cond.arrayClass .int, Cond.fieldLink RX3 42 "EndVersions$Version" "row" "[I", Cond.methodLink RX1 43 yX3_size, Cond.instanceMethod yX3_size, Cond.selects RX3 yX3_size yX3_size, Cond.code yX3_size cX3_size 1 (some .int)]
def wsX1_hasPlace : List Cond := .code yX1_hasPlace cX1_hasPlace 3 (some .boolean) :: ((wsX1_hasPlace_r1 ++ wsX1_hasPlace_r2) ++ wsX10 ++ wsX30)
def wsX1_settingOf : List Cond := .code yX1_settingOf cX1_settingOf 2 (some .int) :: ([.fieldLink RX1 15 "EndVersions$State" "rate" "I", .fieldLink RX1 18 "EndVersions$State" "ratio" "I"] ++ wsX10)
def wsX1_changeSetting : List Cond := .code yX1_changeSetting cX1_changeSetting 3 none :: ([.fieldLink RX1 15 "EndVersions$State" "rate" "I", .fieldLink RX1 18 "EndVersions$State" "ratio" "I"] ++ wsX10)
def wsX1_left : List Cond := .code yX1_left cX1_left 1 (some .int) :: ([.fieldLink RX1 9 "EndVersions$State" "held" "I"] ++ wsX10)
def wsX4_isPush : List Cond := .code yX4_isPush cX4_isPush 1 (some .boolean) :: ([])
def wsX3_permits : List Cond := .code yX3_permits cX3_permits 2 (some .boolean) :: ([.static yX4_isPush, .initialized RX4, .code yX4_isPush cX4_isPush 1 (some .boolean), .methodLink RX3 46 yX3_size, .instanceMethod yX3_size, .selects RX3 yX3_size yX3_size, .initialized RX3, .code yX3_size cX3_size 1 (some .int), .fieldLink RX3 24 "EndVersions$Version" "front" "I", .fieldLink RX3 27 "EndVersions$Version" "back" "I"] ++ wsX30)
def wsX1_allows_r1 : List Cond := [Cond.methodLink RX1 48 yX1_left, Cond.instanceMethod yX1_left, Cond.selects RX1 yX1_left yX1_left, Cond.initialized RX1, Cond.code yX1_left cX1_left 1 (some .int), Cond.fieldLink RX1 9 "EndVersions$State" "held" "I", Cond.methodLink RX1 31 yX1_slot, Cond.instanceMethod yX1_slot, Cond.selects RX1 yX1_slot yX1_slot, Cond.code yX1_slot cX1_slot 3 (some (.object "EndVersions$Version")), Cond.fieldLink RX1 23 "EndVersions$State" "versions" "[LEndVersions$Version;", Cond.classLink RX1 21 RX3, Cond.instantiable RX3 11, Cond.initialized RX3, Cond.methodLink RX1 47 yX3_init, Cond.instanceMethod yX3_init, Cond.code yX3_init cX3_init 1 none, Cond.methodLink RX3 3 objectInit, Cond.instanceMethod objectInit, Cond.code objectInit ⟨#[0xb1]⟩ 1 none, Cond.fieldLink RX3 9 "EndVersions$Version" "parent" "I", Cond.fieldLink RX3 15 "EndVersions$Version" "kind" "I", Cond.fieldLink RX3 18 "EndVersions$Version" "moved" "I", Cond.fieldLink RX3 21 "EndVersions$Version" "depth" "I"]
def wsX1_allows_r2 : List Cond := [Cond.fieldLink RX3 24 "EndVersions$Version" "front" "I", Cond.fieldLink RX3 27 "EndVersions$Version" "back" "I", Cond.fieldLink RX3 30 "EndVersions$Version" "debt" "I", Cond.fieldLink RX3 33 "EndVersions$Version" "goal" "I", Cond.fieldLink RX3 36 "EndVersions$Version" "cost" "I", Cond.fieldLink RX3 39 "EndVersions$Version" "extra" "I", Cond.arrayClass .int, Cond.fieldLink RX3 42 "EndVersions$Version" "row" "[I", Cond.methodLink RX1 51 yX3_permits, Cond.instanceMethod yX3_permits, Cond.selects RX3 yX3_permits yX3_permits, Cond.code yX3_permits cX3_permits 2 (some .boolean), Cond.static yX4_isPush, Cond.initialized RX4, Cond.code yX4_isPush cX4_isPush 1 (some .boolean), Cond.methodLink RX3 46 yX3_size, Cond.instanceMethod yX3_size, Cond.selects RX3 yX3_size yX3_size, Cond.code yX3_size cX3_size 1 (some .int)]
def wsX1_allows : List Cond := .code yX1_allows cX1_allows 3 (some .boolean) :: ((wsX1_allows_r1 ++ wsX1_allows_r2) ++ wsX10 ++ wsX30)
def wsX4_isAtFront : List Cond := .code yX4_isAtFront cX4_isAtFront 1 (some .boolean) :: ([])
def wsX3_look : List Cond := .code yX3_look cX3_look 2 (some .int) :: ([.fieldLink RX3 42 "EndVersions$Version" "row" "[I", .static yX4_cell, .initialized RX4, .code yX4_cell cX4_cell 2 (some .int)] ++ wsX30)
def wsX3_isRebuilding : List Cond := .code yX3_isRebuilding cX3_isRebuilding 1 (some .boolean) :: ([.fieldLink RX3 30 "EndVersions$Version" "debt" "I"] ++ wsX30)
def wsX3_moveGoal : List Cond := .code yX3_moveGoal cX3_moveGoal 2 none :: ([.fieldLink RX3 33 "EndVersions$Version" "goal" "I", .methodLink RX3 103 Lib.Math.max.name, .static Lib.Math.max.name, .initialized "java/lang/Math", .code Lib.Math.max.name Lib.Math.max.code 2 (some .int), .methodLink RX3 109 Lib.Math.min.name, .static Lib.Math.min.name, .code Lib.Math.min.name Lib.Math.min.code 2 (some .int), .methodLink RX3 89 yX3_isRebuilding, .instanceMethod yX3_isRebuilding, .selects RX3 yX3_isRebuilding yX3_isRebuilding, .initialized RX3, .code yX3_isRebuilding cX3_isRebuilding 1 (some .boolean), .fieldLink RX3 30 "EndVersions$Version" "debt" "I", .methodLink RX3 46 yX3_size, .instanceMethod yX3_size, .selects RX3 yX3_size yX3_size, .code yX3_size cX3_size 1 (some .int), .fieldLink RX3 24 "EndVersions$Version" "front" "I", .fieldLink RX3 27 "EndVersions$Version" "back" "I"] ++ wsX30)
def wsX3_put_r1 : List Cond := [Cond.fieldLink RX3 18 "EndVersions$Version" "moved" "I", Cond.fieldLink RX3 42 "EndVersions$Version" "row" "[I", Cond.fieldLink RX3 24 "EndVersions$Version" "front" "I", Cond.fieldLink RX3 27 "EndVersions$Version" "back" "I", Cond.methodLink RX3 46 yX3_size, Cond.instanceMethod yX3_size, Cond.selects RX3 yX3_size yX3_size, Cond.initialized RX3, Cond.code yX3_size cX3_size 1 (some .int), Cond.methodLink RX3 60 yX3_look, Cond.instanceMethod yX3_look, Cond.selects RX3 yX3_look yX3_look, Cond.code yX3_look cX3_look 2 (some .int), Cond.static yX4_cell, Cond.initialized RX4, Cond.code yX4_cell cX4_cell 2 (some .int), Cond.static yX4_fill, Cond.code yX4_fill cX4_fill 3 none, Cond.methodLink RX3 100 yX3_moveGoal, Cond.instanceMethod yX3_moveGoal, Cond.selects RX3 yX3_moveGoal yX3_moveGoal, Cond.code yX3_moveGoal cX3_moveGoal 2 none, Cond.fieldLink RX3 33 "EndVersions$Version" "goal" "I", Cond.methodLink RX3 103 Lib.Math.max.name]
def wsX3_put_r2 : List Cond := [Cond.static Lib.Math.max.name, Cond.initialized "java/lang/Math", Cond.code Lib.Math.max.name Lib.Math.max.code 2 (some .int), Cond.methodLink RX3 109 Lib.Math.min.name, Cond.static Lib.Math.min.name, Cond.code Lib.Math.min.name Lib.Math.min.code 2 (some .int), Cond.methodLink RX3 89 yX3_isRebuilding, Cond.instanceMethod yX3_isRebuilding, Cond.selects RX3 yX3_isRebuilding yX3_isRebuilding, Cond.code yX3_isRebuilding cX3_isRebuilding 1 (some .boolean), Cond.fieldLink RX3 30 "EndVersions$Version" "debt" "I"]
def wsX3_put : List Cond := .code yX3_put cX3_put 5 none :: ((wsX3_put_r1 ++ wsX3_put_r2) ++ wsX30)
def wsX3_endRebuild : List Cond := .code yX3_endRebuild cX3_endRebuild 2 none :: ([.fieldLink RX3 33 "EndVersions$Version" "goal" "I", .fieldLink RX3 24 "EndVersions$Version" "front" "I", .fieldLink RX3 27 "EndVersions$Version" "back" "I", .fieldLink RX3 30 "EndVersions$Version" "debt" "I", .methodLink RX3 46 yX3_size, .instanceMethod yX3_size, .selects RX3 yX3_size yX3_size, .initialized RX3, .code yX3_size cX3_size 1 (some .int)] ++ wsX30)
def wsX3_fetchFromOtherPart : List Cond := .code yX3_fetchFromOtherPart cX3_fetchFromOtherPart 2 none :: ([.fieldLink RX3 24 "EndVersions$Version" "front" "I", .fieldLink RX3 27 "EndVersions$Version" "back" "I", .fieldLink RX3 39 "EndVersions$Version" "extra" "I", .fieldLink RX3 30 "EndVersions$Version" "debt" "I", .fieldLink RX3 36 "EndVersions$Version" "cost" "I", .methodLink RX3 89 yX3_isRebuilding, .instanceMethod yX3_isRebuilding, .selects RX3 yX3_isRebuilding yX3_isRebuilding, .initialized RX3, .code yX3_isRebuilding cX3_isRebuilding 1 (some .boolean), .methodLink RX3 93 yX3_endRebuild, .instanceMethod yX3_endRebuild, .selects RX3 yX3_endRebuild yX3_endRebuild, .code yX3_endRebuild cX3_endRebuild 2 none, .fieldLink RX3 33 "EndVersions$Version" "goal" "I", .methodLink RX3 46 yX3_size, .instanceMethod yX3_size, .selects RX3 yX3_size yX3_size, .code yX3_size cX3_size 1 (some .int)] ++ wsX30)
def wsX3_take_r1 : List Cond := [Cond.fieldLink RX3 18 "EndVersions$Version" "moved" "I", Cond.fieldLink RX3 42 "EndVersions$Version" "row" "[I", Cond.fieldLink RX3 24 "EndVersions$Version" "front" "I", Cond.fieldLink RX3 27 "EndVersions$Version" "back" "I", Cond.methodLink RX3 46 yX3_size, Cond.instanceMethod yX3_size, Cond.selects RX3 yX3_size yX3_size, Cond.initialized RX3, Cond.code yX3_size cX3_size 1 (some .int), Cond.methodLink RX3 60 yX3_look, Cond.instanceMethod yX3_look, Cond.selects RX3 yX3_look yX3_look, Cond.code yX3_look cX3_look 2 (some .int), Cond.static yX4_cell, Cond.initialized RX4, Cond.code yX4_cell cX4_cell 2 (some .int), Cond.static yX4_fill, Cond.code yX4_fill cX4_fill 3 none, Cond.methodLink RX3 100 yX3_moveGoal, Cond.instanceMethod yX3_moveGoal, Cond.selects RX3 yX3_moveGoal yX3_moveGoal, Cond.code yX3_moveGoal cX3_moveGoal 2 none, Cond.fieldLink RX3 33 "EndVersions$Version" "goal" "I", Cond.methodLink RX3 103 Lib.Math.max.name]
def wsX3_take_r2 : List Cond := [Cond.static Lib.Math.max.name, Cond.initialized "java/lang/Math", Cond.code Lib.Math.max.name Lib.Math.max.code 2 (some .int), Cond.methodLink RX3 109 Lib.Math.min.name, Cond.static Lib.Math.min.name, Cond.code Lib.Math.min.name Lib.Math.min.code 2 (some .int), Cond.methodLink RX3 89 yX3_isRebuilding, Cond.instanceMethod yX3_isRebuilding, Cond.selects RX3 yX3_isRebuilding yX3_isRebuilding, Cond.code yX3_isRebuilding cX3_isRebuilding 1 (some .boolean), Cond.fieldLink RX3 30 "EndVersions$Version" "debt" "I"]
def wsX3_take : List Cond := .code yX3_take cX3_take 4 none :: ((wsX3_take_r1 ++ wsX3_take_r2) ++ wsX30)
def wsX3_pay : List Cond := .code yX3_pay cX3_pay 3 none :: ([.fieldLink RX3 30 "EndVersions$Version" "debt" "I", .methodLink RX3 109 Lib.Math.min.name, .static Lib.Math.min.name, .initialized "java/lang/Math", .code Lib.Math.min.name Lib.Math.min.code 2 (some .int), .fieldLink RX3 36 "EndVersions$Version" "cost" "I", .methodLink RX3 89 yX3_isRebuilding, .instanceMethod yX3_isRebuilding, .selects RX3 yX3_isRebuilding yX3_isRebuilding, .initialized RX3, .code yX3_isRebuilding cX3_isRebuilding 1 (some .boolean), .methodLink RX3 93 yX3_endRebuild, .instanceMethod yX3_endRebuild, .selects RX3 yX3_endRebuild yX3_endRebuild, .code yX3_endRebuild cX3_endRebuild 2 none, .fieldLink RX3 33 "EndVersions$Version" "goal" "I", .fieldLink RX3 24 "EndVersions$Version" "front" "I", .fieldLink RX3 27 "EndVersions$Version" "back" "I", .methodLink RX3 46 yX3_size, .instanceMethod yX3_size, .selects RX3 yX3_size yX3_size, .code yX3_size cX3_size 1 (some .int)] ++ wsX30)
def wsX3_beginRebuild : List Cond := .code yX3_beginRebuild cX3_beginRebuild 2 none :: ([.fieldLink RX3 24 "EndVersions$Version" "front" "I", .fieldLink RX3 27 "EndVersions$Version" "back" "I", .methodLink RX3 103 Lib.Math.max.name, .static Lib.Math.max.name, .initialized "java/lang/Math", .code Lib.Math.max.name Lib.Math.max.code 2 (some .int), .methodLink RX3 109 Lib.Math.min.name, .static Lib.Math.min.name, .code Lib.Math.min.name Lib.Math.min.code 2 (some .int), .fieldLink RX3 30 "EndVersions$Version" "debt" "I", .fieldLink RX3 33 "EndVersions$Version" "goal" "I", .methodLink RX3 89 yX3_isRebuilding, .instanceMethod yX3_isRebuilding, .selects RX3 yX3_isRebuilding yX3_isRebuilding, .initialized RX3, .code yX3_isRebuilding cX3_isRebuilding 1 (some .boolean), .methodLink RX3 46 yX3_size, .instanceMethod yX3_size, .selects RX3 yX3_size yX3_size, .code yX3_size cX3_size 1 (some .int)] ++ wsX30)
def wsX3_perform_r1 : List Cond := [Cond.fieldLink RX3 15 "EndVersions$Version" "kind" "I", Cond.fieldLink RX3 21 "EndVersions$Version" "depth" "I", Cond.fieldLink RX3 36 "EndVersions$Version" "cost" "I", Cond.fieldLink RX3 39 "EndVersions$Version" "extra" "I", Cond.static yX4_isAtFront, Cond.initialized RX4, Cond.code yX4_isAtFront cX4_isAtFront 1 (some .boolean), Cond.static yX4_isPush, Cond.code yX4_isPush cX4_isPush 1 (some .boolean), Cond.methodLink RX3 71 yX3_put, Cond.instanceMethod yX3_put, Cond.selects RX3 yX3_put yX3_put, Cond.initialized RX3, Cond.code yX3_put cX3_put 5 none, Cond.fieldLink RX3 18 "EndVersions$Version" "moved" "I", Cond.fieldLink RX3 42 "EndVersions$Version" "row" "[I", Cond.fieldLink RX3 24 "EndVersions$Version" "front" "I", Cond.fieldLink RX3 27 "EndVersions$Version" "back" "I", Cond.methodLink RX3 46 yX3_size, Cond.instanceMethod yX3_size, Cond.selects RX3 yX3_size yX3_size, Cond.code yX3_size cX3_size 1 (some .int), Cond.methodLink RX3 60 yX3_look, Cond.instanceMethod yX3_look]
def wsX3_perform_r2 : List Cond := [Cond.selects RX3 yX3_look yX3_look, Cond.code yX3_look cX3_look 2 (some .int), Cond.static yX4_cell, Cond.code yX4_cell cX4_cell 2 (some .int), Cond.static yX4_fill, Cond.code yX4_fill cX4_fill 3 none, Cond.methodLink RX3 100 yX3_moveGoal, Cond.instanceMethod yX3_moveGoal, Cond.selects RX3 yX3_moveGoal yX3_moveGoal, Cond.code yX3_moveGoal cX3_moveGoal 2 none, Cond.fieldLink RX3 33 "EndVersions$Version" "goal" "I", Cond.methodLink RX3 103 Lib.Math.max.name, Cond.static Lib.Math.max.name, Cond.initialized "java/lang/Math", Cond.code Lib.Math.max.name Lib.Math.max.code 2 (some .int), Cond.methodLink RX3 109 Lib.Math.min.name, Cond.static Lib.Math.min.name, Cond.code Lib.Math.min.name Lib.Math.min.code 2 (some .int), Cond.methodLink RX3 89 yX3_isRebuilding, Cond.instanceMethod yX3_isRebuilding, Cond.selects RX3 yX3_isRebuilding yX3_isRebuilding, Cond.code yX3_isRebuilding cX3_isRebuilding 1 (some .boolean), Cond.fieldLink RX3 30 "EndVersions$Version" "debt" "I", Cond.methodLink RX3 75 yX3_fetchFromOtherPart]
def wsX3_perform_r3 : List Cond := [Cond.instanceMethod yX3_fetchFromOtherPart, Cond.selects RX3 yX3_fetchFromOtherPart yX3_fetchFromOtherPart, Cond.code yX3_fetchFromOtherPart cX3_fetchFromOtherPart 2 none, Cond.methodLink RX3 93 yX3_endRebuild, Cond.instanceMethod yX3_endRebuild, Cond.selects RX3 yX3_endRebuild yX3_endRebuild, Cond.code yX3_endRebuild cX3_endRebuild 2 none, Cond.methodLink RX3 79 yX3_take, Cond.instanceMethod yX3_take, Cond.selects RX3 yX3_take yX3_take, Cond.code yX3_take cX3_take 4 none, Cond.methodLink RX3 82 yX3_pay, Cond.instanceMethod yX3_pay, Cond.selects RX3 yX3_pay yX3_pay, Cond.code yX3_pay cX3_pay 3 none, Cond.methodLink RX3 86 yX3_beginRebuild, Cond.instanceMethod yX3_beginRebuild, Cond.selects RX3 yX3_beginRebuild yX3_beginRebuild, Cond.code yX3_beginRebuild cX3_beginRebuild 2 none]
def wsX3_perform : List Cond := .code yX3_perform cX3_perform 6 none :: ((wsX3_perform_r1 ++ (wsX3_perform_r2 ++ wsX3_perform_r3)) ++ wsX30)
def wsX1_grow_r1 : List Cond := [Cond.fieldLink RX1 9 "EndVersions$State" "held" "I", Cond.fieldLink RX1 54 "EndVersions$Version" "parent" "I", Cond.fieldLink RX1 15 "EndVersions$State" "rate" "I", Cond.fieldLink RX1 18 "EndVersions$State" "ratio" "I", Cond.methodLink RX1 31 yX1_slot, Cond.instanceMethod yX1_slot, Cond.selects RX1 yX1_slot yX1_slot, Cond.initialized RX1, Cond.code yX1_slot cX1_slot 3 (some (.object "EndVersions$Version")), Cond.fieldLink RX1 23 "EndVersions$State" "versions" "[LEndVersions$Version;", Cond.classLink RX1 21 RX3, Cond.instantiable RX3 11, Cond.initialized RX3, Cond.methodLink RX1 47 yX3_init, Cond.instanceMethod yX3_init, Cond.code yX3_init cX3_init 1 none, Cond.methodLink RX3 3 objectInit, Cond.instanceMethod objectInit, Cond.code objectInit ⟨#[0xb1]⟩ 1 none, Cond.fieldLink RX3 9 "EndVersions$Version" "parent" "I", Cond.fieldLink RX3 15 "EndVersions$Version" "kind" "I", Cond.fieldLink RX3 18 "EndVersions$Version" "moved" "I", Cond.fieldLink RX3 21 "EndVersions$Version" "depth" "I", Cond.fieldLink RX3 24 "EndVersions$Version" "front" "I"]
def wsX1_grow_r2 : List Cond := [Cond.fieldLink RX3 27 "EndVersions$Version" "back" "I", Cond.fieldLink RX3 30 "EndVersions$Version" "debt" "I", Cond.fieldLink RX3 33 "EndVersions$Version" "goal" "I", Cond.fieldLink RX3 36 "EndVersions$Version" "cost" "I", Cond.fieldLink RX3 39 "EndVersions$Version" "extra" "I", Cond.arrayClass .int, Cond.fieldLink RX3 42 "EndVersions$Version" "row" "[I", Cond.methodLink RX1 35 yX3_copyFrom, Cond.instanceMethod yX3_copyFrom, Cond.selects RX3 yX3_copyFrom yX3_copyFrom, Cond.code yX3_copyFrom cX3_copyFrom 3 none, Cond.methodLink RX3 50 arraycopyName, Cond.native arraycopyName, Cond.static arraycopyName, Cond.initialized "java/lang/System", Cond.methodLink RX3 46 yX3_size, Cond.instanceMethod yX3_size, Cond.selects RX3 yX3_size yX3_size, Cond.code yX3_size cX3_size 1 (some .int), Cond.methodLink RX1 57 yX3_perform, Cond.instanceMethod yX3_perform, Cond.selects RX3 yX3_perform yX3_perform, Cond.code yX3_perform cX3_perform 6 none, Cond.static yX4_isAtFront]
def wsX1_grow_r3 : List Cond := [Cond.initialized RX4, Cond.code yX4_isAtFront cX4_isAtFront 1 (some .boolean), Cond.static yX4_isPush, Cond.code yX4_isPush cX4_isPush 1 (some .boolean), Cond.methodLink RX3 71 yX3_put, Cond.instanceMethod yX3_put, Cond.selects RX3 yX3_put yX3_put, Cond.code yX3_put cX3_put 5 none, Cond.methodLink RX3 60 yX3_look, Cond.instanceMethod yX3_look, Cond.selects RX3 yX3_look yX3_look, Cond.code yX3_look cX3_look 2 (some .int), Cond.static yX4_cell, Cond.code yX4_cell cX4_cell 2 (some .int), Cond.static yX4_fill, Cond.code yX4_fill cX4_fill 3 none, Cond.methodLink RX3 100 yX3_moveGoal, Cond.instanceMethod yX3_moveGoal, Cond.selects RX3 yX3_moveGoal yX3_moveGoal, Cond.code yX3_moveGoal cX3_moveGoal 2 none, Cond.methodLink RX3 103 Lib.Math.max.name, Cond.static Lib.Math.max.name, Cond.initialized "java/lang/Math", Cond.code Lib.Math.max.name Lib.Math.max.code 2 (some .int)]
def wsX1_grow_r4 : List Cond := [Cond.methodLink RX3 109 Lib.Math.min.name, Cond.static Lib.Math.min.name, Cond.code Lib.Math.min.name Lib.Math.min.code 2 (some .int), Cond.methodLink RX3 89 yX3_isRebuilding, Cond.instanceMethod yX3_isRebuilding, Cond.selects RX3 yX3_isRebuilding yX3_isRebuilding, Cond.code yX3_isRebuilding cX3_isRebuilding 1 (some .boolean), Cond.methodLink RX3 75 yX3_fetchFromOtherPart, Cond.instanceMethod yX3_fetchFromOtherPart, Cond.selects RX3 yX3_fetchFromOtherPart yX3_fetchFromOtherPart, Cond.code yX3_fetchFromOtherPart cX3_fetchFromOtherPart 2 none, Cond.methodLink RX3 93 yX3_endRebuild, Cond.instanceMethod yX3_endRebuild, Cond.selects RX3 yX3_endRebuild yX3_endRebuild, Cond.code yX3_endRebuild cX3_endRebuild 2 none, Cond.methodLink RX3 79 yX3_take, Cond.instanceMethod yX3_take, Cond.selects RX3 yX3_take yX3_take, Cond.code yX3_take cX3_take 4 none, Cond.methodLink RX3 82 yX3_pay, Cond.instanceMethod yX3_pay, Cond.selects RX3 yX3_pay yX3_pay, Cond.code yX3_pay cX3_pay 3 none, Cond.methodLink RX3 86 yX3_beginRebuild]
def wsX1_grow_r5 : List Cond := [Cond.instanceMethod yX3_beginRebuild, Cond.selects RX3 yX3_beginRebuild yX3_beginRebuild, Cond.code yX3_beginRebuild cX3_beginRebuild 2 none]
def wsX1_grow : List Cond := .code yX1_grow cX1_grow 6 (some .int) :: ((wsX1_grow_r1 ++ (wsX1_grow_r2 ++ (wsX1_grow_r3 ++ (wsX1_grow_r4 ++ wsX1_grow_r5)))) ++ wsX10 ++ wsX30)
def wsX1_growBy_r1 : List Cond := [Cond.fieldLink RX1 61 "EndVersions$Script" "acts" "I", Cond.methodLink RX1 66 yX0_actAt, Cond.instanceMethod yX0_actAt, Cond.selects RX0 yX0_actAt yX0_actAt, Cond.initialized RX0, Cond.code yX0_actAt cX0_actAt 2 (some .int), Cond.fieldLink RX0 22 "EndVersions$Script" "kinds" "[I", Cond.static yX4_cell, Cond.initialized RX4, Cond.code yX4_cell cX4_cell 2 (some .int), Cond.methodLink RX1 70 yX1_allows, Cond.instanceMethod yX1_allows, Cond.selects RX1 yX1_allows yX1_allows, Cond.initialized RX1, Cond.code yX1_allows cX1_allows 3 (some .boolean), Cond.methodLink RX1 48 yX1_left, Cond.instanceMethod yX1_left, Cond.selects RX1 yX1_left yX1_left, Cond.code yX1_left cX1_left 1 (some .int), Cond.fieldLink RX1 9 "EndVersions$State" "held" "I", Cond.methodLink RX1 31 yX1_slot, Cond.instanceMethod yX1_slot, Cond.selects RX1 yX1_slot yX1_slot, Cond.code yX1_slot cX1_slot 3 (some (.object "EndVersions$Version"))]
def wsX1_growBy_r2 : List Cond := [Cond.fieldLink RX1 23 "EndVersions$State" "versions" "[LEndVersions$Version;", Cond.classLink RX1 21 RX3, Cond.instantiable RX3 11, Cond.initialized RX3, Cond.methodLink RX1 47 yX3_init, Cond.instanceMethod yX3_init, Cond.code yX3_init cX3_init 1 none, Cond.methodLink RX3 3 objectInit, Cond.instanceMethod objectInit, Cond.code objectInit ⟨#[0xb1]⟩ 1 none, Cond.fieldLink RX3 9 "EndVersions$Version" "parent" "I", Cond.fieldLink RX3 15 "EndVersions$Version" "kind" "I", Cond.fieldLink RX3 18 "EndVersions$Version" "moved" "I", Cond.fieldLink RX3 21 "EndVersions$Version" "depth" "I", Cond.fieldLink RX3 24 "EndVersions$Version" "front" "I", Cond.fieldLink RX3 27 "EndVersions$Version" "back" "I", Cond.fieldLink RX3 30 "EndVersions$Version" "debt" "I", Cond.fieldLink RX3 33 "EndVersions$Version" "goal" "I", Cond.fieldLink RX3 36 "EndVersions$Version" "cost" "I", Cond.fieldLink RX3 39 "EndVersions$Version" "extra" "I", Cond.arrayClass .int, Cond.fieldLink RX3 42 "EndVersions$Version" "row" "[I", Cond.methodLink RX1 51 yX3_permits, Cond.instanceMethod yX3_permits]
def wsX1_growBy_r3 : List Cond := [Cond.selects RX3 yX3_permits yX3_permits, Cond.code yX3_permits cX3_permits 2 (some .boolean), Cond.static yX4_isPush, Cond.code yX4_isPush cX4_isPush 1 (some .boolean), Cond.methodLink RX3 46 yX3_size, Cond.instanceMethod yX3_size, Cond.selects RX3 yX3_size yX3_size, Cond.code yX3_size cX3_size 1 (some .int), Cond.methodLink RX1 74 yX0_valueAt, Cond.instanceMethod yX0_valueAt, Cond.selects RX0 yX0_valueAt yX0_valueAt, Cond.code yX0_valueAt cX0_valueAt 2 (some .int), Cond.fieldLink RX0 25 "EndVersions$Script" "values" "[I", Cond.methodLink RX1 77 yX1_grow, Cond.instanceMethod yX1_grow, Cond.selects RX1 yX1_grow yX1_grow, Cond.code yX1_grow cX1_grow 6 (some .int), Cond.fieldLink RX1 54 "EndVersions$Version" "parent" "I", Cond.fieldLink RX1 15 "EndVersions$State" "rate" "I", Cond.fieldLink RX1 18 "EndVersions$State" "ratio" "I", Cond.methodLink RX1 35 yX3_copyFrom, Cond.instanceMethod yX3_copyFrom, Cond.selects RX3 yX3_copyFrom yX3_copyFrom, Cond.code yX3_copyFrom cX3_copyFrom 3 none]
def wsX1_growBy_r4 : List Cond := [Cond.methodLink RX3 50 arraycopyName, Cond.native arraycopyName, Cond.static arraycopyName, Cond.initialized "java/lang/System", Cond.methodLink RX1 57 yX3_perform, Cond.instanceMethod yX3_perform, Cond.selects RX3 yX3_perform yX3_perform, Cond.code yX3_perform cX3_perform 6 none, Cond.static yX4_isAtFront, Cond.code yX4_isAtFront cX4_isAtFront 1 (some .boolean), Cond.methodLink RX3 71 yX3_put, Cond.instanceMethod yX3_put, Cond.selects RX3 yX3_put yX3_put, Cond.code yX3_put cX3_put 5 none, Cond.methodLink RX3 60 yX3_look, Cond.instanceMethod yX3_look, Cond.selects RX3 yX3_look yX3_look, Cond.code yX3_look cX3_look 2 (some .int), Cond.static yX4_fill, Cond.code yX4_fill cX4_fill 3 none, Cond.methodLink RX3 100 yX3_moveGoal, Cond.instanceMethod yX3_moveGoal, Cond.selects RX3 yX3_moveGoal yX3_moveGoal, Cond.code yX3_moveGoal cX3_moveGoal 2 none]
def wsX1_growBy_r5 : List Cond := [Cond.methodLink RX3 103 Lib.Math.max.name, Cond.static Lib.Math.max.name, Cond.initialized "java/lang/Math", Cond.code Lib.Math.max.name Lib.Math.max.code 2 (some .int), Cond.methodLink RX3 109 Lib.Math.min.name, Cond.static Lib.Math.min.name, Cond.code Lib.Math.min.name Lib.Math.min.code 2 (some .int), Cond.methodLink RX3 89 yX3_isRebuilding, Cond.instanceMethod yX3_isRebuilding, Cond.selects RX3 yX3_isRebuilding yX3_isRebuilding, Cond.code yX3_isRebuilding cX3_isRebuilding 1 (some .boolean), Cond.methodLink RX3 75 yX3_fetchFromOtherPart, Cond.instanceMethod yX3_fetchFromOtherPart, Cond.selects RX3 yX3_fetchFromOtherPart yX3_fetchFromOtherPart, Cond.code yX3_fetchFromOtherPart cX3_fetchFromOtherPart 2 none, Cond.methodLink RX3 93 yX3_endRebuild, Cond.instanceMethod yX3_endRebuild, Cond.selects RX3 yX3_endRebuild yX3_endRebuild, Cond.code yX3_endRebuild cX3_endRebuild 2 none, Cond.methodLink RX3 79 yX3_take, Cond.instanceMethod yX3_take, Cond.selects RX3 yX3_take yX3_take, Cond.code yX3_take cX3_take 4 none, Cond.methodLink RX3 82 yX3_pay]
def wsX1_growBy_r6 : List Cond := [Cond.instanceMethod yX3_pay, Cond.selects RX3 yX3_pay yX3_pay, Cond.code yX3_pay cX3_pay 3 none, Cond.methodLink RX3 86 yX3_beginRebuild, Cond.instanceMethod yX3_beginRebuild, Cond.selects RX3 yX3_beginRebuild yX3_beginRebuild, Cond.code yX3_beginRebuild cX3_beginRebuild 2 none]
def wsX1_growBy : List Cond := .code yX1_growBy cX1_growBy 6 (some .int) :: ((wsX1_growBy_r1 ++ (wsX1_growBy_r2 ++ (wsX1_growBy_r3 ++ (wsX1_growBy_r4 ++ (wsX1_growBy_r5 ++ wsX1_growBy_r6))))) ++ wsX00 ++ wsX10 ++ wsX30)
def wsX1_childless_r1 : List Cond := [Cond.fieldLink RX1 9 "EndVersions$State" "held" "I", Cond.fieldLink RX1 27 "EndVersions$State" "childMarks" "[I", Cond.fieldLink RX1 54 "EndVersions$Version" "parent" "I", Cond.static yX4_fill, Cond.initialized RX4, Cond.code yX4_fill cX4_fill 3 none, Cond.methodLink RX1 31 yX1_slot, Cond.instanceMethod yX1_slot, Cond.selects RX1 yX1_slot yX1_slot, Cond.initialized RX1, Cond.code yX1_slot cX1_slot 3 (some (.object "EndVersions$Version")), Cond.fieldLink RX1 23 "EndVersions$State" "versions" "[LEndVersions$Version;", Cond.classLink RX1 21 RX3, Cond.instantiable RX3 11, Cond.initialized RX3, Cond.methodLink RX1 47 yX3_init, Cond.instanceMethod yX3_init, Cond.code yX3_init cX3_init 1 none, Cond.methodLink RX3 3 objectInit, Cond.instanceMethod objectInit, Cond.code objectInit ⟨#[0xb1]⟩ 1 none, Cond.fieldLink RX3 9 "EndVersions$Version" "parent" "I", Cond.fieldLink RX3 15 "EndVersions$Version" "kind" "I", Cond.fieldLink RX3 18 "EndVersions$Version" "moved" "I"]
def wsX1_childless_r2 : List Cond := [Cond.fieldLink RX3 21 "EndVersions$Version" "depth" "I", Cond.fieldLink RX3 24 "EndVersions$Version" "front" "I", Cond.fieldLink RX3 27 "EndVersions$Version" "back" "I", Cond.fieldLink RX3 30 "EndVersions$Version" "debt" "I", Cond.fieldLink RX3 33 "EndVersions$Version" "goal" "I", Cond.fieldLink RX3 36 "EndVersions$Version" "cost" "I", Cond.fieldLink RX3 39 "EndVersions$Version" "extra" "I", Cond.arrayClass .int, Cond.fieldLink RX3 42 "EndVersions$Version" "row" "[I", Cond.static yX4_cell, Cond.code yX4_cell cX4_cell 2 (some .int)]
def wsX1_childless : List Cond := .code yX1_childless cX1_childless 4 (some .int) :: ((wsX1_childless_r1 ++ wsX1_childless_r2) ++ wsX10 ++ wsX30)
def wsX3_fact : List Cond := .code yX3_fact cX3_fact 2 (some .int) :: ([.fieldLink RX3 9 "EndVersions$Version" "parent" "I", .fieldLink RX3 24 "EndVersions$Version" "front" "I", .fieldLink RX3 27 "EndVersions$Version" "back" "I", .fieldLink RX3 30 "EndVersions$Version" "debt" "I", .fieldLink RX3 33 "EndVersions$Version" "goal" "I", .fieldLink RX3 36 "EndVersions$Version" "cost" "I", .fieldLink RX3 39 "EndVersions$Version" "extra" "I", .fieldLink RX3 15 "EndVersions$Version" "kind" "I", .fieldLink RX3 21 "EndVersions$Version" "depth" "I", .methodLink RX3 46 yX3_size, .instanceMethod yX3_size, .selects RX3 yX3_size yX3_size, .initialized RX3, .code yX3_size cX3_size 1 (some .int)] ++ wsX30)
def wsX1_greatestFact_r1 : List Cond := [Cond.fieldLink RX1 9 "EndVersions$State" "held" "I", Cond.methodLink RX1 107 Lib.Math.max.name, Cond.static Lib.Math.max.name, Cond.initialized "java/lang/Math", Cond.code Lib.Math.max.name Lib.Math.max.code 2 (some .int), Cond.methodLink RX1 31 yX1_slot, Cond.instanceMethod yX1_slot, Cond.selects RX1 yX1_slot yX1_slot, Cond.initialized RX1, Cond.code yX1_slot cX1_slot 3 (some (.object "EndVersions$Version")), Cond.fieldLink RX1 23 "EndVersions$State" "versions" "[LEndVersions$Version;", Cond.classLink RX1 21 RX3, Cond.instantiable RX3 11, Cond.initialized RX3, Cond.methodLink RX1 47 yX3_init, Cond.instanceMethod yX3_init, Cond.code yX3_init cX3_init 1 none, Cond.methodLink RX3 3 objectInit, Cond.instanceMethod objectInit, Cond.code objectInit ⟨#[0xb1]⟩ 1 none, Cond.fieldLink RX3 9 "EndVersions$Version" "parent" "I", Cond.fieldLink RX3 15 "EndVersions$Version" "kind" "I", Cond.fieldLink RX3 18 "EndVersions$Version" "moved" "I", Cond.fieldLink RX3 21 "EndVersions$Version" "depth" "I"]
def wsX1_greatestFact_r2 : List Cond := [Cond.fieldLink RX3 24 "EndVersions$Version" "front" "I", Cond.fieldLink RX3 27 "EndVersions$Version" "back" "I", Cond.fieldLink RX3 30 "EndVersions$Version" "debt" "I", Cond.fieldLink RX3 33 "EndVersions$Version" "goal" "I", Cond.fieldLink RX3 36 "EndVersions$Version" "cost" "I", Cond.fieldLink RX3 39 "EndVersions$Version" "extra" "I", Cond.arrayClass .int, Cond.fieldLink RX3 42 "EndVersions$Version" "row" "[I", Cond.methodLink RX1 104 yX3_fact, Cond.instanceMethod yX3_fact, Cond.selects RX3 yX3_fact yX3_fact, Cond.code yX3_fact cX3_fact 2 (some .int), Cond.methodLink RX3 46 yX3_size, Cond.instanceMethod yX3_size, Cond.selects RX3 yX3_size yX3_size, Cond.code yX3_size cX3_size 1 (some .int)]
def wsX1_greatestFact : List Cond := .code yX1_greatestFact cX1_greatestFact 4 (some .int) :: ((wsX1_greatestFact_r1 ++ wsX1_greatestFact_r2) ++ wsX10 ++ wsX30)
def wsX1_sumOfFacts_r1 : List Cond := [Cond.fieldLink RX1 9 "EndVersions$State" "held" "I", Cond.methodLink RX1 31 yX1_slot, Cond.instanceMethod yX1_slot, Cond.selects RX1 yX1_slot yX1_slot, Cond.initialized RX1, Cond.code yX1_slot cX1_slot 3 (some (.object "EndVersions$Version")), Cond.fieldLink RX1 23 "EndVersions$State" "versions" "[LEndVersions$Version;", Cond.classLink RX1 21 RX3, Cond.instantiable RX3 11, Cond.initialized RX3, Cond.methodLink RX1 47 yX3_init, Cond.instanceMethod yX3_init, Cond.code yX3_init cX3_init 1 none, Cond.methodLink RX3 3 objectInit, Cond.instanceMethod objectInit, Cond.code objectInit ⟨#[0xb1]⟩ 1 none, Cond.fieldLink RX3 9 "EndVersions$Version" "parent" "I", Cond.fieldLink RX3 15 "EndVersions$Version" "kind" "I", Cond.fieldLink RX3 18 "EndVersions$Version" "moved" "I", Cond.fieldLink RX3 21 "EndVersions$Version" "depth" "I", Cond.fieldLink RX3 24 "EndVersions$Version" "front" "I", Cond.fieldLink RX3 27 "EndVersions$Version" "back" "I", Cond.fieldLink RX3 30 "EndVersions$Version" "debt" "I", Cond.fieldLink RX3 33 "EndVersions$Version" "goal" "I"]
def wsX1_sumOfFacts_r2 : List Cond := [Cond.fieldLink RX3 36 "EndVersions$Version" "cost" "I", Cond.fieldLink RX3 39 "EndVersions$Version" "extra" "I", Cond.arrayClass .int, Cond.fieldLink RX3 42 "EndVersions$Version" "row" "[I", Cond.methodLink RX1 104 yX3_fact, Cond.instanceMethod yX3_fact, Cond.selects RX3 yX3_fact yX3_fact, Cond.code yX3_fact cX3_fact 2 (some .int), Cond.methodLink RX3 46 yX3_size, Cond.instanceMethod yX3_size, Cond.selects RX3 yX3_size yX3_size, Cond.code yX3_size cX3_size 1 (some .int)]
def wsX1_sumOfFacts : List Cond := .code yX1_sumOfFacts cX1_sumOfFacts 4 (some .int) :: ((wsX1_sumOfFacts_r1 ++ wsX1_sumOfFacts_r2) ++ wsX10 ++ wsX30)
def wsX1_stalled_r1 : List Cond := [Cond.fieldLink RX1 9 "EndVersions$State" "held" "I", Cond.fieldLink RX1 113 "EndVersions$Version" "extra" "I", Cond.methodLink RX1 31 yX1_slot, Cond.instanceMethod yX1_slot, Cond.selects RX1 yX1_slot yX1_slot, Cond.initialized RX1, Cond.code yX1_slot cX1_slot 3 (some (.object "EndVersions$Version")), Cond.fieldLink RX1 23 "EndVersions$State" "versions" "[LEndVersions$Version;", Cond.classLink RX1 21 RX3, Cond.instantiable RX3 11, Cond.initialized RX3, Cond.methodLink RX1 47 yX3_init, Cond.instanceMethod yX3_init, Cond.code yX3_init cX3_init 1 none, Cond.methodLink RX3 3 objectInit, Cond.instanceMethod objectInit, Cond.code objectInit ⟨#[0xb1]⟩ 1 none, Cond.fieldLink RX3 9 "EndVersions$Version" "parent" "I", Cond.fieldLink RX3 15 "EndVersions$Version" "kind" "I", Cond.fieldLink RX3 18 "EndVersions$Version" "moved" "I", Cond.fieldLink RX3 21 "EndVersions$Version" "depth" "I", Cond.fieldLink RX3 24 "EndVersions$Version" "front" "I", Cond.fieldLink RX3 27 "EndVersions$Version" "back" "I", Cond.fieldLink RX3 30 "EndVersions$Version" "debt" "I"]
def wsX1_stalled_r2 : List Cond := [Cond.fieldLink RX3 33 "EndVersions$Version" "goal" "I", Cond.fieldLink RX3 36 "EndVersions$Version" "cost" "I", Cond.fieldLink RX3 39 "EndVersions$Version" "extra" "I", Cond.arrayClass .int, Cond.fieldLink RX3 42 "EndVersions$Version" "row" "[I"]
def wsX1_stalled : List Cond := .code yX1_stalled cX1_stalled 3 (some .int) :: ((wsX1_stalled_r1 ++ wsX1_stalled_r2) ++ wsX10 ++ wsX30)
def wsX1_rebuilding_r1 : List Cond := [Cond.fieldLink RX1 9 "EndVersions$State" "held" "I", Cond.methodLink RX1 31 yX1_slot, Cond.instanceMethod yX1_slot, Cond.selects RX1 yX1_slot yX1_slot, Cond.initialized RX1, Cond.code yX1_slot cX1_slot 3 (some (.object "EndVersions$Version")), Cond.fieldLink RX1 23 "EndVersions$State" "versions" "[LEndVersions$Version;", Cond.classLink RX1 21 RX3, Cond.instantiable RX3 11, Cond.initialized RX3, Cond.methodLink RX1 47 yX3_init, Cond.instanceMethod yX3_init, Cond.code yX3_init cX3_init 1 none, Cond.methodLink RX3 3 objectInit, Cond.instanceMethod objectInit, Cond.code objectInit ⟨#[0xb1]⟩ 1 none, Cond.fieldLink RX3 9 "EndVersions$Version" "parent" "I", Cond.fieldLink RX3 15 "EndVersions$Version" "kind" "I", Cond.fieldLink RX3 18 "EndVersions$Version" "moved" "I", Cond.fieldLink RX3 21 "EndVersions$Version" "depth" "I", Cond.fieldLink RX3 24 "EndVersions$Version" "front" "I", Cond.fieldLink RX3 27 "EndVersions$Version" "back" "I", Cond.fieldLink RX3 30 "EndVersions$Version" "debt" "I", Cond.fieldLink RX3 33 "EndVersions$Version" "goal" "I"]
def wsX1_rebuilding_r2 : List Cond := [Cond.fieldLink RX3 36 "EndVersions$Version" "cost" "I", Cond.fieldLink RX3 39 "EndVersions$Version" "extra" "I", Cond.arrayClass .int, Cond.fieldLink RX3 42 "EndVersions$Version" "row" "[I", Cond.methodLink RX1 116 yX3_isRebuilding, Cond.instanceMethod yX3_isRebuilding, Cond.selects RX3 yX3_isRebuilding yX3_isRebuilding, Cond.code yX3_isRebuilding cX3_isRebuilding 1 (some .boolean)]
def wsX1_rebuilding : List Cond := .code yX1_rebuilding cX1_rebuilding 3 (some .int) :: ((wsX1_rebuilding_r1 ++ wsX1_rebuilding_r2) ++ wsX10 ++ wsX30)
def wsX1_total_r1 : List Cond := [Cond.fieldLink RX1 9 "EndVersions$State" "held" "I", Cond.methodLink RX1 81 yX1_childless, Cond.instanceMethod yX1_childless, Cond.selects RX1 yX1_childless yX1_childless, Cond.initialized RX1, Cond.code yX1_childless cX1_childless 4 (some .int), Cond.fieldLink RX1 27 "EndVersions$State" "childMarks" "[I", Cond.fieldLink RX1 54 "EndVersions$Version" "parent" "I", Cond.static yX4_fill, Cond.initialized RX4, Cond.code yX4_fill cX4_fill 3 none, Cond.methodLink RX1 31 yX1_slot, Cond.instanceMethod yX1_slot, Cond.selects RX1 yX1_slot yX1_slot, Cond.code yX1_slot cX1_slot 3 (some (.object "EndVersions$Version")), Cond.fieldLink RX1 23 "EndVersions$State" "versions" "[LEndVersions$Version;", Cond.classLink RX1 21 RX3, Cond.instantiable RX3 11, Cond.initialized RX3, Cond.methodLink RX1 47 yX3_init, Cond.instanceMethod yX3_init, Cond.code yX3_init cX3_init 1 none, Cond.methodLink RX3 3 objectInit, Cond.instanceMethod objectInit]
def wsX1_total_r2 : List Cond := [Cond.code objectInit ⟨#[0xb1]⟩ 1 none, Cond.fieldLink RX3 9 "EndVersions$Version" "parent" "I", Cond.fieldLink RX3 15 "EndVersions$Version" "kind" "I", Cond.fieldLink RX3 18 "EndVersions$Version" "moved" "I", Cond.fieldLink RX3 21 "EndVersions$Version" "depth" "I", Cond.fieldLink RX3 24 "EndVersions$Version" "front" "I", Cond.fieldLink RX3 27 "EndVersions$Version" "back" "I", Cond.fieldLink RX3 30 "EndVersions$Version" "debt" "I", Cond.fieldLink RX3 33 "EndVersions$Version" "goal" "I", Cond.fieldLink RX3 36 "EndVersions$Version" "cost" "I", Cond.fieldLink RX3 39 "EndVersions$Version" "extra" "I", Cond.arrayClass .int, Cond.fieldLink RX3 42 "EndVersions$Version" "row" "[I", Cond.static yX4_cell, Cond.code yX4_cell cX4_cell 2 (some .int), Cond.methodLink RX1 84 yX1_greatestFact, Cond.instanceMethod yX1_greatestFact, Cond.selects RX1 yX1_greatestFact yX1_greatestFact, Cond.code yX1_greatestFact cX1_greatestFact 4 (some .int), Cond.methodLink RX1 107 Lib.Math.max.name, Cond.static Lib.Math.max.name, Cond.initialized "java/lang/Math", Cond.code Lib.Math.max.name Lib.Math.max.code 2 (some .int), Cond.methodLink RX1 104 yX3_fact]
def wsX1_total_r3 : List Cond := [Cond.instanceMethod yX3_fact, Cond.selects RX3 yX3_fact yX3_fact, Cond.code yX3_fact cX3_fact 2 (some .int), Cond.methodLink RX3 46 yX3_size, Cond.instanceMethod yX3_size, Cond.selects RX3 yX3_size yX3_size, Cond.code yX3_size cX3_size 1 (some .int), Cond.methodLink RX1 87 yX1_sumOfFacts, Cond.instanceMethod yX1_sumOfFacts, Cond.selects RX1 yX1_sumOfFacts yX1_sumOfFacts, Cond.code yX1_sumOfFacts cX1_sumOfFacts 4 (some .int), Cond.methodLink RX1 90 yX1_stalled, Cond.instanceMethod yX1_stalled, Cond.selects RX1 yX1_stalled yX1_stalled, Cond.code yX1_stalled cX1_stalled 3 (some .int), Cond.fieldLink RX1 113 "EndVersions$Version" "extra" "I", Cond.methodLink RX1 93 yX1_rebuilding, Cond.instanceMethod yX1_rebuilding, Cond.selects RX1 yX1_rebuilding yX1_rebuilding, Cond.code yX1_rebuilding cX1_rebuilding 3 (some .int), Cond.methodLink RX1 116 yX3_isRebuilding, Cond.instanceMethod yX3_isRebuilding, Cond.selects RX3 yX3_isRebuilding yX3_isRebuilding, Cond.code yX3_isRebuilding cX3_isRebuilding 1 (some .boolean)]
def wsX1_total : List Cond := .code yX1_total cX1_total 2 (some .int) :: ((wsX1_total_r1 ++ (wsX1_total_r2 ++ wsX1_total_r3)) ++ wsX10 ++ wsX30)
def wsX1_meeting_r1 : List Cond := [Cond.fieldLink RX1 54 "EndVersions$Version" "parent" "I", Cond.methodLink RX1 31 yX1_slot, Cond.instanceMethod yX1_slot, Cond.selects RX1 yX1_slot yX1_slot, Cond.initialized RX1, Cond.code yX1_slot cX1_slot 3 (some (.object "EndVersions$Version")), Cond.fieldLink RX1 23 "EndVersions$State" "versions" "[LEndVersions$Version;", Cond.classLink RX1 21 RX3, Cond.instantiable RX3 11, Cond.initialized RX3, Cond.methodLink RX1 47 yX3_init, Cond.instanceMethod yX3_init, Cond.code yX3_init cX3_init 1 none, Cond.methodLink RX3 3 objectInit, Cond.instanceMethod objectInit, Cond.code objectInit ⟨#[0xb1]⟩ 1 none, Cond.fieldLink RX3 9 "EndVersions$Version" "parent" "I", Cond.fieldLink RX3 15 "EndVersions$Version" "kind" "I", Cond.fieldLink RX3 18 "EndVersions$Version" "moved" "I", Cond.fieldLink RX3 21 "EndVersions$Version" "depth" "I", Cond.fieldLink RX3 24 "EndVersions$Version" "front" "I", Cond.fieldLink RX3 27 "EndVersions$Version" "back" "I", Cond.fieldLink RX3 30 "EndVersions$Version" "debt" "I", Cond.fieldLink RX3 33 "EndVersions$Version" "goal" "I"]
def wsX1_meeting_r2 : List Cond := [Cond.fieldLink RX3 36 "EndVersions$Version" "cost" "I", Cond.fieldLink RX3 39 "EndVersions$Version" "extra" "I", Cond.arrayClass .int, Cond.fieldLink RX3 42 "EndVersions$Version" "row" "[I"]
def wsX1_meeting : List Cond := .code yX1_meeting cX1_meeting 6 (some .int) :: ((wsX1_meeting_r1 ++ wsX1_meeting_r2) ++ wsX30 ++ wsX10)
def wsX3_hasRowOf : List Cond := .code yX3_hasRowOf cX3_hasRowOf 4 (some .boolean) :: ([.methodLink RX3 46 yX3_size, .instanceMethod yX3_size, .selects RX3 yX3_size yX3_size, .initialized RX3, .code yX3_size cX3_size 1 (some .int), .fieldLink RX3 24 "EndVersions$Version" "front" "I", .fieldLink RX3 27 "EndVersions$Version" "back" "I", .methodLink RX3 60 yX3_look, .instanceMethod yX3_look, .selects RX3 yX3_look yX3_look, .code yX3_look cX3_look 2 (some .int), .fieldLink RX3 42 "EndVersions$Version" "row" "[I", .static yX4_cell, .initialized RX4, .code yX4_cell cX4_cell 2 (some .int)] ++ wsX30)
def wsX1_firstWithRowOf_r1 : List Cond := [Cond.methodLink RX1 31 yX1_slot, Cond.instanceMethod yX1_slot, Cond.selects RX1 yX1_slot yX1_slot, Cond.initialized RX1, Cond.code yX1_slot cX1_slot 3 (some (.object "EndVersions$Version")), Cond.fieldLink RX1 23 "EndVersions$State" "versions" "[LEndVersions$Version;", Cond.classLink RX1 21 RX3, Cond.instantiable RX3 11, Cond.initialized RX3, Cond.methodLink RX1 47 yX3_init, Cond.instanceMethod yX3_init, Cond.code yX3_init cX3_init 1 none, Cond.methodLink RX3 3 objectInit, Cond.instanceMethod objectInit, Cond.code objectInit ⟨#[0xb1]⟩ 1 none, Cond.fieldLink RX3 9 "EndVersions$Version" "parent" "I", Cond.fieldLink RX3 15 "EndVersions$Version" "kind" "I", Cond.fieldLink RX3 18 "EndVersions$Version" "moved" "I", Cond.fieldLink RX3 21 "EndVersions$Version" "depth" "I", Cond.fieldLink RX3 24 "EndVersions$Version" "front" "I", Cond.fieldLink RX3 27 "EndVersions$Version" "back" "I", Cond.fieldLink RX3 30 "EndVersions$Version" "debt" "I", Cond.fieldLink RX3 33 "EndVersions$Version" "goal" "I", Cond.fieldLink RX3 36 "EndVersions$Version" "cost" "I"]
def wsX1_firstWithRowOf_r2 : List Cond := [Cond.fieldLink RX3 39 "EndVersions$Version" "extra" "I", Cond.arrayClass .int, Cond.fieldLink RX3 42 "EndVersions$Version" "row" "[I", Cond.methodLink RX1 120 yX3_hasRowOf, Cond.instanceMethod yX3_hasRowOf, Cond.selects RX3 yX3_hasRowOf yX3_hasRowOf, Cond.code yX3_hasRowOf cX3_hasRowOf 4 (some .boolean), Cond.methodLink RX3 46 yX3_size, Cond.instanceMethod yX3_size, Cond.selects RX3 yX3_size yX3_size, Cond.code yX3_size cX3_size 1 (some .int), Cond.methodLink RX3 60 yX3_look, Cond.instanceMethod yX3_look, Cond.selects RX3 yX3_look yX3_look, Cond.code yX3_look cX3_look 2 (some .int), Cond.static yX4_cell, Cond.initialized RX4, Cond.code yX4_cell cX4_cell 2 (some .int)]
def wsX1_firstWithRowOf : List Cond := .code yX1_firstWithRowOf cX1_firstWithRowOf 3 (some .int) :: ((wsX1_firstWithRowOf_r1 ++ wsX1_firstWithRowOf_r2) ++ wsX10 ++ wsX30)
def wsX1_greatestCostOnWay_r1 : List Cond := [Cond.fieldLink RX1 124 "EndVersions$Version" "cost" "I", Cond.methodLink RX1 107 Lib.Math.max.name, Cond.static Lib.Math.max.name, Cond.initialized "java/lang/Math", Cond.code Lib.Math.max.name Lib.Math.max.code 2 (some .int), Cond.fieldLink RX1 54 "EndVersions$Version" "parent" "I", Cond.methodLink RX1 31 yX1_slot, Cond.instanceMethod yX1_slot, Cond.selects RX1 yX1_slot yX1_slot, Cond.initialized RX1, Cond.code yX1_slot cX1_slot 3 (some (.object "EndVersions$Version")), Cond.fieldLink RX1 23 "EndVersions$State" "versions" "[LEndVersions$Version;", Cond.classLink RX1 21 RX3, Cond.instantiable RX3 11, Cond.initialized RX3, Cond.methodLink RX1 47 yX3_init, Cond.instanceMethod yX3_init, Cond.code yX3_init cX3_init 1 none, Cond.methodLink RX3 3 objectInit, Cond.instanceMethod objectInit, Cond.code objectInit ⟨#[0xb1]⟩ 1 none, Cond.fieldLink RX3 9 "EndVersions$Version" "parent" "I", Cond.fieldLink RX3 15 "EndVersions$Version" "kind" "I", Cond.fieldLink RX3 18 "EndVersions$Version" "moved" "I"]
def wsX1_greatestCostOnWay_r2 : List Cond := [Cond.fieldLink RX3 21 "EndVersions$Version" "depth" "I", Cond.fieldLink RX3 24 "EndVersions$Version" "front" "I", Cond.fieldLink RX3 27 "EndVersions$Version" "back" "I", Cond.fieldLink RX3 30 "EndVersions$Version" "debt" "I", Cond.fieldLink RX3 33 "EndVersions$Version" "goal" "I", Cond.fieldLink RX3 36 "EndVersions$Version" "cost" "I", Cond.fieldLink RX3 39 "EndVersions$Version" "extra" "I", Cond.arrayClass .int, Cond.fieldLink RX3 42 "EndVersions$Version" "row" "[I"]
def wsX1_greatestCostOnWay : List Cond := .code yX1_greatestCostOnWay cX1_greatestCostOnWay 5 (some .int) :: ((wsX1_greatestCostOnWay_r1 ++ wsX1_greatestCostOnWay_r2) ++ wsX30 ++ wsX10)
def wsX1_sumOfCostsOnWay_r1 : List Cond := [Cond.fieldLink RX1 124 "EndVersions$Version" "cost" "I", Cond.fieldLink RX1 54 "EndVersions$Version" "parent" "I", Cond.methodLink RX1 31 yX1_slot, Cond.instanceMethod yX1_slot, Cond.selects RX1 yX1_slot yX1_slot, Cond.initialized RX1, Cond.code yX1_slot cX1_slot 3 (some (.object "EndVersions$Version")), Cond.fieldLink RX1 23 "EndVersions$State" "versions" "[LEndVersions$Version;", Cond.classLink RX1 21 RX3, Cond.instantiable RX3 11, Cond.initialized RX3, Cond.methodLink RX1 47 yX3_init, Cond.instanceMethod yX3_init, Cond.code yX3_init cX3_init 1 none, Cond.methodLink RX3 3 objectInit, Cond.instanceMethod objectInit, Cond.code objectInit ⟨#[0xb1]⟩ 1 none, Cond.fieldLink RX3 9 "EndVersions$Version" "parent" "I", Cond.fieldLink RX3 15 "EndVersions$Version" "kind" "I", Cond.fieldLink RX3 18 "EndVersions$Version" "moved" "I", Cond.fieldLink RX3 21 "EndVersions$Version" "depth" "I", Cond.fieldLink RX3 24 "EndVersions$Version" "front" "I", Cond.fieldLink RX3 27 "EndVersions$Version" "back" "I", Cond.fieldLink RX3 30 "EndVersions$Version" "debt" "I"]
def wsX1_sumOfCostsOnWay_r2 : List Cond := [Cond.fieldLink RX3 33 "EndVersions$Version" "goal" "I", Cond.fieldLink RX3 36 "EndVersions$Version" "cost" "I", Cond.fieldLink RX3 39 "EndVersions$Version" "extra" "I", Cond.arrayClass .int, Cond.fieldLink RX3 42 "EndVersions$Version" "row" "[I"]
def wsX1_sumOfCostsOnWay : List Cond := .code yX1_sumOfCostsOnWay cX1_sumOfCostsOnWay 5 (some .int) :: ((wsX1_sumOfCostsOnWay_r1 ++ wsX1_sumOfCostsOnWay_r2) ++ wsX30 ++ wsX10)
def wsX2_init_r1 : List Cond := [Cond.methodLink RX2 1 objectInit, Cond.instanceMethod objectInit, Cond.code objectInit ⟨#[0xb1]⟩ 1 none, Cond.fieldLink RX2 7 "EndVersions$Trial" "stalled" "I", Cond.fieldLink RX2 13 "EndVersions$Trial" "greatestCost" "I", Cond.classLink RX2 16 RX3, Cond.instantiable RX3 11, Cond.initialized RX3, Cond.fieldLink RX2 19 "EndVersions$Trial" "row" "LEndVersions$Version;", Cond.methodLink RX2 18 yX3_init, Cond.instanceMethod yX3_init, Cond.code yX3_init cX3_init 1 none, Cond.methodLink RX3 3 objectInit, Cond.fieldLink RX3 9 "EndVersions$Version" "parent" "I", Cond.fieldLink RX3 15 "EndVersions$Version" "kind" "I", Cond.fieldLink RX3 18 "EndVersions$Version" "moved" "I", Cond.fieldLink RX3 21 "EndVersions$Version" "depth" "I", Cond.fieldLink RX3 24 "EndVersions$Version" "front" "I", Cond.fieldLink RX3 27 "EndVersions$Version" "back" "I", Cond.fieldLink RX3 30 "EndVersions$Version" "debt" "I", Cond.fieldLink RX3 33 "EndVersions$Version" "goal" "I", Cond.fieldLink RX3 36 "EndVersions$Version" "cost" "I", Cond.fieldLink RX3 39 "EndVersions$Version" "extra" "I", Cond.arrayClass .int]
def wsX2_init_r2 : List Cond := [Cond.fieldLink RX3 42 "EndVersions$Version" "row" "[I"]
def wsX2_init : List Cond := .code yX2_init cX2_init 1 none :: ((wsX2_init_r1 ++ wsX2_init_r2) ++ wsX20 ++ wsX30)
def wsX2_play_r1 : List Cond := [Cond.fieldLink RX2 7 "EndVersions$Trial" "stalled" "I", Cond.fieldLink RX2 13 "EndVersions$Trial" "greatestCost" "I", Cond.fieldLink RX2 19 "EndVersions$Trial" "row" "LEndVersions$Version;", Cond.fieldLink RX2 33 "EndVersions$Script" "acts" "I", Cond.methodLink RX2 42 Lib.Math.min.name, Cond.static Lib.Math.min.name, Cond.initialized "java/lang/Math", Cond.code Lib.Math.min.name Lib.Math.min.code 2 (some .int), Cond.fieldLink RX2 59 "EndVersions$State" "ratio" "I", Cond.fieldLink RX2 66 "EndVersions$Version" "extra" "I", Cond.fieldLink RX2 69 "EndVersions$Version" "cost" "I", Cond.methodLink RX2 72 Lib.Math.max.name, Cond.static Lib.Math.max.name, Cond.code Lib.Math.max.name Lib.Math.max.code 2 (some .int), Cond.methodLink RX2 23 yX1_slot, Cond.instanceMethod yX1_slot, Cond.selects RX1 yX1_slot yX1_slot, Cond.initialized RX1, Cond.code yX1_slot cX1_slot 3 (some (.object "EndVersions$Version")), Cond.fieldLink RX1 23 "EndVersions$State" "versions" "[LEndVersions$Version;", Cond.classLink RX1 21 RX3, Cond.instantiable RX3 11, Cond.initialized RX3, Cond.methodLink RX1 47 yX3_init]
def wsX2_play_r2 : List Cond := [Cond.instanceMethod yX3_init, Cond.code yX3_init cX3_init 1 none, Cond.methodLink RX3 3 objectInit, Cond.instanceMethod objectInit, Cond.code objectInit ⟨#[0xb1]⟩ 1 none, Cond.fieldLink RX3 9 "EndVersions$Version" "parent" "I", Cond.fieldLink RX3 15 "EndVersions$Version" "kind" "I", Cond.fieldLink RX3 18 "EndVersions$Version" "moved" "I", Cond.fieldLink RX3 21 "EndVersions$Version" "depth" "I", Cond.fieldLink RX3 24 "EndVersions$Version" "front" "I", Cond.fieldLink RX3 27 "EndVersions$Version" "back" "I", Cond.fieldLink RX3 30 "EndVersions$Version" "debt" "I", Cond.fieldLink RX3 33 "EndVersions$Version" "goal" "I", Cond.fieldLink RX3 36 "EndVersions$Version" "cost" "I", Cond.fieldLink RX3 39 "EndVersions$Version" "extra" "I", Cond.arrayClass .int, Cond.fieldLink RX3 42 "EndVersions$Version" "row" "[I", Cond.methodLink RX2 29 yX3_copyFrom, Cond.instanceMethod yX3_copyFrom, Cond.selects RX3 yX3_copyFrom yX3_copyFrom, Cond.code yX3_copyFrom cX3_copyFrom 3 none, Cond.methodLink RX3 50 arraycopyName, Cond.native arraycopyName, Cond.static arraycopyName]
def wsX2_play_r3 : List Cond := [Cond.initialized "java/lang/System", Cond.methodLink RX3 46 yX3_size, Cond.instanceMethod yX3_size, Cond.selects RX3 yX3_size yX3_size, Cond.code yX3_size cX3_size 1 (some .int), Cond.methodLink RX2 38 yX1_left, Cond.instanceMethod yX1_left, Cond.selects RX1 yX1_left yX1_left, Cond.code yX1_left cX1_left 1 (some .int), Cond.fieldLink RX1 9 "EndVersions$State" "held" "I", Cond.methodLink RX2 48 yX0_actAt, Cond.instanceMethod yX0_actAt, Cond.selects RX0 yX0_actAt yX0_actAt, Cond.initialized RX0, Cond.code yX0_actAt cX0_actAt 2 (some .int), Cond.fieldLink RX0 22 "EndVersions$Script" "kinds" "[I", Cond.static yX4_cell, Cond.initialized RX4, Cond.code yX4_cell cX4_cell 2 (some .int), Cond.methodLink RX2 52 yX3_permits, Cond.instanceMethod yX3_permits, Cond.selects RX3 yX3_permits yX3_permits, Cond.code yX3_permits cX3_permits 2 (some .boolean), Cond.static yX4_isPush]
def wsX2_play_r4 : List Cond := [Cond.code yX4_isPush cX4_isPush 1 (some .boolean), Cond.methodLink RX2 56 yX0_valueAt, Cond.instanceMethod yX0_valueAt, Cond.selects RX0 yX0_valueAt yX0_valueAt, Cond.code yX0_valueAt cX0_valueAt 2 (some .int), Cond.fieldLink RX0 25 "EndVersions$Script" "values" "[I", Cond.methodLink RX2 62 yX3_perform, Cond.instanceMethod yX3_perform, Cond.selects RX3 yX3_perform yX3_perform, Cond.code yX3_perform cX3_perform 6 none, Cond.static yX4_isAtFront, Cond.code yX4_isAtFront cX4_isAtFront 1 (some .boolean), Cond.methodLink RX3 71 yX3_put, Cond.instanceMethod yX3_put, Cond.selects RX3 yX3_put yX3_put, Cond.code yX3_put cX3_put 5 none, Cond.methodLink RX3 60 yX3_look, Cond.instanceMethod yX3_look, Cond.selects RX3 yX3_look yX3_look, Cond.code yX3_look cX3_look 2 (some .int), Cond.static yX4_fill, Cond.code yX4_fill cX4_fill 3 none, Cond.methodLink RX3 100 yX3_moveGoal, Cond.instanceMethod yX3_moveGoal]
def wsX2_play_r5 : List Cond := [Cond.selects RX3 yX3_moveGoal yX3_moveGoal, Cond.code yX3_moveGoal cX3_moveGoal 2 none, Cond.methodLink RX3 103 Lib.Math.max.name, Cond.methodLink RX3 109 Lib.Math.min.name, Cond.methodLink RX3 89 yX3_isRebuilding, Cond.instanceMethod yX3_isRebuilding, Cond.selects RX3 yX3_isRebuilding yX3_isRebuilding, Cond.code yX3_isRebuilding cX3_isRebuilding 1 (some .boolean), Cond.methodLink RX3 75 yX3_fetchFromOtherPart, Cond.instanceMethod yX3_fetchFromOtherPart, Cond.selects RX3 yX3_fetchFromOtherPart yX3_fetchFromOtherPart, Cond.code yX3_fetchFromOtherPart cX3_fetchFromOtherPart 2 none, Cond.methodLink RX3 93 yX3_endRebuild, Cond.instanceMethod yX3_endRebuild, Cond.selects RX3 yX3_endRebuild yX3_endRebuild, Cond.code yX3_endRebuild cX3_endRebuild 2 none, Cond.methodLink RX3 79 yX3_take, Cond.instanceMethod yX3_take, Cond.selects RX3 yX3_take yX3_take, Cond.code yX3_take cX3_take 4 none, Cond.methodLink RX3 82 yX3_pay, Cond.instanceMethod yX3_pay, Cond.selects RX3 yX3_pay yX3_pay, Cond.code yX3_pay cX3_pay 3 none]
def wsX2_play_r6 : List Cond := [Cond.methodLink RX3 86 yX3_beginRebuild, Cond.instanceMethod yX3_beginRebuild, Cond.selects RX3 yX3_beginRebuild yX3_beginRebuild, Cond.code yX3_beginRebuild cX3_beginRebuild 2 none]
def wsX2_play : List Cond := .code yX2_play cX2_play 7 none :: ((wsX2_play_r1 ++ (wsX2_play_r2 ++ (wsX2_play_r3 ++ (wsX2_play_r4 ++ (wsX2_play_r5 ++ wsX2_play_r6))))) ++ wsX20 ++ wsX00 ++ wsX10 ++ wsX30)
def wsX4_init_r1 : List Cond := [Cond.methodLink RX4 3 objectInit, Cond.instanceMethod objectInit, Cond.code objectInit ⟨#[0xb1]⟩ 1 none, Cond.classLink RX4 9 RX0, Cond.instantiable RX0 8, Cond.initialized RX0, Cond.fieldLink RX4 12 "EndVersions" "script" "LEndVersions$Script;", Cond.classLink RX4 16 RX2, Cond.instantiable RX2 3, Cond.initialized RX2, Cond.fieldLink RX4 19 "EndVersions" "trial" "LEndVersions$Trial;", Cond.classLink RX4 23 RX1, Cond.fieldLink RX4 25 "EndVersions" "saved" "[LEndVersions$State;", Cond.instantiable RX1 5, Cond.initialized RX1, Cond.fieldLink RX4 30 "EndVersions" "now" "LEndVersions$State;", Cond.fieldLink RX4 34 "EndVersions" "savedStates" "I", Cond.methodLink RX4 11 yX0_init, Cond.instanceMethod yX0_init, Cond.code yX0_init cX0_init 1 none, Cond.methodLink RX0 3 objectInit, Cond.fieldLink RX0 9 "EndVersions$Script" "length" "I", Cond.fieldLink RX0 15 "EndVersions$Script" "acts" "I", Cond.arrayClass .int]
def wsX4_init_r2 : List Cond := [Cond.fieldLink RX0 18 "EndVersions$Script" "bytes" "[I", Cond.fieldLink RX0 22 "EndVersions$Script" "kinds" "[I", Cond.fieldLink RX0 25 "EndVersions$Script" "values" "[I", Cond.fieldLink RX0 28 "EndVersions$Script" "kind" "I", Cond.fieldLink RX0 31 "EndVersions$Script" "negative" "Z", Cond.fieldLink RX0 35 "EndVersions$Script" "number" "I", Cond.methodLink RX4 18 yX2_init, Cond.instanceMethod yX2_init, Cond.code yX2_init cX2_init 1 none, Cond.methodLink RX2 1 objectInit, Cond.fieldLink RX2 7 "EndVersions$Trial" "stalled" "I", Cond.fieldLink RX2 13 "EndVersions$Trial" "greatestCost" "I", Cond.classLink RX2 16 RX3, Cond.instantiable RX3 11, Cond.initialized RX3, Cond.fieldLink RX2 19 "EndVersions$Trial" "row" "LEndVersions$Version;", Cond.methodLink RX2 18 yX3_init, Cond.instanceMethod yX3_init, Cond.code yX3_init cX3_init 1 none, Cond.methodLink RX3 3 objectInit, Cond.fieldLink RX3 9 "EndVersions$Version" "parent" "I", Cond.fieldLink RX3 15 "EndVersions$Version" "kind" "I", Cond.fieldLink RX3 18 "EndVersions$Version" "moved" "I", Cond.fieldLink RX3 21 "EndVersions$Version" "depth" "I"]
def wsX4_init_r3 : List Cond := [Cond.fieldLink RX3 24 "EndVersions$Version" "front" "I", Cond.fieldLink RX3 27 "EndVersions$Version" "back" "I", Cond.fieldLink RX3 30 "EndVersions$Version" "debt" "I", Cond.fieldLink RX3 33 "EndVersions$Version" "goal" "I", Cond.fieldLink RX3 36 "EndVersions$Version" "cost" "I", Cond.fieldLink RX3 39 "EndVersions$Version" "extra" "I", Cond.fieldLink RX3 42 "EndVersions$Version" "row" "[I", Cond.methodLink RX4 29 yX1_init, Cond.instanceMethod yX1_init, Cond.code yX1_init cX1_init 1 none, Cond.methodLink RX1 3 objectInit, Cond.fieldLink RX1 9 "EndVersions$State" "held" "I", Cond.fieldLink RX1 15 "EndVersions$State" "rate" "I", Cond.fieldLink RX1 18 "EndVersions$State" "ratio" "I", Cond.classLink RX1 21 RX3, Cond.fieldLink RX1 23 "EndVersions$State" "versions" "[LEndVersions$Version;", Cond.fieldLink RX1 27 "EndVersions$State" "childMarks" "[I"]
def wsX4_init : List Cond := .code yX4_init cX4_init 1 none :: ((wsX4_init_r1 ++ (wsX4_init_r2 ++ wsX4_init_r3)) ++ wsX00 ++ wsX40 ++ wsX20 ++ wsX10 ++ wsX30)
def wsX4_isRate : List Cond := .code yX4_isRate cX4_isRate 1 (some .boolean) :: ([])
def wsX4_isRatio : List Cond := .code yX4_isRatio cX4_isRatio 1 (some .boolean) :: ([])
def wsX4_isSettingValue : List Cond := .code yX4_isSettingValue cX4_isSettingValue 2 (some .boolean) :: ([.methodLink RX4 205 yX4_isRate, .static yX4_isRate, .initialized RX4, .code yX4_isRate cX4_isRate 1 (some .boolean), .methodLink RX4 212 yX4_isRatio, .static yX4_isRatio, .code yX4_isRatio cX4_isRatio 1 (some .boolean)])
def wsX4_moveOldestSavedToEnd : List Cond := .code yX4_moveOldestSavedToEnd cX4_moveOldestSavedToEnd 3 none :: ([.fieldLink RX4 25 "EndVersions" "saved" "[LEndVersions$State;"] ++ wsX40)
def wsX4_save_r1 : List Cond := [Cond.fieldLink RX4 34 "EndVersions" "savedStates" "I", Cond.fieldLink RX4 25 "EndVersions" "saved" "[LEndVersions$State;", Cond.classLink RX4 23 RX1, Cond.instantiable RX1 5, Cond.initialized RX1, Cond.fieldLink RX4 30 "EndVersions" "now" "LEndVersions$State;", Cond.methodLink RX4 217 yX4_moveOldestSavedToEnd, Cond.instanceMethod yX4_moveOldestSavedToEnd, Cond.selects RX4 yX4_moveOldestSavedToEnd yX4_moveOldestSavedToEnd, Cond.initialized RX4, Cond.code yX4_moveOldestSavedToEnd cX4_moveOldestSavedToEnd 3 none, Cond.methodLink RX4 29 yX1_init, Cond.instanceMethod yX1_init, Cond.code yX1_init cX1_init 1 none, Cond.methodLink RX1 3 objectInit, Cond.instanceMethod objectInit, Cond.code objectInit ⟨#[0xb1]⟩ 1 none, Cond.fieldLink RX1 9 "EndVersions$State" "held" "I", Cond.fieldLink RX1 15 "EndVersions$State" "rate" "I", Cond.fieldLink RX1 18 "EndVersions$State" "ratio" "I", Cond.classLink RX1 21 RX3, Cond.fieldLink RX1 23 "EndVersions$State" "versions" "[LEndVersions$Version;", Cond.arrayClass .int, Cond.fieldLink RX1 27 "EndVersions$State" "childMarks" "[I"]
def wsX4_save_r2 : List Cond := [Cond.methodLink RX4 220 yX1_copyFrom, Cond.instanceMethod yX1_copyFrom, Cond.selects RX1 yX1_copyFrom yX1_copyFrom, Cond.code yX1_copyFrom cX1_copyFrom 3 none, Cond.methodLink RX1 31 yX1_slot, Cond.instanceMethod yX1_slot, Cond.selects RX1 yX1_slot yX1_slot, Cond.code yX1_slot cX1_slot 3 (some (.object "EndVersions$Version")), Cond.instantiable RX3 11, Cond.initialized RX3, Cond.methodLink RX1 47 yX3_init, Cond.instanceMethod yX3_init, Cond.code yX3_init cX3_init 1 none, Cond.methodLink RX3 3 objectInit, Cond.fieldLink RX3 9 "EndVersions$Version" "parent" "I", Cond.fieldLink RX3 15 "EndVersions$Version" "kind" "I", Cond.fieldLink RX3 18 "EndVersions$Version" "moved" "I", Cond.fieldLink RX3 21 "EndVersions$Version" "depth" "I", Cond.fieldLink RX3 24 "EndVersions$Version" "front" "I", Cond.fieldLink RX3 27 "EndVersions$Version" "back" "I", Cond.fieldLink RX3 30 "EndVersions$Version" "debt" "I", Cond.fieldLink RX3 33 "EndVersions$Version" "goal" "I", Cond.fieldLink RX3 36 "EndVersions$Version" "cost" "I", Cond.fieldLink RX3 39 "EndVersions$Version" "extra" "I"]
def wsX4_save_r3 : List Cond := [Cond.fieldLink RX3 42 "EndVersions$Version" "row" "[I", Cond.methodLink RX1 35 yX3_copyFrom, Cond.instanceMethod yX3_copyFrom, Cond.selects RX3 yX3_copyFrom yX3_copyFrom, Cond.code yX3_copyFrom cX3_copyFrom 3 none, Cond.methodLink RX3 50 arraycopyName, Cond.native arraycopyName, Cond.static arraycopyName, Cond.initialized "java/lang/System", Cond.methodLink RX3 46 yX3_size, Cond.instanceMethod yX3_size, Cond.selects RX3 yX3_size yX3_size, Cond.code yX3_size cX3_size 1 (some .int)]
def wsX4_save : List Cond := .code yX4_save cX4_save 2 none :: ((wsX4_save_r1 ++ (wsX4_save_r2 ++ wsX4_save_r3)) ++ wsX40 ++ wsX10 ++ wsX30)
def wsX4_set_r1 : List Cond := [Cond.classLink RX4 42 "java/lang/IllegalArgumentException", Cond.initialized "java/lang/IllegalArgumentException", Cond.fieldLink RX4 30 "EndVersions" "now" "LEndVersions$State;", Cond.methodLink RX4 38 yX4_isSettingValue, Cond.static yX4_isSettingValue, Cond.initialized RX4, Cond.code yX4_isSettingValue cX4_isSettingValue 2 (some .boolean), Cond.methodLink RX4 205 yX4_isRate, Cond.static yX4_isRate, Cond.code yX4_isRate cX4_isRate 1 (some .boolean), Cond.methodLink RX4 212 yX4_isRatio, Cond.static yX4_isRatio, Cond.code yX4_isRatio cX4_isRatio 1 (some .boolean), Cond.methodLink RX4 49 yX4_save, Cond.instanceMethod yX4_save, Cond.selects RX4 yX4_save yX4_save, Cond.code yX4_save cX4_save 2 none, Cond.fieldLink RX4 34 "EndVersions" "savedStates" "I", Cond.fieldLink RX4 25 "EndVersions" "saved" "[LEndVersions$State;", Cond.classLink RX4 23 RX1, Cond.instantiable RX1 5, Cond.initialized RX1, Cond.methodLink RX4 217 yX4_moveOldestSavedToEnd, Cond.instanceMethod yX4_moveOldestSavedToEnd]
def wsX4_set_r2 : List Cond := [Cond.selects RX4 yX4_moveOldestSavedToEnd yX4_moveOldestSavedToEnd, Cond.code yX4_moveOldestSavedToEnd cX4_moveOldestSavedToEnd 3 none, Cond.methodLink RX4 29 yX1_init, Cond.instanceMethod yX1_init, Cond.code yX1_init cX1_init 1 none, Cond.methodLink RX1 3 objectInit, Cond.instanceMethod objectInit, Cond.code objectInit ⟨#[0xb1]⟩ 1 none, Cond.fieldLink RX1 9 "EndVersions$State" "held" "I", Cond.fieldLink RX1 15 "EndVersions$State" "rate" "I", Cond.fieldLink RX1 18 "EndVersions$State" "ratio" "I", Cond.classLink RX1 21 RX3, Cond.fieldLink RX1 23 "EndVersions$State" "versions" "[LEndVersions$Version;", Cond.arrayClass .int, Cond.fieldLink RX1 27 "EndVersions$State" "childMarks" "[I", Cond.methodLink RX4 220 yX1_copyFrom, Cond.instanceMethod yX1_copyFrom, Cond.selects RX1 yX1_copyFrom yX1_copyFrom, Cond.code yX1_copyFrom cX1_copyFrom 3 none, Cond.methodLink RX1 31 yX1_slot, Cond.instanceMethod yX1_slot, Cond.selects RX1 yX1_slot yX1_slot, Cond.code yX1_slot cX1_slot 3 (some (.object "EndVersions$Version")), Cond.instantiable RX3 11]
def wsX4_set_r3 : List Cond := [Cond.initialized RX3, Cond.methodLink RX1 47 yX3_init, Cond.instanceMethod yX3_init, Cond.code yX3_init cX3_init 1 none, Cond.methodLink RX3 3 objectInit, Cond.fieldLink RX3 9 "EndVersions$Version" "parent" "I", Cond.fieldLink RX3 15 "EndVersions$Version" "kind" "I", Cond.fieldLink RX3 18 "EndVersions$Version" "moved" "I", Cond.fieldLink RX3 21 "EndVersions$Version" "depth" "I", Cond.fieldLink RX3 24 "EndVersions$Version" "front" "I", Cond.fieldLink RX3 27 "EndVersions$Version" "back" "I", Cond.fieldLink RX3 30 "EndVersions$Version" "debt" "I", Cond.fieldLink RX3 33 "EndVersions$Version" "goal" "I", Cond.fieldLink RX3 36 "EndVersions$Version" "cost" "I", Cond.fieldLink RX3 39 "EndVersions$Version" "extra" "I", Cond.fieldLink RX3 42 "EndVersions$Version" "row" "[I", Cond.methodLink RX1 35 yX3_copyFrom, Cond.instanceMethod yX3_copyFrom, Cond.selects RX3 yX3_copyFrom yX3_copyFrom, Cond.code yX3_copyFrom cX3_copyFrom 3 none, Cond.methodLink RX3 50 arraycopyName, Cond.native arraycopyName, Cond.static arraycopyName, Cond.initialized "java/lang/System"]
def wsX4_set_r4 : List Cond := [Cond.methodLink RX3 46 yX3_size, Cond.instanceMethod yX3_size, Cond.selects RX3 yX3_size yX3_size, Cond.code yX3_size cX3_size 1 (some .int), Cond.methodLink RX4 52 yX1_settingOf, Cond.instanceMethod yX1_settingOf, Cond.selects RX1 yX1_settingOf yX1_settingOf, Cond.code yX1_settingOf cX1_settingOf 2 (some .int), Cond.methodLink RX4 56 yX1_changeSetting, Cond.instanceMethod yX1_changeSetting, Cond.selects RX1 yX1_changeSetting yX1_changeSetting, Cond.code yX1_changeSetting cX1_changeSetting 3 none]
def wsX4_set : List Cond := .code yX4_set cX4_set 4 (some .int) :: ((wsX4_set_r1 ++ (wsX4_set_r2 ++ (wsX4_set_r3 ++ wsX4_set_r4))) ++ wsX40 ++ wsX10 ++ wsX30 ++ (vx_atS RX4 46 "java/lang/IllegalArgumentException" ["java/lang/RuntimeException", "java/lang/Exception"]).filter goodWord)
def wsX4_requireVersion : List Cond := .code yX4_requireVersion cX4_requireVersion 2 none :: ([.classLink RX4 195 "java/lang/IndexOutOfBoundsException", .initialized "java/lang/IndexOutOfBoundsException", .fieldLink RX4 30 "EndVersions" "now" "LEndVersions$State;", .methodLink RX4 191 yX1_has, .instanceMethod yX1_has, .selects RX1 yX1_has yX1_has, .initialized RX1, .code yX1_has cX1_has 2 (some .boolean), .fieldLink RX1 9 "EndVersions$State" "held" "I"] ++ wsX40 ++ wsX10 ++ (vx_atS RX4 199 "java/lang/IndexOutOfBoundsException" ["java/lang/RuntimeException", "java/lang/Exception"]).filter goodWord)
def wsX4_push_r1 : List Cond := [Cond.classLink RX4 42 "java/lang/IllegalArgumentException", Cond.initialized "java/lang/IllegalArgumentException", Cond.classLink RX4 69 "java/lang/IllegalStateException", Cond.initialized "java/lang/IllegalStateException", Cond.fieldLink RX4 30 "EndVersions" "now" "LEndVersions$State;", Cond.methodLink RX4 60 yX4_requireVersion, Cond.instanceMethod yX4_requireVersion, Cond.selects RX4 yX4_requireVersion yX4_requireVersion, Cond.initialized RX4, Cond.code yX4_requireVersion cX4_requireVersion 2 none, Cond.classLink RX4 195 "java/lang/IndexOutOfBoundsException", Cond.initialized "java/lang/IndexOutOfBoundsException", Cond.methodLink RX4 191 yX1_has, Cond.instanceMethod yX1_has, Cond.selects RX1 yX1_has yX1_has, Cond.initialized RX1, Cond.code yX1_has cX1_has 2 (some .boolean), Cond.fieldLink RX1 9 "EndVersions$State" "held" "I", Cond.methodLink RX4 66 yX1_allows, Cond.instanceMethod yX1_allows, Cond.selects RX1 yX1_allows yX1_allows, Cond.code yX1_allows cX1_allows 3 (some .boolean), Cond.methodLink RX1 48 yX1_left, Cond.instanceMethod yX1_left]
def wsX4_push_r2 : List Cond := [Cond.selects RX1 yX1_left yX1_left, Cond.code yX1_left cX1_left 1 (some .int), Cond.methodLink RX1 31 yX1_slot, Cond.instanceMethod yX1_slot, Cond.selects RX1 yX1_slot yX1_slot, Cond.code yX1_slot cX1_slot 3 (some (.object "EndVersions$Version")), Cond.fieldLink RX1 23 "EndVersions$State" "versions" "[LEndVersions$Version;", Cond.classLink RX1 21 RX3, Cond.instantiable RX3 11, Cond.initialized RX3, Cond.methodLink RX1 47 yX3_init, Cond.instanceMethod yX3_init, Cond.code yX3_init cX3_init 1 none, Cond.methodLink RX3 3 objectInit, Cond.instanceMethod objectInit, Cond.code objectInit ⟨#[0xb1]⟩ 1 none, Cond.fieldLink RX3 9 "EndVersions$Version" "parent" "I", Cond.fieldLink RX3 15 "EndVersions$Version" "kind" "I", Cond.fieldLink RX3 18 "EndVersions$Version" "moved" "I", Cond.fieldLink RX3 21 "EndVersions$Version" "depth" "I", Cond.fieldLink RX3 24 "EndVersions$Version" "front" "I", Cond.fieldLink RX3 27 "EndVersions$Version" "back" "I", Cond.fieldLink RX3 30 "EndVersions$Version" "debt" "I", Cond.fieldLink RX3 33 "EndVersions$Version" "goal" "I"]
def wsX4_push_r3 : List Cond := [Cond.fieldLink RX3 36 "EndVersions$Version" "cost" "I", Cond.fieldLink RX3 39 "EndVersions$Version" "extra" "I", Cond.arrayClass .int, Cond.fieldLink RX3 42 "EndVersions$Version" "row" "[I", Cond.methodLink RX1 51 yX3_permits, Cond.instanceMethod yX3_permits, Cond.selects RX3 yX3_permits yX3_permits, Cond.code yX3_permits cX3_permits 2 (some .boolean), Cond.static yX4_isPush, Cond.code yX4_isPush cX4_isPush 1 (some .boolean), Cond.methodLink RX3 46 yX3_size, Cond.instanceMethod yX3_size, Cond.selects RX3 yX3_size yX3_size, Cond.code yX3_size cX3_size 1 (some .int), Cond.methodLink RX4 49 yX4_save, Cond.instanceMethod yX4_save, Cond.selects RX4 yX4_save yX4_save, Cond.code yX4_save cX4_save 2 none, Cond.fieldLink RX4 34 "EndVersions" "savedStates" "I", Cond.fieldLink RX4 25 "EndVersions" "saved" "[LEndVersions$State;", Cond.classLink RX4 23 RX1, Cond.instantiable RX1 5, Cond.methodLink RX4 217 yX4_moveOldestSavedToEnd, Cond.instanceMethod yX4_moveOldestSavedToEnd]
def wsX4_push_r4 : List Cond := [Cond.selects RX4 yX4_moveOldestSavedToEnd yX4_moveOldestSavedToEnd, Cond.code yX4_moveOldestSavedToEnd cX4_moveOldestSavedToEnd 3 none, Cond.methodLink RX4 29 yX1_init, Cond.instanceMethod yX1_init, Cond.code yX1_init cX1_init 1 none, Cond.methodLink RX1 3 objectInit, Cond.fieldLink RX1 15 "EndVersions$State" "rate" "I", Cond.fieldLink RX1 18 "EndVersions$State" "ratio" "I", Cond.fieldLink RX1 27 "EndVersions$State" "childMarks" "[I", Cond.methodLink RX4 220 yX1_copyFrom, Cond.instanceMethod yX1_copyFrom, Cond.selects RX1 yX1_copyFrom yX1_copyFrom, Cond.code yX1_copyFrom cX1_copyFrom 3 none, Cond.methodLink RX1 35 yX3_copyFrom, Cond.instanceMethod yX3_copyFrom, Cond.selects RX3 yX3_copyFrom yX3_copyFrom, Cond.code yX3_copyFrom cX3_copyFrom 3 none, Cond.methodLink RX3 50 arraycopyName, Cond.native arraycopyName, Cond.static arraycopyName, Cond.initialized "java/lang/System", Cond.methodLink RX4 74 yX1_grow, Cond.instanceMethod yX1_grow, Cond.selects RX1 yX1_grow yX1_grow]
def wsX4_push_r5 : List Cond := [Cond.code yX1_grow cX1_grow 6 (some .int), Cond.fieldLink RX1 54 "EndVersions$Version" "parent" "I", Cond.methodLink RX1 57 yX3_perform, Cond.instanceMethod yX3_perform, Cond.selects RX3 yX3_perform yX3_perform, Cond.code yX3_perform cX3_perform 6 none, Cond.static yX4_isAtFront, Cond.code yX4_isAtFront cX4_isAtFront 1 (some .boolean), Cond.methodLink RX3 71 yX3_put, Cond.instanceMethod yX3_put, Cond.selects RX3 yX3_put yX3_put, Cond.code yX3_put cX3_put 5 none, Cond.methodLink RX3 60 yX3_look, Cond.instanceMethod yX3_look, Cond.selects RX3 yX3_look yX3_look, Cond.code yX3_look cX3_look 2 (some .int), Cond.static yX4_cell, Cond.code yX4_cell cX4_cell 2 (some .int), Cond.static yX4_fill, Cond.code yX4_fill cX4_fill 3 none, Cond.methodLink RX3 100 yX3_moveGoal, Cond.instanceMethod yX3_moveGoal, Cond.selects RX3 yX3_moveGoal yX3_moveGoal, Cond.code yX3_moveGoal cX3_moveGoal 2 none]
def wsX4_push_r6 : List Cond := [Cond.methodLink RX3 103 Lib.Math.max.name, Cond.static Lib.Math.max.name, Cond.initialized "java/lang/Math", Cond.code Lib.Math.max.name Lib.Math.max.code 2 (some .int), Cond.methodLink RX3 109 Lib.Math.min.name, Cond.static Lib.Math.min.name, Cond.code Lib.Math.min.name Lib.Math.min.code 2 (some .int), Cond.methodLink RX3 89 yX3_isRebuilding, Cond.instanceMethod yX3_isRebuilding, Cond.selects RX3 yX3_isRebuilding yX3_isRebuilding, Cond.code yX3_isRebuilding cX3_isRebuilding 1 (some .boolean), Cond.methodLink RX3 75 yX3_fetchFromOtherPart, Cond.instanceMethod yX3_fetchFromOtherPart, Cond.selects RX3 yX3_fetchFromOtherPart yX3_fetchFromOtherPart, Cond.code yX3_fetchFromOtherPart cX3_fetchFromOtherPart 2 none, Cond.methodLink RX3 93 yX3_endRebuild, Cond.instanceMethod yX3_endRebuild, Cond.selects RX3 yX3_endRebuild yX3_endRebuild, Cond.code yX3_endRebuild cX3_endRebuild 2 none, Cond.methodLink RX3 79 yX3_take, Cond.instanceMethod yX3_take, Cond.selects RX3 yX3_take yX3_take, Cond.code yX3_take cX3_take 4 none, Cond.methodLink RX3 82 yX3_pay]
def wsX4_push_r7 : List Cond := [Cond.instanceMethod yX3_pay, Cond.selects RX3 yX3_pay yX3_pay, Cond.code yX3_pay cX3_pay 3 none, Cond.methodLink RX3 86 yX3_beginRebuild, Cond.instanceMethod yX3_beginRebuild, Cond.selects RX3 yX3_beginRebuild yX3_beginRebuild, Cond.code yX3_beginRebuild cX3_beginRebuild 2 none]
def wsX4_push : List Cond := .code yX4_push cX4_push 5 (some .int) :: ((wsX4_push_r1 ++ (wsX4_push_r2 ++ (wsX4_push_r3 ++ (wsX4_push_r4 ++ (wsX4_push_r5 ++ (wsX4_push_r6 ++ wsX4_push_r7)))))) ++ wsX40 ++ wsX10 ++ wsX30 ++ (vx_atS RX4 46 "java/lang/IllegalArgumentException" ["java/lang/RuntimeException", "java/lang/Exception"]).filter goodWord ++ (vx_atS RX4 73 "java/lang/IllegalStateException" ["java/lang/RuntimeException", "java/lang/Exception"]).filter goodWord ++ (vx_atS RX4 199 "java/lang/IndexOutOfBoundsException" ["java/lang/RuntimeException", "java/lang/Exception"]).filter goodWord)
def wsX4_pop_r1 : List Cond := [Cond.classLink RX4 88 "java/util/NoSuchElementException", Cond.initialized "java/util/NoSuchElementException", Cond.classLink RX4 69 "java/lang/IllegalStateException", Cond.initialized "java/lang/IllegalStateException", Cond.fieldLink RX4 30 "EndVersions" "now" "LEndVersions$State;", Cond.methodLink RX4 60 yX4_requireVersion, Cond.instanceMethod yX4_requireVersion, Cond.selects RX4 yX4_requireVersion yX4_requireVersion, Cond.initialized RX4, Cond.code yX4_requireVersion cX4_requireVersion 2 none, Cond.classLink RX4 195 "java/lang/IndexOutOfBoundsException", Cond.initialized "java/lang/IndexOutOfBoundsException", Cond.methodLink RX4 191 yX1_has, Cond.instanceMethod yX1_has, Cond.selects RX1 yX1_has yX1_has, Cond.initialized RX1, Cond.code yX1_has cX1_has 2 (some .boolean), Cond.fieldLink RX1 9 "EndVersions$State" "held" "I", Cond.methodLink RX4 78 yX1_slot, Cond.instanceMethod yX1_slot, Cond.selects RX1 yX1_slot yX1_slot, Cond.code yX1_slot cX1_slot 3 (some (.object "EndVersions$Version")), Cond.fieldLink RX1 23 "EndVersions$State" "versions" "[LEndVersions$Version;", Cond.classLink RX1 21 RX3]
def wsX4_pop_r2 : List Cond := [Cond.instantiable RX3 11, Cond.initialized RX3, Cond.methodLink RX1 47 yX3_init, Cond.instanceMethod yX3_init, Cond.code yX3_init cX3_init 1 none, Cond.methodLink RX3 3 objectInit, Cond.instanceMethod objectInit, Cond.code objectInit ⟨#[0xb1]⟩ 1 none, Cond.fieldLink RX3 9 "EndVersions$Version" "parent" "I", Cond.fieldLink RX3 15 "EndVersions$Version" "kind" "I", Cond.fieldLink RX3 18 "EndVersions$Version" "moved" "I", Cond.fieldLink RX3 21 "EndVersions$Version" "depth" "I", Cond.fieldLink RX3 24 "EndVersions$Version" "front" "I", Cond.fieldLink RX3 27 "EndVersions$Version" "back" "I", Cond.fieldLink RX3 30 "EndVersions$Version" "debt" "I", Cond.fieldLink RX3 33 "EndVersions$Version" "goal" "I", Cond.fieldLink RX3 36 "EndVersions$Version" "cost" "I", Cond.fieldLink RX3 39 "EndVersions$Version" "extra" "I", Cond.arrayClass .int, Cond.fieldLink RX3 42 "EndVersions$Version" "row" "[I", Cond.methodLink RX4 82 yX3_size, Cond.instanceMethod yX3_size, Cond.selects RX3 yX3_size yX3_size, Cond.code yX3_size cX3_size 1 (some .int)]
def wsX4_pop_r3 : List Cond := [Cond.methodLink RX4 66 yX1_allows, Cond.instanceMethod yX1_allows, Cond.selects RX1 yX1_allows yX1_allows, Cond.code yX1_allows cX1_allows 3 (some .boolean), Cond.methodLink RX1 48 yX1_left, Cond.instanceMethod yX1_left, Cond.selects RX1 yX1_left yX1_left, Cond.code yX1_left cX1_left 1 (some .int), Cond.methodLink RX1 31 yX1_slot, Cond.methodLink RX1 51 yX3_permits, Cond.instanceMethod yX3_permits, Cond.selects RX3 yX3_permits yX3_permits, Cond.code yX3_permits cX3_permits 2 (some .boolean), Cond.static yX4_isPush, Cond.code yX4_isPush cX4_isPush 1 (some .boolean), Cond.methodLink RX3 46 yX3_size, Cond.methodLink RX4 49 yX4_save, Cond.instanceMethod yX4_save, Cond.selects RX4 yX4_save yX4_save, Cond.code yX4_save cX4_save 2 none, Cond.fieldLink RX4 34 "EndVersions" "savedStates" "I", Cond.fieldLink RX4 25 "EndVersions" "saved" "[LEndVersions$State;", Cond.classLink RX4 23 RX1, Cond.instantiable RX1 5]
def wsX4_pop_r4 : List Cond := [Cond.methodLink RX4 217 yX4_moveOldestSavedToEnd, Cond.instanceMethod yX4_moveOldestSavedToEnd, Cond.selects RX4 yX4_moveOldestSavedToEnd yX4_moveOldestSavedToEnd, Cond.code yX4_moveOldestSavedToEnd cX4_moveOldestSavedToEnd 3 none, Cond.methodLink RX4 29 yX1_init, Cond.instanceMethod yX1_init, Cond.code yX1_init cX1_init 1 none, Cond.methodLink RX1 3 objectInit, Cond.fieldLink RX1 15 "EndVersions$State" "rate" "I", Cond.fieldLink RX1 18 "EndVersions$State" "ratio" "I", Cond.fieldLink RX1 27 "EndVersions$State" "childMarks" "[I", Cond.methodLink RX4 220 yX1_copyFrom, Cond.instanceMethod yX1_copyFrom, Cond.selects RX1 yX1_copyFrom yX1_copyFrom, Cond.code yX1_copyFrom cX1_copyFrom 3 none, Cond.methodLink RX1 35 yX3_copyFrom, Cond.instanceMethod yX3_copyFrom, Cond.selects RX3 yX3_copyFrom yX3_copyFrom, Cond.code yX3_copyFrom cX3_copyFrom 3 none, Cond.methodLink RX3 50 arraycopyName, Cond.native arraycopyName, Cond.static arraycopyName, Cond.initialized "java/lang/System", Cond.methodLink RX4 74 yX1_grow]
def wsX4_pop_r5 : List Cond := [Cond.instanceMethod yX1_grow, Cond.selects RX1 yX1_grow yX1_grow, Cond.code yX1_grow cX1_grow 6 (some .int), Cond.fieldLink RX1 54 "EndVersions$Version" "parent" "I", Cond.methodLink RX1 57 yX3_perform, Cond.instanceMethod yX3_perform, Cond.selects RX3 yX3_perform yX3_perform, Cond.code yX3_perform cX3_perform 6 none, Cond.static yX4_isAtFront, Cond.code yX4_isAtFront cX4_isAtFront 1 (some .boolean), Cond.methodLink RX3 71 yX3_put, Cond.instanceMethod yX3_put, Cond.selects RX3 yX3_put yX3_put, Cond.code yX3_put cX3_put 5 none, Cond.methodLink RX3 60 yX3_look, Cond.instanceMethod yX3_look, Cond.selects RX3 yX3_look yX3_look, Cond.code yX3_look cX3_look 2 (some .int), Cond.static yX4_cell, Cond.code yX4_cell cX4_cell 2 (some .int), Cond.static yX4_fill, Cond.code yX4_fill cX4_fill 3 none, Cond.methodLink RX3 100 yX3_moveGoal, Cond.instanceMethod yX3_moveGoal]
def wsX4_pop_r6 : List Cond := [Cond.selects RX3 yX3_moveGoal yX3_moveGoal, Cond.code yX3_moveGoal cX3_moveGoal 2 none, Cond.methodLink RX3 103 Lib.Math.max.name, Cond.static Lib.Math.max.name, Cond.initialized "java/lang/Math", Cond.code Lib.Math.max.name Lib.Math.max.code 2 (some .int), Cond.methodLink RX3 109 Lib.Math.min.name, Cond.static Lib.Math.min.name, Cond.code Lib.Math.min.name Lib.Math.min.code 2 (some .int), Cond.methodLink RX3 89 yX3_isRebuilding, Cond.instanceMethod yX3_isRebuilding, Cond.selects RX3 yX3_isRebuilding yX3_isRebuilding, Cond.code yX3_isRebuilding cX3_isRebuilding 1 (some .boolean), Cond.methodLink RX3 75 yX3_fetchFromOtherPart, Cond.instanceMethod yX3_fetchFromOtherPart, Cond.selects RX3 yX3_fetchFromOtherPart yX3_fetchFromOtherPart, Cond.code yX3_fetchFromOtherPart cX3_fetchFromOtherPart 2 none, Cond.methodLink RX3 93 yX3_endRebuild, Cond.instanceMethod yX3_endRebuild, Cond.selects RX3 yX3_endRebuild yX3_endRebuild, Cond.code yX3_endRebuild cX3_endRebuild 2 none, Cond.methodLink RX3 79 yX3_take, Cond.instanceMethod yX3_take, Cond.selects RX3 yX3_take yX3_take]
def wsX4_pop_r7 : List Cond := [Cond.code yX3_take cX3_take 4 none, Cond.methodLink RX3 82 yX3_pay, Cond.instanceMethod yX3_pay, Cond.selects RX3 yX3_pay yX3_pay, Cond.code yX3_pay cX3_pay 3 none, Cond.methodLink RX3 86 yX3_beginRebuild, Cond.instanceMethod yX3_beginRebuild, Cond.selects RX3 yX3_beginRebuild yX3_beginRebuild, Cond.code yX3_beginRebuild cX3_beginRebuild 2 none]
def wsX4_pop : List Cond := .code yX4_pop cX4_pop 4 (some .int) :: ((wsX4_pop_r1 ++ (wsX4_pop_r2 ++ (wsX4_pop_r3 ++ (wsX4_pop_r4 ++ (wsX4_pop_r5 ++ (wsX4_pop_r6 ++ wsX4_pop_r7)))))) ++ wsX40 ++ wsX10 ++ wsX30 ++ (vx_atS RX4 92 "java/util/NoSuchElementException" ["java/lang/RuntimeException", "java/lang/Exception"]).filter goodWord ++ (vx_atS RX4 73 "java/lang/IllegalStateException" ["java/lang/RuntimeException", "java/lang/Exception"]).filter goodWord ++ (vx_atS RX4 199 "java/lang/IndexOutOfBoundsException" ["java/lang/RuntimeException", "java/lang/Exception"]).filter goodWord)
def wsX4_drop_r1 : List Cond := [Cond.classLink RX4 69 "java/lang/IllegalStateException", Cond.initialized "java/lang/IllegalStateException", Cond.fieldLink RX4 30 "EndVersions" "now" "LEndVersions$State;", Cond.fieldLink RX4 95 "EndVersions$State" "held" "I", Cond.methodLink RX4 49 yX4_save, Cond.instanceMethod yX4_save, Cond.selects RX4 yX4_save yX4_save, Cond.initialized RX4, Cond.code yX4_save cX4_save 2 none, Cond.fieldLink RX4 34 "EndVersions" "savedStates" "I", Cond.fieldLink RX4 25 "EndVersions" "saved" "[LEndVersions$State;", Cond.classLink RX4 23 RX1, Cond.instantiable RX1 5, Cond.initialized RX1, Cond.methodLink RX4 217 yX4_moveOldestSavedToEnd, Cond.instanceMethod yX4_moveOldestSavedToEnd, Cond.selects RX4 yX4_moveOldestSavedToEnd yX4_moveOldestSavedToEnd, Cond.code yX4_moveOldestSavedToEnd cX4_moveOldestSavedToEnd 3 none, Cond.methodLink RX4 29 yX1_init, Cond.instanceMethod yX1_init, Cond.code yX1_init cX1_init 1 none, Cond.methodLink RX1 3 objectInit, Cond.instanceMethod objectInit, Cond.code objectInit ⟨#[0xb1]⟩ 1 none]
def wsX4_drop_r2 : List Cond := [Cond.fieldLink RX1 9 "EndVersions$State" "held" "I", Cond.fieldLink RX1 15 "EndVersions$State" "rate" "I", Cond.fieldLink RX1 18 "EndVersions$State" "ratio" "I", Cond.classLink RX1 21 RX3, Cond.fieldLink RX1 23 "EndVersions$State" "versions" "[LEndVersions$Version;", Cond.arrayClass .int, Cond.fieldLink RX1 27 "EndVersions$State" "childMarks" "[I", Cond.methodLink RX4 220 yX1_copyFrom, Cond.instanceMethod yX1_copyFrom, Cond.selects RX1 yX1_copyFrom yX1_copyFrom, Cond.code yX1_copyFrom cX1_copyFrom 3 none, Cond.methodLink RX1 31 yX1_slot, Cond.instanceMethod yX1_slot, Cond.selects RX1 yX1_slot yX1_slot, Cond.code yX1_slot cX1_slot 3 (some (.object "EndVersions$Version")), Cond.instantiable RX3 11, Cond.initialized RX3, Cond.methodLink RX1 47 yX3_init, Cond.instanceMethod yX3_init, Cond.code yX3_init cX3_init 1 none, Cond.methodLink RX3 3 objectInit, Cond.fieldLink RX3 9 "EndVersions$Version" "parent" "I", Cond.fieldLink RX3 15 "EndVersions$Version" "kind" "I", Cond.fieldLink RX3 18 "EndVersions$Version" "moved" "I"]
def wsX4_drop_r3 : List Cond := [Cond.fieldLink RX3 21 "EndVersions$Version" "depth" "I", Cond.fieldLink RX3 24 "EndVersions$Version" "front" "I", Cond.fieldLink RX3 27 "EndVersions$Version" "back" "I", Cond.fieldLink RX3 30 "EndVersions$Version" "debt" "I", Cond.fieldLink RX3 33 "EndVersions$Version" "goal" "I", Cond.fieldLink RX3 36 "EndVersions$Version" "cost" "I", Cond.fieldLink RX3 39 "EndVersions$Version" "extra" "I", Cond.fieldLink RX3 42 "EndVersions$Version" "row" "[I", Cond.methodLink RX1 35 yX3_copyFrom, Cond.instanceMethod yX3_copyFrom, Cond.selects RX3 yX3_copyFrom yX3_copyFrom, Cond.code yX3_copyFrom cX3_copyFrom 3 none, Cond.methodLink RX3 50 arraycopyName, Cond.native arraycopyName, Cond.static arraycopyName, Cond.initialized "java/lang/System", Cond.methodLink RX3 46 yX3_size, Cond.instanceMethod yX3_size, Cond.selects RX3 yX3_size yX3_size, Cond.code yX3_size cX3_size 1 (some .int)]
def wsX4_drop : List Cond := .code yX4_drop cX4_drop 1 (some .int) :: ((wsX4_drop_r1 ++ (wsX4_drop_r2 ++ wsX4_drop_r3)) ++ wsX40 ++ wsX10 ++ wsX30 ++ (vx_atS RX4 73 "java/lang/IllegalStateException" ["java/lang/RuntimeException", "java/lang/Exception"]).filter goodWord)
def wsX4_clear_r1 : List Cond := [Cond.fieldLink RX4 30 "EndVersions" "now" "LEndVersions$State;", Cond.fieldLink RX4 95 "EndVersions$State" "held" "I", Cond.methodLink RX4 49 yX4_save, Cond.instanceMethod yX4_save, Cond.selects RX4 yX4_save yX4_save, Cond.initialized RX4, Cond.code yX4_save cX4_save 2 none, Cond.fieldLink RX4 34 "EndVersions" "savedStates" "I", Cond.fieldLink RX4 25 "EndVersions" "saved" "[LEndVersions$State;", Cond.classLink RX4 23 RX1, Cond.instantiable RX1 5, Cond.initialized RX1, Cond.methodLink RX4 217 yX4_moveOldestSavedToEnd, Cond.instanceMethod yX4_moveOldestSavedToEnd, Cond.selects RX4 yX4_moveOldestSavedToEnd yX4_moveOldestSavedToEnd, Cond.code yX4_moveOldestSavedToEnd cX4_moveOldestSavedToEnd 3 none, Cond.methodLink RX4 29 yX1_init, Cond.instanceMethod yX1_init, Cond.code yX1_init cX1_init 1 none, Cond.methodLink RX1 3 objectInit, Cond.instanceMethod objectInit, Cond.code objectInit ⟨#[0xb1]⟩ 1 none, Cond.fieldLink RX1 9 "EndVersions$State" "held" "I", Cond.fieldLink RX1 15 "EndVersions$State" "rate" "I"]
def wsX4_clear_r2 : List Cond := [Cond.fieldLink RX1 18 "EndVersions$State" "ratio" "I", Cond.classLink RX1 21 RX3, Cond.fieldLink RX1 23 "EndVersions$State" "versions" "[LEndVersions$Version;", Cond.arrayClass .int, Cond.fieldLink RX1 27 "EndVersions$State" "childMarks" "[I", Cond.methodLink RX4 220 yX1_copyFrom, Cond.instanceMethod yX1_copyFrom, Cond.selects RX1 yX1_copyFrom yX1_copyFrom, Cond.code yX1_copyFrom cX1_copyFrom 3 none, Cond.methodLink RX1 31 yX1_slot, Cond.instanceMethod yX1_slot, Cond.selects RX1 yX1_slot yX1_slot, Cond.code yX1_slot cX1_slot 3 (some (.object "EndVersions$Version")), Cond.instantiable RX3 11, Cond.initialized RX3, Cond.methodLink RX1 47 yX3_init, Cond.instanceMethod yX3_init, Cond.code yX3_init cX3_init 1 none, Cond.methodLink RX3 3 objectInit, Cond.fieldLink RX3 9 "EndVersions$Version" "parent" "I", Cond.fieldLink RX3 15 "EndVersions$Version" "kind" "I", Cond.fieldLink RX3 18 "EndVersions$Version" "moved" "I", Cond.fieldLink RX3 21 "EndVersions$Version" "depth" "I", Cond.fieldLink RX3 24 "EndVersions$Version" "front" "I"]
def wsX4_clear_r3 : List Cond := [Cond.fieldLink RX3 27 "EndVersions$Version" "back" "I", Cond.fieldLink RX3 30 "EndVersions$Version" "debt" "I", Cond.fieldLink RX3 33 "EndVersions$Version" "goal" "I", Cond.fieldLink RX3 36 "EndVersions$Version" "cost" "I", Cond.fieldLink RX3 39 "EndVersions$Version" "extra" "I", Cond.fieldLink RX3 42 "EndVersions$Version" "row" "[I", Cond.methodLink RX1 35 yX3_copyFrom, Cond.instanceMethod yX3_copyFrom, Cond.selects RX3 yX3_copyFrom yX3_copyFrom, Cond.code yX3_copyFrom cX3_copyFrom 3 none, Cond.methodLink RX3 50 arraycopyName, Cond.native arraycopyName, Cond.static arraycopyName, Cond.initialized "java/lang/System", Cond.methodLink RX3 46 yX3_size, Cond.instanceMethod yX3_size, Cond.selects RX3 yX3_size yX3_size, Cond.code yX3_size cX3_size 1 (some .int)]
def wsX4_clear : List Cond := .code yX4_clear cX4_clear 2 (some .int) :: ((wsX4_clear_r1 ++ (wsX4_clear_r2 ++ wsX4_clear_r3)) ++ wsX40 ++ wsX10 ++ wsX30)
def wsX4_version_r1 : List Cond := [Cond.classLink RX4 42 "java/lang/IllegalArgumentException", Cond.initialized "java/lang/IllegalArgumentException", Cond.fieldLink RX4 30 "EndVersions" "now" "LEndVersions$State;", Cond.methodLink RX4 60 yX4_requireVersion, Cond.instanceMethod yX4_requireVersion, Cond.selects RX4 yX4_requireVersion yX4_requireVersion, Cond.initialized RX4, Cond.code yX4_requireVersion cX4_requireVersion 2 none, Cond.classLink RX4 195 "java/lang/IndexOutOfBoundsException", Cond.initialized "java/lang/IndexOutOfBoundsException", Cond.methodLink RX4 191 yX1_has, Cond.instanceMethod yX1_has, Cond.selects RX1 yX1_has yX1_has, Cond.initialized RX1, Cond.code yX1_has cX1_has 2 (some .boolean), Cond.fieldLink RX1 9 "EndVersions$State" "held" "I", Cond.methodLink RX4 78 yX1_slot, Cond.instanceMethod yX1_slot, Cond.selects RX1 yX1_slot yX1_slot, Cond.code yX1_slot cX1_slot 3 (some (.object "EndVersions$Version")), Cond.fieldLink RX1 23 "EndVersions$State" "versions" "[LEndVersions$Version;", Cond.classLink RX1 21 RX3, Cond.instantiable RX3 11, Cond.initialized RX3]
def wsX4_version_r2 : List Cond := [Cond.methodLink RX1 47 yX3_init, Cond.instanceMethod yX3_init, Cond.code yX3_init cX3_init 1 none, Cond.methodLink RX3 3 objectInit, Cond.instanceMethod objectInit, Cond.code objectInit ⟨#[0xb1]⟩ 1 none, Cond.fieldLink RX3 9 "EndVersions$Version" "parent" "I", Cond.fieldLink RX3 15 "EndVersions$Version" "kind" "I", Cond.fieldLink RX3 18 "EndVersions$Version" "moved" "I", Cond.fieldLink RX3 21 "EndVersions$Version" "depth" "I", Cond.fieldLink RX3 24 "EndVersions$Version" "front" "I", Cond.fieldLink RX3 27 "EndVersions$Version" "back" "I", Cond.fieldLink RX3 30 "EndVersions$Version" "debt" "I", Cond.fieldLink RX3 33 "EndVersions$Version" "goal" "I", Cond.fieldLink RX3 36 "EndVersions$Version" "cost" "I", Cond.fieldLink RX3 39 "EndVersions$Version" "extra" "I", Cond.arrayClass .int, Cond.fieldLink RX3 42 "EndVersions$Version" "row" "[I", Cond.methodLink RX4 102 yX3_fact, Cond.instanceMethod yX3_fact, Cond.selects RX3 yX3_fact yX3_fact, Cond.code yX3_fact cX3_fact 2 (some .int), Cond.methodLink RX3 46 yX3_size, Cond.instanceMethod yX3_size]
def wsX4_version_r3 : List Cond := [Cond.selects RX3 yX3_size yX3_size, Cond.code yX3_size cX3_size 1 (some .int)]
def wsX4_version : List Cond := .code yX4_version cX4_version 3 (some .int) :: ((wsX4_version_r1 ++ (wsX4_version_r2 ++ wsX4_version_r3)) ++ wsX40 ++ wsX10 ++ wsX30 ++ (vx_atS RX4 46 "java/lang/IllegalArgumentException" ["java/lang/RuntimeException", "java/lang/Exception"]).filter goodWord ++ (vx_atS RX4 199 "java/lang/IndexOutOfBoundsException" ["java/lang/RuntimeException", "java/lang/Exception"]).filter goodWord)
def wsX4_value_r1 : List Cond := [Cond.classLink RX4 69 "java/lang/IllegalStateException", Cond.initialized "java/lang/IllegalStateException", Cond.fieldLink RX4 30 "EndVersions" "now" "LEndVersions$State;", Cond.fieldLink RX4 107 "EndVersions$Version" "moved" "I", Cond.methodLink RX4 60 yX4_requireVersion, Cond.instanceMethod yX4_requireVersion, Cond.selects RX4 yX4_requireVersion yX4_requireVersion, Cond.initialized RX4, Cond.code yX4_requireVersion cX4_requireVersion 2 none, Cond.classLink RX4 195 "java/lang/IndexOutOfBoundsException", Cond.initialized "java/lang/IndexOutOfBoundsException", Cond.methodLink RX4 191 yX1_has, Cond.instanceMethod yX1_has, Cond.selects RX1 yX1_has yX1_has, Cond.initialized RX1, Cond.code yX1_has cX1_has 2 (some .boolean), Cond.fieldLink RX1 9 "EndVersions$State" "held" "I", Cond.methodLink RX4 78 yX1_slot, Cond.instanceMethod yX1_slot, Cond.selects RX1 yX1_slot yX1_slot, Cond.code yX1_slot cX1_slot 3 (some (.object "EndVersions$Version")), Cond.fieldLink RX1 23 "EndVersions$State" "versions" "[LEndVersions$Version;", Cond.classLink RX1 21 RX3, Cond.instantiable RX3 11]
def wsX4_value_r2 : List Cond := [Cond.initialized RX3, Cond.methodLink RX1 47 yX3_init, Cond.instanceMethod yX3_init, Cond.code yX3_init cX3_init 1 none, Cond.methodLink RX3 3 objectInit, Cond.instanceMethod objectInit, Cond.code objectInit ⟨#[0xb1]⟩ 1 none, Cond.fieldLink RX3 9 "EndVersions$Version" "parent" "I", Cond.fieldLink RX3 15 "EndVersions$Version" "kind" "I", Cond.fieldLink RX3 18 "EndVersions$Version" "moved" "I", Cond.fieldLink RX3 21 "EndVersions$Version" "depth" "I", Cond.fieldLink RX3 24 "EndVersions$Version" "front" "I", Cond.fieldLink RX3 27 "EndVersions$Version" "back" "I", Cond.fieldLink RX3 30 "EndVersions$Version" "debt" "I", Cond.fieldLink RX3 33 "EndVersions$Version" "goal" "I", Cond.fieldLink RX3 36 "EndVersions$Version" "cost" "I", Cond.fieldLink RX3 39 "EndVersions$Version" "extra" "I", Cond.arrayClass .int, Cond.fieldLink RX3 42 "EndVersions$Version" "row" "[I"]
def wsX4_value : List Cond := .code yX4_value cX4_value 2 (some .int) :: ((wsX4_value_r1 ++ wsX4_value_r2) ++ wsX40 ++ wsX30 ++ wsX10 ++ (vx_atS RX4 73 "java/lang/IllegalStateException" ["java/lang/RuntimeException", "java/lang/Exception"]).filter goodWord ++ (vx_atS RX4 199 "java/lang/IndexOutOfBoundsException" ["java/lang/RuntimeException", "java/lang/Exception"]).filter goodWord)
def wsX4_requirePlace_r1 : List Cond := [Cond.classLink RX4 195 "java/lang/IndexOutOfBoundsException", Cond.initialized "java/lang/IndexOutOfBoundsException", Cond.fieldLink RX4 30 "EndVersions" "now" "LEndVersions$State;", Cond.methodLink RX4 200 yX1_hasPlace, Cond.instanceMethod yX1_hasPlace, Cond.selects RX1 yX1_hasPlace yX1_hasPlace, Cond.initialized RX1, Cond.code yX1_hasPlace cX1_hasPlace 3 (some .boolean), Cond.methodLink RX1 39 yX1_has, Cond.instanceMethod yX1_has, Cond.selects RX1 yX1_has yX1_has, Cond.code yX1_has cX1_has 2 (some .boolean), Cond.fieldLink RX1 9 "EndVersions$State" "held" "I", Cond.methodLink RX1 31 yX1_slot, Cond.instanceMethod yX1_slot, Cond.selects RX1 yX1_slot yX1_slot, Cond.code yX1_slot cX1_slot 3 (some (.object "EndVersions$Version")), Cond.fieldLink RX1 23 "EndVersions$State" "versions" "[LEndVersions$Version;", Cond.classLink RX1 21 RX3, Cond.instantiable RX3 11, Cond.initialized RX3, Cond.methodLink RX1 47 yX3_init, Cond.instanceMethod yX3_init, Cond.code yX3_init cX3_init 1 none]
def wsX4_requirePlace_r2 : List Cond := [Cond.methodLink RX3 3 objectInit, Cond.instanceMethod objectInit, Cond.code objectInit ⟨#[0xb1]⟩ 1 none, Cond.fieldLink RX3 9 "EndVersions$Version" "parent" "I", Cond.fieldLink RX3 15 "EndVersions$Version" "kind" "I", Cond.fieldLink RX3 18 "EndVersions$Version" "moved" "I", Cond.fieldLink RX3 21 "EndVersions$Version" "depth" "I", Cond.fieldLink RX3 24 "EndVersions$Version" "front" "I", Cond.fieldLink RX3 27 "EndVersions$Version" "back" "I", Cond.fieldLink RX3 30 "EndVersions$Version" "debt" "I", Cond.fieldLink RX3 33 "EndVersions$Version" "goal" "I", Cond.fieldLink RX3 36 "EndVersions$Version" "cost" "I", Cond.fieldLink RX3 39 "EndVersions$Version" "extra" "I", Cond.arrayClass .int, Cond.fieldLink RX3 42 "EndVersions$Version" "row" "[I", Cond.methodLink RX1 43 yX3_size, Cond.instanceMethod yX3_size, Cond.selects RX3 yX3_size yX3_size, Cond.code yX3_size cX3_size 1 (some .int)]
def wsX4_requirePlace : List Cond := .code yX4_requirePlace cX4_requirePlace 3 none :: ((wsX4_requirePlace_r1 ++ wsX4_requirePlace_r2) ++ wsX40 ++ wsX10 ++ wsX30 ++ (vx_atS RX4 199 "java/lang/IndexOutOfBoundsException" ["java/lang/RuntimeException", "java/lang/Exception"]).filter goodWord)
def wsX4_at_r1 : List Cond := [Cond.fieldLink RX4 30 "EndVersions" "now" "LEndVersions$State;", Cond.methodLink RX4 110 yX4_requirePlace, Cond.instanceMethod yX4_requirePlace, Cond.selects RX4 yX4_requirePlace yX4_requirePlace, Cond.initialized RX4, Cond.code yX4_requirePlace cX4_requirePlace 3 none, Cond.classLink RX4 195 "java/lang/IndexOutOfBoundsException", Cond.initialized "java/lang/IndexOutOfBoundsException", Cond.methodLink RX4 200 yX1_hasPlace, Cond.instanceMethod yX1_hasPlace, Cond.selects RX1 yX1_hasPlace yX1_hasPlace, Cond.initialized RX1, Cond.code yX1_hasPlace cX1_hasPlace 3 (some .boolean), Cond.methodLink RX1 39 yX1_has, Cond.instanceMethod yX1_has, Cond.selects RX1 yX1_has yX1_has, Cond.code yX1_has cX1_has 2 (some .boolean), Cond.fieldLink RX1 9 "EndVersions$State" "held" "I", Cond.methodLink RX1 31 yX1_slot, Cond.instanceMethod yX1_slot, Cond.selects RX1 yX1_slot yX1_slot, Cond.code yX1_slot cX1_slot 3 (some (.object "EndVersions$Version")), Cond.fieldLink RX1 23 "EndVersions$State" "versions" "[LEndVersions$Version;", Cond.classLink RX1 21 RX3]
def wsX4_at_r2 : List Cond := [Cond.instantiable RX3 11, Cond.initialized RX3, Cond.methodLink RX1 47 yX3_init, Cond.instanceMethod yX3_init, Cond.code yX3_init cX3_init 1 none, Cond.methodLink RX3 3 objectInit, Cond.instanceMethod objectInit, Cond.code objectInit ⟨#[0xb1]⟩ 1 none, Cond.fieldLink RX3 9 "EndVersions$Version" "parent" "I", Cond.fieldLink RX3 15 "EndVersions$Version" "kind" "I", Cond.fieldLink RX3 18 "EndVersions$Version" "moved" "I", Cond.fieldLink RX3 21 "EndVersions$Version" "depth" "I", Cond.fieldLink RX3 24 "EndVersions$Version" "front" "I", Cond.fieldLink RX3 27 "EndVersions$Version" "back" "I", Cond.fieldLink RX3 30 "EndVersions$Version" "debt" "I", Cond.fieldLink RX3 33 "EndVersions$Version" "goal" "I", Cond.fieldLink RX3 36 "EndVersions$Version" "cost" "I", Cond.fieldLink RX3 39 "EndVersions$Version" "extra" "I", Cond.arrayClass .int, Cond.fieldLink RX3 42 "EndVersions$Version" "row" "[I", Cond.methodLink RX1 43 yX3_size, Cond.instanceMethod yX3_size, Cond.selects RX3 yX3_size yX3_size, Cond.code yX3_size cX3_size 1 (some .int)]
def wsX4_at_r3 : List Cond := [Cond.methodLink RX4 78 yX1_slot, Cond.methodLink RX4 113 yX3_look, Cond.instanceMethod yX3_look, Cond.selects RX3 yX3_look yX3_look, Cond.code yX3_look cX3_look 2 (some .int), Cond.static yX4_cell, Cond.code yX4_cell cX4_cell 2 (some .int)]
def wsX4_at : List Cond := .code yX4_at cX4_at 3 (some .int) :: ((wsX4_at_r1 ++ (wsX4_at_r2 ++ wsX4_at_r3)) ++ wsX40 ++ wsX10 ++ wsX30 ++ (vx_atS RX4 199 "java/lang/IndexOutOfBoundsException" ["java/lang/RuntimeException", "java/lang/Exception"]).filter goodWord)
def wsX4_steps_r1 : List Cond := [Cond.fieldLink RX4 30 "EndVersions" "now" "LEndVersions$State;", Cond.fieldLink RX4 116 "EndVersions$Version" "front" "I", Cond.methodLink RX4 110 yX4_requirePlace, Cond.instanceMethod yX4_requirePlace, Cond.selects RX4 yX4_requirePlace yX4_requirePlace, Cond.initialized RX4, Cond.code yX4_requirePlace cX4_requirePlace 3 none, Cond.classLink RX4 195 "java/lang/IndexOutOfBoundsException", Cond.initialized "java/lang/IndexOutOfBoundsException", Cond.methodLink RX4 200 yX1_hasPlace, Cond.instanceMethod yX1_hasPlace, Cond.selects RX1 yX1_hasPlace yX1_hasPlace, Cond.initialized RX1, Cond.code yX1_hasPlace cX1_hasPlace 3 (some .boolean), Cond.methodLink RX1 39 yX1_has, Cond.instanceMethod yX1_has, Cond.selects RX1 yX1_has yX1_has, Cond.code yX1_has cX1_has 2 (some .boolean), Cond.fieldLink RX1 9 "EndVersions$State" "held" "I", Cond.methodLink RX1 31 yX1_slot, Cond.instanceMethod yX1_slot, Cond.selects RX1 yX1_slot yX1_slot, Cond.code yX1_slot cX1_slot 3 (some (.object "EndVersions$Version")), Cond.fieldLink RX1 23 "EndVersions$State" "versions" "[LEndVersions$Version;"]
def wsX4_steps_r2 : List Cond := [Cond.classLink RX1 21 RX3, Cond.instantiable RX3 11, Cond.initialized RX3, Cond.methodLink RX1 47 yX3_init, Cond.instanceMethod yX3_init, Cond.code yX3_init cX3_init 1 none, Cond.methodLink RX3 3 objectInit, Cond.instanceMethod objectInit, Cond.code objectInit ⟨#[0xb1]⟩ 1 none, Cond.fieldLink RX3 9 "EndVersions$Version" "parent" "I", Cond.fieldLink RX3 15 "EndVersions$Version" "kind" "I", Cond.fieldLink RX3 18 "EndVersions$Version" "moved" "I", Cond.fieldLink RX3 21 "EndVersions$Version" "depth" "I", Cond.fieldLink RX3 24 "EndVersions$Version" "front" "I", Cond.fieldLink RX3 27 "EndVersions$Version" "back" "I", Cond.fieldLink RX3 30 "EndVersions$Version" "debt" "I", Cond.fieldLink RX3 33 "EndVersions$Version" "goal" "I", Cond.fieldLink RX3 36 "EndVersions$Version" "cost" "I", Cond.fieldLink RX3 39 "EndVersions$Version" "extra" "I", Cond.arrayClass .int, Cond.fieldLink RX3 42 "EndVersions$Version" "row" "[I", Cond.methodLink RX1 43 yX3_size, Cond.instanceMethod yX3_size, Cond.selects RX3 yX3_size yX3_size]
def wsX4_steps_r3 : List Cond := [Cond.code yX3_size cX3_size 1 (some .int), Cond.methodLink RX4 78 yX1_slot, Cond.methodLink RX4 82 yX3_size]
def wsX4_steps : List Cond := .code yX4_steps cX4_steps 4 (some .int) :: ((wsX4_steps_r1 ++ (wsX4_steps_r2 ++ wsX4_steps_r3)) ++ wsX40 ++ wsX30 ++ wsX10 ++ (vx_atS RX4 199 "java/lang/IndexOutOfBoundsException" ["java/lang/RuntimeException", "java/lang/Exception"]).filter goodWord)
def wsX4_count_r1 : List Cond := [Cond.classLink RX4 42 "java/lang/IllegalArgumentException", Cond.initialized "java/lang/IllegalArgumentException", Cond.fieldLink RX4 30 "EndVersions" "now" "LEndVersions$State;", Cond.methodLink RX4 121 yX1_total, Cond.instanceMethod yX1_total, Cond.selects RX1 yX1_total yX1_total, Cond.initialized RX1, Cond.code yX1_total cX1_total 2 (some .int), Cond.fieldLink RX1 9 "EndVersions$State" "held" "I", Cond.methodLink RX1 81 yX1_childless, Cond.instanceMethod yX1_childless, Cond.selects RX1 yX1_childless yX1_childless, Cond.code yX1_childless cX1_childless 4 (some .int), Cond.fieldLink RX1 27 "EndVersions$State" "childMarks" "[I", Cond.fieldLink RX1 54 "EndVersions$Version" "parent" "I", Cond.static yX4_fill, Cond.initialized RX4, Cond.code yX4_fill cX4_fill 3 none, Cond.methodLink RX1 31 yX1_slot, Cond.instanceMethod yX1_slot, Cond.selects RX1 yX1_slot yX1_slot, Cond.code yX1_slot cX1_slot 3 (some (.object "EndVersions$Version")), Cond.fieldLink RX1 23 "EndVersions$State" "versions" "[LEndVersions$Version;", Cond.classLink RX1 21 RX3]
def wsX4_count_r2 : List Cond := [Cond.instantiable RX3 11, Cond.initialized RX3, Cond.methodLink RX1 47 yX3_init, Cond.instanceMethod yX3_init, Cond.code yX3_init cX3_init 1 none, Cond.methodLink RX3 3 objectInit, Cond.instanceMethod objectInit, Cond.code objectInit ⟨#[0xb1]⟩ 1 none, Cond.fieldLink RX3 9 "EndVersions$Version" "parent" "I", Cond.fieldLink RX3 15 "EndVersions$Version" "kind" "I", Cond.fieldLink RX3 18 "EndVersions$Version" "moved" "I", Cond.fieldLink RX3 21 "EndVersions$Version" "depth" "I", Cond.fieldLink RX3 24 "EndVersions$Version" "front" "I", Cond.fieldLink RX3 27 "EndVersions$Version" "back" "I", Cond.fieldLink RX3 30 "EndVersions$Version" "debt" "I", Cond.fieldLink RX3 33 "EndVersions$Version" "goal" "I", Cond.fieldLink RX3 36 "EndVersions$Version" "cost" "I", Cond.fieldLink RX3 39 "EndVersions$Version" "extra" "I", Cond.arrayClass .int, Cond.fieldLink RX3 42 "EndVersions$Version" "row" "[I", Cond.static yX4_cell, Cond.code yX4_cell cX4_cell 2 (some .int), Cond.methodLink RX1 84 yX1_greatestFact, Cond.instanceMethod yX1_greatestFact]
def wsX4_count_r3 : List Cond := [Cond.selects RX1 yX1_greatestFact yX1_greatestFact, Cond.code yX1_greatestFact cX1_greatestFact 4 (some .int), Cond.methodLink RX1 107 Lib.Math.max.name, Cond.static Lib.Math.max.name, Cond.initialized "java/lang/Math", Cond.code Lib.Math.max.name Lib.Math.max.code 2 (some .int), Cond.methodLink RX1 104 yX3_fact, Cond.instanceMethod yX3_fact, Cond.selects RX3 yX3_fact yX3_fact, Cond.code yX3_fact cX3_fact 2 (some .int), Cond.methodLink RX3 46 yX3_size, Cond.instanceMethod yX3_size, Cond.selects RX3 yX3_size yX3_size, Cond.code yX3_size cX3_size 1 (some .int), Cond.methodLink RX1 87 yX1_sumOfFacts, Cond.instanceMethod yX1_sumOfFacts, Cond.selects RX1 yX1_sumOfFacts yX1_sumOfFacts, Cond.code yX1_sumOfFacts cX1_sumOfFacts 4 (some .int), Cond.methodLink RX1 90 yX1_stalled, Cond.instanceMethod yX1_stalled, Cond.selects RX1 yX1_stalled yX1_stalled, Cond.code yX1_stalled cX1_stalled 3 (some .int), Cond.fieldLink RX1 113 "EndVersions$Version" "extra" "I", Cond.methodLink RX1 93 yX1_rebuilding]
def wsX4_count_r4 : List Cond := [Cond.instanceMethod yX1_rebuilding, Cond.selects RX1 yX1_rebuilding yX1_rebuilding, Cond.code yX1_rebuilding cX1_rebuilding 3 (some .int), Cond.methodLink RX1 116 yX3_isRebuilding, Cond.instanceMethod yX3_isRebuilding, Cond.selects RX3 yX3_isRebuilding yX3_isRebuilding, Cond.code yX3_isRebuilding cX3_isRebuilding 1 (some .boolean)]
def wsX4_count : List Cond := .code yX4_count cX4_count 2 (some .int) :: ((wsX4_count_r1 ++ (wsX4_count_r2 ++ (wsX4_count_r3 ++ wsX4_count_r4))) ++ wsX40 ++ wsX10 ++ wsX30 ++ (vx_atS RX4 46 "java/lang/IllegalArgumentException" ["java/lang/RuntimeException", "java/lang/Exception"]).filter goodWord)
def wsX4_setting : List Cond := .code yX4_setting cX4_setting 2 (some .int) :: ([.classLink RX4 42 "java/lang/IllegalArgumentException", .initialized "java/lang/IllegalArgumentException", .fieldLink RX4 30 "EndVersions" "now" "LEndVersions$State;", .methodLink RX4 52 yX1_settingOf, .instanceMethod yX1_settingOf, .selects RX1 yX1_settingOf yX1_settingOf, .initialized RX1, .code yX1_settingOf cX1_settingOf 2 (some .int), .fieldLink RX1 15 "EndVersions$State" "rate" "I", .fieldLink RX1 18 "EndVersions$State" "ratio" "I"] ++ wsX40 ++ wsX10 ++ (vx_atS RX4 46 "java/lang/IllegalArgumentException" ["java/lang/RuntimeException", "java/lang/Exception"]).filter goodWord)
def wsX4_common_r1 : List Cond := [Cond.fieldLink RX4 30 "EndVersions" "now" "LEndVersions$State;", Cond.methodLink RX4 60 yX4_requireVersion, Cond.instanceMethod yX4_requireVersion, Cond.selects RX4 yX4_requireVersion yX4_requireVersion, Cond.initialized RX4, Cond.code yX4_requireVersion cX4_requireVersion 2 none, Cond.classLink RX4 195 "java/lang/IndexOutOfBoundsException", Cond.initialized "java/lang/IndexOutOfBoundsException", Cond.methodLink RX4 191 yX1_has, Cond.instanceMethod yX1_has, Cond.selects RX1 yX1_has yX1_has, Cond.initialized RX1, Cond.code yX1_has cX1_has 2 (some .boolean), Cond.fieldLink RX1 9 "EndVersions$State" "held" "I", Cond.methodLink RX4 126 yX1_meeting, Cond.instanceMethod yX1_meeting, Cond.selects RX1 yX1_meeting yX1_meeting, Cond.code yX1_meeting cX1_meeting 6 (some .int), Cond.fieldLink RX1 54 "EndVersions$Version" "parent" "I", Cond.methodLink RX1 31 yX1_slot, Cond.instanceMethod yX1_slot, Cond.selects RX1 yX1_slot yX1_slot, Cond.code yX1_slot cX1_slot 3 (some (.object "EndVersions$Version")), Cond.fieldLink RX1 23 "EndVersions$State" "versions" "[LEndVersions$Version;"]
def wsX4_common_r2 : List Cond := [Cond.classLink RX1 21 RX3, Cond.instantiable RX3 11, Cond.initialized RX3, Cond.methodLink RX1 47 yX3_init, Cond.instanceMethod yX3_init, Cond.code yX3_init cX3_init 1 none, Cond.methodLink RX3 3 objectInit, Cond.instanceMethod objectInit, Cond.code objectInit ⟨#[0xb1]⟩ 1 none, Cond.fieldLink RX3 9 "EndVersions$Version" "parent" "I", Cond.fieldLink RX3 15 "EndVersions$Version" "kind" "I", Cond.fieldLink RX3 18 "EndVersions$Version" "moved" "I", Cond.fieldLink RX3 21 "EndVersions$Version" "depth" "I", Cond.fieldLink RX3 24 "EndVersions$Version" "front" "I", Cond.fieldLink RX3 27 "EndVersions$Version" "back" "I", Cond.fieldLink RX3 30 "EndVersions$Version" "debt" "I", Cond.fieldLink RX3 33 "EndVersions$Version" "goal" "I", Cond.fieldLink RX3 36 "EndVersions$Version" "cost" "I", Cond.fieldLink RX3 39 "EndVersions$Version" "extra" "I", Cond.arrayClass .int, Cond.fieldLink RX3 42 "EndVersions$Version" "row" "[I"]
def wsX4_common : List Cond := .code yX4_common cX4_common 3 (some .int) :: ((wsX4_common_r1 ++ wsX4_common_r2) ++ wsX40 ++ wsX10 ++ wsX30 ++ (vx_atS RX4 199 "java/lang/IndexOutOfBoundsException" ["java/lang/RuntimeException", "java/lang/Exception"]).filter goodWord)
def wsX4_same_r1 : List Cond := [Cond.fieldLink RX4 30 "EndVersions" "now" "LEndVersions$State;", Cond.methodLink RX4 60 yX4_requireVersion, Cond.instanceMethod yX4_requireVersion, Cond.selects RX4 yX4_requireVersion yX4_requireVersion, Cond.initialized RX4, Cond.code yX4_requireVersion cX4_requireVersion 2 none, Cond.classLink RX4 195 "java/lang/IndexOutOfBoundsException", Cond.initialized "java/lang/IndexOutOfBoundsException", Cond.methodLink RX4 191 yX1_has, Cond.instanceMethod yX1_has, Cond.selects RX1 yX1_has yX1_has, Cond.initialized RX1, Cond.code yX1_has cX1_has 2 (some .boolean), Cond.fieldLink RX1 9 "EndVersions$State" "held" "I", Cond.methodLink RX4 78 yX1_slot, Cond.instanceMethod yX1_slot, Cond.selects RX1 yX1_slot yX1_slot, Cond.code yX1_slot cX1_slot 3 (some (.object "EndVersions$Version")), Cond.fieldLink RX1 23 "EndVersions$State" "versions" "[LEndVersions$Version;", Cond.classLink RX1 21 RX3, Cond.instantiable RX3 11, Cond.initialized RX3, Cond.methodLink RX1 47 yX3_init, Cond.instanceMethod yX3_init]
def wsX4_same_r2 : List Cond := [Cond.code yX3_init cX3_init 1 none, Cond.methodLink RX3 3 objectInit, Cond.instanceMethod objectInit, Cond.code objectInit ⟨#[0xb1]⟩ 1 none, Cond.fieldLink RX3 9 "EndVersions$Version" "parent" "I", Cond.fieldLink RX3 15 "EndVersions$Version" "kind" "I", Cond.fieldLink RX3 18 "EndVersions$Version" "moved" "I", Cond.fieldLink RX3 21 "EndVersions$Version" "depth" "I", Cond.fieldLink RX3 24 "EndVersions$Version" "front" "I", Cond.fieldLink RX3 27 "EndVersions$Version" "back" "I", Cond.fieldLink RX3 30 "EndVersions$Version" "debt" "I", Cond.fieldLink RX3 33 "EndVersions$Version" "goal" "I", Cond.fieldLink RX3 36 "EndVersions$Version" "cost" "I", Cond.fieldLink RX3 39 "EndVersions$Version" "extra" "I", Cond.arrayClass .int, Cond.fieldLink RX3 42 "EndVersions$Version" "row" "[I", Cond.methodLink RX4 130 yX3_hasRowOf, Cond.instanceMethod yX3_hasRowOf, Cond.selects RX3 yX3_hasRowOf yX3_hasRowOf, Cond.code yX3_hasRowOf cX3_hasRowOf 4 (some .boolean), Cond.methodLink RX3 46 yX3_size, Cond.instanceMethod yX3_size, Cond.selects RX3 yX3_size yX3_size, Cond.code yX3_size cX3_size 1 (some .int)]
def wsX4_same_r3 : List Cond := [Cond.methodLink RX3 60 yX3_look, Cond.instanceMethod yX3_look, Cond.selects RX3 yX3_look yX3_look, Cond.code yX3_look cX3_look 2 (some .int), Cond.static yX4_cell, Cond.code yX4_cell cX4_cell 2 (some .int)]
def wsX4_same : List Cond := .code yX4_same cX4_same 3 (some .boolean) :: ((wsX4_same_r1 ++ (wsX4_same_r2 ++ wsX4_same_r3)) ++ wsX40 ++ wsX10 ++ wsX30 ++ (vx_atS RX4 199 "java/lang/IndexOutOfBoundsException" ["java/lang/RuntimeException", "java/lang/Exception"]).filter goodWord)
def wsX4_firstLike_r1 : List Cond := [Cond.fieldLink RX4 30 "EndVersions" "now" "LEndVersions$State;", Cond.methodLink RX4 60 yX4_requireVersion, Cond.instanceMethod yX4_requireVersion, Cond.selects RX4 yX4_requireVersion yX4_requireVersion, Cond.initialized RX4, Cond.code yX4_requireVersion cX4_requireVersion 2 none, Cond.classLink RX4 195 "java/lang/IndexOutOfBoundsException", Cond.initialized "java/lang/IndexOutOfBoundsException", Cond.methodLink RX4 191 yX1_has, Cond.instanceMethod yX1_has, Cond.selects RX1 yX1_has yX1_has, Cond.initialized RX1, Cond.code yX1_has cX1_has 2 (some .boolean), Cond.fieldLink RX1 9 "EndVersions$State" "held" "I", Cond.methodLink RX4 134 yX1_firstWithRowOf, Cond.instanceMethod yX1_firstWithRowOf, Cond.selects RX1 yX1_firstWithRowOf yX1_firstWithRowOf, Cond.code yX1_firstWithRowOf cX1_firstWithRowOf 3 (some .int), Cond.methodLink RX1 31 yX1_slot, Cond.instanceMethod yX1_slot, Cond.selects RX1 yX1_slot yX1_slot, Cond.code yX1_slot cX1_slot 3 (some (.object "EndVersions$Version")), Cond.fieldLink RX1 23 "EndVersions$State" "versions" "[LEndVersions$Version;", Cond.classLink RX1 21 RX3]
def wsX4_firstLike_r2 : List Cond := [Cond.instantiable RX3 11, Cond.initialized RX3, Cond.methodLink RX1 47 yX3_init, Cond.instanceMethod yX3_init, Cond.code yX3_init cX3_init 1 none, Cond.methodLink RX3 3 objectInit, Cond.instanceMethod objectInit, Cond.code objectInit ⟨#[0xb1]⟩ 1 none, Cond.fieldLink RX3 9 "EndVersions$Version" "parent" "I", Cond.fieldLink RX3 15 "EndVersions$Version" "kind" "I", Cond.fieldLink RX3 18 "EndVersions$Version" "moved" "I", Cond.fieldLink RX3 21 "EndVersions$Version" "depth" "I", Cond.fieldLink RX3 24 "EndVersions$Version" "front" "I", Cond.fieldLink RX3 27 "EndVersions$Version" "back" "I", Cond.fieldLink RX3 30 "EndVersions$Version" "debt" "I", Cond.fieldLink RX3 33 "EndVersions$Version" "goal" "I", Cond.fieldLink RX3 36 "EndVersions$Version" "cost" "I", Cond.fieldLink RX3 39 "EndVersions$Version" "extra" "I", Cond.arrayClass .int, Cond.fieldLink RX3 42 "EndVersions$Version" "row" "[I", Cond.methodLink RX1 120 yX3_hasRowOf, Cond.instanceMethod yX3_hasRowOf, Cond.selects RX3 yX3_hasRowOf yX3_hasRowOf, Cond.code yX3_hasRowOf cX3_hasRowOf 4 (some .boolean)]
def wsX4_firstLike_r3 : List Cond := [Cond.methodLink RX3 46 yX3_size, Cond.instanceMethod yX3_size, Cond.selects RX3 yX3_size yX3_size, Cond.code yX3_size cX3_size 1 (some .int), Cond.methodLink RX3 60 yX3_look, Cond.instanceMethod yX3_look, Cond.selects RX3 yX3_look yX3_look, Cond.code yX3_look cX3_look 2 (some .int), Cond.static yX4_cell, Cond.code yX4_cell cX4_cell 2 (some .int)]
def wsX4_firstLike : List Cond := .code yX4_firstLike cX4_firstLike 2 (some .int) :: ((wsX4_firstLike_r1 ++ (wsX4_firstLike_r2 ++ wsX4_firstLike_r3)) ++ wsX40 ++ wsX10 ++ wsX30 ++ (vx_atS RX4 199 "java/lang/IndexOutOfBoundsException" ["java/lang/RuntimeException", "java/lang/Exception"]).filter goodWord)
def wsX4_worst_r1 : List Cond := [Cond.fieldLink RX4 30 "EndVersions" "now" "LEndVersions$State;", Cond.methodLink RX4 60 yX4_requireVersion, Cond.instanceMethod yX4_requireVersion, Cond.selects RX4 yX4_requireVersion yX4_requireVersion, Cond.initialized RX4, Cond.code yX4_requireVersion cX4_requireVersion 2 none, Cond.classLink RX4 195 "java/lang/IndexOutOfBoundsException", Cond.initialized "java/lang/IndexOutOfBoundsException", Cond.methodLink RX4 191 yX1_has, Cond.instanceMethod yX1_has, Cond.selects RX1 yX1_has yX1_has, Cond.initialized RX1, Cond.code yX1_has cX1_has 2 (some .boolean), Cond.fieldLink RX1 9 "EndVersions$State" "held" "I", Cond.methodLink RX4 137 yX1_greatestCostOnWay, Cond.instanceMethod yX1_greatestCostOnWay, Cond.selects RX1 yX1_greatestCostOnWay yX1_greatestCostOnWay, Cond.code yX1_greatestCostOnWay cX1_greatestCostOnWay 5 (some .int), Cond.fieldLink RX1 124 "EndVersions$Version" "cost" "I", Cond.methodLink RX1 107 Lib.Math.max.name, Cond.static Lib.Math.max.name, Cond.initialized "java/lang/Math", Cond.code Lib.Math.max.name Lib.Math.max.code 2 (some .int), Cond.fieldLink RX1 54 "EndVersions$Version" "parent" "I"]
def wsX4_worst_r2 : List Cond := [Cond.methodLink RX1 31 yX1_slot, Cond.instanceMethod yX1_slot, Cond.selects RX1 yX1_slot yX1_slot, Cond.code yX1_slot cX1_slot 3 (some (.object "EndVersions$Version")), Cond.fieldLink RX1 23 "EndVersions$State" "versions" "[LEndVersions$Version;", Cond.classLink RX1 21 RX3, Cond.instantiable RX3 11, Cond.initialized RX3, Cond.methodLink RX1 47 yX3_init, Cond.instanceMethod yX3_init, Cond.code yX3_init cX3_init 1 none, Cond.methodLink RX3 3 objectInit, Cond.instanceMethod objectInit, Cond.code objectInit ⟨#[0xb1]⟩ 1 none, Cond.fieldLink RX3 9 "EndVersions$Version" "parent" "I", Cond.fieldLink RX3 15 "EndVersions$Version" "kind" "I", Cond.fieldLink RX3 18 "EndVersions$Version" "moved" "I", Cond.fieldLink RX3 21 "EndVersions$Version" "depth" "I", Cond.fieldLink RX3 24 "EndVersions$Version" "front" "I", Cond.fieldLink RX3 27 "EndVersions$Version" "back" "I", Cond.fieldLink RX3 30 "EndVersions$Version" "debt" "I", Cond.fieldLink RX3 33 "EndVersions$Version" "goal" "I", Cond.fieldLink RX3 36 "EndVersions$Version" "cost" "I", Cond.fieldLink RX3 39 "EndVersions$Version" "extra" "I"]
def wsX4_worst_r3 : List Cond := [Cond.arrayClass .int, Cond.fieldLink RX3 42 "EndVersions$Version" "row" "[I"]
def wsX4_worst : List Cond := .code yX4_worst cX4_worst 2 (some .int) :: ((wsX4_worst_r1 ++ (wsX4_worst_r2 ++ wsX4_worst_r3)) ++ wsX40 ++ wsX10 ++ wsX30 ++ (vx_atS RX4 199 "java/lang/IndexOutOfBoundsException" ["java/lang/RuntimeException", "java/lang/Exception"]).filter goodWord)
def wsX4_mean_r1 : List Cond := [Cond.fieldLink RX4 30 "EndVersions" "now" "LEndVersions$State;", Cond.fieldLink RX4 140 "EndVersions$Version" "depth" "I", Cond.methodLink RX4 60 yX4_requireVersion, Cond.instanceMethod yX4_requireVersion, Cond.selects RX4 yX4_requireVersion yX4_requireVersion, Cond.initialized RX4, Cond.code yX4_requireVersion cX4_requireVersion 2 none, Cond.classLink RX4 195 "java/lang/IndexOutOfBoundsException", Cond.initialized "java/lang/IndexOutOfBoundsException", Cond.methodLink RX4 191 yX1_has, Cond.instanceMethod yX1_has, Cond.selects RX1 yX1_has yX1_has, Cond.initialized RX1, Cond.code yX1_has cX1_has 2 (some .boolean), Cond.fieldLink RX1 9 "EndVersions$State" "held" "I", Cond.methodLink RX4 78 yX1_slot, Cond.instanceMethod yX1_slot, Cond.selects RX1 yX1_slot yX1_slot, Cond.code yX1_slot cX1_slot 3 (some (.object "EndVersions$Version")), Cond.fieldLink RX1 23 "EndVersions$State" "versions" "[LEndVersions$Version;", Cond.classLink RX1 21 RX3, Cond.instantiable RX3 11, Cond.initialized RX3, Cond.methodLink RX1 47 yX3_init]
def wsX4_mean_r2 : List Cond := [Cond.instanceMethod yX3_init, Cond.code yX3_init cX3_init 1 none, Cond.methodLink RX3 3 objectInit, Cond.instanceMethod objectInit, Cond.code objectInit ⟨#[0xb1]⟩ 1 none, Cond.fieldLink RX3 9 "EndVersions$Version" "parent" "I", Cond.fieldLink RX3 15 "EndVersions$Version" "kind" "I", Cond.fieldLink RX3 18 "EndVersions$Version" "moved" "I", Cond.fieldLink RX3 21 "EndVersions$Version" "depth" "I", Cond.fieldLink RX3 24 "EndVersions$Version" "front" "I", Cond.fieldLink RX3 27 "EndVersions$Version" "back" "I", Cond.fieldLink RX3 30 "EndVersions$Version" "debt" "I", Cond.fieldLink RX3 33 "EndVersions$Version" "goal" "I", Cond.fieldLink RX3 36 "EndVersions$Version" "cost" "I", Cond.fieldLink RX3 39 "EndVersions$Version" "extra" "I", Cond.arrayClass .int, Cond.fieldLink RX3 42 "EndVersions$Version" "row" "[I", Cond.methodLink RX4 143 yX1_sumOfCostsOnWay, Cond.instanceMethod yX1_sumOfCostsOnWay, Cond.selects RX1 yX1_sumOfCostsOnWay yX1_sumOfCostsOnWay, Cond.code yX1_sumOfCostsOnWay cX1_sumOfCostsOnWay 5 (some .int), Cond.fieldLink RX1 124 "EndVersions$Version" "cost" "I", Cond.fieldLink RX1 54 "EndVersions$Version" "parent" "I", Cond.methodLink RX1 31 yX1_slot]
def wsX4_mean : List Cond := .code yX4_mean cX4_mean 3 (some .double) :: ((wsX4_mean_r1 ++ wsX4_mean_r2) ++ wsX40 ++ wsX30 ++ wsX10 ++ (vx_atS RX4 199 "java/lang/IndexOutOfBoundsException" ["java/lang/RuntimeException", "java/lang/Exception"]).filter goodWord)
def wsX4_append : List Cond := .code yX4_append cX4_append 2 (some .int) :: ([.classLink RX4 42 "java/lang/IllegalArgumentException", .initialized "java/lang/IllegalArgumentException", .classLink RX4 69 "java/lang/IllegalStateException", .initialized "java/lang/IllegalStateException", .fieldLink RX4 12 "EndVersions" "script" "LEndVersions$Script;", .fieldLink RX4 148 "EndVersions$Script" "length" "I", .methodLink RX4 153 yX0_extend, .instanceMethod yX0_extend, .selects RX0 yX0_extend yX0_extend, .initialized RX0, .code yX0_extend cX0_extend 2 none, .fieldLink RX0 18 "EndVersions$Script" "bytes" "[I", .fieldLink RX0 9 "EndVersions$Script" "length" "I", .static yX4_fill, .initialized RX4, .code yX4_fill cX4_fill 3 none] ++ wsX40 ++ wsX00 ++ (vx_atS RX4 46 "java/lang/IllegalArgumentException" ["java/lang/RuntimeException", "java/lang/Exception"]).filter goodWord ++ (vx_atS RX4 73 "java/lang/IllegalStateException" ["java/lang/RuntimeException", "java/lang/Exception"]).filter goodWord)
def wsX4_clearText : List Cond := .code yX4_clearText cX4_clearText 2 (some .int) :: ([.fieldLink RX4 12 "EndVersions" "script" "LEndVersions$Script;", .fieldLink RX4 148 "EndVersions$Script" "length" "I"] ++ wsX40 ++ wsX00)
def wsX4_run_r1 : List Cond := [Cond.fieldLink RX4 12 "EndVersions" "script" "LEndVersions$Script;", Cond.fieldLink RX4 30 "EndVersions" "now" "LEndVersions$State;", Cond.methodLink RX4 60 yX4_requireVersion, Cond.instanceMethod yX4_requireVersion, Cond.selects RX4 yX4_requireVersion yX4_requireVersion, Cond.initialized RX4, Cond.code yX4_requireVersion cX4_requireVersion 2 none, Cond.classLink RX4 195 "java/lang/IndexOutOfBoundsException", Cond.initialized "java/lang/IndexOutOfBoundsException", Cond.methodLink RX4 191 yX1_has, Cond.instanceMethod yX1_has, Cond.selects RX1 yX1_has yX1_has, Cond.initialized RX1, Cond.code yX1_has cX1_has 2 (some .boolean), Cond.fieldLink RX1 9 "EndVersions$State" "held" "I", Cond.methodLink RX4 156 yX0_read, Cond.instanceMethod yX0_read, Cond.selects RX0 yX0_read yX0_read, Cond.initialized RX0, Cond.code yX0_read cX0_read 3 (some .int), Cond.fieldLink RX0 15 "EndVersions$Script" "acts" "I", Cond.fieldLink RX0 9 "EndVersions$Script" "length" "I", Cond.fieldLink RX0 18 "EndVersions$Script" "bytes" "[I", Cond.static yX4_cell]
def wsX4_run_r2 : List Cond := [Cond.code yX4_cell cX4_cell 2 (some .int), Cond.methodLink RX0 46 yX0_next, Cond.instanceMethod yX0_next, Cond.selects RX0 yX0_next yX0_next, Cond.code yX0_next cX0_next 3 (some .int), Cond.fieldLink RX0 31 "EndVersions$Script" "negative" "Z", Cond.fieldLink RX0 35 "EndVersions$Script" "number" "I", Cond.methodLink RX0 50 yX0_begin, Cond.instanceMethod yX0_begin, Cond.selects RX0 yX0_begin yX0_begin, Cond.code yX0_begin cX0_begin 2 (some .int), Cond.fieldLink RX0 28 "EndVersions$Script" "kind" "I", Cond.methodLink RX0 54 yX0_end, Cond.instanceMethod yX0_end, Cond.selects RX0 yX0_end yX0_end, Cond.code yX0_end cX0_end 1 none, Cond.fieldLink RX0 22 "EndVersions$Script" "kinds" "[I", Cond.fieldLink RX0 25 "EndVersions$Script" "values" "[I", Cond.static yX4_fill, Cond.code yX4_fill cX4_fill 3 none, Cond.methodLink RX4 49 yX4_save, Cond.instanceMethod yX4_save, Cond.selects RX4 yX4_save yX4_save, Cond.code yX4_save cX4_save 2 none]
def wsX4_run_r3 : List Cond := [Cond.fieldLink RX4 34 "EndVersions" "savedStates" "I", Cond.fieldLink RX4 25 "EndVersions" "saved" "[LEndVersions$State;", Cond.classLink RX4 23 RX1, Cond.instantiable RX1 5, Cond.methodLink RX4 217 yX4_moveOldestSavedToEnd, Cond.instanceMethod yX4_moveOldestSavedToEnd, Cond.selects RX4 yX4_moveOldestSavedToEnd yX4_moveOldestSavedToEnd, Cond.code yX4_moveOldestSavedToEnd cX4_moveOldestSavedToEnd 3 none, Cond.methodLink RX4 29 yX1_init, Cond.instanceMethod yX1_init, Cond.code yX1_init cX1_init 1 none, Cond.methodLink RX1 3 objectInit, Cond.instanceMethod objectInit, Cond.code objectInit ⟨#[0xb1]⟩ 1 none, Cond.fieldLink RX1 15 "EndVersions$State" "rate" "I", Cond.fieldLink RX1 18 "EndVersions$State" "ratio" "I", Cond.classLink RX1 21 RX3, Cond.fieldLink RX1 23 "EndVersions$State" "versions" "[LEndVersions$Version;", Cond.arrayClass .int, Cond.fieldLink RX1 27 "EndVersions$State" "childMarks" "[I", Cond.methodLink RX4 220 yX1_copyFrom, Cond.instanceMethod yX1_copyFrom, Cond.selects RX1 yX1_copyFrom yX1_copyFrom, Cond.code yX1_copyFrom cX1_copyFrom 3 none]
def wsX4_run_r4 : List Cond := [Cond.methodLink RX1 31 yX1_slot, Cond.instanceMethod yX1_slot, Cond.selects RX1 yX1_slot yX1_slot, Cond.code yX1_slot cX1_slot 3 (some (.object "EndVersions$Version")), Cond.instantiable RX3 11, Cond.initialized RX3, Cond.methodLink RX1 47 yX3_init, Cond.instanceMethod yX3_init, Cond.code yX3_init cX3_init 1 none, Cond.methodLink RX3 3 objectInit, Cond.fieldLink RX3 9 "EndVersions$Version" "parent" "I", Cond.fieldLink RX3 15 "EndVersions$Version" "kind" "I", Cond.fieldLink RX3 18 "EndVersions$Version" "moved" "I", Cond.fieldLink RX3 21 "EndVersions$Version" "depth" "I", Cond.fieldLink RX3 24 "EndVersions$Version" "front" "I", Cond.fieldLink RX3 27 "EndVersions$Version" "back" "I", Cond.fieldLink RX3 30 "EndVersions$Version" "debt" "I", Cond.fieldLink RX3 33 "EndVersions$Version" "goal" "I", Cond.fieldLink RX3 36 "EndVersions$Version" "cost" "I", Cond.fieldLink RX3 39 "EndVersions$Version" "extra" "I", Cond.fieldLink RX3 42 "EndVersions$Version" "row" "[I", Cond.methodLink RX1 35 yX3_copyFrom, Cond.instanceMethod yX3_copyFrom, Cond.selects RX3 yX3_copyFrom yX3_copyFrom]
def wsX4_run_r5 : List Cond := [Cond.code yX3_copyFrom cX3_copyFrom 3 none, Cond.methodLink RX3 50 arraycopyName, Cond.native arraycopyName, Cond.static arraycopyName, Cond.initialized "java/lang/System", Cond.methodLink RX3 46 yX3_size, Cond.instanceMethod yX3_size, Cond.selects RX3 yX3_size yX3_size, Cond.code yX3_size cX3_size 1 (some .int), Cond.methodLink RX4 159 yX1_growBy, Cond.instanceMethod yX1_growBy, Cond.selects RX1 yX1_growBy yX1_growBy, Cond.code yX1_growBy cX1_growBy 6 (some .int), Cond.fieldLink RX1 61 "EndVersions$Script" "acts" "I", Cond.methodLink RX1 66 yX0_actAt, Cond.instanceMethod yX0_actAt, Cond.selects RX0 yX0_actAt yX0_actAt, Cond.code yX0_actAt cX0_actAt 2 (some .int), Cond.methodLink RX1 70 yX1_allows, Cond.instanceMethod yX1_allows, Cond.selects RX1 yX1_allows yX1_allows, Cond.code yX1_allows cX1_allows 3 (some .boolean), Cond.methodLink RX1 48 yX1_left, Cond.instanceMethod yX1_left]
def wsX4_run_r6 : List Cond := [Cond.selects RX1 yX1_left yX1_left, Cond.code yX1_left cX1_left 1 (some .int), Cond.methodLink RX1 51 yX3_permits, Cond.instanceMethod yX3_permits, Cond.selects RX3 yX3_permits yX3_permits, Cond.code yX3_permits cX3_permits 2 (some .boolean), Cond.static yX4_isPush, Cond.code yX4_isPush cX4_isPush 1 (some .boolean), Cond.methodLink RX1 74 yX0_valueAt, Cond.instanceMethod yX0_valueAt, Cond.selects RX0 yX0_valueAt yX0_valueAt, Cond.code yX0_valueAt cX0_valueAt 2 (some .int), Cond.methodLink RX1 77 yX1_grow, Cond.instanceMethod yX1_grow, Cond.selects RX1 yX1_grow yX1_grow, Cond.code yX1_grow cX1_grow 6 (some .int), Cond.fieldLink RX1 54 "EndVersions$Version" "parent" "I", Cond.methodLink RX1 57 yX3_perform, Cond.instanceMethod yX3_perform, Cond.selects RX3 yX3_perform yX3_perform, Cond.code yX3_perform cX3_perform 6 none, Cond.static yX4_isAtFront, Cond.code yX4_isAtFront cX4_isAtFront 1 (some .boolean), Cond.methodLink RX3 71 yX3_put]
def wsX4_run_r7 : List Cond := [Cond.instanceMethod yX3_put, Cond.selects RX3 yX3_put yX3_put, Cond.code yX3_put cX3_put 5 none, Cond.methodLink RX3 60 yX3_look, Cond.instanceMethod yX3_look, Cond.selects RX3 yX3_look yX3_look, Cond.code yX3_look cX3_look 2 (some .int), Cond.methodLink RX3 100 yX3_moveGoal, Cond.instanceMethod yX3_moveGoal, Cond.selects RX3 yX3_moveGoal yX3_moveGoal, Cond.code yX3_moveGoal cX3_moveGoal 2 none, Cond.methodLink RX3 103 Lib.Math.max.name, Cond.static Lib.Math.max.name, Cond.initialized "java/lang/Math", Cond.code Lib.Math.max.name Lib.Math.max.code 2 (some .int), Cond.methodLink RX3 109 Lib.Math.min.name, Cond.static Lib.Math.min.name, Cond.code Lib.Math.min.name Lib.Math.min.code 2 (some .int), Cond.methodLink RX3 89 yX3_isRebuilding, Cond.instanceMethod yX3_isRebuilding, Cond.selects RX3 yX3_isRebuilding yX3_isRebuilding, Cond.code yX3_isRebuilding cX3_isRebuilding 1 (some .boolean), Cond.methodLink RX3 75 yX3_fetchFromOtherPart, Cond.instanceMethod yX3_fetchFromOtherPart]
def wsX4_run_r8 : List Cond := [Cond.selects RX3 yX3_fetchFromOtherPart yX3_fetchFromOtherPart, Cond.code yX3_fetchFromOtherPart cX3_fetchFromOtherPart 2 none, Cond.methodLink RX3 93 yX3_endRebuild, Cond.instanceMethod yX3_endRebuild, Cond.selects RX3 yX3_endRebuild yX3_endRebuild, Cond.code yX3_endRebuild cX3_endRebuild 2 none, Cond.methodLink RX3 79 yX3_take, Cond.instanceMethod yX3_take, Cond.selects RX3 yX3_take yX3_take, Cond.code yX3_take cX3_take 4 none, Cond.methodLink RX3 82 yX3_pay, Cond.instanceMethod yX3_pay, Cond.selects RX3 yX3_pay yX3_pay, Cond.code yX3_pay cX3_pay 3 none, Cond.methodLink RX3 86 yX3_beginRebuild, Cond.instanceMethod yX3_beginRebuild, Cond.selects RX3 yX3_beginRebuild yX3_beginRebuild, Cond.code yX3_beginRebuild cX3_beginRebuild 2 none]
def wsX4_run : List Cond := .code yX4_run cX4_run 3 (some .int) :: ((wsX4_run_r1 ++ (wsX4_run_r2 ++ (wsX4_run_r3 ++ (wsX4_run_r4 ++ (wsX4_run_r5 ++ (wsX4_run_r6 ++ (wsX4_run_r7 ++ wsX4_run_r8))))))) ++ wsX40 ++ wsX10 ++ wsX00 ++ wsX30 ++ (vx_atS RX4 199 "java/lang/IndexOutOfBoundsException" ["java/lang/RuntimeException", "java/lang/Exception"]).filter goodWord)
def wsX4_requireRate : List Cond := .code yX4_requireRate cX4_requireRate 1 none :: ([.classLink RX4 42 "java/lang/IllegalArgumentException", .initialized "java/lang/IllegalArgumentException", .methodLink RX4 205 yX4_isRate, .static yX4_isRate, .initialized RX4, .code yX4_isRate cX4_isRate 1 (some .boolean)] ++ (vx_atS RX4 46 "java/lang/IllegalArgumentException" ["java/lang/RuntimeException", "java/lang/Exception"]).filter goodWord)
def wsX4_requireReadableText_r1 : List Cond := [Cond.classLink RX4 69 "java/lang/IllegalStateException", Cond.initialized "java/lang/IllegalStateException", Cond.fieldLink RX4 12 "EndVersions" "script" "LEndVersions$Script;", Cond.methodLink RX4 156 yX0_read, Cond.instanceMethod yX0_read, Cond.selects RX0 yX0_read yX0_read, Cond.initialized RX0, Cond.code yX0_read cX0_read 3 (some .int), Cond.fieldLink RX0 15 "EndVersions$Script" "acts" "I", Cond.fieldLink RX0 9 "EndVersions$Script" "length" "I", Cond.fieldLink RX0 18 "EndVersions$Script" "bytes" "[I", Cond.static yX4_cell, Cond.initialized RX4, Cond.code yX4_cell cX4_cell 2 (some .int), Cond.methodLink RX0 46 yX0_next, Cond.instanceMethod yX0_next, Cond.selects RX0 yX0_next yX0_next, Cond.code yX0_next cX0_next 3 (some .int), Cond.fieldLink RX0 31 "EndVersions$Script" "negative" "Z", Cond.fieldLink RX0 35 "EndVersions$Script" "number" "I", Cond.methodLink RX0 50 yX0_begin, Cond.instanceMethod yX0_begin, Cond.selects RX0 yX0_begin yX0_begin, Cond.code yX0_begin cX0_begin 2 (some .int)]
def wsX4_requireReadableText_r2 : List Cond := [Cond.fieldLink RX0 28 "EndVersions$Script" "kind" "I", Cond.methodLink RX0 54 yX0_end, Cond.instanceMethod yX0_end, Cond.selects RX0 yX0_end yX0_end, Cond.code yX0_end cX0_end 1 none, Cond.fieldLink RX0 22 "EndVersions$Script" "kinds" "[I", Cond.fieldLink RX0 25 "EndVersions$Script" "values" "[I", Cond.static yX4_fill, Cond.code yX4_fill cX4_fill 3 none]
def wsX4_requireReadableText : List Cond := .code yX4_requireReadableText cX4_requireReadableText 1 none :: ((wsX4_requireReadableText_r1 ++ wsX4_requireReadableText_r2) ++ wsX40 ++ wsX00 ++ (vx_atS RX4 73 "java/lang/IllegalStateException" ["java/lang/RuntimeException", "java/lang/Exception"]).filter goodWord)
def wsX4_stalls_r1 : List Cond := [Cond.fieldLink RX4 19 "EndVersions" "trial" "LEndVersions$Trial;", Cond.fieldLink RX4 12 "EndVersions" "script" "LEndVersions$Script;", Cond.fieldLink RX4 30 "EndVersions" "now" "LEndVersions$State;", Cond.fieldLink RX4 173 "EndVersions$Trial" "stalled" "I", Cond.methodLink RX4 60 yX4_requireVersion, Cond.instanceMethod yX4_requireVersion, Cond.selects RX4 yX4_requireVersion yX4_requireVersion, Cond.initialized RX4, Cond.code yX4_requireVersion cX4_requireVersion 2 none, Cond.classLink RX4 195 "java/lang/IndexOutOfBoundsException", Cond.initialized "java/lang/IndexOutOfBoundsException", Cond.methodLink RX4 191 yX1_has, Cond.instanceMethod yX1_has, Cond.selects RX1 yX1_has yX1_has, Cond.initialized RX1, Cond.code yX1_has cX1_has 2 (some .boolean), Cond.fieldLink RX1 9 "EndVersions$State" "held" "I", Cond.methodLink RX4 163 yX4_requireRate, Cond.static yX4_requireRate, Cond.code yX4_requireRate cX4_requireRate 1 none, Cond.classLink RX4 42 "java/lang/IllegalArgumentException", Cond.initialized "java/lang/IllegalArgumentException", Cond.methodLink RX4 205 yX4_isRate, Cond.static yX4_isRate]
def wsX4_stalls_r2 : List Cond := [Cond.code yX4_isRate cX4_isRate 1 (some .boolean), Cond.methodLink RX4 166 yX4_requireReadableText, Cond.instanceMethod yX4_requireReadableText, Cond.selects RX4 yX4_requireReadableText yX4_requireReadableText, Cond.code yX4_requireReadableText cX4_requireReadableText 1 none, Cond.classLink RX4 69 "java/lang/IllegalStateException", Cond.initialized "java/lang/IllegalStateException", Cond.methodLink RX4 156 yX0_read, Cond.instanceMethod yX0_read, Cond.selects RX0 yX0_read yX0_read, Cond.initialized RX0, Cond.code yX0_read cX0_read 3 (some .int), Cond.fieldLink RX0 15 "EndVersions$Script" "acts" "I", Cond.fieldLink RX0 9 "EndVersions$Script" "length" "I", Cond.fieldLink RX0 18 "EndVersions$Script" "bytes" "[I", Cond.static yX4_cell, Cond.code yX4_cell cX4_cell 2 (some .int), Cond.methodLink RX0 46 yX0_next, Cond.instanceMethod yX0_next, Cond.selects RX0 yX0_next yX0_next, Cond.code yX0_next cX0_next 3 (some .int), Cond.fieldLink RX0 31 "EndVersions$Script" "negative" "Z", Cond.fieldLink RX0 35 "EndVersions$Script" "number" "I", Cond.methodLink RX0 50 yX0_begin]
def wsX4_stalls_r3 : List Cond := [Cond.instanceMethod yX0_begin, Cond.selects RX0 yX0_begin yX0_begin, Cond.code yX0_begin cX0_begin 2 (some .int), Cond.fieldLink RX0 28 "EndVersions$Script" "kind" "I", Cond.methodLink RX0 54 yX0_end, Cond.instanceMethod yX0_end, Cond.selects RX0 yX0_end yX0_end, Cond.code yX0_end cX0_end 1 none, Cond.fieldLink RX0 22 "EndVersions$Script" "kinds" "[I", Cond.fieldLink RX0 25 "EndVersions$Script" "values" "[I", Cond.static yX4_fill, Cond.code yX4_fill cX4_fill 3 none, Cond.methodLink RX4 169 yX2_play, Cond.instanceMethod yX2_play, Cond.selects RX2 yX2_play yX2_play, Cond.initialized RX2, Cond.code yX2_play cX2_play 7 none, Cond.fieldLink RX2 7 "EndVersions$Trial" "stalled" "I", Cond.fieldLink RX2 13 "EndVersions$Trial" "greatestCost" "I", Cond.fieldLink RX2 19 "EndVersions$Trial" "row" "LEndVersions$Version;", Cond.fieldLink RX2 33 "EndVersions$Script" "acts" "I", Cond.methodLink RX2 42 Lib.Math.min.name, Cond.static Lib.Math.min.name, Cond.initialized "java/lang/Math"]
def wsX4_stalls_r4 : List Cond := [Cond.code Lib.Math.min.name Lib.Math.min.code 2 (some .int), Cond.fieldLink RX2 59 "EndVersions$State" "ratio" "I", Cond.fieldLink RX2 66 "EndVersions$Version" "extra" "I", Cond.fieldLink RX2 69 "EndVersions$Version" "cost" "I", Cond.methodLink RX2 72 Lib.Math.max.name, Cond.static Lib.Math.max.name, Cond.code Lib.Math.max.name Lib.Math.max.code 2 (some .int), Cond.methodLink RX2 23 yX1_slot, Cond.instanceMethod yX1_slot, Cond.selects RX1 yX1_slot yX1_slot, Cond.code yX1_slot cX1_slot 3 (some (.object "EndVersions$Version")), Cond.fieldLink RX1 23 "EndVersions$State" "versions" "[LEndVersions$Version;", Cond.classLink RX1 21 RX3, Cond.instantiable RX3 11, Cond.initialized RX3, Cond.methodLink RX1 47 yX3_init, Cond.instanceMethod yX3_init, Cond.code yX3_init cX3_init 1 none, Cond.methodLink RX3 3 objectInit, Cond.instanceMethod objectInit, Cond.code objectInit ⟨#[0xb1]⟩ 1 none, Cond.fieldLink RX3 9 "EndVersions$Version" "parent" "I", Cond.fieldLink RX3 15 "EndVersions$Version" "kind" "I", Cond.fieldLink RX3 18 "EndVersions$Version" "moved" "I"]
def wsX4_stalls_r5 : List Cond := [Cond.fieldLink RX3 21 "EndVersions$Version" "depth" "I", Cond.fieldLink RX3 24 "EndVersions$Version" "front" "I", Cond.fieldLink RX3 27 "EndVersions$Version" "back" "I", Cond.fieldLink RX3 30 "EndVersions$Version" "debt" "I", Cond.fieldLink RX3 33 "EndVersions$Version" "goal" "I", Cond.fieldLink RX3 36 "EndVersions$Version" "cost" "I", Cond.fieldLink RX3 39 "EndVersions$Version" "extra" "I", Cond.arrayClass .int, Cond.fieldLink RX3 42 "EndVersions$Version" "row" "[I", Cond.methodLink RX2 29 yX3_copyFrom, Cond.instanceMethod yX3_copyFrom, Cond.selects RX3 yX3_copyFrom yX3_copyFrom, Cond.code yX3_copyFrom cX3_copyFrom 3 none, Cond.methodLink RX3 50 arraycopyName, Cond.native arraycopyName, Cond.static arraycopyName, Cond.initialized "java/lang/System", Cond.methodLink RX3 46 yX3_size, Cond.instanceMethod yX3_size, Cond.selects RX3 yX3_size yX3_size, Cond.code yX3_size cX3_size 1 (some .int), Cond.methodLink RX2 38 yX1_left, Cond.instanceMethod yX1_left, Cond.selects RX1 yX1_left yX1_left]
def wsX4_stalls_r6 : List Cond := [Cond.code yX1_left cX1_left 1 (some .int), Cond.methodLink RX2 48 yX0_actAt, Cond.instanceMethod yX0_actAt, Cond.selects RX0 yX0_actAt yX0_actAt, Cond.code yX0_actAt cX0_actAt 2 (some .int), Cond.methodLink RX2 52 yX3_permits, Cond.instanceMethod yX3_permits, Cond.selects RX3 yX3_permits yX3_permits, Cond.code yX3_permits cX3_permits 2 (some .boolean), Cond.static yX4_isPush, Cond.code yX4_isPush cX4_isPush 1 (some .boolean), Cond.methodLink RX2 56 yX0_valueAt, Cond.instanceMethod yX0_valueAt, Cond.selects RX0 yX0_valueAt yX0_valueAt, Cond.code yX0_valueAt cX0_valueAt 2 (some .int), Cond.methodLink RX2 62 yX3_perform, Cond.instanceMethod yX3_perform, Cond.selects RX3 yX3_perform yX3_perform, Cond.code yX3_perform cX3_perform 6 none, Cond.static yX4_isAtFront, Cond.code yX4_isAtFront cX4_isAtFront 1 (some .boolean), Cond.methodLink RX3 71 yX3_put, Cond.instanceMethod yX3_put, Cond.selects RX3 yX3_put yX3_put]
def wsX4_stalls_r7 : List Cond := [Cond.code yX3_put cX3_put 5 none, Cond.methodLink RX3 60 yX3_look, Cond.instanceMethod yX3_look, Cond.selects RX3 yX3_look yX3_look, Cond.code yX3_look cX3_look 2 (some .int), Cond.methodLink RX3 100 yX3_moveGoal, Cond.instanceMethod yX3_moveGoal, Cond.selects RX3 yX3_moveGoal yX3_moveGoal, Cond.code yX3_moveGoal cX3_moveGoal 2 none, Cond.methodLink RX3 103 Lib.Math.max.name, Cond.methodLink RX3 109 Lib.Math.min.name, Cond.methodLink RX3 89 yX3_isRebuilding, Cond.instanceMethod yX3_isRebuilding, Cond.selects RX3 yX3_isRebuilding yX3_isRebuilding, Cond.code yX3_isRebuilding cX3_isRebuilding 1 (some .boolean), Cond.methodLink RX3 75 yX3_fetchFromOtherPart, Cond.instanceMethod yX3_fetchFromOtherPart, Cond.selects RX3 yX3_fetchFromOtherPart yX3_fetchFromOtherPart, Cond.code yX3_fetchFromOtherPart cX3_fetchFromOtherPart 2 none, Cond.methodLink RX3 93 yX3_endRebuild, Cond.instanceMethod yX3_endRebuild, Cond.selects RX3 yX3_endRebuild yX3_endRebuild, Cond.code yX3_endRebuild cX3_endRebuild 2 none, Cond.methodLink RX3 79 yX3_take]
def wsX4_stalls_r8 : List Cond := [Cond.instanceMethod yX3_take, Cond.selects RX3 yX3_take yX3_take, Cond.code yX3_take cX3_take 4 none, Cond.methodLink RX3 82 yX3_pay, Cond.instanceMethod yX3_pay, Cond.selects RX3 yX3_pay yX3_pay, Cond.code yX3_pay cX3_pay 3 none, Cond.methodLink RX3 86 yX3_beginRebuild, Cond.instanceMethod yX3_beginRebuild, Cond.selects RX3 yX3_beginRebuild yX3_beginRebuild, Cond.code yX3_beginRebuild cX3_beginRebuild 2 none]
def wsX4_stalls : List Cond := .code yX4_stalls cX4_stalls 3 (some .int) :: ((wsX4_stalls_r1 ++ (wsX4_stalls_r2 ++ (wsX4_stalls_r3 ++ (wsX4_stalls_r4 ++ (wsX4_stalls_r5 ++ (wsX4_stalls_r6 ++ (wsX4_stalls_r7 ++ wsX4_stalls_r8))))))) ++ wsX40 ++ wsX20 ++ wsX10 ++ wsX00 ++ wsX30 ++ (vx_atS RX4 199 "java/lang/IndexOutOfBoundsException" ["java/lang/RuntimeException", "java/lang/Exception"]).filter goodWord ++ (vx_atS RX4 46 "java/lang/IllegalArgumentException" ["java/lang/RuntimeException", "java/lang/Exception"]).filter goodWord ++ (vx_atS RX4 73 "java/lang/IllegalStateException" ["java/lang/RuntimeException", "java/lang/Exception"]).filter goodWord)
def wsX4_worstWith_r1 : List Cond := [Cond.fieldLink RX4 19 "EndVersions" "trial" "LEndVersions$Trial;", Cond.fieldLink RX4 12 "EndVersions" "script" "LEndVersions$Script;", Cond.fieldLink RX4 30 "EndVersions" "now" "LEndVersions$State;", Cond.fieldLink RX4 176 "EndVersions$Trial" "greatestCost" "I", Cond.methodLink RX4 60 yX4_requireVersion, Cond.instanceMethod yX4_requireVersion, Cond.selects RX4 yX4_requireVersion yX4_requireVersion, Cond.initialized RX4, Cond.code yX4_requireVersion cX4_requireVersion 2 none, Cond.classLink RX4 195 "java/lang/IndexOutOfBoundsException", Cond.initialized "java/lang/IndexOutOfBoundsException", Cond.methodLink RX4 191 yX1_has, Cond.instanceMethod yX1_has, Cond.selects RX1 yX1_has yX1_has, Cond.initialized RX1, Cond.code yX1_has cX1_has 2 (some .boolean), Cond.fieldLink RX1 9 "EndVersions$State" "held" "I", Cond.methodLink RX4 163 yX4_requireRate, Cond.static yX4_requireRate, Cond.code yX4_requireRate cX4_requireRate 1 none, Cond.classLink RX4 42 "java/lang/IllegalArgumentException", Cond.initialized "java/lang/IllegalArgumentException", Cond.methodLink RX4 205 yX4_isRate, Cond.static yX4_isRate]
def wsX4_worstWith_r2 : List Cond := [Cond.code yX4_isRate cX4_isRate 1 (some .boolean), Cond.methodLink RX4 166 yX4_requireReadableText, Cond.instanceMethod yX4_requireReadableText, Cond.selects RX4 yX4_requireReadableText yX4_requireReadableText, Cond.code yX4_requireReadableText cX4_requireReadableText 1 none, Cond.classLink RX4 69 "java/lang/IllegalStateException", Cond.initialized "java/lang/IllegalStateException", Cond.methodLink RX4 156 yX0_read, Cond.instanceMethod yX0_read, Cond.selects RX0 yX0_read yX0_read, Cond.initialized RX0, Cond.code yX0_read cX0_read 3 (some .int), Cond.fieldLink RX0 15 "EndVersions$Script" "acts" "I", Cond.fieldLink RX0 9 "EndVersions$Script" "length" "I", Cond.fieldLink RX0 18 "EndVersions$Script" "bytes" "[I", Cond.static yX4_cell, Cond.code yX4_cell cX4_cell 2 (some .int), Cond.methodLink RX0 46 yX0_next, Cond.instanceMethod yX0_next, Cond.selects RX0 yX0_next yX0_next, Cond.code yX0_next cX0_next 3 (some .int), Cond.fieldLink RX0 31 "EndVersions$Script" "negative" "Z", Cond.fieldLink RX0 35 "EndVersions$Script" "number" "I", Cond.methodLink RX0 50 yX0_begin]
def wsX4_worstWith_r3 : List Cond := [Cond.instanceMethod yX0_begin, Cond.selects RX0 yX0_begin yX0_begin, Cond.code yX0_begin cX0_begin 2 (some .int), Cond.fieldLink RX0 28 "EndVersions$Script" "kind" "I", Cond.methodLink RX0 54 yX0_end, Cond.instanceMethod yX0_end, Cond.selects RX0 yX0_end yX0_end, Cond.code yX0_end cX0_end 1 none, Cond.fieldLink RX0 22 "EndVersions$Script" "kinds" "[I", Cond.fieldLink RX0 25 "EndVersions$Script" "values" "[I", Cond.static yX4_fill, Cond.code yX4_fill cX4_fill 3 none, Cond.methodLink RX4 169 yX2_play, Cond.instanceMethod yX2_play, Cond.selects RX2 yX2_play yX2_play, Cond.initialized RX2, Cond.code yX2_play cX2_play 7 none, Cond.fieldLink RX2 7 "EndVersions$Trial" "stalled" "I", Cond.fieldLink RX2 13 "EndVersions$Trial" "greatestCost" "I", Cond.fieldLink RX2 19 "EndVersions$Trial" "row" "LEndVersions$Version;", Cond.fieldLink RX2 33 "EndVersions$Script" "acts" "I", Cond.methodLink RX2 42 Lib.Math.min.name, Cond.static Lib.Math.min.name, Cond.initialized "java/lang/Math"]
def wsX4_worstWith_r4 : List Cond := [Cond.code Lib.Math.min.name Lib.Math.min.code 2 (some .int), Cond.fieldLink RX2 59 "EndVersions$State" "ratio" "I", Cond.fieldLink RX2 66 "EndVersions$Version" "extra" "I", Cond.fieldLink RX2 69 "EndVersions$Version" "cost" "I", Cond.methodLink RX2 72 Lib.Math.max.name, Cond.static Lib.Math.max.name, Cond.code Lib.Math.max.name Lib.Math.max.code 2 (some .int), Cond.methodLink RX2 23 yX1_slot, Cond.instanceMethod yX1_slot, Cond.selects RX1 yX1_slot yX1_slot, Cond.code yX1_slot cX1_slot 3 (some (.object "EndVersions$Version")), Cond.fieldLink RX1 23 "EndVersions$State" "versions" "[LEndVersions$Version;", Cond.classLink RX1 21 RX3, Cond.instantiable RX3 11, Cond.initialized RX3, Cond.methodLink RX1 47 yX3_init, Cond.instanceMethod yX3_init, Cond.code yX3_init cX3_init 1 none, Cond.methodLink RX3 3 objectInit, Cond.instanceMethod objectInit, Cond.code objectInit ⟨#[0xb1]⟩ 1 none, Cond.fieldLink RX3 9 "EndVersions$Version" "parent" "I", Cond.fieldLink RX3 15 "EndVersions$Version" "kind" "I", Cond.fieldLink RX3 18 "EndVersions$Version" "moved" "I"]
def wsX4_worstWith_r5 : List Cond := [Cond.fieldLink RX3 21 "EndVersions$Version" "depth" "I", Cond.fieldLink RX3 24 "EndVersions$Version" "front" "I", Cond.fieldLink RX3 27 "EndVersions$Version" "back" "I", Cond.fieldLink RX3 30 "EndVersions$Version" "debt" "I", Cond.fieldLink RX3 33 "EndVersions$Version" "goal" "I", Cond.fieldLink RX3 36 "EndVersions$Version" "cost" "I", Cond.fieldLink RX3 39 "EndVersions$Version" "extra" "I", Cond.arrayClass .int, Cond.fieldLink RX3 42 "EndVersions$Version" "row" "[I", Cond.methodLink RX2 29 yX3_copyFrom, Cond.instanceMethod yX3_copyFrom, Cond.selects RX3 yX3_copyFrom yX3_copyFrom, Cond.code yX3_copyFrom cX3_copyFrom 3 none, Cond.methodLink RX3 50 arraycopyName, Cond.native arraycopyName, Cond.static arraycopyName, Cond.initialized "java/lang/System", Cond.methodLink RX3 46 yX3_size, Cond.instanceMethod yX3_size, Cond.selects RX3 yX3_size yX3_size, Cond.code yX3_size cX3_size 1 (some .int), Cond.methodLink RX2 38 yX1_left, Cond.instanceMethod yX1_left, Cond.selects RX1 yX1_left yX1_left]
def wsX4_worstWith_r6 : List Cond := [Cond.code yX1_left cX1_left 1 (some .int), Cond.methodLink RX2 48 yX0_actAt, Cond.instanceMethod yX0_actAt, Cond.selects RX0 yX0_actAt yX0_actAt, Cond.code yX0_actAt cX0_actAt 2 (some .int), Cond.methodLink RX2 52 yX3_permits, Cond.instanceMethod yX3_permits, Cond.selects RX3 yX3_permits yX3_permits, Cond.code yX3_permits cX3_permits 2 (some .boolean), Cond.static yX4_isPush, Cond.code yX4_isPush cX4_isPush 1 (some .boolean), Cond.methodLink RX2 56 yX0_valueAt, Cond.instanceMethod yX0_valueAt, Cond.selects RX0 yX0_valueAt yX0_valueAt, Cond.code yX0_valueAt cX0_valueAt 2 (some .int), Cond.methodLink RX2 62 yX3_perform, Cond.instanceMethod yX3_perform, Cond.selects RX3 yX3_perform yX3_perform, Cond.code yX3_perform cX3_perform 6 none, Cond.static yX4_isAtFront, Cond.code yX4_isAtFront cX4_isAtFront 1 (some .boolean), Cond.methodLink RX3 71 yX3_put, Cond.instanceMethod yX3_put, Cond.selects RX3 yX3_put yX3_put]
def wsX4_worstWith_r7 : List Cond := [Cond.code yX3_put cX3_put 5 none, Cond.methodLink RX3 60 yX3_look, Cond.instanceMethod yX3_look, Cond.selects RX3 yX3_look yX3_look, Cond.code yX3_look cX3_look 2 (some .int), Cond.methodLink RX3 100 yX3_moveGoal, Cond.instanceMethod yX3_moveGoal, Cond.selects RX3 yX3_moveGoal yX3_moveGoal, Cond.code yX3_moveGoal cX3_moveGoal 2 none, Cond.methodLink RX3 103 Lib.Math.max.name, Cond.methodLink RX3 109 Lib.Math.min.name, Cond.methodLink RX3 89 yX3_isRebuilding, Cond.instanceMethod yX3_isRebuilding, Cond.selects RX3 yX3_isRebuilding yX3_isRebuilding, Cond.code yX3_isRebuilding cX3_isRebuilding 1 (some .boolean), Cond.methodLink RX3 75 yX3_fetchFromOtherPart, Cond.instanceMethod yX3_fetchFromOtherPart, Cond.selects RX3 yX3_fetchFromOtherPart yX3_fetchFromOtherPart, Cond.code yX3_fetchFromOtherPart cX3_fetchFromOtherPart 2 none, Cond.methodLink RX3 93 yX3_endRebuild, Cond.instanceMethod yX3_endRebuild, Cond.selects RX3 yX3_endRebuild yX3_endRebuild, Cond.code yX3_endRebuild cX3_endRebuild 2 none, Cond.methodLink RX3 79 yX3_take]
def wsX4_worstWith_r8 : List Cond := [Cond.instanceMethod yX3_take, Cond.selects RX3 yX3_take yX3_take, Cond.code yX3_take cX3_take 4 none, Cond.methodLink RX3 82 yX3_pay, Cond.instanceMethod yX3_pay, Cond.selects RX3 yX3_pay yX3_pay, Cond.code yX3_pay cX3_pay 3 none, Cond.methodLink RX3 86 yX3_beginRebuild, Cond.instanceMethod yX3_beginRebuild, Cond.selects RX3 yX3_beginRebuild yX3_beginRebuild, Cond.code yX3_beginRebuild cX3_beginRebuild 2 none]
def wsX4_worstWith : List Cond := .code yX4_worstWith cX4_worstWith 3 (some .int) :: ((wsX4_worstWith_r1 ++ (wsX4_worstWith_r2 ++ (wsX4_worstWith_r3 ++ (wsX4_worstWith_r4 ++ (wsX4_worstWith_r5 ++ (wsX4_worstWith_r6 ++ (wsX4_worstWith_r7 ++ wsX4_worstWith_r8))))))) ++ wsX40 ++ wsX20 ++ wsX10 ++ wsX00 ++ wsX30 ++ (vx_atS RX4 199 "java/lang/IndexOutOfBoundsException" ["java/lang/RuntimeException", "java/lang/Exception"]).filter goodWord ++ (vx_atS RX4 46 "java/lang/IllegalArgumentException" ["java/lang/RuntimeException", "java/lang/Exception"]).filter goodWord ++ (vx_atS RX4 73 "java/lang/IllegalStateException" ["java/lang/RuntimeException", "java/lang/Exception"]).filter goodWord)
def wsX4_leastRate_r1 : List Cond := [Cond.fieldLink RX4 19 "EndVersions" "trial" "LEndVersions$Trial;", Cond.fieldLink RX4 12 "EndVersions" "script" "LEndVersions$Script;", Cond.fieldLink RX4 30 "EndVersions" "now" "LEndVersions$State;", Cond.fieldLink RX4 173 "EndVersions$Trial" "stalled" "I", Cond.methodLink RX4 60 yX4_requireVersion, Cond.instanceMethod yX4_requireVersion, Cond.selects RX4 yX4_requireVersion yX4_requireVersion, Cond.initialized RX4, Cond.code yX4_requireVersion cX4_requireVersion 2 none, Cond.classLink RX4 195 "java/lang/IndexOutOfBoundsException", Cond.initialized "java/lang/IndexOutOfBoundsException", Cond.methodLink RX4 191 yX1_has, Cond.instanceMethod yX1_has, Cond.selects RX1 yX1_has yX1_has, Cond.initialized RX1, Cond.code yX1_has cX1_has 2 (some .boolean), Cond.fieldLink RX1 9 "EndVersions$State" "held" "I", Cond.methodLink RX4 166 yX4_requireReadableText, Cond.instanceMethod yX4_requireReadableText, Cond.selects RX4 yX4_requireReadableText yX4_requireReadableText, Cond.code yX4_requireReadableText cX4_requireReadableText 1 none, Cond.classLink RX4 69 "java/lang/IllegalStateException", Cond.initialized "java/lang/IllegalStateException", Cond.methodLink RX4 156 yX0_read]
def wsX4_leastRate_r2 : List Cond := [Cond.instanceMethod yX0_read, Cond.selects RX0 yX0_read yX0_read, Cond.initialized RX0, Cond.code yX0_read cX0_read 3 (some .int), Cond.fieldLink RX0 15 "EndVersions$Script" "acts" "I", Cond.fieldLink RX0 9 "EndVersions$Script" "length" "I", Cond.fieldLink RX0 18 "EndVersions$Script" "bytes" "[I", Cond.static yX4_cell, Cond.code yX4_cell cX4_cell 2 (some .int), Cond.methodLink RX0 46 yX0_next, Cond.instanceMethod yX0_next, Cond.selects RX0 yX0_next yX0_next, Cond.code yX0_next cX0_next 3 (some .int), Cond.fieldLink RX0 31 "EndVersions$Script" "negative" "Z", Cond.fieldLink RX0 35 "EndVersions$Script" "number" "I", Cond.methodLink RX0 50 yX0_begin, Cond.instanceMethod yX0_begin, Cond.selects RX0 yX0_begin yX0_begin, Cond.code yX0_begin cX0_begin 2 (some .int), Cond.fieldLink RX0 28 "EndVersions$Script" "kind" "I", Cond.methodLink RX0 54 yX0_end, Cond.instanceMethod yX0_end, Cond.selects RX0 yX0_end yX0_end, Cond.code yX0_end cX0_end 1 none]
def wsX4_leastRate_r3 : List Cond := [Cond.fieldLink RX0 22 "EndVersions$Script" "kinds" "[I", Cond.fieldLink RX0 25 "EndVersions$Script" "values" "[I", Cond.static yX4_fill, Cond.code yX4_fill cX4_fill 3 none, Cond.methodLink RX4 169 yX2_play, Cond.instanceMethod yX2_play, Cond.selects RX2 yX2_play yX2_play, Cond.initialized RX2, Cond.code yX2_play cX2_play 7 none, Cond.fieldLink RX2 7 "EndVersions$Trial" "stalled" "I", Cond.fieldLink RX2 13 "EndVersions$Trial" "greatestCost" "I", Cond.fieldLink RX2 19 "EndVersions$Trial" "row" "LEndVersions$Version;", Cond.fieldLink RX2 33 "EndVersions$Script" "acts" "I", Cond.methodLink RX2 42 Lib.Math.min.name, Cond.static Lib.Math.min.name, Cond.initialized "java/lang/Math", Cond.code Lib.Math.min.name Lib.Math.min.code 2 (some .int), Cond.fieldLink RX2 59 "EndVersions$State" "ratio" "I", Cond.fieldLink RX2 66 "EndVersions$Version" "extra" "I", Cond.fieldLink RX2 69 "EndVersions$Version" "cost" "I", Cond.methodLink RX2 72 Lib.Math.max.name, Cond.static Lib.Math.max.name, Cond.code Lib.Math.max.name Lib.Math.max.code 2 (some .int), Cond.methodLink RX2 23 yX1_slot]
def wsX4_leastRate_r4 : List Cond := [Cond.instanceMethod yX1_slot, Cond.selects RX1 yX1_slot yX1_slot, Cond.code yX1_slot cX1_slot 3 (some (.object "EndVersions$Version")), Cond.fieldLink RX1 23 "EndVersions$State" "versions" "[LEndVersions$Version;", Cond.classLink RX1 21 RX3, Cond.instantiable RX3 11, Cond.initialized RX3, Cond.methodLink RX1 47 yX3_init, Cond.instanceMethod yX3_init, Cond.code yX3_init cX3_init 1 none, Cond.methodLink RX3 3 objectInit, Cond.instanceMethod objectInit, Cond.code objectInit ⟨#[0xb1]⟩ 1 none, Cond.fieldLink RX3 9 "EndVersions$Version" "parent" "I", Cond.fieldLink RX3 15 "EndVersions$Version" "kind" "I", Cond.fieldLink RX3 18 "EndVersions$Version" "moved" "I", Cond.fieldLink RX3 21 "EndVersions$Version" "depth" "I", Cond.fieldLink RX3 24 "EndVersions$Version" "front" "I", Cond.fieldLink RX3 27 "EndVersions$Version" "back" "I", Cond.fieldLink RX3 30 "EndVersions$Version" "debt" "I", Cond.fieldLink RX3 33 "EndVersions$Version" "goal" "I", Cond.fieldLink RX3 36 "EndVersions$Version" "cost" "I", Cond.fieldLink RX3 39 "EndVersions$Version" "extra" "I", Cond.arrayClass .int]
def wsX4_leastRate_r5 : List Cond := [Cond.fieldLink RX3 42 "EndVersions$Version" "row" "[I", Cond.methodLink RX2 29 yX3_copyFrom, Cond.instanceMethod yX3_copyFrom, Cond.selects RX3 yX3_copyFrom yX3_copyFrom, Cond.code yX3_copyFrom cX3_copyFrom 3 none, Cond.methodLink RX3 50 arraycopyName, Cond.native arraycopyName, Cond.static arraycopyName, Cond.initialized "java/lang/System", Cond.methodLink RX3 46 yX3_size, Cond.instanceMethod yX3_size, Cond.selects RX3 yX3_size yX3_size, Cond.code yX3_size cX3_size 1 (some .int), Cond.methodLink RX2 38 yX1_left, Cond.instanceMethod yX1_left, Cond.selects RX1 yX1_left yX1_left, Cond.code yX1_left cX1_left 1 (some .int), Cond.methodLink RX2 48 yX0_actAt, Cond.instanceMethod yX0_actAt, Cond.selects RX0 yX0_actAt yX0_actAt, Cond.code yX0_actAt cX0_actAt 2 (some .int), Cond.methodLink RX2 52 yX3_permits, Cond.instanceMethod yX3_permits, Cond.selects RX3 yX3_permits yX3_permits]
def wsX4_leastRate_r6 : List Cond := [Cond.code yX3_permits cX3_permits 2 (some .boolean), Cond.static yX4_isPush, Cond.code yX4_isPush cX4_isPush 1 (some .boolean), Cond.methodLink RX2 56 yX0_valueAt, Cond.instanceMethod yX0_valueAt, Cond.selects RX0 yX0_valueAt yX0_valueAt, Cond.code yX0_valueAt cX0_valueAt 2 (some .int), Cond.methodLink RX2 62 yX3_perform, Cond.instanceMethod yX3_perform, Cond.selects RX3 yX3_perform yX3_perform, Cond.code yX3_perform cX3_perform 6 none, Cond.static yX4_isAtFront, Cond.code yX4_isAtFront cX4_isAtFront 1 (some .boolean), Cond.methodLink RX3 71 yX3_put, Cond.instanceMethod yX3_put, Cond.selects RX3 yX3_put yX3_put, Cond.code yX3_put cX3_put 5 none, Cond.methodLink RX3 60 yX3_look, Cond.instanceMethod yX3_look, Cond.selects RX3 yX3_look yX3_look, Cond.code yX3_look cX3_look 2 (some .int), Cond.methodLink RX3 100 yX3_moveGoal, Cond.instanceMethod yX3_moveGoal, Cond.selects RX3 yX3_moveGoal yX3_moveGoal]
def wsX4_leastRate_r7 : List Cond := [Cond.code yX3_moveGoal cX3_moveGoal 2 none, Cond.methodLink RX3 103 Lib.Math.max.name, Cond.methodLink RX3 109 Lib.Math.min.name, Cond.methodLink RX3 89 yX3_isRebuilding, Cond.instanceMethod yX3_isRebuilding, Cond.selects RX3 yX3_isRebuilding yX3_isRebuilding, Cond.code yX3_isRebuilding cX3_isRebuilding 1 (some .boolean), Cond.methodLink RX3 75 yX3_fetchFromOtherPart, Cond.instanceMethod yX3_fetchFromOtherPart, Cond.selects RX3 yX3_fetchFromOtherPart yX3_fetchFromOtherPart, Cond.code yX3_fetchFromOtherPart cX3_fetchFromOtherPart 2 none, Cond.methodLink RX3 93 yX3_endRebuild, Cond.instanceMethod yX3_endRebuild, Cond.selects RX3 yX3_endRebuild yX3_endRebuild, Cond.code yX3_endRebuild cX3_endRebuild 2 none, Cond.methodLink RX3 79 yX3_take, Cond.instanceMethod yX3_take, Cond.selects RX3 yX3_take yX3_take, Cond.code yX3_take cX3_take 4 none, Cond.methodLink RX3 82 yX3_pay, Cond.instanceMethod yX3_pay, Cond.selects RX3 yX3_pay yX3_pay, Cond.code yX3_pay cX3_pay 3 none, Cond.methodLink RX3 86 yX3_beginRebuild]
def wsX4_leastRate_r8 : List Cond := [Cond.instanceMethod yX3_beginRebuild, Cond.selects RX3 yX3_beginRebuild yX3_beginRebuild, Cond.code yX3_beginRebuild cX3_beginRebuild 2 none]
def wsX4_leastRate : List Cond := .code yX4_leastRate cX4_leastRate 3 (some .int) :: ((wsX4_leastRate_r1 ++ (wsX4_leastRate_r2 ++ (wsX4_leastRate_r3 ++ (wsX4_leastRate_r4 ++ (wsX4_leastRate_r5 ++ (wsX4_leastRate_r6 ++ (wsX4_leastRate_r7 ++ wsX4_leastRate_r8))))))) ++ wsX40 ++ wsX20 ++ wsX10 ++ wsX00 ++ wsX30 ++ (vx_atS RX4 199 "java/lang/IndexOutOfBoundsException" ["java/lang/RuntimeException", "java/lang/Exception"]).filter goodWord ++ (vx_atS RX4 73 "java/lang/IllegalStateException" ["java/lang/RuntimeException", "java/lang/Exception"]).filter goodWord)
def wsX4_undo : List Cond := .code yX4_undo cX4_undo 3 (some .int) :: ([.classLink RX4 69 "java/lang/IllegalStateException", .initialized "java/lang/IllegalStateException", .fieldLink RX4 34 "EndVersions" "savedStates" "I", .fieldLink RX4 25 "EndVersions" "saved" "[LEndVersions$State;", .fieldLink RX4 30 "EndVersions" "now" "LEndVersions$State;"] ++ wsX40 ++ (vx_atS RX4 73 "java/lang/IllegalStateException" ["java/lang/RuntimeException", "java/lang/Exception"]).filter goodWord)
def wsX4_mixed : List Cond := .code yX4_mixed cX4_mixed 3 (some .long) :: ([.constantLong RX4 215 (31)])
def wsX4_mixedWith_r1 : List Cond := [Cond.methodLink RX4 102 yX3_fact, Cond.instanceMethod yX3_fact, Cond.selects RX3 yX3_fact yX3_fact, Cond.initialized RX3, Cond.code yX3_fact cX3_fact 2 (some .int), Cond.fieldLink RX3 9 "EndVersions$Version" "parent" "I", Cond.fieldLink RX3 24 "EndVersions$Version" "front" "I", Cond.fieldLink RX3 27 "EndVersions$Version" "back" "I", Cond.fieldLink RX3 30 "EndVersions$Version" "debt" "I", Cond.fieldLink RX3 33 "EndVersions$Version" "goal" "I", Cond.fieldLink RX3 36 "EndVersions$Version" "cost" "I", Cond.fieldLink RX3 39 "EndVersions$Version" "extra" "I", Cond.fieldLink RX3 15 "EndVersions$Version" "kind" "I", Cond.fieldLink RX3 21 "EndVersions$Version" "depth" "I", Cond.methodLink RX3 46 yX3_size, Cond.instanceMethod yX3_size, Cond.selects RX3 yX3_size yX3_size, Cond.code yX3_size cX3_size 1 (some .int), Cond.methodLink RX4 183 yX4_mixed, Cond.static yX4_mixed, Cond.initialized RX4, Cond.code yX4_mixed cX4_mixed 3 (some .long), Cond.constantLong RX4 215 (31), Cond.methodLink RX4 82 yX3_size]
def wsX4_mixedWith_r2 : List Cond := [Cond.methodLink RX4 113 yX3_look, Cond.instanceMethod yX3_look, Cond.selects RX3 yX3_look yX3_look, Cond.code yX3_look cX3_look 2 (some .int), Cond.fieldLink RX3 42 "EndVersions$Version" "row" "[I", Cond.static yX4_cell, Cond.code yX4_cell cX4_cell 2 (some .int)]
def wsX4_mixedWith : List Cond := .code yX4_mixedWith cX4_mixedWith 7 (some .long) :: ((wsX4_mixedWith_r1 ++ wsX4_mixedWith_r2) ++ wsX30)
def wsX4_digest_r1 : List Cond := [Cond.constantLong RX4 181 (3767), Cond.fieldLink RX4 12 "EndVersions" "script" "LEndVersions$Script;", Cond.fieldLink RX4 148 "EndVersions$Script" "length" "I", Cond.fieldLink RX4 30 "EndVersions" "now" "LEndVersions$State;", Cond.fieldLink RX4 95 "EndVersions$State" "held" "I", Cond.fieldLink RX4 34 "EndVersions" "savedStates" "I", Cond.methodLink RX4 183 yX4_mixed, Cond.static yX4_mixed, Cond.initialized RX4, Cond.code yX4_mixed cX4_mixed 3 (some .long), Cond.constantLong RX4 215 (31), Cond.methodLink RX4 121 yX1_total, Cond.instanceMethod yX1_total, Cond.selects RX1 yX1_total yX1_total, Cond.initialized RX1, Cond.code yX1_total cX1_total 2 (some .int), Cond.fieldLink RX1 9 "EndVersions$State" "held" "I", Cond.methodLink RX1 81 yX1_childless, Cond.instanceMethod yX1_childless, Cond.selects RX1 yX1_childless yX1_childless, Cond.code yX1_childless cX1_childless 4 (some .int), Cond.fieldLink RX1 27 "EndVersions$State" "childMarks" "[I", Cond.fieldLink RX1 54 "EndVersions$Version" "parent" "I", Cond.static yX4_fill]
def wsX4_digest_r2 : List Cond := [Cond.code yX4_fill cX4_fill 3 none, Cond.methodLink RX1 31 yX1_slot, Cond.instanceMethod yX1_slot, Cond.selects RX1 yX1_slot yX1_slot, Cond.code yX1_slot cX1_slot 3 (some (.object "EndVersions$Version")), Cond.fieldLink RX1 23 "EndVersions$State" "versions" "[LEndVersions$Version;", Cond.classLink RX1 21 RX3, Cond.instantiable RX3 11, Cond.initialized RX3, Cond.methodLink RX1 47 yX3_init, Cond.instanceMethod yX3_init, Cond.code yX3_init cX3_init 1 none, Cond.methodLink RX3 3 objectInit, Cond.instanceMethod objectInit, Cond.code objectInit ⟨#[0xb1]⟩ 1 none, Cond.fieldLink RX3 9 "EndVersions$Version" "parent" "I", Cond.fieldLink RX3 15 "EndVersions$Version" "kind" "I", Cond.fieldLink RX3 18 "EndVersions$Version" "moved" "I", Cond.fieldLink RX3 21 "EndVersions$Version" "depth" "I", Cond.fieldLink RX3 24 "EndVersions$Version" "front" "I", Cond.fieldLink RX3 27 "EndVersions$Version" "back" "I", Cond.fieldLink RX3 30 "EndVersions$Version" "debt" "I", Cond.fieldLink RX3 33 "EndVersions$Version" "goal" "I", Cond.fieldLink RX3 36 "EndVersions$Version" "cost" "I"]
def wsX4_digest_r3 : List Cond := [Cond.fieldLink RX3 39 "EndVersions$Version" "extra" "I", Cond.arrayClass .int, Cond.fieldLink RX3 42 "EndVersions$Version" "row" "[I", Cond.static yX4_cell, Cond.code yX4_cell cX4_cell 2 (some .int), Cond.methodLink RX1 84 yX1_greatestFact, Cond.instanceMethod yX1_greatestFact, Cond.selects RX1 yX1_greatestFact yX1_greatestFact, Cond.code yX1_greatestFact cX1_greatestFact 4 (some .int), Cond.methodLink RX1 107 Lib.Math.max.name, Cond.static Lib.Math.max.name, Cond.initialized "java/lang/Math", Cond.code Lib.Math.max.name Lib.Math.max.code 2 (some .int), Cond.methodLink RX1 104 yX3_fact, Cond.instanceMethod yX3_fact, Cond.selects RX3 yX3_fact yX3_fact, Cond.code yX3_fact cX3_fact 2 (some .int), Cond.methodLink RX3 46 yX3_size, Cond.instanceMethod yX3_size, Cond.selects RX3 yX3_size yX3_size, Cond.code yX3_size cX3_size 1 (some .int), Cond.methodLink RX1 87 yX1_sumOfFacts, Cond.instanceMethod yX1_sumOfFacts, Cond.selects RX1 yX1_sumOfFacts yX1_sumOfFacts]
def wsX4_digest_r4 : List Cond := [Cond.code yX1_sumOfFacts cX1_sumOfFacts 4 (some .int), Cond.methodLink RX1 90 yX1_stalled, Cond.instanceMethod yX1_stalled, Cond.selects RX1 yX1_stalled yX1_stalled, Cond.code yX1_stalled cX1_stalled 3 (some .int), Cond.fieldLink RX1 113 "EndVersions$Version" "extra" "I", Cond.methodLink RX1 93 yX1_rebuilding, Cond.instanceMethod yX1_rebuilding, Cond.selects RX1 yX1_rebuilding yX1_rebuilding, Cond.code yX1_rebuilding cX1_rebuilding 3 (some .int), Cond.methodLink RX1 116 yX3_isRebuilding, Cond.instanceMethod yX3_isRebuilding, Cond.selects RX3 yX3_isRebuilding yX3_isRebuilding, Cond.code yX3_isRebuilding cX3_isRebuilding 1 (some .boolean), Cond.methodLink RX4 52 yX1_settingOf, Cond.instanceMethod yX1_settingOf, Cond.selects RX1 yX1_settingOf yX1_settingOf, Cond.code yX1_settingOf cX1_settingOf 2 (some .int), Cond.fieldLink RX1 15 "EndVersions$State" "rate" "I", Cond.fieldLink RX1 18 "EndVersions$State" "ratio" "I", Cond.methodLink RX4 78 yX1_slot, Cond.methodLink RX4 187 yX4_mixedWith, Cond.static yX4_mixedWith, Cond.code yX4_mixedWith cX4_mixedWith 7 (some .long)]
def wsX4_digest_r5 : List Cond := [Cond.methodLink RX4 102 yX3_fact, Cond.methodLink RX4 82 yX3_size, Cond.methodLink RX4 113 yX3_look, Cond.instanceMethod yX3_look, Cond.selects RX3 yX3_look yX3_look, Cond.code yX3_look cX3_look 2 (some .int)]
def wsX4_digest : List Cond := .code yX4_digest cX4_digest 4 (some .long) :: ((wsX4_digest_r1 ++ (wsX4_digest_r2 ++ (wsX4_digest_r3 ++ (wsX4_digest_r4 ++ wsX4_digest_r5)))) ++ wsX40 ++ wsX00 ++ wsX10 ++ wsX30)
def wsX5_lays : List Cond := .code yX5_lays cX5_lays 4 none :: ([.fieldLink RX5 7 "EndVersionsModel" "now" "[I"] ++ wsX50)
def wsX5_init : List Cond := .code yX5_init cX5_init 1 none :: ([.methodLink RX5 1 objectInit, .instanceMethod objectInit, .code objectInit ⟨#[0xb1]⟩ 1 none, .arrayClass .int, .fieldLink RX5 7 "EndVersionsModel" "now" "[I", .fieldLink RX5 13 "EndVersionsModel" "past" "[I", .fieldLink RX5 16 "EndVersionsModel" "trial" "[I", .fieldLink RX5 19 "EndVersionsModel" "text" "[I", .fieldLink RX5 22 "EndVersionsModel" "values" "[I", .fieldLink RX5 25 "EndVersionsModel" "way" "[I", .fieldLink RX5 28 "EndVersionsModel" "row" "[I", .fieldLink RX5 31 "EndVersionsModel" "acts" "[I", .fieldLink RX5 34 "EndVersionsModel" "told" "[I", .methodLink RX5 37 yX5_lays, .instanceMethod yX5_lays, .selects RX5 yX5_lays yX5_lays, .initialized RX5, .code yX5_lays cX5_lays 4 none] ++ wsX50)
def wsX5_thrown : List Cond := .code yX5_thrown cX5_thrown 1 (some .int) :: ([.fieldLink RX5 41 "EndVersionsModel" "thrown" "I"] ++ wsX50)
def wsX5_in : List Cond := .code yX5_in cX5_in 3 (some .boolean) :: ([])
def wsX5_copies : List Cond := .code yX5_copies cX5_copies 5 none :: ([])
def wsX5_saves : List Cond := .code yX5_saves cX5_saves 2 none :: ([.fieldLink RX5 45 "EndVersionsModel" "pasts" "I", .fieldLink RX5 13 "EndVersionsModel" "past" "[I", .fieldLink RX5 7 "EndVersionsModel" "now" "[I", .methodLink RX5 48 yX5_copies, .static yX5_copies, .initialized RX5, .code yX5_copies cX5_copies 5 none] ++ wsX50)
def wsX5_of : List Cond := .code yX5_of cX5_of 3 (some .int) :: ([.fieldLink RX5 7 "EndVersionsModel" "now" "[I"] ++ wsX50)
def wsX5_adds : List Cond := .code yX5_adds cX5_adds 4 none :: ([.fieldLink RX5 7 "EndVersionsModel" "now" "[I"] ++ wsX50)
def wsX5_isVersion : List Cond := .code yX5_isVersion cX5_isVersion 2 (some .boolean) :: ([.fieldLink RX5 7 "EndVersionsModel" "now" "[I", .methodLink RX5 52 yX5_in, .static yX5_in, .initialized RX5, .code yX5_in cX5_in 3 (some .boolean)] ++ wsX50)
def wsX5_partOf : List Cond := .code yX5_partOf cX5_partOf 3 (some .int) :: ([.methodLink RX5 56 yX5_of, .instanceMethod yX5_of, .selects RX5 yX5_of yX5_of, .initialized RX5, .code yX5_of cX5_of 3 (some .int), .fieldLink RX5 7 "EndVersionsModel" "now" "[I"] ++ wsX50)
def wsX5_laysWay : List Cond := .code yX5_laysWay cX5_laysWay 5 (some .int) :: ([.fieldLink RX5 25 "EndVersionsModel" "way" "[I", .methodLink RX5 56 yX5_of, .instanceMethod yX5_of, .selects RX5 yX5_of yX5_of, .initialized RX5, .code yX5_of cX5_of 3 (some .int), .fieldLink RX5 7 "EndVersionsModel" "now" "[I"] ++ wsX50)
def wsX5_laysRow : List Cond := .code yX5_laysRow cX5_laysRow 5 none :: ([.fieldLink RX5 64 "EndVersionsModel" "first" "I", .fieldLink RX5 67 "EndVersionsModel" "behind" "I", .fieldLink RX5 25 "EndVersionsModel" "way" "[I", .fieldLink RX5 22 "EndVersionsModel" "values" "[I", .methodLink RX5 60 yX5_laysWay, .instanceMethod yX5_laysWay, .selects RX5 yX5_laysWay yX5_laysWay, .initialized RX5, .code yX5_laysWay cX5_laysWay 5 (some .int), .methodLink RX5 56 yX5_of, .instanceMethod yX5_of, .selects RX5 yX5_of yX5_of, .code yX5_of cX5_of 3 (some .int), .fieldLink RX5 7 "EndVersionsModel" "now" "[I"] ++ wsX50)
def wsX5_valueAt : List Cond := .code yX5_valueAt cX5_valueAt 3 (some .int) :: ([.fieldLink RX5 22 "EndVersionsModel" "values" "[I", .fieldLink RX5 64 "EndVersionsModel" "first" "I", .methodLink RX5 70 yX5_laysRow, .instanceMethod yX5_laysRow, .selects RX5 yX5_laysRow yX5_laysRow, .initialized RX5, .code yX5_laysRow cX5_laysRow 5 none, .fieldLink RX5 67 "EndVersionsModel" "behind" "I", .fieldLink RX5 25 "EndVersionsModel" "way" "[I", .methodLink RX5 60 yX5_laysWay, .instanceMethod yX5_laysWay, .selects RX5 yX5_laysWay yX5_laysWay, .code yX5_laysWay cX5_laysWay 5 (some .int), .methodLink RX5 56 yX5_of, .instanceMethod yX5_of, .selects RX5 yX5_of yX5_of, .code yX5_of cX5_of 3 (some .int), .fieldLink RX5 7 "EndVersionsModel" "now" "[I"] ++ wsX50)
def wsX5_half : List Cond := .code yX5_half cX5_half 1 (some .int) :: ([])
def wsX5_isOver : List Cond := .code yX5_isOver cX5_isOver 2 none :: ([.methodLink RX5 56 yX5_of, .instanceMethod yX5_of, .selects RX5 yX5_of yX5_of, .initialized RX5, .code yX5_of cX5_of 3 (some .int), .fieldLink RX5 7 "EndVersionsModel" "now" "[I", .methodLink RX5 37 yX5_lays, .instanceMethod yX5_lays, .selects RX5 yX5_lays yX5_lays, .code yX5_lays cX5_lays 4 none] ++ wsX50)
def wsX5_begins : List Cond := .code yX5_begins cX5_begins 4 (some .int) :: ([.fieldLink RX5 7 "EndVersionsModel" "now" "[I", .methodLink RX5 56 yX5_of, .instanceMethod yX5_of, .selects RX5 yX5_of yX5_of, .initialized RX5, .code yX5_of cX5_of 3 (some .int), .methodLink RX5 37 yX5_lays, .instanceMethod yX5_lays, .selects RX5 yX5_lays yX5_lays, .code yX5_lays cX5_lays 4 none] ++ wsX50)
def wsX5_opens : List Cond := .code yX5_opens cX5_opens 4 none :: ([.methodLink RX5 56 yX5_of, .instanceMethod yX5_of, .selects RX5 yX5_of yX5_of, .initialized RX5, .code yX5_of cX5_of 3 (some .int), .fieldLink RX5 7 "EndVersionsModel" "now" "[I", .methodLink RX5 74 yX5_isOver, .instanceMethod yX5_isOver, .selects RX5 yX5_isOver yX5_isOver, .code yX5_isOver cX5_isOver 2 none, .methodLink RX5 37 yX5_lays, .instanceMethod yX5_lays, .selects RX5 yX5_lays yX5_lays, .code yX5_lays cX5_lays 4 none, .methodLink RX5 77 yX5_partOf, .instanceMethod yX5_partOf, .selects RX5 yX5_partOf yX5_partOf, .code yX5_partOf cX5_partOf 3 (some .int)] ++ wsX50)
def wsX5_changes : List Cond := .code yX5_changes cX5_changes 6 none :: ([.methodLink RX5 77 yX5_partOf, .instanceMethod yX5_partOf, .selects RX5 yX5_partOf yX5_partOf, .initialized RX5, .code yX5_partOf cX5_partOf 3 (some .int), .methodLink RX5 56 yX5_of, .instanceMethod yX5_of, .selects RX5 yX5_of yX5_of, .code yX5_of cX5_of 3 (some .int), .fieldLink RX5 7 "EndVersionsModel" "now" "[I", .methodLink RX5 81 yX5_adds, .instanceMethod yX5_adds, .selects RX5 yX5_adds yX5_adds, .code yX5_adds cX5_adds 4 none, .methodLink RX5 37 yX5_lays, .instanceMethod yX5_lays, .selects RX5 yX5_lays yX5_lays, .code yX5_lays cX5_lays 4 none] ++ wsX50)
def wsX5_pays_r1 : List Cond := [Cond.fieldLink RX5 7 "EndVersionsModel" "now" "[I", Cond.methodLink RX5 56 yX5_of, Cond.instanceMethod yX5_of, Cond.selects RX5 yX5_of yX5_of, Cond.initialized RX5, Cond.code yX5_of cX5_of 3 (some .int), Cond.methodLink RX5 81 yX5_adds, Cond.instanceMethod yX5_adds, Cond.selects RX5 yX5_adds yX5_adds, Cond.code yX5_adds cX5_adds 4 none, Cond.methodLink RX5 74 yX5_isOver, Cond.instanceMethod yX5_isOver, Cond.selects RX5 yX5_isOver yX5_isOver, Cond.code yX5_isOver cX5_isOver 2 none, Cond.methodLink RX5 37 yX5_lays, Cond.instanceMethod yX5_lays, Cond.selects RX5 yX5_lays yX5_lays, Cond.code yX5_lays cX5_lays 4 none, Cond.methodLink RX5 77 yX5_partOf, Cond.instanceMethod yX5_partOf, Cond.selects RX5 yX5_partOf yX5_partOf, Cond.code yX5_partOf cX5_partOf 3 (some .int), Cond.methodLink RX5 84 yX5_half, Cond.static yX5_half]
def wsX5_pays_r2 : List Cond := [Cond.code yX5_half cX5_half 1 (some .int)]
def wsX5_pays : List Cond := .code yX5_pays cX5_pays 6 none :: ((wsX5_pays_r1 ++ wsX5_pays_r2) ++ wsX50)
def wsX5_pushes_r1 : List Cond := [Cond.methodLink RX5 87 yX5_begins, Cond.instanceMethod yX5_begins, Cond.selects RX5 yX5_begins yX5_begins, Cond.initialized RX5, Cond.code yX5_begins cX5_begins 4 (some .int), Cond.fieldLink RX5 7 "EndVersionsModel" "now" "[I", Cond.methodLink RX5 56 yX5_of, Cond.instanceMethod yX5_of, Cond.selects RX5 yX5_of yX5_of, Cond.code yX5_of cX5_of 3 (some .int), Cond.methodLink RX5 37 yX5_lays, Cond.instanceMethod yX5_lays, Cond.selects RX5 yX5_lays yX5_lays, Cond.code yX5_lays cX5_lays 4 none, Cond.methodLink RX5 90 yX5_changes, Cond.instanceMethod yX5_changes, Cond.selects RX5 yX5_changes yX5_changes, Cond.code yX5_changes cX5_changes 6 none, Cond.methodLink RX5 77 yX5_partOf, Cond.instanceMethod yX5_partOf, Cond.selects RX5 yX5_partOf yX5_partOf, Cond.code yX5_partOf cX5_partOf 3 (some .int), Cond.methodLink RX5 81 yX5_adds, Cond.instanceMethod yX5_adds]
def wsX5_pushes_r2 : List Cond := [Cond.selects RX5 yX5_adds yX5_adds, Cond.code yX5_adds cX5_adds 4 none, Cond.methodLink RX5 94 yX5_pays, Cond.instanceMethod yX5_pays, Cond.selects RX5 yX5_pays yX5_pays, Cond.code yX5_pays cX5_pays 6 none, Cond.methodLink RX5 74 yX5_isOver, Cond.instanceMethod yX5_isOver, Cond.selects RX5 yX5_isOver yX5_isOver, Cond.code yX5_isOver cX5_isOver 2 none, Cond.methodLink RX5 84 yX5_half, Cond.static yX5_half, Cond.code yX5_half cX5_half 1 (some .int)]
def wsX5_pushes : List Cond := .code yX5_pushes cX5_pushes 5 (some .int) :: ((wsX5_pushes_r1 ++ wsX5_pushes_r2) ++ wsX50)
def wsX5_pops_r1 : List Cond := [Cond.methodLink RX5 56 yX5_of, Cond.instanceMethod yX5_of, Cond.selects RX5 yX5_of yX5_of, Cond.initialized RX5, Cond.code yX5_of cX5_of 3 (some .int), Cond.fieldLink RX5 7 "EndVersionsModel" "now" "[I", Cond.methodLink RX5 97 yX5_valueAt, Cond.instanceMethod yX5_valueAt, Cond.selects RX5 yX5_valueAt yX5_valueAt, Cond.code yX5_valueAt cX5_valueAt 3 (some .int), Cond.fieldLink RX5 22 "EndVersionsModel" "values" "[I", Cond.fieldLink RX5 64 "EndVersionsModel" "first" "I", Cond.methodLink RX5 70 yX5_laysRow, Cond.instanceMethod yX5_laysRow, Cond.selects RX5 yX5_laysRow yX5_laysRow, Cond.code yX5_laysRow cX5_laysRow 5 none, Cond.fieldLink RX5 67 "EndVersionsModel" "behind" "I", Cond.fieldLink RX5 25 "EndVersionsModel" "way" "[I", Cond.methodLink RX5 60 yX5_laysWay, Cond.instanceMethod yX5_laysWay, Cond.selects RX5 yX5_laysWay yX5_laysWay, Cond.code yX5_laysWay cX5_laysWay 5 (some .int), Cond.methodLink RX5 87 yX5_begins, Cond.instanceMethod yX5_begins]
def wsX5_pops_r2 : List Cond := [Cond.selects RX5 yX5_begins yX5_begins, Cond.code yX5_begins cX5_begins 4 (some .int), Cond.methodLink RX5 37 yX5_lays, Cond.instanceMethod yX5_lays, Cond.selects RX5 yX5_lays yX5_lays, Cond.code yX5_lays cX5_lays 4 none, Cond.methodLink RX5 77 yX5_partOf, Cond.instanceMethod yX5_partOf, Cond.selects RX5 yX5_partOf yX5_partOf, Cond.code yX5_partOf cX5_partOf 3 (some .int), Cond.methodLink RX5 100 yX5_opens, Cond.instanceMethod yX5_opens, Cond.selects RX5 yX5_opens yX5_opens, Cond.code yX5_opens cX5_opens 4 none, Cond.methodLink RX5 74 yX5_isOver, Cond.instanceMethod yX5_isOver, Cond.selects RX5 yX5_isOver yX5_isOver, Cond.code yX5_isOver cX5_isOver 2 none, Cond.methodLink RX5 90 yX5_changes, Cond.instanceMethod yX5_changes, Cond.selects RX5 yX5_changes yX5_changes, Cond.code yX5_changes cX5_changes 6 none, Cond.methodLink RX5 81 yX5_adds, Cond.instanceMethod yX5_adds]
def wsX5_pops_r3 : List Cond := [Cond.selects RX5 yX5_adds yX5_adds, Cond.code yX5_adds cX5_adds 4 none, Cond.methodLink RX5 94 yX5_pays, Cond.instanceMethod yX5_pays, Cond.selects RX5 yX5_pays yX5_pays, Cond.code yX5_pays cX5_pays 6 none, Cond.methodLink RX5 84 yX5_half, Cond.static yX5_half, Cond.code yX5_half cX5_half 1 (some .int)]
def wsX5_pops : List Cond := .code yX5_pops cX5_pops 5 (some .int) :: ((wsX5_pops_r1 ++ (wsX5_pops_r2 ++ wsX5_pops_r3)) ++ wsX50)
def wsX5_set : List Cond := .code yX5_set cX5_set 4 (some .int) :: ([.fieldLink RX5 41 "EndVersionsModel" "thrown" "I", .fieldLink RX5 7 "EndVersionsModel" "now" "[I", .methodLink RX5 52 yX5_in, .static yX5_in, .initialized RX5, .code yX5_in cX5_in 3 (some .boolean), .methodLink RX5 104 yX5_saves, .instanceMethod yX5_saves, .selects RX5 yX5_saves yX5_saves, .code yX5_saves cX5_saves 2 none, .fieldLink RX5 45 "EndVersionsModel" "pasts" "I", .fieldLink RX5 13 "EndVersionsModel" "past" "[I", .methodLink RX5 48 yX5_copies, .static yX5_copies, .code yX5_copies cX5_copies 5 none] ++ wsX50)
def wsX5_push_r1 : List Cond := [Cond.fieldLink RX5 7 "EndVersionsModel" "now" "[I", Cond.fieldLink RX5 41 "EndVersionsModel" "thrown" "I", Cond.methodLink RX5 107 yX5_isVersion, Cond.instanceMethod yX5_isVersion, Cond.selects RX5 yX5_isVersion yX5_isVersion, Cond.initialized RX5, Cond.code yX5_isVersion cX5_isVersion 2 (some .boolean), Cond.methodLink RX5 52 yX5_in, Cond.static yX5_in, Cond.code yX5_in cX5_in 3 (some .boolean), Cond.methodLink RX5 56 yX5_of, Cond.instanceMethod yX5_of, Cond.selects RX5 yX5_of yX5_of, Cond.code yX5_of cX5_of 3 (some .int), Cond.methodLink RX5 104 yX5_saves, Cond.instanceMethod yX5_saves, Cond.selects RX5 yX5_saves yX5_saves, Cond.code yX5_saves cX5_saves 2 none, Cond.fieldLink RX5 45 "EndVersionsModel" "pasts" "I", Cond.fieldLink RX5 13 "EndVersionsModel" "past" "[I", Cond.methodLink RX5 48 yX5_copies, Cond.static yX5_copies, Cond.code yX5_copies cX5_copies 5 none, Cond.methodLink RX5 111 yX5_pushes]
def wsX5_push_r2 : List Cond := [Cond.instanceMethod yX5_pushes, Cond.selects RX5 yX5_pushes yX5_pushes, Cond.code yX5_pushes cX5_pushes 5 (some .int), Cond.methodLink RX5 87 yX5_begins, Cond.instanceMethod yX5_begins, Cond.selects RX5 yX5_begins yX5_begins, Cond.code yX5_begins cX5_begins 4 (some .int), Cond.methodLink RX5 37 yX5_lays, Cond.instanceMethod yX5_lays, Cond.selects RX5 yX5_lays yX5_lays, Cond.code yX5_lays cX5_lays 4 none, Cond.methodLink RX5 90 yX5_changes, Cond.instanceMethod yX5_changes, Cond.selects RX5 yX5_changes yX5_changes, Cond.code yX5_changes cX5_changes 6 none, Cond.methodLink RX5 77 yX5_partOf, Cond.instanceMethod yX5_partOf, Cond.selects RX5 yX5_partOf yX5_partOf, Cond.code yX5_partOf cX5_partOf 3 (some .int), Cond.methodLink RX5 81 yX5_adds, Cond.instanceMethod yX5_adds, Cond.selects RX5 yX5_adds yX5_adds, Cond.code yX5_adds cX5_adds 4 none, Cond.methodLink RX5 94 yX5_pays]
def wsX5_push_r3 : List Cond := [Cond.instanceMethod yX5_pays, Cond.selects RX5 yX5_pays yX5_pays, Cond.code yX5_pays cX5_pays 6 none, Cond.methodLink RX5 74 yX5_isOver, Cond.instanceMethod yX5_isOver, Cond.selects RX5 yX5_isOver yX5_isOver, Cond.code yX5_isOver cX5_isOver 2 none, Cond.methodLink RX5 84 yX5_half, Cond.static yX5_half, Cond.code yX5_half cX5_half 1 (some .int)]
def wsX5_push : List Cond := .code yX5_push cX5_push 4 (some .int) :: ((wsX5_push_r1 ++ (wsX5_push_r2 ++ wsX5_push_r3)) ++ wsX50)
def wsX5_pop_r1 : List Cond := [Cond.fieldLink RX5 7 "EndVersionsModel" "now" "[I", Cond.fieldLink RX5 41 "EndVersionsModel" "thrown" "I", Cond.methodLink RX5 107 yX5_isVersion, Cond.instanceMethod yX5_isVersion, Cond.selects RX5 yX5_isVersion yX5_isVersion, Cond.initialized RX5, Cond.code yX5_isVersion cX5_isVersion 2 (some .boolean), Cond.methodLink RX5 52 yX5_in, Cond.static yX5_in, Cond.code yX5_in cX5_in 3 (some .boolean), Cond.methodLink RX5 56 yX5_of, Cond.instanceMethod yX5_of, Cond.selects RX5 yX5_of yX5_of, Cond.code yX5_of cX5_of 3 (some .int), Cond.methodLink RX5 104 yX5_saves, Cond.instanceMethod yX5_saves, Cond.selects RX5 yX5_saves yX5_saves, Cond.code yX5_saves cX5_saves 2 none, Cond.fieldLink RX5 45 "EndVersionsModel" "pasts" "I", Cond.fieldLink RX5 13 "EndVersionsModel" "past" "[I", Cond.methodLink RX5 48 yX5_copies, Cond.static yX5_copies, Cond.code yX5_copies cX5_copies 5 none, Cond.methodLink RX5 115 yX5_pops]
def wsX5_pop_r2 : List Cond := [Cond.instanceMethod yX5_pops, Cond.selects RX5 yX5_pops yX5_pops, Cond.code yX5_pops cX5_pops 5 (some .int), Cond.methodLink RX5 97 yX5_valueAt, Cond.instanceMethod yX5_valueAt, Cond.selects RX5 yX5_valueAt yX5_valueAt, Cond.code yX5_valueAt cX5_valueAt 3 (some .int), Cond.fieldLink RX5 22 "EndVersionsModel" "values" "[I", Cond.fieldLink RX5 64 "EndVersionsModel" "first" "I", Cond.methodLink RX5 70 yX5_laysRow, Cond.instanceMethod yX5_laysRow, Cond.selects RX5 yX5_laysRow yX5_laysRow, Cond.code yX5_laysRow cX5_laysRow 5 none, Cond.fieldLink RX5 67 "EndVersionsModel" "behind" "I", Cond.fieldLink RX5 25 "EndVersionsModel" "way" "[I", Cond.methodLink RX5 60 yX5_laysWay, Cond.instanceMethod yX5_laysWay, Cond.selects RX5 yX5_laysWay yX5_laysWay, Cond.code yX5_laysWay cX5_laysWay 5 (some .int), Cond.methodLink RX5 87 yX5_begins, Cond.instanceMethod yX5_begins, Cond.selects RX5 yX5_begins yX5_begins, Cond.code yX5_begins cX5_begins 4 (some .int), Cond.methodLink RX5 37 yX5_lays]
def wsX5_pop_r3 : List Cond := [Cond.instanceMethod yX5_lays, Cond.selects RX5 yX5_lays yX5_lays, Cond.code yX5_lays cX5_lays 4 none, Cond.methodLink RX5 77 yX5_partOf, Cond.instanceMethod yX5_partOf, Cond.selects RX5 yX5_partOf yX5_partOf, Cond.code yX5_partOf cX5_partOf 3 (some .int), Cond.methodLink RX5 100 yX5_opens, Cond.instanceMethod yX5_opens, Cond.selects RX5 yX5_opens yX5_opens, Cond.code yX5_opens cX5_opens 4 none, Cond.methodLink RX5 74 yX5_isOver, Cond.instanceMethod yX5_isOver, Cond.selects RX5 yX5_isOver yX5_isOver, Cond.code yX5_isOver cX5_isOver 2 none, Cond.methodLink RX5 90 yX5_changes, Cond.instanceMethod yX5_changes, Cond.selects RX5 yX5_changes yX5_changes, Cond.code yX5_changes cX5_changes 6 none, Cond.methodLink RX5 81 yX5_adds, Cond.instanceMethod yX5_adds, Cond.selects RX5 yX5_adds yX5_adds, Cond.code yX5_adds cX5_adds 4 none, Cond.methodLink RX5 94 yX5_pays]
def wsX5_pop_r4 : List Cond := [Cond.instanceMethod yX5_pays, Cond.selects RX5 yX5_pays yX5_pays, Cond.code yX5_pays cX5_pays 6 none, Cond.methodLink RX5 84 yX5_half, Cond.static yX5_half, Cond.code yX5_half cX5_half 1 (some .int)]
def wsX5_pop : List Cond := .code yX5_pop cX5_pop 3 (some .int) :: ((wsX5_pop_r1 ++ (wsX5_pop_r2 ++ (wsX5_pop_r3 ++ wsX5_pop_r4))) ++ wsX50)
def wsX5_drop : List Cond := .code yX5_drop cX5_drop 1 (some .int) :: ([.fieldLink RX5 7 "EndVersionsModel" "now" "[I", .fieldLink RX5 41 "EndVersionsModel" "thrown" "I", .methodLink RX5 104 yX5_saves, .instanceMethod yX5_saves, .selects RX5 yX5_saves yX5_saves, .initialized RX5, .code yX5_saves cX5_saves 2 none, .fieldLink RX5 45 "EndVersionsModel" "pasts" "I", .fieldLink RX5 13 "EndVersionsModel" "past" "[I", .methodLink RX5 48 yX5_copies, .static yX5_copies, .code yX5_copies cX5_copies 5 none] ++ wsX50)
def wsX5_clear : List Cond := .code yX5_clear cX5_clear 2 (some .int) :: ([.fieldLink RX5 41 "EndVersionsModel" "thrown" "I", .fieldLink RX5 7 "EndVersionsModel" "now" "[I", .methodLink RX5 104 yX5_saves, .instanceMethod yX5_saves, .selects RX5 yX5_saves yX5_saves, .initialized RX5, .code yX5_saves cX5_saves 2 none, .fieldLink RX5 45 "EndVersionsModel" "pasts" "I", .fieldLink RX5 13 "EndVersionsModel" "past" "[I", .methodLink RX5 48 yX5_copies, .static yX5_copies, .code yX5_copies cX5_copies 5 none] ++ wsX50)
def wsX5_told : List Cond := .code yX5_told cX5_told 3 (some .int) :: ([.methodLink RX5 56 yX5_of, .instanceMethod yX5_of, .selects RX5 yX5_of yX5_of, .initialized RX5, .code yX5_of cX5_of 3 (some .int), .fieldLink RX5 7 "EndVersionsModel" "now" "[I", .methodLink RX5 77 yX5_partOf, .instanceMethod yX5_partOf, .selects RX5 yX5_partOf yX5_partOf, .code yX5_partOf cX5_partOf 3 (some .int)] ++ wsX50)
def wsX5_version : List Cond := .code yX5_version cX5_version 3 (some .int) :: ([.fieldLink RX5 41 "EndVersionsModel" "thrown" "I", .methodLink RX5 107 yX5_isVersion, .instanceMethod yX5_isVersion, .selects RX5 yX5_isVersion yX5_isVersion, .initialized RX5, .code yX5_isVersion cX5_isVersion 2 (some .boolean), .fieldLink RX5 7 "EndVersionsModel" "now" "[I", .methodLink RX5 52 yX5_in, .static yX5_in, .code yX5_in cX5_in 3 (some .boolean), .methodLink RX5 118 yX5_told, .instanceMethod yX5_told, .selects RX5 yX5_told yX5_told, .code yX5_told cX5_told 3 (some .int), .methodLink RX5 56 yX5_of, .instanceMethod yX5_of, .selects RX5 yX5_of yX5_of, .code yX5_of cX5_of 3 (some .int), .methodLink RX5 77 yX5_partOf, .instanceMethod yX5_partOf, .selects RX5 yX5_partOf yX5_partOf, .code yX5_partOf cX5_partOf 3 (some .int)] ++ wsX50)
def wsX5_value : List Cond := .code yX5_value cX5_value 2 (some .int) :: ([.fieldLink RX5 41 "EndVersionsModel" "thrown" "I", .methodLink RX5 107 yX5_isVersion, .instanceMethod yX5_isVersion, .selects RX5 yX5_isVersion yX5_isVersion, .initialized RX5, .code yX5_isVersion cX5_isVersion 2 (some .boolean), .fieldLink RX5 7 "EndVersionsModel" "now" "[I", .methodLink RX5 52 yX5_in, .static yX5_in, .code yX5_in cX5_in 3 (some .boolean), .methodLink RX5 56 yX5_of, .instanceMethod yX5_of, .selects RX5 yX5_of yX5_of, .code yX5_of cX5_of 3 (some .int)] ++ wsX50)
def wsX5_isPlace : List Cond := .code yX5_isPlace cX5_isPlace 3 (some .boolean) :: ([.methodLink RX5 107 yX5_isVersion, .instanceMethod yX5_isVersion, .selects RX5 yX5_isVersion yX5_isVersion, .initialized RX5, .code yX5_isVersion cX5_isVersion 2 (some .boolean), .fieldLink RX5 7 "EndVersionsModel" "now" "[I", .methodLink RX5 52 yX5_in, .static yX5_in, .code yX5_in cX5_in 3 (some .boolean), .methodLink RX5 56 yX5_of, .instanceMethod yX5_of, .selects RX5 yX5_of yX5_of, .code yX5_of cX5_of 3 (some .int)] ++ wsX50)
def wsX5_at_r1 : List Cond := [Cond.fieldLink RX5 41 "EndVersionsModel" "thrown" "I", Cond.methodLink RX5 120 yX5_isPlace, Cond.instanceMethod yX5_isPlace, Cond.selects RX5 yX5_isPlace yX5_isPlace, Cond.initialized RX5, Cond.code yX5_isPlace cX5_isPlace 3 (some .boolean), Cond.methodLink RX5 107 yX5_isVersion, Cond.instanceMethod yX5_isVersion, Cond.selects RX5 yX5_isVersion yX5_isVersion, Cond.code yX5_isVersion cX5_isVersion 2 (some .boolean), Cond.fieldLink RX5 7 "EndVersionsModel" "now" "[I", Cond.methodLink RX5 52 yX5_in, Cond.static yX5_in, Cond.code yX5_in cX5_in 3 (some .boolean), Cond.methodLink RX5 56 yX5_of, Cond.instanceMethod yX5_of, Cond.selects RX5 yX5_of yX5_of, Cond.code yX5_of cX5_of 3 (some .int), Cond.methodLink RX5 97 yX5_valueAt, Cond.instanceMethod yX5_valueAt, Cond.selects RX5 yX5_valueAt yX5_valueAt, Cond.code yX5_valueAt cX5_valueAt 3 (some .int), Cond.fieldLink RX5 22 "EndVersionsModel" "values" "[I", Cond.fieldLink RX5 64 "EndVersionsModel" "first" "I"]
def wsX5_at_r2 : List Cond := [Cond.methodLink RX5 70 yX5_laysRow, Cond.instanceMethod yX5_laysRow, Cond.selects RX5 yX5_laysRow yX5_laysRow, Cond.code yX5_laysRow cX5_laysRow 5 none, Cond.fieldLink RX5 67 "EndVersionsModel" "behind" "I", Cond.fieldLink RX5 25 "EndVersionsModel" "way" "[I", Cond.methodLink RX5 60 yX5_laysWay, Cond.instanceMethod yX5_laysWay, Cond.selects RX5 yX5_laysWay yX5_laysWay, Cond.code yX5_laysWay cX5_laysWay 5 (some .int)]
def wsX5_at : List Cond := .code yX5_at cX5_at 3 (some .int) :: ((wsX5_at_r1 ++ wsX5_at_r2) ++ wsX50)
def wsX5_steps : List Cond := .code yX5_steps cX5_steps 3 (some .int) :: ([.fieldLink RX5 41 "EndVersionsModel" "thrown" "I", .methodLink RX5 120 yX5_isPlace, .instanceMethod yX5_isPlace, .selects RX5 yX5_isPlace yX5_isPlace, .initialized RX5, .code yX5_isPlace cX5_isPlace 3 (some .boolean), .methodLink RX5 107 yX5_isVersion, .instanceMethod yX5_isVersion, .selects RX5 yX5_isVersion yX5_isVersion, .code yX5_isVersion cX5_isVersion 2 (some .boolean), .fieldLink RX5 7 "EndVersionsModel" "now" "[I", .methodLink RX5 52 yX5_in, .static yX5_in, .code yX5_in cX5_in 3 (some .boolean), .methodLink RX5 56 yX5_of, .instanceMethod yX5_of, .selects RX5 yX5_of yX5_of, .code yX5_of cX5_of 3 (some .int)] ++ wsX50)
def wsX5_hasChild : List Cond := .code yX5_hasChild cX5_hasChild 3 (some .boolean) :: ([.fieldLink RX5 7 "EndVersionsModel" "now" "[I", .methodLink RX5 56 yX5_of, .instanceMethod yX5_of, .selects RX5 yX5_of yX5_of, .initialized RX5, .code yX5_of cX5_of 3 (some .int)] ++ wsX50)
def wsX5_counted : List Cond := .code yX5_counted cX5_counted 4 (some .int) :: ([.fieldLink RX5 7 "EndVersionsModel" "now" "[I", .methodLink RX5 124 yX5_hasChild, .instanceMethod yX5_hasChild, .selects RX5 yX5_hasChild yX5_hasChild, .initialized RX5, .code yX5_hasChild cX5_hasChild 3 (some .boolean), .methodLink RX5 56 yX5_of, .instanceMethod yX5_of, .selects RX5 yX5_of yX5_of, .code yX5_of cX5_of 3 (some .int)] ++ wsX50)
def wsX5_count : List Cond := .code yX5_count cX5_count 2 (some .int) :: ([.fieldLink RX5 41 "EndVersionsModel" "thrown" "I", .methodLink RX5 52 yX5_in, .static yX5_in, .initialized RX5, .code yX5_in cX5_in 3 (some .boolean), .methodLink RX5 127 yX5_counted, .instanceMethod yX5_counted, .selects RX5 yX5_counted yX5_counted, .code yX5_counted cX5_counted 4 (some .int), .fieldLink RX5 7 "EndVersionsModel" "now" "[I", .methodLink RX5 124 yX5_hasChild, .instanceMethod yX5_hasChild, .selects RX5 yX5_hasChild yX5_hasChild, .code yX5_hasChild cX5_hasChild 3 (some .boolean), .methodLink RX5 56 yX5_of, .instanceMethod yX5_of, .selects RX5 yX5_of yX5_of, .code yX5_of cX5_of 3 (some .int)] ++ wsX50)
def wsX5_setting : List Cond := .code yX5_setting cX5_setting 2 (some .int) :: ([.fieldLink RX5 41 "EndVersionsModel" "thrown" "I", .fieldLink RX5 7 "EndVersionsModel" "now" "[I", .methodLink RX5 52 yX5_in, .static yX5_in, .initialized RX5, .code yX5_in cX5_in 3 (some .boolean)] ++ wsX50)
def wsX5_common : List Cond := .code yX5_common cX5_common 7 (some .int) :: ([.fieldLink RX5 41 "EndVersionsModel" "thrown" "I", .methodLink RX5 107 yX5_isVersion, .instanceMethod yX5_isVersion, .selects RX5 yX5_isVersion yX5_isVersion, .initialized RX5, .code yX5_isVersion cX5_isVersion 2 (some .boolean), .fieldLink RX5 7 "EndVersionsModel" "now" "[I", .methodLink RX5 52 yX5_in, .static yX5_in, .code yX5_in cX5_in 3 (some .boolean), .methodLink RX5 56 yX5_of, .instanceMethod yX5_of, .selects RX5 yX5_of yX5_of, .code yX5_of cX5_of 3 (some .int)] ++ wsX50)
def wsX5_areSame : List Cond := .code yX5_areSame cX5_areSame 6 (some .boolean) :: ([.fieldLink RX5 28 "EndVersionsModel" "row" "[I", .fieldLink RX5 22 "EndVersionsModel" "values" "[I", .fieldLink RX5 64 "EndVersionsModel" "first" "I", .methodLink RX5 56 yX5_of, .instanceMethod yX5_of, .selects RX5 yX5_of yX5_of, .initialized RX5, .code yX5_of cX5_of 3 (some .int), .fieldLink RX5 7 "EndVersionsModel" "now" "[I", .methodLink RX5 70 yX5_laysRow, .instanceMethod yX5_laysRow, .selects RX5 yX5_laysRow yX5_laysRow, .code yX5_laysRow cX5_laysRow 5 none, .fieldLink RX5 67 "EndVersionsModel" "behind" "I", .fieldLink RX5 25 "EndVersionsModel" "way" "[I", .methodLink RX5 60 yX5_laysWay, .instanceMethod yX5_laysWay, .selects RX5 yX5_laysWay yX5_laysWay, .code yX5_laysWay cX5_laysWay 5 (some .int)] ++ wsX50)
def wsX5_same_r1 : List Cond := [Cond.fieldLink RX5 41 "EndVersionsModel" "thrown" "I", Cond.methodLink RX5 107 yX5_isVersion, Cond.instanceMethod yX5_isVersion, Cond.selects RX5 yX5_isVersion yX5_isVersion, Cond.initialized RX5, Cond.code yX5_isVersion cX5_isVersion 2 (some .boolean), Cond.fieldLink RX5 7 "EndVersionsModel" "now" "[I", Cond.methodLink RX5 52 yX5_in, Cond.static yX5_in, Cond.code yX5_in cX5_in 3 (some .boolean), Cond.methodLink RX5 130 yX5_areSame, Cond.instanceMethod yX5_areSame, Cond.selects RX5 yX5_areSame yX5_areSame, Cond.code yX5_areSame cX5_areSame 6 (some .boolean), Cond.fieldLink RX5 28 "EndVersionsModel" "row" "[I", Cond.fieldLink RX5 22 "EndVersionsModel" "values" "[I", Cond.fieldLink RX5 64 "EndVersionsModel" "first" "I", Cond.methodLink RX5 56 yX5_of, Cond.instanceMethod yX5_of, Cond.selects RX5 yX5_of yX5_of, Cond.code yX5_of cX5_of 3 (some .int), Cond.methodLink RX5 70 yX5_laysRow, Cond.instanceMethod yX5_laysRow, Cond.selects RX5 yX5_laysRow yX5_laysRow]
def wsX5_same_r2 : List Cond := [Cond.code yX5_laysRow cX5_laysRow 5 none, Cond.fieldLink RX5 67 "EndVersionsModel" "behind" "I", Cond.fieldLink RX5 25 "EndVersionsModel" "way" "[I", Cond.methodLink RX5 60 yX5_laysWay, Cond.instanceMethod yX5_laysWay, Cond.selects RX5 yX5_laysWay yX5_laysWay, Cond.code yX5_laysWay cX5_laysWay 5 (some .int)]
def wsX5_same : List Cond := .code yX5_same cX5_same 3 (some .boolean) :: ((wsX5_same_r1 ++ wsX5_same_r2) ++ wsX50)
def wsX5_firstLike_r1 : List Cond := [Cond.fieldLink RX5 41 "EndVersionsModel" "thrown" "I", Cond.methodLink RX5 107 yX5_isVersion, Cond.instanceMethod yX5_isVersion, Cond.selects RX5 yX5_isVersion yX5_isVersion, Cond.initialized RX5, Cond.code yX5_isVersion cX5_isVersion 2 (some .boolean), Cond.fieldLink RX5 7 "EndVersionsModel" "now" "[I", Cond.methodLink RX5 52 yX5_in, Cond.static yX5_in, Cond.code yX5_in cX5_in 3 (some .boolean), Cond.methodLink RX5 130 yX5_areSame, Cond.instanceMethod yX5_areSame, Cond.selects RX5 yX5_areSame yX5_areSame, Cond.code yX5_areSame cX5_areSame 6 (some .boolean), Cond.fieldLink RX5 28 "EndVersionsModel" "row" "[I", Cond.fieldLink RX5 22 "EndVersionsModel" "values" "[I", Cond.fieldLink RX5 64 "EndVersionsModel" "first" "I", Cond.methodLink RX5 56 yX5_of, Cond.instanceMethod yX5_of, Cond.selects RX5 yX5_of yX5_of, Cond.code yX5_of cX5_of 3 (some .int), Cond.methodLink RX5 70 yX5_laysRow, Cond.instanceMethod yX5_laysRow, Cond.selects RX5 yX5_laysRow yX5_laysRow]
def wsX5_firstLike_r2 : List Cond := [Cond.code yX5_laysRow cX5_laysRow 5 none, Cond.fieldLink RX5 67 "EndVersionsModel" "behind" "I", Cond.fieldLink RX5 25 "EndVersionsModel" "way" "[I", Cond.methodLink RX5 60 yX5_laysWay, Cond.instanceMethod yX5_laysWay, Cond.selects RX5 yX5_laysWay yX5_laysWay, Cond.code yX5_laysWay cX5_laysWay 5 (some .int)]
def wsX5_firstLike : List Cond := .code yX5_firstLike cX5_firstLike 3 (some .int) :: ((wsX5_firstLike_r1 ++ wsX5_firstLike_r2) ++ wsX50)
def wsX5_worst : List Cond := .code yX5_worst cX5_worst 5 (some .int) :: ([.fieldLink RX5 41 "EndVersionsModel" "thrown" "I", .fieldLink RX5 25 "EndVersionsModel" "way" "[I", .methodLink RX5 107 yX5_isVersion, .instanceMethod yX5_isVersion, .selects RX5 yX5_isVersion yX5_isVersion, .initialized RX5, .code yX5_isVersion cX5_isVersion 2 (some .boolean), .fieldLink RX5 7 "EndVersionsModel" "now" "[I", .methodLink RX5 52 yX5_in, .static yX5_in, .code yX5_in cX5_in 3 (some .boolean), .methodLink RX5 60 yX5_laysWay, .instanceMethod yX5_laysWay, .selects RX5 yX5_laysWay yX5_laysWay, .code yX5_laysWay cX5_laysWay 5 (some .int), .methodLink RX5 56 yX5_of, .instanceMethod yX5_of, .selects RX5 yX5_of yX5_of, .code yX5_of cX5_of 3 (some .int)] ++ wsX50)
def wsX5_mean : List Cond := .code yX5_mean cX5_mean 5 (some .double) :: ([.fieldLink RX5 41 "EndVersionsModel" "thrown" "I", .fieldLink RX5 25 "EndVersionsModel" "way" "[I", .methodLink RX5 107 yX5_isVersion, .instanceMethod yX5_isVersion, .selects RX5 yX5_isVersion yX5_isVersion, .initialized RX5, .code yX5_isVersion cX5_isVersion 2 (some .boolean), .fieldLink RX5 7 "EndVersionsModel" "now" "[I", .methodLink RX5 52 yX5_in, .static yX5_in, .code yX5_in cX5_in 3 (some .boolean), .methodLink RX5 60 yX5_laysWay, .instanceMethod yX5_laysWay, .selects RX5 yX5_laysWay yX5_laysWay, .code yX5_laysWay cX5_laysWay 5 (some .int), .methodLink RX5 56 yX5_of, .instanceMethod yX5_of, .selects RX5 yX5_of yX5_of, .code yX5_of cX5_of 3 (some .int)] ++ wsX50)
def wsX5_append : List Cond := .code yX5_append cX5_append 2 (some .int) :: ([.fieldLink RX5 133 "EndVersionsModel" "typed" "I", .fieldLink RX5 41 "EndVersionsModel" "thrown" "I", .fieldLink RX5 19 "EndVersionsModel" "text" "[I", .methodLink RX5 52 yX5_in, .static yX5_in, .initialized RX5, .code yX5_in cX5_in 3 (some .boolean)] ++ wsX50)
def wsX5_clearText : List Cond := .code yX5_clearText cX5_clearText 2 (some .int) :: ([.fieldLink RX5 41 "EndVersionsModel" "thrown" "I", .fieldLink RX5 133 "EndVersionsModel" "typed" "I"] ++ wsX50)
def wsX5_byteAt : List Cond := .code yX5_byteAt cX5_byteAt 2 (some .int) :: ([.fieldLink RX5 133 "EndVersionsModel" "typed" "I", .fieldLink RX5 19 "EndVersionsModel" "text" "[I"] ++ wsX50)
def wsX5_readsValue : List Cond := .code yX5_readsValue cX5_readsValue 4 (some .boolean) :: ([.fieldLink RX5 136 "EndVersionsModel" "at" "I", .fieldLink RX5 34 "EndVersionsModel" "told" "[I", .fieldLink RX5 142 "EndVersionsModel" "actMany" "I", .methodLink RX5 139 yX5_byteAt, .instanceMethod yX5_byteAt, .selects RX5 yX5_byteAt yX5_byteAt, .initialized RX5, .code yX5_byteAt cX5_byteAt 2 (some .int), .fieldLink RX5 133 "EndVersionsModel" "typed" "I", .fieldLink RX5 19 "EndVersionsModel" "text" "[I", .methodLink RX5 52 yX5_in, .static yX5_in, .code yX5_in cX5_in 3 (some .boolean)] ++ wsX50)
def wsX5_faultOf : List Cond := .code yX5_faultOf cX5_faultOf 3 (some .int) :: ([.fieldLink RX5 136 "EndVersionsModel" "at" "I", .fieldLink RX5 142 "EndVersionsModel" "actMany" "I", .fieldLink RX5 133 "EndVersionsModel" "typed" "I", .fieldLink RX5 19 "EndVersionsModel" "text" "[I", .fieldLink RX5 31 "EndVersionsModel" "acts" "[I", .methodLink RX5 145 yX5_readsValue, .instanceMethod yX5_readsValue, .selects RX5 yX5_readsValue yX5_readsValue, .initialized RX5, .code yX5_readsValue cX5_readsValue 4 (some .boolean), .fieldLink RX5 34 "EndVersionsModel" "told" "[I", .methodLink RX5 139 yX5_byteAt, .instanceMethod yX5_byteAt, .selects RX5 yX5_byteAt yX5_byteAt, .code yX5_byteAt cX5_byteAt 2 (some .int), .methodLink RX5 52 yX5_in, .static yX5_in, .code yX5_in cX5_in 3 (some .boolean)] ++ wsX50)
def wsX5_doesAll_r1 : List Cond := [Cond.fieldLink RX5 142 "EndVersionsModel" "actMany" "I", Cond.fieldLink RX5 7 "EndVersionsModel" "now" "[I", Cond.fieldLink RX5 31 "EndVersionsModel" "acts" "[I", Cond.fieldLink RX5 34 "EndVersionsModel" "told" "[I", Cond.methodLink RX5 56 yX5_of, Cond.instanceMethod yX5_of, Cond.selects RX5 yX5_of yX5_of, Cond.initialized RX5, Cond.code yX5_of cX5_of 3 (some .int), Cond.methodLink RX5 111 yX5_pushes, Cond.instanceMethod yX5_pushes, Cond.selects RX5 yX5_pushes yX5_pushes, Cond.code yX5_pushes cX5_pushes 5 (some .int), Cond.methodLink RX5 87 yX5_begins, Cond.instanceMethod yX5_begins, Cond.selects RX5 yX5_begins yX5_begins, Cond.code yX5_begins cX5_begins 4 (some .int), Cond.methodLink RX5 37 yX5_lays, Cond.instanceMethod yX5_lays, Cond.selects RX5 yX5_lays yX5_lays, Cond.code yX5_lays cX5_lays 4 none, Cond.methodLink RX5 90 yX5_changes, Cond.instanceMethod yX5_changes, Cond.selects RX5 yX5_changes yX5_changes]
def wsX5_doesAll_r2 : List Cond := [Cond.code yX5_changes cX5_changes 6 none, Cond.methodLink RX5 77 yX5_partOf, Cond.instanceMethod yX5_partOf, Cond.selects RX5 yX5_partOf yX5_partOf, Cond.code yX5_partOf cX5_partOf 3 (some .int), Cond.methodLink RX5 81 yX5_adds, Cond.instanceMethod yX5_adds, Cond.selects RX5 yX5_adds yX5_adds, Cond.code yX5_adds cX5_adds 4 none, Cond.methodLink RX5 94 yX5_pays, Cond.instanceMethod yX5_pays, Cond.selects RX5 yX5_pays yX5_pays, Cond.code yX5_pays cX5_pays 6 none, Cond.methodLink RX5 74 yX5_isOver, Cond.instanceMethod yX5_isOver, Cond.selects RX5 yX5_isOver yX5_isOver, Cond.code yX5_isOver cX5_isOver 2 none, Cond.methodLink RX5 84 yX5_half, Cond.static yX5_half, Cond.code yX5_half cX5_half 1 (some .int), Cond.methodLink RX5 115 yX5_pops, Cond.instanceMethod yX5_pops, Cond.selects RX5 yX5_pops yX5_pops, Cond.code yX5_pops cX5_pops 5 (some .int)]
def wsX5_doesAll_r3 : List Cond := [Cond.methodLink RX5 97 yX5_valueAt, Cond.instanceMethod yX5_valueAt, Cond.selects RX5 yX5_valueAt yX5_valueAt, Cond.code yX5_valueAt cX5_valueAt 3 (some .int), Cond.fieldLink RX5 22 "EndVersionsModel" "values" "[I", Cond.fieldLink RX5 64 "EndVersionsModel" "first" "I", Cond.methodLink RX5 70 yX5_laysRow, Cond.instanceMethod yX5_laysRow, Cond.selects RX5 yX5_laysRow yX5_laysRow, Cond.code yX5_laysRow cX5_laysRow 5 none, Cond.fieldLink RX5 67 "EndVersionsModel" "behind" "I", Cond.fieldLink RX5 25 "EndVersionsModel" "way" "[I", Cond.methodLink RX5 60 yX5_laysWay, Cond.instanceMethod yX5_laysWay, Cond.selects RX5 yX5_laysWay yX5_laysWay, Cond.code yX5_laysWay cX5_laysWay 5 (some .int), Cond.methodLink RX5 100 yX5_opens, Cond.instanceMethod yX5_opens, Cond.selects RX5 yX5_opens yX5_opens, Cond.code yX5_opens cX5_opens 4 none]
def wsX5_doesAll : List Cond := .code yX5_doesAll cX5_doesAll 5 (some .int) :: ((wsX5_doesAll_r1 ++ (wsX5_doesAll_r2 ++ wsX5_doesAll_r3)) ++ wsX50)
def wsX5_run_r1 : List Cond := [Cond.fieldLink RX5 41 "EndVersionsModel" "thrown" "I", Cond.methodLink RX5 107 yX5_isVersion, Cond.instanceMethod yX5_isVersion, Cond.selects RX5 yX5_isVersion yX5_isVersion, Cond.initialized RX5, Cond.code yX5_isVersion cX5_isVersion 2 (some .boolean), Cond.fieldLink RX5 7 "EndVersionsModel" "now" "[I", Cond.methodLink RX5 52 yX5_in, Cond.static yX5_in, Cond.code yX5_in cX5_in 3 (some .boolean), Cond.methodLink RX5 149 yX5_faultOf, Cond.instanceMethod yX5_faultOf, Cond.selects RX5 yX5_faultOf yX5_faultOf, Cond.code yX5_faultOf cX5_faultOf 3 (some .int), Cond.fieldLink RX5 136 "EndVersionsModel" "at" "I", Cond.fieldLink RX5 142 "EndVersionsModel" "actMany" "I", Cond.fieldLink RX5 133 "EndVersionsModel" "typed" "I", Cond.fieldLink RX5 19 "EndVersionsModel" "text" "[I", Cond.fieldLink RX5 31 "EndVersionsModel" "acts" "[I", Cond.methodLink RX5 145 yX5_readsValue, Cond.instanceMethod yX5_readsValue, Cond.selects RX5 yX5_readsValue yX5_readsValue, Cond.code yX5_readsValue cX5_readsValue 4 (some .boolean), Cond.fieldLink RX5 34 "EndVersionsModel" "told" "[I"]
def wsX5_run_r2 : List Cond := [Cond.methodLink RX5 139 yX5_byteAt, Cond.instanceMethod yX5_byteAt, Cond.selects RX5 yX5_byteAt yX5_byteAt, Cond.code yX5_byteAt cX5_byteAt 2 (some .int), Cond.methodLink RX5 104 yX5_saves, Cond.instanceMethod yX5_saves, Cond.selects RX5 yX5_saves yX5_saves, Cond.code yX5_saves cX5_saves 2 none, Cond.fieldLink RX5 45 "EndVersionsModel" "pasts" "I", Cond.fieldLink RX5 13 "EndVersionsModel" "past" "[I", Cond.methodLink RX5 48 yX5_copies, Cond.static yX5_copies, Cond.code yX5_copies cX5_copies 5 none, Cond.methodLink RX5 153 yX5_doesAll, Cond.instanceMethod yX5_doesAll, Cond.selects RX5 yX5_doesAll yX5_doesAll, Cond.code yX5_doesAll cX5_doesAll 5 (some .int), Cond.methodLink RX5 56 yX5_of, Cond.instanceMethod yX5_of, Cond.selects RX5 yX5_of yX5_of, Cond.code yX5_of cX5_of 3 (some .int), Cond.methodLink RX5 111 yX5_pushes, Cond.instanceMethod yX5_pushes, Cond.selects RX5 yX5_pushes yX5_pushes]
def wsX5_run_r3 : List Cond := [Cond.code yX5_pushes cX5_pushes 5 (some .int), Cond.methodLink RX5 87 yX5_begins, Cond.instanceMethod yX5_begins, Cond.selects RX5 yX5_begins yX5_begins, Cond.code yX5_begins cX5_begins 4 (some .int), Cond.methodLink RX5 37 yX5_lays, Cond.instanceMethod yX5_lays, Cond.selects RX5 yX5_lays yX5_lays, Cond.code yX5_lays cX5_lays 4 none, Cond.methodLink RX5 90 yX5_changes, Cond.instanceMethod yX5_changes, Cond.selects RX5 yX5_changes yX5_changes, Cond.code yX5_changes cX5_changes 6 none, Cond.methodLink RX5 77 yX5_partOf, Cond.instanceMethod yX5_partOf, Cond.selects RX5 yX5_partOf yX5_partOf, Cond.code yX5_partOf cX5_partOf 3 (some .int), Cond.methodLink RX5 81 yX5_adds, Cond.instanceMethod yX5_adds, Cond.selects RX5 yX5_adds yX5_adds, Cond.code yX5_adds cX5_adds 4 none, Cond.methodLink RX5 94 yX5_pays, Cond.instanceMethod yX5_pays, Cond.selects RX5 yX5_pays yX5_pays]
def wsX5_run_r4 : List Cond := [Cond.code yX5_pays cX5_pays 6 none, Cond.methodLink RX5 74 yX5_isOver, Cond.instanceMethod yX5_isOver, Cond.selects RX5 yX5_isOver yX5_isOver, Cond.code yX5_isOver cX5_isOver 2 none, Cond.methodLink RX5 84 yX5_half, Cond.static yX5_half, Cond.code yX5_half cX5_half 1 (some .int), Cond.methodLink RX5 115 yX5_pops, Cond.instanceMethod yX5_pops, Cond.selects RX5 yX5_pops yX5_pops, Cond.code yX5_pops cX5_pops 5 (some .int), Cond.methodLink RX5 97 yX5_valueAt, Cond.instanceMethod yX5_valueAt, Cond.selects RX5 yX5_valueAt yX5_valueAt, Cond.code yX5_valueAt cX5_valueAt 3 (some .int), Cond.fieldLink RX5 22 "EndVersionsModel" "values" "[I", Cond.fieldLink RX5 64 "EndVersionsModel" "first" "I", Cond.methodLink RX5 70 yX5_laysRow, Cond.instanceMethod yX5_laysRow, Cond.selects RX5 yX5_laysRow yX5_laysRow, Cond.code yX5_laysRow cX5_laysRow 5 none, Cond.fieldLink RX5 67 "EndVersionsModel" "behind" "I", Cond.fieldLink RX5 25 "EndVersionsModel" "way" "[I"]
def wsX5_run_r5 : List Cond := [Cond.methodLink RX5 60 yX5_laysWay, Cond.instanceMethod yX5_laysWay, Cond.selects RX5 yX5_laysWay yX5_laysWay, Cond.code yX5_laysWay cX5_laysWay 5 (some .int), Cond.methodLink RX5 100 yX5_opens, Cond.instanceMethod yX5_opens, Cond.selects RX5 yX5_opens yX5_opens, Cond.code yX5_opens cX5_opens 4 none]
def wsX5_run : List Cond := .code yX5_run cX5_run 3 (some .int) :: ((wsX5_run_r1 ++ (wsX5_run_r2 ++ (wsX5_run_r3 ++ (wsX5_run_r4 ++ wsX5_run_r5)))) ++ wsX50)
def wsX5_wouldBe_r1 : List Cond := [Cond.fieldLink RX5 7 "EndVersionsModel" "now" "[I", Cond.fieldLink RX5 16 "EndVersionsModel" "trial" "[I", Cond.methodLink RX5 48 yX5_copies, Cond.static yX5_copies, Cond.initialized RX5, Cond.code yX5_copies cX5_copies 5 none, Cond.methodLink RX5 153 yX5_doesAll, Cond.instanceMethod yX5_doesAll, Cond.selects RX5 yX5_doesAll yX5_doesAll, Cond.code yX5_doesAll cX5_doesAll 5 (some .int), Cond.fieldLink RX5 142 "EndVersionsModel" "actMany" "I", Cond.fieldLink RX5 31 "EndVersionsModel" "acts" "[I", Cond.fieldLink RX5 34 "EndVersionsModel" "told" "[I", Cond.methodLink RX5 56 yX5_of, Cond.instanceMethod yX5_of, Cond.selects RX5 yX5_of yX5_of, Cond.code yX5_of cX5_of 3 (some .int), Cond.methodLink RX5 111 yX5_pushes, Cond.instanceMethod yX5_pushes, Cond.selects RX5 yX5_pushes yX5_pushes, Cond.code yX5_pushes cX5_pushes 5 (some .int), Cond.methodLink RX5 87 yX5_begins, Cond.instanceMethod yX5_begins, Cond.selects RX5 yX5_begins yX5_begins]
def wsX5_wouldBe_r2 : List Cond := [Cond.code yX5_begins cX5_begins 4 (some .int), Cond.methodLink RX5 37 yX5_lays, Cond.instanceMethod yX5_lays, Cond.selects RX5 yX5_lays yX5_lays, Cond.code yX5_lays cX5_lays 4 none, Cond.methodLink RX5 90 yX5_changes, Cond.instanceMethod yX5_changes, Cond.selects RX5 yX5_changes yX5_changes, Cond.code yX5_changes cX5_changes 6 none, Cond.methodLink RX5 77 yX5_partOf, Cond.instanceMethod yX5_partOf, Cond.selects RX5 yX5_partOf yX5_partOf, Cond.code yX5_partOf cX5_partOf 3 (some .int), Cond.methodLink RX5 81 yX5_adds, Cond.instanceMethod yX5_adds, Cond.selects RX5 yX5_adds yX5_adds, Cond.code yX5_adds cX5_adds 4 none, Cond.methodLink RX5 94 yX5_pays, Cond.instanceMethod yX5_pays, Cond.selects RX5 yX5_pays yX5_pays, Cond.code yX5_pays cX5_pays 6 none, Cond.methodLink RX5 74 yX5_isOver, Cond.instanceMethod yX5_isOver, Cond.selects RX5 yX5_isOver yX5_isOver]
def wsX5_wouldBe_r3 : List Cond := [Cond.code yX5_isOver cX5_isOver 2 none, Cond.methodLink RX5 84 yX5_half, Cond.static yX5_half, Cond.code yX5_half cX5_half 1 (some .int), Cond.methodLink RX5 115 yX5_pops, Cond.instanceMethod yX5_pops, Cond.selects RX5 yX5_pops yX5_pops, Cond.code yX5_pops cX5_pops 5 (some .int), Cond.methodLink RX5 97 yX5_valueAt, Cond.instanceMethod yX5_valueAt, Cond.selects RX5 yX5_valueAt yX5_valueAt, Cond.code yX5_valueAt cX5_valueAt 3 (some .int), Cond.fieldLink RX5 22 "EndVersionsModel" "values" "[I", Cond.fieldLink RX5 64 "EndVersionsModel" "first" "I", Cond.methodLink RX5 70 yX5_laysRow, Cond.instanceMethod yX5_laysRow, Cond.selects RX5 yX5_laysRow yX5_laysRow, Cond.code yX5_laysRow cX5_laysRow 5 none, Cond.fieldLink RX5 67 "EndVersionsModel" "behind" "I", Cond.fieldLink RX5 25 "EndVersionsModel" "way" "[I", Cond.methodLink RX5 60 yX5_laysWay, Cond.instanceMethod yX5_laysWay, Cond.selects RX5 yX5_laysWay yX5_laysWay, Cond.code yX5_laysWay cX5_laysWay 5 (some .int)]
def wsX5_wouldBe_r4 : List Cond := [Cond.methodLink RX5 100 yX5_opens, Cond.instanceMethod yX5_opens, Cond.selects RX5 yX5_opens yX5_opens, Cond.code yX5_opens cX5_opens 4 none]
def wsX5_wouldBe : List Cond := .code yX5_wouldBe cX5_wouldBe 9 (some .int) :: ((wsX5_wouldBe_r1 ++ (wsX5_wouldBe_r2 ++ (wsX5_wouldBe_r3 ++ wsX5_wouldBe_r4))) ++ wsX50)
def wsX5_stalls_r1 : List Cond := [Cond.fieldLink RX5 41 "EndVersionsModel" "thrown" "I", Cond.methodLink RX5 107 yX5_isVersion, Cond.instanceMethod yX5_isVersion, Cond.selects RX5 yX5_isVersion yX5_isVersion, Cond.initialized RX5, Cond.code yX5_isVersion cX5_isVersion 2 (some .boolean), Cond.fieldLink RX5 7 "EndVersionsModel" "now" "[I", Cond.methodLink RX5 52 yX5_in, Cond.static yX5_in, Cond.code yX5_in cX5_in 3 (some .boolean), Cond.methodLink RX5 149 yX5_faultOf, Cond.instanceMethod yX5_faultOf, Cond.selects RX5 yX5_faultOf yX5_faultOf, Cond.code yX5_faultOf cX5_faultOf 3 (some .int), Cond.fieldLink RX5 136 "EndVersionsModel" "at" "I", Cond.fieldLink RX5 142 "EndVersionsModel" "actMany" "I", Cond.fieldLink RX5 133 "EndVersionsModel" "typed" "I", Cond.fieldLink RX5 19 "EndVersionsModel" "text" "[I", Cond.fieldLink RX5 31 "EndVersionsModel" "acts" "[I", Cond.methodLink RX5 145 yX5_readsValue, Cond.instanceMethod yX5_readsValue, Cond.selects RX5 yX5_readsValue yX5_readsValue, Cond.code yX5_readsValue cX5_readsValue 4 (some .boolean), Cond.fieldLink RX5 34 "EndVersionsModel" "told" "[I"]
def wsX5_stalls_r2 : List Cond := [Cond.methodLink RX5 139 yX5_byteAt, Cond.instanceMethod yX5_byteAt, Cond.selects RX5 yX5_byteAt yX5_byteAt, Cond.code yX5_byteAt cX5_byteAt 2 (some .int), Cond.methodLink RX5 156 yX5_wouldBe, Cond.instanceMethod yX5_wouldBe, Cond.selects RX5 yX5_wouldBe yX5_wouldBe, Cond.code yX5_wouldBe cX5_wouldBe 9 (some .int), Cond.fieldLink RX5 16 "EndVersionsModel" "trial" "[I", Cond.methodLink RX5 48 yX5_copies, Cond.static yX5_copies, Cond.code yX5_copies cX5_copies 5 none, Cond.methodLink RX5 153 yX5_doesAll, Cond.instanceMethod yX5_doesAll, Cond.selects RX5 yX5_doesAll yX5_doesAll, Cond.code yX5_doesAll cX5_doesAll 5 (some .int), Cond.methodLink RX5 56 yX5_of, Cond.instanceMethod yX5_of, Cond.selects RX5 yX5_of yX5_of, Cond.code yX5_of cX5_of 3 (some .int), Cond.methodLink RX5 111 yX5_pushes, Cond.instanceMethod yX5_pushes, Cond.selects RX5 yX5_pushes yX5_pushes, Cond.code yX5_pushes cX5_pushes 5 (some .int)]
def wsX5_stalls_r3 : List Cond := [Cond.methodLink RX5 87 yX5_begins, Cond.instanceMethod yX5_begins, Cond.selects RX5 yX5_begins yX5_begins, Cond.code yX5_begins cX5_begins 4 (some .int), Cond.methodLink RX5 37 yX5_lays, Cond.instanceMethod yX5_lays, Cond.selects RX5 yX5_lays yX5_lays, Cond.code yX5_lays cX5_lays 4 none, Cond.methodLink RX5 90 yX5_changes, Cond.instanceMethod yX5_changes, Cond.selects RX5 yX5_changes yX5_changes, Cond.code yX5_changes cX5_changes 6 none, Cond.methodLink RX5 77 yX5_partOf, Cond.instanceMethod yX5_partOf, Cond.selects RX5 yX5_partOf yX5_partOf, Cond.code yX5_partOf cX5_partOf 3 (some .int), Cond.methodLink RX5 81 yX5_adds, Cond.instanceMethod yX5_adds, Cond.selects RX5 yX5_adds yX5_adds, Cond.code yX5_adds cX5_adds 4 none, Cond.methodLink RX5 94 yX5_pays, Cond.instanceMethod yX5_pays, Cond.selects RX5 yX5_pays yX5_pays, Cond.code yX5_pays cX5_pays 6 none]
def wsX5_stalls_r4 : List Cond := [Cond.methodLink RX5 74 yX5_isOver, Cond.instanceMethod yX5_isOver, Cond.selects RX5 yX5_isOver yX5_isOver, Cond.code yX5_isOver cX5_isOver 2 none, Cond.methodLink RX5 84 yX5_half, Cond.static yX5_half, Cond.code yX5_half cX5_half 1 (some .int), Cond.methodLink RX5 115 yX5_pops, Cond.instanceMethod yX5_pops, Cond.selects RX5 yX5_pops yX5_pops, Cond.code yX5_pops cX5_pops 5 (some .int), Cond.methodLink RX5 97 yX5_valueAt, Cond.instanceMethod yX5_valueAt, Cond.selects RX5 yX5_valueAt yX5_valueAt, Cond.code yX5_valueAt cX5_valueAt 3 (some .int), Cond.fieldLink RX5 22 "EndVersionsModel" "values" "[I", Cond.fieldLink RX5 64 "EndVersionsModel" "first" "I", Cond.methodLink RX5 70 yX5_laysRow, Cond.instanceMethod yX5_laysRow, Cond.selects RX5 yX5_laysRow yX5_laysRow, Cond.code yX5_laysRow cX5_laysRow 5 none, Cond.fieldLink RX5 67 "EndVersionsModel" "behind" "I", Cond.fieldLink RX5 25 "EndVersionsModel" "way" "[I", Cond.methodLink RX5 60 yX5_laysWay]
def wsX5_stalls_r5 : List Cond := [Cond.instanceMethod yX5_laysWay, Cond.selects RX5 yX5_laysWay yX5_laysWay, Cond.code yX5_laysWay cX5_laysWay 5 (some .int), Cond.methodLink RX5 100 yX5_opens, Cond.instanceMethod yX5_opens, Cond.selects RX5 yX5_opens yX5_opens, Cond.code yX5_opens cX5_opens 4 none]
def wsX5_stalls : List Cond := .code yX5_stalls cX5_stalls 3 (some .int) :: ((wsX5_stalls_r1 ++ (wsX5_stalls_r2 ++ (wsX5_stalls_r3 ++ (wsX5_stalls_r4 ++ wsX5_stalls_r5)))) ++ wsX50)
def wsX5_worstWith_r1 : List Cond := [Cond.fieldLink RX5 41 "EndVersionsModel" "thrown" "I", Cond.methodLink RX5 107 yX5_isVersion, Cond.instanceMethod yX5_isVersion, Cond.selects RX5 yX5_isVersion yX5_isVersion, Cond.initialized RX5, Cond.code yX5_isVersion cX5_isVersion 2 (some .boolean), Cond.fieldLink RX5 7 "EndVersionsModel" "now" "[I", Cond.methodLink RX5 52 yX5_in, Cond.static yX5_in, Cond.code yX5_in cX5_in 3 (some .boolean), Cond.methodLink RX5 149 yX5_faultOf, Cond.instanceMethod yX5_faultOf, Cond.selects RX5 yX5_faultOf yX5_faultOf, Cond.code yX5_faultOf cX5_faultOf 3 (some .int), Cond.fieldLink RX5 136 "EndVersionsModel" "at" "I", Cond.fieldLink RX5 142 "EndVersionsModel" "actMany" "I", Cond.fieldLink RX5 133 "EndVersionsModel" "typed" "I", Cond.fieldLink RX5 19 "EndVersionsModel" "text" "[I", Cond.fieldLink RX5 31 "EndVersionsModel" "acts" "[I", Cond.methodLink RX5 145 yX5_readsValue, Cond.instanceMethod yX5_readsValue, Cond.selects RX5 yX5_readsValue yX5_readsValue, Cond.code yX5_readsValue cX5_readsValue 4 (some .boolean), Cond.fieldLink RX5 34 "EndVersionsModel" "told" "[I"]
def wsX5_worstWith_r2 : List Cond := [Cond.methodLink RX5 139 yX5_byteAt, Cond.instanceMethod yX5_byteAt, Cond.selects RX5 yX5_byteAt yX5_byteAt, Cond.code yX5_byteAt cX5_byteAt 2 (some .int), Cond.methodLink RX5 156 yX5_wouldBe, Cond.instanceMethod yX5_wouldBe, Cond.selects RX5 yX5_wouldBe yX5_wouldBe, Cond.code yX5_wouldBe cX5_wouldBe 9 (some .int), Cond.fieldLink RX5 16 "EndVersionsModel" "trial" "[I", Cond.methodLink RX5 48 yX5_copies, Cond.static yX5_copies, Cond.code yX5_copies cX5_copies 5 none, Cond.methodLink RX5 153 yX5_doesAll, Cond.instanceMethod yX5_doesAll, Cond.selects RX5 yX5_doesAll yX5_doesAll, Cond.code yX5_doesAll cX5_doesAll 5 (some .int), Cond.methodLink RX5 56 yX5_of, Cond.instanceMethod yX5_of, Cond.selects RX5 yX5_of yX5_of, Cond.code yX5_of cX5_of 3 (some .int), Cond.methodLink RX5 111 yX5_pushes, Cond.instanceMethod yX5_pushes, Cond.selects RX5 yX5_pushes yX5_pushes, Cond.code yX5_pushes cX5_pushes 5 (some .int)]
def wsX5_worstWith_r3 : List Cond := [Cond.methodLink RX5 87 yX5_begins, Cond.instanceMethod yX5_begins, Cond.selects RX5 yX5_begins yX5_begins, Cond.code yX5_begins cX5_begins 4 (some .int), Cond.methodLink RX5 37 yX5_lays, Cond.instanceMethod yX5_lays, Cond.selects RX5 yX5_lays yX5_lays, Cond.code yX5_lays cX5_lays 4 none, Cond.methodLink RX5 90 yX5_changes, Cond.instanceMethod yX5_changes, Cond.selects RX5 yX5_changes yX5_changes, Cond.code yX5_changes cX5_changes 6 none, Cond.methodLink RX5 77 yX5_partOf, Cond.instanceMethod yX5_partOf, Cond.selects RX5 yX5_partOf yX5_partOf, Cond.code yX5_partOf cX5_partOf 3 (some .int), Cond.methodLink RX5 81 yX5_adds, Cond.instanceMethod yX5_adds, Cond.selects RX5 yX5_adds yX5_adds, Cond.code yX5_adds cX5_adds 4 none, Cond.methodLink RX5 94 yX5_pays, Cond.instanceMethod yX5_pays, Cond.selects RX5 yX5_pays yX5_pays, Cond.code yX5_pays cX5_pays 6 none]
def wsX5_worstWith_r4 : List Cond := [Cond.methodLink RX5 74 yX5_isOver, Cond.instanceMethod yX5_isOver, Cond.selects RX5 yX5_isOver yX5_isOver, Cond.code yX5_isOver cX5_isOver 2 none, Cond.methodLink RX5 84 yX5_half, Cond.static yX5_half, Cond.code yX5_half cX5_half 1 (some .int), Cond.methodLink RX5 115 yX5_pops, Cond.instanceMethod yX5_pops, Cond.selects RX5 yX5_pops yX5_pops, Cond.code yX5_pops cX5_pops 5 (some .int), Cond.methodLink RX5 97 yX5_valueAt, Cond.instanceMethod yX5_valueAt, Cond.selects RX5 yX5_valueAt yX5_valueAt, Cond.code yX5_valueAt cX5_valueAt 3 (some .int), Cond.fieldLink RX5 22 "EndVersionsModel" "values" "[I", Cond.fieldLink RX5 64 "EndVersionsModel" "first" "I", Cond.methodLink RX5 70 yX5_laysRow, Cond.instanceMethod yX5_laysRow, Cond.selects RX5 yX5_laysRow yX5_laysRow, Cond.code yX5_laysRow cX5_laysRow 5 none, Cond.fieldLink RX5 67 "EndVersionsModel" "behind" "I", Cond.fieldLink RX5 25 "EndVersionsModel" "way" "[I", Cond.methodLink RX5 60 yX5_laysWay]
def wsX5_worstWith_r5 : List Cond := [Cond.instanceMethod yX5_laysWay, Cond.selects RX5 yX5_laysWay yX5_laysWay, Cond.code yX5_laysWay cX5_laysWay 5 (some .int), Cond.methodLink RX5 100 yX5_opens, Cond.instanceMethod yX5_opens, Cond.selects RX5 yX5_opens yX5_opens, Cond.code yX5_opens cX5_opens 4 none]
def wsX5_worstWith : List Cond := .code yX5_worstWith cX5_worstWith 3 (some .int) :: ((wsX5_worstWith_r1 ++ (wsX5_worstWith_r2 ++ (wsX5_worstWith_r3 ++ (wsX5_worstWith_r4 ++ wsX5_worstWith_r5)))) ++ wsX50)
def wsX5_leastRate_r1 : List Cond := [Cond.fieldLink RX5 41 "EndVersionsModel" "thrown" "I", Cond.methodLink RX5 107 yX5_isVersion, Cond.instanceMethod yX5_isVersion, Cond.selects RX5 yX5_isVersion yX5_isVersion, Cond.initialized RX5, Cond.code yX5_isVersion cX5_isVersion 2 (some .boolean), Cond.fieldLink RX5 7 "EndVersionsModel" "now" "[I", Cond.methodLink RX5 52 yX5_in, Cond.static yX5_in, Cond.code yX5_in cX5_in 3 (some .boolean), Cond.methodLink RX5 149 yX5_faultOf, Cond.instanceMethod yX5_faultOf, Cond.selects RX5 yX5_faultOf yX5_faultOf, Cond.code yX5_faultOf cX5_faultOf 3 (some .int), Cond.fieldLink RX5 136 "EndVersionsModel" "at" "I", Cond.fieldLink RX5 142 "EndVersionsModel" "actMany" "I", Cond.fieldLink RX5 133 "EndVersionsModel" "typed" "I", Cond.fieldLink RX5 19 "EndVersionsModel" "text" "[I", Cond.fieldLink RX5 31 "EndVersionsModel" "acts" "[I", Cond.methodLink RX5 145 yX5_readsValue, Cond.instanceMethod yX5_readsValue, Cond.selects RX5 yX5_readsValue yX5_readsValue, Cond.code yX5_readsValue cX5_readsValue 4 (some .boolean), Cond.fieldLink RX5 34 "EndVersionsModel" "told" "[I"]
def wsX5_leastRate_r2 : List Cond := [Cond.methodLink RX5 139 yX5_byteAt, Cond.instanceMethod yX5_byteAt, Cond.selects RX5 yX5_byteAt yX5_byteAt, Cond.code yX5_byteAt cX5_byteAt 2 (some .int), Cond.methodLink RX5 156 yX5_wouldBe, Cond.instanceMethod yX5_wouldBe, Cond.selects RX5 yX5_wouldBe yX5_wouldBe, Cond.code yX5_wouldBe cX5_wouldBe 9 (some .int), Cond.fieldLink RX5 16 "EndVersionsModel" "trial" "[I", Cond.methodLink RX5 48 yX5_copies, Cond.static yX5_copies, Cond.code yX5_copies cX5_copies 5 none, Cond.methodLink RX5 153 yX5_doesAll, Cond.instanceMethod yX5_doesAll, Cond.selects RX5 yX5_doesAll yX5_doesAll, Cond.code yX5_doesAll cX5_doesAll 5 (some .int), Cond.methodLink RX5 56 yX5_of, Cond.instanceMethod yX5_of, Cond.selects RX5 yX5_of yX5_of, Cond.code yX5_of cX5_of 3 (some .int), Cond.methodLink RX5 111 yX5_pushes, Cond.instanceMethod yX5_pushes, Cond.selects RX5 yX5_pushes yX5_pushes, Cond.code yX5_pushes cX5_pushes 5 (some .int)]
def wsX5_leastRate_r3 : List Cond := [Cond.methodLink RX5 87 yX5_begins, Cond.instanceMethod yX5_begins, Cond.selects RX5 yX5_begins yX5_begins, Cond.code yX5_begins cX5_begins 4 (some .int), Cond.methodLink RX5 37 yX5_lays, Cond.instanceMethod yX5_lays, Cond.selects RX5 yX5_lays yX5_lays, Cond.code yX5_lays cX5_lays 4 none, Cond.methodLink RX5 90 yX5_changes, Cond.instanceMethod yX5_changes, Cond.selects RX5 yX5_changes yX5_changes, Cond.code yX5_changes cX5_changes 6 none, Cond.methodLink RX5 77 yX5_partOf, Cond.instanceMethod yX5_partOf, Cond.selects RX5 yX5_partOf yX5_partOf, Cond.code yX5_partOf cX5_partOf 3 (some .int), Cond.methodLink RX5 81 yX5_adds, Cond.instanceMethod yX5_adds, Cond.selects RX5 yX5_adds yX5_adds, Cond.code yX5_adds cX5_adds 4 none, Cond.methodLink RX5 94 yX5_pays, Cond.instanceMethod yX5_pays, Cond.selects RX5 yX5_pays yX5_pays, Cond.code yX5_pays cX5_pays 6 none]
def wsX5_leastRate_r4 : List Cond := [Cond.methodLink RX5 74 yX5_isOver, Cond.instanceMethod yX5_isOver, Cond.selects RX5 yX5_isOver yX5_isOver, Cond.code yX5_isOver cX5_isOver 2 none, Cond.methodLink RX5 84 yX5_half, Cond.static yX5_half, Cond.code yX5_half cX5_half 1 (some .int), Cond.methodLink RX5 115 yX5_pops, Cond.instanceMethod yX5_pops, Cond.selects RX5 yX5_pops yX5_pops, Cond.code yX5_pops cX5_pops 5 (some .int), Cond.methodLink RX5 97 yX5_valueAt, Cond.instanceMethod yX5_valueAt, Cond.selects RX5 yX5_valueAt yX5_valueAt, Cond.code yX5_valueAt cX5_valueAt 3 (some .int), Cond.fieldLink RX5 22 "EndVersionsModel" "values" "[I", Cond.fieldLink RX5 64 "EndVersionsModel" "first" "I", Cond.methodLink RX5 70 yX5_laysRow, Cond.instanceMethod yX5_laysRow, Cond.selects RX5 yX5_laysRow yX5_laysRow, Cond.code yX5_laysRow cX5_laysRow 5 none, Cond.fieldLink RX5 67 "EndVersionsModel" "behind" "I", Cond.fieldLink RX5 25 "EndVersionsModel" "way" "[I", Cond.methodLink RX5 60 yX5_laysWay]
def wsX5_leastRate_r5 : List Cond := [Cond.instanceMethod yX5_laysWay, Cond.selects RX5 yX5_laysWay yX5_laysWay, Cond.code yX5_laysWay cX5_laysWay 5 (some .int), Cond.methodLink RX5 100 yX5_opens, Cond.instanceMethod yX5_opens, Cond.selects RX5 yX5_opens yX5_opens, Cond.code yX5_opens cX5_opens 4 none]
def wsX5_leastRate : List Cond := .code yX5_leastRate cX5_leastRate 3 (some .int) :: ((wsX5_leastRate_r1 ++ (wsX5_leastRate_r2 ++ (wsX5_leastRate_r3 ++ (wsX5_leastRate_r4 ++ wsX5_leastRate_r5)))) ++ wsX50)
def wsX5_undo : List Cond := .code yX5_undo cX5_undo 1 (some .int) :: ([.fieldLink RX5 45 "EndVersionsModel" "pasts" "I", .fieldLink RX5 41 "EndVersionsModel" "thrown" "I", .fieldLink RX5 13 "EndVersionsModel" "past" "[I", .fieldLink RX5 7 "EndVersionsModel" "now" "[I", .methodLink RX5 48 yX5_copies, .static yX5_copies, .initialized RX5, .code yX5_copies cX5_copies 5 none] ++ wsX50)
def wsX5_digest_r1 : List Cond := [Cond.fieldLink RX5 41 "EndVersionsModel" "thrown" "I", Cond.constantLong RX5 159 (116777), Cond.fieldLink RX5 133 "EndVersionsModel" "typed" "I", Cond.constantLong RX5 161 (31), Cond.fieldLink RX5 7 "EndVersionsModel" "now" "[I", Cond.fieldLink RX5 64 "EndVersionsModel" "first" "I", Cond.fieldLink RX5 67 "EndVersionsModel" "behind" "I", Cond.fieldLink RX5 22 "EndVersionsModel" "values" "[I", Cond.fieldLink RX5 45 "EndVersionsModel" "pasts" "I", Cond.methodLink RX5 127 yX5_counted, Cond.instanceMethod yX5_counted, Cond.selects RX5 yX5_counted yX5_counted, Cond.initialized RX5, Cond.code yX5_counted cX5_counted 4 (some .int), Cond.methodLink RX5 124 yX5_hasChild, Cond.instanceMethod yX5_hasChild, Cond.selects RX5 yX5_hasChild yX5_hasChild, Cond.code yX5_hasChild cX5_hasChild 3 (some .boolean), Cond.methodLink RX5 56 yX5_of, Cond.instanceMethod yX5_of, Cond.selects RX5 yX5_of yX5_of, Cond.code yX5_of cX5_of 3 (some .int), Cond.methodLink RX5 118 yX5_told, Cond.instanceMethod yX5_told]
def wsX5_digest_r2 : List Cond := [Cond.selects RX5 yX5_told yX5_told, Cond.code yX5_told cX5_told 3 (some .int), Cond.methodLink RX5 77 yX5_partOf, Cond.instanceMethod yX5_partOf, Cond.selects RX5 yX5_partOf yX5_partOf, Cond.code yX5_partOf cX5_partOf 3 (some .int), Cond.methodLink RX5 70 yX5_laysRow, Cond.instanceMethod yX5_laysRow, Cond.selects RX5 yX5_laysRow yX5_laysRow, Cond.code yX5_laysRow cX5_laysRow 5 none, Cond.fieldLink RX5 25 "EndVersionsModel" "way" "[I", Cond.methodLink RX5 60 yX5_laysWay, Cond.instanceMethod yX5_laysWay, Cond.selects RX5 yX5_laysWay yX5_laysWay, Cond.code yX5_laysWay cX5_laysWay 5 (some .int)]
def wsX5_digest : List Cond := .code yX5_digest cX5_digest 5 (some .long) :: ((wsX5_digest_r1 ++ wsX5_digest_r2) ++ wsX50)
def wsJ9_max_7cf53 : List Cond := .code yJ9_max_7cf53 cJ9_max_7cf53 2 (some .int) :: ([])
def wsJ9_min_7cf53 : List Cond := .code yJ9_min_7cf53 cJ9_min_7cf53 2 (some .int) :: ([])
abbrev vwCl : List vw_C := [(RX0, TX0, 8), (RX1, TX1, 5), (RX2, TX2, 3), (RX3, TX3, 11), (RX4, TX4, 5), (RX5, TX5, 16)]
end
section
/-! PART 02: the logical heap of the class and of the reference (a map from addresses to cells), partial programs over it (MM), and the judgement V: a machine state whose heap holds a logical heap. Nothing here knows a method. -/
/-- a cell: an array (its kind of array class, length and contents), or an object (its class's number in vwCl, its fields) -/
abbrev LE : Type := (Nat × vp_A) ⊕ (Nat × List Value)
/-- the logical heap: the map, the size of the machine's heap, the cells made, the slots made -/
abbrev GH : Type := (Nat → Option LE) × Nat × Nat × Nat
def gle (G G' : GH) : Prop := G.2.1 ≤ G'.2.1 ∧ G.2.2.1 ≤ G'.2.2.1 ∧ G.2.2.2 ≤ G'.2.2.2
theorem gle.rf (G : GH) : gle G G := ⟨Nat.le_refl _, Nat.le_refl _, Nat.le_refl _⟩
theorem gle.tr {A B C : GH} (h : gle A B) (k : gle B C) : gle A C := ⟨Nat.le_trans h.1 k.1, Nat.le_trans h.2.1 k.2.1, Nat.le_trans h.2.2 k.2.2⟩
/-- a partial program: what it answers and leaves; what it has made only grows -/
abbrev MM (α : Type) : Type := {F : GH → Option (α × GH) // ∀ G r G', F G = some (r, G') → gle G G'}
def mpure {α : Type} (a : α) : MM α := ⟨fun G => some (a, G), fun G r G' h => by cases h; exact gle.rf G⟩
def mnone {α : Type} : MM α := ⟨fun _ => none, fun G r G' h => by cases h⟩
def mbind {α β : Type} (x : MM α) (k : α → MM β) : MM β := ⟨fun G => match x.1 G with | none => none | some (a, G1) => (k a).1 G1, fun G r G' h => by
  dsimp only at h
  cases hx : x.1 G with
  | none => rw [hx] at h; cases h
  | some q => obtain ⟨a, G1⟩ := q; rw [hx] at h; exact (x.2 G a G1 hx).tr ((k a).2 G1 r G' h)⟩
theorem mbind_inv {α β : Type} {x : MM α} {k : α → MM β} {G : GH} {R : β × GH} (h : (mbind x k).1 G = some R) : ∃ a G1, x.1 G = some (a, G1) ∧ (k a).1 G1 = some R := by
  have h' : (match x.1 G with | none => none | some (a, G1) => (k a).1 G1) = some R := h
  cases hx : x.1 G with
  | none => rw [hx] at h'; cases h'
  | some q => obtain ⟨a, G1⟩ := q; rw [hx] at h'; exact ⟨a, G1, rfl, h'⟩
theorem mbind_ok {α β : Type} {x : MM α} {k : α → MM β} {G G1 : GH} {a : α} (h : x.1 G = some (a, G1)) : (mbind x k).1 G = (k a).1 G1 := by
  show (match x.1 G with | none => none | some (a, G1) => (k a).1 G1) = _
  rw [h]
/-- what reads and doesn't write -/
def mread {α : Type} (f : GH → Option α) : MM α := ⟨fun G => (f G).map (fun a => (a, G)), fun G r G' h => by
  dsimp only at h
  cases hf : f G with
  | none => rw [hf] at h; cases h
  | some a => rw [hf] at h; cases h; exact gle.rf G⟩
theorem mread_inv {α : Type} {f : GH → Option α} {G : GH} {R : α × GH} (h : (mread f).1 G = some R) : ∃ a, f G = some a ∧ R = (a, G) := by
  have h' : (f G).map (fun a => (a, G)) = some R := h
  cases hf : f G with
  | none => rw [hf] at h'; cases h'
  | some a => rw [hf] at h'; exact ⟨a, rfl, (Option.some.inj h').symm⟩
/-- what writes cells and makes none -/
def mwrite (f : GH → Option (Nat → Option LE)) : MM Unit := ⟨fun G => (f G).map (fun h => ((), (h, G.2))), fun G r G' h => by
  dsimp only at h
  cases hf : f G with
  | none => rw [hf] at h; cases h
  | some a => rw [hf] at h; cases h; exact gle.rf G⟩
theorem mwrite_inv {f : GH → Option (Nat → Option LE)} {G : GH} {R : Unit × GH} (h : (mwrite f).1 G = some R) : ∃ a, f G = some a ∧ R = ((), (a, G.2)) := by
  have h' : (f G).map (fun h => ((), (h, G.2))) = some R := h
  cases hf : f G with
  | none => rw [hf] at h'; cases h'
  | some a => rw [hf] at h'; exact ⟨a, rfl, (Option.some.inj h').symm⟩
/-- a new cell -/
def mnew (f : GH → Option (LE × Nat)) : MM Nat := ⟨fun G => (f G).map (fun e => (G.2.1, (va_up G.1 G.2.1 (some e.1), G.2.1 + 1, G.2.2.1 + 1, G.2.2.2 + e.2))), fun G r G' h => by
  dsimp only at h
  cases hf : f G with
  | none => rw [hf] at h; cases h
  | some a => rw [hf] at h; cases h; exact ⟨Nat.le_succ _, Nat.le_succ _, Nat.le_add_right _ _⟩⟩
theorem mnew_inv {f : GH → Option (LE × Nat)} {G : GH} {R : Nat × GH} (h : (mnew f).1 G = some R) : ∃ e, f G = some e ∧ R = (G.2.1, (va_up G.1 G.2.1 (some e.1), G.2.1 + 1, G.2.2.1 + 1, G.2.2.2 + e.2)) := by
  have h' : (f G).map (fun e => (G.2.1, (va_up G.1 G.2.1 (some e.1), G.2.1 + 1, G.2.2.1 + 1, G.2.2.2 + e.2))) = some R := h
  cases hf : f G with
  | none => rw [hf] at h'; cases h'
  | some a => rw [hf] at h'; exact ⟨a, rfl, (Option.some.inj h').symm⟩
def gobj (a ci : Nat) (G : GH) : Option (List Value) := match G.1 a with
  | some (.inr (c, fs)) => if c = ci then some fs else none
  | _ => none
theorem gobj_inv {a ci : Nat} {G : GH} {fs : List Value} (h : gobj a ci G = some fs) : G.1 a = some (.inr (ci, fs)) := by
  unfold gobj at h
  split at h
  · rename_i c fs' heq
    split at h
    · rename_i hc
      subst hc
      cases h
      exact heq
    · cases h
  · cases h
theorem gobj_ok {a ci : Nat} {G : GH} {fs : List Value} (h : G.1 a = some (.inr (ci, fs))) : gobj a ci G = some fs := by
  unfold gobj
  rw [h]
  simp
def garr (a t : Nat) (G : GH) : Option vp_A := match G.1 a with
  | some (.inl (c, x)) => if c = t then some x else none
  | _ => none
theorem garr_inv {a t : Nat} {G : GH} {x : vp_A} (h : garr a t G = some x) : G.1 a = some (.inl (t, x)) := by
  unfold garr at h
  split at h
  · rename_i c fs' heq
    split at h
    · rename_i hc
      subst hc
      cases h
      exact heq
    · cases h
  · cases h
theorem garr_ok {a t : Nat} {G : GH} {x : vp_A} (h : G.1 a = some (.inl (t, x))) : garr a t G = some x := by
  unfold garr
  rw [h]
  simp
/-! reads and writes of objects -/
def oint (v : Option Value) : Option Int32 := match v with
  | some (.int x) => some x
  | _ => none
theorem oint_inv {v : Option Value} {x : Int32} (h : oint v = some x) : v = some (.int x) := by
  unfold oint at h
  split at h
  · cases h; rfl
  · cases h
def oref (v : Option Value) : Option Nat := match v with
  | some (.ref x) => some x
  | _ => none
theorem oref_inv {v : Option Value} {x : Nat} (h : oref v = some x) : v = some (.ref x) := by
  unfold oref at h
  split at h
  · cases h; rfl
  · cases h
def mchk (a ci : Nat) : MM Unit := mread (fun G => (gobj a ci G).map (fun _ => ()))
def mgi (a ci k : Nat) : MM Int32 := mread (fun G => (gobj a ci G).bind (fun fs => oint fs[k]?))
def mgr (a ci k : Nat) : MM Nat := mread (fun G => (gobj a ci G).bind (fun fs => oref fs[k]?))
def mput (a ci k : Nat) (v : Value) : MM Unit := mwrite (fun G => (gobj a ci G).bind (fun fs => if k < fs.length then some (va_up G.1 a (some (.inr (ci, fs.set k v)))) else none))
/-! arrays: kinds 0 int[], 1 long[], 2 double[], 3 State[], 4 Version[] -/
def aint (x : vp_A) : Option (Nat × (Nat → Int32)) := match x with
  | (n, .inl f) => some (n, f)
  | _ => none
theorem aint_inv {x : vp_A} {n : Nat} {f : Nat → Int32} (h : aint x = some (n, f)) : x = (n, .inl f) := by
  unfold aint at h
  split at h
  · cases h; rfl
  · cases h
def alng (x : vp_A) : Option (Nat × (Nat → Int64)) := match x with
  | (n, .inr (.inl f)) => some (n, f)
  | _ => none
theorem alng_inv {x : vp_A} {n : Nat} {f : Nat → Int64} (h : alng x = some (n, f)) : x = (n, .inr (.inl f)) := by
  unfold alng at h
  split at h
  · cases h; rfl
  · cases h
def adbl (x : vp_A) : Option (Nat × (Nat → UInt64)) := match x with
  | (n, .inr (.inr (.inr (.inl f)))) => some (n, f)
  | _ => none
theorem adbl_inv {x : vp_A} {n : Nat} {f : Nat → UInt64} (h : adbl x = some (n, f)) : x = (n, .inr (.inr (.inr (.inl f)))) := by
  unfold adbl at h
  split at h
  · cases h; rfl
  · cases h
def aref (x : vp_A) : Option (Nat × (Nat → Option Nat)) := match x with
  | (n, .inr (.inr (.inr (.inr f)))) => some (n, f)
  | _ => none
theorem aref_inv {x : vp_A} {n : Nat} {f : Nat → Option Nat} (h : aref x = some (n, f)) : x = (n, .inr (.inr (.inr (.inr f)))) := by
  unfold aref at h
  split at h
  · cases h; rfl
  · cases h
/-- in range, as the machine asks -/
def oin {α : Type} (i : Int32) (n : Nat) (x : α) : Option α := if i < 0 ∨ n ≤ i.toNatClampNeg then none else some x
theorem oin_inv {α : Type} {i : Int32} {n : Nat} {x y : α} (h : oin i n x = some y) : vp_in i n ∧ x = y := by
  unfold oin at h
  split at h
  · cases h
  · rename_i hh
    exact ⟨hh, Option.some.inj h⟩
theorem oin_ok {α : Type} {i : Int32} {n : Nat} (x : α) (h : vp_in i n) : oin i n x = some x := if_neg h
def mlen (a t : Nat) : MM Int32 := mread (fun G => (garr a t G).map (fun x => Int32.ofNat x.1))
def mali (a : Nat) (i : Int32) : MM Int32 := mread (fun G => ((garr a 0 G).bind aint).bind (fun q => oin i q.1 (q.2 i.toNatClampNeg)))
def masi (a : Nat) (i x : Int32) : MM Unit := mwrite (fun G => ((garr a 0 G).bind aint).bind (fun q => oin i q.1 (va_up G.1 a (some (.inl (0, (q.1, .inl (upd q.2 i.toNatClampNeg x))))))))
def mall (a : Nat) (i : Int32) : MM Int64 := mread (fun G => ((garr a 1 G).bind alng).bind (fun q => oin i q.1 (q.2 i.toNatClampNeg)))
def masl (a : Nat) (i : Int32) (x : Int64) : MM Unit := mwrite (fun G => ((garr a 1 G).bind alng).bind (fun q => oin i q.1 (va_up G.1 a (some (.inl (1, (q.1, .inr (.inl (vp_updL q.2 i.toNatClampNeg x)))))))))
def mald (a : Nat) (i : Int32) : MM UInt64 := mread (fun G => ((garr a 2 G).bind adbl).bind (fun q => oin i q.1 (q.2 i.toNatClampNeg)))
def masd (a : Nat) (i : Int32) (x : UInt64) : MM Unit := mwrite (fun G => ((garr a 2 G).bind adbl).bind (fun q => oin i q.1 (va_up G.1 a (some (.inl (2, (q.1, .inr (.inr (.inr (.inl (vf_upd q.2 i.toNatClampNeg x)))))))))))
def malq (a t : Nat) (i : Int32) : MM (Option Nat) := mread (fun G => ((garr a t G).bind aref).bind (fun q => oin i q.1 (q.2 i.toNatClampNeg)))
/-- a reference fits an array of the class ci's objects -/
def ofit (ci : Nat) (r : Option Nat) (G : GH) : Option Unit := match r with
  | none => some ()
  | some v => (gobj v ci G).map (fun _ => ())
def masq (a t ci : Nat) (i : Int32) (r : Option Nat) : MM Unit := mwrite (fun G => (ofit ci r G).bind (fun _ => ((garr a t G).bind aref).bind (fun q => oin i q.1 (va_up G.1 a (some (.inl (t, (q.1, .inr (.inr (.inr (.inr (va_up q.2 i.toNatClampNeg r))))))))))))
def mcopy (a0 : Nat) (sp : Int32) (a : Nat) (dp n : Int32) : MM Unit := mwrite (fun G => ((garr a0 0 G).bind aint).bind (fun q0 => ((garr a 0 G).bind aint).bind (fun q =>
  if ¬ sp < 0 ∧ ¬ dp < 0 ∧ ¬ n < 0 ∧ sp.toNatClampNeg + n.toNatClampNeg ≤ q0.1 ∧ dp.toNatClampNeg + n.toNatClampNeg ≤ q.1 ∧ a0 ≠ a then some (va_up G.1 a (some (.inl (0, (q.1, .inl (va_cpy q0.2 q.2 sp.toNatClampNeg dp.toNatClampNeg n.toNatClampNeg)))))) else none)))
def mnewo (ci : Nat) (fs : List Value) (k : Nat) : MM Nat := mnew (fun _ => some (.inr (ci, fs), k))
def mnewi (n : Int32) : MM Nat := mnew (fun _ => if ¬ n < 0 ∧ n.toNatClampNeg ≤ 134217728 then some (.inl (0, (n.toNatClampNeg, .inl (fun _ => 0))), n.toNatClampNeg) else none)
def mnewq (t : Nat) (n : Int32) : MM Nat := mnew (fun _ => if ¬ n < 0 ∧ n.toNatClampNeg ≤ 134217728 then some (.inl (t, (n.toNatClampNeg, .inr (.inr (.inr (.inr (fun _ => none)))))), n.toNatClampNeg) else none)
def mnewl (n : Int32) : MM Nat := mnew (fun _ => if ¬ n < 0 ∧ n.toNatClampNeg ≤ 1024 then some (.inl (1, (n.toNatClampNeg, .inr (.inl (fun _ => 0)))), n.toNatClampNeg) else none)
def mnewd (n : Int32) : MM Nat := mnew (fun _ => if ¬ n < 0 ∧ n.toNatClampNeg ≤ 1024 then some (.inl (2, (n.toNatClampNeg, .inr (.inr (.inr (.inl (fun _ => 0)))))), n.toNatClampNeg) else none)
/-- the reference isn't null -/
def mnn (r : Option Nat) : MM Nat := mread (fun _ => r)
def mbool (r : Int32) : MM Unit := mread (fun _ => if r = 0 ∨ r = 1 then some () else none)
def mguard (p : Prop) [Decidable p] : MM Unit := mread (fun _ => if p then some () else none)
/-! what may throw: .inl the exception's class, .inr the answer -/
abbrev MX (α : Type) : Type := MM (String ⊕ α)
/-- a throw: one cell and six slots are made; the map stays -/
def mthrow {α : Type} (E : String) : MX α := ⟨fun G => some (.inl E, (G.1, G.2.1 + 1, G.2.2.1 + 1, G.2.2.2 + 6)), fun G r G' h => by cases h; exact ⟨Nat.le_succ _, Nat.le_succ _, Nat.le_add_right _ _⟩⟩
def xpure {α : Type} (a : α) : MX α := mpure (.inr a)
def xbind {α β : Type} (x : MX α) (k : α → MX β) : MX β := mbind x (fun r => match r with | .inl E => mpure (.inl E) | .inr a => k a)
theorem xbind_inv {α β : Type} {x : MX α} {k : α → MX β} {G : GH} {R : (String ⊕ β) × GH} (h : (xbind x k).1 G = some R) : (∃ E G1, x.1 G = some (.inl E, G1) ∧ R = (.inl E, G1)) ∨ ∃ a G1, x.1 G = some (.inr a, G1) ∧ (k a).1 G1 = some R := by
  obtain ⟨r, G1, h1, h2⟩ := mbind_inv h
  cases r with
  | inl E => exact Or.inl ⟨E, G1, h1, (Option.some.inj h2).symm⟩
  | inr a => exact Or.inr ⟨a, G1, h1, h2⟩
theorem xbind_ok {α β : Type} {x : MX α} {k : α → MX β} {G G1 : GH} {a : α} (h : x.1 G = some (.inr a, G1)) : (xbind x k).1 G = (k a).1 G1 := mbind_ok h
theorem xbind_out {α β : Type} {x : MX α} {k : α → MX β} {G G1 : GH} {E : String} (h : x.1 G = some (.inl E, G1)) : (xbind x k).1 G = some (.inl E, G1) := mbind_ok h
/-- a plain program among throwing ones -/
def xlift {α β : Type} (x : MM α) (k : α → MX β) : MX β := mbind x k
/-! answers as the machine has them -/
def cI (F : MM Int32) : MM (Option Value) := mbind F (fun x => mpure (some (.int x)))
def cL (F : MM Int64) : MM (Option Value) := mbind F (fun x => mpure (some (.long x)))
def cD (F : MM UInt64) : MM (Option Value) := mbind F (fun x => mpure (some (.double x)))
def cV (F : MM Unit) : MM (Option Value) := mbind F (fun _ => mpure none)
def cR (F : MM Nat) : MM (Option Value) := mbind F (fun a => mpure (some (.ref a)))
def xI (F : MX Int32) : MX (Option Value) := xbind F (fun x => xpure (some (.int x)))
def xD (F : MX UInt64) : MX (Option Value) := xbind F (fun x => xpure (some (.double x)))
def xV (F : MX Unit) : MX (Option Value) := xbind F (fun _ => xpure none)
/-- a test against null -/
def mnull {ρ : Type} (r : Option Nat) (A : MM ρ) (C : Nat → MM ρ) : MM ρ := match r with
  | none => A
  | some a => C a
def FU : Nat := 5000
end
section
/-! PART 03: the judgement V: the machine at a place, its heap holding a logical heap. -/
def gE (dA : Nat → ClassId) (e : LE) : va_E := match e with
  | .inl (t, x) => .inl (dA t, x)
  | .inr o => .inr o
def gf (dA : Nat → ClassId) (h : Nat → Option LE) (a : Nat) : Option (Nat × va_E) := (h a).map (fun e => (a, gE dA e))
def gLl (dA : Nat → ClassId) (h : Nat → Option LE) (l : List Nat) : va_W := l.filterMap (gf dA h)
def gL (dA : Nat → ClassId) (G : GH) : va_W := gLl dA G.1 (List.range G.2.1)
theorem fm_congr {α β : Type} {f g : α → Option β} : ∀ {l : List α}, (∀ c ∈ l, f c = g c) → l.filterMap f = l.filterMap g
  | [], _ => rfl
  | b :: l, h => by
    rw [List.filterMap_cons, List.filterMap_cons, h b List.mem_cons_self, fm_congr (fun c hc => h c (List.mem_cons_of_mem _ hc))]
theorem gLl_mem {dA : Nat → ClassId} {h : Nat → Option LE} {l : List Nat} {q : Nat × va_E} (hq : q ∈ gLl dA h l) : q.1 ∈ l ∧ ∃ e, h q.1 = some e ∧ q.2 = gE dA e := by
  obtain ⟨a, ha, hf⟩ := List.mem_filterMap.mp hq
  unfold gf at hf
  cases hh : h a with
  | none => rw [hh] at hf; cases hf
  | some e =>
    rw [hh] at hf
    cases hf
    exact ⟨ha, e, hh, rfl⟩
theorem gLl_set {dA : Nat → ClassId} {h : Nat → Option LE} {a : Nat} (e' : LE) : ∀ (l : List Nat), l.Nodup → ∀ (k : Nat) (x : va_E), (gLl dA h l)[k]? = some (a, x) → (gLl dA h l).set k (a, gE dA e') = gLl dA (va_up h a (some e')) l
  | [], _, k, x, hk => by simp [gLl] at hk
  | b :: l, hn, k, x, hk => by
    obtain ⟨hb, hn'⟩ := List.nodup_cons.mp hn
    have ih := gLl_set (dA := dA) (h := h) (a := a) e' l hn'
    have mem : ∀ (k : Nat) (x : va_E), (gLl dA h l)[k]? = some (a, x) → a ∈ l := fun k x h1 => (gLl_mem (List.mem_of_getElem? h1)).1
    cases hh : h b with
    | none =>
      have e1 : gLl dA h (b :: l) = gLl dA h l := by simp [gLl, gf, hh]
      rw [e1] at hk ⊢
      have hab : b ≠ a := fun q => hb (q ▸ mem k x hk)
      have e2 : gLl dA (va_up h a (some e')) (b :: l) = gLl dA (va_up h a (some e')) l := by simp [gLl, gf, va_up, hab, hh]
      rw [e2]
      exact ih k x hk
    | some e =>
      have e1 : gLl dA h (b :: l) = (b, gE dA e) :: gLl dA h l := by simp [gLl, gf, hh]
      rw [e1] at hk ⊢
      cases k with
      | zero =>
        have hk' : (b, gE dA e) = (a, x) := by simpa using hk
        have hab : b = a := congrArg Prod.fst hk'
        subst hab
        have e2 : gLl dA (va_up h b (some e')) (b :: l) = (b, gE dA e') :: gLl dA (va_up h b (some e')) l := by simp [gLl, gf, va_up]
        have e3 : gLl dA (va_up h b (some e')) l = gLl dA h l := by
          unfold gLl
          apply fm_congr
          intro c hc
          have hcb : c ≠ b := fun q => hb (q ▸ hc)
          simp [gf, va_up, hcb]
        rw [e2, e3]
        rfl
      | succ k =>
        have hk' : (gLl dA h l)[k]? = some (a, x) := by simpa using hk
        have hab : b ≠ a := fun q => hb (q ▸ mem k x hk')
        have e2 : gLl dA (va_up h a (some e')) (b :: l) = (b, gE dA e) :: gLl dA (va_up h a (some e')) l := by simp [gLl, gf, va_up, hab, hh]
        rw [e2, List.set_cons_succ, ih k x hk']
theorem gLl_inj {dA : Nat → ClassId} {h : Nat → Option LE} : ∀ (l : List Nat), l.Nodup → ∀ (i j : Nat) (p q : Nat × va_E), (gLl dA h l)[i]? = some p → (gLl dA h l)[j]? = some q → p.1 = q.1 → i = j
  | [], _, i, j, p, q, hi, _, _ => by simp [gLl] at hi
  | b :: l, hn, i, j, p, q, hi, hj, hpq => by
    obtain ⟨hb, hn'⟩ := List.nodup_cons.mp hn
    have ih := gLl_inj (dA := dA) (h := h) l hn'
    cases hh : h b with
    | none =>
      have e1 : gLl dA h (b :: l) = gLl dA h l := by simp [gLl, gf, hh]
      rw [e1] at hi hj
      exact ih i j p q hi hj hpq
    | some e =>
      have e1 : gLl dA h (b :: l) = (b, gE dA e) :: gLl dA h l := by simp [gLl, gf, hh]
      rw [e1] at hi hj
      cases i with
      | zero =>
        cases j with
        | zero => rfl
        | succ j =>
          have h1 : (b, gE dA e) = p := by simpa using hi
          have h2 : (gLl dA h l)[j]? = some q := by simpa using hj
          have h3 := (gLl_mem (List.mem_of_getElem? h2)).1
          exact absurd h3 (by rw [← hpq, ← h1]; exact hb)
      | succ i =>
        have h1 : (gLl dA h l)[i]? = some p := by simpa using hi
        cases j with
        | zero =>
          have h2 : (b, gE dA e) = q := by simpa using hj
          have h3 := (gLl_mem (List.mem_of_getElem? h1)).1
          exact absurd h3 (by rw [hpq, ← h2]; exact hb)
        | succ j =>
          have h2 : (gLl dA h l)[j]? = some q := by simpa using hj
          rw [ih i j p q h1 h2 hpq]
theorem gL_get {dA : Nat → ClassId} {G : GH} {a : Nat} {e : LE} (hl : a < G.2.1) (h : G.1 a = some e) : ∃ k : Nat, (gL dA G)[k]? = some (a, gE dA e) := by
  have hm : (a, gE dA e) ∈ gL dA G := List.mem_filterMap.mpr ⟨a, List.mem_range.mpr hl, by simp [gf, h]⟩
  exact List.getElem?_of_mem hm
theorem gL_set {dA : Nat → ClassId} {G : GH} {a k : Nat} {x : va_E} (e' : LE) (hk : (gL dA G)[k]? = some (a, x)) : (gL dA G).set k (a, gE dA e') = gL dA (va_up G.1 a (some e'), G.2) := gLl_set e' _ List.nodup_range k x hk
theorem gL_push {dA : Nat → ClassId} {G : GH} (e : LE) (c s : Nat) : gL dA (va_up G.1 G.2.1 (some e), G.2.1 + 1, c, s) = gL dA G ++ [(G.2.1, gE dA e)] := by
  show gLl dA (va_up G.1 G.2.1 (some e)) (List.range (G.2.1 + 1)) = gLl dA G.1 (List.range G.2.1) ++ _
  unfold gLl
  rw [List.range_succ, List.filterMap_append]
  congr 1
  · apply fm_congr
    intro c hc
    have hcb : c ≠ G.2.1 := Nat.ne_of_lt (List.mem_range.mp hc)
    simp [gf, va_up, hcb]
  · simp [gf, va_up]
theorem gL_D {dA : Nat → ClassId} {G : GH} {A : Nat → Prop} (h : ∀ a, G.1 a ≠ none → A a) : va_D A (gL dA G) :=
  ⟨gLl_inj _ List.nodup_range, fun k q hk => by
    obtain ⟨-, e, h1, -⟩ := gLl_mem (List.mem_of_getElem? hk)
    exact h q.1 (by rw [h1]; exact fun z => by cases z)⟩
/-- the array classes: int[], long[], double[], State[], Version[] -/
def gty (dA : Nat → ClassId) : List (ClassId × FieldType) := [(dA 0, .int), (dA 1, .long), (dA 2, .double), (dA 3, .object RX1), (dA 4, .object RX3)]
/-- what a method may change: the map's cells, and new ones -/
def gA (G : GH) : Nat → Prop := fun q => G.1 q ≠ none ∨ G.2.1 ≤ q
/-- a heap holds a logical heap -/
def gP (D : va_G) (dA : Nat → ClassId) (G : GH) (H : Heap) : Prop := G.2.1 = H.size ∧ va_P D vwCl (gL dA G) H ∧ ∀ a, G.1 a ≠ none → a < G.2.1
/-! what else of the tables a method stands on: calls of the outer class's private methods, arrays of references, the texts of exceptions; and two statics of Throwable -/
def nests : List (String × Nat × MethodName × String) := [(RX0, 38, yX4_fill, RX4), (RX0, 42, yX4_cell, RX4), (RX1, 100, yX4_cell, RX4), (RX1, 96, yX4_fill, RX4), (RX3, 56, yX4_cell, RX4), (RX3, 64, yX4_isPush, RX4), (RX3, 68, yX4_isAtFront, RX4), (RX3, 96, yX4_fill, RX4)]
def strs : List (Nat × String) := [(44, "no such setting or value"), (64, "value out of range"), (71, "the row or the versions are full"), (90, "the row is empty"), (93, "the versions are full"), (98, "there is the version 0 alone"), (100, "no such fact of a version"), (105, "no act made the version 0"), (119, "no such number"), (124, "no such setting"), (146, "byte out of range"), (151, "the text is full"), (179, "there is no saved state"), (197, "no such version"), (203, "no such version or place"), (208, "rate out of range"), (210, "the text has a syntax error")]
def EX (U : State) : Prop := (∀ q ∈ nests, va_Nw (.methodLinkNest q.1 q.2.1 q.2.2.1 q.2.2.2) U) ∧ va_AO RX1 U ∧ va_AO RX3 U ∧ ∀ q ∈ strs, ∃ sa, vk_R RX4 q.1 q.2 sa U
theorem EX.warm {s U : State} (hW : s.WarmedH U.vm) (h : EX s) : EX U := ⟨fun q hq => va_Nw.warmM hW (h.1 q hq), va_AO.moved hW.alike h.2.1, va_AO.moved hW.alike h.2.2.1, fun q hq => by
  obtain ⟨sa, hs⟩ := h.2.2.2 q hq
  exact ⟨sa, vk_R.warm hW hs⟩⟩
theorem EX.same {u U : State} (hv : U.vm = u.vm) (h : EX u) : EX U := ⟨fun q hq => va_Nw.same rfl hv.symm (h.1 q hq), va_AO.moved (by rw [hv]; exact Vm.Alike.refl _) h.2.1, va_AO.moved (by rw [hv]; exact Vm.Alike.refl _) h.2.2.1, fun q hq => by
  obtain ⟨sa, hs⟩ := h.2.2.2 q hq
  exact ⟨sa, vk_R.same hv hs⟩⟩
def XZ (A : Nat → Prop) (U : State) (H : Heap) : Prop := vx_Zq Bundle.tN "UNASSIGNED_STACK" Bundle.steD A U H ∧ vx_Zq Bundle.tN "SUPPRESSED_SENTINEL" Bundle.listD A U H
theorem XZ.moved {A : Nat → Prop} {u U : State} {H : Heap} (hvm : u.vm.Alike U.vm) (h : XZ A u H) : XZ A U H := ⟨h.1.moved hvm, h.2.moved hvm⟩
theorem XZ.kept {A : Nat → Prop} {U : State} {H H1 : Heap} (h : XZ A U H) (hq : ∀ a : Nat, a < H.size → ¬ A a → H1[a]? = H[a]?) : XZ A U H1 := ⟨h.1.kept hq, h.2.kept hq⟩
theorem XZ.narrow {A B : Nat → Prop} {U : State} {H : Heap} (h : XZ A U H) (hAB : ∀ q, B q → A q) : XZ B U H := ⟨h.1.narrow hAB, h.2.narrow hAB⟩
/-! the context of a walk -/
abbrev VX : Type := Program × Launch × Env × Room × State × MethodId × Array Value × List Frame × Method × Code × va_G × (Nat → ClassId) × (Nat → Prop)
abbrev xp (X : VX) : Program := X.1
abbrev xl (X : VX) : Launch := X.2.1
abbrev xe (X : VX) : Env := X.2.2.1
abbrev xR (X : VX) : Room := X.2.2.2.1
abbrev xs (X : VX) : State := X.2.2.2.2.1
abbrev xm (X : VX) : MethodId := X.2.2.2.2.2.1
abbrev xa (X : VX) : Array Value := X.2.2.2.2.2.2.1
abbrev xb (X : VX) : List Frame := X.2.2.2.2.2.2.2.1
abbrev xme (X : VX) : Method := X.2.2.2.2.2.2.2.2.1
abbrev xc (X : VX) : Code := X.2.2.2.2.2.2.2.2.2.1
abbrev xDD (X : VX) : va_G := X.2.2.2.2.2.2.2.2.2.2.1
abbrev xdA (X : VX) : Nat → ClassId := X.2.2.2.2.2.2.2.2.2.2.2.1
abbrev xA (X : VX) : Nat → Prop := X.2.2.2.2.2.2.2.2.2.2.2.2
/-- the standing facts of a method's walk: own class, code, locals, frames and locals' words below, words -/
def VC (X : VX) (own : String) (cc : ByteArray) (nL fr lo : Nat) (Ts : List Cond) : Prop :=
  (xp X).tables.exec = Jvm.exec ∧ (xc X).code = cc ∧ (xc X).maxLocals = nL ∧ (xs X).vm.findClass own = some (xm X).cls ∧ (∀ w ∈ Ts, w.before (xa X) (xs X) = true) ∧ (xme X).locks = false ∧ (xR X).frames = fr ∧ (xR X).locals = lo ∧ va_K (xDD X) vwCl (gty (xdA X)) (xs X) ∧ (∀ q, (xs X).heap.size ≤ q → (xA X) q) ∧ (xl X).stackTraces = false ∧ EX (xs X) ∧ XZ (xA X) (xs X) (xs X).heap
section VCs
variable {X : VX} {own : String} {cc : ByteArray} {nL fr lo : Nat} {Ts : List Cond}
theorem VC.x (D : VC X own cc nL fr lo Ts) : (xp X).tables.exec = Jvm.exec := D.1
theorem VC.b (D : VC X own cc nL fr lo Ts) : (xc X).code = cc := D.2.1
theorem VC.ml (D : VC X own cc nL fr lo Ts) : (xc X).maxLocals = nL := D.2.2.1
theorem VC.ow (D : VC X own cc nL fr lo Ts) : (xs X).vm.findClass own = some (xm X).cls := D.2.2.2.1
theorem VC.ts (D : VC X own cc nL fr lo Ts) : ∀ w ∈ Ts, w.before (xa X) (xs X) = true := D.2.2.2.2.1
theorem VC.lk (D : VC X own cc nL fr lo Ts) : (xme X).locks = false := D.2.2.2.2.2.1
theorem VC.rf (D : VC X own cc nL fr lo Ts) : (xR X).frames = fr := D.2.2.2.2.2.2.1
theorem VC.rl (D : VC X own cc nL fr lo Ts) : (xR X).locals = lo := D.2.2.2.2.2.2.2.1
theorem VC.k (D : VC X own cc nL fr lo Ts) : va_K (xDD X) vwCl (gty (xdA X)) (xs X) := D.2.2.2.2.2.2.2.2.1
theorem VC.a (D : VC X own cc nL fr lo Ts) : ∀ q, (xs X).heap.size ≤ q → (xA X) q := D.2.2.2.2.2.2.2.2.2.1
theorem VC.fl (D : VC X own cc nL fr lo Ts) : (xl X).stackTraces = false := D.2.2.2.2.2.2.2.2.2.2.1
theorem VC.ex (D : VC X own cc nL fr lo Ts) : EX (xs X) := D.2.2.2.2.2.2.2.2.2.2.2.1
theorem VC.z (D : VC X own cc nL fr lo Ts) : XZ (xA X) (xs X) (xs X).heap := D.2.2.2.2.2.2.2.2.2.2.2.2
end VCs
def gI (X : VX) (G : GH) (H : Heap) (locs : List Loc) : Prop := gP (xDD X) (xdA X) G H ∧ (∀ a, G.1 a ≠ none → (xA X) a) ∧ va_S (xA X) (xs X).heap H locs
/-- the counters: cells and slots at the start and at the end -/
abbrev VB : Type := Nat × Nat × Nat × Nat
def VK (X : VX) (B : VB) (G : GH) : Prop := (xR X).cells = B.2.2.1 - B.1 ∧ (xR X).slots = B.2.2.2 - B.2.1 ∧ B.1 ≤ G.2.2.1 ∧ B.2.1 ≤ G.2.2.2
def V (X : VX) (own : String) (cc : ByteArray) (nL fr lo : Nat) (Ts : List Cond) (B : VB) (Q : State → Prop) (G : GH) (pc : Nat) (lv : List (Nat × Value)) (st : List Value) : Prop :=
  VC X own cc nL fr lo Ts → VK X B G → ∀ (H : Heap) (ls : Array Slot) (locs : List Loc), gI X G H locs → lv_has ls nL lv →
    W (xp X) (xl X) (xe X) (xR X) (xs X) (xm X) (xa X) (xb X) (xme X) (xc X) H locs (G.2.2.1 - B.1) (G.2.2.2 - B.2.1) Q (F0 (xm X) pc ls st)
section Vrows
variable {X : VX} {own : String} {cc : ByteArray} {nL fr lo : Nat} {Ts : List Cond} {B : VB} {Q : State → Prop} {G : GH} {pc : Nat} {lv lv' : List (Nat × Value)} {st : List Value}
theorem v_sub (ks : List Nat) (hl : lv_pick lv ks = lv') (k : V X own cc nL fr lo Ts B Q G pc lv' st) : V X own cc nL fr lo Ts B Q G pc lv st := fun C K H ls locs hI h => k C K H ls locs hI (lv_sub h ks hl)
theorem v_iconst {n : Int} (v : Int32) (hd : decode cc pc = .ok (.iconst n, 1)) (hv : Int32.ofInt n = v) (k : V X own cc nL fr lo Ts B Q G (pc + 1) lv (.int v :: st)) : V X own cc nL fr lo Ts B Q G pc lv st := fun C K H ls locs hI hl => lv_iconst C.1 C.2.1 hd hv (k C K H ls locs hI hl)
theorem v_bipush {n : Int} (v : Int32) (hd : decode cc pc = .ok (.bipush n, 2)) (hv : (Int8.ofInt n).toInt32 = v) (k : V X own cc nL fr lo Ts B Q G (pc + 2) lv (.int v :: st)) : V X own cc nL fr lo Ts B Q G pc lv st := fun C K H ls locs hI hl => lv_bipush C.1 C.2.1 hd hv (k C K H ls locs hI hl)
theorem v_sipush {n : Int} (v : Int32) (hd : decode cc pc = .ok (.sipush n, 3)) (hv : (Int16.ofInt n).toInt32 = v) (k : V X own cc nL fr lo Ts B Q G (pc + 3) lv (.int v :: st)) : V X own cc nL fr lo Ts B Q G pc lv st := fun C K H ls locs hI hl => lv_sipush C.1 C.2.1 hd hv (k C K H ls locs hI hl)
theorem v_lconst {n : Fin 2} (v : Int64) (hd : decode cc pc = .ok (.lconst n, 1)) (hv : Int64.ofNat (n : Nat) = v) (k : V X own cc nL fr lo Ts B Q G (pc + 1) lv (.long v :: st)) : V X own cc nL fr lo Ts B Q G pc lv st := fun C K H ls locs hI hl => lv_lconst C.1 C.2.1 hd hv (k C K H ls locs hI hl)
theorem v_iload_n {n : Fin 4} {i : Nat} {x : Int32} (p : Nat) (hd : decode cc pc = .ok (.iload_n n, 1)) (hi : (n : Nat) = i) (hk : lv[p]? = some (i, .int x)) (k : V X own cc nL fr lo Ts B Q G (pc + 1) lv (.int x :: st)) : V X own cc nL fr lo Ts B Q G pc lv st := fun C K H ls locs hI hl => lv_iload_n C.1 C.2.1 hd hi (lv_at hl p hk) (k C K H ls locs hI hl)
theorem v_iload {i : Nat} {x : Int32} (p : Nat) (hd : decode cc pc = .ok (.iload i, 2)) (hk : lv[p]? = some (i, .int x)) (k : V X own cc nL fr lo Ts B Q G (pc + 2) lv (.int x :: st)) : V X own cc nL fr lo Ts B Q G pc lv st := fun C K H ls locs hI hl => lv_iload C.1 C.2.1 hd (lv_at hl p hk) (k C K H ls locs hI hl)
theorem v_lload_n {n : Fin 4} {i : Nat} {x : Int64} (p : Nat) (hd : decode cc pc = .ok (.lload_n n, 1)) (hi : (n : Nat) = i) (hk : lv[p]? = some (i, .long x)) (k : V X own cc nL fr lo Ts B Q G (pc + 1) lv (.long x :: st)) : V X own cc nL fr lo Ts B Q G pc lv st := fun C K H ls locs hI hl => lv_lload_n C.1 C.2.1 hd hi (lv_at hl p hk) (k C K H ls locs hI hl)
theorem v_aload_n {n : Fin 4} {i : Nat} {x : Nat} (p : Nat) (hd : decode cc pc = .ok (.aload_n n, 1)) (hi : (n : Nat) = i) (hk : lv[p]? = some (i, .ref x)) (k : V X own cc nL fr lo Ts B Q G (pc + 1) lv (.ref x :: st)) : V X own cc nL fr lo Ts B Q G pc lv st := fun C K H ls locs hI hl => lv_aload_n C.1 C.2.1 hd hi (lv_at hl p hk) (k C K H ls locs hI hl)
theorem v_aload {i : Nat} {x : Nat} (p : Nat) (hd : decode cc pc = .ok (.aload i, 2)) (hk : lv[p]? = some (i, .ref x)) (k : V X own cc nL fr lo Ts B Q G (pc + 2) lv (.ref x :: st)) : V X own cc nL fr lo Ts B Q G pc lv st := fun C K H ls locs hI hl => lv_aload C.1 C.2.1 hd (lv_at hl p hk) (k C K H ls locs hI hl)
theorem v_istore_n {n : Fin 4} {i : Nat} {x : Int32} (lv' : List (Nat × Value)) (hd : decode cc pc = .ok (.istore_n n, 1)) (hi : (n : Nat) = i) (hn : i < nL) (he : (i, Value.int x) :: lv.filter (fun q => !(q.1 == i) && !(q.1 + 1 == i && q.2.category == 2)) = lv') (k : V X own cc nL fr lo Ts B Q G (pc + 1) lv' st) : V X own cc nL fr lo Ts B Q G pc lv (.int x :: st) := fun C K H ls locs hI hl => lv_istore_n C.1 C.2.1 hd hi hl hn he (fun ls hl => k C K H ls locs hI hl)
theorem v_istore {i : Nat} {x : Int32} (lv' : List (Nat × Value)) (hd : decode cc pc = .ok (.istore i, 2)) (hn : i < nL) (he : (i, Value.int x) :: lv.filter (fun q => !(q.1 == i) && !(q.1 + 1 == i && q.2.category == 2)) = lv') (k : V X own cc nL fr lo Ts B Q G (pc + 2) lv' st) : V X own cc nL fr lo Ts B Q G pc lv (.int x :: st) := fun C K H ls locs hI hl => lv_istore C.1 C.2.1 hd hl hn he (fun ls hl => k C K H ls locs hI hl)
theorem v_lstore_n {n : Fin 4} {i : Nat} {x : Int64} (lv' : List (Nat × Value)) (hd : decode cc pc = .ok (.lstore_n n, 1)) (hi : (n : Nat) = i) (hn : i + 1 < nL) (he : (i, Value.long x) :: lv.filter (fun q => !(q.1 == i) && (!(q.1 == i + 1) && !(q.1 + 1 == i && q.2.category == 2))) = lv') (k : V X own cc nL fr lo Ts B Q G (pc + 1) lv' st) : V X own cc nL fr lo Ts B Q G pc lv (.long x :: st) := fun C K H ls locs hI hl => lv_lstore_n C.1 C.2.1 hd hi hl hn he (fun ls hl => k C K H ls locs hI hl)
theorem v_astore_n {n : Fin 4} {i : Nat} {x : Nat} (lv' : List (Nat × Value)) (hd : decode cc pc = .ok (.astore_n n, 1)) (hi : (n : Nat) = i) (hn : i < nL) (he : (i, Value.ref x) :: lv.filter (fun q => !(q.1 == i) && !(q.1 + 1 == i && q.2.category == 2)) = lv') (k : V X own cc nL fr lo Ts B Q G (pc + 1) lv' st) : V X own cc nL fr lo Ts B Q G pc lv (.ref x :: st) := fun C K H ls locs hI hl => lv_astore_n C.1 C.2.1 hd hi hl hn he (fun ls hl => k C K H ls locs hI hl)
theorem v_astore {i : Nat} {x : Nat} (lv' : List (Nat × Value)) (hd : decode cc pc = .ok (.astore i, 2)) (hn : i < nL) (he : (i, Value.ref x) :: lv.filter (fun q => !(q.1 == i) && !(q.1 + 1 == i && q.2.category == 2)) = lv') (k : V X own cc nL fr lo Ts B Q G (pc + 2) lv' st) : V X own cc nL fr lo Ts B Q G pc lv (.ref x :: st) := fun C K H ls locs hI hl => lv_astore C.1 C.2.1 hd hl hn he (fun ls hl => k C K H ls locs hI hl)
theorem v_iinc {i : Nat} {n : Int} {x : Int32} (p : Nat) (v : Int32) (lv' : List (Nat × Value)) (hd : decode cc pc = .ok (.iinc i n, 3)) (hk : lv[p]? = some (i, .int x)) (hv : x + Int32.ofInt n = v) (hn : i < nL) (he : (i, Value.int v) :: lv.filter (fun q => !(q.1 == i) && !(q.1 + 1 == i && q.2.category == 2)) = lv') (k : V X own cc nL fr lo Ts B Q G (pc + 3) lv' st) : V X own cc nL fr lo Ts B Q G pc lv st := fun C K H ls locs hI hl => lv_iinc C.1 C.2.1 hd hl (k := p) hk hv hn he (fun ls hl => k C K H ls locs hI hl)
theorem v_iadd {x y : Int32} (hd : decode cc pc = .ok (.iadd, 1)) (k : V X own cc nL fr lo Ts B Q G (pc + 1) lv (.int (x + y) :: st)) : V X own cc nL fr lo Ts B Q G pc lv (.int y :: .int x :: st) := fun C K H ls locs hI hl => lv_iadd C.1 C.2.1 hd (k C K H ls locs hI hl)
theorem v_isub {x y : Int32} (hd : decode cc pc = .ok (.isub, 1)) (k : V X own cc nL fr lo Ts B Q G (pc + 1) lv (.int (x - y) :: st)) : V X own cc nL fr lo Ts B Q G pc lv (.int y :: .int x :: st) := fun C K H ls locs hI hl => lv_isub C.1 C.2.1 hd (k C K H ls locs hI hl)
theorem v_imul {x y : Int32} (hd : decode cc pc = .ok (.imul, 1)) (k : V X own cc nL fr lo Ts B Q G (pc + 1) lv (.int (x * y) :: st)) : V X own cc nL fr lo Ts B Q G pc lv (.int y :: .int x :: st) := fun C K H ls locs hI hl => lv_imul C.1 C.2.1 hd (k C K H ls locs hI hl)
theorem v_iand {x y : Int32} (hd : decode cc pc = .ok (.iand, 1)) (k : V X own cc nL fr lo Ts B Q G (pc + 1) lv (.int (x &&& y) :: st)) : V X own cc nL fr lo Ts B Q G pc lv (.int y :: .int x :: st) := fun C K H ls locs hI hl => lv_iand C.1 C.2.1 hd (k C K H ls locs hI hl)
theorem v_idiv {x y : Int32} (hd : decode cc pc = .ok (.idiv, 1)) (hne : ¬ y = 0) (k : V X own cc nL fr lo Ts B Q G (pc + 1) lv (.int (x / y) :: st)) : V X own cc nL fr lo Ts B Q G pc lv (.int y :: .int x :: st) := fun C K H ls locs hI hl => lv_idiv C.1 C.2.1 hd hne (k C K H ls locs hI hl)
theorem v_ineg {x : Int32} (hd : decode cc pc = .ok (.ineg, 1)) (k : V X own cc nL fr lo Ts B Q G (pc + 1) lv (.int (-x) :: st)) : V X own cc nL fr lo Ts B Q G pc lv (.int x :: st) := fun C K H ls locs hI hl => lv_ineg C.1 C.2.1 hd (k C K H ls locs hI hl)
theorem v_ladd {x y : Int64} (hd : decode cc pc = .ok (.ladd, 1)) (k : V X own cc nL fr lo Ts B Q G (pc + 1) lv (.long (x + y) :: st)) : V X own cc nL fr lo Ts B Q G pc lv (.long y :: .long x :: st) := fun C K H ls locs hI hl => lv_ladd C.1 C.2.1 hd (k C K H ls locs hI hl)
theorem v_lmul {x y : Int64} (hd : decode cc pc = .ok (.lmul, 1)) (k : V X own cc nL fr lo Ts B Q G (pc + 1) lv (.long (x * y) :: st)) : V X own cc nL fr lo Ts B Q G pc lv (.long y :: .long x :: st) := fun C K H ls locs hI hl => lv_lmul C.1 C.2.1 hd (k C K H ls locs hI hl)
theorem v_i2l {x : Int32} (hd : decode cc pc = .ok (.i2l, 1)) (k : V X own cc nL fr lo Ts B Q G (pc + 1) lv (.long x.toInt64 :: st)) : V X own cc nL fr lo Ts B Q G pc lv (.int x :: st) := fun C K H ls locs hI hl => lv_i2l C.1 C.2.1 hd rfl (k C K H ls locs hI hl)
theorem v_i2d {x : Int32} (hd : decode cc pc = .ok (.i2d, 1)) (k : V X own cc nL fr lo Ts B Q G (pc + 1) lv (.double (FP.i2d x) :: st)) : V X own cc nL fr lo Ts B Q G pc lv (.int x :: st) := fun C K H ls locs hI hl => lv_i2d C.1 C.2.1 hd (k C K H ls locs hI hl)
theorem v_dconst0 (hd : decode cc pc = .ok (.dconst 0, 1)) (k : V X own cc nL fr lo Ts B Q G (pc + 1) lv (.double 0 :: st)) : V X own cc nL fr lo Ts B Q G pc lv st := fun C K H ls locs hI hl => lv_dconst0 C.1 C.2.1 hd (k C K H ls locs hI hl)
theorem v_dup {va : Value} (hd : decode cc pc = .ok (.dup, 1)) (hva : va.category = 1) (k : V X own cc nL fr lo Ts B Q G (pc + 1) lv (va :: va :: st)) : V X own cc nL fr lo Ts B Q G pc lv (va :: st) := fun C K H ls locs hI hl => lv_dup C.1 C.2.1 hd hva (k C K H ls locs hI hl)
theorem v_dup2 {va vb : Value} (hd : decode cc pc = .ok (.dup2, 1)) (hva : va.category = 1) (hvb : vb.category = 1) (k : V X own cc nL fr lo Ts B Q G (pc + 1) lv (va :: vb :: va :: vb :: st)) : V X own cc nL fr lo Ts B Q G pc lv (va :: vb :: st) := fun C K H ls locs hI hl => lv_dup2_11 C.1 C.2.1 hd hva hvb (k C K H ls locs hI hl)
theorem v_goto {off : Int} (tgt : Nat) (hd : decode cc pc = .ok (.goto off, 3)) (ht : (pc : Int) + off = (tgt : Int)) (k : V X own cc nL fr lo Ts B Q G tgt lv st) : V X own cc nL fr lo Ts B Q G pc lv st := fun C K H ls locs hI hl => lv_goto C.1 C.2.1 hd ht (k C K H ls locs hI hl)
theorem v_null (hd : decode cc pc = .ok (.aconst_null, 1)) (k : V X own cc nL fr lo Ts B Q G (pc + 1) lv (.null :: st)) : V X own cc nL fr lo Ts B Q G pc lv st := fun C K H ls locs hI hl => lv_null C.1 C.2.1 hd (k C K H ls locs hI hl)
end Vrows
end
section
/-! PART 04: V's rows that carry the partial program along: hf says what is left of it. -/
section Vbranch
variable {X : VX} {own : String} {cc : ByteArray} {nL fr lo : Nat} {Ts : List Cond} {B : VB} {Q : State → Prop} {G : GH} {pc : Nat} {lv lv' : List (Nat × Value)} {st : List Value} {ρ : Type} {R : ρ × GH}
theorem v_if_eq {x : Int32} {off : Int} {A C : MM ρ} {dp : Decidable (x = 0)} (tgt : Nat) (hd : decode cc pc = .ok (.ifCond .eq off, 3)) (ht : (pc : Int) + off = (tgt : Int)) (hf : (@ite _ (x = 0) dp A C).1 G = some R) (kt : x = 0 → A.1 G = some R → V X own cc nL fr lo Ts B Q G tgt lv st) (kf : ¬ x = 0 → C.1 G = some R → V X own cc nL fr lo Ts B Q G (pc + 3) lv st) : V X own cc nL fr lo Ts B Q G pc lv (.int x :: st) := fun D K H ls locs hI hl => lv_if_eq D.1 D.2.1 hd ht (fun h => kt h (by rw [if_pos h] at hf; exact hf) D K H ls locs hI hl) (fun h => kf h (by rw [if_neg h] at hf; exact hf) D K H ls locs hI hl)
theorem v_if_ne {x : Int32} {off : Int} {A C : MM ρ} {dp : Decidable (x = 0)} (tgt : Nat) (hd : decode cc pc = .ok (.ifCond .ne off, 3)) (ht : (pc : Int) + off = (tgt : Int)) (hf : (@ite _ (x = 0) dp A C).1 G = some R) (kt : ¬ x = 0 → C.1 G = some R → V X own cc nL fr lo Ts B Q G tgt lv st) (kf : x = 0 → A.1 G = some R → V X own cc nL fr lo Ts B Q G (pc + 3) lv st) : V X own cc nL fr lo Ts B Q G pc lv (.int x :: st) := fun D K H ls locs hI hl => lv_if_ne D.1 D.2.1 hd ht (fun h => kt h (by rw [if_neg h] at hf; exact hf) D K H ls locs hI hl) (fun h => kf h (by rw [if_pos h] at hf; exact hf) D K H ls locs hI hl)
theorem v_if_lt {x : Int32} {off : Int} {A C : MM ρ} {dp : Decidable (x < 0)} (tgt : Nat) (hd : decode cc pc = .ok (.ifCond .lt off, 3)) (ht : (pc : Int) + off = (tgt : Int)) (hf : (@ite _ (x < 0) dp A C).1 G = some R) (kt : x < 0 → A.1 G = some R → V X own cc nL fr lo Ts B Q G tgt lv st) (kf : ¬ x < 0 → C.1 G = some R → V X own cc nL fr lo Ts B Q G (pc + 3) lv st) : V X own cc nL fr lo Ts B Q G pc lv (.int x :: st) := fun D K H ls locs hI hl => lv_if_lt D.1 D.2.1 hd ht (fun h => kt h (by rw [if_pos h] at hf; exact hf) D K H ls locs hI hl) (fun h => kf h (by rw [if_neg h] at hf; exact hf) D K H ls locs hI hl)
theorem v_if_ge {x : Int32} {off : Int} {A C : MM ρ} {dp : Decidable (0 ≤ x)} (tgt : Nat) (hd : decode cc pc = .ok (.ifCond .ge off, 3)) (ht : (pc : Int) + off = (tgt : Int)) (hf : (@ite _ (0 ≤ x) dp A C).1 G = some R) (kt : 0 ≤ x → A.1 G = some R → V X own cc nL fr lo Ts B Q G tgt lv st) (kf : ¬ 0 ≤ x → C.1 G = some R → V X own cc nL fr lo Ts B Q G (pc + 3) lv st) : V X own cc nL fr lo Ts B Q G pc lv (.int x :: st) := fun D K H ls locs hI hl => lv_if_ge D.1 D.2.1 hd ht (fun h => kt h (by rw [if_pos h] at hf; exact hf) D K H ls locs hI hl) (fun h => kf h (by rw [if_neg h] at hf; exact hf) D K H ls locs hI hl)
theorem v_if_gt {x : Int32} {off : Int} {A C : MM ρ} {dp : Decidable (0 < x)} (tgt : Nat) (hd : decode cc pc = .ok (.ifCond .gt off, 3)) (ht : (pc : Int) + off = (tgt : Int)) (hf : (@ite _ (0 < x) dp A C).1 G = some R) (kt : 0 < x → A.1 G = some R → V X own cc nL fr lo Ts B Q G tgt lv st) (kf : ¬ 0 < x → C.1 G = some R → V X own cc nL fr lo Ts B Q G (pc + 3) lv st) : V X own cc nL fr lo Ts B Q G pc lv (.int x :: st) := fun D K H ls locs hI hl => lv_if_gt D.1 D.2.1 hd ht (fun h => kt h (by rw [if_pos h] at hf; exact hf) D K H ls locs hI hl) (fun h => kf h (by rw [if_neg h] at hf; exact hf) D K H ls locs hI hl)
theorem v_if_le {x : Int32} {off : Int} {A C : MM ρ} {dp : Decidable (x ≤ 0)} (tgt : Nat) (hd : decode cc pc = .ok (.ifCond .le off, 3)) (ht : (pc : Int) + off = (tgt : Int)) (hf : (@ite _ (x ≤ 0) dp A C).1 G = some R) (kt : x ≤ 0 → A.1 G = some R → V X own cc nL fr lo Ts B Q G tgt lv st) (kf : ¬ x ≤ 0 → C.1 G = some R → V X own cc nL fr lo Ts B Q G (pc + 3) lv st) : V X own cc nL fr lo Ts B Q G pc lv (.int x :: st) := fun D K H ls locs hI hl => lv_if_le D.1 D.2.1 hd ht (fun h => kt h (by rw [if_pos h] at hf; exact hf) D K H ls locs hI hl) (fun h => kf h (by rw [if_neg h] at hf; exact hf) D K H ls locs hI hl)
theorem v_icmp_eq {x y : Int32} {off : Int} {A C : MM ρ} {dp : Decidable (x = y)} (tgt : Nat) (hd : decode cc pc = .ok (.if_icmp .eq off, 3)) (ht : (pc : Int) + off = (tgt : Int)) (hf : (@ite _ (x = y) dp A C).1 G = some R) (kt : x = y → A.1 G = some R → V X own cc nL fr lo Ts B Q G tgt lv st) (kf : ¬ x = y → C.1 G = some R → V X own cc nL fr lo Ts B Q G (pc + 3) lv st) : V X own cc nL fr lo Ts B Q G pc lv (.int y :: .int x :: st) := fun D K H ls locs hI hl => lv_icmp_eq D.1 D.2.1 hd ht (fun h => kt h (by rw [if_pos h] at hf; exact hf) D K H ls locs hI hl) (fun h => kf h (by rw [if_neg h] at hf; exact hf) D K H ls locs hI hl)
theorem v_icmp_ne {x y : Int32} {off : Int} {A C : MM ρ} {dp : Decidable (x = y)} (tgt : Nat) (hd : decode cc pc = .ok (.if_icmp .ne off, 3)) (ht : (pc : Int) + off = (tgt : Int)) (hf : (@ite _ (x = y) dp A C).1 G = some R) (kt : ¬ x = y → C.1 G = some R → V X own cc nL fr lo Ts B Q G tgt lv st) (kf : x = y → A.1 G = some R → V X own cc nL fr lo Ts B Q G (pc + 3) lv st) : V X own cc nL fr lo Ts B Q G pc lv (.int y :: .int x :: st) := fun D K H ls locs hI hl => lv_icmp_ne D.1 D.2.1 hd ht (fun h => kt h (by rw [if_neg h] at hf; exact hf) D K H ls locs hI hl) (fun h => kf h (by rw [if_pos h] at hf; exact hf) D K H ls locs hI hl)
theorem v_icmp_lt {x y : Int32} {off : Int} {A C : MM ρ} {dp : Decidable (x < y)} (tgt : Nat) (hd : decode cc pc = .ok (.if_icmp .lt off, 3)) (ht : (pc : Int) + off = (tgt : Int)) (hf : (@ite _ (x < y) dp A C).1 G = some R) (kt : x < y → A.1 G = some R → V X own cc nL fr lo Ts B Q G tgt lv st) (kf : ¬ x < y → C.1 G = some R → V X own cc nL fr lo Ts B Q G (pc + 3) lv st) : V X own cc nL fr lo Ts B Q G pc lv (.int y :: .int x :: st) := fun D K H ls locs hI hl => lv_icmp_lt D.1 D.2.1 hd ht (fun h => kt h (by rw [if_pos h] at hf; exact hf) D K H ls locs hI hl) (fun h => kf h (by rw [if_neg h] at hf; exact hf) D K H ls locs hI hl)
theorem v_icmp_ge {x y : Int32} {off : Int} {A C : MM ρ} {dp : Decidable (y ≤ x)} (tgt : Nat) (hd : decode cc pc = .ok (.if_icmp .ge off, 3)) (ht : (pc : Int) + off = (tgt : Int)) (hf : (@ite _ (y ≤ x) dp A C).1 G = some R) (kt : y ≤ x → A.1 G = some R → V X own cc nL fr lo Ts B Q G tgt lv st) (kf : ¬ y ≤ x → C.1 G = some R → V X own cc nL fr lo Ts B Q G (pc + 3) lv st) : V X own cc nL fr lo Ts B Q G pc lv (.int y :: .int x :: st) := fun D K H ls locs hI hl => lv_icmp_ge D.1 D.2.1 hd ht (fun h => kt h (by rw [if_pos h] at hf; exact hf) D K H ls locs hI hl) (fun h => kf h (by rw [if_neg h] at hf; exact hf) D K H ls locs hI hl)
theorem v_icmp_gt {x y : Int32} {off : Int} {A C : MM ρ} {dp : Decidable (y < x)} (tgt : Nat) (hd : decode cc pc = .ok (.if_icmp .gt off, 3)) (ht : (pc : Int) + off = (tgt : Int)) (hf : (@ite _ (y < x) dp A C).1 G = some R) (kt : y < x → A.1 G = some R → V X own cc nL fr lo Ts B Q G tgt lv st) (kf : ¬ y < x → C.1 G = some R → V X own cc nL fr lo Ts B Q G (pc + 3) lv st) : V X own cc nL fr lo Ts B Q G pc lv (.int y :: .int x :: st) := fun D K H ls locs hI hl => lv_icmp_gt D.1 D.2.1 hd ht (fun h => kt h (by rw [if_pos h] at hf; exact hf) D K H ls locs hI hl) (fun h => kf h (by rw [if_neg h] at hf; exact hf) D K H ls locs hI hl)
theorem v_icmp_le {x y : Int32} {off : Int} {A C : MM ρ} {dp : Decidable (x ≤ y)} (tgt : Nat) (hd : decode cc pc = .ok (.if_icmp .le off, 3)) (ht : (pc : Int) + off = (tgt : Int)) (hf : (@ite _ (x ≤ y) dp A C).1 G = some R) (kt : x ≤ y → A.1 G = some R → V X own cc nL fr lo Ts B Q G tgt lv st) (kf : ¬ x ≤ y → C.1 G = some R → V X own cc nL fr lo Ts B Q G (pc + 3) lv st) : V X own cc nL fr lo Ts B Q G pc lv (.int y :: .int x :: st) := fun D K H ls locs hI hl => lv_icmp_le D.1 D.2.1 hd ht (fun h => kt h (by rw [if_pos h] at hf; exact hf) D K H ls locs hI hl) (fun h => kf h (by rw [if_neg h] at hf; exact hf) D K H ls locs hI hl)
theorem v_cases {c : Prop} {dp : Decidable c} {A C : MM ρ} {st : List Value} (hf : (@ite _ c dp A C).1 G = some R) (kt : c → A.1 G = some R → V X own cc nL fr lo Ts B Q G pc lv st) (kf : ¬ c → C.1 G = some R → V X own cc nL fr lo Ts B Q G pc lv st) : V X own cc nL fr lo Ts B Q G pc lv st := by
  by_cases h : c
  · exact kt h (by rw [if_pos h] at hf; exact hf)
  · exact kf h (by rw [if_neg h] at hf; exact hf)
theorem v_tblIn {dflt lo' hi off : Int} {offs : Array Int} {len : Nat} {x : Int32} (kx : Int32) (tgt : Nat) (hx : x = kx) (hd : decode cc pc = .ok (.tableswitch dflt lo' hi offs, len)) (h1 : ¬ kx.toInt < lo') (h2 : ¬ hi < kx.toInt) (ho : offs[(kx.toInt - lo').toNat]? = some off) (ht : (pc : Int) + off = (tgt : Int)) (k : V X own cc nL fr lo Ts B Q G tgt lv st) : V X own cc nL fr lo Ts B Q G pc lv (.int x :: st) := by
  subst hx
  exact fun D K H ls locs hI hl => lv_tableIn D.1 D.2.1 hd h1 h2 ho ht (k D K H ls locs hI hl)
theorem tbl_out {x : Int32} (n : Nat) (hn : n < 2 ^ 31) (h : ∀ a, a < n + 1 → ¬ x = Int32.ofNat a) : x.toInt < 0 ∨ (n : Int) < x.toInt := by
  rcases (show x.toInt < 0 ∨ 0 ≤ x.toInt by omega) with q | q
  · exact Or.inl q
  · rcases (show (n : Int) < x.toInt ∨ x.toInt ≤ (n : Int) by omega) with r | r
    · exact Or.inr r
    · exfalso
      refine h x.toInt.toNat (by omega) ?_
      apply Int32.toInt_inj.mp
      rw [Int32.toInt_ofNat_small (by omega)]
      omega
theorem v_tblOut {dflt hi : Int} {offs : Array Int} {len : Nat} {x : Int32} (n tgt : Nat) (hd : decode cc pc = .ok (.tableswitch dflt 0 hi offs, len)) (hn : n < 2 ^ 31) (hi0 : hi = (n : Int)) (h : ∀ a, a < n + 1 → ¬ x = Int32.ofNat a) (ht : (pc : Int) + dflt = (tgt : Int)) (k : V X own cc nL fr lo Ts B Q G tgt lv st) : V X own cc nL fr lo Ts B Q G pc lv (.int x :: st) := by
  subst hi0
  exact fun D K H ls locs hI hl => lv_tableOut D.1 D.2.1 hd (tbl_out n hn h) ht (k D K H ls locs hI hl)
theorem v_lookup {dflt : Int} {ps : Array (Int × Int)} {len : Nat} {x : Int32} {off : Int} (tgt : Nat) (hd : decode cc pc = .ok (.lookupswitch dflt ps, len)) (hp : (ps.toList.zip (ps.toList.drop 1)).all (fun (a, next) => a.1 < next.1) = true) (ho : Op.lookupswitch.offset ps.toList dflt x.toInt = off) (ht : (pc : Int) + off = (tgt : Int)) (k : V X own cc nL fr lo Ts B Q G tgt lv st) : V X own cc nL fr lo Ts B Q G pc lv (.int x :: st) := fun D K H ls locs hI hl => lv_lookup D.1 D.2.1 hd hp ho ht (k D K H ls locs hI hl)
theorem v_ifnull {r : Option Nat} {off : Int} {A : MM ρ} {C : Nat → MM ρ} (tgt : Nat) (hd : decode cc pc = .ok (.ifnull off, 3)) (ht : (pc : Int) + off = (tgt : Int)) (hf : (mnull r A C).1 G = some R) (kt : r = none → A.1 G = some R → V X own cc nL fr lo Ts B Q G tgt lv st) (kf : ∀ a : Nat, r = some a → (C a).1 G = some R → V X own cc nL fr lo Ts B Q G (pc + 3) lv st) : V X own cc nL fr lo Ts B Q G pc lv (va_rf r :: st) := by
  cases r with
  | none => exact fun D K H ls locs hI hl => lv_ifnullN D.1 D.2.1 hd ht (kt rfl hf D K H ls locs hI hl)
  | some a => exact fun D K H ls locs hI hl => lv_ifnull D.1 D.2.1 hd (kf a rfl hf D K H ls locs hI hl)
theorem v_ifnonnull {r : Option Nat} {off : Int} {A : MM ρ} {C : Nat → MM ρ} (tgt : Nat) (hd : decode cc pc = .ok (.ifnonnull off, 3)) (ht : (pc : Int) + off = (tgt : Int)) (hf : (mnull r A C).1 G = some R) (kt : r = none → A.1 G = some R → V X own cc nL fr lo Ts B Q G (pc + 3) lv st) (kf : ∀ a : Nat, r = some a → (C a).1 G = some R → V X own cc nL fr lo Ts B Q G tgt lv st) : V X own cc nL fr lo Ts B Q G pc lv (va_rf r :: st) := by
  cases r with
  | none => exact fun D K H ls locs hI hl => lv_ifnonnullN D.1 D.2.1 hd (kt rfl hf D K H ls locs hI hl)
  | some a => exact fun D K H ls locs hI hl => lv_ifnonnull D.1 D.2.1 hd ht (kf a rfl hf D K H ls locs hI hl)
end Vbranch
end
section
/-! PART 05: V's rows on cells: fields, arrays, new cells. -/
/-- where a program ends: the counters' last values are those of the end -/
def VE {ρ : Type} (B : VB) (R : ρ × GH) : Prop := B.2.2.1 = R.2.2.2.1 ∧ B.2.2.2 = R.2.2.2.2
section Vcells
variable {X : VX} {own : String} {cc : ByteArray} {nL fr lo : Nat} {Ts : List Cond} {B : VB} {Q : State → Prop} {G : GH} {pc : Nat} {lv : List (Nat × Value)} {st : List Value} {ρ : Type} {R : ρ × GH}
theorem gI.cell {H : Heap} {locs : List Loc} (hI : gI X G H locs) {a : Nat} {e : LE} (h : G.1 a = some e) : ∃ k : Nat, (gL (xdA X) G)[k]? = some (a, gE (xdA X) e) := gL_get (hI.1.2.2 a (by rw [h]; exact fun z => by cases z)) h
theorem gI.D {H : Heap} {locs : List Loc} (hI : gI X G H locs) : va_D (xA X) (gL (xdA X) G) := gL_D hI.2.1
/-- one cell's contents change -/
theorem gI.set {H H1 : Heap} {locs locs1 : List Loc} (hI : gI X G H locs) {a k : Nat} {e : LE} {x : va_E} (he : G.1 a = some e) (hk : (gL (xdA X) G)[k]? = some (a, x)) (e' : LE) (hz : H1.size = H.size) (hP : va_P (xDD X) vwCl ((gL (xdA X) G).set k (a, gE (xdA X) e')) H1) (hS : va_S (xA X) (xs X).heap H1 locs1) : gI X (va_up G.1 a (some e'), G.2) H1 locs1 := by
  rw [gL_set e' hk] at hP
  have ha : G.1 a ≠ none := by rw [he]; exact fun z => by cases z
  refine ⟨⟨hI.1.1.trans hz.symm, hP, fun b hb => ?_⟩, fun b hb => ?_, hS⟩
  · by_cases hba : b = a
    · rw [hba]; exact hI.1.2.2 a ha
    · exact hI.1.2.2 b (by simpa [va_up, hba] using hb)
  · by_cases hba : b = a
    · rw [hba]; exact hI.2.1 a ha
    · exact hI.2.1 b (by simpa [va_up, hba] using hb)
theorem gI.push {H H1 : Heap} {locs locs1 : List Loc} (hI : gI X G H locs) (hA : ∀ q, (xs X).heap.size ≤ q → (xA X) q) (e : LE) (c s : Nat) {q : Nat} (hq : q = H.size) (hz : H1.size = H.size + 1) (hP : va_P (xDD X) vwCl (gL (xdA X) G ++ [(q, gE (xdA X) e)]) H1) (hS : va_S (xA X) (xs X).heap H1 locs1) : gI X (va_up G.1 G.2.1 (some e), G.2.1 + 1, c, s) H1 locs1 := by
  have hn : q = G.2.1 := hq.trans hI.1.1.symm
  rw [hn, ← gL_push e c s] at hP
  refine ⟨⟨?_, hP, fun b hb => ?_⟩, fun b hb => ?_, hS⟩
  · show G.2.1 + 1 = _
    rw [hz, hI.1.1]
  · show b < G.2.1 + 1
    by_cases hba : b = G.2.1
    · omega
    · exact Nat.lt_succ_of_lt (hI.1.2.2 b (by simpa [va_up, hba] using hb))
  · by_cases hba : b = G.2.1
    · rw [hba, hI.1.1]; exact hA _ hI.2.2.1
    · exact hI.2.1 b (by simpa [va_up, hba] using hb)
theorem v_get {C : String} {T : u_T} {N index a : Nat} {v : Value} {fs : List Value} (ci k : Nat) (hin : ∀ w ∈ u_ws C T N, w ∈ Ts) (hc : vwCl[ci]? = some (C, T, N)) (hk : k < N) (hdc : (T k).1 = C) (hw : Cond.fieldLink own index C (T k).2.1 (T k).2.2.1 ∈ Ts) (hd : decode cc pc = .ok (.getfield index, 3)) (hg : G.1 a = some (.inr (ci, fs))) (hv : fs[k]? = some v)
    (kk : V X own cc nL fr lo Ts B Q G (pc + 3) lv (v :: st)) : V X own cc nL fr lo Ts B Q G pc lv (.ref a :: st) := by
  intro D K H ls locs hI hl
  obtain ⟨k0, hk0⟩ := hI.cell hg
  exact va_get D.x D.b D.ts hin D.ow D.k hI.1.2.1 k0 hk0 hc k hk (D.ts _ hw) (fun _ h => by rw [hdc] at h; exact h) hv hd (kk D K H ls locs hI hl)
theorem v_gi {C : String} {T : u_T} {N index a : Nat} {K : Int32 → MM ρ} (ci k : Nat) (hin : ∀ w ∈ u_ws C T N, w ∈ Ts) (hc : vwCl[ci]? = some (C, T, N)) (hk : k < N) (hdc : (T k).1 = C) (hw : Cond.fieldLink own index C (T k).2.1 (T k).2.2.1 ∈ Ts) (hd : decode cc pc = .ok (.getfield index, 3)) (hf : (mbind (mgi a ci k) K).1 G = some R)
    (kk : ∀ x : Int32, (K x).1 G = some R → V X own cc nL fr lo Ts B Q G (pc + 3) lv (.int x :: st)) : V X own cc nL fr lo Ts B Q G pc lv (.ref a :: st) := by
  obtain ⟨x, G1, h1, h2⟩ := mbind_inv hf
  obtain ⟨y, h3, h4⟩ := mread_inv h1
  cases h4
  obtain ⟨fs, h5, h6⟩ := Option.bind_eq_some_iff.mp h3
  exact v_get ci k hin hc hk hdc hw hd (gobj_inv h5) (oint_inv h6) (kk x h2)
theorem v_gr {C : String} {T : u_T} {N index a : Nat} {K : Nat → MM ρ} (ci k : Nat) (hin : ∀ w ∈ u_ws C T N, w ∈ Ts) (hc : vwCl[ci]? = some (C, T, N)) (hk : k < N) (hdc : (T k).1 = C) (hw : Cond.fieldLink own index C (T k).2.1 (T k).2.2.1 ∈ Ts) (hd : decode cc pc = .ok (.getfield index, 3)) (hf : (mbind (mgr a ci k) K).1 G = some R)
    (kk : ∀ x : Nat, (K x).1 G = some R → V X own cc nL fr lo Ts B Q G (pc + 3) lv (.ref x :: st)) : V X own cc nL fr lo Ts B Q G pc lv (.ref a :: st) := by
  obtain ⟨x, G1, h1, h2⟩ := mbind_inv hf
  obtain ⟨y, h3, h4⟩ := mread_inv h1
  cases h4
  obtain ⟨fs, h5, h6⟩ := Option.bind_eq_some_iff.mp h3
  exact v_get ci k hin hc hk hdc hw hd (gobj_inv h5) (oref_inv h6) (kk x h2)
theorem mput_inv {a ci k : Nat} {v : Value} {K : Unit → MM ρ} (hf : (mbind (mput a ci k v) K).1 G = some R) : ∃ fs, G.1 a = some (.inr (ci, fs)) ∧ k < fs.length ∧ (K ()).1 (va_up G.1 a (some (.inr (ci, fs.set k v))), G.2) = some R := by
  obtain ⟨x, G1, h1, h2⟩ := mbind_inv hf
  obtain ⟨y, h3, h4⟩ := mwrite_inv h1
  cases h4
  obtain ⟨fs, h5, h6⟩ := Option.bind_eq_some_iff.mp h3
  split at h6
  · rename_i hlt
    cases h6
    exact ⟨fs, gobj_inv h5, hlt, h2⟩
  · cases h6
theorem va_S_size {A : Nat → Prop} {H0 H : Heap} {locs : List Loc} (h : va_S A H0 H locs) : H0.size ≤ H.size := h.1
theorem v_put {C : String} {T : u_T} {N index a : Nat} {v : Value} {K : Unit → MM ρ} (ci k : Nat) (ty : FieldType) (hin : ∀ w ∈ u_ws C T N, w ∈ Ts) (ty0 : Nat → FieldType) (hty : ∀ k, k < N → parseFieldDescriptor (T k).2.2.1 = some (ty0 k)) (hnm : ∀ a, a < N → ∀ b, b < N → a ≠ b → (T a).2.1 ≠ (T b).2.1) (hc : vwCl[ci]? = some (C, T, N)) (hk : k < N) (hdc : (T k).1 = C) (hw : Cond.fieldLink own index C (T k).2.1 (T k).2.2.1 ∈ Ts) (hfin : (T k).2.2.2 = false) (hdt : parseFieldDescriptor (T k).2.2.1 = some ty) (hn : narrow ty v = v) (hfit : fits ty v = true) (hd : decode cc pc = .ok (.putfield index, 3)) (hf : (mbind (mput a ci k v) K).1 G = some R)
    (kk : ∀ G1 : GH, VK X B G1 → (K ()).1 G1 = some R → V X own cc nL fr lo Ts B Q G1 (pc + 3) lv st) : V X own cc nL fr lo Ts B Q G pc lv (v :: .ref a :: st) := by
  intro D Kb H ls locs hI hl
  obtain ⟨fs, hg, hlt, h2⟩ := mput_inv hf
  obtain ⟨k0, hk0⟩ := hI.cell hg
  have hap := va_apart (own := own) D.ts hin ty0 hty hnm D.k hc
  obtain ⟨r, h1, cell, q1, q2, q3, q4⟩ := hI.1.2.1 k0 _ hk0
  have hr : r = (C, T, N) := Option.some.inj (h1.symm.trans hc)
  subst hr
  obtain ⟨hS, hfc, kC, hkC, hkind⟩ := D.k.1 ci _ hc
  obtain ⟨cf, kf, fi, f, hi, hsl⟩ := hS k hk
  have hlay := D.ts _ (hin _ (u_in_lay hk))
  unfold u_lay at hlay
  rw [if_neg (by rw [hfin]; decide)] at hlay
  have hi2 : (xs X).fieldFound? C (T k).2.1 (T k).2.2.1 = some (cf, kf, fi, f) := by rw [← hdc]; exact hi
  refine W.putK D.x D.b (f := f) ⟨D.ow, D.ts _ hw, ⟨_, _, _, hi2⟩, (u_facts hfc hkC (u_lays D.ts hin hk) hi).1⟩ (by rw [q2]; exact u_store hfc hkC hkind hlay hi hdt hn hfit) q1 q3 (by rw [hsl]; exact k2_hasslot (q4 k hk)) rfl rfl hd fun H' e1 e2 e3 => ?_
  rw [hsl] at e1 ⊢
  have hP' := hI.1.2.1.set hI.D hk0 (e := .inr (ci, fs.set k v)) ⟨_, hc, t_OB.to (V := updV (vp_V fs) k v) ⟨_, e1, q2, q3, t_set q4 hap hk v⟩ (fun j _ => vp_updV_set hlt v j)⟩ e3
  have kz := kk _ (by exact Kb) h2
  exact kz D Kb H' ls _ (hI.set hg hk0 (.inr (ci, fs.set k v)) e2 hP' (hI.2.2.put e2 e3 (hI.D.2 k0 _ hk0))) hl
theorem v_putF {C : String} {T : u_T} {N index a : Nat} {v : Value} {K : Unit → MM ρ} (ci k : Nat) (ty : FieldType) (hinit : (xme X).name = "<init>") (hin : ∀ w ∈ u_ws C T N, w ∈ Ts) (ty0 : Nat → FieldType) (hty : ∀ k, k < N → parseFieldDescriptor (T k).2.2.1 = some (ty0 k)) (hnm : ∀ a, a < N → ∀ b, b < N → a ≠ b → (T a).2.1 ≠ (T b).2.1) (hc : vwCl[ci]? = some (C, T, N)) (hk : k < N) (hdc : (T k).1 = C) (hw : Cond.fieldLink own index C (T k).2.1 (T k).2.2.1 ∈ Ts) (hfin : (T k).2.2.2 = true) (hdecl : (T k).1 = own) (hdt : parseFieldDescriptor (T k).2.2.1 = some ty) (hn : narrow ty v = v) (hfit : fits ty v = true) (hd : decode cc pc = .ok (.putfield index, 3)) (hf : (mbind (mput a ci k v) K).1 G = some R)
    (kk : ∀ G1 : GH, VK X B G1 → (K ()).1 G1 = some R → V X own cc nL fr lo Ts B Q G1 (pc + 3) lv st) : V X own cc nL fr lo Ts B Q G pc lv (v :: .ref a :: st) := by
  intro D Kb H ls locs hI hl
  obtain ⟨fs, hg, hlt, h2⟩ := mput_inv hf
  obtain ⟨k0, hk0⟩ := hI.cell hg
  have hap := va_apart (own := own) D.ts hin ty0 hty hnm D.k hc
  obtain ⟨r, h1, cell, q1, q2, q3, q4⟩ := hI.1.2.1 k0 _ hk0
  have hr : r = (C, T, N) := Option.some.inj (h1.symm.trans hc)
  subst hr
  obtain ⟨hS, hfc, kC, hkC, hkind⟩ := D.k.1 ci _ hc
  obtain ⟨cf, kf, fi, f, hi, hsl⟩ := hS k hk
  have hlay := D.ts _ (hin _ (u_in_lay hk))
  unfold u_lay at hlay
  rw [if_pos hfin] at hlay
  have hcf : (xm X).cls = cf := by
    obtain ⟨_, _, c', _, _, _, -, -, hf', -, -, -, hown2, -⟩ := Cond.laysFinal_spec hlay
    have e1 : c' = cf := by have := hi.symm.trans hf'; simp at this; exact this.1.symm
    rw [hdecl] at hown2
    rw [← e1]; exact Option.some.inj (D.ow.symm.trans hown2)
  have hi2 : (xs X).fieldFound? C (T k).2.1 (T k).2.2.1 = some (cf, kf, fi, f) := by rw [← hdc]; exact hi
  refine W.putFinK D.x D.b D.ow (D.ts _ hw) hi2 (u_facts hfc hkC (u_lays D.ts hin hk) hi).1 hcf hinit (by rw [q2]; exact u_fits hfc hkC hkind (Or.inr hlay) hi hdt hn hfit) q1 q3 (by rw [hsl]; exact k2_hasslot (q4 k hk)) rfl rfl hd fun H' e1 e2 e3 => ?_
  rw [hsl] at e1 ⊢
  have hP' := hI.1.2.1.set hI.D hk0 (e := .inr (ci, fs.set k v)) ⟨_, hc, t_OB.to (V := updV (vp_V fs) k v) ⟨_, e1, q2, q3, t_set q4 hap hk v⟩ (fun j _ => vp_updV_set hlt v j)⟩ e3
  have kz := kk _ (by exact Kb) h2
  exact kz D Kb H' ls _ (hI.set hg hk0 (.inr (ci, fs.set k v)) e2 hP' (hI.2.2.put e2 e3 (hI.D.2 k0 _ hk0))) hl
end Vcells
end
section
/-! PART 06: V's rows on arrays, new cells, Math, Object's constructor, System.arraycopy. -/
section Varr
variable {X : VX} {own : String} {cc : ByteArray} {nL fr lo : Nat} {Ts : List Cond} {B : VB} {Q : State → Prop} {G : GH} {pc : Nat} {lv : List (Nat × Value)} {st : List Value} {ρ : Type} {R : ρ × GH}
theorem v_len {a t : Nat} {ty : FieldType} {K : Int32 → MM ρ} (ht : ∀ dA, (gty dA)[t]? = some (dA t, ty)) (hd : decode cc pc = .ok (.arraylength, 1)) (hf : (mbind (mlen a t) K).1 G = some R)
    (kk : ∀ x : Int32, (K x).1 G = some R → V X own cc nL fr lo Ts B Q G (pc + 1) lv (.int x :: st)) : V X own cc nL fr lo Ts B Q G pc lv (.ref a :: st) := by
  intro D Kb H ls locs hI hl
  obtain ⟨x, G1, h1, h2⟩ := mbind_inv hf
  obtain ⟨y, h3, h4⟩ := mread_inv h1
  cases h4
  obtain ⟨z, h5, h6⟩ := Option.map_eq_some_iff.mp h3
  obtain ⟨k0, hk0⟩ := hI.cell (garr_inv h5)
  exact va_alen D.x D.b D.k hI.1.2.1 k0 t hk0 (ht _) h6 hd (kk x h2 D Kb H ls locs hI hl)
theorem v_iald {a : Nat} {i : Int32} {K : Int32 → MM ρ} (hd : decode cc pc = .ok (.iaload, 1)) (hf : (mbind (mali a i) K).1 G = some R)
    (kk : ∀ x : Int32, (K x).1 G = some R → V X own cc nL fr lo Ts B Q G (pc + 1) lv (.int x :: st)) : V X own cc nL fr lo Ts B Q G pc lv (.int i :: .ref a :: st) := by
  intro D Kb H ls locs hI hl
  obtain ⟨x, G1, h1, h2⟩ := mbind_inv hf
  obtain ⟨y, h3, h4⟩ := mread_inv h1
  cases h4
  obtain ⟨q, h5, h6⟩ := Option.bind_eq_some_iff.mp h3
  obtain ⟨z, h7, h8⟩ := Option.bind_eq_some_iff.mp h5
  obtain ⟨hin, rfl⟩ := oin_inv h6
  obtain ⟨n, f⟩ := q
  have h9 := aint_inv h8
  subst h9
  obtain ⟨k0, hk0⟩ := hI.cell (garr_inv h7)
  exact va_iald D.x D.b D.k hI.1.2.1 k0 0 hk0 rfl hin hd (kk _ h2 D Kb H ls locs hI hl)
theorem v_lald {a : Nat} {i : Int32} {K : Int64 → MM ρ} (hd : decode cc pc = .ok (.laload, 1)) (hf : (mbind (mall a i) K).1 G = some R)
    (kk : ∀ x : Int64, (K x).1 G = some R → V X own cc nL fr lo Ts B Q G (pc + 1) lv (.long x :: st)) : V X own cc nL fr lo Ts B Q G pc lv (.int i :: .ref a :: st) := by
  intro D Kb H ls locs hI hl
  obtain ⟨x, G1, h1, h2⟩ := mbind_inv hf
  obtain ⟨y, h3, h4⟩ := mread_inv h1
  cases h4
  obtain ⟨q, h5, h6⟩ := Option.bind_eq_some_iff.mp h3
  obtain ⟨z, h7, h8⟩ := Option.bind_eq_some_iff.mp h5
  obtain ⟨hin, rfl⟩ := oin_inv h6
  obtain ⟨n, f⟩ := q
  have h9 := alng_inv h8
  subst h9
  obtain ⟨k0, hk0⟩ := hI.cell (garr_inv h7)
  exact va_lald D.x D.b D.k hI.1.2.1 k0 1 hk0 rfl hin hd (kk _ h2 D Kb H ls locs hI hl)
theorem v_dald {a : Nat} {i : Int32} {K : UInt64 → MM ρ} (hd : decode cc pc = .ok (.daload, 1)) (hf : (mbind (mald a i) K).1 G = some R)
    (kk : ∀ x : UInt64, (K x).1 G = some R → V X own cc nL fr lo Ts B Q G (pc + 1) lv (.double x :: st)) : V X own cc nL fr lo Ts B Q G pc lv (.int i :: .ref a :: st) := by
  intro D Kb H ls locs hI hl
  obtain ⟨x, G1, h1, h2⟩ := mbind_inv hf
  obtain ⟨y, h3, h4⟩ := mread_inv h1
  cases h4
  obtain ⟨q, h5, h6⟩ := Option.bind_eq_some_iff.mp h3
  obtain ⟨z, h7, h8⟩ := Option.bind_eq_some_iff.mp h5
  obtain ⟨hin, rfl⟩ := oin_inv h6
  obtain ⟨n, f⟩ := q
  have h9 := adbl_inv h8
  subst h9
  obtain ⟨k0, hk0⟩ := hI.cell (garr_inv h7)
  exact va_dald D.x D.b D.k hI.1.2.1 k0 2 hk0 rfl hin hd (kk _ h2 D Kb H ls locs hI hl)
theorem v_aldq {a t : Nat} {C : String} {i : Int32} {K : Option Nat → MM ρ} (ht : ∀ dA, (gty dA)[t]? = some (dA t, .object C)) (hd : decode cc pc = .ok (.aaload, 1)) (hf : (mbind (malq a t i) K).1 G = some R)
    (kk : ∀ x : Option Nat, (K x).1 G = some R → V X own cc nL fr lo Ts B Q G (pc + 1) lv (va_rf x :: st)) : V X own cc nL fr lo Ts B Q G pc lv (.int i :: .ref a :: st) := by
  intro D Kb H ls locs hI hl
  obtain ⟨x, G1, h1, h2⟩ := mbind_inv hf
  obtain ⟨y, h3, h4⟩ := mread_inv h1
  cases h4
  obtain ⟨q, h5, h6⟩ := Option.bind_eq_some_iff.mp h3
  obtain ⟨z, h7, h8⟩ := Option.bind_eq_some_iff.mp h5
  obtain ⟨hin, rfl⟩ := oin_inv h6
  obtain ⟨n, f⟩ := q
  have h9 := aref_inv h8
  subst h9
  obtain ⟨k0, hk0⟩ := hI.cell (garr_inv h7)
  exact va_aldq D.x D.b D.k hI.1.2.1 k0 t hk0 (ht _) hin hd (kk _ h2 D Kb H ls locs hI hl)
theorem mwr_inv {f : GH → Option (Nat → Option LE)} {K : Unit → MM ρ} (hf : (mbind (mwrite f) K).1 G = some R) : ∃ h, f G = some h ∧ (K ()).1 (h, G.2) = some R := by
  obtain ⟨x, G1, h1, h2⟩ := mbind_inv hf
  obtain ⟨y, h3, h4⟩ := mwrite_inv h1
  cases h4
  exact ⟨y, h3, h2⟩
theorem v_iast {a : Nat} {i x : Int32} {K : Unit → MM ρ} (hd : decode cc pc = .ok (.iastore, 1)) (hf : (mbind (masi a i x) K).1 G = some R)
    (kk : ∀ G1 : GH, VK X B G1 → (K ()).1 G1 = some R → V X own cc nL fr lo Ts B Q G1 (pc + 1) lv st) : V X own cc nL fr lo Ts B Q G pc lv (.int x :: .int i :: .ref a :: st) := by
  intro D Kb H ls locs hI hl
  obtain ⟨h, h3, h2⟩ := mwr_inv hf
  obtain ⟨q, h5, h6⟩ := Option.bind_eq_some_iff.mp h3
  obtain ⟨z, h7, h8⟩ := Option.bind_eq_some_iff.mp h5
  obtain ⟨hin, rfl⟩ := oin_inv h6
  obtain ⟨n, f⟩ := q
  have h9 := aint_inv h8
  subst h9
  obtain ⟨k0, hk0⟩ := hI.cell (garr_inv h7)
  refine W.iast D.x D.b (hI.1.2.1 k0 _ hk0) ((D.k.2 0 _ rfl).1 n (fun j => .int (f j))) (fun q => by cases q) (by show ¬ (i < 0 ∨ (arrV _ _ _).slots.size ≤ _); rw [arrV_size]; exact hin) rfl rfl hd fun H1 e z oq => ?_
  have kz := kk _ (by exact Kb) h2
  refine kz D Kb H1 ls _ (hI.set (garr_inv h7) hk0 (.inl (0, (n, .inl (upd f i.toNatClampNeg x)))) z (hI.1.2.1.set hI.D hk0 ?_ oq) (hI.2.2.put z oq (hI.D.2 k0 _ hk0))) hl
  show H1[a]? = some (vp_cell _ _)
  rw [e]
  rw [vp_cell_i, vp_cell_i, arrV_store]
  congr 2
  funext q
  by_cases hq : q = i.toNatClampNeg
  · subst hq
    simp [updV, upd]
  · simp [updV, upd, hq]
theorem v_last {a : Nat} {i : Int32} {x : Int64} {K : Unit → MM ρ} (hd : decode cc pc = .ok (.lastore, 1)) (hf : (mbind (masl a i x) K).1 G = some R)
    (kk : ∀ G1 : GH, VK X B G1 → (K ()).1 G1 = some R → V X own cc nL fr lo Ts B Q G1 (pc + 1) lv st) : V X own cc nL fr lo Ts B Q G pc lv (.long x :: .int i :: .ref a :: st) := by
  intro D Kb H ls locs hI hl
  obtain ⟨h, h3, h2⟩ := mwr_inv hf
  obtain ⟨q, h5, h6⟩ := Option.bind_eq_some_iff.mp h3
  obtain ⟨z, h7, h8⟩ := Option.bind_eq_some_iff.mp h5
  obtain ⟨hin, rfl⟩ := oin_inv h6
  obtain ⟨n, f⟩ := q
  have h9 := alng_inv h8
  subst h9
  obtain ⟨k0, hk0⟩ := hI.cell (garr_inv h7)
  refine W.last D.x D.b (hI.1.2.1 k0 _ hk0) ((D.k.2 1 _ rfl).1 n (fun j => .long (f j))) (fun q => by cases q) (by show ¬ (i < 0 ∨ (arrV _ _ _).slots.size ≤ _); rw [arrV_size]; exact hin) rfl rfl hd fun H1 e z oq => ?_
  have kz := kk _ (by exact Kb) h2
  refine kz D Kb H1 ls _ (hI.set (garr_inv h7) hk0 (.inl (1, (n, .inr (.inl (vp_updL f i.toNatClampNeg x))))) z (hI.1.2.1.set hI.D hk0 ?_ oq) (hI.2.2.put z oq (hI.D.2 k0 _ hk0))) hl
  show H1[a]? = some (vp_cell _ _)
  rw [e]
  rw [vp_cell_l, vp_cell_l, arrV_store]
  congr 2
  funext q
  by_cases hq : q = i.toNatClampNeg
  · subst hq
    simp [updV, vp_updL]
  · simp [updV, vp_updL, hq]
theorem v_dast {a : Nat} {i : Int32} {x : UInt64} {K : Unit → MM ρ} (hd : decode cc pc = .ok (.dastore, 1)) (hf : (mbind (masd a i x) K).1 G = some R)
    (kk : ∀ G1 : GH, VK X B G1 → (K ()).1 G1 = some R → V X own cc nL fr lo Ts B Q G1 (pc + 1) lv st) : V X own cc nL fr lo Ts B Q G pc lv (.double x :: .int i :: .ref a :: st) := by
  intro D Kb H ls locs hI hl
  obtain ⟨h, h3, h2⟩ := mwr_inv hf
  obtain ⟨q, h5, h6⟩ := Option.bind_eq_some_iff.mp h3
  obtain ⟨z, h7, h8⟩ := Option.bind_eq_some_iff.mp h5
  obtain ⟨hin, rfl⟩ := oin_inv h6
  obtain ⟨n, f⟩ := q
  have h9 := adbl_inv h8
  subst h9
  obtain ⟨k0, hk0⟩ := hI.cell (garr_inv h7)
  refine W.dast D.x D.b (hI.1.2.1 k0 _ hk0) ((D.k.2 2 _ rfl).1 n (fun j => .double (f j))) (fun q => by cases q) (by show ¬ (i < 0 ∨ (arrV _ _ _).slots.size ≤ _); rw [arrV_size]; exact hin) rfl rfl hd fun H1 e z oq => ?_
  have kz := kk _ (by exact Kb) h2
  refine kz D Kb H1 ls _ (hI.set (garr_inv h7) hk0 (.inl (2, (n, .inr (.inr (.inr (.inl (vf_upd f i.toNatClampNeg x))))))) z (hI.1.2.1.set hI.D hk0 ?_ oq) (hI.2.2.put z oq (hI.D.2 k0 _ hk0))) hl
  show H1[a]? = some (vp_cell _ _)
  rw [e]
  rw [vp_cell_d, vp_cell_d, arrV_store]
  congr 2
  funext q
  by_cases hq : q = i.toNatClampNeg
  · subst hq
    simp [updV, vf_upd]
  · simp [updV, vf_upd, hq]
theorem v_astq {a t ci : Nat} {C : String} {T : u_T} {N : Nat} {i : Int32} {r : Option Nat} {K : Unit → MM ρ} (ht : ∀ dA, (gty dA)[t]? = some (dA t, .object C)) (hc : vwCl[ci]? = some (C, T, N)) (hd : decode cc pc = .ok (.aastore, 1)) (hf : (mbind (masq a t ci i r) K).1 G = some R)
    (kk : ∀ G1 : GH, VK X B G1 → (K ()).1 G1 = some R → V X own cc nL fr lo Ts B Q G1 (pc + 1) lv st) : V X own cc nL fr lo Ts B Q G pc lv (va_rf r :: .int i :: .ref a :: st) := by
  intro D Kb H ls locs hI hl
  obtain ⟨h, h3, h2⟩ := mwr_inv hf
  obtain ⟨u, hu, h3⟩ := Option.bind_eq_some_iff.mp h3
  obtain ⟨q, h5, h6⟩ := Option.bind_eq_some_iff.mp h3
  obtain ⟨z, h7, h8⟩ := Option.bind_eq_some_iff.mp h5
  obtain ⟨hin, rfl⟩ := oin_inv h6
  obtain ⟨n, f⟩ := q
  have h9 := aref_inv h8
  subst h9
  obtain ⟨k0, hk0⟩ := hI.cell (garr_inv h7)
  have fin : ∀ (H1 : Heap), H1[a]? = some ((arrV (xdA X t) n (fun j => va_rf (f j))).setSlot i.toNatClampNeg (va_rf r)) → H1.size = H.size → (∀ q, q ≠ a → H1[q]? = H[q]?) → W (xp X) (xl X) (xe X) (xR X) (xs X) (xm X) (xa X) (xb X) (xme X) (xc X) H1 (locs ++ [⟨a, i.toNatClampNeg⟩]) (G.2.2.1 - B.1) (G.2.2.2 - B.2.1) Q (F0 (xm X) (pc + 1) ls st) := by
    intro H1 e z oq
    have kz := kk _ (by exact Kb) h2
    refine kz D Kb H1 ls _ (hI.set (garr_inv h7) hk0 (.inl (t, (n, .inr (.inr (.inr (.inr (va_up f i.toNatClampNeg r))))))) z (hI.1.2.1.set hI.D hk0 ?_ oq) (hI.2.2.put z oq (hI.D.2 k0 _ hk0))) hl
    show H1[a]? = some (vp_cell _ _)
    rw [e]
    rw [vp_cell_q, arrV_store]
    congr 2
    funext q
    by_cases hq : q = i.toNatClampNeg
    · subst hq
      simp [updV, va_up]
    · simp [updV, va_up, hq]
  cases r with
  | none =>
    exact va_WaastN (C := C) D.x D.b (hI.1.2.1 k0 _ hk0) ((D.k.2 t _ (ht _)).1 n (fun j => va_rf (f j))) (fun h => by cases h) (by show ¬ (i < 0 ∨ (arrV _ _ _).slots.size ≤ _); rw [arrV_size]; exact hin) rfl rfl hd fun H1 e z oq => fin H1 e z oq
  | some v =>
    have hlt : i.toNatClampNeg < n := Nat.not_le.mp fun q => hin (Or.inr q)
    have h0 : ¬ i < 0 := fun q => hin (Or.inl q)
    obtain ⟨vs, hv, -⟩ := Option.map_eq_some_iff.mp hu
    obtain ⟨qk, hqk⟩ := hI.cell (gobj_inv hv)
    obtain ⟨r', hr', cellV, g1, g2, g3, -⟩ := hI.1.2.1 qk _ hqk
    have hcls := (D.k.1 ci _ hc).2
    obtain ⟨kA, comp, k1, k2, k3, -⟩ := (D.k.2 t _ (ht _)).2
    have hcomp : comp = (xDD X).1 ci := Option.some.inj (k3.symm.trans hcls.1)
    subst hcomp
    obtain ⟨kC, hkC, -⟩ := hcls.2
    exact W.aast D.x D.b (hI.1.2.1 k0 _ hk0) (fun q h => by cases h) (fun h => by cases h) k1 k2 rfl hkC ⟨h0, by show _ < (arrV _ _ _).slots.size; rw [arrV_size]; exact hlt⟩ g1 (fun q h => by rw [g3] at h; cases h) (by rw [g2]; exact hkC) (by rw [g2]; exact va_assign hcls) rfl rfl hd fun H1 e z oq => fin H1 e z oq
end Varr
end
section
/-! PART 07: V's rows on new cells, Math, Object's constructor, System.arraycopy. -/
section Vnew
variable {X : VX} {own : String} {cc : ByteArray} {nL fr lo : Nat} {Ts : List Cond} {B : VB} {Q : State → Prop} {G : GH} {pc : Nat} {lv : List (Nat × Value)} {st : List Value} {ρ : Type} {R : ρ × GH}
theorem mnw_inv {f : GH → Option (LE × Nat)} {K : Nat → MM ρ} (hf : (mbind (mnew f) K).1 G = some R) : ∃ e, f G = some e ∧ (K G.2.1).1 (va_up G.1 G.2.1 (some e.1), G.2.1 + 1, G.2.2.1 + 1, G.2.2.2 + e.2) = some R := by
  obtain ⟨x, G1, h1, h2⟩ := mbind_inv hf
  obtain ⟨y, h3, h4⟩ := mnew_inv h1
  cases h4
  exact ⟨y, h3, h2⟩
theorem VK.room {c s : Nat} {h : Nat → Option LE} {n : Nat} (Kb : VK X B G) (hE : VE B R) {K : MM ρ} (h2 : K.1 (h, n, G.2.2.1 + c, G.2.2.2 + s) = some R) : (G.2.2.1 - B.1) + c ≤ (xR X).cells ∧ (G.2.2.2 - B.2.1) + s ≤ (xR X).slots ∧ VK X B (h, n, G.2.2.1 + c, G.2.2.2 + s) ∧ (G.2.2.1 - B.1) + c = G.2.2.1 + c - B.1 ∧ (G.2.2.2 - B.2.1) + s = G.2.2.2 + s - B.2.1 := by
  obtain ⟨-, g1, g2⟩ := K.2 _ _ _ h2
  obtain ⟨k1, k2, k3, k4⟩ := Kb
  obtain ⟨e1, e2⟩ := hE
  refine ⟨?_, ?_, ⟨k1, k2, ?_, ?_⟩, ?_, ?_⟩
  · rw [k1, e1]; dsimp only at g1; omega
  · rw [k2, e2]; dsimp only at g2; omega
  · dsimp only; omega
  · dsimp only; omega
  · omega
  · omega
theorem v_newo {C : String} {T : u_T} {N index : Nat} {fs : List Value} {K : Nat → MM ρ} (ci : Nat) (ty : Nat → FieldType) (hin : ∀ w ∈ u_ws C T N, w ∈ Ts) (hty : ∀ k, k < N → parseFieldDescriptor (T k).2.2.1 = some (ty k)) (hc : vwCl[ci]? = some (C, T, N)) (hcl : Cond.classLink own index C ∈ Ts) (hinst : Cond.instantiable C N ∈ Ts) (hini : Cond.initialized C ∈ Ts) (hfs : ∀ j, j < N → defaultValue (ty j) = vp_V fs j) (hd : decode cc pc = .ok (.new index, 3)) (hE : VE B R) (hf : (mbind (mnewo ci fs N) K).1 G = some R)
    (kk : ∀ (q : Nat) (G1 : GH), (K q).1 G1 = some R → V X own cc nL fr lo Ts B Q G1 (pc + 3) lv (.ref q :: st)) : V X own cc nL fr lo Ts B Q G pc lv st := by
  intro D Kb H ls locs hI hl
  obtain ⟨e, h3, h2⟩ := mnw_inv hf
  cases h3
  obtain ⟨r1, r2, r3, r4, r5⟩ := Kb.room hE h2
  have hKn := D.k.1 ci _ hc
  refine W.newcK D.x D.b D.ow (D.ts _ hcl) (D.ts _ hinst) (D.ts _ hini) rfl hd r1 r2 hKn.2.1 rfl fun H1 kC hkC e1 z1 o1 => ?_
  have hk : ∀ (k : Nat) (x : Nat × va_E), (gL (xdA X) G)[k]? = some x → H1[x.1]? = H[x.1]? := fun k x hx => o1 x.1 ((hI.1.2.1 k x hx).lt)
  have hI1 := hI.push D.a (.inr (ci, fs)) (G.2.2.1 + 1) (G.2.2.2 + N) rfl z1 ((hI.1.2.1.kept hk).app (fun k x hx => by
    have hz : k < 1 := (List.getElem?_eq_some_iff.mp hx).1
    rw [show k = 0 by omega] at hx
    cases hx
    exact ⟨_, hc, (u_born ty D.ts hin hKn hkC e1 hty).to hfs⟩)) ⟨Nat.le_trans hI.2.2.1 (by omega), fun x h1 h2 => (o1 x (Nat.lt_of_lt_of_le h1 hI.2.2.1)).trans (hI.2.2.2.1 x h1 h2), hI.2.2.2.2⟩
  have k0 := kk G.2.1 _ h2 D r3 H1 ls locs hI1 hl
  rw [hI.1.1] at k0
  rw [r4, r5]
  exact k0
theorem v_newi {n : Int32} {K : Nat → MM ρ} (harr : Cond.arrayClass .int ∈ Ts) (hd : decode cc pc = .ok (.newarray .int, 2)) (hE : VE B R) (hf : (mbind (mnewi n) K).1 G = some R)
    (kk : ∀ (q : Nat) (G1 : GH), (K q).1 G1 = some R → V X own cc nL fr lo Ts B Q G1 (pc + 2) lv (.ref q :: st)) : V X own cc nL fr lo Ts B Q G pc lv (.int n :: st) := by
  intro D Kb H ls locs hI hl
  obtain ⟨e, h3, h2⟩ := mnw_inv hf
  split at h3
  · rename_i hn
    cases h3
    obtain ⟨r1, r2, r3, r4, r5⟩ := Kb.room hE h2
    refine va_newaK (atype := .int) (N := n.toNatClampNeg) D.x D.b (D.ts _ harr) rfl hd rfl hn.1 rfl (by show n.toNatClampNeg * 4 ≤ 536870912; omega) r1 r2 rfl fun H1 cA e1 z1 o1 hAr hNm => ?_
    have hcA : cA = xdA X 0 := by
      have h9 := (D.k.2 0 _ rfl).2
      exact Option.some.inj (hNm.symm.trans h9)
    subst hcA
    have hk : ∀ (k : Nat) (x : Nat × va_E), (gL (xdA X) G)[k]? = some x → H1[x.1]? = H[x.1]? := fun k x hx => o1 x.1 ((hI.1.2.1 k x hx).lt)
    have hI1 := hI.push D.a (.inl (0, (n.toNatClampNeg, .inl (fun _ => 0)))) (G.2.2.1 + 1) (G.2.2.2 + n.toNatClampNeg) rfl z1 ((hI.1.2.1.kept hk).app (fun k x hx => by
      have hz : k < 1 := (List.getElem?_eq_some_iff.mp hx).1
      rw [show k = 0 by omega] at hx
      cases hx
      exact e1)) ⟨Nat.le_trans hI.2.2.1 (by omega), fun x h1 h2 => (o1 x (Nat.lt_of_lt_of_le h1 hI.2.2.1)).trans (hI.2.2.2.1 x h1 h2), hI.2.2.2.2⟩
    have k0 := kk G.2.1 _ h2 D r3 H1 ls locs hI1 hl
    rw [hI.1.1] at k0
    rw [r4, r5]
    exact k0
  · cases h3
theorem v_newl {n : Int32} {K : Nat → MM ρ} (harr : Cond.arrayClass .long ∈ Ts) (hd : decode cc pc = .ok (.newarray .long, 2)) (hE : VE B R) (hf : (mbind (mnewl n) K).1 G = some R)
    (kk : ∀ (q : Nat) (G1 : GH), (K q).1 G1 = some R → V X own cc nL fr lo Ts B Q G1 (pc + 2) lv (.ref q :: st)) : V X own cc nL fr lo Ts B Q G pc lv (.int n :: st) := by
  intro D Kb H ls locs hI hl
  obtain ⟨e, h3, h2⟩ := mnw_inv hf
  split at h3
  · rename_i hn
    cases h3
    obtain ⟨r1, r2, r3, r4, r5⟩ := Kb.room hE h2
    refine va_newaK (atype := .long) (N := n.toNatClampNeg) D.x D.b (D.ts _ harr) rfl hd rfl hn.1 rfl (by show n.toNatClampNeg * 8 ≤ 536870912; omega) r1 r2 rfl fun H1 cA e1 z1 o1 hAr hNm => ?_
    have hcA : cA = xdA X 1 := by
      have h9 := (D.k.2 1 _ rfl).2
      exact Option.some.inj (hNm.symm.trans h9)
    subst hcA
    have hk : ∀ (k : Nat) (x : Nat × va_E), (gL (xdA X) G)[k]? = some x → H1[x.1]? = H[x.1]? := fun k x hx => o1 x.1 ((hI.1.2.1 k x hx).lt)
    have hI1 := hI.push D.a (.inl (1, (n.toNatClampNeg, .inr (.inl (fun _ => 0))))) (G.2.2.1 + 1) (G.2.2.2 + n.toNatClampNeg) rfl z1 ((hI.1.2.1.kept hk).app (fun k x hx => by
      have hz : k < 1 := (List.getElem?_eq_some_iff.mp hx).1
      rw [show k = 0 by omega] at hx
      cases hx
      exact e1)) ⟨Nat.le_trans hI.2.2.1 (by omega), fun x h1 h2 => (o1 x (Nat.lt_of_lt_of_le h1 hI.2.2.1)).trans (hI.2.2.2.1 x h1 h2), hI.2.2.2.2⟩
    have k0 := kk G.2.1 _ h2 D r3 H1 ls locs hI1 hl
    rw [hI.1.1] at k0
    rw [r4, r5]
    exact k0
  · cases h3
theorem v_newd {n : Int32} {K : Nat → MM ρ} (harr : Cond.arrayClass .double ∈ Ts) (hd : decode cc pc = .ok (.newarray .double, 2)) (hE : VE B R) (hf : (mbind (mnewd n) K).1 G = some R)
    (kk : ∀ (q : Nat) (G1 : GH), (K q).1 G1 = some R → V X own cc nL fr lo Ts B Q G1 (pc + 2) lv (.ref q :: st)) : V X own cc nL fr lo Ts B Q G pc lv (.int n :: st) := by
  intro D Kb H ls locs hI hl
  obtain ⟨e, h3, h2⟩ := mnw_inv hf
  split at h3
  · rename_i hn
    cases h3
    obtain ⟨r1, r2, r3, r4, r5⟩ := Kb.room hE h2
    refine va_newaK (atype := .double) (N := n.toNatClampNeg) D.x D.b (D.ts _ harr) rfl hd rfl hn.1 rfl (by show n.toNatClampNeg * 8 ≤ 536870912; omega) r1 r2 rfl fun H1 cA e1 z1 o1 hAr hNm => ?_
    have hcA : cA = xdA X 2 := by
      have h9 := (D.k.2 2 _ rfl).2
      exact Option.some.inj (hNm.symm.trans h9)
    subst hcA
    have hk : ∀ (k : Nat) (x : Nat × va_E), (gL (xdA X) G)[k]? = some x → H1[x.1]? = H[x.1]? := fun k x hx => o1 x.1 ((hI.1.2.1 k x hx).lt)
    have hI1 := hI.push D.a (.inl (2, (n.toNatClampNeg, .inr (.inr (.inr (.inl (fun _ => 0))))))) (G.2.2.1 + 1) (G.2.2.2 + n.toNatClampNeg) rfl z1 ((hI.1.2.1.kept hk).app (fun k x hx => by
      have hz : k < 1 := (List.getElem?_eq_some_iff.mp hx).1
      rw [show k = 0 by omega] at hx
      cases hx
      exact e1)) ⟨Nat.le_trans hI.2.2.1 (by omega), fun x h1 h2 => (o1 x (Nat.lt_of_lt_of_le h1 hI.2.2.1)).trans (hI.2.2.2.1 x h1 h2), hI.2.2.2.2⟩
    have k0 := kk G.2.1 _ h2 D r3 H1 ls locs hI1 hl
    rw [hI.1.1] at k0
    rw [r4, r5]
    exact k0
  · cases h3
theorem v_newq {n : Int32} {C : String} {index : Nat} {K : Nat → MM ρ} (t : Nat) (ht : ∀ dA, (gty dA)[t]? = some (dA t, .object C)) (hao : EX (xs X) → va_AO C (xs X)) (hcl : Cond.classLink own index C ∈ Ts) (hd : decode cc pc = .ok (.anewarray index, 3)) (hE : VE B R) (hf : (mbind (mnewq t n) K).1 G = some R)
    (kk : ∀ (q : Nat) (G1 : GH), (K q).1 G1 = some R → V X own cc nL fr lo Ts B Q G1 (pc + 3) lv (.ref q :: st)) : V X own cc nL fr lo Ts B Q G pc lv (.int n :: st) := by
  intro D Kb H ls locs hI hl
  obtain ⟨e, h3, h2⟩ := mnw_inv hf
  split at h3
  · rename_i hn
    cases h3
    obtain ⟨r1, r2, r3, r4, r5⟩ := Kb.room hE h2
    refine W.anew D.x D.b D.ow (D.ts _ hcl) (va_AO.use (hao D.ex)) rfl hd rfl hn.1 (by omega) r1 r2 fun cA kA comp f1 f2 f3 f4 => ?_
    have hcA : cA = xdA X t := by
      obtain ⟨kA9, comp9, -, -, -, h4⟩ := (D.k.2 t _ (ht _)).2
      exact Option.some.inj (f1.symm.trans h4)
    subst hcA
    generalize hH1 : H.push ({ cls := xdA X t, slots := Array.replicate n.toNatClampNeg .null, vm := .none } : Cell) = H1
    have z1 : H1.size = H.size + 1 := by rw [← hH1, Array.size_push]
    have e1 : H1[H.size]? = some (arrV (xdA X t) n.toNatClampNeg (fun _ => .null)) := by rw [← hH1, Array.getElem?_push_size, ← arrV_new]
    have o1 : ∀ q : Nat, q < H.size → H1[q]? = H[q]? := fun q hq => by rw [← hH1, Array.getElem?_push, if_neg (Nat.ne_of_lt hq)]
    have hk : ∀ (k : Nat) (x : Nat × va_E), (gL (xdA X) G)[k]? = some x → H1[x.1]? = H[x.1]? := fun k x hx => o1 x.1 ((hI.1.2.1 k x hx).lt)
    have hI1 := hI.push D.a (.inl (t, (n.toNatClampNeg, .inr (.inr (.inr (.inr (fun _ => none))))))) (G.2.2.1 + 1) (G.2.2.2 + n.toNatClampNeg) rfl z1 ((hI.1.2.1.kept hk).app (fun k x hx => by
      have hz : k < 1 := (List.getElem?_eq_some_iff.mp hx).1
      rw [show k = 0 by omega] at hx
      cases hx
      exact e1)) ⟨Nat.le_trans hI.2.2.1 (by omega), fun x h1 h2 => (o1 x (Nat.lt_of_lt_of_le h1 hI.2.2.1)).trans (hI.2.2.2.1 x h1 h2), hI.2.2.2.2⟩
    have k0 := kk G.2.1 _ h2 D r3 H1 ls locs hI1 hl
    rw [hI.1.1] at k0
    rw [r4, r5]
    exact k0
  · cases h3
theorem v_objInit {index a : Nat} (hlink : Cond.methodLink own index objectInit ∈ Ts) (hinst : Cond.instanceMethod objectInit ∈ Ts) (hcode : Cond.code objectInit ⟨#[0xb1]⟩ 1 none ∈ Ts) (hd : decode cc pc = .ok (.invokespecial index, 3)) (hfr : 1 ≤ fr) (hlo : 12 ≤ lo) (k : V X own cc nL fr lo Ts B Q G (pc + 3) lv []) : V X own cc nL fr lo Ts B Q G pc lv [.ref a] := by
  intro D Kb H ls locs hI hl
  exact W.objInit D.x D.b D.ow (D.ts _ hlink) (D.ts _ hinst) (D.ts _ hcode) rfl (by show ls.size = _; rw [hl.1, D.ml]) rfl hd (by rw [D.rf]; exact hfr) (by rw [D.rl]; exact hlo) (k D Kb H ls locs hI hl)
theorem VK.le (Kb : VK X B G) (hE : VE B R) {K : MM ρ} (h2 : K.1 G = some R) : (G.2.2.1 - B.1) ≤ (xR X).cells ∧ (G.2.2.2 - B.2.1) ≤ (xR X).slots := by
  obtain ⟨-, g1, g2⟩ := K.2 _ _ _ h2
  obtain ⟨k1, k2, k3, k4⟩ := Kb
  obtain ⟨e1, e2⟩ := hE
  exact ⟨by rw [k1, e1]; omega, by rw [k2, e2]; omega⟩
theorem v_max {index : Nat} {x y : Int32} {K : MM ρ} (hlink : Cond.methodLink own index Lib.Math.max.name ∈ Ts) (hstat : Cond.static Lib.Math.max.name ∈ Ts) (hini : Cond.initialized "java/lang/Math" ∈ Ts) (hcode : Cond.code Lib.Math.max.name Lib.Math.max.code 2 (some .int) ∈ Ts) (hd : decode cc pc = .ok (.invokestatic index, 3)) (hfr : 1 ≤ fr) (hlo : (st.map fun v => v.category).sum + 13 ≤ lo) (hE : VE B R) (hf : K.1 G = some R) (k : V X own cc nL fr lo Ts B Q G (pc + 3) lv (.int (if x < y then y else x) :: st)) : V X own cc nL fr lo Ts B Q G pc lv (.int y :: .int x :: st) := by
  intro D Kb H ls locs hI hl
  obtain ⟨r1, r2⟩ := Kb.le hE hf
  exact va_mmax D.x D.b (by rw [hl.1, D.ml]) D.ow (D.ts _ hlink) (D.ts _ hstat) (D.ts _ hini) (D.ts _ hcode) (by rw [D.rf]; exact hfr) (by rw [D.rl]; exact hlo) r1 r2 hd (k D Kb H ls locs hI hl)
theorem v_min {index : Nat} {x y : Int32} {K : MM ρ} (hlink : Cond.methodLink own index Lib.Math.min.name ∈ Ts) (hstat : Cond.static Lib.Math.min.name ∈ Ts) (hini : Cond.initialized "java/lang/Math" ∈ Ts) (hcode : Cond.code Lib.Math.min.name Lib.Math.min.code 2 (some .int) ∈ Ts) (hd : decode cc pc = .ok (.invokestatic index, 3)) (hfr : 1 ≤ fr) (hlo : (st.map fun v => v.category).sum + 13 ≤ lo) (hE : VE B R) (hf : K.1 G = some R) (k : V X own cc nL fr lo Ts B Q G (pc + 3) lv (.int (if y < x then y else x) :: st)) : V X own cc nL fr lo Ts B Q G pc lv (.int y :: .int x :: st) := by
  intro D Kb H ls locs hI hl
  obtain ⟨r1, r2⟩ := Kb.le hE hf
  exact va_mmin D.x D.b (by rw [hl.1, D.ml]) D.ow (D.ts _ hlink) (D.ts _ hstat) (D.ts _ hini) (D.ts _ hcode) (by rw [D.rf]; exact hfr) (by rw [D.rl]; exact hlo) r1 r2 hd (k D Kb H ls locs hI hl)
theorem nneg_toInt {z : Int32} (hz : ¬ z < 0) : z.toInt = (z.toNatClampNeg : Int) := by
  have hz0 : (0 : Int) ≤ z.toInt := by
    have := Int32.not_lt.mp hz
    simpa using Int32.le_iff_toInt_le.mp this
  show z.toInt = ((z.toInt.toNat : Nat) : Int)
  omega
theorem v_copy {index a0 a : Nat} {sp dp n : Int32} {K : Unit → MM ρ} (hlink : Cond.methodLink own index arraycopyName ∈ Ts) (hnat : Cond.native arraycopyName ∈ Ts) (hstat : Cond.static arraycopyName ∈ Ts) (hini : Cond.initialized "java/lang/System" ∈ Ts) (hd : decode cc pc = .ok (.invokestatic index, 3)) (hfr : 1 ≤ fr) (hlo : (st.map fun v => v.category).sum + (nativeFrameWords "java/lang/System" "arraycopy" 5 + 11) ≤ lo) (hf : (mbind (mcopy a0 sp a dp n) K).1 G = some R)
    (kk : ∀ G1 : GH, VK X B G1 → (K ()).1 G1 = some R → V X own cc nL fr lo Ts B Q G1 (pc + 3) lv st) : V X own cc nL fr lo Ts B Q G pc lv (.int n :: .int dp :: .ref a :: .int sp :: .ref a0 :: st) := by
  intro D Kb H ls locs hI hl
  obtain ⟨h, h3, h2⟩ := mwr_inv hf
  obtain ⟨q0, h5, h6⟩ := Option.bind_eq_some_iff.mp h3
  obtain ⟨z0, h7, h8⟩ := Option.bind_eq_some_iff.mp h5
  obtain ⟨q1, h9, h10⟩ := Option.bind_eq_some_iff.mp h6
  obtain ⟨z1, h11, h12⟩ := Option.bind_eq_some_iff.mp h9
  obtain ⟨n0, f⟩ := q0
  obtain ⟨n1, g⟩ := q1
  have h13 := aint_inv h8
  have h14 := aint_inv h12
  subst h13; subst h14
  split at h10
  · rename_i hc
    cases h10
    obtain ⟨c1, c2, c3, c4, c5, c6⟩ := hc
    obtain ⟨k0, hk0⟩ := hI.cell (garr_inv h7)
    obtain ⟨k1, hk1⟩ := hI.cell (garr_inv h11)
    intro T hT XS
    have hc0 : H[a0]? = some (vp_cell (xdA X 0) (n0, .inl f)) := hI.1.2.1 k0 _ hk0
    have hc1 : H[a]? = some (vp_cell (xdA X 0) (n1, .inl g)) := hI.1.2.1 k1 _ hk1
    obtain ⟨-, kk0, hkk0, cm0, hkd0⟩ := (D.k.2 0 _ rfl).1 n0 (fun j => .int (f j))
    obtain ⟨-, kk1, hkk1, cm1, hkd1⟩ := (D.k.2 0 _ rfl).1 n1 (fun j => .int (g j))
    obtain ⟨vm', X', step⟩ := XS.arraycopy D.x D.ow (D.ts _ hlink) (D.ts _ hnat) (D.ts _ hstat) (D.ts _ hini) (src := a0) (dst := a) (cs := vp_cell (xdA X 0) (n0, .inl f)) (cd := vp_cell (xdA X 0) (n1, .inl g)) (srcPos := sp) (destPos := dp) (n := n) (by rw [hT]; exact hc0) (by rw [hT]; exact hc1)
      (fun _ h => by cases h) (fun _ h => by cases h) (fun h => by cases h) (fun h => by cases h) hkk0 hkk1 hkd0 hkd1 (by simp [refKind]) c1 c2 c3
      (by rw [nneg_toInt c1, nneg_toInt c3]; show ¬ _ > ((arrV (xdA X 0) n0 (fun j => .int (f j))).slots.size : Int); rw [arrV_size]; omega)
      (by rw [nneg_toInt c2, nneg_toInt c3]; show ¬ _ > ((arrV (xdA X 0) n1 (fun j => .int (g j))).slots.size : Int); rw [arrV_size]; omega)
      (fun vm₁ _ i hi => by
        have e : (vp_cell (xdA X 0) (n0, .inl f)).slots.getD (sp.toNatClampNeg + i) .null = .int (f (sp.toNatClampNeg + i)) := by
          show (arrV (xdA X 0) n0 (fun j => .int (f j))).slots.getD _ _ = _
          rw [Array.getD_eq_getD_getElem?, arrV_read _ _ (by omega)]
          rfl
        refine ⟨?_, ?_⟩
        · rw [e]
          rfl
        · rw [e]
          exact trivial)
      (g := F0 (xm X) pc ls (.int n :: .int dp :: .ref a :: .int sp :: .ref a0 :: st)) rfl (by show ls.size = _; rw [hl.1, D.ml]) (rest := st) rfl (by rw [D.b]; exact hd) (by rw [D.rf]; exact hfr) (by rw [D.rl]; show 2 * 0 + _ + _ ≤ _; omega)
    have e1 : copied (vp_cell (xdA X 0) (n0, .inl f)) (vp_cell (xdA X 0) (n1, .inl g)) sp dp n = vp_cell (xdA X 0) (n1, .inl (va_cpy f g sp.toNatClampNeg dp.toNatClampNeg n.toNatClampNeg)) := va_copied (fun z => .int z) (xdA X 0) (xdA X 0) f g c4
    rw [e1] at X' step
    have hla : a < H.size := (Array.getElem?_eq_some_iff.mp hc1).1
    have hheap : ((T.setVm vm').setCell a (vp_cell (xdA X 0) (n1, .inl (va_cpy f g sp.toNatClampNeg dp.toNatClampNeg n.toNatClampNeg)))).heap = H.setIfInBounds a (vp_cell (xdA X 0) (n1, .inl (va_cpy f g sp.toNatClampNeg dp.toNatClampNeg n.toNatClampNeg))) := by rw [← hT]; rfl
    have oq : ∀ q : Nat, q ≠ a → (H.setIfInBounds a (vp_cell (xdA X 0) (n1, .inl (va_cpy f g sp.toNatClampNeg dp.toNatClampNeg n.toNatClampNeg))))[q]? = H[q]? := fun q hq => by simp [Array.getElem?_setIfInBounds, Ne.symm hq]
    have k0' := kk _ (by exact Kb) h2
    obtain ⟨t, a1, b1⟩ := k0' D Kb _ ls _ (hI.set (garr_inv h11) hk1 (.inl (0, (n1, .inl (va_cpy f g sp.toNatClampNeg dp.toNatClampNeg n.toNatClampNeg)))) (by simp) (hI.1.2.1.set hI.D hk1 (show (H.setIfInBounds a _)[a]? = some _ by simp [Array.getElem?_setIfInBounds, hla]) oq) ⟨by simp; exact hI.2.2.1, fun q g1 g2 => by
        rw [oq q (fun e => g2 (by rw [e]; exact hI.D.2 k1 _ hk1))]
        exact hI.2.2.2.1 q g1 g2, fun q hq => by
        rcases List.mem_append.mp hq with h | h
        · exact hI.2.2.2.2 q h
        · obtain ⟨z, -, hz⟩ := List.mem_map.mp h
          rw [← hz]
          exact hI.D.2 k1 _ hk1⟩) hl _ hheap X'
    exact ⟨t, step t a1, b1⟩
  · cases h10
end Vnew
end
section
/-! PART 08: contracts of methods by partial programs (CM: returns; CX: returns or throws), their starts, ends and calls. -/
def cPc (D : va_G) (dA : Nat → ClassId) (av : List Value) (G : GH) : Array Value → State → Prop := va_Pc av (fun U => gP D dA G U.heap ∧ va_K D vwCl (gty dA) U ∧ EX U ∧ XZ (gA G) U U.heap)
def cQc (D : va_G) (dA : Nat → ClassId) (res : Option Value) (A : Nat → Prop) (Gf : GH) : Array Value → State → Outcome → State → Prop := fun _ st oc t => oc = .returned res ∧ gP D dA Gf t.heap ∧ (∀ a, Gf.1 a ≠ none → A a) ∧ va_F A st t
def CM (l : Launch) (y : MethodName) (ws : List Cond) (fr lo : Nat) (av : List Value) {α : Type} (val : α → Option Value) (F : MM α) : Prop :=
  ∀ (D : va_G) (dA : Nat → ClassId) (G : GH) (x : α) (Gf : GH), F.1 G = some (x, Gf) → Met l y ws { frames := fr, cells := Gf.2.2.1 - G.2.2.1, slots := Gf.2.2.2 - G.2.2.2, locals := lo } (cPc D dA av G) (cQc D dA (val x) (gA G) Gf) (Gf.2.2.1 - G.2.2.1) (Gf.2.2.2 - G.2.2.2) (gA G)
theorem cPc_blind (D : va_G) (dA : Nat → ClassId) (av : List Value) (G : GH) : FrameBlind (cPc D dA av G) := fun a U g mk ⟨q0, q1, q2, q3, q4⟩ => ⟨q0, q1, va_K.moved (u := U) (U := U.calling g mk a) (Vm.Alike.refl U.vm) q2, EX.same (u := U) (U := U.calling g mk a) rfl q3, XZ.moved (u := U) (U := U.calling g mk a) (Vm.Alike.refl U.vm) q4⟩
/-- what a walk owes at its end -/
def QE (X : VX) (res : Option Value) (Gf : GH) (B : VB) : State → Prop := MQ (xb X) (cQc (xDD X) (xdA X) res (xA X) Gf) (xa X) (xs X) (B.2.2.1 - B.1) (B.2.2.2 - B.2.1) (xA X)
def vI (x : Int32) : Option Value := some (.int x)
def vL (x : Int64) : Option Value := some (.long x)
def vD (x : UInt64) : Option Value := some (.double x)
def vV (_ : Unit) : Option Value := none
def vR (x : Nat) : Option Value := some (.ref x)
theorem CM.start {l : Launch} {y : MethodName} {cc : ByteArray} {maxL : Nat} {ret : Option FieldType} {ws ws' : List Cond} {fr lo : Nat} {av : List Value} {α : Type} {val : α → Option Value} {F : MM α} (hfl : l.stackTraces = false) (own : String) (hown : y.cls = own) (hy : plainName y.cls = true) (hw : ws = Cond.code y cc maxL ret :: ws') (hsl : (lg_sl av).length ≤ maxL)
    (body : ∀ (X : VX) (G : GH) (x : α) (Gf : GH), xl X = l → (xme X).name = y.name → (xme X).sig.returnType = ret → F.1 G = some (x, Gf) → V X own cc maxL fr lo ws (G.2.2.1, G.2.2.2, Gf.2.2.1, Gf.2.2.2) (QE X (val x) Gf (G.2.2.1, G.2.2.2, Gf.2.2.1, Gf.2.2.2)) G 0 (lv_args 0 av) []) : CM l y ws fr lo av val F := by
  intro D dA G x Gf hF
  refine Met.ofW (cc := cc) (maxL := maxL) (ret := ret) hy hw ?_
  intro p e s m args below meth c s₁ Bd hml hP
  obtain ⟨rfl, hg, hk, hex, hz⟩ := hP
  have hts := atoms_spec (ws := ws) Bd.pre
  have ho : s.vm.findClass own = some m.cls := hown ▸ findClass_of_methodNamed Bd.named
  rw [lg_entry_eq]
  obtain ⟨X, hX⟩ : ∃ X : VX, X = (p, l, e, (headSpec ws { frames := fr, cells := Gf.2.2.1 - G.2.2.1, slots := Gf.2.2.2 - G.2.2.2, locals := lo }).room, s, m, av.toArray, below, meth, c, D, dA, gA G) := ⟨_, rfl⟩
  have k := body X G x Gf (by rw [hX]) (by rw [hX]; exact (name_of_methodNamed Bd.named Bd.method).1) (by rw [hX]; exact Bd.returns) hF
  have k2 := k (by rw [hX]; exact ⟨Bd.exec, Bd.bytes, hml, ho, hts, Bd.notSynchronized, rfl, rfl, hk, fun q hq => Or.inr (by rw [hg.1]; exact hq), hfl, hex, hz⟩) (by rw [hX]; exact ⟨rfl, rfl, Nat.le_refl _, Nat.le_refl _⟩) s.heap _ [] (by rw [hX]; exact ⟨hg, fun a ha => Or.inl ha, va_S.rf⟩) (lv_entry av hsl)
  rw [hX] at k2
  have e1 : G.2.2.1 - G.2.2.1 = 0 := Nat.sub_self _
  have e2 : G.2.2.2 - G.2.2.2 = 0 := Nat.sub_self _
  rw [e1, e2] at k2
  exact k2
section Vends
variable {X : VX} {own : String} {cc : ByteArray} {nL fr lo : Nat} {Ts : List Cond} {B : VB} {Q : State → Prop} {G : GH} {pc : Nat} {lv : List (Nat × Value)} {st : List Value} {ρ : Type} {R : ρ × GH}
theorem pure_inv {α : Type} {x : α} {R : α × GH} (h : (mpure x).1 G = some R) : R = (x, G) := (Option.some.inj h).symm
theorem gI.q {H : Heap} {locs : List Loc} {t : State} {res : Option Value} (hI : gI X G H locs) (ht : t.heap = H) : cQc (xDD X) (xdA X) res (xA X) G (xa X) (xs X) (.returned res) t := ⟨rfl, by rw [ht]; exact hI.1, hI.2.1, hI.2.2.F ht⟩
theorem v_iret {x x' : Int32} {Gf : GH} (hr : (xme X).sig.returnType = some .int) (hd : decode cc pc = .ok (.ireturn, 1)) (hE : VE B (x', Gf)) (hf : (mpure x).1 G = some (x', Gf)) : V X own cc nL fr lo Ts B (QE X (vI x') Gf B) G pc lv [.int x] := by
  cases pure_inv hf
  intro D Kb H ls locs hI hl
  unfold QE
  rw [hE.1, hE.2]
  exact W.iret D.x D.b hr (fun t ht hW => hI.q ht) hI.2.2.2.2 hd D.lk
theorem v_lret {x x' : Int64} {Gf : GH} (hr : (xme X).sig.returnType = some .long) (hd : decode cc pc = .ok (.lreturn, 1)) (hE : VE B (x', Gf)) (hf : (mpure x).1 G = some (x', Gf)) : V X own cc nL fr lo Ts B (QE X (vL x') Gf B) G pc lv [.long x] := by
  cases pure_inv hf
  intro D Kb H ls locs hI hl
  unfold QE
  rw [hE.1, hE.2]
  exact W.lret D.x D.b hr (fun t ht hW => hI.q ht) hI.2.2.2.2 hd D.lk
theorem v_dret {x x' : UInt64} {Gf : GH} (hr : (xme X).sig.returnType = some .double) (hd : decode cc pc = .ok (.dreturn, 1)) (hE : VE B (x', Gf)) (hf : (mpure x).1 G = some (x', Gf)) : V X own cc nL fr lo Ts B (QE X (vD x') Gf B) G pc lv [.double x] := by
  cases pure_inv hf
  intro D Kb H ls locs hI hl
  unfold QE
  rw [hE.1, hE.2]
  exact W.dret D.x D.b hr (fun t ht hW => hI.q ht) hI.2.2.2.2 hd D.lk
theorem v_vret {Gf : GH} {u : Unit} (hr : (xme X).sig.returnType = none) (hd : decode cc pc = .ok (.return_, 1)) (hE : VE B (u, Gf)) (hf : (mpure ()).1 G = some (u, Gf)) : V X own cc nL fr lo Ts B (QE X (vV u) Gf B) G pc lv [] := by
  cases pure_inv hf
  intro D Kb H ls locs hI hl
  unfold QE
  rw [hE.1, hE.2]
  exact W.vret D.x D.b hr (fun t ht hW => hI.q ht) hI.2.2.2.2 hd D.lk
theorem v_aret {x x' : Nat} {n : String} {Gf : GH} (hr : (xme X).sig.returnType = some (.object n)) (hd : decode cc pc = .ok (.areturn, 1)) (hE : VE B (x', Gf)) (hf : (mpure x).1 G = some (x', Gf)) : V X own cc nL fr lo Ts B (QE X (vR x') Gf B) G pc lv [.ref x] := by
  cases pure_inv hf
  intro D Kb H ls locs hI hl
  unfold QE
  rw [hE.1, hE.2]
  exact W.aret D.x D.b hr (Or.inl ⟨n, rfl⟩) (Or.inr ⟨x, rfl⟩) (fun t ht hW => hI.q ht) hI.2.2.2.2 hd D.lk
theorem zb_ok {x : Int32} (h : x = 0 ∨ x = 1) : narrow .boolean (.int x) = .int x := by rcases h with rfl | rfl <;> decide
theorem v_zret {x x' : Int32} {Gf : GH} (hr : (xme X).sig.returnType = some .boolean) (hd : decode cc pc = .ok (.ireturn, 1)) (hE : VE B (x', Gf)) (hf : (mbind (mbool x) (fun _ => mpure x)).1 G = some (x', Gf)) : V X own cc nL fr lo Ts B (QE X (vI x') Gf B) G pc lv [.int x] := by
  obtain ⟨y, G1, h1, h2⟩ := mbind_inv hf
  obtain ⟨z, h3, h4⟩ := mread_inv h1
  cases h4
  split at h3
  · rename_i hz
    cases pure_inv h2
    intro D Kb H ls locs hI hl
    unfold QE
    rw [hE.1, hE.2]
    exact W.zret D.x D.b hr (zb_ok hz) (fun t ht hW => hI.q ht) hI.2.2.2.2 hd D.lk
  · cases h3
/-! calls -/
theorem gI.sub {H : Heap} {locs : List Loc} (D : VC X own cc nL fr lo Ts) (hI : gI X G H locs) : ∀ q, gA G q → (xA X) q := fun q h => by
  rcases h with h | h
  · exact hI.2.1 q h
  · exact D.a q (Nat.le_trans hI.2.2.1 (by rw [← hI.1.1]; exact h))
theorem gI.pre {H : Heap} {locs : List Loc} {av : List Value} {U : State} (D : VC X own cc nL fr lo Ts) (hI : gI X G H locs) (hU : U.heap = H) (hW : (xs X).WarmedH U.vm) : cPc (xDD X) (xdA X) av G av.toArray U :=
  ⟨rfl, by rw [hU]; exact hI.1, va_K.moved hW.alike D.k, EX.warm hW D.ex, by
    rw [hU]
    exact XZ.moved hW.alike ((D.z.kept hI.2.2.2.1).narrow (hI.sub D))⟩
theorem v_after {lv : List (Nat × Value)} {st0 : List Value} {res : Option Value} {G1 : GH} {a : Array Value} {H : Heap} {ls : Array Slot} {locs : List Loc} (D : VC X own cc nL fr lo Ts) (Kb : VK X B G) (hI : gI X G H locs) (hl : lv_has ls nL lv) (hle : gle G G1)
    (hr : va_Run (xp X) (xl X) (xe X) (xR X) (xs X) (xm X) (xa X) (xb X) (xme X) (xc X) H locs (G.2.2.1 - B.1) (G.2.2.2 - B.2.1) (G1.2.2.1 - G.2.2.1) (G1.2.2.2 - G.2.2.2) (F0 (xm X) pc ls st0) st (cQc (xDD X) (xdA X) res (gA G) G1 a) (gA G))
    (kk : V X own cc nL fr lo Ts B Q G1 (pc + 3) lv (res.toList ++ st)) : W (xp X) (xl X) (xe X) (xR X) (xs X) (xm X) (xa X) (xb X) (xme X) (xc X) H locs (G.2.2.1 - B.1) (G.2.2.2 - B.2.1) Q (F0 (xm X) pc ls st0) := by
  intro T hT XS
  obtain ⟨v, st₀, t, T', L, h0, X', hL, e1, e2, ⟨hv, hp, hdom, hz, hk⟩, stp⟩ := hr T hT XS
  cases hv
  rw [h0] at hz hk
  have hsub := hI.sub D
  have hI1 : gI X G1 T'.heap (locs ++ L) := ⟨by rw [e1]; exact hp, fun a ha => hsub a (hdom a ha), Nat.le_trans hI.2.2.1 (by rw [e1]; exact hz), fun q h1 h2 => by rw [e1, hk q (Nat.lt_of_lt_of_le h1 hI.2.2.1) (fun z => h2 (hsub q z))]; exact hI.2.2.2.1 q h1 h2, fun q hq => by
    rcases List.mem_append.mp hq with h | h
    · exact hI.2.2.2.2 q h
    · exact hsub _ (hL q h)⟩
  obtain ⟨k1, k2, k3, k4⟩ := Kb
  obtain ⟨g0, g1, g2⟩ := hle
  have c1 : G.2.2.1 - B.1 + (G1.2.2.1 - G.2.2.1) = G1.2.2.1 - B.1 := by omega
  have c2 : G.2.2.2 - B.2.1 + (G1.2.2.2 - G.2.2.2) = G1.2.2.2 - B.2.1 := by omega
  rw [c1, c2] at X'
  obtain ⟨t2, a1, b1⟩ := kk D ⟨k1, k2, Nat.le_trans k3 g1, Nat.le_trans k4 g2⟩ T'.heap ls (locs ++ L) hI1 hl T' rfl X'
  exact ⟨t2, stp t2 a1, b1⟩
theorem call_inv {α : Type} {F : MM α} {K : α → MM ρ} (Kb : VK X B G) (hE : VE B R) (hf : (mbind F K).1 G = some R) : ∃ x G1, F.1 G = some (x, G1) ∧ (K x).1 G1 = some R ∧ gle G G1 ∧ (G.2.2.1 - B.1) + (G1.2.2.1 - G.2.2.1) ≤ (xR X).cells ∧ (G.2.2.2 - B.2.1) + (G1.2.2.2 - G.2.2.2) ≤ (xR X).slots := by
  obtain ⟨x, G1, h1, h2⟩ := mbind_inv hf
  obtain ⟨g0, g1, g2⟩ := F.2 _ _ _ h1
  obtain ⟨f0, f1, f2⟩ := (K x).2 _ _ _ h2
  obtain ⟨k1, k2, k3, k4⟩ := Kb
  obtain ⟨e1, e2⟩ := hE
  exact ⟨x, G1, h1, h2, ⟨g0, g1, g2⟩, by rw [k1, e1]; omega, by rw [k2, e2]; omega⟩
theorem chk_inv {b ci : Nat} {K : Unit → MM ρ} (hf : (mbind (mchk b ci) K).1 G = some R) : ∃ fs, G.1 b = some (.inr (ci, fs)) ∧ (K ()).1 G = some R := by
  obtain ⟨x, G1, h1, h2⟩ := mbind_inv hf
  obtain ⟨y, h3, h4⟩ := mread_inv h1
  cases h4
  obtain ⟨fs, h5, -⟩ := Option.map_eq_some_iff.mp h3
  exact ⟨fs, gobj_inv h5, h2⟩
theorem v_callV {α : Type} {F : MM α} {K : α → MM ρ} {val : α → Option Value} {y : MethodName} {ws ws' : List Cond} {bytes : ByteArray} {maxL : Nat} {ret : Option FieldType} {fr' lo' index b : Nat} {C : String} {T : u_T} {N : Nat} {st0 : List Value} (ci n : Nat) (As : List Value)
    (hM : CM (xl X) y ws fr' lo' (.ref b :: As) val F) (hG : GoodIn Ts (wsV own index C y ws)) (hw : ws = Cond.code y bytes maxL ret :: ws') (hdd : y.cls = C ∧ y.cls ≠ "java/lang/invoke/MethodHandle" ∧ y.cls ≠ "java/lang/invoke/VarHandle" ∧ (parseMethodDescriptor y.desc).map (fun d => d.parameters.length) = some n) (hfr : fr' + 1 ≤ fr) (hlo : 8 + (maxL + 11) + lo' ≤ lo) (hn : As.length = n) (hc : vwCl[ci]? = some (C, T, N)) (hd : decode cc pc = .ok (.invokevirtual index, 3)) (hst : (st.map fun v => v.category).sum ≤ 8) (hst0 : st0 = As.reverse ++ .ref b :: st) (hE : VE B R) (hf : (mbind (mchk b ci) (fun _ => mbind F K)).1 G = some R)
    (kk : ∀ x G1, (K x).1 G1 = some R → V X own cc nL fr lo Ts B Q G1 (pc + 3) lv ((val x).toList ++ st)) : V X own cc nL fr lo Ts B Q G pc lv st0 := by
  intro D Kb H ls locs hI hl
  obtain ⟨fs, hb, hf⟩ := chk_inv hf
  obtain ⟨x, G1, h1, h2, hle, r1, r2⟩ := call_inv Kb hE hf
  obtain ⟨k0, hk0⟩ := hI.cell hb
  exact v_after D Kb hI hl hle (va_runV (As := As) (rest := st) ⟨D.x, D.b, D.ml, D.ow, D.ts⟩ (hM _ _ _ _ _ h1) (cwV n D.ts hG hw rfl rfl hdd ⟨by rw [D.rf]; exact hfr, by rw [D.rl]; exact hlo⟩) ⟨cPc_blind _ _ _ _, va_recv D.k hI.1.2.1 (ci := ci) (q0 := k0) hc hk0, fun U hU hW => hI.pre D hU hW⟩ rfl hn hl.1 hst0 (lv_room hst) hd ⟨r1, r2⟩) (kk x G1 h2)
theorem v_callS {α : Type} {F : MM α} {K : α → MM ρ} {val : α → Option Value} {y : MethodName} {ws ws' : List Cond} {bytes : ByteArray} {maxL : Nat} {ret : Option FieldType} {fr' lo' index : Nat} {st0 : List Value} (n : Nat) (As : List Value)
    (hM : CM (xl X) y ws fr' lo' As val F) (hG : GoodIn Ts (va_wsS own index y ws)) (hw : ws = Cond.code y bytes maxL ret :: ws') (hdd : y.cls ≠ "java/lang/invoke/MethodHandle" ∧ y.cls ≠ "java/lang/invoke/VarHandle" ∧ (parseMethodDescriptor y.desc).map (fun d => d.parameters.length) = some n) (hfr : fr' + 1 ≤ fr) (hlo : 8 + (maxL + 11) + lo' ≤ lo) (hn : As.length = n) (hd : decode cc pc = .ok (.invokestatic index, 3)) (hst : (st.map fun v => v.category).sum ≤ 8) (hst0 : st0 = As.reverse ++ st) (hE : VE B R) (hf : (mbind F K).1 G = some R)
    (kk : ∀ x G1, (K x).1 G1 = some R → V X own cc nL fr lo Ts B Q G1 (pc + 3) lv ((val x).toList ++ st)) : V X own cc nL fr lo Ts B Q G pc lv st0 := by
  intro D Kb H ls locs hI hl
  obtain ⟨x, G1, h1, h2, hle, r1, r2⟩ := call_inv Kb hE hf
  exact v_after D Kb hI hl hle (va_runS (As := As) (rest := st) ⟨D.x, D.b, D.ml, D.ow, D.ts⟩ (hM _ _ _ _ _ h1) (va_cwS n D.ts hG hw rfl rfl hdd ⟨by rw [D.rf]; exact hfr, by rw [D.rl]; exact hlo⟩) ⟨cPc_blind _ _ _ _, fun U hU hW => hI.pre D hU hW⟩ rfl hn hl.1 hst0 (lv_room hst) hd ⟨r1, r2⟩) (kk x G1 h2)
theorem v_callN {α : Type} {F : MM α} {K : α → MM ρ} {val : α → Option Value} {y : MethodName} {host : String} {ws ws' : List Cond} {bytes : ByteArray} {maxL : Nat} {ret : Option FieldType} {fr' lo' index : Nat} {st0 : List Value} (n : Nat) (As : List Value)
    (hM : CM (xl X) y ws fr' lo' As val F) (hG : GoodIn Ts ws) (hnest : (own, index, y, host) ∈ nests) (hini : Cond.initialized y.cls ∈ Ts) (hstat : Cond.static y ∈ Ts) (hw : ws = Cond.code y bytes maxL ret :: ws') (hdd : y.cls ≠ "java/lang/invoke/MethodHandle" ∧ y.cls ≠ "java/lang/invoke/VarHandle" ∧ (parseMethodDescriptor y.desc).map (fun d => d.parameters.length) = some n) (hfr : fr' + 1 ≤ fr) (hlo : 8 + (maxL + 11) + lo' ≤ lo) (hn : As.length = n) (hd : decode cc pc = .ok (.invokestatic index, 3)) (hst : (st.map fun v => v.category).sum ≤ 8) (hst0 : st0 = As.reverse ++ st) (hE : VE B R) (hf : (mbind F K).1 G = some R)
    (kk : ∀ x G1, (K x).1 G1 = some R → V X own cc nL fr lo Ts B Q G1 (pc + 3) lv ((val x).toList ++ st)) : V X own cc nL fr lo Ts B Q G pc lv st0 := by
  intro D Kb H ls locs hI hl
  obtain ⟨x, G1, h1, h2, hle, r1, r2⟩ := call_inv Kb hE hf
  exact v_after D Kb hI hl hle (va_runSN (As := As) (rest := st) ⟨D.x, D.b, D.ml, D.ow, D.ts⟩ (hM _ _ _ _ _ h1) ⟨va_cnB n D.ts hG hw rfl rfl (D.ex.1 _ hnest) (D.ts _ hini) hdd ⟨by rw [D.rf]; exact hfr, by rw [D.rl]; exact hlo⟩, D.ts _ hstat, trivial⟩ ⟨cPc_blind _ _ _ _, fun U hU hW => hI.pre D hU hW⟩ rfl hn hl.1 hst0 (lv_room hst) hd ⟨r1, r2⟩) (kk x G1 h2)
theorem v_callI {F : MM Unit} {K : Unit → MM ρ} {y : MethodName} {ws ws' : List Cond} {bytes : ByteArray} {maxL : Nat} {fr' lo' index b : Nat} {st0 : List Value} (n : Nat) (As : List Value)
    (hM : CM (xl X) y ws fr' lo' (.ref b :: As) vV F) (hG : GoodIn Ts ws) (hw : ws = Cond.code y bytes maxL none :: ws') (hini : Cond.initialized y.cls ∈ Ts) (hlk : Cond.methodLink own index y ∈ Ts) (hinst : Cond.instanceMethod y ∈ Ts) (hy1 : y.name = "<init>") (hdd : y.cls ≠ "java/lang/invoke/MethodHandle" ∧ y.cls ≠ "java/lang/invoke/VarHandle" ∧ (parseMethodDescriptor y.desc).map (fun d => d.parameters.length) = some n) (hfr : fr' + 1 ≤ fr) (hlo : 8 + (maxL + 11) + lo' ≤ lo) (hn : As.length = n) (hd : decode cc pc = .ok (.invokespecial index, 3)) (hst : (st.map fun v => v.category).sum ≤ 8) (hst0 : st0 = As.reverse ++ .ref b :: st) (hE : VE B R) (hf : (mbind F K).1 G = some R)
    (kk : ∀ G1, (K ()).1 G1 = some R → V X own cc nL fr lo Ts B Q G1 (pc + 3) lv st) : V X own cc nL fr lo Ts B Q G pc lv st0 := by
  intro D Kb H ls locs hI hl
  obtain ⟨x, G1, h1, h2, hle, r1, r2⟩ := call_inv Kb hE hf
  exact v_after D Kb hI hl hle (va_runI (As := As) (rest := st) ⟨D.x, D.b, D.ml, D.ow, D.ts⟩ (hM _ _ _ _ _ h1) (cwI n D.ts hG hw rfl rfl (D.ts _ hini) (D.ts _ hlk) (D.ts _ hinst) hy1 hdd ⟨by rw [D.rf]; exact hfr, by rw [D.rl]; exact hlo⟩) ⟨cPc_blind _ _ _ _, fun U hU hW => hI.pre D hU hW⟩ rfl hn hl.1 hst0 (lv_room hst) hd ⟨r1, r2⟩) (kk G1 h2)
end Vends
end
