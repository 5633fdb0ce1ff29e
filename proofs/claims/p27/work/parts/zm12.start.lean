/-! LAW: the start. -/
/-! THE CLAIM OUT OF ONE WALK OF THE LAW'S BODY. Your part is whole_start (and what it stands on); all else here is the same for every law, but numbers. -/
def R_law : String := "EndVersionsLaw"
def lw_P (b : Addr) (xs : List Int32) (args : Array Value) (s : State) : Prop := args = #[.ref b] ∧ s.IntsAt b xs ∧ xs.length ≤ 260 ∧ (Jvm.Cond.and given_1 narrow_1).before args s = true
/-- what a walk over the start with the record d0 says of its end, said of the start itself -/
theorem lw_closed {s t : State} {o : Outcome} {d0 : Drawn} {L : List Loc} {k n : Nat} (hd0 : s.drawn.sameBut d0 lw_cs) (hv : ∃ v, o = .returned v) (hW : (s.setDrawn d0).WarmedH t.vm) (hs : (s.setDrawn d0).sameButNew ({ t with vm := s.vm } : State) L k n) : State.butDraws s t lw_cs (fun t1 => Framed s o t1 L k n) := by
  have h2 : t.drawn = d0 := congrArg State.drawn hs.1
  refine ⟨⟨hv, hW, State.sameButNew.setDrawn hs s.drawn⟩, ?_, by decide⟩
  rw [h2]
  exact hd0
def lw_Q (_ : Array Value) (s : State) (o : Outcome) (t : State) : Prop := o = .returned (some (.int 1)) ∧ State.butDraws s t lw_cs (fun t1 => Framed s o t1 [] 600130 7301080)
def lw_Z (below : List Frame) (a : Array Value) (s : State) : State → Prop := fun t => ∃ o, t.status = .running ∧ Ended t below o ∧ lw_Q a s o t
/-- the law's own end, with 1 on the stack, nothing written that was there before, its room as the claim has it; d0: the record of draws at this point (at the entry s.drawn: begin with 'refine W.base ?_' and 'have hd0 := Drawn.sameBut.refl s.drawn lw_cs') -/
theorem lw_ret {p : Program} {l : Launch} {e : Env} {s : State} {m : MethodId} {below : List Frame} {meth : Method} {c : Code} {b : Nat} {d0 : Drawn} (hd0 : s.drawn.sameBut d0 lw_cs) (hx : p.tables.exec = Jvm.exec) (hb : c.code = code) (hr : meth.sig.returnType = ret) (hlocks : meth.locks = false) {pc : Nat} {H : Heap} {ls : Array Slot} (hdg : decode code pc = .ok (.ireturn, 1)) : W p l e room_1 (s.setDrawn d0) m #[Value.ref b] below meth c H [] 600130 7301080 (lw_Z below #[Value.ref b] s) (F0 m pc ls [.int 1]) := by
  intro T hT X
  obtain ⟨fs, hret, hrun, hended, hW, hframe⟩ := X.leave (v := some (.int 1)) (hlocks := hlocks) (fun h => by rw [hr] at h; cases h)
  have hmeth' : T.vm.method? m = some meth := X.method'
  refine ⟨T.setFrames fs, ?_, .returned (some (.int 1)), hrun, hended, rfl, lw_closed hd0 ⟨_, rfl⟩ hW hframe⟩
  jvm_step X.here [X.here.top, hx, hb, hdg, hmeth', hr, ret, narrow_b1]
  (try refine ⟨rfl, ?_⟩); (try refine ⟨rfl, ?_⟩)
  first | (intro acts; rw [hret _ acts rfl rfl rfl]) | rw [hret _ _ rfl rfl rfl]
  exact Steps.refl _
/-- what holds at the law's entry: the machine, the code, the tables' words (any of lw_tbl by 'hts w (by decide +kernel)'), the script of L ints xs at the cell b, what the Statement gives of the start (any of its parts by flat_of_before) -/
def lw_At (p : Program) (s : State) (m : MethodId) (meth : Method) (c : Code) (b L : Nat) (xs : Nat → Int32) : Prop :=
  p.tables.exec = Jvm.exec ∧ c.code = code ∧ meth.sig.returnType = ret ∧ c.maxLocals = 7 ∧ s.vm.findClass R_law = some m.cls ∧ (∀ w ∈ lw_tbl, w.before #[Value.ref b] s = true) ∧ va_X b L xs s s.heap ∧ b < s.heap.size ∧ meth.locks = false ∧ (Jvm.Cond.and given_1 narrow_1).before #[Value.ref b] s = true
/-! what the tables say at the start -/
theorem arr_int {args : Array Value} {s : State} (h : (Cond.arrayClass .int).before args s = true) : ∃ c, ArrOfT s c .int ∧ va_RA s c .int := by
  obtain ⟨c, k, comp, h1, h2, h3⟩ := Cond.arrayClass_spec h
  exact ⟨c, fun n z => ⟨fun k h => (by cases h), k, h2, comp, h3⟩, h1⟩
theorem arr_ref {args : Array Value} {s : State} {C : String} (h : (Cond.arrayOver (.object C)).before args s = true) : ∃ c, ArrOfT s c (.object C) ∧ va_RA s c (.object C) := by
  obtain ⟨comp, c, k, h1, h2, h3, h4, h5⟩ := Cond.arrayOver_spec h
  exact ⟨c, fun n z => ⟨fun k h => (by cases h), k, h3, comp, h4⟩, k, comp, h3, h4, h1, h5⟩
set_option maxRecDepth 100000 in
theorem t_nests : ∀ q ∈ nests, Cond.methodLinkNest q.1 q.2.1 q.2.2.1 q.2.2.2 ∈ lw_tbl := by decide +kernel
set_option maxRecDepth 100000 in
theorem t_strs : ∀ q ∈ strs, Cond.stringRef RX4 q.1 q.2 ∈ lw_tbl := by decide +kernel
set_option maxRecDepth 100000 in
theorem t_ngw : ∀ w ∈ ngw, w ∈ lw_tbl := by decide +kernel
set_option maxRecDepth 100000 in
theorem t_ao : Cond.arrayOver (.object RX1) ∈ lw_tbl ∧ Cond.arrayOver (.object RX3) ∈ lw_tbl ∧ Cond.arrayClass .int ∈ lw_tbl := by decide +kernel
set_option maxRecDepth 100000 in
theorem t_in : Cond.instantiable RX0 8 ∈ lw_tbl ∧ Cond.instantiable RX1 5 ∈ lw_tbl ∧ Cond.instantiable RX2 3 ∈ lw_tbl ∧ Cond.instantiable RX3 11 ∈ lw_tbl ∧ Cond.instantiable RX4 5 ∈ lw_tbl := by decide +kernel
set_option maxRecDepth 100000 in
theorem t_st : Cond.laysStatic Bundle.tN "UNASSIGNED_STACK" Bundle.steD ∈ lw_tbl ∧ Cond.laysStatic Bundle.tN "SUPPRESSED_SENTINEL" Bundle.listD ∈ lw_tbl ∧ Cond.initialized Bundle.tN ∈ lw_tbl := by decide +kernel
set_option maxRecDepth 100000 in
theorem t_exs : ∀ q ∈ strs, Cond.exactly (.string RX4 q.1) "java/lang/String" ∈ flatC (Jvm.Cond.and given_1 narrow_1) := by decide +kernel
theorem start_k {s : State} {a : Array Value} (hts : ∀ w ∈ lw_tbl, w.before a s = true) : ∃ (D : va_G) (dA : Nat → ClassId), va_K D vwCl (gty dA) s := by
  obtain ⟨c0, i0, h0⟩ := u_known hts inX0 (hts _ t_in.1)
  obtain ⟨c1, i1, h1⟩ := u_known hts inX1 (hts _ t_in.2.1)
  obtain ⟨c2, i2, h2⟩ := u_known hts inX2 (hts _ t_in.2.2.1)
  obtain ⟨c3, i3, h3⟩ := u_known hts inX3 (hts _ t_in.2.2.2.1)
  obtain ⟨c4, i4, h4⟩ := u_known hts inX4 (hts _ t_in.2.2.2.2)
  obtain ⟨d0, k0⟩ := arr_int (hts _ t_ao.2.2)
  obtain ⟨d3, k3⟩ := arr_ref (hts _ t_ao.1)
  obtain ⟨d4, k4⟩ := arr_ref (hts _ t_ao.2.1)
  refine ⟨(fun k => if k = 0 then c0 else if k = 1 then c1 else if k = 2 then c2 else if k = 3 then c3 else c4, fun k => if k = 0 then i0 else if k = 1 then i1 else if k = 2 then i2 else if k = 3 then i3 else i4), fun k => if k = 3 then d3 else if k = 4 then d4 else d0, fun k q hq => ?_, fun k q hq => ?_⟩
  · match k, hq with
    | 0, hq => cases hq; exact h0
    | 1, hq => cases hq; exact h1
    | 2, hq => cases hq; exact h2
    | 3, hq => cases hq; exact h3
    | 4, hq => cases hq; exact h4
    | k + 5, hq => simp at hq
  · match k, hq with
    | 0, hq => cases hq; exact k0
    | 1, hq => cases hq; exact k0
    | 2, hq => cases hq; exact k0
    | 3, hq => cases hq; exact k3
    | 4, hq => cases hq; exact k4
    | k + 5, hq => simp [gty] at hq
theorem start_ex {s : State} {b : Nat} (hts : ∀ w ∈ lw_tbl, w.before #[Value.ref b] s = true) (hgv : (Jvm.Cond.and given_1 narrow_1).before #[Value.ref b] s = true) : EX s := by
  have hs := flat_of_before _ hgv
  refine ⟨fun q hq => va_Nw.of rfl (hts _ (t_nests q hq)), va_AO.of (hts _ t_ao.1), va_AO.of (hts _ t_ao.2.1), fun q hq => ?_, fun w hw => ?_⟩
  · have he : (Cond.exactly (.string RX4 q.1) "java/lang/String").before #[Value.ref b] s = true := hs _ (t_exs q hq)
    obtain ⟨sa, c, cell, k, e1, -⟩ := Cond.exactly_spec he
    exact ⟨sa, vk_R.of (hts _ (t_strs q hq)) e1⟩
  · have h := hts w (t_ngw w hw)
    rcases List.mem_append.mp hw with hm | hm
    · obtain ⟨q, -, rfl⟩ := List.mem_map.mp hm
      exact va_Nw.of rfl h
    · obtain ⟨q, -, rfl⟩ := List.mem_map.mp hm
      exact va_Nw.of rfl h
theorem start_nx {s : State} {b : Nat} (hgv : (Jvm.Cond.and given_1 narrow_1).before #[Value.ref b] s = true) : NX s := by
  have hs := flat_of_before _ hgv
  exact fun q hq => va_Nc.of (args := #[Value.ref b]) (hs _ ((by decide +kernel : ∀ q ∈ ncs, Cond.not (.castable q.1 q.2) ∈ _) q hq))
theorem start_xz {s : State} {b : Nat} (hts : ∀ w ∈ lw_tbl, w.before #[Value.ref b] s = true) (hgv : (Jvm.Cond.and given_1 narrow_1).before #[Value.ref b] s = true) : XZ (fun q => s.heap.size ≤ q) s s.heap := by
  have hs := flat_of_before _ hgv
  exact ⟨vx_Zqof (hts _ t_st.1) (hts _ t_st.2.2) (hs _ (by decide +kernel)) (fun a h h2 => absurd h (Nat.not_lt.mpr h2)), vx_Zqof (hts _ t_st.2.1) (hts _ t_st.2.2) (hs _ (by decide +kernel)) (fun a h h2 => absurd h (Nat.not_lt.mpr h2))⟩
theorem flags_tr {l : Launch} (h : l.flags = flags0) : l.stackTraces = false := by
  unfold Launch.stackTraces
  rw [h]
  decide
/-! the object is made -/
set_option maxRecDepth 100000 in
theorem m_law_c10 : Cond.classLink RL 10 RX4 ∈ wsL_law := by decide +kernel
set_option maxRecDepth 100000 in
theorem m_law_i10 : Cond.instantiable RX4 5 ∈ wsL_law := by decide +kernel
set_option maxRecDepth 100000 in
theorem m_law_t10 : Cond.initialized RX4 ∈ wsL_law := by decide +kernel
set_option maxRecDepth 100000 in
theorem m_law_l131 : Cond.methodLink RL 131 yX4_init ∈ wsL_law := by decide +kernel
set_option maxRecDepth 100000 in
theorem m_law_j131 : Cond.instanceMethod yX4_init ∈ wsL_law := by decide +kernel
def mpad {α : Type} (c s : Nat) (a : α) : MM (α × GH) := ⟨fun G => if G.2.2.1 ≤ c ∧ G.2.2.2 ≤ s then some ((a, G), (G.1, G.2.1, c, s)) else none, fun G r G' h => by
  dsimp only at h
  split at h
  · rename_i hc
    cases h
    exact ⟨Nat.le_refl _, hc.1, hc.2⟩
  · cases h⟩
theorem mpad_ok {α : Type} {c s : Nat} {a : α} {G : GH} (h : G.2.2.1 ≤ c ∧ G.2.2.2 ≤ s) : (mpad c s a).1 G = some ((a, G), (G.1, G.2.1, c, s)) := if_pos h
theorem mpad_inv {α : Type} {c s : Nat} {a b : α} {G G1 Ge : GH} (h : (mpad c s a).1 G = some ((b, G1), Ge)) : b = a ∧ G1 = G := by
  have h' : (if G.2.2.1 ≤ c ∧ G.2.2.2 ≤ s then some ((a, G), ((G.1, G.2.1, c, s) : GH)) else none) = some ((b, G1), Ge) := h
  split at h'
  · cases h'
    exact ⟨rfl, rfl⟩
  · cases h'
def g00 (n : Nat) : GH := (fun _ => none, n, 0, 0)
theorem law_begin {X : VX} {Q : State → Prop} {b n : Nat} (hfl : (xl X).stackTraces = false) (hk : ∀ G p, HI p 1052 26996 G w00 → V X RL cL_law 7 12 474 wsL_law (0, 0, 600130, 7301080) Q G 8 [(1, .ref p), (0, .ref b)] []) : V X RL cL_law 7 12 474 wsL_law (0, 0, 600130, 7301080) Q (g00 n) 0 [(0, .ref b)] [] := by
  have hg0 : GW (g00 n) (fun _ => 0) := fun a h => absurd rfl h
  obtain ⟨G1, ow1, e1, e2, e3, e4, e5, e6, e7⟩ := c_new hg0 (fun a => mpad 600130 7301080 a)
  have q1 : G1.2.2.1 = 12 := e6
  have q2 : G1.2.2.2 = 476 := e7
  rw [mpad_ok (by omega)] at e1
  refine v_newo 4 tyX4 inlX4 tyX4_ok rfl m_law_c10 m_law_i10 m_law_t10 dfX4 dL_law_0 (R := _) ⟨rfl, rfl⟩ e1 (fun p Ga hf => ?_)
  refine v_dup dL_law_3 rfl ?_
  refine v_callI 0 [] (c_X4_init (xl X) hfl p) gL_law_X4_init rfl m_law_t10 m_law_l131 m_law_j131 rfl dn_X4_init (by decide) (by decide) rfl dL_law_4 (Nat.le_of_ble_eq_true rfl) rfl (R := _) ⟨rfl, rfl⟩ hf (fun Gb hf => ?_)
  obtain ⟨rfl, rfl⟩ := mpad_inv hf
  refine v_astore_n [(1, .ref (g00 n).2.1), (0, .ref b)] dL_law_7 rfl (by decide) rfl ?_
  exact hk _ _ ⟨ow1, 520, e2, by omega, by omega⟩
