/-! PART 03: the judgement V: the machine at a place, its heap holding a logical heap. -/
def gE (dA : Nat → ClassId) (e : LE) : va_E := match e with
  | .inl (t, x) => .inl (dA t, x)
  | .inr o => .inr o
def gf (dA : Nat → ClassId) (h : Nat → Option LE) (a : Nat) : Option (Nat × va_E) := (h a).map (fun e => (a, gE dA e))
def gLl (dA : Nat → ClassId) (h : Nat → Option LE) (l : List Nat) : va_W := l.filterMap (gf dA h)
def gL (dA : Nat → ClassId) (G : GH) : va_W := gLl dA G.1 (List.range G.2.1)
theorem fm_congr {α β : Type} {f g : α → Option β} : ∀ {l : List α}, (∀ c ∈ l, f c = g c) → l.filterMap f = l.filterMap g
  | [], _ => rfl
  | b :: l, h => by
    rw [List.filterMap_cons, List.filterMap_cons, h b List.mem_cons_self, fm_congr (fun c hc => h c (List.mem_cons_of_mem _ hc))]
theorem gLl_mem {dA : Nat → ClassId} {h : Nat → Option LE} {l : List Nat} {q : Nat × va_E} (hq : q ∈ gLl dA h l) : q.1 ∈ l ∧ ∃ e, h q.1 = some e ∧ q.2 = gE dA e := by
  obtain ⟨a, ha, hf⟩ := List.mem_filterMap.mp hq
  unfold gf at hf
  cases hh : h a with
  | none => rw [hh] at hf; cases hf
  | some e =>
    rw [hh] at hf
    cases hf
    exact ⟨ha, e, hh, rfl⟩
theorem gLl_set {dA : Nat → ClassId} {h : Nat → Option LE} {a : Nat} (e' : LE) : ∀ (l : List Nat), l.Nodup → ∀ (k : Nat) (x : va_E), (gLl dA h l)[k]? = some (a, x) → (gLl dA h l).set k (a, gE dA e') = gLl dA (va_up h a (some e')) l
  | [], _, k, x, hk => by simp [gLl] at hk
  | b :: l, hn, k, x, hk => by
    obtain ⟨hb, hn'⟩ := List.nodup_cons.mp hn
    have ih := gLl_set (dA := dA) (h := h) (a := a) e' l hn'
    have mem : ∀ (k : Nat) (x : va_E), (gLl dA h l)[k]? = some (a, x) → a ∈ l := fun k x h1 => (gLl_mem (List.mem_of_getElem? h1)).1
    cases hh : h b with
    | none =>
      have e1 : gLl dA h (b :: l) = gLl dA h l := by simp [gLl, gf, hh]
      rw [e1] at hk ⊢
      have hab : b ≠ a := fun q => hb (q ▸ mem k x hk)
      have e2 : gLl dA (va_up h a (some e')) (b :: l) = gLl dA (va_up h a (some e')) l := by simp [gLl, gf, va_up, hab, hh]
      rw [e2]
      exact ih k x hk
    | some e =>
      have e1 : gLl dA h (b :: l) = (b, gE dA e) :: gLl dA h l := by simp [gLl, gf, hh]
      rw [e1] at hk ⊢
      cases k with
      | zero =>
        have hk' : (b, gE dA e) = (a, x) := by simpa using hk
        have hab : b = a := congrArg Prod.fst hk'
        subst hab
        have e2 : gLl dA (va_up h b (some e')) (b :: l) = (b, gE dA e') :: gLl dA (va_up h b (some e')) l := by simp [gLl, gf, va_up]
        have e3 : gLl dA (va_up h b (some e')) l = gLl dA h l := by
          unfold gLl
          apply fm_congr
          intro c hc
          have hcb : c ≠ b := fun q => hb (q ▸ hc)
          simp [gf, va_up, hcb]
        rw [e2, e3]
        rfl
      | succ k =>
        have hk' : (gLl dA h l)[k]? = some (a, x) := by simpa using hk
        have hab : b ≠ a := fun q => hb (q ▸ mem k x hk')
        have e2 : gLl dA (va_up h a (some e')) (b :: l) = (b, gE dA e) :: gLl dA (va_up h a (some e')) l := by simp [gLl, gf, va_up, hab, hh]
        rw [e2, List.set_cons_succ, ih k x hk']
theorem gLl_inj {dA : Nat → ClassId} {h : Nat → Option LE} : ∀ (l : List Nat), l.Nodup → ∀ (i j : Nat) (p q : Nat × va_E), (gLl dA h l)[i]? = some p → (gLl dA h l)[j]? = some q → p.1 = q.1 → i = j
  | [], _, i, j, p, q, hi, _, _ => by simp [gLl] at hi
  | b :: l, hn, i, j, p, q, hi, hj, hpq => by
    obtain ⟨hb, hn'⟩ := List.nodup_cons.mp hn
    have ih := gLl_inj (dA := dA) (h := h) l hn'
    cases hh : h b with
    | none =>
      have e1 : gLl dA h (b :: l) = gLl dA h l := by simp [gLl, gf, hh]
      rw [e1] at hi hj
      exact ih i j p q hi hj hpq
    | some e =>
      have e1 : gLl dA h (b :: l) = (b, gE dA e) :: gLl dA h l := by simp [gLl, gf, hh]
      rw [e1] at hi hj
      cases i with
      | zero =>
        cases j with
        | zero => rfl
        | succ j =>
          have h1 : (b, gE dA e) = p := by simpa using hi
          have h2 : (gLl dA h l)[j]? = some q := by simpa using hj
          have h3 := (gLl_mem (List.mem_of_getElem? h2)).1
          exact absurd h3 (by rw [← hpq, ← h1]; exact hb)
      | succ i =>
        have h1 : (gLl dA h l)[i]? = some p := by simpa using hi
        cases j with
        | zero =>
          have h2 : (b, gE dA e) = q := by simpa using hj
          have h3 := (gLl_mem (List.mem_of_getElem? h1)).1
          exact absurd h3 (by rw [hpq, ← h2]; exact hb)
        | succ j =>
          have h2 : (gLl dA h l)[j]? = some q := by simpa using hj
          rw [ih i j p q h1 h2 hpq]
theorem gL_get {dA : Nat → ClassId} {G : GH} {a : Nat} {e : LE} (hl : a < G.2.1) (h : G.1 a = some e) : ∃ k : Nat, (gL dA G)[k]? = some (a, gE dA e) := by
  have hm : (a, gE dA e) ∈ gL dA G := List.mem_filterMap.mpr ⟨a, List.mem_range.mpr hl, by simp [gf, h]⟩
  exact List.getElem?_of_mem hm
theorem gL_set {dA : Nat → ClassId} {G : GH} {a k : Nat} {x : va_E} (e' : LE) (hk : (gL dA G)[k]? = some (a, x)) : (gL dA G).set k (a, gE dA e') = gL dA (va_up G.1 a (some e'), G.2) := gLl_set e' _ List.nodup_range k x hk
theorem gL_push {dA : Nat → ClassId} {G : GH} (e : LE) (c s : Nat) : gL dA (va_up G.1 G.2.1 (some e), G.2.1 + 1, c, s) = gL dA G ++ [(G.2.1, gE dA e)] := by
  show gLl dA (va_up G.1 G.2.1 (some e)) (List.range (G.2.1 + 1)) = gLl dA G.1 (List.range G.2.1) ++ _
  unfold gLl
  rw [List.range_succ, List.filterMap_append]
  congr 1
  · apply fm_congr
    intro c hc
    have hcb : c ≠ G.2.1 := Nat.ne_of_lt (List.mem_range.mp hc)
    simp [gf, va_up, hcb]
  · simp [gf, va_up]
theorem gL_D {dA : Nat → ClassId} {G : GH} {A : Nat → Prop} (h : ∀ a, G.1 a ≠ none → A a) : va_D A (gL dA G) :=
  ⟨gLl_inj _ List.nodup_range, fun k q hk => by
    obtain ⟨-, e, h1, -⟩ := gLl_mem (List.mem_of_getElem? hk)
    exact h q.1 (by rw [h1]; exact fun z => by cases z)⟩
/-- the array classes: int[] (three places), State[], Version[] -/
def gty (dA : Nat → ClassId) : List (ClassId × FieldType) := [(dA 0, .int), (dA 1, .int), (dA 2, .int), (dA 3, .object RX1), (dA 4, .object RX3)]
/-- what a method may change: the map's cells, and new ones -/
def gA (G : GH) : Nat → Prop := fun q => G.1 q ≠ none ∨ G.2.1 ≤ q
/-- a heap holds a logical heap -/
def gP (D : va_G) (dA : Nat → ClassId) (G : GH) (H : Heap) : Prop := G.2.1 = H.size ∧ va_P D vwCl (gL dA G) H ∧ ∀ a, G.1 a ≠ none → a < G.2.1
/-! what else of the tables a method stands on: calls of the outer class's private methods, arrays of references, the texts of exceptions; and two statics of Throwable -/
def nests : List (String × Nat × MethodName × String) := [(RX0, 38, yX4_fill, RX4), (RX0, 42, yX4_cell, RX4), (RX1, 100, yX4_cell, RX4), (RX1, 96, yX4_fill, RX4), (RX3, 56, yX4_cell, RX4), (RX3, 64, yX4_isPush, RX4), (RX3, 68, yX4_isAtFront, RX4), (RX3, 96, yX4_fill, RX4)]
def strs : List (Nat × String) := [(44, "no such setting or value"), (64, "value out of range"), (71, "the row or the versions are full"), (90, "the row is empty"), (93, "the versions are full"), (98, "there is the version 0 alone"), (100, "no such fact of a version"), (105, "no act made the version 0"), (119, "no such number"), (124, "no such setting"), (146, "byte out of range"), (151, "the text is full"), (179, "there is no saved state"), (197, "no such version"), (203, "no such version or place"), (208, "rate out of range"), (210, "the text has a syntax error")]
/-- words of the exceptions' classes that no reader of steady words carries -/
def casts : List String := ["java/lang/IllegalArgumentException", "java/lang/IllegalStateException", "java/lang/IndexOutOfBoundsException", "java/util/NoSuchElementException"]
def decls : List MethodName := [Bundle.initS "java/lang/RuntimeException", Bundle.initS "java/lang/Exception", Bundle.initS Bundle.tN]
def ngw : List Cond := casts.map (fun q => Cond.castable q q) ++ decls.map (fun y => Cond.declares y)
def EX (U : State) : Prop := (∀ q ∈ nests, va_Nw (.methodLinkNest q.1 q.2.1 q.2.2.1 q.2.2.2) U) ∧ va_AO RX1 U ∧ va_AO RX3 U ∧ (∀ q ∈ strs, ∃ sa, vk_R RX4 q.1 q.2 sa U) ∧ ∀ w ∈ ngw, va_Nw w U
theorem EX.warm {s U : State} (hW : s.WarmedH U.vm) (h : EX s) : EX U := ⟨fun q hq => va_Nw.warmM hW (h.1 q hq), va_AO.moved hW.alike h.2.1, va_AO.moved hW.alike h.2.2.1, fun q hq => by
  obtain ⟨sa, hs⟩ := h.2.2.2.1 q hq
  exact ⟨sa, vk_R.warm hW hs⟩, fun w hw => by
  have hw2 := h.2.2.2.2 w hw
  rcases List.mem_append.mp hw with hm | hm
  · obtain ⟨q, -, rfl⟩ := List.mem_map.mp hm
    exact va_tabs rfl (rfl : (s.setVm U.vm).vm = U.vm) (by rw [Cond.castable_setVm hW.alike]; exact hw2)
  · obtain ⟨q, -, rfl⟩ := List.mem_map.mp hm
    exact va_tabs rfl (rfl : (s.setVm U.vm).vm = U.vm) (by rw [Cond.declares_setVm hW.alike]; exact hw2)⟩
theorem EX.same {u U : State} (hv : U.vm = u.vm) (h : EX u) : EX U := ⟨fun q hq => va_Nw.same rfl hv.symm (h.1 q hq), va_AO.moved (by rw [hv]; exact Vm.Alike.refl _) h.2.1, va_AO.moved (by rw [hv]; exact Vm.Alike.refl _) h.2.2.1, fun q hq => by
  obtain ⟨sa, hs⟩ := h.2.2.2.1 q hq
  exact ⟨sa, vk_R.same hv hs⟩, fun w hw => by
  have hw2 := h.2.2.2.2 w hw
  rcases List.mem_append.mp hw with hm | hm
  · obtain ⟨q, -, rfl⟩ := List.mem_map.mp hm
    exact va_Nw.same rfl hv.symm hw2
  · obtain ⟨q, -, rfl⟩ := List.mem_map.mp hm
    exact va_Nw.same rfl hv.symm hw2⟩
def XZ (A : Nat → Prop) (U : State) (H : Heap) : Prop := vx_Zq Bundle.tN "UNASSIGNED_STACK" Bundle.steD A U H ∧ vx_Zq Bundle.tN "SUPPRESSED_SENTINEL" Bundle.listD A U H
theorem XZ.moved {A : Nat → Prop} {u U : State} {H : Heap} (hvm : u.vm.Alike U.vm) (h : XZ A u H) : XZ A U H := ⟨h.1.moved hvm, h.2.moved hvm⟩
theorem XZ.kept {A : Nat → Prop} {U : State} {H H1 : Heap} (h : XZ A U H) (hq : ∀ a : Nat, a < H.size → ¬ A a → H1[a]? = H[a]?) : XZ A U H1 := ⟨h.1.kept hq, h.2.kept hq⟩
theorem XZ.narrow {A B : Nat → Prop} {U : State} {H : Heap} (h : XZ A U H) (hAB : ∀ q, B q → A q) : XZ B U H := ⟨h.1.narrow hAB, h.2.narrow hAB⟩
/-! the context of a walk -/
abbrev VX : Type := Program × Launch × Env × Room × State × MethodId × Array Value × List Frame × Method × Code × va_G × (Nat → ClassId) × (Nat → Prop)
abbrev xp (X : VX) : Program := X.1
abbrev xl (X : VX) : Launch := X.2.1
abbrev xe (X : VX) : Env := X.2.2.1
abbrev xR (X : VX) : Room := X.2.2.2.1
abbrev xs (X : VX) : State := X.2.2.2.2.1
abbrev xm (X : VX) : MethodId := X.2.2.2.2.2.1
abbrev xa (X : VX) : Array Value := X.2.2.2.2.2.2.1
abbrev xb (X : VX) : List Frame := X.2.2.2.2.2.2.2.1
abbrev xme (X : VX) : Method := X.2.2.2.2.2.2.2.2.1
abbrev xc (X : VX) : Code := X.2.2.2.2.2.2.2.2.2.1
abbrev xDD (X : VX) : va_G := X.2.2.2.2.2.2.2.2.2.2.1
abbrev xdA (X : VX) : Nat → ClassId := X.2.2.2.2.2.2.2.2.2.2.2.1
abbrev xA (X : VX) : Nat → Prop := X.2.2.2.2.2.2.2.2.2.2.2.2
/-- the standing facts of a method's walk: own class, code, locals, frames and locals' words below, words -/
def VC (X : VX) (own : String) (cc : ByteArray) (nL fr lo : Nat) (Ts : List Cond) : Prop :=
  (xp X).tables.exec = Jvm.exec ∧ (xc X).code = cc ∧ (xc X).maxLocals = nL ∧ (xs X).vm.findClass own = some (xm X).cls ∧ (∀ w ∈ Ts, w.before (xa X) (xs X) = true) ∧ (xme X).locks = false ∧ (xR X).frames = fr ∧ (xR X).locals = lo ∧ va_K (xDD X) vwCl (gty (xdA X)) (xs X) ∧ (∀ q, (xs X).heap.size ≤ q → (xA X) q) ∧ (xl X).stackTraces = false ∧ EX (xs X) ∧ XZ (xA X) (xs X) (xs X).heap
section VCs
variable {X : VX} {own : String} {cc : ByteArray} {nL fr lo : Nat} {Ts : List Cond}
theorem VC.x (D : VC X own cc nL fr lo Ts) : (xp X).tables.exec = Jvm.exec := D.1
theorem VC.b (D : VC X own cc nL fr lo Ts) : (xc X).code = cc := D.2.1
theorem VC.ml (D : VC X own cc nL fr lo Ts) : (xc X).maxLocals = nL := D.2.2.1
theorem VC.ow (D : VC X own cc nL fr lo Ts) : (xs X).vm.findClass own = some (xm X).cls := D.2.2.2.1
theorem VC.ts (D : VC X own cc nL fr lo Ts) : ∀ w ∈ Ts, w.before (xa X) (xs X) = true := D.2.2.2.2.1
theorem VC.lk (D : VC X own cc nL fr lo Ts) : (xme X).locks = false := D.2.2.2.2.2.1
theorem VC.rf (D : VC X own cc nL fr lo Ts) : (xR X).frames = fr := D.2.2.2.2.2.2.1
theorem VC.rl (D : VC X own cc nL fr lo Ts) : (xR X).locals = lo := D.2.2.2.2.2.2.2.1
theorem VC.k (D : VC X own cc nL fr lo Ts) : va_K (xDD X) vwCl (gty (xdA X)) (xs X) := D.2.2.2.2.2.2.2.2.1
theorem VC.a (D : VC X own cc nL fr lo Ts) : ∀ q, (xs X).heap.size ≤ q → (xA X) q := D.2.2.2.2.2.2.2.2.2.1
theorem VC.fl (D : VC X own cc nL fr lo Ts) : (xl X).stackTraces = false := D.2.2.2.2.2.2.2.2.2.2.1
theorem VC.ex (D : VC X own cc nL fr lo Ts) : EX (xs X) := D.2.2.2.2.2.2.2.2.2.2.2.1
theorem VC.z (D : VC X own cc nL fr lo Ts) : XZ (xA X) (xs X) (xs X).heap := D.2.2.2.2.2.2.2.2.2.2.2.2
end VCs
def gI (X : VX) (G : GH) (H : Heap) (locs : List Loc) : Prop := gP (xDD X) (xdA X) G H ∧ (∀ a, G.1 a ≠ none → (xA X) a) ∧ va_S (xA X) (xs X).heap H locs
/-- the counters: cells and slots at the start and at the end -/
abbrev VB : Type := Nat × Nat × Nat × Nat
def VK (X : VX) (B : VB) (G : GH) : Prop := (xR X).cells = B.2.2.1 - B.1 ∧ (xR X).slots = B.2.2.2 - B.2.1 ∧ B.1 ≤ G.2.2.1 ∧ B.2.1 ≤ G.2.2.2
def V (X : VX) (own : String) (cc : ByteArray) (nL fr lo : Nat) (Ts : List Cond) (B : VB) (Q : State → Prop) (G : GH) (pc : Nat) (lv : List (Nat × Value)) (st : List Value) : Prop :=
  VC X own cc nL fr lo Ts → VK X B G → ∀ (H : Heap) (ls : Array Slot) (locs : List Loc), gI X G H locs → lv_has ls nL lv →
    W (xp X) (xl X) (xe X) (xR X) (xs X) (xm X) (xa X) (xb X) (xme X) (xc X) H locs (G.2.2.1 - B.1) (G.2.2.2 - B.2.1) Q (F0 (xm X) pc ls st)
section Vrows
variable {X : VX} {own : String} {cc : ByteArray} {nL fr lo : Nat} {Ts : List Cond} {B : VB} {Q : State → Prop} {G : GH} {pc : Nat} {lv lv' : List (Nat × Value)} {st : List Value}
theorem v_sub (ks : List Nat) (hl : lv_pick lv ks = lv') (k : V X own cc nL fr lo Ts B Q G pc lv' st) : V X own cc nL fr lo Ts B Q G pc lv st := fun C K H ls locs hI h => k C K H ls locs hI (lv_sub h ks hl)
theorem v_iconst {n : Int} (v : Int32) (hd : decode cc pc = .ok (.iconst n, 1)) (hv : Int32.ofInt n = v) (k : V X own cc nL fr lo Ts B Q G (pc + 1) lv (.int v :: st)) : V X own cc nL fr lo Ts B Q G pc lv st := fun C K H ls locs hI hl => lv_iconst C.1 C.2.1 hd hv (k C K H ls locs hI hl)
theorem v_bipush {n : Int} (v : Int32) (hd : decode cc pc = .ok (.bipush n, 2)) (hv : (Int8.ofInt n).toInt32 = v) (k : V X own cc nL fr lo Ts B Q G (pc + 2) lv (.int v :: st)) : V X own cc nL fr lo Ts B Q G pc lv st := fun C K H ls locs hI hl => lv_bipush C.1 C.2.1 hd hv (k C K H ls locs hI hl)
theorem v_sipush {n : Int} (v : Int32) (hd : decode cc pc = .ok (.sipush n, 3)) (hv : (Int16.ofInt n).toInt32 = v) (k : V X own cc nL fr lo Ts B Q G (pc + 3) lv (.int v :: st)) : V X own cc nL fr lo Ts B Q G pc lv st := fun C K H ls locs hI hl => lv_sipush C.1 C.2.1 hd hv (k C K H ls locs hI hl)
theorem v_lconst {n : Fin 2} (v : Int64) (hd : decode cc pc = .ok (.lconst n, 1)) (hv : Int64.ofNat (n : Nat) = v) (k : V X own cc nL fr lo Ts B Q G (pc + 1) lv (.long v :: st)) : V X own cc nL fr lo Ts B Q G pc lv st := fun C K H ls locs hI hl => lv_lconst C.1 C.2.1 hd hv (k C K H ls locs hI hl)
theorem v_iload_n {n : Fin 4} {i : Nat} {x : Int32} (p : Nat) (hd : decode cc pc = .ok (.iload_n n, 1)) (hi : (n : Nat) = i) (hk : lv[p]? = some (i, .int x)) (k : V X own cc nL fr lo Ts B Q G (pc + 1) lv (.int x :: st)) : V X own cc nL fr lo Ts B Q G pc lv st := fun C K H ls locs hI hl => lv_iload_n C.1 C.2.1 hd hi (lv_at hl p hk) (k C K H ls locs hI hl)
theorem v_iload {i : Nat} {x : Int32} (p : Nat) (hd : decode cc pc = .ok (.iload i, 2)) (hk : lv[p]? = some (i, .int x)) (k : V X own cc nL fr lo Ts B Q G (pc + 2) lv (.int x :: st)) : V X own cc nL fr lo Ts B Q G pc lv st := fun C K H ls locs hI hl => lv_iload C.1 C.2.1 hd (lv_at hl p hk) (k C K H ls locs hI hl)
theorem v_lload_n {n : Fin 4} {i : Nat} {x : Int64} (p : Nat) (hd : decode cc pc = .ok (.lload_n n, 1)) (hi : (n : Nat) = i) (hk : lv[p]? = some (i, .long x)) (k : V X own cc nL fr lo Ts B Q G (pc + 1) lv (.long x :: st)) : V X own cc nL fr lo Ts B Q G pc lv st := fun C K H ls locs hI hl => lv_lload_n C.1 C.2.1 hd hi (lv_at hl p hk) (k C K H ls locs hI hl)
theorem v_aload_n {n : Fin 4} {i : Nat} {x : Nat} (p : Nat) (hd : decode cc pc = .ok (.aload_n n, 1)) (hi : (n : Nat) = i) (hk : lv[p]? = some (i, .ref x)) (k : V X own cc nL fr lo Ts B Q G (pc + 1) lv (.ref x :: st)) : V X own cc nL fr lo Ts B Q G pc lv st := fun C K H ls locs hI hl => lv_aload_n C.1 C.2.1 hd hi (lv_at hl p hk) (k C K H ls locs hI hl)
theorem v_aload {i : Nat} {x : Nat} (p : Nat) (hd : decode cc pc = .ok (.aload i, 2)) (hk : lv[p]? = some (i, .ref x)) (k : V X own cc nL fr lo Ts B Q G (pc + 2) lv (.ref x :: st)) : V X own cc nL fr lo Ts B Q G pc lv st := fun C K H ls locs hI hl => lv_aload C.1 C.2.1 hd (lv_at hl p hk) (k C K H ls locs hI hl)
theorem v_istore_n {n : Fin 4} {i : Nat} {x : Int32} (lv' : List (Nat × Value)) (hd : decode cc pc = .ok (.istore_n n, 1)) (hi : (n : Nat) = i) (hn : i < nL) (he : (i, Value.int x) :: lv.filter (fun q => !(q.1 == i) && !(q.1 + 1 == i && q.2.category == 2)) = lv') (k : V X own cc nL fr lo Ts B Q G (pc + 1) lv' st) : V X own cc nL fr lo Ts B Q G pc lv (.int x :: st) := fun C K H ls locs hI hl => lv_istore_n C.1 C.2.1 hd hi hl hn he (fun ls hl => k C K H ls locs hI hl)
theorem v_istore {i : Nat} {x : Int32} (lv' : List (Nat × Value)) (hd : decode cc pc = .ok (.istore i, 2)) (hn : i < nL) (he : (i, Value.int x) :: lv.filter (fun q => !(q.1 == i) && !(q.1 + 1 == i && q.2.category == 2)) = lv') (k : V X own cc nL fr lo Ts B Q G (pc + 2) lv' st) : V X own cc nL fr lo Ts B Q G pc lv (.int x :: st) := fun C K H ls locs hI hl => lv_istore C.1 C.2.1 hd hl hn he (fun ls hl => k C K H ls locs hI hl)
theorem v_lstore_n {n : Fin 4} {i : Nat} {x : Int64} (lv' : List (Nat × Value)) (hd : decode cc pc = .ok (.lstore_n n, 1)) (hi : (n : Nat) = i) (hn : i + 1 < nL) (he : (i, Value.long x) :: lv.filter (fun q => !(q.1 == i) && (!(q.1 == i + 1) && !(q.1 + 1 == i && q.2.category == 2))) = lv') (k : V X own cc nL fr lo Ts B Q G (pc + 1) lv' st) : V X own cc nL fr lo Ts B Q G pc lv (.long x :: st) := fun C K H ls locs hI hl => lv_lstore_n C.1 C.2.1 hd hi hl hn he (fun ls hl => k C K H ls locs hI hl)
theorem v_astore_n {n : Fin 4} {i : Nat} {x : Nat} (lv' : List (Nat × Value)) (hd : decode cc pc = .ok (.astore_n n, 1)) (hi : (n : Nat) = i) (hn : i < nL) (he : (i, Value.ref x) :: lv.filter (fun q => !(q.1 == i) && !(q.1 + 1 == i && q.2.category == 2)) = lv') (k : V X own cc nL fr lo Ts B Q G (pc + 1) lv' st) : V X own cc nL fr lo Ts B Q G pc lv (.ref x :: st) := fun C K H ls locs hI hl => lv_astore_n C.1 C.2.1 hd hi hl hn he (fun ls hl => k C K H ls locs hI hl)
theorem v_astore {i : Nat} {x : Nat} (lv' : List (Nat × Value)) (hd : decode cc pc = .ok (.astore i, 2)) (hn : i < nL) (he : (i, Value.ref x) :: lv.filter (fun q => !(q.1 == i) && !(q.1 + 1 == i && q.2.category == 2)) = lv') (k : V X own cc nL fr lo Ts B Q G (pc + 2) lv' st) : V X own cc nL fr lo Ts B Q G pc lv (.ref x :: st) := fun C K H ls locs hI hl => lv_astore C.1 C.2.1 hd hl hn he (fun ls hl => k C K H ls locs hI hl)
theorem v_iinc {i : Nat} {n : Int} {x : Int32} (p : Nat) (v : Int32) (lv' : List (Nat × Value)) (hd : decode cc pc = .ok (.iinc i n, 3)) (hk : lv[p]? = some (i, .int x)) (hv : x + Int32.ofInt n = v) (hn : i < nL) (he : (i, Value.int v) :: lv.filter (fun q => !(q.1 == i) && !(q.1 + 1 == i && q.2.category == 2)) = lv') (k : V X own cc nL fr lo Ts B Q G (pc + 3) lv' st) : V X own cc nL fr lo Ts B Q G pc lv st := fun C K H ls locs hI hl => lv_iinc C.1 C.2.1 hd hl (k := p) hk hv hn he (fun ls hl => k C K H ls locs hI hl)
theorem v_iadd {x y : Int32} (hd : decode cc pc = .ok (.iadd, 1)) (k : V X own cc nL fr lo Ts B Q G (pc + 1) lv (.int (x + y) :: st)) : V X own cc nL fr lo Ts B Q G pc lv (.int y :: .int x :: st) := fun C K H ls locs hI hl => lv_iadd C.1 C.2.1 hd (k C K H ls locs hI hl)
theorem v_isub {x y : Int32} (hd : decode cc pc = .ok (.isub, 1)) (k : V X own cc nL fr lo Ts B Q G (pc + 1) lv (.int (x - y) :: st)) : V X own cc nL fr lo Ts B Q G pc lv (.int y :: .int x :: st) := fun C K H ls locs hI hl => lv_isub C.1 C.2.1 hd (k C K H ls locs hI hl)
theorem v_imul {x y : Int32} (hd : decode cc pc = .ok (.imul, 1)) (k : V X own cc nL fr lo Ts B Q G (pc + 1) lv (.int (x * y) :: st)) : V X own cc nL fr lo Ts B Q G pc lv (.int y :: .int x :: st) := fun C K H ls locs hI hl => lv_imul C.1 C.2.1 hd (k C K H ls locs hI hl)
theorem v_iand {x y : Int32} (hd : decode cc pc = .ok (.iand, 1)) (k : V X own cc nL fr lo Ts B Q G (pc + 1) lv (.int (x &&& y) :: st)) : V X own cc nL fr lo Ts B Q G pc lv (.int y :: .int x :: st) := fun C K H ls locs hI hl => lv_iand C.1 C.2.1 hd (k C K H ls locs hI hl)
theorem v_idiv {x y : Int32} (hd : decode cc pc = .ok (.idiv, 1)) (hne : ¬ y = 0) (k : V X own cc nL fr lo Ts B Q G (pc + 1) lv (.int (x / y) :: st)) : V X own cc nL fr lo Ts B Q G pc lv (.int y :: .int x :: st) := fun C K H ls locs hI hl => lv_idiv C.1 C.2.1 hd hne (k C K H ls locs hI hl)
theorem v_ineg {x : Int32} (hd : decode cc pc = .ok (.ineg, 1)) (k : V X own cc nL fr lo Ts B Q G (pc + 1) lv (.int (-x) :: st)) : V X own cc nL fr lo Ts B Q G pc lv (.int x :: st) := fun C K H ls locs hI hl => lv_ineg C.1 C.2.1 hd (k C K H ls locs hI hl)
theorem v_ladd {x y : Int64} (hd : decode cc pc = .ok (.ladd, 1)) (k : V X own cc nL fr lo Ts B Q G (pc + 1) lv (.long (x + y) :: st)) : V X own cc nL fr lo Ts B Q G pc lv (.long y :: .long x :: st) := fun C K H ls locs hI hl => lv_ladd C.1 C.2.1 hd (k C K H ls locs hI hl)
theorem v_lmul {x y : Int64} (hd : decode cc pc = .ok (.lmul, 1)) (k : V X own cc nL fr lo Ts B Q G (pc + 1) lv (.long (x * y) :: st)) : V X own cc nL fr lo Ts B Q G pc lv (.long y :: .long x :: st) := fun C K H ls locs hI hl => lv_lmul C.1 C.2.1 hd (k C K H ls locs hI hl)
theorem v_i2l {x : Int32} (hd : decode cc pc = .ok (.i2l, 1)) (k : V X own cc nL fr lo Ts B Q G (pc + 1) lv (.long x.toInt64 :: st)) : V X own cc nL fr lo Ts B Q G pc lv (.int x :: st) := fun C K H ls locs hI hl => lv_i2l C.1 C.2.1 hd rfl (k C K H ls locs hI hl)
theorem v_i2d {x : Int32} (hd : decode cc pc = .ok (.i2d, 1)) (k : V X own cc nL fr lo Ts B Q G (pc + 1) lv (.double (FP.i2d x) :: st)) : V X own cc nL fr lo Ts B Q G pc lv (.int x :: st) := fun C K H ls locs hI hl => lv_i2d C.1 C.2.1 hd (k C K H ls locs hI hl)
theorem v_dconst0 (hd : decode cc pc = .ok (.dconst 0, 1)) (k : V X own cc nL fr lo Ts B Q G (pc + 1) lv (.double 0 :: st)) : V X own cc nL fr lo Ts B Q G pc lv st := fun C K H ls locs hI hl => lv_dconst0 C.1 C.2.1 hd (k C K H ls locs hI hl)
theorem v_dup {va : Value} (hd : decode cc pc = .ok (.dup, 1)) (hva : va.category = 1) (k : V X own cc nL fr lo Ts B Q G (pc + 1) lv (va :: va :: st)) : V X own cc nL fr lo Ts B Q G pc lv (va :: st) := fun C K H ls locs hI hl => lv_dup C.1 C.2.1 hd hva (k C K H ls locs hI hl)
theorem v_dup2 {va vb : Value} (hd : decode cc pc = .ok (.dup2, 1)) (hva : va.category = 1) (hvb : vb.category = 1) (k : V X own cc nL fr lo Ts B Q G (pc + 1) lv (va :: vb :: va :: vb :: st)) : V X own cc nL fr lo Ts B Q G pc lv (va :: vb :: st) := fun C K H ls locs hI hl => lv_dup2_11 C.1 C.2.1 hd hva hvb (k C K H ls locs hI hl)
theorem v_goto {off : Int} (tgt : Nat) (hd : decode cc pc = .ok (.goto off, 3)) (ht : (pc : Int) + off = (tgt : Int)) (k : V X own cc nL fr lo Ts B Q G tgt lv st) : V X own cc nL fr lo Ts B Q G pc lv st := fun C K H ls locs hI hl => lv_goto C.1 C.2.1 hd ht (k C K H ls locs hI hl)
theorem v_null (hd : decode cc pc = .ok (.aconst_null, 1)) (k : V X own cc nL fr lo Ts B Q G (pc + 1) lv (.null :: st)) : V X own cc nL fr lo Ts B Q G pc lv st := fun C K H ls locs hI hl => lv_null C.1 C.2.1 hd (k C K H ls locs hI hl)
end Vrows
