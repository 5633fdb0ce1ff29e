/-! PART 02: the logical heap of the class and of the reference (a map from addresses to cells), partial programs over it (MM), and the judgement V: a machine state whose heap holds a logical heap. Nothing here knows a method. -/
/-- a cell: an array (its kind of array class, length and contents), or an object (its class's number in vwCl, its fields) -/
abbrev LE : Type := (Nat × vp_A) ⊕ (Nat × List Value)
/-- the logical heap: the map, the size of the machine's heap, the cells made, the slots made -/
abbrev GH : Type := (Nat → Option LE) × Nat × Nat × Nat
def gle (G G' : GH) : Prop := G.2.1 ≤ G'.2.1 ∧ G.2.2.1 ≤ G'.2.2.1 ∧ G.2.2.2 ≤ G'.2.2.2
theorem gle.rf (G : GH) : gle G G := ⟨Nat.le_refl _, Nat.le_refl _, Nat.le_refl _⟩
theorem gle.tr {A B C : GH} (h : gle A B) (k : gle B C) : gle A C := ⟨Nat.le_trans h.1 k.1, Nat.le_trans h.2.1 k.2.1, Nat.le_trans h.2.2 k.2.2⟩
/-- a partial program: what it answers and leaves; what it has made only grows -/
abbrev MM (α : Type) : Type := {F : GH → Option (α × GH) // ∀ G r G', F G = some (r, G') → gle G G'}
def mpure {α : Type} (a : α) : MM α := ⟨fun G => some (a, G), fun G r G' h => by cases h; exact gle.rf G⟩
def mnone {α : Type} : MM α := ⟨fun _ => none, fun G r G' h => by cases h⟩
def mbind {α β : Type} (x : MM α) (k : α → MM β) : MM β := ⟨fun G => match x.1 G with | none => none | some (a, G1) => (k a).1 G1, fun G r G' h => by
  dsimp only at h
  cases hx : x.1 G with
  | none => rw [hx] at h; cases h
  | some q => obtain ⟨a, G1⟩ := q; rw [hx] at h; exact (x.2 G a G1 hx).tr ((k a).2 G1 r G' h)⟩
theorem mbind_inv {α β : Type} {x : MM α} {k : α → MM β} {G : GH} {R : β × GH} (h : (mbind x k).1 G = some R) : ∃ a G1, x.1 G = some (a, G1) ∧ (k a).1 G1 = some R := by
  have h' : (match x.1 G with | none => none | some (a, G1) => (k a).1 G1) = some R := h
  cases hx : x.1 G with
  | none => rw [hx] at h'; cases h'
  | some q => obtain ⟨a, G1⟩ := q; rw [hx] at h'; exact ⟨a, G1, rfl, h'⟩
theorem mbind_ok {α β : Type} {x : MM α} {k : α → MM β} {G G1 : GH} {a : α} (h : x.1 G = some (a, G1)) : (mbind x k).1 G = (k a).1 G1 := by
  show (match x.1 G with | none => none | some (a, G1) => (k a).1 G1) = _
  rw [h]
/-- what reads and doesn't write -/
def mread {α : Type} (f : GH → Option α) : MM α := ⟨fun G => (f G).map (fun a => (a, G)), fun G r G' h => by
  dsimp only at h
  cases hf : f G with
  | none => rw [hf] at h; cases h
  | some a => rw [hf] at h; cases h; exact gle.rf G⟩
theorem mread_inv {α : Type} {f : GH → Option α} {G : GH} {R : α × GH} (h : (mread f).1 G = some R) : ∃ a, f G = some a ∧ R = (a, G) := by
  have h' : (f G).map (fun a => (a, G)) = some R := h
  cases hf : f G with
  | none => rw [hf] at h'; cases h'
  | some a => rw [hf] at h'; exact ⟨a, rfl, (Option.some.inj h').symm⟩
/-- what writes cells and makes none -/
def mwrite (f : GH → Option (Nat → Option LE)) : MM Unit := ⟨fun G => (f G).map (fun h => ((), (h, G.2))), fun G r G' h => by
  dsimp only at h
  cases hf : f G with
  | none => rw [hf] at h; cases h
  | some a => rw [hf] at h; cases h; exact gle.rf G⟩
theorem mwrite_inv {f : GH → Option (Nat → Option LE)} {G : GH} {R : Unit × GH} (h : (mwrite f).1 G = some R) : ∃ a, f G = some a ∧ R = ((), (a, G.2)) := by
  have h' : (f G).map (fun h => ((), (h, G.2))) = some R := h
  cases hf : f G with
  | none => rw [hf] at h'; cases h'
  | some a => rw [hf] at h'; exact ⟨a, rfl, (Option.some.inj h').symm⟩
/-- a new cell -/
def mnew (f : GH → Option (LE × Nat)) : MM Nat := ⟨fun G => (f G).map (fun e => (G.2.1, (va_up G.1 G.2.1 (some e.1), G.2.1 + 1, G.2.2.1 + 1, G.2.2.2 + e.2))), fun G r G' h => by
  dsimp only at h
  cases hf : f G with
  | none => rw [hf] at h; cases h
  | some a => rw [hf] at h; cases h; exact ⟨Nat.le_succ _, Nat.le_succ _, Nat.le_add_right _ _⟩⟩
theorem mnew_inv {f : GH → Option (LE × Nat)} {G : GH} {R : Nat × GH} (h : (mnew f).1 G = some R) : ∃ e, f G = some e ∧ R = (G.2.1, (va_up G.1 G.2.1 (some e.1), G.2.1 + 1, G.2.2.1 + 1, G.2.2.2 + e.2)) := by
  have h' : (f G).map (fun e => (G.2.1, (va_up G.1 G.2.1 (some e.1), G.2.1 + 1, G.2.2.1 + 1, G.2.2.2 + e.2))) = some R := h
  cases hf : f G with
  | none => rw [hf] at h'; cases h'
  | some a => rw [hf] at h'; exact ⟨a, rfl, (Option.some.inj h').symm⟩
def gobj (a ci : Nat) (G : GH) : Option (List Value) := match G.1 a with
  | some (.inr (c, fs)) => if c = ci then some fs else none
  | _ => none
theorem gobj_inv {a ci : Nat} {G : GH} {fs : List Value} (h : gobj a ci G = some fs) : G.1 a = some (.inr (ci, fs)) := by
  unfold gobj at h
  split at h
  · rename_i c fs' heq
    split at h
    · rename_i hc
      subst hc
      cases h
      exact heq
    · cases h
  · cases h
theorem gobj_ok {a ci : Nat} {G : GH} {fs : List Value} (h : G.1 a = some (.inr (ci, fs))) : gobj a ci G = some fs := by
  unfold gobj
  rw [h]
  simp
def garr (a t : Nat) (G : GH) : Option vp_A := match G.1 a with
  | some (.inl (c, x)) => if c = t then some x else none
  | _ => none
theorem garr_inv {a t : Nat} {G : GH} {x : vp_A} (h : garr a t G = some x) : G.1 a = some (.inl (t, x)) := by
  unfold garr at h
  split at h
  · rename_i c fs' heq
    split at h
    · rename_i hc
      subst hc
      cases h
      exact heq
    · cases h
  · cases h
theorem garr_ok {a t : Nat} {G : GH} {x : vp_A} (h : G.1 a = some (.inl (t, x))) : garr a t G = some x := by
  unfold garr
  rw [h]
  simp
/-! reads and writes of objects -/
def oint (v : Option Value) : Option Int32 := match v with
  | some (.int x) => some x
  | _ => none
theorem oint_inv {v : Option Value} {x : Int32} (h : oint v = some x) : v = some (.int x) := by
  unfold oint at h
  split at h
  · cases h; rfl
  · cases h
def oref (v : Option Value) : Option Nat := match v with
  | some (.ref x) => some x
  | _ => none
theorem oref_inv {v : Option Value} {x : Nat} (h : oref v = some x) : v = some (.ref x) := by
  unfold oref at h
  split at h
  · cases h; rfl
  · cases h
def mchk (a ci : Nat) : MM Unit := mread (fun G => (gobj a ci G).map (fun _ => ()))
def mgi (a ci k : Nat) : MM Int32 := mread (fun G => (gobj a ci G).bind (fun fs => oint fs[k]?))
def mgr (a ci k : Nat) : MM Nat := mread (fun G => (gobj a ci G).bind (fun fs => oref fs[k]?))
def mput (a ci k : Nat) (v : Value) : MM Unit := mwrite (fun G => (gobj a ci G).bind (fun fs => if k < fs.length then some (va_up G.1 a (some (.inr (ci, fs.set k v)))) else none))
/-! arrays: kinds 0 int[], 1 long[], 2 double[], 3 State[], 4 Version[] -/
def aint (x : vp_A) : Option (Nat × (Nat → Int32)) := match x with
  | (n, .inl f) => some (n, f)
  | _ => none
theorem aint_inv {x : vp_A} {n : Nat} {f : Nat → Int32} (h : aint x = some (n, f)) : x = (n, .inl f) := by
  unfold aint at h
  split at h
  · cases h; rfl
  · cases h
def alng (x : vp_A) : Option (Nat × (Nat → Int64)) := match x with
  | (n, .inr (.inl f)) => some (n, f)
  | _ => none
theorem alng_inv {x : vp_A} {n : Nat} {f : Nat → Int64} (h : alng x = some (n, f)) : x = (n, .inr (.inl f)) := by
  unfold alng at h
  split at h
  · cases h; rfl
  · cases h
def adbl (x : vp_A) : Option (Nat × (Nat → UInt64)) := match x with
  | (n, .inr (.inr (.inr (.inl f)))) => some (n, f)
  | _ => none
theorem adbl_inv {x : vp_A} {n : Nat} {f : Nat → UInt64} (h : adbl x = some (n, f)) : x = (n, .inr (.inr (.inr (.inl f)))) := by
  unfold adbl at h
  split at h
  · cases h; rfl
  · cases h
def aref (x : vp_A) : Option (Nat × (Nat → Option Nat)) := match x with
  | (n, .inr (.inr (.inr (.inr f)))) => some (n, f)
  | _ => none
theorem aref_inv {x : vp_A} {n : Nat} {f : Nat → Option Nat} (h : aref x = some (n, f)) : x = (n, .inr (.inr (.inr (.inr f)))) := by
  unfold aref at h
  split at h
  · cases h; rfl
  · cases h
/-- in range, as the machine asks -/
def oin {α : Type} (i : Int32) (n : Nat) (x : α) : Option α := if i < 0 ∨ n ≤ i.toNatClampNeg then none else some x
theorem oin_inv {α : Type} {i : Int32} {n : Nat} {x y : α} (h : oin i n x = some y) : vp_in i n ∧ x = y := by
  unfold oin at h
  split at h
  · cases h
  · rename_i hh
    exact ⟨hh, Option.some.inj h⟩
theorem oin_ok {α : Type} {i : Int32} {n : Nat} (x : α) (h : vp_in i n) : oin i n x = some x := if_neg h
def mlen (a t : Nat) : MM Int32 := mread (fun G => (garr a t G).map (fun x => Int32.ofNat x.1))
def mali (a : Nat) (i : Int32) : MM Int32 := mread (fun G => ((garr a 0 G).bind aint).bind (fun q => oin i q.1 (q.2 i.toNatClampNeg)))
def masi (a : Nat) (i x : Int32) : MM Unit := mwrite (fun G => ((garr a 0 G).bind aint).bind (fun q => oin i q.1 (va_up G.1 a (some (.inl (0, (q.1, .inl (upd q.2 i.toNatClampNeg x))))))))
def mall (a : Nat) (i : Int32) : MM Int64 := mread (fun G => ((garr a 1 G).bind alng).bind (fun q => oin i q.1 (q.2 i.toNatClampNeg)))
def masl (a : Nat) (i : Int32) (x : Int64) : MM Unit := mwrite (fun G => ((garr a 1 G).bind alng).bind (fun q => oin i q.1 (va_up G.1 a (some (.inl (1, (q.1, .inr (.inl (vp_updL q.2 i.toNatClampNeg x)))))))))
def mald (a : Nat) (i : Int32) : MM UInt64 := mread (fun G => ((garr a 2 G).bind adbl).bind (fun q => oin i q.1 (q.2 i.toNatClampNeg)))
def masd (a : Nat) (i : Int32) (x : UInt64) : MM Unit := mwrite (fun G => ((garr a 2 G).bind adbl).bind (fun q => oin i q.1 (va_up G.1 a (some (.inl (2, (q.1, .inr (.inr (.inr (.inl (vf_upd q.2 i.toNatClampNeg x)))))))))))
def malq (a t : Nat) (i : Int32) : MM (Option Nat) := mread (fun G => ((garr a t G).bind aref).bind (fun q => oin i q.1 (q.2 i.toNatClampNeg)))
/-- a reference fits an array of the class ci's objects -/
def ofit (ci : Nat) (r : Option Nat) (G : GH) : Option Unit := match r with
  | none => some ()
  | some v => (gobj v ci G).map (fun _ => ())
def masq (a t ci : Nat) (i : Int32) (r : Option Nat) : MM Unit := mwrite (fun G => (ofit ci r G).bind (fun _ => ((garr a t G).bind aref).bind (fun q => oin i q.1 (va_up G.1 a (some (.inl (t, (q.1, .inr (.inr (.inr (.inr (va_up q.2 i.toNatClampNeg r))))))))))))
def mcopy (a0 : Nat) (sp : Int32) (a : Nat) (dp n : Int32) : MM Unit := mwrite (fun G => ((garr a0 0 G).bind aint).bind (fun q0 => ((garr a 0 G).bind aint).bind (fun q =>
  if ¬ sp < 0 ∧ ¬ dp < 0 ∧ ¬ n < 0 ∧ sp.toNatClampNeg + n.toNatClampNeg ≤ q0.1 ∧ dp.toNatClampNeg + n.toNatClampNeg ≤ q.1 ∧ a0 ≠ a then some (va_up G.1 a (some (.inl (0, (q.1, .inl (va_cpy q0.2 q.2 sp.toNatClampNeg dp.toNatClampNeg n.toNatClampNeg)))))) else none)))
def mnewo (ci : Nat) (fs : List Value) (k : Nat) : MM Nat := mnew (fun _ => some (.inr (ci, fs), k))
def mnewi (n : Int32) : MM Nat := mnew (fun _ => if ¬ n < 0 ∧ n.toNatClampNeg ≤ 134217728 then some (.inl (0, (n.toNatClampNeg, .inl (fun _ => 0))), n.toNatClampNeg) else none)
def mnewq (t : Nat) (n : Int32) : MM Nat := mnew (fun _ => if ¬ n < 0 ∧ n.toNatClampNeg ≤ 134217728 then some (.inl (t, (n.toNatClampNeg, .inr (.inr (.inr (.inr (fun _ => none)))))), n.toNatClampNeg) else none)
def mnewl (n : Int32) : MM Nat := mnew (fun _ => if ¬ n < 0 ∧ n.toNatClampNeg ≤ 1024 then some (.inl (1, (n.toNatClampNeg, .inr (.inl (fun _ => 0)))), n.toNatClampNeg) else none)
def mnewd (n : Int32) : MM Nat := mnew (fun _ => if ¬ n < 0 ∧ n.toNatClampNeg ≤ 1024 then some (.inl (2, (n.toNatClampNeg, .inr (.inr (.inr (.inl (fun _ => 0)))))), n.toNatClampNeg) else none)
/-- the reference isn't null -/
def mnn (r : Option Nat) : MM Nat := mread (fun _ => r)
def mbool (r : Int32) : MM Unit := mread (fun _ => if r = 0 ∨ r = 1 then some () else none)
def mguard (p : Prop) [Decidable p] : MM Unit := mread (fun _ => if p then some () else none)
/-! what may throw: .inl the exception's class, .inr the answer -/
abbrev MX (α : Type) : Type := MM (String ⊕ α)
/-- a throw: one cell and six slots are made; the map stays -/
def mthrow {α : Type} (E : String) : MX α := ⟨fun G => some (.inl E, (G.1, G.2.1 + 1, G.2.2.1 + 1, G.2.2.2 + 6)), fun G r G' h => by cases h; exact ⟨Nat.le_succ _, Nat.le_succ _, Nat.le_add_right _ _⟩⟩
def xpure {α : Type} (a : α) : MX α := mpure (.inr a)
def xbind {α β : Type} (x : MX α) (k : α → MX β) : MX β := mbind x (fun r => match r with | .inl E => mpure (.inl E) | .inr a => k a)
theorem xbind_inv {α β : Type} {x : MX α} {k : α → MX β} {G : GH} {R : (String ⊕ β) × GH} (h : (xbind x k).1 G = some R) : (∃ E G1, x.1 G = some (.inl E, G1) ∧ R = (.inl E, G1)) ∨ ∃ a G1, x.1 G = some (.inr a, G1) ∧ (k a).1 G1 = some R := by
  obtain ⟨r, G1, h1, h2⟩ := mbind_inv h
  cases r with
  | inl E => exact Or.inl ⟨E, G1, h1, (Option.some.inj h2).symm⟩
  | inr a => exact Or.inr ⟨a, G1, h1, h2⟩
theorem xbind_ok {α β : Type} {x : MX α} {k : α → MX β} {G G1 : GH} {a : α} (h : x.1 G = some (.inr a, G1)) : (xbind x k).1 G = (k a).1 G1 := mbind_ok h
theorem xbind_out {α β : Type} {x : MX α} {k : α → MX β} {G G1 : GH} {E : String} (h : x.1 G = some (.inl E, G1)) : (xbind x k).1 G = some (.inl E, G1) := mbind_ok h
/-- a plain program among throwing ones -/
def xlift {α β : Type} (x : MM α) (k : α → MX β) : MX β := mbind x k
/-! answers as the machine has them -/
def cI (F : MM Int32) : MM (Option Value) := mbind F (fun x => mpure (some (.int x)))
def cL (F : MM Int64) : MM (Option Value) := mbind F (fun x => mpure (some (.long x)))
def cD (F : MM UInt64) : MM (Option Value) := mbind F (fun x => mpure (some (.double x)))
def cV (F : MM Unit) : MM (Option Value) := mbind F (fun _ => mpure none)
def cR (F : MM Nat) : MM (Option Value) := mbind F (fun a => mpure (some (.ref a)))
def xI (F : MX Int32) : MX (Option Value) := xbind F (fun x => xpure (some (.int x)))
def xD (F : MX UInt64) : MX (Option Value) := xbind F (fun x => xpure (some (.double x)))
def xV (F : MX Unit) : MX (Option Value) := xbind F (fun _ => xpure none)
/-- a test against null -/
def mnull {ρ : Type} (r : Option Nat) (A : MM ρ) (C : Nat → MM ρ) : MM ρ := match r with
  | none => A
  | some a => C a
def FU : Nat := 5000
