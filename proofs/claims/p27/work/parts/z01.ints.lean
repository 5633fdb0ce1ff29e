/-! PURE PART 1: ints by their whole numbers; evaluating partial programs by rewriting -/
def iI (z : Int) : Int32 := Int32.ofInt z
theorem iI_T {z : Int} (h1 : -2147483648 ≤ z) (h2 : z < 2147483648) : (iI z).toInt = z := by
  unfold iI
  exact Int32.toInt_ofInt_of_le h1 h2
theorem iI_add (a b : Int) : iI a + iI b = iI (a + b) := (Int32.ofInt_add a b).symm
theorem iI_sub (a b : Int) : iI a - iI b = iI (a - b) := (Int32.ofInt_sub a b).symm
theorem iI_mul (a b : Int) : iI a * iI b = iI (a * b) := (Int32.ofInt_mul a b).symm
theorem iI_neg (a : Int) : -(iI a) = iI (-a) := (Int32.ofInt_neg a).symm
theorem iI_lt {a b : Int} (h1 : -2147483648 ≤ a) (h2 : a < 2147483648) (h3 : -2147483648 ≤ b) (h4 : b < 2147483648) : (iI a < iI b) = (a < b) := by
  rw [Int32.lt_iff_toInt_lt, iI_T h1 h2, iI_T h3 h4]
theorem iI_le {a b : Int} (h1 : -2147483648 ≤ a) (h2 : a < 2147483648) (h3 : -2147483648 ≤ b) (h4 : b < 2147483648) : (iI a ≤ iI b) = (a ≤ b) := by
  rw [Int32.le_iff_toInt_le, iI_T h1 h2, iI_T h3 h4]
theorem iI_eq {a b : Int} (h1 : -2147483648 ≤ a) (h2 : a < 2147483648) (h3 : -2147483648 ≤ b) (h4 : b < 2147483648) : (iI a = iI b) = (a = b) := by
  rw [← Int32.toInt_inj, iI_T h1 h2, iI_T h3 h4]
theorem iI_cl {a : Int} (h1 : 0 ≤ a) (h2 : a < 2147483648) : (iI a).toNatClampNeg = a.toNat := by
  show (iI a).toInt.toNat = _
  rw [iI_T (by omega) h2]
theorem iI_nat (n : Nat) : nI n = iI (n : Int) := by
  unfold nI iI
  exact (Int32.ofInt_eq_ofNat).symm
theorem iI_ofNat (n : Nat) : Int32.ofNat n = iI (n : Int) := iI_nat n
theorem iI_div {a b : Int} (h1 : 0 ≤ a) (h2 : a < 2147483648) (h3 : 0 < b) (h4 : b < 2147483648) : iI a / iI b = iI (a / b) := by
  apply Int32.toInt_inj.mp
  have hb : (iI b).toInt = b := iI_T (by omega) h4
  have ha : (iI a).toInt = a := iI_T (by omega) h2
  have hq : a / b ≤ a := Int.ediv_le_self _ h1
  have hq0 : 0 ≤ a / b := Int.ediv_nonneg h1 (by omega)
  rw [iI_T (by omega) (by omega)]
  rw [Int32.toInt_div_of_ne_left _ _ (by
    intro h
    have := congrArg Int32.toInt h
    rw [ha] at this
    rw [show (Int32.minValue).toInt = -2147483648 from rfl] at this
    omega), ha, hb]
  exact Int.tdiv_eq_ediv_of_nonneg h1
theorem iI_max {a b : Int} (h1 : -2147483648 ≤ a) (h2 : a < 2147483648) (h3 : -2147483648 ≤ b) (h4 : b < 2147483648) : (if iI a < iI b then iI b else iI a) = iI (max a b) := by
  simp only [iI_lt h1 h2 h3 h4]
  split <;> congr 1 <;> omega
theorem iI_min {a b : Int} (h1 : -2147483648 ≤ a) (h2 : a < 2147483648) (h3 : -2147483648 ≤ b) (h4 : b < 2147483648) : (if iI b < iI a then iI b else iI a) = iI (min a b) := by
  simp only [iI_lt h3 h4 h1 h2]
  split <;> congr 1 <;> omega
theorem lz0 : (0 : Int32) = iI 0 := rfl
theorem lz1 : (1 : Int32) = iI 1 := rfl
theorem lz2 : (2 : Int32) = iI 2 := rfl
theorem lz3 : (3 : Int32) = iI 3 := rfl
theorem lz4 : (4 : Int32) = iI 4 := rfl
theorem lz5 : (5 : Int32) = iI 5 := rfl
theorem lz6 : (6 : Int32) = iI 6 := rfl
theorem lz7 : (7 : Int32) = iI 7 := rfl
theorem lz8 : (8 : Int32) = iI 8 := rfl
theorem lz9 : (9 : Int32) = iI 9 := rfl
theorem lz10 : (10 : Int32) = iI 10 := rfl
theorem lz40 : (40 : Int32) = iI 40 := rfl
theorem lz100 : (100 : Int32) = iI 100 := rfl
theorem lzm1 : (-1 : Int32) = iI (-1) := rfl
/-! evaluating partial programs -/
theorem mb_assoc {α β γ : Type} (x : MM α) (k : α → MM β) (h : β → MM γ) : mbind (mbind x k) h = mbind x (fun a => mbind (k a) h) := by
  apply Subtype.ext
  funext G
  show (match (match x.1 G with | none => none | some (a, G1) => (k a).1 G1) with | none => none | some (b, G1) => (h b).1 G1) = (match x.1 G with | none => none | some (a, G1) => (mbind (k a) h).1 G1)
  cases x.1 G with
  | none => rfl
  | some q => rfl
theorem mb_pure {α β : Type} (a : α) (k : α → MM β) : mbind (mpure a) k = k a := rfl
theorem mb_ite {α β : Type} {c : Prop} [Decidable c] (x y : MM α) (k : α → MM β) : mbind (if c then x else y) k = if c then mbind x k else mbind y k := by split <;> rfl
theorem ite_run {α : Type} {c : Prop} [Decidable c] (x y : MM α) (G : GH) : (if c then x else y).1 G = if c then x.1 G else y.1 G := by split <;> rfl
theorem pure_run {α : Type} (a : α) (G : GH) : (mpure a).1 G = some (a, G) := rfl
/-- what is read of a cell, if it is of the kind -/
def gint (o : Option LE) (ci k : Nat) : Option Int32 := match o with
  | some (.inr (c, fs)) => if c = ci then oint fs[k]? else none
  | _ => none
def gref (o : Option LE) (ci k : Nat) : Option Nat := match o with
  | some (.inr (c, fs)) => if c = ci then oref fs[k]? else none
  | _ => none
def gput (o : Option LE) (ci k : Nat) (v : Value) : Option LE := match o with
  | some (.inr (c, fs)) => if c = ci then (if k < fs.length then some (.inr (c, fs.set k v)) else none) else none
  | _ => none
def gis (o : Option LE) (ci : Nat) : Bool := match o with
  | some (.inr (c, _)) => decide (c = ci)
  | _ => false
/-- an int array, an array of references -/
def ic (n : Nat) (f : Nat → Int32) : LE := .inl (0, (n, .inl f))
def qc (t n : Nat) (f : Nat → Option Nat) : LE := .inl (t, (n, .inr (.inr (.inr (.inr f)))))
def gai (o : Option LE) : Option (Nat × (Nat → Int32)) := match o with
  | some (.inl (0, (n, .inl f))) => some (n, f)
  | _ => none
def gaq (o : Option LE) (t : Nat) : Option (Nat × (Nat → Option Nat)) := match o with
  | some (.inl (t', (n, .inr (.inr (.inr (.inr f)))))) => if t' = t then some (n, f) else none
  | _ => none
theorem gai_ic (n : Nat) (f : Nat → Int32) : gai (some (ic n f)) = some (n, f) := rfl
theorem gaq_qc (t n : Nat) (f : Nat → Option Nat) : gaq (some (qc t n f)) t = some (n, f) := by simp [gaq, qc]
theorem mbind_no {α β : Type} {x : MM α} {k : α → MM β} {G : GH} (h : x.1 G = none) : (mbind x k).1 G = none := by
  show (match x.1 G with | none => none | some (a, G1) => (k a).1 G1) = _
  rw [h]
theorem mb_read {α β : Type} (f : GH → Option α) (K : α → MM β) (G : GH) : (mbind (mread f) K).1 G = (f G).elim none (fun x => (K x).1 G) := by
  cases h : f G with
  | none =>
    have e : (mread f).1 G = none := by
      show (f G).map (fun a => (a, G)) = none
      rw [h]; rfl
    rw [mbind_no e]; rfl
  | some a =>
    have e : (mread f).1 G = some (a, G) := by
      show (f G).map (fun a => (a, G)) = _
      rw [h]; rfl
    rw [mbind_ok e]; rfl
theorem mb_write {β : Type} (f : GH → Option (Nat → Option LE)) (K : Unit → MM β) (G : GH) : (mbind (mwrite f) K).1 G = (f G).elim none (fun h => (K ()).1 (h, G.2)) := by
  cases h : f G with
  | none =>
    have e : (mwrite f).1 G = none := by
      show (f G).map (fun h => ((), (h, G.2))) = none
      rw [h]; rfl
    rw [mbind_no e]; rfl
  | some a =>
    have e : (mwrite f).1 G = some ((), (a, G.2)) := by
      show (f G).map (fun h => ((), (h, G.2))) = _
      rw [h]; rfl
    rw [mbind_ok e]; rfl
section Ev
variable {β : Type} (G : GH)
theorem ev_gi (a ci k : Nat) (K : Int32 → MM β) : (mbind (mgi a ci k) K).1 G = (gint (G.1 a) ci k).elim none (fun x => (K x).1 G) := by
  refine (mb_read _ K G).trans ?_
  congr 1
  unfold gobj gint
  cases G.1 a with
  | none => rfl
  | some e =>
    cases e with
    | inl e => rfl
    | inr e =>
      obtain ⟨c, fs⟩ := e
      by_cases hc : c = ci <;> simp [hc]
theorem ev_gr (a ci k : Nat) (K : Nat → MM β) : (mbind (mgr a ci k) K).1 G = (gref (G.1 a) ci k).elim none (fun x => (K x).1 G) := by
  refine (mb_read _ K G).trans ?_
  congr 1
  unfold gobj gref
  cases G.1 a with
  | none => rfl
  | some e =>
    cases e with
    | inl e => rfl
    | inr e =>
      obtain ⟨c, fs⟩ := e
      by_cases hc : c = ci <;> simp [hc]
theorem ev_chk (a ci : Nat) (K : Unit → MM β) : (mbind (mchk a ci) K).1 G = if gis (G.1 a) ci = true then (K ()).1 G else none := by
  refine (mb_read _ K G).trans ?_
  unfold gobj gis
  cases G.1 a with
  | none => rfl
  | some e =>
    cases e with
    | inl e => rfl
    | inr e =>
      obtain ⟨c, fs⟩ := e
      by_cases hc : c = ci <;> simp [hc]
theorem ev_put (a ci k : Nat) (v : Value) (K : Unit → MM β) : (mbind (mput a ci k v) K).1 G = (gput (G.1 a) ci k v).elim none (fun e => (K ()).1 (va_up G.1 a (some e), G.2)) := by
  refine (mb_write _ K G).trans ?_
  unfold gobj gput
  cases G.1 a with
  | none => rfl
  | some e =>
    cases e with
    | inl e => rfl
    | inr e =>
      obtain ⟨c, fs⟩ := e
      by_cases hc : c = ci
      · subst hc
        by_cases hk : k < fs.length <;> simp [hk]
      · simp [hc]
theorem ev_len (a t : Nat) (K : Int32 → MM β) : (mbind (mlen a t) K).1 G = (garr a t G).elim none (fun x => (K (iI (x.1 : Int))).1 G) := by
  refine (mb_read _ K G).trans ?_
  cases garr a t G with
  | none => rfl
  | some x => simp [iI_ofNat]
theorem gai_arr (a : Nat) : (garr a 0 G).bind aint = gai (G.1 a) := by
  unfold garr gai
  cases G.1 a with
  | none => rfl
  | some e =>
    cases e with
    | inr e => rfl
    | inl e =>
      obtain ⟨t, n, f | f | f | f | f⟩ := e <;> by_cases ht : t = 0 <;> simp [ht, aint]
theorem gaq_arr (a t : Nat) : (garr a t G).bind aref = gaq (G.1 a) t := by
  unfold garr gaq
  cases G.1 a with
  | none => rfl
  | some e =>
    cases e with
    | inr e => rfl
    | inl e =>
      obtain ⟨t', n, f | f | f | f | f⟩ := e <;> by_cases ht : t' = t <;> simp [ht, aref]
theorem ev_ali (a : Nat) (i : Int32) (K : Int32 → MM β) : (mbind (mali a i) K).1 G = (gai (G.1 a)).elim none (fun q => if i < 0 ∨ q.1 ≤ i.toNatClampNeg then none else (K (q.2 i.toNatClampNeg)).1 G) := by
  refine (mb_read _ K G).trans ?_
  rw [gai_arr]
  cases gai (G.1 a) with
  | none => rfl
  | some q => by_cases hi : i < 0 ∨ q.1 ≤ i.toNatClampNeg <;> simp [oin, hi]
theorem ev_asi (a : Nat) (i x : Int32) (K : Unit → MM β) : (mbind (masi a i x) K).1 G = (gai (G.1 a)).elim none (fun q => if i < 0 ∨ q.1 ≤ i.toNatClampNeg then none else (K ()).1 (va_up G.1 a (some (ic q.1 (upd q.2 i.toNatClampNeg x))), G.2)) := by
  refine (mb_write _ K G).trans ?_
  rw [gai_arr]
  cases gai (G.1 a) with
  | none => rfl
  | some q => by_cases hi : i < 0 ∨ q.1 ≤ i.toNatClampNeg <;> simp [oin, hi, ic]
theorem ev_alq (a t : Nat) (i : Int32) (K : Option Nat → MM β) : (mbind (malq a t i) K).1 G = (gaq (G.1 a) t).elim none (fun q => if i < 0 ∨ q.1 ≤ i.toNatClampNeg then none else (K (q.2 i.toNatClampNeg)).1 G) := by
  refine (mb_read _ K G).trans ?_
  rw [gaq_arr]
  cases gaq (G.1 a) t with
  | none => rfl
  | some q => by_cases hi : i < 0 ∨ q.1 ≤ i.toNatClampNeg <;> simp [oin, hi]
def gfit (o : Option Nat) (G : GH) (ci : Nat) : Bool := match o with
  | none => true
  | some v => gis (G.1 v) ci
theorem ev_asq (a t ci : Nat) (i : Int32) (r : Option Nat) (K : Unit → MM β) : (mbind (masq a t ci i r) K).1 G = if gfit r G ci = true then (gaq (G.1 a) t).elim none (fun q => if i < 0 ∨ q.1 ≤ i.toNatClampNeg then none else (K ()).1 (va_up G.1 a (some (qc t q.1 (va_up q.2 i.toNatClampNeg r))), G.2)) else none := by
  refine (mb_write _ K G).trans ?_
  rw [gaq_arr]
  have aux : ∀ o : Option LE, ((match o with | some (.inr (c, fs)) => if c = ci then some fs else none | _ => none : Option (List Value)).map (fun _ => ())) = if gis o ci = true then some () else none := by
    intro o
    unfold gis
    cases o with
    | none => rfl
    | some e =>
      cases e with
      | inl e => rfl
      | inr e =>
        obtain ⟨c, fs⟩ := e
        by_cases hc : c = ci <;> simp [hc]
  have hg : ofit ci r G = if gfit r G ci = true then some () else none := by
    cases r with
    | none => rfl
    | some v => exact aux (G.1 v)
  rw [hg]
  by_cases hv : gfit r G ci = true
  · simp only [hv, if_true, Option.bind_some]
    cases gaq (G.1 a) t with
    | none => rfl
    | some q => by_cases hi : i < 0 ∨ q.1 ≤ i.toNatClampNeg <;> simp [oin, hi, qc]
  · simp [hv]
theorem ev_newo (ci k : Nat) (fs : List Value) (K : Nat → MM β) : (mbind (mnewo ci fs k) K).1 G = (K G.2.1).1 (va_up G.1 G.2.1 (some (.inr (ci, fs))), G.2.1 + 1, G.2.2.1 + 1, G.2.2.2 + k) := rfl
theorem ev_newi (n : Int32) (h : ¬ n < 0 ∧ n.toNatClampNeg ≤ 134217728) (K : Nat → MM β) : (mbind (mnewi n) K).1 G = (K G.2.1).1 (va_up G.1 G.2.1 (some (ic n.toNatClampNeg (fun _ => 0))), G.2.1 + 1, G.2.2.1 + 1, G.2.2.2 + n.toNatClampNeg) := by
  refine mbind_ok ?_
  show (if ¬ n < 0 ∧ n.toNatClampNeg ≤ 134217728 then some _ else none : Option (LE × Nat)).map _ = _
  rw [if_pos h]
  rfl
theorem ev_newq (t : Nat) (n : Int32) (h : ¬ n < 0 ∧ n.toNatClampNeg ≤ 134217728) (K : Nat → MM β) : (mbind (mnewq t n) K).1 G = (K G.2.1).1 (va_up G.1 G.2.1 (some (qc t n.toNatClampNeg (fun _ => none))), G.2.1 + 1, G.2.2.1 + 1, G.2.2.2 + n.toNatClampNeg) := by
  refine mbind_ok ?_
  show (if ¬ n < 0 ∧ n.toNatClampNeg ≤ 134217728 then some _ else none : Option (LE × Nat)).map _ = _
  rw [if_pos h]
  rfl
theorem ev_bool (r : Int32) (K : Unit → MM β) : (mbind (mbool r) K).1 G = if r = 0 ∨ r = 1 then (K ()).1 G else none := by
  refine (mb_read _ K G).trans ?_
  split <;> rfl
theorem ev_copy (a0 a : Nat) (sp dp n : Int32) (K : Unit → MM β) (q0 q : Nat × (Nat → Int32)) (h0 : gai (G.1 a0) = some q0) (h1 : gai (G.1 a) = some q) (hc : ¬ sp < 0 ∧ ¬ dp < 0 ∧ ¬ n < 0 ∧ sp.toNatClampNeg + n.toNatClampNeg ≤ q0.1 ∧ dp.toNatClampNeg + n.toNatClampNeg ≤ q.1 ∧ a0 ≠ a) : (mbind (mcopy a0 sp a dp n) K).1 G = (K ()).1 (va_up G.1 a (some (ic q.1 (va_cpy q0.2 q.2 sp.toNatClampNeg dp.toNatClampNeg n.toNatClampNeg))), G.2) := by
  refine mbind_ok ?_
  show (((garr a0 0 G).bind aint).bind (fun q0 => ((garr a 0 G).bind aint).bind _)).map _ = _
  rw [gai_arr, gai_arr, h0, h1, Option.bind_some, Option.bind_some, if_pos hc]
  rfl
end Ev
theorem up_idem {α : Type} (f : Nat → α) (k : Nat) (v w : α) : va_up (va_up f k v) k w = va_up f k w := by
  funext j
  by_cases h : j = k <;> simp [va_up, h]
theorem up_self {α : Type} (f : Nat → α) (k : Nat) (v : α) : va_up f k v k = v := by simp [va_up]
theorem up_ne {α : Type} (f : Nat → α) {k j : Nat} (v : α) (h : j ≠ k) : va_up f k v j = f j := by simp [va_up, h]
theorem up_comm {α : Type} (f : Nat → α) {k j : Nat} (v w : α) (h : j ≠ k) : va_up (va_up f k v) j w = va_up (va_up f j w) k v := by
  funext i
  by_cases h1 : i = j
  · subst h1
    simp [va_up, h]
  · by_cases h2 : i = k
    · subst h2
      simp [va_up, h1]
    · simp [va_up, h1, h2]
