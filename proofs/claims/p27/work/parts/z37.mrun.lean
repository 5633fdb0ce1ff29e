/-! PURE PART 37: run, stalls, worstWith, leastRate of the reference -/
def stC (s : SS) (a : Nat) : Nat → Int
  | 0 => 0
  | n + 1 => stC s a n + if 0 < (s.2.2.2 (a + n)).1 9 then 1 else 0
def mxC (s : SS) (a : Nat) : Nat → Int
  | 0 => 0
  | n + 1 => max (mxC s a n) ((s.2.2.2 (a + n)).1 8)
/-- all acts that were read, from a version on -/
def allF (s : SS) (t : TT) (v : Nat) : SS × Nat := dA t.2.2.2.2.1 t.2.2.2.2.2 t.2.2.2.1 0 s v
/-- what the acts would be with a rate: those that stall, or the greatest cost -/
def wbF (s : SS) (t : TT) (v : Nat) (rate : Int) (q : Bool) : Int := if q = true then stC (allF (sSet s 0 rate) t v).1 s.2.2.1 (allF (sSet s 0 rate) t v).2 else mxC (allF (sSet s 0 rate) t v).1 s.2.2.1 (allF (sSet s 0 rate) t v).2
def lrF (s : SS) (t : TT) (v : Nat) : Nat → Nat → Int
  | 0, _ => -1
  | d + 1, r => if wbF s t v r true = 0 then r else lrF s t v d (r + 1)
theorem stC_b (s : SS) (a : Nat) : ∀ n, 0 ≤ stC s a n ∧ stC s a n ≤ n
  | 0 => by unfold stC; omega
  | n + 1 => by
    have := stC_b s a n
    unfold stC
    split <;> omega
theorem mxC_b {s : SS} (hs : SI s) (a : Nat) : ∀ n, a + n ≤ s.2.2.1 → 0 ≤ mxC s a n ∧ mxC s a n ≤ 300
  | 0, _ => by unfold mxC; omega
  | n + 1, h => by
    have h1 := mxC_b hs a n (by omega)
    have h2 := (hs.2.2.2 (a + n) (by omega)).1
    unfold VBn at h2
    unfold mxC
    omega
theorem wt_kv {w : WW} (hw : WI w) : (wT w).2.2.2.2.1 ≤ 50 ∧ KV (wT w).2.2.2.2.1 (wT w).2.2.2.2.2.1 (wT w).2.2.2.2.2.2 := by
  have h := tok_run w.2.2.2.2 w.2.2.2.1 0 0 tt0 (tok_mk (ks := fun _ => 0) (vs := fun _ => 0) (by decide) (by decide) (fun hh => absurd rfl hh) (fun hh => absurd hh (by decide)) (fun hh => absurd hh (by decide)) (fun hh => absurd hh (by decide)) (fun hh => absurd hh (by decide)) (fun j hj => absurd hj (by omega)))
  have h1 := hw.2.2.2.1
  refine ⟨?_, h.2⟩
  have h2 := h.1
  unfold wT
  omega
theorem si_set0 {s : SS} (hs : SI s) {r : Int} (h : 1 ≤ r ∧ r ≤ 9) : SI (sSet s 0 r) := si_set hs (decide_eq_true (Or.inl ⟨rfl, h⟩))
def tRate (w : WW) (a r : Int) : Int := if inV w.1 a = true then (if 1 ≤ r ∧ r ≤ 9 then (if (wT w).1 = -1 then 0 else 3) else 2) else 1
def tLeast (w : WW) (a : Int) : Int := if inV w.1 a = true then (if (wT w).1 = -1 then 0 else 2) else 1
theorem wt_pos (bt : Nat → Int) : ∀ d m st t, -1 ≤ (tRun bt d m st t).1 ∧ (tRun bt d m st t).1 ≤ m + d
  | 0, m, st, t => by
    unfold tRun
    dsimp only
    split <;> omega
  | d + 1, m, st, t => by
    unfold tRun
    split
    · dsimp only
      omega
    · have := wt_pos bt d (m + 1) (tNext st t (bt m)).1 (tNext st t (bt m)).2
      omega
