/-! LAW, numbers 2: ways to version 0, the latest common ancestor, the greatest and the summed costs; like rows; a double beside itself. -/
def itp (s : SS) : Nat → Nat → Nat
  | 0, v => v
  | n + 1, v => itp s n (par s v)
def anc (s : SS) (c v : Nat) : Prop := ∃ n, itp s n v = c
theorem anc_rf (s : SS) (v : Nat) : anc s v v := ⟨0, rfl⟩
theorem anc_st {s : SS} {c v : Nat} (h : anc s c v) (hn : c ≠ v) : anc s c (par s v) := by
  obtain ⟨n, h⟩ := h
  cases n with
  | zero => exact absurd h.symm hn
  | succ n => exact ⟨n, h⟩
theorem anc_up {s : SS} {c v : Nat} (h : anc s c (par s v)) : anc s c v := by
  obtain ⟨n, h⟩ := h
  exact ⟨n + 1, h⟩
theorem par_00 {s : SS} (hs : SI s) : par s 0 = 0 := by
  unfold par
  rw [(par_0 (L := 1) (by decide) hs).1]
  rfl
theorem par_lt2 {s : SS} (hs : SI s) {v : Nat} (hv : v < s.2.2.1) (h0 : 0 < v) : par s v < v := (par_dep hs hv h0).2.1
theorem par_ltN {s : SS} (hs : SI s) {v : Nat} (hv : v < s.2.2.1) : par s v < s.2.2.1 := by
  by_cases h0 : 0 < v
  · have := par_lt2 hs hv h0
    omega
  · have e : v = 0 := by omega
    rw [e, par_00 hs]
    omega
theorem anc_le {s : SS} (hs : SI s) {c : Nat} : ∀ n v, v < s.2.2.1 → itp s n v = c → c ≤ v
  | 0, v, _, h => Nat.le_of_eq h.symm
  | n + 1, v, hv, h => by
    have h2 : itp s n (par s v) = c := h
    have h1 := anc_le hs n (par s v) (par_ltN hs hv) h2
    by_cases h0 : 0 < v
    · have := par_lt2 hs hv h0
      omega
    · have e : v = 0 := by omega
      rw [e, par_00 hs] at h1
      omega
theorem anc_anti {s : SS} (hs : SI s) {a b : Nat} (ha : a < s.2.2.1) (hb : b < s.2.2.1) (h : anc s a b) (k : anc s b a) : a = b := by
  obtain ⟨n, h⟩ := h
  obtain ⟨m, k⟩ := k
  have h1 := anc_le hs n b hb h
  have h2 := anc_le hs m a ha k
  omega
def dep (s : SS) (v : Nat) : Int := (s.2.2.2 v).1 3
theorem dep_0 {s : SS} (hs : SI s) : dep s 0 = 0 := by
  have h := (hs.2.2.2 0 (by have := hs.2.2.1; omega)).2.2.1 rfl
  unfold dep
  rw [h]
  rfl
theorem dep_s {s : SS} (hs : SI s) {v : Nat} (hv : v < s.2.2.1) (h0 : 0 < v) : dep s v = dep s (par s v) + 1 := (par_dep hs hv h0).2.2.1
theorem dep_b2 {s : SS} (hs : SI s) {v : Nat} (hv : v < s.2.2.1) : 0 ≤ dep s v ∧ dep s v ≤ v := dep_b hs hv
theorem anc_dep {s : SS} (hs : SI s) {c : Nat} : ∀ n v, v < s.2.2.1 → itp s n v = c → dep s c ≤ dep s v ∧ (dep s c = dep s v → c = v)
  | 0, v, _, h => by
    have e : v = c := h
    rw [e]
    exact ⟨Int.le_refl _, fun _ => rfl⟩
  | n + 1, v, hv, h => by
    have h2 : itp s n (par s v) = c := h
    by_cases h0 : 0 < v
    · have h1 := anc_dep hs n (par s v) (par_ltN hs hv) h2
      have h3 := dep_s hs hv h0
      exact ⟨by omega, fun e => by omega⟩
    · have e : v = 0 := by omega
      rw [e] at h2 hv ⊢
      have h3 := anc_le hs n _ (par_ltN hs hv) h2
      rw [par_00 hs] at h3
      have e2 : c = 0 := by omega
      rw [e2]
      exact ⟨Int.le_refl _, fun _ => rfl⟩
/-- the latest common ancestor -/
def LC (s : SS) (r a b : Nat) : Prop := anc s r a ∧ anc s r b ∧ ∀ c, anc s c a → anc s c b → anc s c r
theorem LC.sym {s : SS} {r a b : Nat} (h : LC s r a b) : LC s r b a := ⟨h.2.1, h.1, fun c x y => h.2.2 c y x⟩
theorem LC.N {s : SS} (hs : SI s) {r a b : Nat} (ha : a < s.2.2.1) (h : LC s r a b) : r < s.2.2.1 := by
  obtain ⟨n, h1⟩ := h.1
  have := anc_le hs n a ha h1
  omega
theorem LC.one {s : SS} (hs : SI s) {r r' a b : Nat} (ha : a < s.2.2.1) (h : LC s r a b) (k : LC s r' a b) : r = r' :=
  anc_anti hs (h.N hs ha) (k.N hs ha) (k.2.2 r h.1 h.2.1) (h.2.2 r' k.1 k.2.1)
theorem lc_self (s : SS) (a : Nat) : LC s a a a := ⟨anc_rf s a, anc_rf s a, fun _ h _ => h⟩
theorem lc_l {s : SS} {r a b : Nat} (h : LC s r (par s a) b) (hn : ∀ c, anc s c a → anc s c b → c ≠ a) : LC s r a b := ⟨anc_up h.1, h.2.1, fun c x y => h.2.2 c (anc_st x (hn c x y)) y⟩
theorem lc_r {s : SS} {r a b : Nat} (h : LC s r a (par s b)) (hn : ∀ c, anc s c a → anc s c b → c ≠ b) : LC s r a b := (lc_l h.sym (fun c x y => hn c y x)).sym
theorem mtF_lc {s : SS} (hs : SI s) : ∀ f a b, a < s.2.2.1 → b < s.2.2.1 → a + b < f → LC s (mtF s f a b) a b
  | 0, _, _, _, _, h => absurd h (by omega)
  | f + 1, a, b, ha, hb, h => by
    unfold mtF
    by_cases e : a = b
    · rw [if_pos e, ← e]
      exact lc_self s a
    · rw [if_neg e]
      by_cases hab : a ≤ b
      · rw [if_pos hab]
        have hp := par_lt2 hs hb (by omega)
        refine lc_r (mtF_lc hs f a (par s b) ha (par_ltN hs hb) (by omega)) (fun c x y ec => ?_)
        obtain ⟨n, x⟩ := x
        have := anc_le hs n a ha x
        omega
      · rw [if_neg hab]
        have hp := par_lt2 hs ha (by omega)
        refine lc_l (mtF_lc hs f (par s a) b (par_ltN hs ha) hb (by omega)) (fun c x y ec => ?_)
        obtain ⟨n, y⟩ := y
        have := anc_le hs n b hb y
        omega
/-- one step of the way by depths -/
theorem dp_l {s : SS} (hs : SI s) {r a b : Nat} (ha : a < s.2.2.1) (hb : b < s.2.2.1) (hab : a ≠ b) (hd : dep s b ≤ dep s a) (h : LC s r (par s a) b) : LC s r a b := lc_l h (fun c x y ec => by
  subst ec
  obtain ⟨n, y⟩ := y
  have h1 := anc_dep hs n b hb y
  exact hab (h1.2 (by omega)))
theorem dp_r {s : SS} (hs : SI s) {r a b : Nat} (ha : a < s.2.2.1) (hb : b < s.2.2.1) (hab : a ≠ b) (hd : dep s a ≤ dep s b) (h : LC s r a (par s b)) : LC s r a b := (dp_l hs hb ha (fun e => hab e.symm) hd h.sym).sym
theorem dp_0 {s : SS} (hs : SI s) {a b : Nat} (ha : a < s.2.2.1) (hb : b < s.2.2.1) (hab : a ≠ b) (hd : dep s b ≤ dep s a) : 0 < a := by
  by_cases h : 0 < a
  · exact h
  · exfalso
    have e : a = 0 := by omega
    rw [e, dep_0 hs] at hd
    have h1 := dep_s hs hb (by omega)
    have h2 := dep_b2 hs (par_ltN hs hb)
    omega
theorem eqFrom_iff (g g' : Nat → Int) : ∀ d m, eqFrom g g' d m = true ↔ ∀ j, m ≤ j → j < m + d → g j = g' j
  | 0, m => by
    unfold eqFrom
    simp
    intro j h1 h2
    omega
  | d + 1, m => by
    unfold eqFrom
    by_cases h : g m = g' m
    · rw [if_pos h, eqFrom_iff g g' d (m + 1)]
      constructor
      · intro hh j h1 h2
        by_cases h3 : j = m
        · rw [h3]; exact h
        · exact hh j (by omega) (by omega)
      · intro hh j h1 h2
        exact hh j (by omega) (by omega)
    · rw [if_neg h]
      constructor
      · intro hh; cases hh
      · intro hh
        exact absurd (hh m (by omega) (by omega)) h
/-- rows that are alike -/
theorem same_iff {s : SS} (hs : SI s) {a b : Nat} (ha : a < s.2.2.1) : sameRow (s.2.2.2 a).1 (s.2.2.2 a).2 (s.2.2.2 b).1 (s.2.2.2 b).2 = true ↔ sz (s.2.2.2 a) = sz (s.2.2.2 b) ∧ ∀ j : Nat, (j : Int) < sz (s.2.2.2 a) → (s.2.2.2 a).2 j = (s.2.2.2 b).2 j := by
  have hb := (hs.2.2.2 a ha).1
  unfold VBn at hb
  unfold sameRow
  rw [Bool.and_eq_true, decide_eq_true_iff, eqFrom_iff]
  unfold sz
  constructor
  · intro ⟨h1, h2⟩
    exact ⟨h1, fun j hj => h2 j (by omega) (by omega)⟩
  · intro ⟨h1, h2⟩
    exact ⟨h1, fun j _ hj => h2 j (by omega)⟩
def lk (s : SS) (a b : Nat) : Prop := sameRow (s.2.2.2 a).1 (s.2.2.2 a).2 (s.2.2.2 b).1 (s.2.2.2 b).2 = true
theorem lk_rf {s : SS} (hs : SI s) {a : Nat} (ha : a < s.2.2.1) : lk s a a := (same_iff hs ha).mpr ⟨rfl, fun _ _ => rfl⟩
theorem lk_sym {s : SS} (hs : SI s) {a b : Nat} (ha : a < s.2.2.1) (hb : b < s.2.2.1) (h : lk s a b) : lk s b a := by
  have h1 := (same_iff hs ha).mp h
  exact (same_iff hs hb).mpr ⟨h1.1.symm, fun j hj => (h1.2 j (by omega)).symm⟩
theorem lk_tr {s : SS} (hs : SI s) {a b c : Nat} (ha : a < s.2.2.1) (hb : b < s.2.2.1) (h : lk s a b) (k : lk s b c) : lk s a c := by
  have h1 := (same_iff hs ha).mp h
  have h2 := (same_iff hs hb).mp k
  exact (same_iff hs ha).mpr ⟨h1.1.trans h2.1, fun j hj => (h1.2 j hj).trans (h2.2 j (by omega))⟩
theorem flF_ok {s : SS} (hs : SI s) {w : Nat} (hw : w < s.2.2.1) : ∀ d m, m + d = w → (∀ j, j < m → ¬ lk s j w) → flF s w d m ≤ w ∧ lk s (flF s w d m) w ∧ ∀ j, lk s j w → flF s w d m ≤ j
  | 0, m, h, hn => by
    unfold flF
    exact ⟨Nat.le_refl _, lk_rf hs hw, fun j hj => Nat.le_of_not_lt (fun hh => hn j (by omega) hj)⟩
  | d + 1, m, h, hn => by
    unfold flF
    split
    · rename_i hc
      exact ⟨by omega, hc, fun j hj => Nat.le_of_not_lt (fun hh => hn j hh hj)⟩
    · rename_i hc
      exact flF_ok hs hw d (m + 1) (by omega) (fun j hj => by
        by_cases e : j = m
        · rw [e]
          exact hc
        · exact hn j (by omega))
theorem like_ok {s : SS} (hs : SI s) {w : Nat} (hw : w < s.2.2.1) : flF s w w 0 ≤ w ∧ lk s (flF s w w 0) w ∧ ∀ j, lk s j w → flF s w w 0 ≤ j := flF_ok hs hw w 0 (by omega) (fun j hj => absurd hj (by omega))
/-- the lowest like the lowest is the lowest -/
theorem like_like {s : SS} (hs : SI s) {w : Nat} (hw : w < s.2.2.1) : flF s (flF s w w 0) (flF s w w 0) 0 = flF s w w 0 := by
  obtain ⟨h1, h2, h3⟩ := like_ok hs hw
  generalize flF s w w 0 = r at h1 h2 h3 ⊢
  obtain ⟨k1, k2, k3⟩ := like_ok hs (w := r) (by omega)
  have := h3 _ (lk_tr hs (by omega) (by omega) k2 h2)
  omega
theorem cmp_self (a : Int) : compare a a = Ordering.eq := by
  show compareOfLessAndEq a a = _
  unfold compareOfLessAndEq
  rw [if_neg (Int.lt_irrefl a), if_pos rfl]
theorem dcmp_same {x : UInt64} (h : x &&& 0x7fffffffffffffff ≤ 0x7ff0000000000000) : FP.dcmp x x = some .eq := by
  have g1 : (0x7fffffffffffffff : UInt64).toNat = 2 ^ 63 - 1 := by decide
  have g2 : (0x7ff0000000000000 : UInt64).toNat = 9218868437227405312 := by decide
  rw [UInt64.le_iff_toNat_le, UInt64.toNat_and, g1, g2, Nat.and_two_pow_sub_one_eq_mod] at h
  show FP.Core.order (FP.Core.decode FP.Core.b64 x.toNat) (FP.Core.decode FP.Core.b64 x.toNat) = _
  have hx : x.toNat < 2 ^ 64 := x.toNat_lt
  generalize x.toNat = n at h hx ⊢
  have hd : FP.Core.decode FP.Core.b64 n ≠ .nan := by
    unfold FP.Core.decode FP.Core.fieldE FP.Core.fieldT FP.Core.fieldS
    rw [b64t, b64e]
    by_cases h1 : n / 4503599627370496 % 2048 = 2048 - 1
    · rw [if_pos h1]
      by_cases h2 : n % 4503599627370496 = 0
      · rw [if_pos h2]
        exact fun e => by cases e
      · omega
    · rw [if_neg h1]
      split
      · exact fun e => by cases e
      · exact fun e => by cases e
  generalize FP.Core.decode FP.Core.b64 n = d at hd ⊢
  cases d with
  | nan => exact absurd rfl hd
  | inf s => exact congrArg some (cmp_self _)
  | fin s c q => exact congrArg some (cmp_self _)
