/-! PURE PART 22: what the reference holds of saved states -/
def NowA (f : Nat → Int) (s : SS) : Prop := f 0 = s.1 ∧ f 1 = s.2.1 ∧ f 2 = s.2.2.1 ∧ ∀ i, i < s.2.2.1 → ∀ k, k < 10 → f (3 + 10 * i + k) = mcol (s.2.2.2 i).1 k
theorem nowR_A {c : Nat → Nat → Int} {s : SS} (h : NowR c s) : NowA (c 1) s := h
theorem nowA_R {c : Nat → Nat → Int} {s : SS} (h : NowA (c 1) s) : NowR c s := h
theorem NowA.congr {f g : Nat → Int} {s : SS} (h : NowA f s) (hs : SI s) (e : ∀ j, j < 1003 → g j = f j) : NowA g s := by
  have h100 := hs.2.2.1
  obtain ⟨h0, h1, h2, h3⟩ := h
  refine ⟨(e 0 (by decide)).trans h0, (e 1 (by decide)).trans h1, (e 2 (by decide)).trans h2, fun i hi k hk => ?_⟩
  rw [e _ (by omega)]
  exact h3 i hi k hk
/-- the saved states stand in the array of the past, the oldest first -/
def PastR (c : Nat → Nat → Int) (sv : Nat → SS) (n : Nat) : Prop := ∀ i, i < n → NowA (fun j => c 2 (1003 * i + j)) (sv i)
theorem past_sv {c : Nat → Nat → Int} {sv : Nat → SS} {n : Nat} {s : SS} (hp : PastR c sv n) (hs : SI s) (hsv : ∀ i, i < n → SI (sv i)) (hc : NowR c s) : PastR (svC c n) (va_up sv n s) (n + 1) ∧ NowR (svC c n) s := by
  refine ⟨fun i hi => ?_, hc.up (by decide) _⟩
  by_cases h : i = n
  · subst h
    rw [up_self]
    refine (nowR_A hc).congr hs (fun j hj => ?_)
    show svC c i 2 (1003 * i + j) = c 1 j
    unfold svC
    rw [up_self, if_pos (by omega)]
    congr 1
    omega
  · rw [up_ne _ _ h]
    refine (hp i (by omega)).congr (hsv i (by omega)) (fun j hj => ?_)
    show svC c n 2 (1003 * i + j) = c 2 (1003 * i + j)
    unfold svC
    rw [up_self, if_neg (by omega)]
theorem past_sh {c : Nat → Nat → Int} {sv : Nat → SS} {s : SS} (hp : PastR c sv 4) (hsv : ∀ i, i < 4 → SI (sv i)) (hc : NowR c s) : PastR (shC c) (fun i => sv (i + 1)) 3 ∧ NowR (shC c) s := by
  refine ⟨fun i hi => ?_, hc.up (by decide) _⟩
  refine (hp (i + 1) (by omega)).congr (hsv (i + 1) (by omega)) (fun j hj => ?_)
  show shC c 2 (1003 * i + j) = c 2 (1003 * (i + 1) + j)
  unfold shC
  rw [up_self, if_pos (by omega)]
  congr 1
  omega
theorem past_un {c : Nat → Nat → Int} {sv : Nat → SS} {n : Nat} (hp : PastR c sv (n + 1)) (hsv : ∀ i, i < n + 1 → SI (sv i)) : PastR (unC c n) sv n ∧ NowR (unC c n) (sv n) := by
  refine ⟨fun i hi => ?_, ?_⟩
  · refine (hp i (by omega)).congr (hsv i (by omega)) (fun j hj => ?_)
    show unC c n 2 (1003 * i + j) = _
    unfold unC
    rw [up_ne _ _ (by decide)]
  · refine nowA_R ((hp n (by omega)).congr (hsv n (by omega)) (fun j hj => ?_))
    unfold unC
    rw [up_self, if_pos hj]
theorem svs_lt {G : GH} {ad : Nat → Nat} (hi : injK ad KM) {z : Nat → Int} {c : Nat → Nat → Int} {i : Nat} (hz : z 2 = i) (h4 : i < 4) : (f_X5_saves (ad 0)).1 (MO G ad z c) = some ((), MO G ad (va_up z 2 (i + 1)) (svC c i)) := by
  unfold f_X5_saves
  rw [mo_gi2 hi, hz, if_neg (by rw [lz4, iI_eq (by omega) (by omega) (by omega) (by omega)]; omega)]
  exact sv44_m hi hz h4
theorem svs_4 {G : GH} {ad : Nat → Nat} (hi : injK ad KM) {z : Nat → Int} {c : Nat → Nat → Int} (hz : z 2 = 4) : (f_X5_saves (ad 0)).1 (MO G ad z c) = some ((), MO G ad (va_up z 2 4) (svC (shC c) 3)) := by
  have h := sv10_m (G := G) hi (z := z) 3009 FU 0 c (by omega) (by decide)
  have e2 : (fun j : Nat => if 0 ≤ j ∧ j < 3009 then c 2 (j + 1003) else c 2 j) = fun j => if j < 3009 then c 2 (j + 1003) else c 2 j := by
    funext j
    by_cases hj : j < 3009
    · rw [if_pos (by omega), if_pos hj]
    · rw [if_neg (by omega), if_neg hj]
  rw [e2, show iI ((0 : Nat) : Int) = 0 from rfl] at h
  unfold f_X5_saves
  rw [mo_gi2 hi, hz, if_pos (show iI 4 = 4 from rfl), h, lz3, mo_pt2 hi]
  have h2 := sv44_m (G := G) hi (z := va_up z 2 3) (c := shC c) (i := 3) (up_self _ _ _) (by decide)
  rw [up_idem] at h2
  exact h2
theorem und_m {G : GH} {ad : Nat → Nat} (hi : injK ad KM) {z : Nat → Int} {c : Nat → Nat → Int} {i : Nat} (hz : z 2 = (i : Int) + 1) (h4 : i < 4) : (f_X5_undo (ad 0)).1 (MO G ad z c) = some (iI i, MO G ad (va_up (va_up z 6 0) 2 i) (unC c i)) := by
  have h := cp_m (G := G) hi (z := va_up (va_up z 6 0) 2 i) (x := 2) (y := 1) (by decide) (by decide) (by decide) (by decide) (by decide) (a := 1003 * i) (b := 0) (by show 1003 * i + 1003 ≤ 4012; omega) (by decide) (by decide) (by decide) 1003 FU 0 c (by omega) (by decide)
  have e2 : (fun j : Nat => if 0 + 0 ≤ j ∧ j < 0 + 1003 then c 2 (1003 * i + (j - 0)) else c 1 j) = fun j => if j < 1003 then c 2 (1003 * i + j) else c 1 j := by
    funext j
    by_cases hj : j < 1003
    · rw [if_pos (by omega), if_pos hj]
      rfl
    · rw [if_neg (by omega), if_neg hj]
  rw [e2, show iI ((0 : Nat) : Int) = 0 from rfl] at h
  unfold f_X5_undo
  rw [mo_gi2 hi, hz, if_neg (by rw [lz0, iI_eq (by omega) (by omega) (by omega) (by omega)]; omega)]
  unfold f_X5_undo_13
  rw [show (Value.int 0) = Value.int (iI 0) from rfl, mo_pt6 hi, mo_gi6 hi, up_self, if_pos (show iI 0 = 0 from rfl), mo_gi2 hi, up_ne _ _ (show 2 ≠ 6 by decide), hz, lz1, iI_sub, show (i : Int) + 1 - 1 = i by omega, mo_pt2 hi, mo_gr1 hi, mo_gi2 hi, up_self, mo_gr0 hi]
  rw [show iI (i : Int) * 1003 = iI ((1003 * i : Nat) : Int) by rw [show (1003 : Int32) = iI 1003 from rfl, iI_mul]; congr 1; omega]
  rw [show f_X5_copies (ad 2) (iI ((1003 * i : Nat) : Int)) (ad 1) 0 = f_X5_copies_3 FU (ad 2) (iI ((1003 * i : Nat) : Int)) (ad 1) 0 0 from rfl, mbind_ok h, mo_gi2 hi, up_self]
  rfl
theorem und_0 {G : GH} {ad : Nat → Nat} (hi : injK ad KM) {z : Nat → Int} {c : Nat → Nat → Int} (hz : z 2 = 0) : (f_X5_undo (ad 0)).1 (MO G ad z c) = some (0, MO G ad (va_up z 6 1) c) := by
  unfold f_X5_undo
  rw [mo_gi2 hi, hz, if_pos (show iI 0 = 0 from rfl)]
  unfold f_X5_undo_13
  rw [show (Value.int 1) = Value.int (iI 1) from rfl, mo_pt6 hi, mo_gi6 hi, up_self, if_neg (show ¬ iI 1 = 0 by decide)]
  rfl
