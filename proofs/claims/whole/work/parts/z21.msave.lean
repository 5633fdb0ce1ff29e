/-! PURE PART 21: the reference saves and goes back -/
def svC (c : Nat → Nat → Int) (i : Nat) : Nat → Nat → Int := va_up c 2 (fun j => if 1003 * i ≤ j ∧ j < 1003 * i + 1003 then c 1 (j - 1003 * i) else c 2 j)
def shC (c : Nat → Nat → Int) : Nat → Nat → Int := va_up c 2 (fun j => if j < 3009 then c 2 (j + 1003) else c 2 j)
def unC (c : Nat → Nat → Int) (i : Nat) : Nat → Nat → Int := va_up c 1 (fun j => if j < 1003 then c 2 (1003 * i + j) else c 1 j)
theorem sv44_m {G : GH} {ad : Nat → Nat} (hi : injK ad KM) {z : Nat → Int} {c : Nat → Nat → Int} {i : Nat} (hz : z 2 = i) (h4 : i < 4) : (f_X5_saves_44 (ad 0)).1 (MO G ad z c) = some ((), MO G ad (va_up z 2 (i + 1)) (svC c i)) := by
  have h := cp_m (G := G) hi (z := z) (x := 1) (y := 2) (by decide) (by decide) (by decide) (by decide) (by decide) (a := 0) (b := 1003 * i) (by decide) (by show 1003 * i + 1003 ≤ 4012; omega) (by decide) (by decide) 1003 FU 0 c (by omega) (by decide)
  have e2 : (fun j : Nat => if 1003 * i + 0 ≤ j ∧ j < 1003 * i + 1003 then c 1 (0 + (j - 1003 * i)) else c 2 j) = fun j => if 1003 * i ≤ j ∧ j < 1003 * i + 1003 then c 1 (j - 1003 * i) else c 2 j := by
    funext j
    rw [Nat.add_zero, Nat.zero_add]
  rw [e2, show iI ((0 : Nat) : Int) = 0 from rfl] at h
  unfold f_X5_saves_44
  rw [mo_gr0 hi, mo_gr1 hi, mo_gi2 hi, hz, show iI (i : Int) * 1003 = iI ((1003 * i : Nat) : Int) by rw [show (1003 : Int32) = iI 1003 from rfl, iI_mul]; congr 1; omega]
  rw [show f_X5_copies (ad 1) 0 (ad 2) (iI ((1003 * i : Nat) : Int)) = f_X5_copies_3 FU (ad 1) 0 (ad 2) (iI ((1003 * i : Nat) : Int)) 0 from rfl, mbind_ok h, mo_gi2 hi, hz, lz1, iI_add, mo_pt2 hi]
  rfl
theorem sv10_m {G : GH} {ad : Nat → Nat} (hi : injK ad KM) {z : Nat → Int} : ∀ (d fu k : Nat) (c : Nat → Nat → Int), k + d = 3009 → d < fu →
    (f_X5_saves_10 fu (ad 0) (iI k)).1 (MO G ad z c) = (mbind (mput (ad 0) 5 2 (.int 3)) (fun _ => (f_X5_saves_44 (ad 0)))).1 (MO G ad z (va_up c 2 (fun j => if k ≤ j ∧ j < 3009 then c 2 (j + 1003) else c 2 j)))
  | _, 0, _, _, _, h => absurd h (by omega)
  | 0, fu + 1, k, c, e, _ => by
    have e2 : (fun j : Nat => if k ≤ j ∧ j < 3009 then c 2 (j + 1003) else c 2 j) = c 2 := by
      funext j
      rw [if_neg (by omega)]
    rw [e2, show va_up c 2 (c 2) = c from up_same rfl, f_X5_saves_10, if_pos (by rw [show (3009 : Int32) = iI 3009 from rfl, iI_le (by omega) (by omega) (by omega) (by omega)]; omega)]
  | d + 1, fu + 1, k, c, e, hf => by
    rw [f_X5_saves_10, if_neg (by rw [show (3009 : Int32) = iI 3009 from rfl, iI_le (by omega) (by omega) (by omega) (by omega)]; omega)]
    rw [mo_gr1 hi, mo_gr1 hi, show (1003 : Int32) = iI 1003 from rfl, iI_add, mo_al2 hi _ _ (by omega) (by omega), mo_as2 hi _ _ (by omega) (by omega), show iI (k : Int) + 1 = iI ((k + 1 : Nat) : Int) by rw [lz1, iI_add]; rfl]
    rw [sv10_m hi d fu (k + 1) _ (by omega) (by omega), up_idem]
    have e2 : (fun j : Nat => if k + 1 ≤ j ∧ j < 3009 then (va_up c 2 (va_up (c 2) ((k : Int)).toNat (c 2 ((k : Int) + 1003).toNat))) 2 (j + 1003) else (va_up c 2 (va_up (c 2) ((k : Int)).toNat (c 2 ((k : Int) + 1003).toNat))) 2 j) = fun j : Nat => if k ≤ j ∧ j < 3009 then c 2 (j + 1003) else c 2 j := by
      funext j
      rw [up_self, show ((k : Int)).toNat = k by omega, show ((k : Int) + 1003).toNat = k + 1003 by omega]
      by_cases hj : j = k
      · subst hj
        rw [if_neg (by omega), up_self, if_pos (by omega)]
      · rw [up_ne _ _ hj]
        by_cases h2 : k + 1 ≤ j ∧ j < 3009
        · rw [if_pos h2, if_pos (by omega), up_ne _ _ (by omega)]
        · rw [if_neg h2, if_neg (by omega)]
    rw [e2]
