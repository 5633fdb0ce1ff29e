/-! PURE PART 32: a sum of costs over a depth is a number; mean of the reference -/
theorem b64q : FP.Core.b64.qmin = -1074 := by decide
theorem b64x : FP.Core.b64.qmax = 971 := by decide
theorem b64t : FP.Core.b64.tails = 4503599627370496 := by decide
theorem b64e : FP.Core.b64.exps = 2048 := by decide
theorem b64p : FP.Core.b64.p = 53 := rfl
theorem as64 (s : Bool) (e t : Nat) : FP.Core.assemble FP.Core.b64 s e t = (s.toNat * 2048 + e) * 4503599627370496 + t := by
  unfold FP.Core.assemble
  rw [b64t, b64e]
theorem enc_num {d : FP.Core.Datum} (h : (∃ s, d = .inf s) ∨ ∃ s c q, d = .fin s c q ∧ c < 9007199254740992 ∧ q ≤ 971) : FP.Core.encode FP.Core.b64 d % 9223372036854775808 ≤ 9218868437227405312 := by
  rcases h with ⟨s, e⟩ | ⟨s, c, q, e, h1, h2⟩
  · subst e
    unfold FP.Core.encode
    dsimp only
    rw [as64, b64e]
    cases s <;> decide
  · subst e
    unfold FP.Core.encode
    dsimp only
    rw [b64t, b64q, as64, as64]
    have hs : s.toNat = 0 ∨ s.toNat = 1 := by cases s <;> decide
    by_cases hc : c < 4503599627370496
    · rw [if_pos hc]
      rcases hs with e | e <;> rw [e] <;> omega
    · rw [if_neg hc]
      have hq : (q - -1074).toNat + 1 ≤ 2046 := by omega
      generalize (q - -1074).toNat + 1 = e at hq ⊢
      rcases hs with e | e <;> rw [e] <;> omega
theorem i2d_pos {n : Nat} (h0 : 0 < n) (h1 : n < 2147483648) : ∃ c q, FP.Core.decode FP.Core.b64 (FP.Core.fromInt FP.Core.b64 (n : Int)) = .fin false c q ∧ c ≠ 0 ∧ FP.Core.fromInt FP.Core.b64 (n : Int) < 9223372036854775808 := by
  obtain ⟨k, hk⟩ : ∃ k, k = n.log2 := ⟨_, rfl⟩
  have k1 : 2 ^ k ≤ n := by rw [hk]; exact Nat.log2_self_le (by omega)
  have k2 : n < 2 ^ (k + 1) := by rw [hk]; exact Nat.lt_log2_self
  have k3 : k < 31 := (Nat.pow_lt_pow_iff_right (by decide : 1 < 2)).mp (Nat.lt_of_le_of_lt k1 (by exact h1))
  have hm : 2 ^ k * 2 ^ (52 - k) = 4503599627370496 := by
    rw [← Nat.pow_add, show k + (52 - k) = 52 by omega]
  have c1 : 4503599627370496 ≤ n * 2 ^ (52 - k) := by
    rw [← hm]
    exact Nat.mul_le_mul_right _ k1
  have c2 : n * 2 ^ (52 - k) < 9007199254740992 := by
    have h2 : n * 2 ^ (52 - k) < 2 ^ (k + 1) * 2 ^ (52 - k) := Nat.mul_lt_mul_of_pos_right k2 (Nat.two_pow_pos _)
    rw [Nat.pow_succ, Nat.mul_right_comm, hm] at h2
    omega
  have hl : FP.Core.leading n 1 = (k : Int) := by
    unfold FP.Core.leading
    have e1 : Nat.log2 1 = 0 := by decide
    rw [e1, ← hk]
    dsimp only
    rw [show ((k : Int) - ((0 : Nat) : Int)).toNat = k by omega, show (-((k : Int) - ((0 : Nat) : Int))).toNat = 0 by omega, if_pos (by rw [Nat.one_mul, Nat.pow_zero, Nat.mul_one]; exact k1)]
    omega
  have hq : FP.Core.quantum FP.Core.b64 n 1 0 = (k : Int) - 52 := by
    unfold FP.Core.quantum
    rw [hl, b64q, b64p]
    omega
  have hr : FP.Core.round FP.Core.b64 (FP.Core.ofInt (n : Int)) = .fin false (n * 2 ^ (52 - k)) ((k : Int) - 52) := by
    unfold FP.Core.ofInt FP.Core.round
    dsimp only
    rw [Int.natAbs_natCast, decide_eq_false (by omega : ¬ (n : Int) < 0)]
    unfold FP.Core.roundRatio
    rw [if_neg (by omega), hq]
    unfold FP.Core.roundAt FP.Core.unitsNum FP.Core.unitsDen
    rw [show ((0 : Int) - ((k : Int) - 52)).toNat = 52 - k by omega, show ((k : Int) - 52 - 0).toNat = 0 by omega]
    unfold FP.Core.nearest
    rw [Nat.pow_zero, Nat.mul_one, Nat.mod_one, Nat.div_one, if_pos (by decide)]
    unfold FP.Core.settle
    rw [b64p, if_pos (by exact c2)]
    unfold FP.Core.bound
    rw [b64x, if_pos (by omega)]
  have he : FP.Core.fromInt FP.Core.b64 (n : Int) = (k + 1023) * 4503599627370496 + (n * 2 ^ (52 - k) - 4503599627370496) := by
    unfold FP.Core.fromInt
    rw [hr]
    unfold FP.Core.encode
    dsimp only
    rw [b64t, if_neg (by omega), b64q, as64, show ((k : Int) - 52 - -1074).toNat + 1 = k + 1023 by omega]
    show (0 * 2048 + (k + 1023)) * 4503599627370496 + _ = _
    rw [Nat.zero_mul, Nat.zero_add]
  generalize n * 2 ^ (52 - k) = m at c1 c2 he
  have f1 : FP.Core.fromInt FP.Core.b64 (n : Int) / 4503599627370496 = k + 1023 := by omega
  have f2 : FP.Core.fromInt FP.Core.b64 (n : Int) % 4503599627370496 = m - 4503599627370496 := by omega
  refine ⟨m, (-1074 : Int) + (((k + 1023 : Nat) : Int) - 1), ?_, by omega, by omega⟩
  unfold FP.Core.decode FP.Core.fieldE FP.Core.fieldT FP.Core.fieldS
  rw [b64t, b64e, b64q, f1, f2, if_neg (by omega), if_neg (by omega)]
  have e3 : ((k + 1023) / 2048 % 2 == 1) = false := by
    rw [show (k + 1023) / 2048 = 0 by omega]
    rfl
  rw [e3, show (k + 1023) % 2048 = k + 1023 by omega, show 4503599627370496 + (m - 4503599627370496) = m by omega]
theorem i2d_dec {a : Int} (h0 : 0 ≤ a) (h1 : a < 2147483648) : ∃ c q, FP.Core.decode FP.Core.b64 (FP.i2d (iI a)).toNat = .fin false c q ∧ (a ≠ 0 → c ≠ 0) := by
  have ht : (iI a).toInt = a := iI_T (by omega) h1
  have he : (FP.i2d (iI a)).toNat = FP.Core.fromInt FP.Core.b64 a % 2 ^ 64 := by
    show (UInt64.ofNat (FP.Core.fromInt FP.Core.b64 (iI a).toInt)).toNat = _
    rw [ht]
    exact UInt64.toNat_ofNat'
  by_cases h : a = 0
  · subst h
    refine ⟨0, -1074, ?_, fun hh => absurd rfl hh⟩
    rw [he]
    decide +kernel
  · obtain ⟨n, hn⟩ : ∃ n : Nat, a = n := ⟨a.toNat, by omega⟩
    subst hn
    obtain ⟨c, q, e1, e2, e3⟩ := i2d_pos (n := n) (by omega) (by omega)
    refine ⟨c, q, ?_, fun _ => e2⟩
    rw [he, Nat.mod_eq_of_lt (Nat.lt_trans e3 (by decide))]
    exact e1
theorem rr_num (s : Bool) (c d : Nat) (q : Int) : (∃ t, FP.Core.roundRatio FP.Core.b64 s c d q = .inf t) ∨ ∃ t c' q', FP.Core.roundRatio FP.Core.b64 s c d q = .fin t c' q' ∧ c' < 9007199254740992 ∧ q' ≤ 971 := by
  unfold FP.Core.roundRatio
  by_cases h : c = 0
  · rw [if_pos h]
    exact Or.inr ⟨s, 0, _, rfl, by decide, by rw [b64q]; decide⟩
  · rw [if_neg h]
    unfold FP.Core.roundAt FP.Core.settle
    split
    · rename_i h1
      unfold FP.Core.bound
      split
      · rename_i h2
        exact Or.inr ⟨_, _, _, rfl, h1, by rw [b64x] at h2; exact h2⟩
      · exact Or.inl ⟨_, rfl⟩
    · unfold FP.Core.bound
      split
      · rename_i h2
        exact Or.inr ⟨_, _, _, rfl, by rw [b64t]; decide, by rw [b64x] at h2; exact h2⟩
      · exact Or.inl ⟨_, rfl⟩
theorem ddiv_ok {a b : Int} (h0 : 0 ≤ a) (h1 : a < 2147483648) (h2 : 0 < b) (h3 : b < 2147483648) : FP.ddiv (FP.i2d (iI a)) (FP.i2d (iI b)) &&& 0x7fffffffffffffff ≤ 0x7ff0000000000000 := by
  obtain ⟨c, q, e1, -⟩ := i2d_dec h0 h1
  obtain ⟨d, r, e2, e3⟩ := i2d_dec (a := b) (by omega) h3
  have hd : d ≠ 0 := e3 (by omega)
  have hx : FP.ddiv (FP.i2d (iI a)) (FP.i2d (iI b)) = UInt64.ofNat (FP.Core.encode FP.Core.b64 (FP.Core.roundRatio FP.Core.b64 (false != false) c d (q - r))) := by
    show UInt64.ofNat (FP.Core.encode FP.Core.b64 (FP.Core.quotient FP.Core.b64 (FP.Core.decode FP.Core.b64 (FP.i2d (iI a)).toNat) (FP.Core.decode FP.Core.b64 (FP.i2d (iI b)).toNat))) = _
    rw [e1, e2]
    unfold FP.Core.quotient
    dsimp only
    rw [if_neg hd]
  have hn := enc_num (rr_num (false != false) c d (q - r))
  rw [hx, UInt64.le_iff_toNat_le, UInt64.toNat_and]
  have g1 : (0x7fffffffffffffff : UInt64).toNat = 2 ^ 63 - 1 := by decide
  have g2 : (0x7ff0000000000000 : UInt64).toNat = 9218868437227405312 := by decide
  rw [g1, g2, Nat.and_two_pow_sub_one_eq_mod, UInt64.toNat_ofNat']
  rw [Nat.mod_mod_of_dvd _ (by decide : 2 ^ 63 ∣ 2 ^ 64)]
  exact hn
theorem ws_b {s : SS} (hs : SI s) : ∀ f v, v < s.2.2.1 → 0 ≤ wsF s f v ∧ wsF s f v ≤ 300 * (f : Int)
  | 0, _, _ => by unfold wsF; omega
  | f + 1, v, hv => by
    have hb := (hs.2.2.2 v hv).1
    unfold VBn at hb
    unfold wsF
    by_cases h0 : v = 0
    · rw [if_pos h0]
      omega
    · have hp := par_dep hs hv (by omega)
      have ih := ws_b hs f (par s v) (by omega)
      rw [if_neg h0]
      omega
/-- the mean cost of a way -/
noncomputable def mnF (s : SS) (v : Nat) : UInt64 := if (s.2.2.2 v).1 3 = 0 then 0 else FP.ddiv (FP.i2d (iI (wsF s 100 v))) (FP.i2d (iI ((s.2.2.2 v).1 3)))
theorem mdd_ok {a b : Int} (h0 : 0 ≤ a) (h1 : a < 2147483648) (h2 : 0 < b) (h3 : b < 2147483648) (G : GH) : (mddiv (FP.i2d (iI a)) (FP.i2d (iI b))).1 G = some (FP.ddiv (FP.i2d (iI a)) (FP.i2d (iI b)), G) := by
  show Option.map _ (if _ then some _ else none) = _
  rw [if_pos (ddiv_ok h0 h1 h2 h3)]
  rfl
