/-! PURE PART 14: the reference's column does what the act does -/
def mcol (x : Nat → Int) : Nat → Int := fun k => if k = 0 then x 0 else if k = 1 then x 4 + x 5 else if k = 2 then x 4 else if k = 3 then x 6 else if k = 4 then x 7 else if k = 5 then x 8 else if k = 6 then x 9 else if k = 7 then x 1 else if k = 8 then x 3 else if k = 9 then x 2 else 0
theorem mc0 (x : Nat → Int) : mcol x 0 = x 0 := rfl
theorem mc1 (x : Nat → Int) : mcol x 1 = x 4 + x 5 := rfl
theorem mc2 (x : Nat → Int) : mcol x 2 = x 4 := rfl
theorem mc3 (x : Nat → Int) : mcol x 3 = x 6 := rfl
theorem mc4 (x : Nat → Int) : mcol x 4 = x 7 := rfl
theorem mc5 (x : Nat → Int) : mcol x 5 = x 8 := rfl
theorem mc6 (x : Nat → Int) : mcol x 6 = x 9 := rfl
theorem mc7 (x : Nat → Int) : mcol x 7 = x 1 := rfl
theorem mc8 (x : Nat → Int) : mcol x 8 = x 3 := rfl
theorem mc9 (x : Nat → Int) : mcol x 9 = x 2 := rfl
/-- the same in the ten numbers -/
def e10 (w w' : Nat → Int) : Prop := w 0 = w' 0 ∧ w 1 = w' 1 ∧ w 2 = w' 2 ∧ w 3 = w' 3 ∧ w 4 = w' 4 ∧ w 5 = w' 5 ∧ w 6 = w' 6 ∧ w 7 = w' 7 ∧ w 8 = w' 8 ∧ w 9 = w' 9
theorem e10.all {w w' : Nat → Int} (h : e10 w w') : ∀ k, k < 10 → w k = w' k := by
  intro k hk
  unfold e10 at h
  have : k = 0 ∨ k = 1 ∨ k = 2 ∨ k = 3 ∨ k = 4 ∨ k = 5 ∨ k = 6 ∨ k = 7 ∨ k = 8 ∨ k = 9 := by omega
  rcases this with e | e | e | e | e | e | e | e | e | e <;> subst e
  · exact h.1
  · exact h.2.1
  · exact h.2.2.1
  · exact h.2.2.2.1
  · exact h.2.2.2.2.1
  · exact h.2.2.2.2.2.1
  · exact h.2.2.2.2.2.2.1
  · exact h.2.2.2.2.2.2.2.1
  · exact h.2.2.2.2.2.2.2.2.1
  · exact h.2.2.2.2.2.2.2.2.2
theorem e10.rf (w : Nat → Int) : e10 w w := ⟨rfl, rfl, rfl, rfl, rfl, rfl, rfl, rfl, rfl, rfl⟩
theorem e10.up {w w' : Nat → Int} (h : e10 w w') (k : Nat) (x : Int) : e10 (va_up w k x) (va_up w' k x) := by
  unfold e10 at h ⊢
  unfold va_up
  refine ⟨?_, ?_, ?_, ?_, ?_, ?_, ?_, ?_, ?_, ?_⟩ <;> split <;> first | rfl | omega
section Act
variable {x : Nat → Int} {z0 z1 z2 z3 n cc e : Int}
theorem ce_pay (h : ST x z0 z1 z2 z3 n cc e) {rate : Int} (hr : 1 ≤ rate ∧ rate ≤ 9) : e10 (if mcol x 4 = -1 then mcol x else mPay1 (mcol x) (if rate ≤ mcol x 3 then rate else mcol x 3)) (mcol (sPay x rate)) := by
  unfold ST at h
  rw [mc4, mc3]
  unfold sPay
  by_cases hd : 0 < x 6
  · rw [if_neg (by omega), if_pos hd]
    have hm : (if rate ≤ x 6 then rate else x 6) = min rate (x 6) := by split <;> omega
    rw [hm]
    unfold mPay1
    rw [mc5, mc3]
    dsimp only
    by_cases h2 : x 6 - min rate (x 6) = 0
    · rw [if_pos h2, if_pos h2]
      unfold e10 mOver sEnd sPay1
      simp [va_up, mcol]
      omega
    · rw [if_neg h2, if_neg h2]
      unfold e10 sPay1
      simp [va_up, mcol]
  · rw [if_pos (by omega), if_neg hd]
    exact e10.rf _
theorem ce_begC {w w' : Nat → Int} (h : e10 w w') (ratio : Int) : e10 (mBeg w ratio) (mBeg w' ratio) := by
  have h0 := h
  unfold e10 at h
  unfold mBeg
  rw [h.2.2.2.2.1, h.2.1, h.2.2.1]
  split
  · split
    · exact h0
    · exact (h0.up 3 _).up 4 _
  · exact h0
theorem ce_beg (h : ST x z0 z1 z2 z3 n cc e) (ratio : Int) : e10 (mBeg (mcol x) ratio) (mcol (sBegin x ratio)) := by
  unfold ST at h
  unfold mBeg sBegin
  rw [mc4, mc2, mc1, show x 4 + x 5 - x 4 = x 5 by omega]
  by_cases hd : 0 < x 6
  · rw [if_neg (by omega), if_pos hd]
    exact e10.rf _
  · rw [if_pos (by omega), if_neg hd]
    by_cases h2 : ratio * min (x 4) (x 5) + 1 < max (x 4) (x 5)
    · rw [if_neg (by omega), if_pos h2]
      unfold e10
      simp [va_up, mcol]
    · rw [if_pos (by omega), if_neg h2]
      exact e10.rf _
theorem ce_pays (h : ST x z0 z1 z2 z3 n cc e) {rate ratio : Int} (hr : 1 ≤ rate ∧ rate ≤ 9) : e10 (mPays (mcol x) rate ratio) (mcol (sBegin (sPay x rate) ratio)) := by
  unfold mPays
  have h1 := ce_begC (ce_pay h hr) ratio
  have h2 := ce_beg (st_pay h (rate := rate) (by omega)) ratio
  unfold e10 at h1 h2 ⊢
  omega
theorem mClampC (w : Nat → Int) (g : Int) (h : 0 ≤ w 1) : mClamp w g = va_up w 4 (min (max g 0) (w 1)) := by
  unfold mClamp
  by_cases h1 : 0 ≤ g
  · rw [if_pos h1]
    split <;> congr 1 <;> omega
  · rw [if_neg h1]
    rw [if_pos h]
    congr 1
    omega
theorem ce_push (h : ST x z0 z1 z2 z3 n cc e) (fr : Bool) (hn : n < 40) : e10 (mChg (mcol x) fr fr 1) (mcol (sCost (sPut x fr (x 2)))) := by
  unfold ST at h
  unfold mChg
  rw [mc4, mc1, mc2, mc5]
  dsimp only
  by_cases hd : x 7 = -1
  · rw [if_pos hd]
    have h6 : ¬ 0 < x 6 := by omega
    unfold sPut sGoal e10 sCost
    cases fr <;> simp [va_up, h6, mcol] <;> omega
  · rw [if_neg hd]
    have h6 : 0 < x 6 := by omega
    rw [mClampC _ _ (by simp [va_up]; omega)]
    unfold sPut sGoal e10 sCost
    cases fr <;> simp [va_up, h6, mcol] <;> omega
theorem ce_take (h : ST x z0 z1 z2 z3 n cc e) (fr : Bool) (hn : 0 < n) : e10 (mChg (mcol x) fr (if (0 : Int) < -1 ∨ 0 < mPart (mcol x) fr then fr else !fr) (-1)) (mcol (sCost (sTake x fr (x 2)))) := by
  unfold ST at h
  unfold mChg mPart
  rw [mc4, mc1, mc2, mc5]
  dsimp only
  by_cases hd : x 7 = -1
  · rw [if_pos hd]
    have h6 : ¬ 0 < x 6 := by omega
    unfold sTake sGone sGoal e10 sCost
    cases fr
    · by_cases h5 : x 5 = 0
      · have h5' : ¬ (0 : Int) < x 4 + x 5 - x 4 := by omega
        simp [va_up, h6, h5, mcol]
        try omega
      · have h5' : (0 : Int) < x 4 + x 5 - x 4 := by omega
        simp [va_up, h6, h5, h5', mcol]
        try omega
    · by_cases h4 : 0 < x 4
      · simp [va_up, h6, h4, mcol]
        try omega
      · simp [va_up, h6, h4, mcol]
        try omega
  · rw [if_neg hd]
    have h6 : 0 < x 6 := by omega
    rw [mClampC _ _ (by simp [va_up]; omega)]
    unfold sTake sGone sGoal e10 sCost
    cases fr
    · by_cases h5 : x 5 = 0
      · have h5' : ¬ (0 : Int) < x 4 + x 5 - x 4 := by omega
        simp [va_up, h6, h5, mcol]
        try omega
      · have h5' : (0 : Int) < x 4 + x 5 - x 4 := by omega
        simp [va_up, h6, h5, h5', mcol]
        try omega
    · by_cases h4 : 0 < x 4
      · simp [va_up, h6, h4, mcol]
        try omega
      · simp [va_up, h6, h4, mcol]
        try omega
theorem ce_open (h : ST x z0 z1 z2 z3 n 0 0) (fr : Bool) (hn : 0 < n) (hp : mPart (mcol x) fr = 0) : e10 (mOpens (mcol x) fr) (mcol (sFetch x fr)) := by
  have hpx : sPart x fr = 0 := by
    unfold mPart at hp
    unfold sPart
    rw [mc2, mc1] at hp
    cases fr <;> simp at hp ⊢ <;> omega
  unfold ST at h
  unfold sFetch
  rw [if_neg (by omega)]
  unfold mOpens
  rw [mc4, mc3]
  by_cases hd : x 7 = -1
  · rw [if_pos hd, if_pos hp]
    have h6 : ¬ 0 < x 6 := by omega
    have e1 : sF1 x = x := if_neg h6
    rw [e1]
    unfold sF2
    rw [if_pos hpx]
    unfold sPart at hpx
    unfold sF3 mOp1 mPart e10
    cases fr <;> simp at hpx <;> simp [va_up, mcol] <;> omega
  · rw [if_neg hd]
    have h6 : 0 < x 6 := by omega
    have e1 : sF1 x = sEnd (va_up x 9 (x 9 + x 6)) := if_pos h6
    rw [e1]
    unfold sF2
    have hpp : mPart (mOver (mcol x)) fr = sPart (sEnd (va_up x 9 (x 9 + x 6))) fr := by
      unfold mPart mOver sPart sEnd
      cases fr <;> simp [va_up, mcol]
    rw [hpp]
    by_cases h7 : sPart (sEnd (va_up x 9 (x 9 + x 6))) fr = 0
    · rw [if_pos h7, if_pos h7]
      unfold sPart sEnd at h7
      unfold sF3 mOp1 mPart mOver sEnd e10
      cases fr <;> simp [va_up] at h7 <;> simp [va_up, mcol] <;> omega
    · rw [if_neg h7, if_neg h7]
      unfold sF3 mOp1 mOver sEnd e10
      cases fr <;> simp [va_up, mcol] <;> omega
end Act
theorem e10.cv {w w' : Nat → Int} (h : e10 w w') (c : Nat → Nat → Int) (v : Nat) : cv c v w = cv c v w' := cv_congr c v h.all
