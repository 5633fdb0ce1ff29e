/-! PURE PART 17: the reference pops as the spec does; all the acts of a text -/
theorem pop_run {G : GH} {ad : Nat → Nat} (hi : injK ad KM) {s : SS} (hs : SI s) {z : Nat → Int} {c : Nat → Nat → Int} (hc : NowR c s) (hh : s.2.2.1 < 100) {u : Nat} (hu : u < s.2.2.1) (fr : Bool) (x : Int) (hsz : 0 < sz (s.2.2.2 u)) :
    ∃ z' c', (f_X5_pops (ad 0) (iI u) (iI (b2i fr))).1 (MO G ad z c) = some (iI s.2.2.1, MO G ad z' c') ∧ NowR c' (sGrow s u (if fr = true then 2 else 3) x) ∧ (∀ j, j ≠ 8 → j ≠ 9 → z' j = z j) ∧ ∀ j, j ≠ 1 → j ≠ 8 → j ≠ 11 → c' j = c j := by
  have h100 := hs.2.2.1
  have hvb := (hs.2.2.2 u hu).1
  have hvb' : VBn (va_up (s.2.2.2 u).1 0 u) := by
    unfold VBn at hvb ⊢
    simp [va_up]
    omega
  obtain ⟨mv, hmv⟩ : ∃ mv, mv = (s.2.2.2 u).2 (if fr = true then 0 else (sz (s.2.2.2 u) - 1).toNat) := ⟨_, rfl⟩
  obtain ⟨kd, hkd⟩ : ∃ kd : Int, kd = (if fr = true then 2 else 3) := ⟨_, rfl⟩
  have hk23 : ¬ kd < 2 := by rw [hkd]; split <;> decide
  have e45 : (va_up (s.2.2.2 u).1 0 (u : Int)) 4 + (va_up (s.2.2.2 u).1 0 (u : Int)) 5 = sz (s.2.2.2 u) := rfl
  have hst0 := st_start hvb' kd
  rw [e45] at hst0
  have hstF := st_fetch hst0 fr hsz
  have hstT := st_cost (st_take hstF fr mv hsz)
  have hX : (sGrow s u kd x).2.2.2 s.2.2.1 = (sBegin (sPay (sCost (sTake (sFetch (sStart (va_up (s.2.2.2 u).1 0 u) kd) fr) fr mv)) s.1) s.2.1, sRow (s.2.2.2 u).2 kd x (sz (s.2.2.2 u)).toNat) := by
    show va_up s.2.2.2 s.2.2.1 _ s.2.2.1 = _
    rw [up_self]
    unfold sAct
    rw [if_neg hk23]
    have hfr : decide (kd = 2) = fr := by rw [hkd]; cases fr <;> rfl
    rw [hfr]
    have hm : sMv (va_up (s.2.2.2 u).1 0 u) (s.2.2.2 u).2 kd = mv := by
      unfold sMv
      rw [e45, hmv, hkd]
      cases fr <;> rfl
    rw [hm]
  obtain ⟨z', c', v1, v2⟩ : ∃ z' c', (f_X5_valueAt (ad 0) (iI u) (iI (if fr = true then 0 else sz (s.2.2.2 u) - 1))).1 (MO G ad z c) = some (iI mv, MO G ad z' c') ∧ KP z c z' c' := by
    cases fr
    · have := vat_run (G := G) hi hs (z := z) hc hu (j := (sz (s.2.2.2 u) - 1).toNat) (by omega)
      rw [show (((sz (s.2.2.2 u) - 1).toNat : Nat) : Int) = sz (s.2.2.2 u) - 1 by omega] at this
      rw [hmv]
      exact this
    · rw [hmv]
      exact vat_run (G := G) hi hs (z := z) hc hu (j := 0) (by omega)
  have hc' : NowR c' s := hc.eq (v2.2 1 (by decide) (by decide))
  have hpy := (ce_pays hstT (rate := s.1) (ratio := s.2.1) hs.1).cv (hdC c' (s.2.2.1 + 1)) s.2.2.1
  have c0 : hdC c' (s.2.2.1 + 1) 1 0 = s.1 := by rw [hdC_at _ _ (by decide)]; exact hc'.1
  have c1 : hdC c' (s.2.2.1 + 1) 1 1 = s.2.1 := by rw [hdC_at _ _ (by decide)]; exact hc'.2.1
  rw [← hkd]
  refine ⟨z', _, ?_, nowR_grow hi hs hc' hX, v2.1, fun j h1 h2 h3 => by rw [cv_ne _ _ _ h1]; exact (up_ne _ _ h1).trans (v2.2 j h2 h3)⟩
  have hst2 := st_up2 hst0 mv
  have htail : ∀ Y : Nat → Int, ST Y u kd mv ((va_up (s.2.2.2 u).1 0 (u : Int)) 3 + 1) (sz (s.2.2.2 u)) 80 80 → Y = va_up (sFetch (sStart (va_up (s.2.2.2 u).1 0 u) kd) fr) 2 mv → (mbind (mchk (ad 0) 5) (fun _ => mbind (f_X5_changes (ad 0) (iI s.2.2.1) (iI (b2i fr)) (-1)) (fun _ => (mbind (mchk (ad 0) 5) (fun _ => mbind (f_X5_pays (ad 0) (iI s.2.2.1)) (fun _ => (mpure (iI (s.2.2.1 : Int))))))))).1 (MO G ad z' (cv (hdC c' (s.2.2.1 + 1)) s.2.2.1 (mcol Y))) = some (iI s.2.2.1, MO G ad z' (cv (hdC c' (s.2.2.1 + 1)) s.2.2.1 (mcol (sBegin (sPay (sCost (sTake (sFetch (sStart (va_up (s.2.2.2 u).1 0 u) kd) fr) fr mv)) s.1) s.2.1)))) := by
    intro Y hY eY
    have hpc := (ce_take hY fr hsz).cv (hdC c' (s.2.2.1 + 1)) s.2.2.1
    have eT : sTake Y fr (Y 2) = sTake (sFetch (sStart (va_up (s.2.2.2 u).1 0 u) kd) fr) fr mv := by rw [eY]; exact sTake_up _ _ _
    rw [eT] at hpc
    have hch := chg_m (G := G) hi z' (hdC c' (s.2.2.1 + 1)) hh (mcol Y) fr (-1) (Or.inr rfl) (by
      unfold ST at hY
      rw [mc4, mc1, mc2]
      omega)
    rw [hpc] at hch
    rw [mo_ck hi, lzm1, mbind_ok hch, mo_ck hi]
    have hpp := pays_m (G := G) hi z' (hdC c' (s.2.2.1 + 1)) hh (mcol (sCost (sTake (sFetch (sStart (va_up (s.2.2.2 u).1 0 u) kd) fr) fr mv))) (by have := hs.2.1; omega) (by have := hs.1; omega) (by
      unfold ST at hstT
      rw [mc4, mc1, mc2, mc3]
      omega)
    rw [c0, c1, hpy] at hpp
    rw [mbind_ok hpp]
    rfl
  have h43 : ∀ s0 : Int, s0 = kd → (f_X5_pops_43 (ad 0) (iI (b2i fr)) (iI mv) (iI s.2.2.1) (iI s0) 7 (iI s.2.2.1) (ad 0)).1 (MO G ad z' (cv (hdC c' (s.2.2.1 + 1)) s.2.2.1 (mcol (sB (s.2.2.2 u).1 u)))) = some (iI s.2.2.1, MO G ad z' (cv (hdC c' (s.2.2.1 + 1)) s.2.2.1 (mcol (sBegin (sPay (sCost (sTake (sFetch (sStart (va_up (s.2.2.2 u).1 0 u) kd) fr) fr mv)) s.1) s.2.1)))) := by
    intro s0 hs0
    subst hs0
    unfold f_X5_pops_43
    rw [mo_ck hi, lc_7 hi z' _ hh, mo_ck hi, lc_9 hi z' _ hh, (sB_start _ _ _ _).cv, mo_ck hi, mbind_ok (part_m hi z' _ hh _ fr)]
    have hz0 : (va_up (s.2.2.2 u).1 0 (u : Int)) 0 = u := up_self _ _ _
    by_cases hp : mPart (mcol (va_up (sStart (va_up (s.2.2.2 u).1 0 u) s0) 2 mv)) fr = 0
    · rw [if_pos (by rw [hp]; rfl)]
      have hop := opens_m (G := G) hi z' (hdC c' (s.2.2.1 + 1)) hh (mcol (va_up (sStart (va_up (s.2.2.2 u).1 0 u) s0) 2 mv)) fr (by
        unfold ST at hst2
        rw [mc4, mc1, mc2]
        omega)
      rw [(ce_open hst2 fr hsz hp).cv] at hop
      rw [mo_ck hi, mbind_ok hop]
      refine htail _ ?_ ?_
      · have := st_fetch hst2 fr hsz
        rw [hz0] at this
        exact this
      · exact fetch_up _ _ _
    · have hpn : ¬ mPart (mcol (va_up (sStart (va_up (s.2.2.2 u).1 0 u) s0) 2 mv)) fr ≤ 0 := by
        unfold ST at hst2
        unfold mPart at hp ⊢
        rw [mc2, mc1] at *
        split at hp <;> rename_i hfr <;> simp only [hfr] <;> simp <;> omega
      have hb2 : mPart (mcol (va_up (sStart (va_up (s.2.2.2 u).1 0 u) s0) 2 mv)) fr ≤ 1000 := by
        unfold ST at hst2
        unfold mPart
        rw [mc2, mc1]
        split <;> omega
      rw [if_neg (by rw [lz0, iI_eq (by omega) (by omega) (by omega) (by omega)]; exact hp)]
      refine htail _ ?_ ?_
      · rw [hz0] at hst2
        unfold ST at hst2 ⊢
        omega
      · have hsp : 0 < sPart (sStart (va_up (s.2.2.2 u).1 0 u) s0) fr := by
          have e : mPart (mcol (va_up (sStart (va_up (s.2.2.2 u).1 0 u) s0) 2 mv)) fr = sPart (sStart (va_up (s.2.2.2 u).1 0 u) s0) fr := by
            unfold mPart sPart
            rw [mc2, mc1, up_ne _ _ (show 4 ≠ 2 by decide), up_ne _ _ (show 5 ≠ 2 by decide)]
            cases fr <;> simp <;> omega
          omega
        have : sFetch (sStart (va_up (s.2.2.2 u).1 0 u) s0) fr = sStart (va_up (s.2.2.2 u).1 0 u) s0 := if_pos hsp
        rw [this]
  have h18 : (f_X5_pops_18 (ad 0) (iI u) (iI (b2i fr)) (iI (if fr = true then 0 else sz (s.2.2.2 u) - 1)) (iI u) (ad 0)).1 (MO G ad z c) = some (iI s.2.2.1, MO G ad z' (cv (hdC c' (s.2.2.1 + 1)) s.2.2.1 (mcol (sBegin (sPay (sCost (sTake (sFetch (sStart (va_up (s.2.2.2 u).1 0 u) kd) fr) fr mv)) s.1) s.2.1)))) := by
    unfold f_X5_pops_18
    rw [mo_ck hi, mbind_ok v1, mo_ck hi, mbind_ok (bg_run hi hs hc' hh hu)]
    cases fr
    · rw [if_pos (show iI (b2i false) = 0 from rfl)]
      exact h43 3 hkd.symm
    · rw [if_neg (show ¬ iI (b2i true) = 0 by decide)]
      exact h43 2 hkd.symm
  unfold f_X5_pops
  cases fr
  · rw [if_pos (show iI (b2i false) = 0 from rfl), mo_ck hi]
    have h0 := of_s (G := G) hi hs (z := z) hc hu (show 1 < 10 by decide)
    rw [show iI ((1 : Nat) : Int) = 1 from rfl, mc1] at h0
    rw [mbind_ok h0, lz1, iI_sub]
    exact h18
  · rw [if_neg (show ¬ iI (b2i true) = 0 by decide)]
    exact h18
