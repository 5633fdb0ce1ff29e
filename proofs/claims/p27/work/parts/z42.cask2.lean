/-! PURE PART 42: the class looks at versions -/
theorem c_common {G : GH} {ow : Nat → Nat} {p : Nat} {w : WW} {P : Nat} (hw : WI w) (h : RepC G ow p w P) {a b : Int} (ha : irg a) (hb : irg b) : RC (f_X4_common p (iI a) (iI b)) G ow p w P (yr (if (inV w.1 a && inV w.1 b) = true then 0 else 1) exI exI exI (if (inV w.1 a && inV w.1 b) = true then (mtF w.1 200 a.toNat b.toNat : Nat) else 0)) w (ye (if (inV w.1 a && inV w.1 b) = true then 0 else 1)) := by
  unfold f_X4_common
  refine rc_ck h ?_
  by_cases h1 : inV w.1 a = true
  · have h1' : 0 ≤ a ∧ a < w.1.2.2.1 := of_decide_eq_true h1
    have ea : iI a = iI ((a.toNat : Nat) : Int) := by congr 1; omega
    rw [h1, Bool.true_and]
    refine rc_xin (rc_rv1 hw h ha h1) (fun G1 ow1 P1 h' => ?_)
    refine rc_ck h' ?_
    by_cases h2 : inV w.1 b = true
    · have h2' : 0 ≤ b ∧ b < w.1.2.2.1 := of_decide_eq_true h2
      have eb : iI b = iI ((b.toNat : Nat) : Int) := by congr 1; omega
      rw [h2, if_pos rfl, if_pos rfl]
      refine rc_xin (rc_rv1 hw h' hb h2) (fun G2 ow2 P2 h'' => ?_)
      rw [ea, eb]
      exact rc_ro h'' (T := fun r => f_X1_meeting r (iI ((a.toNat : Nat) : Int)) (iI ((b.toNat : Nat) : Int))) (x := iI (mtF w.1 200 a.toNat b.toNat : Nat)) (fun L np va ma refs hL hx => mt_run (by omega) hw.1 hx (by omega) (by omega)) (fun G3 ow3 P3 h3 => rc_pure h3)
    · rw [Bool.not_eq_true] at h2
      rw [h2, if_neg (by decide), if_neg (by decide)]
      exact rc_xout (rc_rv0 hw h' hb h2)
  · rw [Bool.not_eq_true] at h1
    rw [h1, Bool.false_and, if_neg (by decide), if_neg (by decide)]
    exact rc_xout (rc_rv0 hw h ha h1)
theorem c_same {G : GH} {ow : Nat → Nat} {p : Nat} {w : WW} {P : Nat} (hw : WI w) (h : RepC G ow p w P) {a b : Int} (ha : irg a) (hb : irg b) : RC (f_X4_same p (iI a) (iI b)) G ow p w P (yr (if (inV w.1 a && inV w.1 b) = true then 0 else 1) exI exI exI (b2i ((inV w.1 a && inV w.1 b) && sameRow (w.1.2.2.2 a.toNat).1 (w.1.2.2.2 a.toNat).2 (w.1.2.2.2 b.toNat).1 (w.1.2.2.2 b.toNat).2))) w (ye (if (inV w.1 a && inV w.1 b) = true then 0 else 1)) := by
  unfold f_X4_same
  refine rc_ck h ?_
  by_cases h1 : inV w.1 a = true
  · have h1' : 0 ≤ a ∧ a < w.1.2.2.1 := of_decide_eq_true h1
    have ea : iI a = iI ((a.toNat : Nat) : Int) := by congr 1; omega
    rw [h1, Bool.true_and]
    refine rc_xin (rc_rv1 hw h ha h1) (fun G1 ow1 P1 h' => ?_)
    refine rc_ck h' ?_
    by_cases h2 : inV w.1 b = true
    · have h2' : 0 ≤ b ∧ b < w.1.2.2.1 := of_decide_eq_true h2
      have eb : iI b = iI ((b.toNat : Nat) : Int) := by congr 1; omega
      rw [h2, Bool.true_and, if_pos rfl]
      refine rc_xin (rc_rv1 hw h' hb h2) (fun G2 ow2 P2 h'' => ?_)
      rw [ea, eb]
      refine rc_tail h'' (fun L np va ma refs ads0 tp sa hL hp hpc hx => ro_ck hx ?_)
      refine ro_slot (by omega) hw.1 hx (by omega) (fun G3 ow3 refs3 q r g hx3 _ hq m3 m4 m5 hk => ?_)
      have hpc3 : G3.1 p = some (xcl ads0 tp sa np w.2.2.1) := by rw [hk p (by omega) (by omega)]; exact hpc
      refine ro_eq (F' := mbind (mchk np 1) (fun _ => mbind (f_X1_slot np (iI ((b.toNat : Nat) : Int))) (fun r4 => (mbind (mchk q 3) (fun _ => mbind (f_X3_hasRowOf q r4) (fun x5 => (mbind (mbool x5) (fun _ => mpure (.inr x5))))))))) ?_ ?_
      · refine ro_ck hx3 ?_
        refine ro_slot (by omega) hw.1 hx3 (by omega) (fun G4 ow4 refs4 q2 r2 g2 hx4 hkeep hq2 n3 n4 n5 _ => ro_of hx4 ?_)
        have hs := same_slots (by omega) hw.1 hx4 (a := a.toNat) (b := b.toNat) (by omega) (by omega) (hkeep _ _ hq) hq2
        have hlive := hx4.1.live hw.1.2.2.1.2 (i := a.toNat) (by omega) (hkeep _ _ hq)
        obtain ⟨_, r5, g5, _, o3, _⟩ := hlive
        rw [ev_chk, o3, gis_v, if_pos rfl, mbind_ok hs, ev_bool]
        cases sameRow (w.1.2.2.2 a.toNat).1 (w.1.2.2.2 a.toNat).2 (w.1.2.2.2 b.toNat).1 (w.1.2.2.2 b.toNat).2 <;> rfl
      · rw [ev_gr, hpc3]
        rfl
    · rw [Bool.not_eq_true] at h2
      rw [h2, if_neg (by decide)]
      exact rc_xout (rc_rv0 hw h' hb h2)
  · rw [Bool.not_eq_true] at h1
    rw [h1, Bool.false_and, if_neg (by decide)]
    exact rc_xout (rc_rv0 hw h ha h1)
theorem c_firstLike {G : GH} {ow : Nat → Nat} {p : Nat} {w : WW} {P : Nat} (hw : WI w) (h : RepC G ow p w P) {a : Int} (ha : irg a) : RC (f_X4_firstLike p (iI a)) G ow p w P (yr (if inV w.1 a = true then 0 else 1) exI exI exI (if inV w.1 a = true then (flF w.1 a.toNat a.toNat 0 : Nat) else 0)) w (ye (if inV w.1 a = true then 0 else 1)) := by
  unfold f_X4_firstLike
  refine rc_ck h ?_
  by_cases h1 : inV w.1 a = true
  · have h1' : 0 ≤ a ∧ a < w.1.2.2.1 := of_decide_eq_true h1
    have ea : iI a = iI ((a.toNat : Nat) : Int) := by congr 1; omega
    rw [if_pos h1, if_pos h1]
    refine rc_xin (rc_rv1 hw h ha h1) (fun G1 ow1 P1 h' => ?_)
    rw [ea]
    exact rc_ro h' (T := fun r => f_X1_firstWithRowOf r (iI ((a.toNat : Nat) : Int))) (x := iI (flF w.1 a.toNat a.toNat 0 : Nat)) (fun L np va ma refs hL hx => fl_run (by omega) hw.1 hx (by omega)) (fun G3 ow3 P3 h3 => rc_pure h3)
  · rw [if_neg h1, if_neg h1]
    rw [Bool.not_eq_true] at h1
    exact rc_xout (rc_rv0 hw h ha h1)
theorem c_worst {G : GH} {ow : Nat → Nat} {p : Nat} {w : WW} {P : Nat} (hw : WI w) (h : RepC G ow p w P) {a : Int} (ha : irg a) : RC (f_X4_worst p (iI a)) G ow p w P (yr (if inV w.1 a = true then 0 else 1) exI exI exI (if inV w.1 a = true then wmF w.1 100 a.toNat else 0)) w (ye (if inV w.1 a = true then 0 else 1)) := by
  unfold f_X4_worst
  refine rc_ck h ?_
  by_cases h1 : inV w.1 a = true
  · have h1' : 0 ≤ a ∧ a < w.1.2.2.1 := of_decide_eq_true h1
    have ea : iI a = iI ((a.toNat : Nat) : Int) := by congr 1; omega
    rw [if_pos h1, if_pos h1]
    refine rc_xin (rc_rv1 hw h ha h1) (fun G1 ow1 P1 h' => ?_)
    rw [ea]
    exact rc_ro h' (T := fun r => f_X1_greatestCostOnWay r (iI ((a.toNat : Nat) : Int))) (x := iI (wmF w.1 100 a.toNat)) (fun L np va ma refs hL hx => wm_run (by omega) hw.1 hx (by omega)) (fun G3 ow3 P3 h3 => rc_pure h3)
  · rw [if_neg h1, if_neg h1]
    rw [Bool.not_eq_true] at h1
    exact rc_xout (rc_rv0 hw h ha h1)
theorem c_mean {G : GH} {ow : Nat → Nat} {p : Nat} {w : WW} {P : Nat} (hw : WI w) (h : RepC G ow p w P) {a : Int} (ha : irg a) : RC (f_X4_mean p (iI a)) G ow p w P (if inV w.1 a = true then .inr (mnF w.1 a.toNat) else .inl exI) w (ye (if inV w.1 a = true then 0 else 1)) := by
  have h100 := hw.1.2.2.1
  unfold f_X4_mean
  refine rc_ck h ?_
  by_cases h1 : inV w.1 a = true
  · have h1' : 0 ≤ a ∧ a < w.1.2.2.1 := of_decide_eq_true h1
    have ea : iI a = iI ((a.toNat : Nat) : Int) := by congr 1; omega
    have hd := dep_b hw.1 (show a.toNat < w.1.2.2.1 by omega)
    rw [if_pos h1, if_pos h1]
    refine rc_xin (rc_rv1 hw h ha h1) (fun G1 ow1 P1 h' => ?_)
    rw [ea]
    refine rc_tail h' (fun L np va ma refs ads0 tp sa hL hp hpc hx => ro_ck hx ?_)
    refine ro_slot (by omega) hw.1 hx (by omega) (fun G3 ow3 refs3 q r g hx3 _ hq m3 m4 m5 hk => ?_)
    have hpc3 : G3.1 p = some (xcl ads0 tp sa np w.2.2.1) := by rw [hk p (by omega) (by omega)]; exact hpc
    unfold mnF
    by_cases h0 : (w.1.2.2.2 a.toNat).1 3 = 0
    · refine ro_of hx3 ?_
      rw [if_pos h0]
      simp only [ev_gi, m3, gi_v0, gi_v1, gi_v2, gi_v3, gi_v4, gi_v5, gi_v6, gi_v7, gi_v8, gi_v9, gr_v, gis_v, gp_v0, gp_v1, gp_v2, gp_v3, gp_v4, gp_v5, gp_v6, gp_v7, gp_v8, gp_v9, up_self, up_idem, up_ne, Option.elim_some]
      rw [if_neg (by rw [lz0, iI_lt (by omega) (by omega) (by omega) (by omega)]; omega)]
      rfl
    · rw [if_neg h0]
      refine ro_eq (F' := mbind (mchk np 1) (fun _ => mbind (f_X1_sumOfCostsOnWay np (iI ((a.toNat : Nat) : Int))) (fun x5 => (mbind (mddiv (FP.i2d x5) (FP.i2d (iI ((w.1.2.2.2 a.toNat).1 3)))) (fun d6 => (mpure (.inr d6))))))) ?_ ?_
      · refine ro_ck hx3 (ro_bind (ws_run (by omega) hw.1 hx3 (by omega)) (fun G4 ow4 refs4 hx4 => ro_of hx4 ?_))
        have hwb := ws_b hw.1 100 a.toNat (by omega)
        rw [mbind_ok (mdd_ok (by omega) (by omega) (by omega) (by omega) _)]
        rfl
      · simp only [ev_gi, m3, gi_v0, gi_v1, gi_v2, gi_v3, gi_v4, gi_v5, gi_v6, gi_v7, gi_v8, gi_v9, gr_v, gis_v, gp_v0, gp_v1, gp_v2, gp_v3, gp_v4, gp_v5, gp_v6, gp_v7, gp_v8, gp_v9, up_self, up_idem, up_ne, Option.elim_some]
        rw [if_pos (by rw [lz0, iI_lt (by omega) (by omega) (by omega) (by omega)]; omega), ev_gr, hpc3]
        rfl
  · rw [if_neg h1, if_neg h1]
    rw [Bool.not_eq_true] at h1
    exact rc_xout (rc_rv0 hw h ha h1)
