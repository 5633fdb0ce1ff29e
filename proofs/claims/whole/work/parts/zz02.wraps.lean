/-! LAW 2: printed by gen/wrap.py: contracts of the law's small methods. -/
theorem c_L_set (l : Launch) (hfl : l.stackTraces = false) (x : Nat) (p1 p2 : Int32) (o : Nat) : CWr l yL_set wsL_set 7 120 x [.ref x, .int p1, .int p2, .ref o] (f_X4_set x p1 p2) [(exA, 1)] (fun v => masl o 0 v.toInt64) := CWr.start hfl RL rfl (by decide +kernel) rfl (Nat.le_of_ble_eq_true rfl) (fun X G z Gf k Gu hl htb hr hN hf hb0 hR => by
  obtain ⟨fs, hb⟩ := hb0
  have hfx : (xl X).stackTraces = false := by rw [hl]; exact hfl
  refine v_aload_n 3 dL_set_0 rfl rfl ?_
  refine v_iconst 0 dL_set_1 (by decide) ?_
  refine v_aload_n 0 dL_set_2 rfl rfl ?_
  refine v_iload_n 1 dL_set_3 rfl rfl ?_
  refine v_iload_n 2 dL_set_4 rfl rfl ?_
  refine v_wcall (hh := [(0, 10, 13, 13)]) 4 2 [.int p1, .int p2] (c_X4_set (xl X) hfx x p1 p2) gL_set_X4_set rfl (by decide +kernel) (by decide) (by decide) rfl rfl dL_set_5 (Nat.le_of_ble_eq_true rfl) rfl ⟨rfl, rfl⟩ hb hf htb (fun v hv => ?_) (fun E hv => ?_)
  · subst hv
    obtain ⟨rfl, hw, hG2⟩ := hR
    refine v_i2l dL_set_8 ?_
    refine v_last dL_set_9 (R := (Gu, Gu)) (K := fun _ => mst) (by rw [mbind_ok hw]; rfl) (fun G1 _ hg => ?_)
    obtain rfl : Gu = G1 := congrArg Prod.fst (mst_inv hg)
    refine v_goto 17 dL_set_10 (by decide) ?_
    refine v_iconst 0 dL_set_17 (by decide) ?_
    exact v_wiret hr dL_set_18 ⟨(congrArg (fun q : Nat × Nat × Nat => q.2.1) hG2).symm, (congrArg (fun q : Nat × Nat × Nat => q.2.2) hG2).symm⟩ rfl rfl
  · subst hv
    obtain ⟨hm, rfl⟩ := hR
    rcases List.mem_cons.mp hm with h0 | hm
    · obtain ⟨rfl, rfl⟩ := Prod.mk.inj h0
      refine ⟨[], ⟨0, 10, 13, 13⟩, [], rfl, fun z hz => ?_, by decide, by decide, List.mem_of_getElem? (i := 1) rfl, List.mem_of_getElem? (i := 0) rfl, fun n q => ?_⟩
      · exact absurd hz List.not_mem_nil
      · refine v_astore [(4, .ref q), (0, .ref x), (1, .int p1), (2, .int p2), (3, .ref o)] dL_set_13 (by decide) rfl ?_
        refine v_iconst 1 dL_set_15 (by decide) ?_
        exact v_wiret hr dL_set_16 ⟨rfl, rfl⟩ rfl rfl
    exact absurd hm List.not_mem_nil)
theorem c_L_push (l : Launch) (hfl : l.stackTraces = false) (x : Nat) (p1 p2 p3 : Int32) (o : Nat) : CWr l yL_push wsL_push 8 143 x [.ref x, .int p1, .int p2, .int p3, .ref o] (f_X4_push x p1 p2 p3) [(exI, 1), (exA, 2), (exS, 3)] (fun v => masl o 0 v.toInt64) := CWr.start hfl RL rfl (by decide +kernel) rfl (Nat.le_of_ble_eq_true rfl) (fun X G z Gf k Gu hl htb hr hN hf hb0 hR => by
  obtain ⟨fs, hb⟩ := hb0
  have hfx : (xl X).stackTraces = false := by rw [hl]; exact hfl
  refine v_aload 4 dL_push_0 rfl ?_
  refine v_iconst 0 dL_push_2 (by decide) ?_
  refine v_aload_n 0 dL_push_3 rfl rfl ?_
  refine v_iload_n 1 dL_push_4 rfl rfl ?_
  refine v_iload_n 2 dL_push_5 rfl rfl ?_
  refine v_iload_n 3 dL_push_6 rfl rfl ?_
  refine v_wcall (hh := [(0, 12, 15, 19), (0, 12, 19, 13), (0, 12, 23, 21)]) 4 3 [.int p1, .int p2, .int p3] (c_X4_push (xl X) hfx x p1 p2 p3) gL_push_X4_push rfl (by decide +kernel) (by decide) (by decide) rfl rfl dL_push_7 (Nat.le_of_ble_eq_true rfl) rfl ⟨rfl, rfl⟩ hb hf htb (fun v hv => ?_) (fun E hv => ?_)
  · subst hv
    obtain ⟨rfl, hw, hG2⟩ := hR
    refine v_i2l dL_push_10 ?_
    refine v_last dL_push_11 (R := (Gu, Gu)) (K := fun _ => mst) (by rw [mbind_ok hw]; rfl) (fun G1 _ hg => ?_)
    obtain rfl : Gu = G1 := congrArg Prod.fst (mst_inv hg)
    refine v_goto 27 dL_push_12 (by decide) ?_
    refine v_iconst 0 dL_push_27 (by decide) ?_
    exact v_wiret hr dL_push_28 ⟨(congrArg (fun q : Nat × Nat × Nat => q.2.1) hG2).symm, (congrArg (fun q : Nat × Nat × Nat => q.2.2) hG2).symm⟩ rfl rfl
  · subst hv
    obtain ⟨hm, rfl⟩ := hR
    rcases List.mem_cons.mp hm with h0 | hm
    · obtain ⟨rfl, rfl⟩ := Prod.mk.inj h0
      refine ⟨[], ⟨0, 12, 15, 19⟩, [⟨0, 12, 19, 13⟩, ⟨0, 12, 23, 21⟩], rfl, fun z hz => ?_, by decide, by decide, List.mem_of_getElem? (i := 1) rfl, List.mem_of_getElem? (i := 2) rfl, fun n q => ?_⟩
      · exact absurd hz List.not_mem_nil
      · refine v_astore [(5, .ref q), (0, .ref x), (1, .int p1), (2, .int p2), (3, .int p3), (4, .ref o)] dL_push_15 (by decide) rfl ?_
        refine v_iconst 1 dL_push_17 (by decide) ?_
        exact v_wiret hr dL_push_18 ⟨rfl, rfl⟩ rfl rfl
    rcases List.mem_cons.mp hm with h1 | hm
    · obtain ⟨rfl, rfl⟩ := Prod.mk.inj h1
      refine ⟨[⟨0, 12, 15, 19⟩], ⟨0, 12, 19, 13⟩, [⟨0, 12, 23, 21⟩], rfl, fun z hz => ?_, by decide, by decide, List.mem_of_getElem? (i := 2) rfl, List.mem_of_getElem? (i := 0) rfl, fun n q => ?_⟩
      · rcases List.mem_cons.mp hz with rfl | hz
        · exact ⟨by decide, _, List.mem_of_getElem? (i := 1) rfl, hN (exA, exI) (List.mem_of_getElem? (i := 0) rfl)⟩
        exact absurd hz List.not_mem_nil
      · refine v_astore [(5, .ref q), (0, .ref x), (1, .int p1), (2, .int p2), (3, .int p3), (4, .ref o)] dL_push_19 (by decide) rfl ?_
        refine v_iconst 2 dL_push_21 (by decide) ?_
        exact v_wiret hr dL_push_22 ⟨rfl, rfl⟩ rfl rfl
    rcases List.mem_cons.mp hm with h2 | hm
    · obtain ⟨rfl, rfl⟩ := Prod.mk.inj h2
      refine ⟨[⟨0, 12, 15, 19⟩, ⟨0, 12, 19, 13⟩], ⟨0, 12, 23, 21⟩, [], rfl, fun z hz => ?_, by decide, by decide, List.mem_of_getElem? (i := 3) rfl, List.mem_of_getElem? (i := 1) rfl, fun n q => ?_⟩
      · rcases List.mem_cons.mp hz with rfl | hz
        · exact ⟨by decide, _, List.mem_of_getElem? (i := 1) rfl, hN (exS, exI) (List.mem_of_getElem? (i := 1) rfl)⟩
        rcases List.mem_cons.mp hz with rfl | hz
        · exact ⟨by decide, _, List.mem_of_getElem? (i := 2) rfl, hN (exS, exA) (List.mem_of_getElem? (i := 2) rfl)⟩
        exact absurd hz List.not_mem_nil
      · refine v_astore [(5, .ref q), (0, .ref x), (1, .int p1), (2, .int p2), (3, .int p3), (4, .ref o)] dL_push_23 (by decide) rfl ?_
        refine v_iconst 3 dL_push_25 (by decide) ?_
        exact v_wiret hr dL_push_26 ⟨rfl, rfl⟩ rfl rfl
    exact absurd hm List.not_mem_nil)
theorem c_L_pop (l : Launch) (hfl : l.stackTraces = false) (x : Nat) (p1 p2 : Int32) (o : Nat) : CWr l yL_pop wsL_pop 8 142 x [.ref x, .int p1, .int p2, .ref o] (f_X4_pop x p1 p2) [(exI, 1), (exN, 2), (exS, 3)] (fun v => masl o 0 v.toInt64) := CWr.start hfl RL rfl (by decide +kernel) rfl (Nat.le_of_ble_eq_true rfl) (fun X G z Gf k Gu hl htb hr hN hf hb0 hR => by
  obtain ⟨fs, hb⟩ := hb0
  have hfx : (xl X).stackTraces = false := by rw [hl]; exact hfl
  refine v_aload_n 3 dL_pop_0 rfl rfl ?_
  refine v_iconst 0 dL_pop_1 (by decide) ?_
  refine v_aload_n 0 dL_pop_2 rfl rfl ?_
  refine v_iload_n 1 dL_pop_3 rfl rfl ?_
  refine v_iload_n 2 dL_pop_4 rfl rfl ?_
  refine v_wcall (hh := [(0, 10, 13, 19), (0, 10, 17, 27), (0, 10, 21, 21)]) 4 2 [.int p1, .int p2] (c_X4_pop (xl X) hfx x p1 p2) gL_pop_X4_pop rfl (by decide +kernel) (by decide) (by decide) rfl rfl dL_pop_5 (Nat.le_of_ble_eq_true rfl) rfl ⟨rfl, rfl⟩ hb hf htb (fun v hv => ?_) (fun E hv => ?_)
  · subst hv
    obtain ⟨rfl, hw, hG2⟩ := hR
    refine v_i2l dL_pop_8 ?_
    refine v_last dL_pop_9 (R := (Gu, Gu)) (K := fun _ => mst) (by rw [mbind_ok hw]; rfl) (fun G1 _ hg => ?_)
    obtain rfl : Gu = G1 := congrArg Prod.fst (mst_inv hg)
    refine v_goto 25 dL_pop_10 (by decide) ?_
    refine v_iconst 0 dL_pop_25 (by decide) ?_
    exact v_wiret hr dL_pop_26 ⟨(congrArg (fun q : Nat × Nat × Nat => q.2.1) hG2).symm, (congrArg (fun q : Nat × Nat × Nat => q.2.2) hG2).symm⟩ rfl rfl
  · subst hv
    obtain ⟨hm, rfl⟩ := hR
    rcases List.mem_cons.mp hm with h0 | hm
    · obtain ⟨rfl, rfl⟩ := Prod.mk.inj h0
      refine ⟨[], ⟨0, 10, 13, 19⟩, [⟨0, 10, 17, 27⟩, ⟨0, 10, 21, 21⟩], rfl, fun z hz => ?_, by decide, by decide, List.mem_of_getElem? (i := 1) rfl, List.mem_of_getElem? (i := 2) rfl, fun n q => ?_⟩
      · exact absurd hz List.not_mem_nil
      · refine v_astore [(4, .ref q), (0, .ref x), (1, .int p1), (2, .int p2), (3, .ref o)] dL_pop_13 (by decide) rfl ?_
        refine v_iconst 1 dL_pop_15 (by decide) ?_
        exact v_wiret hr dL_pop_16 ⟨rfl, rfl⟩ rfl rfl
    rcases List.mem_cons.mp hm with h1 | hm
    · obtain ⟨rfl, rfl⟩ := Prod.mk.inj h1
      refine ⟨[⟨0, 10, 13, 19⟩], ⟨0, 10, 17, 27⟩, [⟨0, 10, 21, 21⟩], rfl, fun z hz => ?_, by decide, by decide, List.mem_of_getElem? (i := 2) rfl, List.mem_of_getElem? (i := 3) rfl, fun n q => ?_⟩
      · rcases List.mem_cons.mp hz with rfl | hz
        · exact ⟨by decide, _, List.mem_of_getElem? (i := 1) rfl, hN (exN, exI) (List.mem_of_getElem? (i := 3) rfl)⟩
        exact absurd hz List.not_mem_nil
      · refine v_astore [(4, .ref q), (0, .ref x), (1, .int p1), (2, .int p2), (3, .ref o)] dL_pop_17 (by decide) rfl ?_
        refine v_iconst 2 dL_pop_19 (by decide) ?_
        exact v_wiret hr dL_pop_20 ⟨rfl, rfl⟩ rfl rfl
    rcases List.mem_cons.mp hm with h2 | hm
    · obtain ⟨rfl, rfl⟩ := Prod.mk.inj h2
      refine ⟨[⟨0, 10, 13, 19⟩, ⟨0, 10, 17, 27⟩], ⟨0, 10, 21, 21⟩, [], rfl, fun z hz => ?_, by decide, by decide, List.mem_of_getElem? (i := 3) rfl, List.mem_of_getElem? (i := 1) rfl, fun n q => ?_⟩
      · rcases List.mem_cons.mp hz with rfl | hz
        · exact ⟨by decide, _, List.mem_of_getElem? (i := 1) rfl, hN (exS, exI) (List.mem_of_getElem? (i := 1) rfl)⟩
        rcases List.mem_cons.mp hz with rfl | hz
        · exact ⟨by decide, _, List.mem_of_getElem? (i := 2) rfl, hN (exS, exN) (List.mem_of_getElem? (i := 4) rfl)⟩
        exact absurd hz List.not_mem_nil
      · refine v_astore [(4, .ref q), (0, .ref x), (1, .int p1), (2, .int p2), (3, .ref o)] dL_pop_21 (by decide) rfl ?_
        refine v_iconst 3 dL_pop_23 (by decide) ?_
        exact v_wiret hr dL_pop_24 ⟨rfl, rfl⟩ rfl rfl
    exact absurd hm List.not_mem_nil)
theorem c_L_drop (l : Launch) (hfl : l.stackTraces = false) (x : Nat) (o : Nat) : CWr l yL_drop wsL_drop 7 117 x [.ref x, .ref o] (f_X4_drop x) [(exS, 1)] (fun v => masl o 0 v.toInt64) := CWr.start hfl RL rfl (by decide +kernel) rfl (Nat.le_of_ble_eq_true rfl) (fun X G z Gf k Gu hl htb hr hN hf hb0 hR => by
  obtain ⟨fs, hb⟩ := hb0
  have hfx : (xl X).stackTraces = false := by rw [hl]; exact hfl
  refine v_aload_n 1 dL_drop_0 rfl rfl ?_
  refine v_iconst 0 dL_drop_1 (by decide) ?_
  refine v_aload_n 0 dL_drop_2 rfl rfl ?_
  refine v_wcall (hh := [(0, 8, 11, 21)]) 4 0 [] (c_X4_drop (xl X) hfx x) gL_drop_X4_drop rfl (by decide +kernel) (by decide) (by decide) rfl rfl dL_drop_3 (Nat.le_of_ble_eq_true rfl) rfl ⟨rfl, rfl⟩ hb hf htb (fun v hv => ?_) (fun E hv => ?_)
  · subst hv
    obtain ⟨rfl, hw, hG2⟩ := hR
    refine v_i2l dL_drop_6 ?_
    refine v_last dL_drop_7 (R := (Gu, Gu)) (K := fun _ => mst) (by rw [mbind_ok hw]; rfl) (fun G1 _ hg => ?_)
    obtain rfl : Gu = G1 := congrArg Prod.fst (mst_inv hg)
    refine v_goto 14 dL_drop_8 (by decide) ?_
    refine v_iconst 0 dL_drop_14 (by decide) ?_
    exact v_wiret hr dL_drop_15 ⟨(congrArg (fun q : Nat × Nat × Nat => q.2.1) hG2).symm, (congrArg (fun q : Nat × Nat × Nat => q.2.2) hG2).symm⟩ rfl rfl
  · subst hv
    obtain ⟨hm, rfl⟩ := hR
    rcases List.mem_cons.mp hm with h0 | hm
    · obtain ⟨rfl, rfl⟩ := Prod.mk.inj h0
      refine ⟨[], ⟨0, 8, 11, 21⟩, [], rfl, fun z hz => ?_, by decide, by decide, List.mem_of_getElem? (i := 1) rfl, List.mem_of_getElem? (i := 1) rfl, fun n q => ?_⟩
      · exact absurd hz List.not_mem_nil
      · refine v_astore_n [(2, .ref q), (0, .ref x), (1, .ref o)] dL_drop_11 rfl (by decide) rfl ?_
        refine v_iconst 1 dL_drop_12 (by decide) ?_
        exact v_wiret hr dL_drop_13 ⟨rfl, rfl⟩ rfl rfl
    exact absurd hm List.not_mem_nil)
theorem c_L_version (l : Launch) (hfl : l.stackTraces = false) (x : Nat) (p1 p2 : Int32) (o : Nat) : CWr l yL_version wsL_version 8 133 x [.ref x, .int p1, .int p2, .ref o] (f_X4_version x p1 p2) [(exI, 1), (exA, 2)] (fun v => masl o 0 v.toInt64) := CWr.start hfl RL rfl (by decide +kernel) rfl (Nat.le_of_ble_eq_true rfl) (fun X G z Gf k Gu hl htb hr hN hf hb0 hR => by
  obtain ⟨fs, hb⟩ := hb0
  have hfx : (xl X).stackTraces = false := by rw [hl]; exact hfl
  refine v_aload_n 3 dL_version_0 rfl rfl ?_
  refine v_iconst 0 dL_version_1 (by decide) ?_
  refine v_aload_n 0 dL_version_2 rfl rfl ?_
  refine v_iload_n 1 dL_version_3 rfl rfl ?_
  refine v_iload_n 2 dL_version_4 rfl rfl ?_
  refine v_wcall (hh := [(0, 10, 13, 19), (0, 10, 17, 13)]) 4 2 [.int p1, .int p2] (c_X4_version (xl X) hfx x p1 p2) gL_version_X4_version rfl (by decide +kernel) (by decide) (by decide) rfl rfl dL_version_5 (Nat.le_of_ble_eq_true rfl) rfl ⟨rfl, rfl⟩ hb hf htb (fun v hv => ?_) (fun E hv => ?_)
  · subst hv
    obtain ⟨rfl, hw, hG2⟩ := hR
    refine v_i2l dL_version_8 ?_
    refine v_last dL_version_9 (R := (Gu, Gu)) (K := fun _ => mst) (by rw [mbind_ok hw]; rfl) (fun G1 _ hg => ?_)
    obtain rfl : Gu = G1 := congrArg Prod.fst (mst_inv hg)
    refine v_goto 21 dL_version_10 (by decide) ?_
    refine v_iconst 0 dL_version_21 (by decide) ?_
    exact v_wiret hr dL_version_22 ⟨(congrArg (fun q : Nat × Nat × Nat => q.2.1) hG2).symm, (congrArg (fun q : Nat × Nat × Nat => q.2.2) hG2).symm⟩ rfl rfl
  · subst hv
    obtain ⟨hm, rfl⟩ := hR
    rcases List.mem_cons.mp hm with h0 | hm
    · obtain ⟨rfl, rfl⟩ := Prod.mk.inj h0
      refine ⟨[], ⟨0, 10, 13, 19⟩, [⟨0, 10, 17, 13⟩], rfl, fun z hz => ?_, by decide, by decide, List.mem_of_getElem? (i := 1) rfl, List.mem_of_getElem? (i := 2) rfl, fun n q => ?_⟩
      · exact absurd hz List.not_mem_nil
      · refine v_astore [(4, .ref q), (0, .ref x), (1, .int p1), (2, .int p2), (3, .ref o)] dL_version_13 (by decide) rfl ?_
        refine v_iconst 1 dL_version_15 (by decide) ?_
        exact v_wiret hr dL_version_16 ⟨rfl, rfl⟩ rfl rfl
    rcases List.mem_cons.mp hm with h1 | hm
    · obtain ⟨rfl, rfl⟩ := Prod.mk.inj h1
      refine ⟨[⟨0, 10, 13, 19⟩], ⟨0, 10, 17, 13⟩, [], rfl, fun z hz => ?_, by decide, by decide, List.mem_of_getElem? (i := 2) rfl, List.mem_of_getElem? (i := 0) rfl, fun n q => ?_⟩
      · rcases List.mem_cons.mp hz with rfl | hz
        · exact ⟨by decide, _, List.mem_of_getElem? (i := 1) rfl, hN (exA, exI) (List.mem_of_getElem? (i := 0) rfl)⟩
        exact absurd hz List.not_mem_nil
      · refine v_astore [(4, .ref q), (0, .ref x), (1, .int p1), (2, .int p2), (3, .ref o)] dL_version_17 (by decide) rfl ?_
        refine v_iconst 2 dL_version_19 (by decide) ?_
        exact v_wiret hr dL_version_20 ⟨rfl, rfl⟩ rfl rfl
    exact absurd hm List.not_mem_nil)
theorem c_L_value (l : Launch) (hfl : l.stackTraces = false) (x : Nat) (p1 : Int32) (o : Nat) : CWr l yL_value wsL_value 8 132 x [.ref x, .int p1, .ref o] (f_X4_value x p1) [(exI, 1), (exS, 2)] (fun v => masl o 0 v.toInt64) := CWr.start hfl RL rfl (by decide +kernel) rfl (Nat.le_of_ble_eq_true rfl) (fun X G z Gf k Gu hl htb hr hN hf hb0 hR => by
  obtain ⟨fs, hb⟩ := hb0
  have hfx : (xl X).stackTraces = false := by rw [hl]; exact hfl
  refine v_aload_n 2 dL_value_0 rfl rfl ?_
  refine v_iconst 0 dL_value_1 (by decide) ?_
  refine v_aload_n 0 dL_value_2 rfl rfl ?_
  refine v_iload_n 1 dL_value_3 rfl rfl ?_
  refine v_wcall (hh := [(0, 9, 12, 19), (0, 9, 15, 21)]) 4 1 [.int p1] (c_X4_value (xl X) hfx x p1) gL_value_X4_value rfl (by decide +kernel) (by decide) (by decide) rfl rfl dL_value_4 (Nat.le_of_ble_eq_true rfl) rfl ⟨rfl, rfl⟩ hb hf htb (fun v hv => ?_) (fun E hv => ?_)
  · subst hv
    obtain ⟨rfl, hw, hG2⟩ := hR
    refine v_i2l dL_value_7 ?_
    refine v_last dL_value_8 (R := (Gu, Gu)) (K := fun _ => mst) (by rw [mbind_ok hw]; rfl) (fun G1 _ hg => ?_)
    obtain rfl : Gu = G1 := congrArg Prod.fst (mst_inv hg)
    refine v_goto 18 dL_value_9 (by decide) ?_
    refine v_iconst 0 dL_value_18 (by decide) ?_
    exact v_wiret hr dL_value_19 ⟨(congrArg (fun q : Nat × Nat × Nat => q.2.1) hG2).symm, (congrArg (fun q : Nat × Nat × Nat => q.2.2) hG2).symm⟩ rfl rfl
  · subst hv
    obtain ⟨hm, rfl⟩ := hR
    rcases List.mem_cons.mp hm with h0 | hm
    · obtain ⟨rfl, rfl⟩ := Prod.mk.inj h0
      refine ⟨[], ⟨0, 9, 12, 19⟩, [⟨0, 9, 15, 21⟩], rfl, fun z hz => ?_, by decide, by decide, List.mem_of_getElem? (i := 1) rfl, List.mem_of_getElem? (i := 2) rfl, fun n q => ?_⟩
      · exact absurd hz List.not_mem_nil
      · refine v_astore_n [(3, .ref q), (0, .ref x), (1, .int p1), (2, .ref o)] dL_value_12 rfl (by decide) rfl ?_
        refine v_iconst 1 dL_value_13 (by decide) ?_
        exact v_wiret hr dL_value_14 ⟨rfl, rfl⟩ rfl rfl
    rcases List.mem_cons.mp hm with h1 | hm
    · obtain ⟨rfl, rfl⟩ := Prod.mk.inj h1
      refine ⟨[⟨0, 9, 12, 19⟩], ⟨0, 9, 15, 21⟩, [], rfl, fun z hz => ?_, by decide, by decide, List.mem_of_getElem? (i := 2) rfl, List.mem_of_getElem? (i := 1) rfl, fun n q => ?_⟩
      · rcases List.mem_cons.mp hz with rfl | hz
        · exact ⟨by decide, _, List.mem_of_getElem? (i := 1) rfl, hN (exS, exI) (List.mem_of_getElem? (i := 1) rfl)⟩
        exact absurd hz List.not_mem_nil
      · refine v_astore_n [(3, .ref q), (0, .ref x), (1, .int p1), (2, .ref o)] dL_value_15 rfl (by decide) rfl ?_
        refine v_iconst 2 dL_value_16 (by decide) ?_
        exact v_wiret hr dL_value_17 ⟨rfl, rfl⟩ rfl rfl
    exact absurd hm List.not_mem_nil)
theorem c_L_at (l : Launch) (hfl : l.stackTraces = false) (x : Nat) (p1 p2 : Int32) (o : Nat) : CWr l yL_at wsL_at 8 134 x [.ref x, .int p1, .int p2, .ref o] (f_X4_at x p1 p2) [(exI, 1)] (fun v => masl o 0 v.toInt64) := CWr.start hfl RL rfl (by decide +kernel) rfl (Nat.le_of_ble_eq_true rfl) (fun X G z Gf k Gu hl htb hr hN hf hb0 hR => by
  obtain ⟨fs, hb⟩ := hb0
  have hfx : (xl X).stackTraces = false := by rw [hl]; exact hfl
  refine v_aload_n 3 dL_at_0 rfl rfl ?_
  refine v_iconst 0 dL_at_1 (by decide) ?_
  refine v_aload_n 0 dL_at_2 rfl rfl ?_
  refine v_iload_n 1 dL_at_3 rfl rfl ?_
  refine v_iload_n 2 dL_at_4 rfl rfl ?_
  refine v_wcall (hh := [(0, 10, 13, 19)]) 4 2 [.int p1, .int p2] (c_X4_at (xl X) hfx x p1 p2) gL_at_X4_at rfl (by decide +kernel) (by decide) (by decide) rfl rfl dL_at_5 (Nat.le_of_ble_eq_true rfl) rfl ⟨rfl, rfl⟩ hb hf htb (fun v hv => ?_) (fun E hv => ?_)
  · subst hv
    obtain ⟨rfl, hw, hG2⟩ := hR
    refine v_i2l dL_at_8 ?_
    refine v_last dL_at_9 (R := (Gu, Gu)) (K := fun _ => mst) (by rw [mbind_ok hw]; rfl) (fun G1 _ hg => ?_)
    obtain rfl : Gu = G1 := congrArg Prod.fst (mst_inv hg)
    refine v_goto 17 dL_at_10 (by decide) ?_
    refine v_iconst 0 dL_at_17 (by decide) ?_
    exact v_wiret hr dL_at_18 ⟨(congrArg (fun q : Nat × Nat × Nat => q.2.1) hG2).symm, (congrArg (fun q : Nat × Nat × Nat => q.2.2) hG2).symm⟩ rfl rfl
  · subst hv
    obtain ⟨hm, rfl⟩ := hR
    rcases List.mem_cons.mp hm with h0 | hm
    · obtain ⟨rfl, rfl⟩ := Prod.mk.inj h0
      refine ⟨[], ⟨0, 10, 13, 19⟩, [], rfl, fun z hz => ?_, by decide, by decide, List.mem_of_getElem? (i := 1) rfl, List.mem_of_getElem? (i := 2) rfl, fun n q => ?_⟩
      · exact absurd hz List.not_mem_nil
      · refine v_astore [(4, .ref q), (0, .ref x), (1, .int p1), (2, .int p2), (3, .ref o)] dL_at_13 (by decide) rfl ?_
        refine v_iconst 1 dL_at_15 (by decide) ?_
        exact v_wiret hr dL_at_16 ⟨rfl, rfl⟩ rfl rfl
    exact absurd hm List.not_mem_nil)
theorem c_L_steps (l : Launch) (hfl : l.stackTraces = false) (x : Nat) (p1 p2 : Int32) (o : Nat) : CWr l yL_steps wsL_steps 8 135 x [.ref x, .int p1, .int p2, .ref o] (f_X4_steps x p1 p2) [(exI, 1)] (fun v => masl o 0 v.toInt64) := CWr.start hfl RL rfl (by decide +kernel) rfl (Nat.le_of_ble_eq_true rfl) (fun X G z Gf k Gu hl htb hr hN hf hb0 hR => by
  obtain ⟨fs, hb⟩ := hb0
  have hfx : (xl X).stackTraces = false := by rw [hl]; exact hfl
  refine v_aload_n 3 dL_steps_0 rfl rfl ?_
  refine v_iconst 0 dL_steps_1 (by decide) ?_
  refine v_aload_n 0 dL_steps_2 rfl rfl ?_
  refine v_iload_n 1 dL_steps_3 rfl rfl ?_
  refine v_iload_n 2 dL_steps_4 rfl rfl ?_
  refine v_wcall (hh := [(0, 10, 13, 19)]) 4 2 [.int p1, .int p2] (c_X4_steps (xl X) hfx x p1 p2) gL_steps_X4_steps rfl (by decide +kernel) (by decide) (by decide) rfl rfl dL_steps_5 (Nat.le_of_ble_eq_true rfl) rfl ⟨rfl, rfl⟩ hb hf htb (fun v hv => ?_) (fun E hv => ?_)
  · subst hv
    obtain ⟨rfl, hw, hG2⟩ := hR
    refine v_i2l dL_steps_8 ?_
    refine v_last dL_steps_9 (R := (Gu, Gu)) (K := fun _ => mst) (by rw [mbind_ok hw]; rfl) (fun G1 _ hg => ?_)
    obtain rfl : Gu = G1 := congrArg Prod.fst (mst_inv hg)
    refine v_goto 17 dL_steps_10 (by decide) ?_
    refine v_iconst 0 dL_steps_17 (by decide) ?_
    exact v_wiret hr dL_steps_18 ⟨(congrArg (fun q : Nat × Nat × Nat => q.2.1) hG2).symm, (congrArg (fun q : Nat × Nat × Nat => q.2.2) hG2).symm⟩ rfl rfl
  · subst hv
    obtain ⟨hm, rfl⟩ := hR
    rcases List.mem_cons.mp hm with h0 | hm
    · obtain ⟨rfl, rfl⟩ := Prod.mk.inj h0
      refine ⟨[], ⟨0, 10, 13, 19⟩, [], rfl, fun z hz => ?_, by decide, by decide, List.mem_of_getElem? (i := 1) rfl, List.mem_of_getElem? (i := 2) rfl, fun n q => ?_⟩
      · exact absurd hz List.not_mem_nil
      · refine v_astore [(4, .ref q), (0, .ref x), (1, .int p1), (2, .int p2), (3, .ref o)] dL_steps_13 (by decide) rfl ?_
        refine v_iconst 1 dL_steps_15 (by decide) ?_
        exact v_wiret hr dL_steps_16 ⟨rfl, rfl⟩ rfl rfl
    exact absurd hm List.not_mem_nil)
theorem c_L_count (l : Launch) (hfl : l.stackTraces = false) (x : Nat) (p1 : Int32) (o : Nat) : CWr l yL_count wsL_count 7 119 x [.ref x, .int p1, .ref o] (f_X4_count x p1) [(exA, 1)] (fun v => masl o 0 v.toInt64) := CWr.start hfl RL rfl (by decide +kernel) rfl (Nat.le_of_ble_eq_true rfl) (fun X G z Gf k Gu hl htb hr hN hf hb0 hR => by
  obtain ⟨fs, hb⟩ := hb0
  have hfx : (xl X).stackTraces = false := by rw [hl]; exact hfl
  refine v_aload_n 2 dL_count_0 rfl rfl ?_
  refine v_iconst 0 dL_count_1 (by decide) ?_
  refine v_aload_n 0 dL_count_2 rfl rfl ?_
  refine v_iload_n 1 dL_count_3 rfl rfl ?_
  refine v_wcall (hh := [(0, 9, 12, 13)]) 4 1 [.int p1] (c_X4_count (xl X) hfx x p1) gL_count_X4_count rfl (by decide +kernel) (by decide) (by decide) rfl rfl dL_count_4 (Nat.le_of_ble_eq_true rfl) rfl ⟨rfl, rfl⟩ hb hf htb (fun v hv => ?_) (fun E hv => ?_)
  · subst hv
    obtain ⟨rfl, hw, hG2⟩ := hR
    refine v_i2l dL_count_7 ?_
    refine v_last dL_count_8 (R := (Gu, Gu)) (K := fun _ => mst) (by rw [mbind_ok hw]; rfl) (fun G1 _ hg => ?_)
    obtain rfl : Gu = G1 := congrArg Prod.fst (mst_inv hg)
    refine v_goto 15 dL_count_9 (by decide) ?_
    refine v_iconst 0 dL_count_15 (by decide) ?_
    exact v_wiret hr dL_count_16 ⟨(congrArg (fun q : Nat × Nat × Nat => q.2.1) hG2).symm, (congrArg (fun q : Nat × Nat × Nat => q.2.2) hG2).symm⟩ rfl rfl
  · subst hv
    obtain ⟨hm, rfl⟩ := hR
    rcases List.mem_cons.mp hm with h0 | hm
    · obtain ⟨rfl, rfl⟩ := Prod.mk.inj h0
      refine ⟨[], ⟨0, 9, 12, 13⟩, [], rfl, fun z hz => ?_, by decide, by decide, List.mem_of_getElem? (i := 1) rfl, List.mem_of_getElem? (i := 0) rfl, fun n q => ?_⟩
      · exact absurd hz List.not_mem_nil
      · refine v_astore_n [(3, .ref q), (0, .ref x), (1, .int p1), (2, .ref o)] dL_count_12 rfl (by decide) rfl ?_
        refine v_iconst 1 dL_count_13 (by decide) ?_
        exact v_wiret hr dL_count_14 ⟨rfl, rfl⟩ rfl rfl
    exact absurd hm List.not_mem_nil)
theorem c_L_setting (l : Launch) (hfl : l.stackTraces = false) (x : Nat) (p1 : Int32) (o : Nat) : CWr l yL_setting wsL_setting 7 111 x [.ref x, .int p1, .ref o] (f_X4_setting x p1) [(exA, 1)] (fun v => masl o 0 v.toInt64) := CWr.start hfl RL rfl (by decide +kernel) rfl (Nat.le_of_ble_eq_true rfl) (fun X G z Gf k Gu hl htb hr hN hf hb0 hR => by
  obtain ⟨fs, hb⟩ := hb0
  have hfx : (xl X).stackTraces = false := by rw [hl]; exact hfl
  refine v_aload_n 2 dL_setting_0 rfl rfl ?_
  refine v_iconst 0 dL_setting_1 (by decide) ?_
  refine v_aload_n 0 dL_setting_2 rfl rfl ?_
  refine v_iload_n 1 dL_setting_3 rfl rfl ?_
  refine v_wcall (hh := [(0, 9, 12, 13)]) 4 1 [.int p1] (c_X4_setting (xl X) hfx x p1) gL_setting_X4_setting rfl (by decide +kernel) (by decide) (by decide) rfl rfl dL_setting_4 (Nat.le_of_ble_eq_true rfl) rfl ⟨rfl, rfl⟩ hb hf htb (fun v hv => ?_) (fun E hv => ?_)
  · subst hv
    obtain ⟨rfl, hw, hG2⟩ := hR
    refine v_i2l dL_setting_7 ?_
    refine v_last dL_setting_8 (R := (Gu, Gu)) (K := fun _ => mst) (by rw [mbind_ok hw]; rfl) (fun G1 _ hg => ?_)
    obtain rfl : Gu = G1 := congrArg Prod.fst (mst_inv hg)
    refine v_goto 15 dL_setting_9 (by decide) ?_
    refine v_iconst 0 dL_setting_15 (by decide) ?_
    exact v_wiret hr dL_setting_16 ⟨(congrArg (fun q : Nat × Nat × Nat => q.2.1) hG2).symm, (congrArg (fun q : Nat × Nat × Nat => q.2.2) hG2).symm⟩ rfl rfl
  · subst hv
    obtain ⟨hm, rfl⟩ := hR
    rcases List.mem_cons.mp hm with h0 | hm
    · obtain ⟨rfl, rfl⟩ := Prod.mk.inj h0
      refine ⟨[], ⟨0, 9, 12, 13⟩, [], rfl, fun z hz => ?_, by decide, by decide, List.mem_of_getElem? (i := 1) rfl, List.mem_of_getElem? (i := 0) rfl, fun n q => ?_⟩
      · exact absurd hz List.not_mem_nil
      · refine v_astore_n [(3, .ref q), (0, .ref x), (1, .int p1), (2, .ref o)] dL_setting_12 rfl (by decide) rfl ?_
        refine v_iconst 1 dL_setting_13 (by decide) ?_
        exact v_wiret hr dL_setting_14 ⟨rfl, rfl⟩ rfl rfl
    exact absurd hm List.not_mem_nil)
theorem c_L_common (l : Launch) (hfl : l.stackTraces = false) (x : Nat) (p1 p2 : Int32) (o : Nat) : CWr l yL_common wsL_common 8 133 x [.ref x, .int p1, .int p2, .ref o] (f_X4_common x p1 p2) [(exI, 1)] (fun v => masl o 0 v.toInt64) := CWr.start hfl RL rfl (by decide +kernel) rfl (Nat.le_of_ble_eq_true rfl) (fun X G z Gf k Gu hl htb hr hN hf hb0 hR => by
  obtain ⟨fs, hb⟩ := hb0
  have hfx : (xl X).stackTraces = false := by rw [hl]; exact hfl
  refine v_aload_n 3 dL_common_0 rfl rfl ?_
  refine v_iconst 0 dL_common_1 (by decide) ?_
  refine v_aload_n 0 dL_common_2 rfl rfl ?_
  refine v_iload_n 1 dL_common_3 rfl rfl ?_
  refine v_iload_n 2 dL_common_4 rfl rfl ?_
  refine v_wcall (hh := [(0, 10, 13, 19)]) 4 2 [.int p1, .int p2] (c_X4_common (xl X) hfx x p1 p2) gL_common_X4_common rfl (by decide +kernel) (by decide) (by decide) rfl rfl dL_common_5 (Nat.le_of_ble_eq_true rfl) rfl ⟨rfl, rfl⟩ hb hf htb (fun v hv => ?_) (fun E hv => ?_)
  · subst hv
    obtain ⟨rfl, hw, hG2⟩ := hR
    refine v_i2l dL_common_8 ?_
    refine v_last dL_common_9 (R := (Gu, Gu)) (K := fun _ => mst) (by rw [mbind_ok hw]; rfl) (fun G1 _ hg => ?_)
    obtain rfl : Gu = G1 := congrArg Prod.fst (mst_inv hg)
    refine v_goto 17 dL_common_10 (by decide) ?_
    refine v_iconst 0 dL_common_17 (by decide) ?_
    exact v_wiret hr dL_common_18 ⟨(congrArg (fun q : Nat × Nat × Nat => q.2.1) hG2).symm, (congrArg (fun q : Nat × Nat × Nat => q.2.2) hG2).symm⟩ rfl rfl
  · subst hv
    obtain ⟨hm, rfl⟩ := hR
    rcases List.mem_cons.mp hm with h0 | hm
    · obtain ⟨rfl, rfl⟩ := Prod.mk.inj h0
      refine ⟨[], ⟨0, 10, 13, 19⟩, [], rfl, fun z hz => ?_, by decide, by decide, List.mem_of_getElem? (i := 1) rfl, List.mem_of_getElem? (i := 2) rfl, fun n q => ?_⟩
      · exact absurd hz List.not_mem_nil
      · refine v_astore [(4, .ref q), (0, .ref x), (1, .int p1), (2, .int p2), (3, .ref o)] dL_common_13 (by decide) rfl ?_
        refine v_iconst 1 dL_common_15 (by decide) ?_
        exact v_wiret hr dL_common_16 ⟨rfl, rfl⟩ rfl rfl
    exact absurd hm List.not_mem_nil)
theorem c_L_same (l : Launch) (hfl : l.stackTraces = false) (x : Nat) (p1 p2 : Int32) (o : Nat) : CWr l yL_same wsL_same 8 133 x [.ref x, .int p1, .int p2, .ref o] (f_X4_same x p1 p2) [(exI, 1)] (fun v => masl o 0 (if v = 0 then 0 else 1)) := CWr.start hfl RL rfl (by decide +kernel) rfl (Nat.le_of_ble_eq_true rfl) (fun X G z Gf k Gu hl htb hr hN hf hb0 hR => by
  obtain ⟨fs, hb⟩ := hb0
  have hfx : (xl X).stackTraces = false := by rw [hl]; exact hfl
  refine v_aload_n 3 dL_same_0 rfl rfl ?_
  refine v_iconst 0 dL_same_1 (by decide) ?_
  refine v_aload_n 0 dL_same_2 rfl rfl ?_
  refine v_iload_n 1 dL_same_3 rfl rfl ?_
  refine v_iload_n 2 dL_same_4 rfl rfl ?_
  refine v_wcall (hh := [(0, 17, 20, 19)]) 4 2 [.int p1, .int p2] (c_X4_same (xl X) hfx x p1 p2) gL_same_X4_same rfl (by decide +kernel) (by decide) (by decide) rfl rfl dL_same_5 (Nat.le_of_ble_eq_true rfl) rfl ⟨rfl, rfl⟩ hb hf htb (fun v hv => ?_) (fun E hv => ?_)
  · subst hv
    obtain ⟨rfl, hw, hG2⟩ := hR
    have hw : (masl o 0 (if v = 0 then 0 else 1)).1 Gf = some ((), Gu) := hw
    by_cases hv0 : v = 0
    · rw [if_pos hv0] at hw
      refine v_if_eq_t 15 dL_same_8 (by decide) hv0 ?_
      refine v_lconst 0 dL_same_15 (by decide) ?_
      refine v_last dL_same_16 (R := (Gu, Gu)) (K := fun _ => mst) (by rw [mbind_ok hw]; rfl) (fun G1 _ hg => ?_)
      obtain rfl : Gu = G1 := congrArg Prod.fst (mst_inv hg)
      refine v_goto 24 dL_same_17 (by decide) ?_
      refine v_iconst 0 dL_same_24 (by decide) ?_
      exact v_wiret hr dL_same_25 ⟨(congrArg (fun q : Nat × Nat × Nat => q.2.1) hG2).symm, (congrArg (fun q : Nat × Nat × Nat => q.2.2) hG2).symm⟩ rfl rfl
    · rw [if_neg hv0] at hw
      refine v_if_eq_f 15 dL_same_8 (by decide) hv0 ?_
      refine v_lconst 1 dL_same_11 (by decide) ?_
      refine v_goto 16 dL_same_12 (by decide) ?_
      refine v_last dL_same_16 (R := (Gu, Gu)) (K := fun _ => mst) (by rw [mbind_ok hw]; rfl) (fun G1 _ hg => ?_)
      obtain rfl : Gu = G1 := congrArg Prod.fst (mst_inv hg)
      refine v_goto 24 dL_same_17 (by decide) ?_
      refine v_iconst 0 dL_same_24 (by decide) ?_
      exact v_wiret hr dL_same_25 ⟨(congrArg (fun q : Nat × Nat × Nat => q.2.1) hG2).symm, (congrArg (fun q : Nat × Nat × Nat => q.2.2) hG2).symm⟩ rfl rfl
  · subst hv
    obtain ⟨hm, rfl⟩ := hR
    rcases List.mem_cons.mp hm with h0 | hm
    · obtain ⟨rfl, rfl⟩ := Prod.mk.inj h0
      refine ⟨[], ⟨0, 17, 20, 19⟩, [], rfl, fun z hz => ?_, by decide, by decide, List.mem_of_getElem? (i := 1) rfl, List.mem_of_getElem? (i := 2) rfl, fun n q => ?_⟩
      · exact absurd hz List.not_mem_nil
      · refine v_astore [(4, .ref q), (0, .ref x), (1, .int p1), (2, .int p2), (3, .ref o)] dL_same_20 (by decide) rfl ?_
        refine v_iconst 1 dL_same_22 (by decide) ?_
        exact v_wiret hr dL_same_23 ⟨rfl, rfl⟩ rfl rfl
    exact absurd hm List.not_mem_nil)
theorem c_L_firstLike (l : Launch) (hfl : l.stackTraces = false) (x : Nat) (p1 : Int32) (o : Nat) : CWr l yL_firstLike wsL_firstLike 8 132 x [.ref x, .int p1, .ref o] (f_X4_firstLike x p1) [(exI, 1)] (fun v => masl o 0 v.toInt64) := CWr.start hfl RL rfl (by decide +kernel) rfl (Nat.le_of_ble_eq_true rfl) (fun X G z Gf k Gu hl htb hr hN hf hb0 hR => by
  obtain ⟨fs, hb⟩ := hb0
  have hfx : (xl X).stackTraces = false := by rw [hl]; exact hfl
  refine v_aload_n 2 dL_firstLike_0 rfl rfl ?_
  refine v_iconst 0 dL_firstLike_1 (by decide) ?_
  refine v_aload_n 0 dL_firstLike_2 rfl rfl ?_
  refine v_iload_n 1 dL_firstLike_3 rfl rfl ?_
  refine v_wcall (hh := [(0, 9, 12, 19)]) 4 1 [.int p1] (c_X4_firstLike (xl X) hfx x p1) gL_firstLike_X4_firstLike rfl (by decide +kernel) (by decide) (by decide) rfl rfl dL_firstLike_4 (Nat.le_of_ble_eq_true rfl) rfl ⟨rfl, rfl⟩ hb hf htb (fun v hv => ?_) (fun E hv => ?_)
  · subst hv
    obtain ⟨rfl, hw, hG2⟩ := hR
    refine v_i2l dL_firstLike_7 ?_
    refine v_last dL_firstLike_8 (R := (Gu, Gu)) (K := fun _ => mst) (by rw [mbind_ok hw]; rfl) (fun G1 _ hg => ?_)
    obtain rfl : Gu = G1 := congrArg Prod.fst (mst_inv hg)
    refine v_goto 15 dL_firstLike_9 (by decide) ?_
    refine v_iconst 0 dL_firstLike_15 (by decide) ?_
    exact v_wiret hr dL_firstLike_16 ⟨(congrArg (fun q : Nat × Nat × Nat => q.2.1) hG2).symm, (congrArg (fun q : Nat × Nat × Nat => q.2.2) hG2).symm⟩ rfl rfl
  · subst hv
    obtain ⟨hm, rfl⟩ := hR
    rcases List.mem_cons.mp hm with h0 | hm
    · obtain ⟨rfl, rfl⟩ := Prod.mk.inj h0
      refine ⟨[], ⟨0, 9, 12, 19⟩, [], rfl, fun z hz => ?_, by decide, by decide, List.mem_of_getElem? (i := 1) rfl, List.mem_of_getElem? (i := 2) rfl, fun n q => ?_⟩
      · exact absurd hz List.not_mem_nil
      · refine v_astore_n [(3, .ref q), (0, .ref x), (1, .int p1), (2, .ref o)] dL_firstLike_12 rfl (by decide) rfl ?_
        refine v_iconst 1 dL_firstLike_13 (by decide) ?_
        exact v_wiret hr dL_firstLike_14 ⟨rfl, rfl⟩ rfl rfl
    exact absurd hm List.not_mem_nil)
theorem c_L_worst (l : Launch) (hfl : l.stackTraces = false) (x : Nat) (p1 : Int32) (o : Nat) : CWr l yL_worst wsL_worst 8 132 x [.ref x, .int p1, .ref o] (f_X4_worst x p1) [(exI, 1)] (fun v => masl o 0 v.toInt64) := CWr.start hfl RL rfl (by decide +kernel) rfl (Nat.le_of_ble_eq_true rfl) (fun X G z Gf k Gu hl htb hr hN hf hb0 hR => by
  obtain ⟨fs, hb⟩ := hb0
  have hfx : (xl X).stackTraces = false := by rw [hl]; exact hfl
  refine v_aload_n 2 dL_worst_0 rfl rfl ?_
  refine v_iconst 0 dL_worst_1 (by decide) ?_
  refine v_aload_n 0 dL_worst_2 rfl rfl ?_
  refine v_iload_n 1 dL_worst_3 rfl rfl ?_
  refine v_wcall (hh := [(0, 9, 12, 19)]) 4 1 [.int p1] (c_X4_worst (xl X) hfx x p1) gL_worst_X4_worst rfl (by decide +kernel) (by decide) (by decide) rfl rfl dL_worst_4 (Nat.le_of_ble_eq_true rfl) rfl ⟨rfl, rfl⟩ hb hf htb (fun v hv => ?_) (fun E hv => ?_)
  · subst hv
    obtain ⟨rfl, hw, hG2⟩ := hR
    refine v_i2l dL_worst_7 ?_
    refine v_last dL_worst_8 (R := (Gu, Gu)) (K := fun _ => mst) (by rw [mbind_ok hw]; rfl) (fun G1 _ hg => ?_)
    obtain rfl : Gu = G1 := congrArg Prod.fst (mst_inv hg)
    refine v_goto 15 dL_worst_9 (by decide) ?_
    refine v_iconst 0 dL_worst_15 (by decide) ?_
    exact v_wiret hr dL_worst_16 ⟨(congrArg (fun q : Nat × Nat × Nat => q.2.1) hG2).symm, (congrArg (fun q : Nat × Nat × Nat => q.2.2) hG2).symm⟩ rfl rfl
  · subst hv
    obtain ⟨hm, rfl⟩ := hR
    rcases List.mem_cons.mp hm with h0 | hm
    · obtain ⟨rfl, rfl⟩ := Prod.mk.inj h0
      refine ⟨[], ⟨0, 9, 12, 19⟩, [], rfl, fun z hz => ?_, by decide, by decide, List.mem_of_getElem? (i := 1) rfl, List.mem_of_getElem? (i := 2) rfl, fun n q => ?_⟩
      · exact absurd hz List.not_mem_nil
      · refine v_astore_n [(3, .ref q), (0, .ref x), (1, .int p1), (2, .ref o)] dL_worst_12 rfl (by decide) rfl ?_
        refine v_iconst 1 dL_worst_13 (by decide) ?_
        exact v_wiret hr dL_worst_14 ⟨rfl, rfl⟩ rfl rfl
    exact absurd hm List.not_mem_nil)
theorem c_L_mean (l : Launch) (hfl : l.stackTraces = false) (x : Nat) (p1 : Int32) (o : Nat) : CWr l yL_mean wsL_mean 8 133 x [.ref x, .int p1, .ref o] (f_X4_mean x p1) [(exI, 1)] (fun v => masd o 0 v) := CWr.start hfl RL rfl (by decide +kernel) rfl (Nat.le_of_ble_eq_true rfl) (fun X G z Gf k Gu hl htb hr hN hf hb0 hR => by
  obtain ⟨fs, hb⟩ := hb0
  have hfx : (xl X).stackTraces = false := by rw [hl]; exact hfl
  refine v_aload_n 2 dL_mean_0 rfl rfl ?_
  refine v_iconst 0 dL_mean_1 (by decide) ?_
  refine v_aload_n 0 dL_mean_2 rfl rfl ?_
  refine v_iload_n 1 dL_mean_3 rfl rfl ?_
  refine v_wcall (hh := [(0, 8, 11, 19)]) 4 1 [.int p1] (c_X4_mean (xl X) hfx x p1) gL_mean_X4_mean rfl (by decide +kernel) (by decide) (by decide) rfl rfl dL_mean_4 (Nat.le_of_ble_eq_true rfl) rfl ⟨rfl, rfl⟩ hb hf htb (fun v hv => ?_) (fun E hv => ?_)
  · subst hv
    obtain ⟨rfl, hw, hG2⟩ := hR
    refine v_dast dL_mean_7 (R := (Gu, Gu)) (K := fun _ => mst) (by rw [mbind_ok hw]; rfl) (fun G1 _ hg => ?_)
    obtain rfl : Gu = G1 := congrArg Prod.fst (mst_inv hg)
    refine v_goto 14 dL_mean_8 (by decide) ?_
    refine v_iconst 0 dL_mean_14 (by decide) ?_
    exact v_wiret hr dL_mean_15 ⟨(congrArg (fun q : Nat × Nat × Nat => q.2.1) hG2).symm, (congrArg (fun q : Nat × Nat × Nat => q.2.2) hG2).symm⟩ rfl rfl
  · subst hv
    obtain ⟨hm, rfl⟩ := hR
    rcases List.mem_cons.mp hm with h0 | hm
    · obtain ⟨rfl, rfl⟩ := Prod.mk.inj h0
      refine ⟨[], ⟨0, 8, 11, 19⟩, [], rfl, fun z hz => ?_, by decide, by decide, List.mem_of_getElem? (i := 1) rfl, List.mem_of_getElem? (i := 2) rfl, fun n q => ?_⟩
      · exact absurd hz List.not_mem_nil
      · refine v_astore_n [(3, .ref q), (0, .ref x), (1, .int p1), (2, .ref o)] dL_mean_11 rfl (by decide) rfl ?_
        refine v_iconst 1 dL_mean_12 (by decide) ?_
        exact v_wiret hr dL_mean_13 ⟨rfl, rfl⟩ rfl rfl
    exact absurd hm List.not_mem_nil)
theorem c_L_append (l : Launch) (hfl : l.stackTraces = false) (x : Nat) (p1 : Int32) (o : Nat) : CWr l yL_append wsL_append 7 111 x [.ref x, .int p1, .ref o] (f_X4_append x p1) [(exA, 1), (exS, 2)] (fun v => masl o 0 v.toInt64) := CWr.start hfl RL rfl (by decide +kernel) rfl (Nat.le_of_ble_eq_true rfl) (fun X G z Gf k Gu hl htb hr hN hf hb0 hR => by
  obtain ⟨fs, hb⟩ := hb0
  have hfx : (xl X).stackTraces = false := by rw [hl]; exact hfl
  refine v_aload_n 2 dL_append_0 rfl rfl ?_
  refine v_iconst 0 dL_append_1 (by decide) ?_
  refine v_aload_n 0 dL_append_2 rfl rfl ?_
  refine v_iload_n 1 dL_append_3 rfl rfl ?_
  refine v_wcall (hh := [(0, 9, 12, 13), (0, 9, 15, 21)]) 4 1 [.int p1] (c_X4_append (xl X) hfx x p1) gL_append_X4_append rfl (by decide +kernel) (by decide) (by decide) rfl rfl dL_append_4 (Nat.le_of_ble_eq_true rfl) rfl ⟨rfl, rfl⟩ hb hf htb (fun v hv => ?_) (fun E hv => ?_)
  · subst hv
    obtain ⟨rfl, hw, hG2⟩ := hR
    refine v_i2l dL_append_7 ?_
    refine v_last dL_append_8 (R := (Gu, Gu)) (K := fun _ => mst) (by rw [mbind_ok hw]; rfl) (fun G1 _ hg => ?_)
    obtain rfl : Gu = G1 := congrArg Prod.fst (mst_inv hg)
    refine v_goto 18 dL_append_9 (by decide) ?_
    refine v_iconst 0 dL_append_18 (by decide) ?_
    exact v_wiret hr dL_append_19 ⟨(congrArg (fun q : Nat × Nat × Nat => q.2.1) hG2).symm, (congrArg (fun q : Nat × Nat × Nat => q.2.2) hG2).symm⟩ rfl rfl
  · subst hv
    obtain ⟨hm, rfl⟩ := hR
    rcases List.mem_cons.mp hm with h0 | hm
    · obtain ⟨rfl, rfl⟩ := Prod.mk.inj h0
      refine ⟨[], ⟨0, 9, 12, 13⟩, [⟨0, 9, 15, 21⟩], rfl, fun z hz => ?_, by decide, by decide, List.mem_of_getElem? (i := 1) rfl, List.mem_of_getElem? (i := 0) rfl, fun n q => ?_⟩
      · exact absurd hz List.not_mem_nil
      · refine v_astore_n [(3, .ref q), (0, .ref x), (1, .int p1), (2, .ref o)] dL_append_12 rfl (by decide) rfl ?_
        refine v_iconst 1 dL_append_13 (by decide) ?_
        exact v_wiret hr dL_append_14 ⟨rfl, rfl⟩ rfl rfl
    rcases List.mem_cons.mp hm with h1 | hm
    · obtain ⟨rfl, rfl⟩ := Prod.mk.inj h1
      refine ⟨[⟨0, 9, 12, 13⟩], ⟨0, 9, 15, 21⟩, [], rfl, fun z hz => ?_, by decide, by decide, List.mem_of_getElem? (i := 2) rfl, List.mem_of_getElem? (i := 1) rfl, fun n q => ?_⟩
      · rcases List.mem_cons.mp hz with rfl | hz
        · exact ⟨by decide, _, List.mem_of_getElem? (i := 1) rfl, hN (exS, exA) (List.mem_of_getElem? (i := 2) rfl)⟩
        exact absurd hz List.not_mem_nil
      · refine v_astore_n [(3, .ref q), (0, .ref x), (1, .int p1), (2, .ref o)] dL_append_15 rfl (by decide) rfl ?_
        refine v_iconst 2 dL_append_16 (by decide) ?_
        exact v_wiret hr dL_append_17 ⟨rfl, rfl⟩ rfl rfl
    exact absurd hm List.not_mem_nil)
theorem c_L_run (l : Launch) (hfl : l.stackTraces = false) (x : Nat) (p1 : Int32) (o : Nat) : CWr l yL_run wsL_run 8 166 x [.ref x, .int p1, .ref o] (f_X4_run x p1) [(exI, 1)] (fun v => masl o 0 v.toInt64) := CWr.start hfl RL rfl (by decide +kernel) rfl (Nat.le_of_ble_eq_true rfl) (fun X G z Gf k Gu hl htb hr hN hf hb0 hR => by
  obtain ⟨fs, hb⟩ := hb0
  have hfx : (xl X).stackTraces = false := by rw [hl]; exact hfl
  refine v_aload_n 2 dL_run_0 rfl rfl ?_
  refine v_iconst 0 dL_run_1 (by decide) ?_
  refine v_aload_n 0 dL_run_2 rfl rfl ?_
  refine v_iload_n 1 dL_run_3 rfl rfl ?_
  refine v_wcall (hh := [(0, 9, 12, 19)]) 4 1 [.int p1] (c_X4_run (xl X) hfx x p1) gL_run_X4_run rfl (by decide +kernel) (by decide) (by decide) rfl rfl dL_run_4 (Nat.le_of_ble_eq_true rfl) rfl ⟨rfl, rfl⟩ hb hf htb (fun v hv => ?_) (fun E hv => ?_)
  · subst hv
    obtain ⟨rfl, hw, hG2⟩ := hR
    refine v_i2l dL_run_7 ?_
    refine v_last dL_run_8 (R := (Gu, Gu)) (K := fun _ => mst) (by rw [mbind_ok hw]; rfl) (fun G1 _ hg => ?_)
    obtain rfl : Gu = G1 := congrArg Prod.fst (mst_inv hg)
    refine v_goto 15 dL_run_9 (by decide) ?_
    refine v_iconst 0 dL_run_15 (by decide) ?_
    exact v_wiret hr dL_run_16 ⟨(congrArg (fun q : Nat × Nat × Nat => q.2.1) hG2).symm, (congrArg (fun q : Nat × Nat × Nat => q.2.2) hG2).symm⟩ rfl rfl
  · subst hv
    obtain ⟨hm, rfl⟩ := hR
    rcases List.mem_cons.mp hm with h0 | hm
    · obtain ⟨rfl, rfl⟩ := Prod.mk.inj h0
      refine ⟨[], ⟨0, 9, 12, 19⟩, [], rfl, fun z hz => ?_, by decide, by decide, List.mem_of_getElem? (i := 1) rfl, List.mem_of_getElem? (i := 2) rfl, fun n q => ?_⟩
      · exact absurd hz List.not_mem_nil
      · refine v_astore_n [(3, .ref q), (0, .ref x), (1, .int p1), (2, .ref o)] dL_run_12 rfl (by decide) rfl ?_
        refine v_iconst 1 dL_run_13 (by decide) ?_
        exact v_wiret hr dL_run_14 ⟨rfl, rfl⟩ rfl rfl
    exact absurd hm List.not_mem_nil)
theorem c_L_stalls (l : Launch) (hfl : l.stackTraces = false) (x : Nat) (p1 p2 : Int32) (o : Nat) : CWr l yL_stalls wsL_stalls 8 142 x [.ref x, .int p1, .int p2, .ref o] (f_X4_stalls x p1 p2) [(exI, 1), (exA, 2), (exS, 3)] (fun v => masl o 0 v.toInt64) := CWr.start hfl RL rfl (by decide +kernel) rfl (Nat.le_of_ble_eq_true rfl) (fun X G z Gf k Gu hl htb hr hN hf hb0 hR => by
  obtain ⟨fs, hb⟩ := hb0
  have hfx : (xl X).stackTraces = false := by rw [hl]; exact hfl
  refine v_aload_n 3 dL_stalls_0 rfl rfl ?_
  refine v_iconst 0 dL_stalls_1 (by decide) ?_
  refine v_aload_n 0 dL_stalls_2 rfl rfl ?_
  refine v_iload_n 1 dL_stalls_3 rfl rfl ?_
  refine v_iload_n 2 dL_stalls_4 rfl rfl ?_
  refine v_wcall (hh := [(0, 10, 13, 19), (0, 10, 17, 13), (0, 10, 21, 21)]) 4 2 [.int p1, .int p2] (c_X4_stalls (xl X) hfx x p1 p2) gL_stalls_X4_stalls rfl (by decide +kernel) (by decide) (by decide) rfl rfl dL_stalls_5 (Nat.le_of_ble_eq_true rfl) rfl ⟨rfl, rfl⟩ hb hf htb (fun v hv => ?_) (fun E hv => ?_)
  · subst hv
    obtain ⟨rfl, hw, hG2⟩ := hR
    refine v_i2l dL_stalls_8 ?_
    refine v_last dL_stalls_9 (R := (Gu, Gu)) (K := fun _ => mst) (by rw [mbind_ok hw]; rfl) (fun G1 _ hg => ?_)
    obtain rfl : Gu = G1 := congrArg Prod.fst (mst_inv hg)
    refine v_goto 25 dL_stalls_10 (by decide) ?_
    refine v_iconst 0 dL_stalls_25 (by decide) ?_
    exact v_wiret hr dL_stalls_26 ⟨(congrArg (fun q : Nat × Nat × Nat => q.2.1) hG2).symm, (congrArg (fun q : Nat × Nat × Nat => q.2.2) hG2).symm⟩ rfl rfl
  · subst hv
    obtain ⟨hm, rfl⟩ := hR
    rcases List.mem_cons.mp hm with h0 | hm
    · obtain ⟨rfl, rfl⟩ := Prod.mk.inj h0
      refine ⟨[], ⟨0, 10, 13, 19⟩, [⟨0, 10, 17, 13⟩, ⟨0, 10, 21, 21⟩], rfl, fun z hz => ?_, by decide, by decide, List.mem_of_getElem? (i := 1) rfl, List.mem_of_getElem? (i := 2) rfl, fun n q => ?_⟩
      · exact absurd hz List.not_mem_nil
      · refine v_astore [(4, .ref q), (0, .ref x), (1, .int p1), (2, .int p2), (3, .ref o)] dL_stalls_13 (by decide) rfl ?_
        refine v_iconst 1 dL_stalls_15 (by decide) ?_
        exact v_wiret hr dL_stalls_16 ⟨rfl, rfl⟩ rfl rfl
    rcases List.mem_cons.mp hm with h1 | hm
    · obtain ⟨rfl, rfl⟩ := Prod.mk.inj h1
      refine ⟨[⟨0, 10, 13, 19⟩], ⟨0, 10, 17, 13⟩, [⟨0, 10, 21, 21⟩], rfl, fun z hz => ?_, by decide, by decide, List.mem_of_getElem? (i := 2) rfl, List.mem_of_getElem? (i := 0) rfl, fun n q => ?_⟩
      · rcases List.mem_cons.mp hz with rfl | hz
        · exact ⟨by decide, _, List.mem_of_getElem? (i := 1) rfl, hN (exA, exI) (List.mem_of_getElem? (i := 0) rfl)⟩
        exact absurd hz List.not_mem_nil
      · refine v_astore [(4, .ref q), (0, .ref x), (1, .int p1), (2, .int p2), (3, .ref o)] dL_stalls_17 (by decide) rfl ?_
        refine v_iconst 2 dL_stalls_19 (by decide) ?_
        exact v_wiret hr dL_stalls_20 ⟨rfl, rfl⟩ rfl rfl
    rcases List.mem_cons.mp hm with h2 | hm
    · obtain ⟨rfl, rfl⟩ := Prod.mk.inj h2
      refine ⟨[⟨0, 10, 13, 19⟩, ⟨0, 10, 17, 13⟩], ⟨0, 10, 21, 21⟩, [], rfl, fun z hz => ?_, by decide, by decide, List.mem_of_getElem? (i := 3) rfl, List.mem_of_getElem? (i := 1) rfl, fun n q => ?_⟩
      · rcases List.mem_cons.mp hz with rfl | hz
        · exact ⟨by decide, _, List.mem_of_getElem? (i := 1) rfl, hN (exS, exI) (List.mem_of_getElem? (i := 1) rfl)⟩
        rcases List.mem_cons.mp hz with rfl | hz
        · exact ⟨by decide, _, List.mem_of_getElem? (i := 2) rfl, hN (exS, exA) (List.mem_of_getElem? (i := 2) rfl)⟩
        exact absurd hz List.not_mem_nil
      · refine v_astore [(4, .ref q), (0, .ref x), (1, .int p1), (2, .int p2), (3, .ref o)] dL_stalls_21 (by decide) rfl ?_
        refine v_iconst 3 dL_stalls_23 (by decide) ?_
        exact v_wiret hr dL_stalls_24 ⟨rfl, rfl⟩ rfl rfl
    exact absurd hm List.not_mem_nil)
theorem c_L_worstWith (l : Launch) (hfl : l.stackTraces = false) (x : Nat) (p1 p2 : Int32) (o : Nat) : CWr l yL_worstWith wsL_worstWith 8 142 x [.ref x, .int p1, .int p2, .ref o] (f_X4_worstWith x p1 p2) [(exI, 1), (exA, 2), (exS, 3)] (fun v => masl o 0 v.toInt64) := CWr.start hfl RL rfl (by decide +kernel) rfl (Nat.le_of_ble_eq_true rfl) (fun X G z Gf k Gu hl htb hr hN hf hb0 hR => by
  obtain ⟨fs, hb⟩ := hb0
  have hfx : (xl X).stackTraces = false := by rw [hl]; exact hfl
  refine v_aload_n 3 dL_worstWith_0 rfl rfl ?_
  refine v_iconst 0 dL_worstWith_1 (by decide) ?_
  refine v_aload_n 0 dL_worstWith_2 rfl rfl ?_
  refine v_iload_n 1 dL_worstWith_3 rfl rfl ?_
  refine v_iload_n 2 dL_worstWith_4 rfl rfl ?_
  refine v_wcall (hh := [(0, 10, 13, 19), (0, 10, 17, 13), (0, 10, 21, 21)]) 4 2 [.int p1, .int p2] (c_X4_worstWith (xl X) hfx x p1 p2) gL_worstWith_X4_worstWith rfl (by decide +kernel) (by decide) (by decide) rfl rfl dL_worstWith_5 (Nat.le_of_ble_eq_true rfl) rfl ⟨rfl, rfl⟩ hb hf htb (fun v hv => ?_) (fun E hv => ?_)
  · subst hv
    obtain ⟨rfl, hw, hG2⟩ := hR
    refine v_i2l dL_worstWith_8 ?_
    refine v_last dL_worstWith_9 (R := (Gu, Gu)) (K := fun _ => mst) (by rw [mbind_ok hw]; rfl) (fun G1 _ hg => ?_)
    obtain rfl : Gu = G1 := congrArg Prod.fst (mst_inv hg)
    refine v_goto 25 dL_worstWith_10 (by decide) ?_
    refine v_iconst 0 dL_worstWith_25 (by decide) ?_
    exact v_wiret hr dL_worstWith_26 ⟨(congrArg (fun q : Nat × Nat × Nat => q.2.1) hG2).symm, (congrArg (fun q : Nat × Nat × Nat => q.2.2) hG2).symm⟩ rfl rfl
  · subst hv
    obtain ⟨hm, rfl⟩ := hR
    rcases List.mem_cons.mp hm with h0 | hm
    · obtain ⟨rfl, rfl⟩ := Prod.mk.inj h0
      refine ⟨[], ⟨0, 10, 13, 19⟩, [⟨0, 10, 17, 13⟩, ⟨0, 10, 21, 21⟩], rfl, fun z hz => ?_, by decide, by decide, List.mem_of_getElem? (i := 1) rfl, List.mem_of_getElem? (i := 2) rfl, fun n q => ?_⟩
      · exact absurd hz List.not_mem_nil
      · refine v_astore [(4, .ref q), (0, .ref x), (1, .int p1), (2, .int p2), (3, .ref o)] dL_worstWith_13 (by decide) rfl ?_
        refine v_iconst 1 dL_worstWith_15 (by decide) ?_
        exact v_wiret hr dL_worstWith_16 ⟨rfl, rfl⟩ rfl rfl
    rcases List.mem_cons.mp hm with h1 | hm
    · obtain ⟨rfl, rfl⟩ := Prod.mk.inj h1
      refine ⟨[⟨0, 10, 13, 19⟩], ⟨0, 10, 17, 13⟩, [⟨0, 10, 21, 21⟩], rfl, fun z hz => ?_, by decide, by decide, List.mem_of_getElem? (i := 2) rfl, List.mem_of_getElem? (i := 0) rfl, fun n q => ?_⟩
      · rcases List.mem_cons.mp hz with rfl | hz
        · exact ⟨by decide, _, List.mem_of_getElem? (i := 1) rfl, hN (exA, exI) (List.mem_of_getElem? (i := 0) rfl)⟩
        exact absurd hz List.not_mem_nil
      · refine v_astore [(4, .ref q), (0, .ref x), (1, .int p1), (2, .int p2), (3, .ref o)] dL_worstWith_17 (by decide) rfl ?_
        refine v_iconst 2 dL_worstWith_19 (by decide) ?_
        exact v_wiret hr dL_worstWith_20 ⟨rfl, rfl⟩ rfl rfl
    rcases List.mem_cons.mp hm with h2 | hm
    · obtain ⟨rfl, rfl⟩ := Prod.mk.inj h2
      refine ⟨[⟨0, 10, 13, 19⟩, ⟨0, 10, 17, 13⟩], ⟨0, 10, 21, 21⟩, [], rfl, fun z hz => ?_, by decide, by decide, List.mem_of_getElem? (i := 3) rfl, List.mem_of_getElem? (i := 1) rfl, fun n q => ?_⟩
      · rcases List.mem_cons.mp hz with rfl | hz
        · exact ⟨by decide, _, List.mem_of_getElem? (i := 1) rfl, hN (exS, exI) (List.mem_of_getElem? (i := 1) rfl)⟩
        rcases List.mem_cons.mp hz with rfl | hz
        · exact ⟨by decide, _, List.mem_of_getElem? (i := 2) rfl, hN (exS, exA) (List.mem_of_getElem? (i := 2) rfl)⟩
        exact absurd hz List.not_mem_nil
      · refine v_astore [(4, .ref q), (0, .ref x), (1, .int p1), (2, .int p2), (3, .ref o)] dL_worstWith_21 (by decide) rfl ?_
        refine v_iconst 3 dL_worstWith_23 (by decide) ?_
        exact v_wiret hr dL_worstWith_24 ⟨rfl, rfl⟩ rfl rfl
    exact absurd hm List.not_mem_nil)
theorem c_L_leastRate (l : Launch) (hfl : l.stackTraces = false) (x : Nat) (p1 : Int32) (o : Nat) : CWr l yL_leastRate wsL_leastRate 8 142 x [.ref x, .int p1, .ref o] (f_X4_leastRate x p1) [(exI, 1), (exS, 2)] (fun v => masl o 0 v.toInt64) := CWr.start hfl RL rfl (by decide +kernel) rfl (Nat.le_of_ble_eq_true rfl) (fun X G z Gf k Gu hl htb hr hN hf hb0 hR => by
  obtain ⟨fs, hb⟩ := hb0
  have hfx : (xl X).stackTraces = false := by rw [hl]; exact hfl
  refine v_aload_n 2 dL_leastRate_0 rfl rfl ?_
  refine v_iconst 0 dL_leastRate_1 (by decide) ?_
  refine v_aload_n 0 dL_leastRate_2 rfl rfl ?_
  refine v_iload_n 1 dL_leastRate_3 rfl rfl ?_
  refine v_wcall (hh := [(0, 9, 12, 19), (0, 9, 15, 21)]) 4 1 [.int p1] (c_X4_leastRate (xl X) hfx x p1) gL_leastRate_X4_leastRate rfl (by decide +kernel) (by decide) (by decide) rfl rfl dL_leastRate_4 (Nat.le_of_ble_eq_true rfl) rfl ⟨rfl, rfl⟩ hb hf htb (fun v hv => ?_) (fun E hv => ?_)
  · subst hv
    obtain ⟨rfl, hw, hG2⟩ := hR
    refine v_i2l dL_leastRate_7 ?_
    refine v_last dL_leastRate_8 (R := (Gu, Gu)) (K := fun _ => mst) (by rw [mbind_ok hw]; rfl) (fun G1 _ hg => ?_)
    obtain rfl : Gu = G1 := congrArg Prod.fst (mst_inv hg)
    refine v_goto 18 dL_leastRate_9 (by decide) ?_
    refine v_iconst 0 dL_leastRate_18 (by decide) ?_
    exact v_wiret hr dL_leastRate_19 ⟨(congrArg (fun q : Nat × Nat × Nat => q.2.1) hG2).symm, (congrArg (fun q : Nat × Nat × Nat => q.2.2) hG2).symm⟩ rfl rfl
  · subst hv
    obtain ⟨hm, rfl⟩ := hR
    rcases List.mem_cons.mp hm with h0 | hm
    · obtain ⟨rfl, rfl⟩ := Prod.mk.inj h0
      refine ⟨[], ⟨0, 9, 12, 19⟩, [⟨0, 9, 15, 21⟩], rfl, fun z hz => ?_, by decide, by decide, List.mem_of_getElem? (i := 1) rfl, List.mem_of_getElem? (i := 2) rfl, fun n q => ?_⟩
      · exact absurd hz List.not_mem_nil
      · refine v_astore_n [(3, .ref q), (0, .ref x), (1, .int p1), (2, .ref o)] dL_leastRate_12 rfl (by decide) rfl ?_
        refine v_iconst 1 dL_leastRate_13 (by decide) ?_
        exact v_wiret hr dL_leastRate_14 ⟨rfl, rfl⟩ rfl rfl
    rcases List.mem_cons.mp hm with h1 | hm
    · obtain ⟨rfl, rfl⟩ := Prod.mk.inj h1
      refine ⟨[⟨0, 9, 12, 19⟩], ⟨0, 9, 15, 21⟩, [], rfl, fun z hz => ?_, by decide, by decide, List.mem_of_getElem? (i := 2) rfl, List.mem_of_getElem? (i := 1) rfl, fun n q => ?_⟩
      · rcases List.mem_cons.mp hz with rfl | hz
        · exact ⟨by decide, _, List.mem_of_getElem? (i := 1) rfl, hN (exS, exI) (List.mem_of_getElem? (i := 1) rfl)⟩
        exact absurd hz List.not_mem_nil
      · refine v_astore_n [(3, .ref q), (0, .ref x), (1, .int p1), (2, .ref o)] dL_leastRate_15 rfl (by decide) rfl ?_
        refine v_iconst 2 dL_leastRate_16 (by decide) ?_
        exact v_wiret hr dL_leastRate_17 ⟨rfl, rfl⟩ rfl rfl
    exact absurd hm List.not_mem_nil)
theorem c_L_undo (l : Launch) (hfl : l.stackTraces = false) (x : Nat) (o : Nat) : CWr l yL_undo wsL_undo 7 112 x [.ref x, .ref o] (f_X4_undo x) [(exS, 1)] (fun v => masl o 0 v.toInt64) := CWr.start hfl RL rfl (by decide +kernel) rfl (Nat.le_of_ble_eq_true rfl) (fun X G z Gf k Gu hl htb hr hN hf hb0 hR => by
  obtain ⟨fs, hb⟩ := hb0
  have hfx : (xl X).stackTraces = false := by rw [hl]; exact hfl
  refine v_aload_n 1 dL_undo_0 rfl rfl ?_
  refine v_iconst 0 dL_undo_1 (by decide) ?_
  refine v_aload_n 0 dL_undo_2 rfl rfl ?_
  refine v_wcall (hh := [(0, 8, 11, 21)]) 4 0 [] (c_X4_undo (xl X) hfx x) gL_undo_X4_undo rfl (by decide +kernel) (by decide) (by decide) rfl rfl dL_undo_3 (Nat.le_of_ble_eq_true rfl) rfl ⟨rfl, rfl⟩ hb hf htb (fun v hv => ?_) (fun E hv => ?_)
  · subst hv
    obtain ⟨rfl, hw, hG2⟩ := hR
    refine v_i2l dL_undo_6 ?_
    refine v_last dL_undo_7 (R := (Gu, Gu)) (K := fun _ => mst) (by rw [mbind_ok hw]; rfl) (fun G1 _ hg => ?_)
    obtain rfl : Gu = G1 := congrArg Prod.fst (mst_inv hg)
    refine v_goto 14 dL_undo_8 (by decide) ?_
    refine v_iconst 0 dL_undo_14 (by decide) ?_
    exact v_wiret hr dL_undo_15 ⟨(congrArg (fun q : Nat × Nat × Nat => q.2.1) hG2).symm, (congrArg (fun q : Nat × Nat × Nat => q.2.2) hG2).symm⟩ rfl rfl
  · subst hv
    obtain ⟨hm, rfl⟩ := hR
    rcases List.mem_cons.mp hm with h0 | hm
    · obtain ⟨rfl, rfl⟩ := Prod.mk.inj h0
      refine ⟨[], ⟨0, 8, 11, 21⟩, [], rfl, fun z hz => ?_, by decide, by decide, List.mem_of_getElem? (i := 1) rfl, List.mem_of_getElem? (i := 1) rfl, fun n q => ?_⟩
      · exact absurd hz List.not_mem_nil
      · refine v_astore_n [(2, .ref q), (0, .ref x), (1, .ref o)] dL_undo_11 rfl (by decide) rfl ?_
        refine v_iconst 1 dL_undo_12 (by decide) ?_
        exact v_wiret hr dL_undo_13 ⟨rfl, rfl⟩ rfl rfl
    exact absurd hm List.not_mem_nil)
