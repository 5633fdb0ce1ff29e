/-! LAW 7: the law's loop, and its beginning. -/
theorem law_loop {X : VX} {B : VB} {Q : State → Prop} {b : Nat} {L : Nat} {p : Nat} {m : Nat} {oL : Nat} {oD : Nat} {ys : Nat → Int32} {C : Nat} {S : Nat} (hfl : (xl X).stackTraces = false) (hN : NX (xs X)) (hX : va_X b L ys (xs X) (xs X).heap) (hbl : b < (xs X).heap.size) (hbA : ¬ (xA X) b) (hL : L ≤ 2048) (hBC : C + 512 ≤ B.2.2.1 ∧ S + 3072 ≤ B.2.2.2) (hend : ∀ G lv, G.2.2.1 ≤ B.2.2.1 ∧ G.2.2.2 ≤ B.2.2.2 → V X RL cL_law 9 11 390 wsL_law B Q G 1547 lv [.int 1]) : ∀ (f jj : Nat) (w : WW) (G : GH), L < 4 * jj + 4 * f → 4 * jj ≤ L → WI w → LI2 G p m oL oD w w (C + jj) (S + 6 * jj) → V X RL cL_law 9 11 390 wsL_law B Q G 28 [(5, .int (iI ((4 * jj : Nat) : Int))), (0, .ref b), (1, .ref p), (2, .ref m), (3, .ref oL), (4, .ref oD)] []
  | 0, jj, w, G, hf, hjL, hw, hI => absurd hf (by omega)
  | f + 1, jj, w, G, hf, hjL, hw, hI => by
    have hle := hI.le
    refine v_iload 0 dL_law_28 rfl ?_
    refine v_aload_n 1 dL_law_30 rfl rfl ?_
    refine u_slen hX hbl hbA dL_law_31 ?_
    refine v_iconst 4 dL_law_32 (by decide) ?_
    refine v_isub dL_law_33 ?_
    have hcmp : (Int32.ofNat L - 4 < iI ((4 * jj : Nat) : Int)) = (((L : Int) - 4) < ((4 * jj : Nat) : Int)) := by
      rw [iI_ofNat, lz4, iI_sub, iI_lt (by omega) (by omega) (by omega) (by omega)]
    by_cases hj : 4 * jj + 4 ≤ L
    · refine v_icmp_gt_f 1546 dL_law_34 (by decide) (by rw [hcmp]; omega) ?_
      refine v_aload_n 1 dL_law_37 rfl rfl ?_
      refine v_iload 0 dL_law_38 rfl ?_
      refine u_sld hX hbl hbA (add_in (by omega) hL) dL_law_40 ?_
      refine v_bipush 31 dL_law_41 (by decide) ?_
      refine v_iand dL_law_43 ?_
      have hT : ∀ G' w', WI w' → LI2 G' p m oL oD w' w' (C + jj + 1) (S + 6 * jj + 6) → V X RL cL_law 9 11 390 wsL_law B Q G' 1540 [(5, .int (iI ((4 * jj : Nat) : Int))), (0, .ref b), (1, .ref p), (2, .ref m), (3, .ref oL), (4, .ref oD)] [] := fun G' w' hw' hI' => by
        refine v_iinc 0 (iI ((4 * (jj + 1) : Nat) : Int)) [(5, .int (iI ((4 * (jj + 1) : Nat) : Int))), (0, .ref b), (1, .ref p), (2, .ref m), (3, .ref oL), (4, .ref oD)] dL_law_1540 rfl ?_ (by decide) rfl ?_
        · show iI _ + iI 4 = iI _
          rw [iI_add]
          congr 1
        · exact v_goto 28 dL_law_1543 (by decide) (law_loop hfl hN hX hbl hbA hL hBC hend f (jj + 1) w' G' (by omega) (by omega) hw' (hI'.up (by omega) (by omega)))
      have hBj : C + jj + 1 ≤ B.2.2.1 ∧ S + 6 * jj + 6 ≤ B.2.2.2 := ⟨by omega, by omega⟩
      generalize ys (iI ((4 * jj : Nat) : Int)).toNatClampNeg &&& 31 = x
      by_cases hx : ∃ a, a < 24 ∧ x = Int32.ofNat a
      · obtain ⟨a, ha, hxa⟩ := hx
        rcases (show a = 0 ∨ a = 1 ∨ a = 2 ∨ a = 3 ∨ a = 4 ∨ a = 5 ∨ a = 6 ∨ a = 7 ∨ a = 8 ∨ a = 9 ∨ a = 10 ∨ a = 11 ∨ a = 12 ∨ a = 13 ∨ a = 14 ∨ a = 15 ∨ a = 16 ∨ a = 17 ∨ a = 18 ∨ a = 19 ∨ a = 20 ∨ a = 21 ∨ a = 22 ∨ a = 23 by omega) with rfl | rfl | rfl | rfl | rfl | rfl | rfl | rfl | rfl | rfl | rfl | rfl | rfl | rfl | rfl | rfl | rfl | rfl | rfl | rfl | rfl | rfl | rfl | rfl
        · exact v_tblIn (Int32.ofNat 0) 156 hxa dL_law_44 (by decide) (by decide) rfl (by decide) (lc_set hfl hN hX hbl hbA hL hj hw hI hBj hT)
        · exact v_tblIn (Int32.ofNat 1) 224 hxa dL_law_44 (by decide) (by decide) rfl (by decide) (lc_push hfl hN hX hbl hbA hL hj hw hI hBj hT)
        · exact v_tblIn (Int32.ofNat 2) 320 hxa dL_law_44 (by decide) (by decide) rfl (by decide) (lc_pop hfl hN hX hbl hbA hL hj hw hI hBj hT)
        · exact v_tblIn (Int32.ofNat 3) 404 hxa dL_law_44 (by decide) (by decide) rfl (by decide) (lc_drop hfl hN hX hbl hbA hL hj hw hI hBj hT)
        · exact v_tblIn (Int32.ofNat 4) 448 hxa dL_law_44 (by decide) (by decide) rfl (by decide) (lc_clear hfl hN hX hbl hbA hL hj hw hI hBj hT)
        · exact v_tblIn (Int32.ofNat 5) 461 hxa dL_law_44 (by decide) (by decide) rfl (by decide) (lc_version hfl hN hX hbl hbA hL hj hw hI hBj hT)
        · exact v_tblIn (Int32.ofNat 6) 529 hxa dL_law_44 (by decide) (by decide) rfl (by decide) (lc_value hfl hN hX hbl hbA hL hj hw hI hBj hT)
        · exact v_tblIn (Int32.ofNat 7) 585 hxa dL_law_44 (by decide) (by decide) rfl (by decide) (lc_at hfl hN hX hbl hbA hL hj hw hI hBj hT)
        · exact v_tblIn (Int32.ofNat 8) 653 hxa dL_law_44 (by decide) (by decide) rfl (by decide) (lc_steps hfl hN hX hbl hbA hL hj hw hI hBj hT)
        · exact v_tblIn (Int32.ofNat 9) 721 hxa dL_law_44 (by decide) (by decide) rfl (by decide) (lc_count hfl hN hX hbl hbA hL hj hw hI hBj hT)
        · exact v_tblIn (Int32.ofNat 10) 777 hxa dL_law_44 (by decide) (by decide) rfl (by decide) (lc_setting hfl hN hX hbl hbA hL hj hw hI hBj hT)
        · exact v_tblIn (Int32.ofNat 11) 833 hxa dL_law_44 (by decide) (by decide) rfl (by decide) (lc_common hfl hN hX hbl hbA hL hj hw hI hBj hT)
        · exact v_tblIn (Int32.ofNat 12) 901 hxa dL_law_44 (by decide) (by decide) rfl (by decide) (lc_same hfl hN hX hbl hbA hL hj hw hI hBj hT)
        · exact v_tblIn (Int32.ofNat 13) 976 hxa dL_law_44 (by decide) (by decide) rfl (by decide) (lc_firstLike hfl hN hX hbl hbA hL hj hw hI hBj hT)
        · exact v_tblIn (Int32.ofNat 14) 1032 hxa dL_law_44 (by decide) (by decide) rfl (by decide) (lc_worst hfl hN hX hbl hbA hL hj hw hI hBj hT)
        · exact v_tblIn (Int32.ofNat 15) 1088 hxa dL_law_44 (by decide) (by decide) rfl (by decide) (lc_mean hfl hN hX hbl hbA hL hj hw hI hBj hT)
        · exact v_tblIn (Int32.ofNat 16) 1165 hxa dL_law_44 (by decide) (by decide) rfl (by decide) (lc_append hfl hN hX hbl hbA hL hj hw hI hBj hT)
        · exact v_tblIn (Int32.ofNat 17) 1221 hxa dL_law_44 (by decide) (by decide) rfl (by decide) (lc_clearText hfl hN hX hbl hbA hL hj hw hI hBj hT)
        · exact v_tblIn (Int32.ofNat 18) 1234 hxa dL_law_44 (by decide) (by decide) rfl (by decide) (lc_run hfl hN hX hbl hbA hL hj hw hI hBj hT)
        · exact v_tblIn (Int32.ofNat 19) 1290 hxa dL_law_44 (by decide) (by decide) rfl (by decide) (lc_stalls hfl hN hX hbl hbA hL hj hw hI hBj hT)
        · exact v_tblIn (Int32.ofNat 20) 1358 hxa dL_law_44 (by decide) (by decide) rfl (by decide) (lc_worstWith hfl hN hX hbl hbA hL hj hw hI hBj hT)
        · exact v_tblIn (Int32.ofNat 21) 1426 hxa dL_law_44 (by decide) (by decide) rfl (by decide) (lc_leastRate hfl hN hX hbl hbA hL hj hw hI hBj hT)
        · exact v_tblIn (Int32.ofNat 22) 1482 hxa dL_law_44 (by decide) (by decide) rfl (by decide) (lc_undo hfl hN hX hbl hbA hL hj hw hI hBj hT)
        · exact v_tblIn (Int32.ofNat 23) 1526 hxa dL_law_44 (by decide) (by decide) rfl (by decide) (lc_digest hfl hN hX hbl hbA hL hj hw hI hBj hT)
      · exact v_tblOut 23 1540 dL_law_44 (by decide) rfl (fun a ha h => hx ⟨a, ha, h⟩) (by decide) (hT G w hw (hI.up (by omega) (by omega)))
    · refine v_icmp_gt_t 1546 dL_law_34 (by decide) (by rw [hcmp]; omega) ?_
      refine v_iconst 1 dL_law_1546 (by decide) ?_
      exact hend G _ ⟨by omega, by omega⟩
set_option maxRecDepth 100000 in
theorem m_law_l90 : Cond.methodLink RL 90 yX5_init ∈ wsL_law := by decide +kernel
set_option maxRecDepth 100000 in
theorem m_law_j90 : Cond.instanceMethod yX5_init ∈ wsL_law := by decide +kernel
theorem law0_m {w : Cond} (h : w ∈ wsL_law0) : w ∈ wsL_law := List.mem_append_left _ (List.mem_append_left _ (List.mem_append_left _ (List.mem_append_left _ h)))
set_option maxRecDepth 100000 in
theorem m_law_c8 : Cond.classLink RL 8 RX4 ∈ wsL_law := by decide +kernel
set_option maxRecDepth 100000 in
theorem m_law_i8 : Cond.instantiable RX4 5 ∈ wsL_law := by decide +kernel
set_option maxRecDepth 100000 in
theorem m_law_t8 : Cond.initialized RX4 ∈ wsL_law := by decide +kernel
set_option maxRecDepth 100000 in
theorem m_law_c88 : Cond.classLink RL 88 RX5 ∈ wsL_law := by decide +kernel
set_option maxRecDepth 100000 in
theorem m_law_i88 : Cond.instantiable RX5 16 ∈ wsL_law := by decide +kernel
set_option maxRecDepth 100000 in
theorem m_law_t88 : Cond.initialized RX5 ∈ wsL_law := by decide +kernel
set_option maxRecDepth 100000 in
theorem m_law_al : Cond.arrayClass .long ∈ wsL_law := by decide +kernel
set_option maxRecDepth 100000 in
theorem m_law_ad : Cond.arrayClass .double ∈ wsL_law := by decide +kernel
set_option maxRecDepth 100000 in
theorem m_law_l87 : Cond.methodLink RL 87 yX4_init ∈ wsL_law := by decide +kernel
set_option maxRecDepth 100000 in
theorem m_law_j87 : Cond.instanceMethod yX4_init ∈ wsL_law := by decide +kernel
theorem dfX5 : ∀ j, j < 16 → defaultValue (tyX5 j) = vp_V [.null, .null, .int 0, .null, .null, .int 0, .int 0, .null, .int 0, .int 0, .null, .null, .null, .null, .int 0, .int 0] j := by
  intro j hj
  rcases (show j = 0 ∨ j = 1 ∨ j = 2 ∨ j = 3 ∨ j = 4 ∨ j = 5 ∨ j = 6 ∨ j = 7 ∨ j = 8 ∨ j = 9 ∨ j = 10 ∨ j = 11 ∨ j = 12 ∨ j = 13 ∨ j = 14 ∨ j = 15 by omega) with rfl | rfl | rfl | rfl | rfl | rfl | rfl | rfl | rfl | rfl | rfl | rfl | rfl | rfl | rfl | rfl <;> rfl
theorem newl1 (G : GH) : (mnewl 1).1 G = some (G.2.1, (va_up G.1 G.2.1 (some (lcl (fun _ => 0))), G.2.1 + 1, G.2.2.1 + 1, G.2.2.2 + 1)) := rfl
theorem newd1 (G : GH) : (mnewd 1).1 G = some (G.2.1, (va_up G.1 G.2.1 (some (dcl (fun _ => 0))), G.2.1 + 1, G.2.2.1 + 1, G.2.2.2 + 1)) := rfl
def g00 (n : Nat) : GH := (fun _ => none, n, 0, 0)
/-- the objects and the cells for answers, made -/
theorem law_begin {X : VX} {Q : State → Prop} {b n : Nat} (hfl : (xl X).stackTraces = false) (hk : ∀ G p m oL oD, LI2 G p m oL oD w00 w00 1064 33628 → V X RL cL_law 9 11 390 wsL_law (0, 0, 601024, 7293034) Q G 28 [(5, .int (iI ((4 * 0 : Nat) : Int))), (0, .ref b), (1, .ref p), (2, .ref m), (3, .ref oL), (4, .ref oD)] []) : V X RL cL_law 9 11 390 wsL_law (0, 0, 601024, 7293034) Q (g00 n) 0 [(0, .ref b)] [] := by
  have hg0 : GW (g00 n) (fun _ => 0) := fun a h => absurd rfl h
  obtain ⟨G1, ow1, e1, e2, e3, e4, e5, e6, e7⟩ := c_new hg0 (fun a => mpad 601024 7293034 a)
  obtain ⟨G2, ow2, z, c, f1, f2, f3, f4, f5, f6, f7, f8⟩ := m_new e5 (fun a => mpad 601024 7293034 a)
  have q1 : G1.2.2.1 = 12 := e6
  have q2 : G1.2.2.2 = 476 := e7
  rw [q1] at f7
  rw [q2] at f8
  rw [mpad_ok (by omega)] at e1 f1
  generalize hM : MO G2 (a5 G1.2.1) z c = G3 at f1 f5 f6 f7 f8
  refine v_newo 4 tyX4 inlX4 tyX4_ok rfl m_law_c8 m_law_i8 m_law_t8 dfX4 dL_law_0 (R := _) ⟨rfl, rfl⟩ e1 (fun p Ga hf => ?_)
  refine v_dup dL_law_3 rfl ?_
  refine v_callI 0 [] (c_X4_init (xl X) hfl p) gL_law_X4_init rfl m_law_t8 m_law_l87 m_law_j87 rfl dn_X4_init (by decide) (by decide) rfl dL_law_4 (Nat.le_of_ble_eq_true rfl) rfl (R := _) ⟨rfl, rfl⟩ hf (fun Gb hf => ?_)
  obtain ⟨rfl, rfl⟩ := mpad_inv hf
  refine v_astore_n [(1, .ref (g00 n).2.1), (0, .ref b)] dL_law_7 rfl (by decide) rfl ?_
  refine v_newo 5 tyX5 inlX5 tyX5_ok rfl m_law_c88 m_law_i88 m_law_t88 dfX5 dL_law_8 (R := _) ⟨rfl, rfl⟩ f1 (fun m Ga hf => ?_)
  refine v_dup dL_law_11 rfl ?_
  refine v_callI 0 [] (c_X5_init (xl X) hfl m) gL_law_X5_init rfl m_law_t88 m_law_l90 m_law_j90 rfl dn_X5_init (by decide) (by decide) rfl dL_law_12 (Nat.le_of_ble_eq_true rfl) rfl (R := _) ⟨rfl, rfl⟩ hf (fun Gb hf => ?_)
  obtain ⟨rfl, rfl⟩ := mpad_inv hf
  refine v_astore_n [(2, .ref G1.2.1), (1, .ref (g00 n).2.1), (0, .ref b)] dL_law_15 rfl (by decide) rfl ?_
  refine v_iconst 1 dL_law_16 (by decide) ?_
  refine u_newl m_law_al dL_law_17 (newl1 G3) ⟨by show G3.2.2.1 + 1 ≤ 601024; omega, by show G3.2.2.2 + 1 ≤ 7293034; omega⟩ ?_
  refine v_astore_n [(3, .ref G3.2.1), (2, .ref G1.2.1), (1, .ref (g00 n).2.1), (0, .ref b)] dL_law_19 rfl (by decide) rfl ?_
  refine v_iconst 1 dL_law_20 (by decide) ?_
  refine u_newd m_law_ad dL_law_21 (newd1 _) ⟨by show G3.2.2.1 + 1 + 1 ≤ 601024; omega, by show G3.2.2.2 + 1 + 1 ≤ 7293034; omega⟩ ?_
  refine v_astore [(4, .ref (G3.2.1 + 1)), (3, .ref G3.2.1), (2, .ref G1.2.1), (1, .ref (g00 n).2.1), (0, .ref b)] dL_law_23 (by decide) rfl ?_
  refine v_iconst (iI ((4 * 0 : Nat) : Int)) dL_law_25 (by decide) ?_
  refine v_istore [(5, .int (iI ((4 * 0 : Nat) : Int))), (4, .ref (G3.2.1 + 1)), (3, .ref G3.2.1), (2, .ref G1.2.1), (1, .ref (g00 n).2.1), (0, .ref b)] dL_law_26 (by decide) rfl ?_
  refine v_sub [0, 5, 4, 3, 2, 1] rfl (hk _ (g00 n).2.1 G1.2.1 G3.2.1 (G3.2.1 + 1) ?_)
  have hlt : ∀ a, ow2 a ≠ 0 → a < G3.2.1 := f6
  have h21 : ∀ a, ow1 a ≠ 0 → ow2 a = ow1 a := f4
  have hkm : ∀ k, k ∈ KM → ow2 (a5 G1.2.1 k) = 70 + k := f3
  have hcell : ∀ a, a < G3.2.1 → (va_up (va_up G3.1 G3.2.1 (some (lcl (fun _ => 0)))) (G3.2.1 + 1) (some (dcl (fun _ => 0)))) a = G3.1 a := fun a ha => by
    rw [up_ne _ _ (by omega), up_ne _ _ (by omega)]
  obtain ⟨ow5, w1, w2, w3, w4⟩ : ∃ ow5 : Nat → Nat, (∀ a, a < G3.2.1 → ow5 a = ow2 a) ∧ ow5 G3.2.1 = 90 ∧ ow5 (G3.2.1 + 1) = 91 ∧ ∀ a, ow5 a ≠ 0 → a < G3.2.1 + 1 + 1 := by
    refine ⟨fun a => if a = G3.2.1 then 90 else if a = G3.2.1 + 1 then 91 else ow2 a, fun a ha => ?_, if_pos rfl, ?_, fun a ha => ?_⟩
    · show (if a = G3.2.1 then 90 else if a = G3.2.1 + 1 then 91 else ow2 a) = ow2 a
      rw [if_neg (by omega), if_neg (by omega)]
    · show (if G3.2.1 + 1 = G3.2.1 then 90 else if G3.2.1 + 1 = G3.2.1 + 1 then 91 else ow2 (G3.2.1 + 1)) = 91
      rw [if_neg (by omega), if_pos rfl]
    · have ha' : (if a = G3.2.1 then 90 else if a = G3.2.1 + 1 then 91 else ow2 a) ≠ 0 := ha
      by_cases h1 : a = G3.2.1
      · omega
      · by_cases h2 : a = G3.2.1 + 1
        · omega
        · rw [if_neg h1, if_neg h2] at ha'
          have := hlt a ha'
          omega
  have hgw : GW ((va_up (va_up G3.1 G3.2.1 (some (lcl (fun _ => 0)))) (G3.2.1 + 1) (some (dcl (fun _ => 0))), G3.2.1 + 1 + 1, G3.2.2.1 + 1 + 1, G3.2.2.2 + 1 + 1) : GH) ow5 := w4
  have hl1 : ∀ a, ow1 a ≠ 0 → a < G3.2.1 := fun a ha => hlt a (by rw [h21 a ha]; exact ha)
  refine ⟨ow5, 520, a5 G1.2.1, z, c, _, _, RepC.mv (fun a ha _ => (w1 a (hl1 a ha)).trans (h21 a ha)) (fun a ha _ => (hcell a (hl1 a ha)).trans (f5 a ha)) e2 hgw, hgw, a5_inj _, rfl, fun k hk' => ?_, f2, fun k hk' => ?_, w2, w3, (up_ne _ _ (show G3.2.1 ≠ G3.2.1 + 1 by omega)).trans (up_self _ _ _), up_self _ _ _, ?_, ?_⟩
  · have := hkm k hk'
    rw [w1 _ (hlt _ (by omega)), hkm k hk']
  · have := hkm k hk'
    refine (hcell _ (hlt _ (by omega))).trans ?_
    rw [← hM]
    exact mh_get (a5_inj _) hk'
  · show G3.2.2.1 + 1 + 1 + 2 * 520 ≤ 1064
    omega
  · show G3.2.2.2 + 1 + 1 + 51 * 520 ≤ 33628
    omega
