/-! LAW 4: what the law's heap holds between two calls: the class's object, the reference's, the two cells for answers. -/
def lcl (f : Nat → Int64) : LE := .inl (1, (1, .inr (.inl f)))
def dcl (f : Nat → UInt64) : LE := .inl (2, (1, .inr (.inr (.inr (.inl f)))))
theorem some_ne {o : Option LE} {e : LE} (h : o = some e) : o ≠ none := by
  rw [h]
  exact fun q => by cases q
theorem SC.mv {G : GH} {G' : GH} {ow : Nat → Nat} {ow' : Nat → Nat} (h1 : ∀ a, ow a ≠ 0 → G.1 a ≠ none → ow' a = ow a) (h2 : ∀ a, ow a ≠ 0 → (ow a < 66 ∨ 100 ≤ ow a) → G'.1 a = G.1 a) {L p va ma : Nat} {refs : Nat → Option Nat} {s : SS} (h : SC G ow L p va ma refs s) (hL : 1000 ≤ L) : SC G' ow' L p va ma refs s := by
  obtain ⟨k1, ⟨mk, k2⟩, k3, k4, k5, k6, k7, k8⟩ := h
  refine ⟨?_, ⟨mk, ?_⟩, ?_, ?_, ?_, ?_, ?_, k8⟩
  · rw [h2 p (by omega) (by omega), k1]
  · rw [h2 ma (by omega) (by omega), k2]
  · rw [h2 va (by omega) (by omega), k3]
  · rw [h1 p (by omega) (some_ne k1), k4]
  · rw [h1 va (by omega) (some_ne k3), k5]
  · rw [h1 ma (by omega) (some_ne k2), k6]
  · intro i hi q hq
    obtain ⟨m1, r, v, g, m2, m3, m4, m5⟩ := k7 i hi q hq
    refine ⟨by rw [h1 q (by omega) (some_ne m3), m1], r, v, g, by rw [h1 r (by omega) (some_ne m4), m2], ?_, ?_, m5⟩
    · rw [h2 q (by omega) (by omega), m3]
    · rw [h2 r (by omega) (by omega), m4]
theorem RepC.mv {G : GH} {G' : GH} {ow : Nat → Nat} {ow' : Nat → Nat} (h1 : ∀ a, ow a ≠ 0 → G.1 a ≠ none → ow' a = ow a) (h2 : ∀ a, ow a ≠ 0 → (ow a < 66 ∨ 100 ≤ ow a) → G'.1 a = G.1 a) {p : Nat} {w : WW} {P : Nat} (h : RepC G ow p w P) (hg : GW G' ow') : RepC G' ow' p w P := by
  obtain ⟨ads, tp, sa, srefs, n, R, ⟨a1, a2⟩, ⟨b1, bt, t, b2, b3⟩, ⟨tr, tx, v, g, a, b, c1, c2, c3, c4, c5, c6⟩, ⟨d1, d2⟩, ⟨e1, e2, e3⟩, f1, f2⟩ := h
  have hk : ∀ k, k ∈ KS → k < 6 := by decide
  have hn := f1.1
  refine ⟨ads, tp, sa, srefs, n, R, ⟨?_, ?_⟩, ⟨fun k hk' => ?_, bt, t, fun k hk' => ?_, b3⟩, ⟨tr, tx, v, g, a, b, ?_, ?_, ?_, ?_, ?_, ?_⟩, ⟨SC.mv h1 h2 d1 hn, hg⟩, ⟨?_, ?_, fun i hi => ⟨fun q hq => ?_, (e3 i hi).2⟩⟩, f1, f2⟩
  · rw [h1 p (by omega) (some_ne a2), a1]
  · rw [h2 p (by omega) (by omega), a2]
  · have := hk k hk'
    have := b1 k hk'
    rw [h1 _ (by omega) (some_ne (b2 k hk')), b1 k hk']
  · have := hk k hk'
    have := b1 k hk'
    rw [h2 _ (by omega) (by omega), b2 k hk']
  · rw [h1 _ (by omega) (some_ne c4), c1]
  · rw [h1 _ (by omega) (some_ne c5), c2]
  · rw [h1 _ (by omega) (some_ne c6), c3]
  · rw [h2 _ (by omega) (by omega), c4]
  · rw [h2 _ (by omega) (by omega), c5]
  · rw [h2 _ (by omega) (by omega), c6]
  · rw [h1 _ (by omega) (some_ne e2), e1]
  · rw [h2 _ (by omega) (by omega), e2]
  · obtain ⟨m1, s, ⟨m2, m4⟩, m3⟩ := (e3 i hi).1 q hq
    exact ⟨m1, s, ⟨SC.mv h1 h2 m2 (f1.2 i hi).1, hg⟩, m3⟩
/-- the class's world w, the reference's world wr; no more than C cells and S slots used, counting what the class may still make -/
def LI2 (G : GH) (p m oL oD : Nat) (w wr : WW) (C S : Nat) : Prop := ∃ ow P ad z c fl fd, RepC G ow p w P ∧ GW G ow ∧ injK ad KM ∧ ad 0 = m ∧ (∀ k, k ∈ KM → ow (ad k) = 70 + k) ∧ RefR z c wr ∧ (∀ k, k ∈ KM → G.1 (ad k) = some (OB (mob ad) mlN z c k)) ∧ ow oL = 90 ∧ ow oD = 91 ∧ G.1 oL = some (lcl fl) ∧ G.1 oD = some (dcl fd) ∧ G.2.2.1 + 2 * P ≤ C ∧ G.2.2.2 + 51 * P ≤ S
theorem km_lt : ∀ k, k ∈ KM → k ≤ 14 := by decide
theorem LI2.le {G : GH} {p m oL oD : Nat} {w wr : WW} {C S : Nat} (h : LI2 G p m oL oD w wr C S) : G.2.2.1 ≤ C ∧ G.2.2.2 ≤ S := by
  obtain ⟨ow, P, ad, z, c, fl, fd, hC, hG, hi, h0, hk, hr, hm, oL1, oD1, gL1, gD1, hc, hs⟩ := h
  exact ⟨by omega, by omega⟩
theorem LI2.up {G : GH} {p m oL oD : Nat} {w wr : WW} {C S C' S' : Nat} (h : LI2 G p m oL oD w wr C S) (h1 : C ≤ C') (h2 : S ≤ S') : LI2 G p m oL oD w wr C' S' := by
  obtain ⟨ow, P, ad, z, c, fl, fd, hC, hG, hi, h0, hk, hr, hm, oL1, oD1, gL1, gD1, hc, hs⟩ := h
  exact ⟨ow, P, ad, z, c, fl, fd, hC, hG, hi, h0, hk, hr, hm, oL1, oD1, gL1, gD1, by omega, by omega⟩
theorem LI2.obj {G : GH} {p m oL oD : Nat} {w wr : WW} {C S : Nat} (h : LI2 G p m oL oD w wr C S) : (∃ fs, G.1 p = some (.inr (4, fs))) ∧ ∃ fs, G.1 m = some (.inr (5, fs)) := by
  obtain ⟨ow, P, ad, z, c, fl, fd, hC, hG, hi, h0, hk, hr, hm, oL1, oD1, gL1, gD1, hc, hs⟩ := h
  obtain ⟨ads, tp, sa, srefs, n, R, ⟨a1, a2⟩, -⟩ := hC
  refine ⟨⟨_, a2⟩, ?_⟩
  subst h0
  exact ⟨_, hm 0 (by decide)⟩
theorem la_class {α : Type} {F : MM α} {res : α} {G : GH} {p m oL oD : Nat} {w w' wr : WW} {C S e : Nat} (hL : LI2 G p m oL oD w wr C S) (hF : ∀ ow P, RepC G ow p w P → RT F G ow p w P res w' e) : ∃ G1 fl fd, F.1 G = some (res, G1) ∧ G1.1 oL = some (lcl fl) ∧ G1.1 oD = some (dcl fd) ∧ G1.2.2.1 ≤ C + e ∧ G1.2.2.2 ≤ S + 6 * e ∧ oL ≠ oD ∧ (∃ fs, G1.1 m = some (.inr (5, fs))) ∧ m ≠ oL ∧ m ≠ oD ∧ ∀ (H : GH) f g, H.2.2 = G1.2.2 → (∀ a, a ≠ oL → a ≠ oD → H.1 a = G1.1 a) → H.1 oL = some (lcl f) → H.1 oD = some (dcl g) → (∀ a, H.1 a ≠ none → a < H.2.1) → LI2 H p m oL oD w' wr (C + e) (S + 6 * e) := by
  obtain ⟨ow, P, ad, z, c, fl, fd, hC, hG, hi, h0, hk, hr, hm, oL1, oD1, gL1, gD1, hc, hs⟩ := hL
  obtain ⟨G1, ow1, P1, e1, e2, k1, k2, k3, k4, k5⟩ := hF ow P hC
  have sL : G1.1 oL = some (lcl fl) := by rw [k2 oL (by omega) (by omega)]; exact gL1
  have sD : G1.1 oD = some (dcl fd) := by rw [k2 oD (by omega) (by omega)]; exact gD1
  have lL : ow1 oL = 90 := by rw [k1 oL (by omega), oL1]
  have lD : ow1 oD = 91 := by rw [k1 oD (by omega), oD1]
  have lk : ∀ k, k ∈ KM → ow1 (ad k) = 70 + k := fun k hk' => by rw [k1 _ (by rw [hk k hk']; omega), hk k hk']
  have sk : ∀ k, k ∈ KM → G1.1 (ad k) = some (OB (mob ad) mlN z c k) := fun k hk' => by
    have := km_lt k hk'
    have := hk k hk'
    rw [k2 _ (by omega) (by omega)]
    exact hm k hk'
  have nk : ∀ k, k ∈ KM → ad k ≠ oL ∧ ad k ≠ oD := fun k hk' => by
    have := km_lt k hk'
    have := lk k hk'
    exact ⟨lab_ne (ow := ow1) (by omega), lab_ne (ow := ow1) (by omega)⟩
  have n0 := nk 0 (by decide)
  have s0 := sk 0 (by decide)
  rw [h0] at n0 s0
  refine ⟨G1, fl, fd, e1, sL, sD, by omega, by omega, lab_ne (ow := ow1) (by omega), ⟨_, s0⟩, n0.1, n0.2, fun H f g hc2 ha hL hD hn => ?_⟩
  have hsome : ∀ a, G1.1 a ≠ none → H.1 a ≠ none := fun a h => by
    by_cases ea : a = oL
    · rw [ea]; exact some_ne hL
    · by_cases eb : a = oD
      · rw [eb]; exact some_ne hD
      · rw [ha a ea eb]; exact h
  obtain ⟨ow2, hw2, hw3⟩ : ∃ ow2 : Nat → Nat, (∀ a, H.1 a ≠ none → ow2 a = ow1 a) ∧ ∀ a, ow2 a ≠ 0 → H.1 a ≠ none := by
    refine ⟨fun a => if (H.1 a).isNone = true then 0 else ow1 a, fun a h => ?_, fun a h h' => ?_⟩
    · refine if_neg (fun q => h (Option.isNone_iff_eq_none.mp q))
    · exact h (if_pos (Option.isNone_iff_eq_none.mpr h'))
  have hgw : GW H ow2 := fun a h => hn a (hw3 a h)
  refine ⟨ow2, P1, ad, z, c, f, g, RepC.mv (fun a _ h => hw2 a (hsome a h)) (fun a h0' hlab => ha a (lab_ne (ow := ow1) (by omega)) (lab_ne (ow := ow1) (by omega))) e2 hgw, hgw, hi, h0, fun k hk' => ?_, hr, fun k hk' => ?_, ?_, ?_, hL, hD, by rw [hc2]; omega, by rw [hc2]; omega⟩
  · rw [hw2 _ (hsome _ (some_ne (sk k hk'))), lk k hk']
  · rw [ha _ (nk k hk').1 (nk k hk').2, sk k hk']
  · rw [hw2 _ (some_ne hL), lL]
  · rw [hw2 _ (some_ne hD), lD]
theorem lb_ref {β : Type} {FR : MM β} {ans : β} {T : Int → Prop} {G : GH} {p m oL oD : Nat} {w wr wr' : WW} {C S : Nat} (hL : LI2 G p m oL oD w wr C S) (hw' : WI wr') (hR : ∀ (ad : Nat → Nat) (z : Nat → Int) (c : Nat → Nat → Int), injK ad KM → ad 0 = m → RefR z c wr → ∃ z' c', FR.1 (MO G ad z c) = some (ans, MO G ad z' c') ∧ T (z' 6) ∧ RefR z' c' wr') : ∃ H t, T t ∧ FR.1 G = some (ans, H) ∧ (f_X5_thrown m).1 H = some (iI t, H) ∧ H.1 oL = G.1 oL ∧ H.1 oD = G.1 oD ∧ H.2 = G.2 ∧ LI2 H p m oL oD w wr' C S := by
  obtain ⟨ow, P, ad, z, c, fl, fd, hC, hG, hi, h0, hk, hr, hm, oL1, oD1, gL1, gD1, hc, hs⟩ := hL
  have hid : MO G ad z c = G := mh_id hm
  obtain ⟨z', c', e1, e2, e3⟩ := hR ad z c hi h0 hr
  rw [hid] at e1
  have hth := r_thrown (G := G) hi hw' e3 (t := z' 6) rfl
  rw [h0] at hth
  have hlab : ∀ a, (ow a < 66 ∨ 85 ≤ ow a) → (MO G ad z' c').1 a = G.1 a := fun a ha => mh_out (fun k hk' => by
    have := km_lt k hk'
    have := hk k hk'
    exact lab_ne (ow := ow) (by omega))
  have h2 : (MO G ad z' c').2 = G.2 := mh_2 _ _ _ _
  have hgw : GW (MO G ad z' c') ow := fun a h => by rw [h2]; exact hG a h
  refine ⟨MO G ad z' c', z' 6, e2, e1, hth, hlab oL (by omega), hlab oD (by omega), h2, ow, P, ad, z', c', fl, fd, RepC.mv (fun _ _ _ => rfl) (fun a _ hl => hlab a (by omega)) hC hgw, hgw, hi, h0, hk, e3, fun k hk' => mh_get hi hk', oL1, oD1, (hlab oL (by omega)).trans gL1, (hlab oD (by omega)).trans gD1, by rw [h2]; exact hc, by rw [h2]; exact hs⟩
theorem masl0 {G : GH} {a : Nat} {f : Nat → Int64} (h : G.1 a = some (lcl f)) (x : Int64) : (masl a 0 x).1 G = some ((), (va_up G.1 a (some (lcl (vp_updL f 0 x))), G.2)) := by
  show ((((garr a 1 G).bind alng).bind (fun q => oin (0 : Int32) q.1 (va_up G.1 a (some (.inl (1, (q.1, .inr (.inl (vp_updL q.2 (0 : Int32).toNatClampNeg x))))))))).map (fun h => ((), (h, G.2)))) = _
  rw [garr_ok (show G.1 a = some (.inl (1, (1, .inr (.inl f)))) from h)]
  rfl
theorem mall0 {G : GH} {a : Nat} {f : Nat → Int64} (h : G.1 a = some (lcl f)) : (mall a 0).1 G = some (f 0, G) := by
  show (((garr a 1 G).bind alng).bind (fun q => oin (0 : Int32) q.1 (q.2 (0 : Int32).toNatClampNeg))).map (fun x => (x, G)) = _
  rw [garr_ok (show G.1 a = some (.inl (1, (1, .inr (.inl f)))) from h)]
  rfl
theorem masd0 {G : GH} {a : Nat} {f : Nat → UInt64} (h : G.1 a = some (dcl f)) (x : UInt64) : (masd a 0 x).1 G = some ((), (va_up G.1 a (some (dcl (vf_upd f 0 x))), G.2)) := by
  show ((((garr a 2 G).bind adbl).bind (fun q => oin (0 : Int32) q.1 (va_up G.1 a (some (.inl (2, (q.1, .inr (.inr (.inr (.inl (vf_upd q.2 (0 : Int32).toNatClampNeg x))))))))))).map (fun h => ((), (h, G.2)))) = _
  rw [garr_ok (show G.1 a = some (.inl (2, (1, .inr (.inr (.inr (.inl f)))))) from h)]
  rfl
theorem mald0 {G : GH} {a : Nat} {f : Nat → UInt64} (h : G.1 a = some (dcl f)) : (mald a 0).1 G = some (f 0, G) := by
  show (((garr a 2 G).bind adbl).bind (fun q => oin (0 : Int32) q.1 (q.2 (0 : Int32).toNatClampNeg))).map (fun x => (x, G)) = _
  rw [garr_ok (show G.1 a = some (.inl (2, (1, .inr (.inr (.inr (.inl f)))))) from h)]
  rfl
theorem updL0 (f : Nat → Int64) (x : Int64) : vp_updL f 0 x 0 = x := by simp [vp_updL]
theorem updD0 (f : Nat → UInt64) (x : UInt64) : vf_upd f 0 x 0 = x := by simp [vf_upd]
theorem ye_le (t : Int) : ye t ≤ 1 := by
  unfold ye
  split <;> omega
def tbOK (t : Int) (tb : List (String × Int32)) (E1 E2 E3 : String) : Prop := t = 0 ∨ (t = 1 ∧ (E1, (1 : Int32)) ∈ tb) ∨ (t = 2 ∧ (E2, (2 : Int32)) ∈ tb) ∨ (t = 3 ∧ (E3, (3 : Int32)) ∈ tb)
theorem tb_err {t ans : Int} {tb : List (String × Int32)} {E1 E2 E3 : String} (h : tbOK t tb E1 E2 E3) (h0 : ¬ t = 0) : ¬ iI t = 0 ∧ ∃ E, yr t E1 E2 E3 ans = .inl E ∧ (E, iI t) ∈ tb := by
  rcases h with h | ⟨rfl, h⟩ | ⟨rfl, h⟩ | ⟨rfl, h⟩
  · exact absurd h h0
  · exact ⟨by decide, E1, rfl, h⟩
  · exact ⟨by decide, E2, rfl, h⟩
  · exact ⟨by decide, E3, rfl, h⟩
/-- a call through a small method, and the reference's -/
theorem ls_step {F : MX Int32} {FR : MM Int32} {t ans : Int} {E1 E2 E3 : String} {tb : List (String × Int32)} {G : GH} {p m oL oD : Nat} {w w' : WW} {C S : Nat} (u : Int32 → Int64) (hL : LI2 G p m oL oD w w C S) (hw' : WI w') (hF : ∀ ow P, RepC G ow p w P → RT F G ow p w P (yr t E1 E2 E3 ans) w' (ye t)) (hR : ∀ (H : GH) (ad : Nat → Nat) (z : Nat → Int) (c : Nat → Nat → Int), injK ad KM → ad 0 = m → RefR z c w → ∃ z' c', FR.1 (MO H ad z c) = some (iI ans, MO H ad z' c') ∧ z' 6 = t ∧ RefR z' c' w') (ht : tbOK t tb E1 E2 E3) :
    ∃ z G1 Gu, F.1 G = some (z, G1) ∧ WR tb (fun v => masl oL 0 (u v)) z G1 (iI t) Gu ∧ Gu.2 = G1.2 ∧ (G1.2.2.1 ≤ C + 1 ∧ G1.2.2.2 ≤ S + 6) ∧ ∀ n, (∀ a, Gu.1 a ≠ none → a < n) → ∃ H2 fs fs2, Gu.1 m = some (.inr (5, fs)) ∧ FR.1 (Gu.1, n, Gu.2.2) = some (iI ans, H2) ∧ H2.1 m = some (.inr (5, fs2)) ∧ (f_X5_thrown m).1 H2 = some (iI t, H2) ∧ (iI t = 0 → (mall oL 0).1 H2 = some (u (iI ans), H2)) ∧ LI2 H2 p m oL oD w' w' (C + 1) (S + 6) := by
  obtain ⟨G1, fl, fd, e1, sL, sD, c1, s1, nLD, ⟨fsm, sm⟩, nmL, nmD, hH⟩ := la_class hL hF
  have hy := ye_le t
  by_cases h0 : t = 0
  · subst h0
    have hz : yr 0 E1 E2 E3 ans = .inr (iI ans) := rfl
    rw [hz] at e1
    refine ⟨_, G1, (va_up G1.1 oL (some (lcl (vp_updL fl 0 (u (iI ans))))), G1.2), e1, ⟨rfl, masl0 sL _, rfl⟩, rfl, ⟨by omega, by omega⟩, fun n hn => ?_⟩
    have hLI := (hH (va_up G1.1 oL (some (lcl (vp_updL fl 0 (u (iI ans))))), n, G1.2.2) _ fd rfl (fun a ha _ => up_ne _ _ ha) (up_self _ _ _) ((up_ne _ _ nLD.symm).trans sD) hn).up (C' := C + 1) (S' := S + 6) (by omega) (by omega)
    obtain ⟨H2, t2, rfl, f1, f2, f3, f4, f5, f6⟩ := lb_ref (T := fun t => t = 0) hLI hw' (hR _)
    obtain ⟨-, fs2, hm2⟩ := f6.obj
    refine ⟨H2, fsm, fs2, (up_ne _ _ nmL).trans sm, f1, hm2, f2, fun _ => ?_, f6⟩
    have := mall0 (f3.trans (up_self _ _ _))
    rw [updL0] at this
    exact this
  · obtain ⟨hne, E, hE, hm⟩ := tb_err (ans := ans) ht h0
    rw [hE] at e1
    refine ⟨_, G1, G1, e1, ⟨hm, rfl⟩, rfl, ⟨by omega, by omega⟩, fun n hn => ?_⟩
    have hLI := (hH (G1.1, n, G1.2.2) fl fd rfl (fun a _ _ => rfl) sL sD hn).up (C' := C + 1) (S' := S + 6) (by omega) (by omega)
    obtain ⟨H2, t2, rfl, f1, f2, f3, f4, f5, f6⟩ := lb_ref (T := fun t2 => t2 = t) hLI hw' (hR _)
    obtain ⟨-, fs2, hm2⟩ := f6.obj
    exact ⟨H2, fsm, fs2, sm, f1, hm2, f2, fun h => absurd h hne, f6⟩
/-- a plain call, and the reference's -/
theorem lp_step {α : Type} {F FR : MM α} {ans : α} {G : GH} {p m oL oD : Nat} {w w' : WW} {C S : Nat} (hL : LI2 G p m oL oD w w C S) (hw' : WI w') (hF : ∀ ow P, RepC G ow p w P → RT F G ow p w P ans w' 0) (hR : ∀ (H : GH) (ad : Nat → Nat) (z : Nat → Int) (c : Nat → Nat → Int), injK ad KM → ad 0 = m → RefR z c w → ∃ z' c', FR.1 (MO H ad z c) = some (ans, MO H ad z' c') ∧ RefR z' c' w') :
    ∃ G1 H2 fs fs2, G.1 p = some (.inr (4, fs)) ∧ F.1 G = some (ans, G1) ∧ (G1.2.2.1 ≤ C ∧ G1.2.2.2 ≤ S) ∧ G1.1 m = some (.inr (5, fs2)) ∧ ((∀ a, G1.1 a ≠ none → a < G1.2.1) → FR.1 G1 = some (ans, H2) ∧ LI2 H2 p m oL oD w' w' C S) := by
  obtain ⟨G1, fl, fd, e1, sL, sD, c1, s1, nLD, ⟨fsm, sm⟩, nmL, nmD, hH⟩ := la_class hL hF
  obtain ⟨⟨fs, hp⟩, -⟩ := hL.obj
  by_cases hn : ∀ a, G1.1 a ≠ none → a < G1.2.1
  · have hLI := hH G1 fl fd rfl (fun a _ _ => rfl) sL sD hn
    obtain ⟨H2, t2, -, f1, f2, f3, f4, f5, f6⟩ := lb_ref (T := fun _ => True) hLI hw' (fun ad z c hi h0 h => by
      obtain ⟨z', c', a1, a2⟩ := hR G1 ad z c hi h0 h
      exact ⟨z', c', a1, trivial, a2⟩)
    exact ⟨G1, H2, fs, fsm, hp, e1, ⟨by omega, by omega⟩, sm, fun _ => ⟨f1, f6⟩⟩
  · exact ⟨G1, G1, fs, fsm, hp, e1, ⟨by omega, by omega⟩, sm, fun h => absurd h hn⟩
