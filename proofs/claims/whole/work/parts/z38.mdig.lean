/-! PURE PART 38: the digest; the reference's -/
def dmx (h : Int64) (x : Int) : Int64 := (31 : Int64) * h + (iI x).toInt64
noncomputable def dgT (s : SS) : Nat → Nat → Int64 → Int64
  | 0, _, h => h
  | d + 1, k, h => dgT s d (k + 1) (dmx h (totF s k))
def dgF (v : Nat → Int) : Nat → Nat → Int64 → Int64
  | 0, _, h => h
  | d + 1, k, h => dgF v d (k + 1) (dmx h (fct v k))
def dgR (g : Nat → Int) : Nat → Nat → Int64 → Int64
  | 0, _, h => h
  | d + 1, k, h => dgR g d (k + 1) (dmx h (g k))
def dgV (s : SS) : Nat → Nat → Int64 → Int64
  | 0, _, h => h
  | d + 1, i, h => dgV s d (i + 1) (dgR (s.2.2.2 i).2 (sz (s.2.2.2 i)).toNat 0 (dgF (s.2.2.2 i).1 10 0 h))
noncomputable def dgW (w : WW) : Int64 := dmx (dgV w.1 w.1.2.2.1 0 (dmx (dmx (dgT w.1 8 0 (dmx 3767 w.2.2.2.1)) w.1.1) w.1.2.1)) w.2.2.1
theorem d122_m {G : GH} {ad : Nat → Nat} (hi : injK ad KM) {s : SS} (hs : SI s) (k70 : Nat → Int64 → Int32 → MM Int64) (k83 : Nat → Int64 → Int32 → Int32 → MM Int64) (l3 : Int32) {z : Nat → Int} {c : Nat → Nat → Int} {x : SV} (hr : RowIs z c x) (hz : 28 ≤ z 8 ∧ z 9 ≤ 228) (hx : 0 ≤ sz x ∧ sz x ≤ 40) : ∀ (d fu j : Nat) (h : Int64), (j : Int) + d = sz x → d < fu → (f_X5_digest_122 k70 k83 fu (ad 0) h l3 (iI (z 8 + (j : Nat)))).1 (MO G ad z c) = (k70 (ad 0) (dgR x.2 d j h) (l3 + 1)).1 (MO G ad z c)
  | _, 0, _, _, _, h => absurd h (by omega)
  | 0, fu + 1, j, h, e, _ => by
    have h1 := hr.1
    rw [f_X5_digest_122, mo_gi9 hi, if_pos (by rw [iI_le (by omega) (by omega) (by omega) (by omega)]; omega)]
    rfl
  | d + 1, fu + 1, j, h, e, hf => by
    have h1 := hr.1
    have h2 := hr.2 j (by omega)
    rw [f_X5_digest_122, mo_gi9 hi, if_neg (by rw [iI_le (by omega) (by omega) (by omega) (by omega)]; omega), mo_gr7 hi, mo_al8 hi _ _ (by omega) (by omega), h2, lz1, iI_add, show z 8 + (j : Int) + 1 = z 8 + ((j + 1 : Nat) : Int) by omega, ← lz1, d122_m hi hs k70 k83 l3 hr hz hx d fu (j + 1) _ (by omega) (by omega)]
    rfl
theorem d83_m {G : GH} {ad : Nat → Nat} (hi : injK ad KM) {s : SS} (hs : SI s) (k70 : Nat → Int64 → Int32 → MM Int64) {z : Nat → Int} {c : Nat → Nat → Int} (hc : NowR c s) {v : Nat} (hv : v < s.2.2.1) : ∀ (d fu k : Nat) (h : Int64), k + d = 10 → d < fu → ∃ z1 c1, (f_X5_digest_83 k70 fu (ad 0) h (iI v) (iI k)).1 (MO G ad z c) = (k70 (ad 0) (dgR (s.2.2.2 v).2 (sz (s.2.2.2 v)).toNat 0 (dgF (s.2.2.2 v).1 d k h)) (iI v + 1)).1 (MO G ad z1 c1) ∧ KP z c z1 c1
  | _, 0, _, _, _, h => absurd h (by omega)
  | 0, fu + 1, k, h, e, _ => by
    obtain ⟨z1, c1, e1, e2, e3, e4⟩ := lr_run (G := G) hi hs hc hv (z := z)
    have hvb := (hs.2.2.2 v hv).1
    unfold VBn at hvb
    have h122 := d122_m (G := G) hi hs k70 (fun y0 y1 y2 y3 => f_X5_digest_83 k70 fu y0 y1 y2 y3) (iI v) e3 e4 (by unfold sz; omega) (sz (s.2.2.2 v)).toNat FU 0 h (by unfold sz; omega) (by unfold sz FU; omega)
    rw [show z1 8 + ((0 : Nat) : Int) = z1 8 by omega] at h122
    refine ⟨z1, c1, ?_, e2⟩
    rw [f_X5_digest_83, if_pos (by rw [lz10, iI_le (by omega) (by omega) (by omega) (by omega)]; omega), mo_ck hi, mbind_ok e1, mo_gi8 hi]
    exact h122
  | d + 1, fu + 1, k, h, e, hf => by
    have ht := told_m (G := G) hi hs z hc hv (k := (k : Int)) (by omega)
    obtain ⟨z1, c1, e1, e2⟩ := d83_m hi hs k70 hc hv d fu (k + 1) (dmx h (fct (s.2.2.2 v).1 k)) (by omega) (by omega)
    refine ⟨z1, c1, ?_, e2⟩
    rw [f_X5_digest_83, if_neg (by rw [lz10, iI_le (by omega) (by omega) (by omega) (by omega)]; omega), mo_ck hi, mbind_ok ht, show iI (k : Int) + 1 = iI ((k + 1 : Nat) : Int) by rw [lz1, iI_add]; rfl]
    exact e1
theorem d70_m {G : GH} {ad : Nat → Nat} (hi : injK ad KM) {s : SS} (hs : SI s) {n : Nat} (hn : n ≤ 4) : ∀ (d fu i : Nat) (z : Nat → Int) (c : Nat → Nat → Int) (h : Int64), i + d = s.2.2.1 → d < fu → NowR c s → z 2 = n → ∃ z1 c1, (f_X5_digest_70 fu (ad 0) h (iI i)).1 (MO G ad z c) = some (dmx (dgV s d i h) n, MO G ad z1 c1) ∧ KP z c z1 c1
  | _, 0, _, _, _, _, _, h, _, _ => absurd h (by omega)
  | 0, fu + 1, i, z, c, h, e, _, hc, h2 => by
    have h100 := hs.2.2.1
    refine ⟨z, c, ?_, KP.rf z c⟩
    rw [f_X5_digest_70, mo_gr0 hi, held_m hi hs z hc, if_pos (by rw [iI_le (by omega) (by omega) (by omega) (by omega)]; omega), mo_gi2 hi, h2]
    rfl
  | d + 1, fu + 1, i, z, c, h, e, hf, hc, h2 => by
    have h100 := hs.2.2.1
    obtain ⟨z1, c1, e1, e2⟩ := d83_m (G := G) hi hs (fun y0 y1 y2 => f_X5_digest_70 fu y0 y1 y2) (z := z) hc (v := i) (by omega) 10 FU 0 h (by decide) (by decide)
    obtain ⟨z3, c3, f1, f2⟩ := d70_m hi hs hn d fu (i + 1) z1 c1 (dgR (s.2.2.2 i).2 (sz (s.2.2.2 i)).toNat 0 (dgF (s.2.2.2 i).1 10 0 h)) (by omega) (by omega) (hc.eq (e2.2 1 (by decide) (by decide))) ((e2.1 2 (by decide) (by decide)).trans h2)
    refine ⟨z3, c3, ?_, e2.tr f2⟩
    rw [f_X5_digest_70, mo_gr0 hi, held_m hi hs z hc, if_neg (by rw [iI_le (by omega) (by omega) (by omega) (by omega)]; omega)]
    refine e1.trans ?_
    rw [show iI (i : Int) + 1 = iI ((i + 1 : Nat) : Int) by rw [lz1, iI_add]; rfl]
    exact f1
theorem d17_m {G : GH} {ad : Nat → Nat} (hi : injK ad KM) {s : SS} (hs : SI s) {n : Nat} (hn : n ≤ 4) {z : Nat → Int} {c : Nat → Nat → Int} (hc : NowR c s) (h2 : z 2 = n) : ∀ (d fu k : Nat) (h : Int64), k + d = 8 → d < fu → ∃ z1 c1, (f_X5_digest_17 fu (ad 0) h (iI k)).1 (MO G ad z c) = some (dmx (dgV s s.2.2.1 0 (dmx (dmx (dgT s d k h) s.1) s.2.1)) n, MO G ad z1 c1) ∧ KP z c z1 c1
  | _, 0, _, _, _, h => absurd h (by omega)
  | 0, fu + 1, k, h, e, _ => by
    have h100 := hs.2.2.1
    obtain ⟨z1, c1, e1, e2⟩ := d70_m (G := G) hi hs hn s.2.2.1 FU 0 z c (dmx (dmx h s.1) s.2.1) (by omega) (by unfold FU; omega) hc h2
    refine ⟨z1, c1, ?_, e2⟩
    rw [f_X5_digest_17, if_pos (by rw [lz8, iI_le (by omega) (by omega) (by omega) (by omega)]; omega), mo_gr0 hi, lz0, mo_al1 hi _ _ (by omega) (by omega), mo_gr0 hi, lz1, mo_al1 hi _ _ (by omega) (by omega), show (0 : Int).toNat = 0 from rfl, show (1 : Int).toNat = 1 from rfl, hc.1, hc.2.1]
    exact e1
  | d + 1, fu + 1, k, h, e, hf => by
    have ht := ct_run (G := G) hi hs z hc (k := k) (by omega)
    obtain ⟨z1, c1, e1, e2⟩ := d17_m hi hs hn hc h2 d fu (k + 1) (dmx h (totF s k)) (by omega) (by omega)
    refine ⟨z1, c1, ?_, e2⟩
    rw [f_X5_digest_17, if_neg (by rw [lz8, iI_le (by omega) (by omega) (by omega) (by omega)]; omega), mo_ck hi, mbind_ok ht, show iI (k : Int) + 1 = iI ((k + 1 : Nat) : Int) by rw [lz1, iI_add]; rfl]
    exact e1
theorem r_digest {G : GH} {ad : Nat → Nat} (hi : injK ad KM) {w : WW} (hw : WI w) {z : Nat → Int} {c : Nat → Nat → Int} (h : RefR z c w) : ∃ z' c', (f_X5_digest (ad 0)).1 (MO G ad z c) = some (dgW w, MO G ad z' c') ∧ RefR z' c' w := by
  obtain ⟨z1, c1, e1, e2⟩ := d17_m (G := G) hi hw.1 hw.2.2.1 (z := va_up z 6 0) h.1 ((up_ne _ _ (by decide)).trans h.2.2.1) 8 FU 0 (dmx 3767 w.2.2.2.1) (by decide) (by decide)
  refine ⟨z1, c1, ?_, (h.z6 0).kr e2.kr⟩
  unfold f_X5_digest
  rw [show (Value.int 0) = Value.int (iI 0) from rfl, mo_pt6 hi, mo_gi5 hi, up_ne _ _ (show 5 ≠ 6 by decide), h.2.2.2.1]
  have e0 : (116777 : Int64) + (iI (w.2.2.2.1 : Int)).toInt64 = dmx 3767 w.2.2.2.1 := by
    unfold dmx
    rw [show (31 : Int64) * 3767 = 116777 by decide]
  rw [show iI ((0 : Nat) : Int) = 0 from rfl, ← e0] at e1
  exact e1
