/-! PURE PART 12: cells laid over a heap; the reference's cells -/
def MH (G : GH) (ad : Nat → Nat) (cl : Nat → LE) : List Nat → GH
  | [] => G
  | k :: K => (va_up (MH G ad cl K).1 (ad k) (some (cl k)), G.2)
theorem mh_2 (G : GH) (ad : Nat → Nat) (cl : Nat → LE) (K : List Nat) : (MH G ad cl K).2 = G.2 := by cases K <;> rfl
def injK (ad : Nat → Nat) (K : List Nat) : Prop := ∀ i, i ∈ K → ∀ j, j ∈ K → ad i = ad j → i = j
theorem mh_get {G : GH} {ad : Nat → Nat} {cl : Nat → LE} : ∀ {K : List Nat} {k : Nat}, injK ad K → k ∈ K → (MH G ad cl K).1 (ad k) = some (cl k)
  | [], _, _, h => (by cases h)
  | k0 :: K, k, hi, h => by
    show va_up (MH G ad cl K).1 (ad k0) (some (cl k0)) (ad k) = _
    by_cases e : k = k0
    · rw [e, up_self]
    · rw [up_ne _ _ (fun hh => e (hi k h k0 (List.mem_cons_self ..) hh))]
      have hk : k ∈ K := by
        cases h with
        | head => exact absurd rfl e
        | tail _ h => exact h
      exact mh_get (fun i a j b => hi i (List.mem_cons_of_mem _ a) j (List.mem_cons_of_mem _ b)) hk
theorem mh_out {G : GH} {ad : Nat → Nat} {cl : Nat → LE} : ∀ {K : List Nat} {a : Nat}, (∀ k, k ∈ K → a ≠ ad k) → (MH G ad cl K).1 a = G.1 a
  | [], _, _ => rfl
  | k0 :: K, a, h => by
    show va_up (MH G ad cl K).1 (ad k0) (some (cl k0)) a = _
    rw [up_ne _ _ (h k0 (List.mem_cons_self ..))]
    exact mh_out (fun k hk => h k (List.mem_cons_of_mem _ hk))
theorem mh_set {G : GH} {ad : Nat → Nat} {cl : Nat → LE} {K : List Nat} {k : Nat} (hi : injK ad K) (hk : k ∈ K) (e : LE) : ((va_up (MH G ad cl K).1 (ad k) (some e), (MH G ad cl K).2) : GH) = MH G ad (va_up cl k e) K := by
  refine Prod.ext ?_ ((mh_2 G ad cl K).trans (mh_2 G ad _ K).symm)
  funext a
  show va_up (MH G ad cl K).1 (ad k) (some e) a = _
  by_cases h : ∃ j, j ∈ K ∧ a = ad j
  · obtain ⟨j, hj, ha⟩ := h
    subst ha
    rw [mh_get hi hj]
    by_cases hjk : j = k
    · rw [hjk, up_self, up_self]
    · rw [up_ne _ _ (fun hh => hjk (hi j hj k hk hh)), up_ne _ _ hjk, mh_get hi hj]
  · have hn : ∀ j, j ∈ K → a ≠ ad j := fun j hj hh => h ⟨j, hj, hh⟩
    rw [mh_out hn, up_ne _ _ (hn k hk), mh_out hn]
theorem mh_id {G : GH} {ad : Nat → Nat} {cl : Nat → LE} : ∀ {K : List Nat}, (∀ k, k ∈ K → G.1 (ad k) = some (cl k)) → MH G ad cl K = G
  | [], _ => rfl
  | k0 :: K, h => by
    show (va_up (MH G ad cl K).1 (ad k0) (some (cl k0)), G.2) = G
    rw [mh_id (fun k hk => h k (List.mem_cons_of_mem _ hk)), up_same (h k0 (List.mem_cons_self ..))]
def OB (obj : (Nat → Int) → LE) (len : Nat → Nat) (z : Nat → Int) (c : Nat → Nat → Int) : Nat → LE := fun k => if k = 0 then obj z else icz (len k) (c k)
theorem ob_o (obj : (Nat → Int) → LE) (len : Nat → Nat) (z z' : Nat → Int) (c : Nat → Nat → Int) : va_up (OB obj len z c) 0 (obj z') = OB obj len z' c := by
  funext k
  by_cases h : k = 0 <;> simp [va_up, OB, h]
theorem ob_a (obj : (Nat → Int) → LE) (len : Nat → Nat) (z : Nat → Int) (c : Nat → Nat → Int) (j : Nat) (hj : j ≠ 0) (f : Nat → Int) : va_up (OB obj len z c) j (icz (len j) f) = OB obj len z (va_up c j f) := by
  funext k
  by_cases h : k = j
  · subst h
    simp [va_up, OB, hj]
  · by_cases h0 : k = 0
    · subst h0
      simp [va_up, OB, h]
    · simp [va_up, OB, h, h0]
theorem oh_o {G : GH} {ad : Nat → Nat} {K : List Nat} {obj : (Nat → Int) → LE} {len : Nat → Nat} (hi : injK ad K) (z : Nat → Int) (c : Nat → Nat → Int) (h0 : 0 ∈ K) : (MH G ad (OB obj len z c) K).1 (ad 0) = some (obj z) := mh_get hi h0
theorem oh_a {G : GH} {ad : Nat → Nat} {K : List Nat} {obj : (Nat → Int) → LE} {len : Nat → Nat} (hi : injK ad K) (z : Nat → Int) (c : Nat → Nat → Int) {k : Nat} (hk : k ∈ K) (h0 : k ≠ 0) : (MH G ad (OB obj len z c) K).1 (ad k) = some (icz (len k) (c k)) := by
  rw [mh_get hi hk]
  unfold OB
  rw [if_neg h0]
theorem oh_so {G : GH} {ad : Nat → Nat} {K : List Nat} {obj : (Nat → Int) → LE} {len : Nat → Nat} (hi : injK ad K) (z : Nat → Int) (c : Nat → Nat → Int) (h0 : 0 ∈ K) (z' : Nat → Int) : ((va_up (MH G ad (OB obj len z c) K).1 (ad 0) (some (obj z')), (MH G ad (OB obj len z c) K).2) : GH) = MH G ad (OB obj len z' c) K := by
  rw [mh_set hi h0, ob_o]
theorem oh_sa {G : GH} {ad : Nat → Nat} {K : List Nat} {obj : (Nat → Int) → LE} {len : Nat → Nat} (hi : injK ad K) (z : Nat → Int) (c : Nat → Nat → Int) {k : Nat} (hk : k ∈ K) (h0 : k ≠ 0) (f : Nat → Int) : ((va_up (MH G ad (OB obj len z c) K).1 (ad k) (some (icz (len k) f)), (MH G ad (OB obj len z c) K).2) : GH) = MH G ad (OB obj len z (va_up c k f)) K := by
  rw [mh_set hi hk, ob_a _ _ _ _ _ h0]
theorem oh_ali {β : Type} {G : GH} {ad : Nat → Nat} {K : List Nat} {obj : (Nat → Int) → LE} {len : Nat → Nat} (hi : injK ad K) (z : Nat → Int) (c : Nat → Nat → Int) {k : Nat} (hk : k ∈ K) (h0 : k ≠ 0) {i : Int} (h1 : 0 ≤ i) (h2 : i < len k) (hl : len k ≤ 100000) (F : Int32 → MM β) : (mbind (mali (ad k) (iI i)) F).1 (MH G ad (OB obj len z c) K) = (F (iI (c k i.toNat))).1 (MH G ad (OB obj len z c) K) := by
  rw [ev_ali, oh_a hi z c hk h0, gai_icz, Option.elim_some, if_neg (by rw [lz0, iI_lt (by omega) (by omega) (by omega) (by omega), iI_cl (by omega) (by omega)]; omega), iI_cl (by omega) (by omega)]
theorem oh_asi {β : Type} {G : GH} {ad : Nat → Nat} {K : List Nat} {obj : (Nat → Int) → LE} {len : Nat → Nat} (hi : injK ad K) (z : Nat → Int) (c : Nat → Nat → Int) {k : Nat} (hk : k ∈ K) (h0 : k ≠ 0) {i : Int} (h1 : 0 ≤ i) (h2 : i < len k) (hl : len k ≤ 100000) (x : Int) (F : Unit → MM β) : (mbind (masi (ad k) (iI i) (iI x)) F).1 (MH G ad (OB obj len z c) K) = (F ()).1 (MH G ad (OB obj len z (va_up c k (va_up (c k) i.toNat x))) K) := by
  rw [ev_asi, oh_a hi z c hk h0, gai_icz, Option.elim_some, if_neg (by rw [lz0, iI_lt (by omega) (by omega) (by omega) (by omega), iI_cl (by omega) (by omega)]; omega), iI_cl (by omega) (by omega), upd_iI]
  rw [← oh_sa hi z c hk h0]
  rfl
/-- the reference: its object, how long its arrays are -/
def mob (ad : Nat → Nat) (z : Nat → Int) : LE := .inr (5, [.ref (ad 1), .ref (ad 2), .int (iI (z 2)), .ref (ad 4), .ref (ad 5), .int (iI (z 5)), .int (iI (z 6)), .ref (ad 8), .int (iI (z 8)), .int (iI (z 9)), .ref (ad 11), .ref (ad 12), .ref (ad 13), .ref (ad 14), .int (iI (z 14)), .int (iI (z 15))])
def mlN (k : Nat) : Nat := if k = 1 then 1003 else if k = 2 then 4012 else if k = 4 then 1003 else if k = 5 then 100 else if k = 8 then 256 else if k = 11 then 100 else if k = 12 then 40 else 50
def KM : List Nat := [0, 1, 2, 4, 5, 8, 11, 12, 13, 14]
def MO (G : GH) (ad : Nat → Nat) (z : Nat → Int) (c : Nat → Nat → Int) : GH := MH G ad (OB (mob ad) mlN z c) KM
theorem mo_gi2 {β : Type} {G : GH} {ad : Nat → Nat} (hi : injK ad KM) (z : Nat → Int) (c : Nat → Nat → Int) (F : Int32 → MM β) : (mbind (mgi (ad 0) 5 2) F).1 (MO G ad z c) = (F (iI (z 2))).1 (MO G ad z c) := by
  rw [ev_gi, show (MO G ad z c).1 (ad 0) = some (mob ad z) from oh_o hi z c (by decide)]
  rfl
theorem mo_pt2 {β : Type} {G : GH} {ad : Nat → Nat} (hi : injK ad KM) (z : Nat → Int) (c : Nat → Nat → Int) (x : Int) (F : Unit → MM β) : (mbind (mput (ad 0) 5 2 (.int (iI x))) F).1 (MO G ad z c) = (F ()).1 (MO G ad (va_up z 2 x) c) := by
  rw [ev_put, show (MO G ad z c).1 (ad 0) = some (mob ad z) from oh_o hi z c (by decide), show gput (some (mob ad z)) 5 2 (.int (iI x)) = some (mob ad (va_up z 2 x)) from rfl, Option.elim_some]
  exact congrArg (F ()).1 (oh_so hi z c (by decide) _)
theorem mo_gi5 {β : Type} {G : GH} {ad : Nat → Nat} (hi : injK ad KM) (z : Nat → Int) (c : Nat → Nat → Int) (F : Int32 → MM β) : (mbind (mgi (ad 0) 5 5) F).1 (MO G ad z c) = (F (iI (z 5))).1 (MO G ad z c) := by
  rw [ev_gi, show (MO G ad z c).1 (ad 0) = some (mob ad z) from oh_o hi z c (by decide)]
  rfl
theorem mo_pt5 {β : Type} {G : GH} {ad : Nat → Nat} (hi : injK ad KM) (z : Nat → Int) (c : Nat → Nat → Int) (x : Int) (F : Unit → MM β) : (mbind (mput (ad 0) 5 5 (.int (iI x))) F).1 (MO G ad z c) = (F ()).1 (MO G ad (va_up z 5 x) c) := by
  rw [ev_put, show (MO G ad z c).1 (ad 0) = some (mob ad z) from oh_o hi z c (by decide), show gput (some (mob ad z)) 5 5 (.int (iI x)) = some (mob ad (va_up z 5 x)) from rfl, Option.elim_some]
  exact congrArg (F ()).1 (oh_so hi z c (by decide) _)
theorem mo_gi6 {β : Type} {G : GH} {ad : Nat → Nat} (hi : injK ad KM) (z : Nat → Int) (c : Nat → Nat → Int) (F : Int32 → MM β) : (mbind (mgi (ad 0) 5 6) F).1 (MO G ad z c) = (F (iI (z 6))).1 (MO G ad z c) := by
  rw [ev_gi, show (MO G ad z c).1 (ad 0) = some (mob ad z) from oh_o hi z c (by decide)]
  rfl
theorem mo_pt6 {β : Type} {G : GH} {ad : Nat → Nat} (hi : injK ad KM) (z : Nat → Int) (c : Nat → Nat → Int) (x : Int) (F : Unit → MM β) : (mbind (mput (ad 0) 5 6 (.int (iI x))) F).1 (MO G ad z c) = (F ()).1 (MO G ad (va_up z 6 x) c) := by
  rw [ev_put, show (MO G ad z c).1 (ad 0) = some (mob ad z) from oh_o hi z c (by decide), show gput (some (mob ad z)) 5 6 (.int (iI x)) = some (mob ad (va_up z 6 x)) from rfl, Option.elim_some]
  exact congrArg (F ()).1 (oh_so hi z c (by decide) _)
theorem mo_gi8 {β : Type} {G : GH} {ad : Nat → Nat} (hi : injK ad KM) (z : Nat → Int) (c : Nat → Nat → Int) (F : Int32 → MM β) : (mbind (mgi (ad 0) 5 8) F).1 (MO G ad z c) = (F (iI (z 8))).1 (MO G ad z c) := by
  rw [ev_gi, show (MO G ad z c).1 (ad 0) = some (mob ad z) from oh_o hi z c (by decide)]
  rfl
theorem mo_pt8 {β : Type} {G : GH} {ad : Nat → Nat} (hi : injK ad KM) (z : Nat → Int) (c : Nat → Nat → Int) (x : Int) (F : Unit → MM β) : (mbind (mput (ad 0) 5 8 (.int (iI x))) F).1 (MO G ad z c) = (F ()).1 (MO G ad (va_up z 8 x) c) := by
  rw [ev_put, show (MO G ad z c).1 (ad 0) = some (mob ad z) from oh_o hi z c (by decide), show gput (some (mob ad z)) 5 8 (.int (iI x)) = some (mob ad (va_up z 8 x)) from rfl, Option.elim_some]
  exact congrArg (F ()).1 (oh_so hi z c (by decide) _)
theorem mo_gi9 {β : Type} {G : GH} {ad : Nat → Nat} (hi : injK ad KM) (z : Nat → Int) (c : Nat → Nat → Int) (F : Int32 → MM β) : (mbind (mgi (ad 0) 5 9) F).1 (MO G ad z c) = (F (iI (z 9))).1 (MO G ad z c) := by
  rw [ev_gi, show (MO G ad z c).1 (ad 0) = some (mob ad z) from oh_o hi z c (by decide)]
  rfl
theorem mo_pt9 {β : Type} {G : GH} {ad : Nat → Nat} (hi : injK ad KM) (z : Nat → Int) (c : Nat → Nat → Int) (x : Int) (F : Unit → MM β) : (mbind (mput (ad 0) 5 9 (.int (iI x))) F).1 (MO G ad z c) = (F ()).1 (MO G ad (va_up z 9 x) c) := by
  rw [ev_put, show (MO G ad z c).1 (ad 0) = some (mob ad z) from oh_o hi z c (by decide), show gput (some (mob ad z)) 5 9 (.int (iI x)) = some (mob ad (va_up z 9 x)) from rfl, Option.elim_some]
  exact congrArg (F ()).1 (oh_so hi z c (by decide) _)
theorem mo_gi14 {β : Type} {G : GH} {ad : Nat → Nat} (hi : injK ad KM) (z : Nat → Int) (c : Nat → Nat → Int) (F : Int32 → MM β) : (mbind (mgi (ad 0) 5 14) F).1 (MO G ad z c) = (F (iI (z 14))).1 (MO G ad z c) := by
  rw [ev_gi, show (MO G ad z c).1 (ad 0) = some (mob ad z) from oh_o hi z c (by decide)]
  rfl
theorem mo_pt14 {β : Type} {G : GH} {ad : Nat → Nat} (hi : injK ad KM) (z : Nat → Int) (c : Nat → Nat → Int) (x : Int) (F : Unit → MM β) : (mbind (mput (ad 0) 5 14 (.int (iI x))) F).1 (MO G ad z c) = (F ()).1 (MO G ad (va_up z 14 x) c) := by
  rw [ev_put, show (MO G ad z c).1 (ad 0) = some (mob ad z) from oh_o hi z c (by decide), show gput (some (mob ad z)) 5 14 (.int (iI x)) = some (mob ad (va_up z 14 x)) from rfl, Option.elim_some]
  exact congrArg (F ()).1 (oh_so hi z c (by decide) _)
theorem mo_gi15 {β : Type} {G : GH} {ad : Nat → Nat} (hi : injK ad KM) (z : Nat → Int) (c : Nat → Nat → Int) (F : Int32 → MM β) : (mbind (mgi (ad 0) 5 15) F).1 (MO G ad z c) = (F (iI (z 15))).1 (MO G ad z c) := by
  rw [ev_gi, show (MO G ad z c).1 (ad 0) = some (mob ad z) from oh_o hi z c (by decide)]
  rfl
theorem mo_pt15 {β : Type} {G : GH} {ad : Nat → Nat} (hi : injK ad KM) (z : Nat → Int) (c : Nat → Nat → Int) (x : Int) (F : Unit → MM β) : (mbind (mput (ad 0) 5 15 (.int (iI x))) F).1 (MO G ad z c) = (F ()).1 (MO G ad (va_up z 15 x) c) := by
  rw [ev_put, show (MO G ad z c).1 (ad 0) = some (mob ad z) from oh_o hi z c (by decide), show gput (some (mob ad z)) 5 15 (.int (iI x)) = some (mob ad (va_up z 15 x)) from rfl, Option.elim_some]
  exact congrArg (F ()).1 (oh_so hi z c (by decide) _)
theorem mo_gr0 {β : Type} {G : GH} {ad : Nat → Nat} (hi : injK ad KM) (z : Nat → Int) (c : Nat → Nat → Int) (F : Nat → MM β) : (mbind (mgr (ad 0) 5 0) F).1 (MO G ad z c) = (F (ad 1)).1 (MO G ad z c) := by
  rw [ev_gr, show (MO G ad z c).1 (ad 0) = some (mob ad z) from oh_o hi z c (by decide)]
  rfl
theorem mo_al1 {β : Type} {G : GH} {ad : Nat → Nat} (hi : injK ad KM) (z : Nat → Int) (c : Nat → Nat → Int) {i : Int} (h1 : 0 ≤ i) (h2 : i < 1003) (F : Int32 → MM β) : (mbind (mali (ad 1) (iI i)) F).1 (MO G ad z c) = (F (iI (c 1 i.toNat))).1 (MO G ad z c) := oh_ali hi z c (by decide) (by decide) h1 h2 (by decide) F
theorem mo_as1 {β : Type} {G : GH} {ad : Nat → Nat} (hi : injK ad KM) (z : Nat → Int) (c : Nat → Nat → Int) {i : Int} (h1 : 0 ≤ i) (h2 : i < 1003) (x : Int) (F : Unit → MM β) : (mbind (masi (ad 1) (iI i) (iI x)) F).1 (MO G ad z c) = (F ()).1 (MO G ad z (va_up c 1 (va_up (c 1) i.toNat x))) := oh_asi hi z c (by decide) (by decide) h1 h2 (by decide) x F
theorem mo_gr1 {β : Type} {G : GH} {ad : Nat → Nat} (hi : injK ad KM) (z : Nat → Int) (c : Nat → Nat → Int) (F : Nat → MM β) : (mbind (mgr (ad 0) 5 1) F).1 (MO G ad z c) = (F (ad 2)).1 (MO G ad z c) := by
  rw [ev_gr, show (MO G ad z c).1 (ad 0) = some (mob ad z) from oh_o hi z c (by decide)]
  rfl
theorem mo_al2 {β : Type} {G : GH} {ad : Nat → Nat} (hi : injK ad KM) (z : Nat → Int) (c : Nat → Nat → Int) {i : Int} (h1 : 0 ≤ i) (h2 : i < 4012) (F : Int32 → MM β) : (mbind (mali (ad 2) (iI i)) F).1 (MO G ad z c) = (F (iI (c 2 i.toNat))).1 (MO G ad z c) := oh_ali hi z c (by decide) (by decide) h1 h2 (by decide) F
theorem mo_as2 {β : Type} {G : GH} {ad : Nat → Nat} (hi : injK ad KM) (z : Nat → Int) (c : Nat → Nat → Int) {i : Int} (h1 : 0 ≤ i) (h2 : i < 4012) (x : Int) (F : Unit → MM β) : (mbind (masi (ad 2) (iI i) (iI x)) F).1 (MO G ad z c) = (F ()).1 (MO G ad z (va_up c 2 (va_up (c 2) i.toNat x))) := oh_asi hi z c (by decide) (by decide) h1 h2 (by decide) x F
theorem mo_gr3 {β : Type} {G : GH} {ad : Nat → Nat} (hi : injK ad KM) (z : Nat → Int) (c : Nat → Nat → Int) (F : Nat → MM β) : (mbind (mgr (ad 0) 5 3) F).1 (MO G ad z c) = (F (ad 4)).1 (MO G ad z c) := by
  rw [ev_gr, show (MO G ad z c).1 (ad 0) = some (mob ad z) from oh_o hi z c (by decide)]
  rfl
theorem mo_al4 {β : Type} {G : GH} {ad : Nat → Nat} (hi : injK ad KM) (z : Nat → Int) (c : Nat → Nat → Int) {i : Int} (h1 : 0 ≤ i) (h2 : i < 1003) (F : Int32 → MM β) : (mbind (mali (ad 4) (iI i)) F).1 (MO G ad z c) = (F (iI (c 4 i.toNat))).1 (MO G ad z c) := oh_ali hi z c (by decide) (by decide) h1 h2 (by decide) F
theorem mo_as4 {β : Type} {G : GH} {ad : Nat → Nat} (hi : injK ad KM) (z : Nat → Int) (c : Nat → Nat → Int) {i : Int} (h1 : 0 ≤ i) (h2 : i < 1003) (x : Int) (F : Unit → MM β) : (mbind (masi (ad 4) (iI i) (iI x)) F).1 (MO G ad z c) = (F ()).1 (MO G ad z (va_up c 4 (va_up (c 4) i.toNat x))) := oh_asi hi z c (by decide) (by decide) h1 h2 (by decide) x F
theorem mo_gr4 {β : Type} {G : GH} {ad : Nat → Nat} (hi : injK ad KM) (z : Nat → Int) (c : Nat → Nat → Int) (F : Nat → MM β) : (mbind (mgr (ad 0) 5 4) F).1 (MO G ad z c) = (F (ad 5)).1 (MO G ad z c) := by
  rw [ev_gr, show (MO G ad z c).1 (ad 0) = some (mob ad z) from oh_o hi z c (by decide)]
  rfl
theorem mo_al5 {β : Type} {G : GH} {ad : Nat → Nat} (hi : injK ad KM) (z : Nat → Int) (c : Nat → Nat → Int) {i : Int} (h1 : 0 ≤ i) (h2 : i < 100) (F : Int32 → MM β) : (mbind (mali (ad 5) (iI i)) F).1 (MO G ad z c) = (F (iI (c 5 i.toNat))).1 (MO G ad z c) := oh_ali hi z c (by decide) (by decide) h1 h2 (by decide) F
theorem mo_as5 {β : Type} {G : GH} {ad : Nat → Nat} (hi : injK ad KM) (z : Nat → Int) (c : Nat → Nat → Int) {i : Int} (h1 : 0 ≤ i) (h2 : i < 100) (x : Int) (F : Unit → MM β) : (mbind (masi (ad 5) (iI i) (iI x)) F).1 (MO G ad z c) = (F ()).1 (MO G ad z (va_up c 5 (va_up (c 5) i.toNat x))) := oh_asi hi z c (by decide) (by decide) h1 h2 (by decide) x F
theorem mo_gr7 {β : Type} {G : GH} {ad : Nat → Nat} (hi : injK ad KM) (z : Nat → Int) (c : Nat → Nat → Int) (F : Nat → MM β) : (mbind (mgr (ad 0) 5 7) F).1 (MO G ad z c) = (F (ad 8)).1 (MO G ad z c) := by
  rw [ev_gr, show (MO G ad z c).1 (ad 0) = some (mob ad z) from oh_o hi z c (by decide)]
  rfl
theorem mo_al8 {β : Type} {G : GH} {ad : Nat → Nat} (hi : injK ad KM) (z : Nat → Int) (c : Nat → Nat → Int) {i : Int} (h1 : 0 ≤ i) (h2 : i < 256) (F : Int32 → MM β) : (mbind (mali (ad 8) (iI i)) F).1 (MO G ad z c) = (F (iI (c 8 i.toNat))).1 (MO G ad z c) := oh_ali hi z c (by decide) (by decide) h1 h2 (by decide) F
theorem mo_as8 {β : Type} {G : GH} {ad : Nat → Nat} (hi : injK ad KM) (z : Nat → Int) (c : Nat → Nat → Int) {i : Int} (h1 : 0 ≤ i) (h2 : i < 256) (x : Int) (F : Unit → MM β) : (mbind (masi (ad 8) (iI i) (iI x)) F).1 (MO G ad z c) = (F ()).1 (MO G ad z (va_up c 8 (va_up (c 8) i.toNat x))) := oh_asi hi z c (by decide) (by decide) h1 h2 (by decide) x F
theorem mo_gr10 {β : Type} {G : GH} {ad : Nat → Nat} (hi : injK ad KM) (z : Nat → Int) (c : Nat → Nat → Int) (F : Nat → MM β) : (mbind (mgr (ad 0) 5 10) F).1 (MO G ad z c) = (F (ad 11)).1 (MO G ad z c) := by
  rw [ev_gr, show (MO G ad z c).1 (ad 0) = some (mob ad z) from oh_o hi z c (by decide)]
  rfl
theorem mo_al11 {β : Type} {G : GH} {ad : Nat → Nat} (hi : injK ad KM) (z : Nat → Int) (c : Nat → Nat → Int) {i : Int} (h1 : 0 ≤ i) (h2 : i < 100) (F : Int32 → MM β) : (mbind (mali (ad 11) (iI i)) F).1 (MO G ad z c) = (F (iI (c 11 i.toNat))).1 (MO G ad z c) := oh_ali hi z c (by decide) (by decide) h1 h2 (by decide) F
theorem mo_as11 {β : Type} {G : GH} {ad : Nat → Nat} (hi : injK ad KM) (z : Nat → Int) (c : Nat → Nat → Int) {i : Int} (h1 : 0 ≤ i) (h2 : i < 100) (x : Int) (F : Unit → MM β) : (mbind (masi (ad 11) (iI i) (iI x)) F).1 (MO G ad z c) = (F ()).1 (MO G ad z (va_up c 11 (va_up (c 11) i.toNat x))) := oh_asi hi z c (by decide) (by decide) h1 h2 (by decide) x F
theorem mo_gr11 {β : Type} {G : GH} {ad : Nat → Nat} (hi : injK ad KM) (z : Nat → Int) (c : Nat → Nat → Int) (F : Nat → MM β) : (mbind (mgr (ad 0) 5 11) F).1 (MO G ad z c) = (F (ad 12)).1 (MO G ad z c) := by
  rw [ev_gr, show (MO G ad z c).1 (ad 0) = some (mob ad z) from oh_o hi z c (by decide)]
  rfl
theorem mo_al12 {β : Type} {G : GH} {ad : Nat → Nat} (hi : injK ad KM) (z : Nat → Int) (c : Nat → Nat → Int) {i : Int} (h1 : 0 ≤ i) (h2 : i < 40) (F : Int32 → MM β) : (mbind (mali (ad 12) (iI i)) F).1 (MO G ad z c) = (F (iI (c 12 i.toNat))).1 (MO G ad z c) := oh_ali hi z c (by decide) (by decide) h1 h2 (by decide) F
theorem mo_as12 {β : Type} {G : GH} {ad : Nat → Nat} (hi : injK ad KM) (z : Nat → Int) (c : Nat → Nat → Int) {i : Int} (h1 : 0 ≤ i) (h2 : i < 40) (x : Int) (F : Unit → MM β) : (mbind (masi (ad 12) (iI i) (iI x)) F).1 (MO G ad z c) = (F ()).1 (MO G ad z (va_up c 12 (va_up (c 12) i.toNat x))) := oh_asi hi z c (by decide) (by decide) h1 h2 (by decide) x F
theorem mo_gr12 {β : Type} {G : GH} {ad : Nat → Nat} (hi : injK ad KM) (z : Nat → Int) (c : Nat → Nat → Int) (F : Nat → MM β) : (mbind (mgr (ad 0) 5 12) F).1 (MO G ad z c) = (F (ad 13)).1 (MO G ad z c) := by
  rw [ev_gr, show (MO G ad z c).1 (ad 0) = some (mob ad z) from oh_o hi z c (by decide)]
  rfl
theorem mo_al13 {β : Type} {G : GH} {ad : Nat → Nat} (hi : injK ad KM) (z : Nat → Int) (c : Nat → Nat → Int) {i : Int} (h1 : 0 ≤ i) (h2 : i < 50) (F : Int32 → MM β) : (mbind (mali (ad 13) (iI i)) F).1 (MO G ad z c) = (F (iI (c 13 i.toNat))).1 (MO G ad z c) := oh_ali hi z c (by decide) (by decide) h1 h2 (by decide) F
theorem mo_as13 {β : Type} {G : GH} {ad : Nat → Nat} (hi : injK ad KM) (z : Nat → Int) (c : Nat → Nat → Int) {i : Int} (h1 : 0 ≤ i) (h2 : i < 50) (x : Int) (F : Unit → MM β) : (mbind (masi (ad 13) (iI i) (iI x)) F).1 (MO G ad z c) = (F ()).1 (MO G ad z (va_up c 13 (va_up (c 13) i.toNat x))) := oh_asi hi z c (by decide) (by decide) h1 h2 (by decide) x F
theorem mo_gr13 {β : Type} {G : GH} {ad : Nat → Nat} (hi : injK ad KM) (z : Nat → Int) (c : Nat → Nat → Int) (F : Nat → MM β) : (mbind (mgr (ad 0) 5 13) F).1 (MO G ad z c) = (F (ad 14)).1 (MO G ad z c) := by
  rw [ev_gr, show (MO G ad z c).1 (ad 0) = some (mob ad z) from oh_o hi z c (by decide)]
  rfl
theorem mo_al14 {β : Type} {G : GH} {ad : Nat → Nat} (hi : injK ad KM) (z : Nat → Int) (c : Nat → Nat → Int) {i : Int} (h1 : 0 ≤ i) (h2 : i < 50) (F : Int32 → MM β) : (mbind (mali (ad 14) (iI i)) F).1 (MO G ad z c) = (F (iI (c 14 i.toNat))).1 (MO G ad z c) := oh_ali hi z c (by decide) (by decide) h1 h2 (by decide) F
theorem mo_as14 {β : Type} {G : GH} {ad : Nat → Nat} (hi : injK ad KM) (z : Nat → Int) (c : Nat → Nat → Int) {i : Int} (h1 : 0 ≤ i) (h2 : i < 50) (x : Int) (F : Unit → MM β) : (mbind (masi (ad 14) (iI i) (iI x)) F).1 (MO G ad z c) = (F ()).1 (MO G ad z (va_up c 14 (va_up (c 14) i.toNat x))) := oh_asi hi z c (by decide) (by decide) h1 h2 (by decide) x F
theorem mo_ck {β : Type} {G : GH} {ad : Nat → Nat} (hi : injK ad KM) (z : Nat → Int) (c : Nat → Nat → Int) (F : Unit → MM β) : (mbind (mchk (ad 0) 5) F).1 (MO G ad z c) = (F ()).1 (MO G ad z c) := by
  rw [ev_chk, show (MO G ad z c).1 (ad 0) = some (mob ad z) from oh_o hi z c (by decide)]
  rfl
