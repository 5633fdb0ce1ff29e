/-! PURE PART 12: cells laid over a heap; the reference's cells -/
def MH (G : GH) (ad : Nat → Nat) (cl : Nat → LE) : List Nat → GH
  | [] => G
  | k :: K => (va_up (MH G ad cl K).1 (ad k) (some (cl k)), G.2)
theorem mh_2 (G : GH) (ad : Nat → Nat) (cl : Nat → LE) (K : List Nat) : (MH G ad cl K).2 = G.2 := by cases K <;> rfl
def injK (ad : Nat → Nat) (K : List Nat) : Prop := ∀ i, i ∈ K → ∀ j, j ∈ K → ad i = ad j → i = j
theorem mh_get {G : GH} {ad : Nat → Nat} {cl : Nat → LE} : ∀ {K : List Nat} {k : Nat}, injK ad K → k ∈ K → (MH G ad cl K).1 (ad k) = some (cl k)
  | [], _, _, h => (by cases h)
  | k0 :: K, k, hi, h => by
    show va_up (MH G ad cl K).1 (ad k0) (some (cl k0)) (ad k) = _
    by_cases e : k = k0
    · rw [e, up_self]
    · rw [up_ne _ _ (fun hh => e (hi k h k0 (List.mem_cons_self ..) hh))]
      have hk : k ∈ K := by
        cases h with
        | head => exact absurd rfl e
        | tail _ h => exact h
      exact mh_get (fun i a j b => hi i (List.mem_cons_of_mem _ a) j (List.mem_cons_of_mem _ b)) hk
theorem mh_out {G : GH} {ad : Nat → Nat} {cl : Nat → LE} : ∀ {K : List Nat} {a : Nat}, (∀ k, k ∈ K → a ≠ ad k) → (MH G ad cl K).1 a = G.1 a
  | [], _, _ => rfl
  | k0 :: K, a, h => by
    show va_up (MH G ad cl K).1 (ad k0) (some (cl k0)) a = _
    rw [up_ne _ _ (h k0 (List.mem_cons_self ..))]
    exact mh_out (fun k hk => h k (List.mem_cons_of_mem _ hk))
theorem mh_set {G : GH} {ad : Nat → Nat} {cl : Nat → LE} {K : List Nat} {k : Nat} (hi : injK ad K) (hk : k ∈ K) (e : LE) : ((va_up (MH G ad cl K).1 (ad k) (some e), (MH G ad cl K).2) : GH) = MH G ad (va_up cl k e) K := by
  refine Prod.ext ?_ ((mh_2 G ad cl K).trans (mh_2 G ad _ K).symm)
  funext a
  show va_up (MH G ad cl K).1 (ad k) (some e) a = _
  by_cases h : ∃ j, j ∈ K ∧ a = ad j
  · obtain ⟨j, hj, ha⟩ := h
    subst ha
    rw [mh_get hi hj]
    by_cases hjk : j = k
    · rw [hjk, up_self, up_self]
    · rw [up_ne _ _ (fun hh => hjk (hi j hj k hk hh)), up_ne _ _ hjk, mh_get hi hj]
  · have hn : ∀ j, j ∈ K → a ≠ ad j := fun j hj hh => h ⟨j, hj, hh⟩
    rw [mh_out hn, up_ne _ _ (hn k hk), mh_out hn]
theorem mh_id {G : GH} {ad : Nat → Nat} {cl : Nat → LE} : ∀ {K : List Nat}, (∀ k, k ∈ K → G.1 (ad k) = some (cl k)) → MH G ad cl K = G
  | [], _ => rfl
  | k0 :: K, h => by
    show (va_up (MH G ad cl K).1 (ad k0) (some (cl k0)), G.2) = G
    rw [mh_id (fun k hk => h k (List.mem_cons_of_mem _ hk)), up_same (h k0 (List.mem_cons_self ..))]
def OB (obj : (Nat → Int) → LE) (len : Nat → Nat) (z : Nat → Int) (c : Nat → Nat → Int) : Nat → LE := fun k => if k = 0 then obj z else icz (len k) (c k)
theorem ob_o (obj : (Nat → Int) → LE) (len : Nat → Nat) (z z' : Nat → Int) (c : Nat → Nat → Int) : va_up (OB obj len z c) 0 (obj z') = OB obj len z' c := by
  funext k
  by_cases h : k = 0 <;> simp [va_up, OB, h]
theorem ob_a (obj : (Nat → Int) → LE) (len : Nat → Nat) (z : Nat → Int) (c : Nat → Nat → Int) (j : Nat) (hj : j ≠ 0) (f : Nat → Int) : va_up (OB obj len z c) j (icz (len j) f) = OB obj len z (va_up c j f) := by
  funext k
  by_cases h : k = j
  · subst h
    simp [va_up, OB, hj]
  · by_cases h0 : k = 0
    · subst h0
      simp [va_up, OB, h]
    · simp [va_up, OB, h, h0]
theorem oh_o {G : GH} {ad : Nat → Nat} {K : List Nat} {obj : (Nat → Int) → LE} {len : Nat → Nat} (hi : injK ad K) (z : Nat → Int) (c : Nat → Nat → Int) (h0 : 0 ∈ K) : (MH G ad (OB obj len z c) K).1 (ad 0) = some (obj z) := mh_get hi h0
theorem oh_a {G : GH} {ad : Nat → Nat} {K : List Nat} {obj : (Nat → Int) → LE} {len : Nat → Nat} (hi : injK ad K) (z : Nat → Int) (c : Nat → Nat → Int) {k : Nat} (hk : k ∈ K) (h0 : k ≠ 0) : (MH G ad (OB obj len z c) K).1 (ad k) = some (icz (len k) (c k)) := by
  rw [mh_get hi hk]
  unfold OB
  rw [if_neg h0]
theorem oh_so {G : GH} {ad : Nat → Nat} {K : List Nat} {obj : (Nat → Int) → LE} {len : Nat → Nat} (hi : injK ad K) (z : Nat → Int) (c : Nat → Nat → Int) (h0 : 0 ∈ K) (z' : Nat → Int) : ((va_up (MH G ad (OB obj len z c) K).1 (ad 0) (some (obj z')), (MH G ad (OB obj len z c) K).2) : GH) = MH G ad (OB obj len z' c) K := by
  rw [mh_set hi h0, ob_o]
theorem oh_sa {G : GH} {ad : Nat → Nat} {K : List Nat} {obj : (Nat → Int) → LE} {len : Nat → Nat} (hi : injK ad K) (z : Nat → Int) (c : Nat → Nat → Int) {k : Nat} (hk : k ∈ K) (h0 : k ≠ 0) (f : Nat → Int) : ((va_up (MH G ad (OB obj len z c) K).1 (ad k) (some (icz (len k) f)), (MH G ad (OB obj len z c) K).2) : GH) = MH G ad (OB obj len z (va_up c k f)) K := by
  rw [mh_set hi hk, ob_a _ _ _ _ _ h0]
