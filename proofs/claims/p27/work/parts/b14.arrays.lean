/-! PART 06: V's rows on arrays, new cells, Math, Object's constructor, System.arraycopy. -/
section Varr
variable {X : VX} {own : String} {cc : ByteArray} {nL fr lo : Nat} {Ts : List Cond} {B : VB} {Q : State → Prop} {G : GH} {pc : Nat} {lv : List (Nat × Value)} {st : List Value} {ρ : Type} {R : ρ × GH}
theorem v_len {a t : Nat} {ty : FieldType} {K : Int32 → MM ρ} (ht : ∀ dA, (gty dA)[t]? = some (dA t, ty)) (hd : decode cc pc = .ok (.arraylength, 1)) (hf : (mbind (mlen a t) K).1 G = some R)
    (kk : ∀ x : Int32, (K x).1 G = some R → V X own cc nL fr lo Ts B Q G (pc + 1) lv (.int x :: st)) : V X own cc nL fr lo Ts B Q G pc lv (.ref a :: st) := by
  intro D Kb H ls locs hI hl
  obtain ⟨x, G1, h1, h2⟩ := mbind_inv hf
  obtain ⟨y, h3, h4⟩ := mread_inv h1
  cases h4
  obtain ⟨z, h5, h6⟩ := Option.map_eq_some_iff.mp h3
  obtain ⟨k0, hk0⟩ := hI.cell (garr_inv h5)
  exact va_alen D.x D.b D.k hI.1.2.1 k0 t hk0 (ht _) h6 hd (kk x h2 D Kb H ls locs hI hl)
theorem v_iald {a : Nat} {i : Int32} {K : Int32 → MM ρ} (hd : decode cc pc = .ok (.iaload, 1)) (hf : (mbind (mali a i) K).1 G = some R)
    (kk : ∀ x : Int32, (K x).1 G = some R → V X own cc nL fr lo Ts B Q G (pc + 1) lv (.int x :: st)) : V X own cc nL fr lo Ts B Q G pc lv (.int i :: .ref a :: st) := by
  intro D Kb H ls locs hI hl
  obtain ⟨x, G1, h1, h2⟩ := mbind_inv hf
  obtain ⟨y, h3, h4⟩ := mread_inv h1
  cases h4
  obtain ⟨q, h5, h6⟩ := Option.bind_eq_some_iff.mp h3
  obtain ⟨z, h7, h8⟩ := Option.bind_eq_some_iff.mp h5
  obtain ⟨hin, rfl⟩ := oin_inv h6
  obtain ⟨n, f⟩ := q
  have h9 := aint_inv h8
  subst h9
  obtain ⟨k0, hk0⟩ := hI.cell (garr_inv h7)
  exact va_iald D.x D.b D.k hI.1.2.1 k0 0 hk0 rfl hin hd (kk _ h2 D Kb H ls locs hI hl)
theorem v_aldq {a t : Nat} {C : String} {i : Int32} {K : Option Nat → MM ρ} (ht : ∀ dA, (gty dA)[t]? = some (dA t, .object C)) (hd : decode cc pc = .ok (.aaload, 1)) (hf : (mbind (malq a t i) K).1 G = some R)
    (kk : ∀ x : Option Nat, (K x).1 G = some R → V X own cc nL fr lo Ts B Q G (pc + 1) lv (va_rf x :: st)) : V X own cc nL fr lo Ts B Q G pc lv (.int i :: .ref a :: st) := by
  intro D Kb H ls locs hI hl
  obtain ⟨x, G1, h1, h2⟩ := mbind_inv hf
  obtain ⟨y, h3, h4⟩ := mread_inv h1
  cases h4
  obtain ⟨q, h5, h6⟩ := Option.bind_eq_some_iff.mp h3
  obtain ⟨z, h7, h8⟩ := Option.bind_eq_some_iff.mp h5
  obtain ⟨hin, rfl⟩ := oin_inv h6
  obtain ⟨n, f⟩ := q
  have h9 := aref_inv h8
  subst h9
  obtain ⟨k0, hk0⟩ := hI.cell (garr_inv h7)
  exact va_aldq D.x D.b D.k hI.1.2.1 k0 t hk0 (ht _) hin hd (kk _ h2 D Kb H ls locs hI hl)
theorem mwr_inv {f : GH → Option (Nat → Option LE)} {K : Unit → MM ρ} (hf : (mbind (mwrite f) K).1 G = some R) : ∃ h, f G = some h ∧ (K ()).1 (h, G.2) = some R := by
  obtain ⟨x, G1, h1, h2⟩ := mbind_inv hf
  obtain ⟨y, h3, h4⟩ := mwrite_inv h1
  cases h4
  exact ⟨y, h3, h2⟩
theorem v_iast {a : Nat} {i x : Int32} {K : Unit → MM ρ} (hd : decode cc pc = .ok (.iastore, 1)) (hf : (mbind (masi a i x) K).1 G = some R)
    (kk : ∀ G1 : GH, VK X B G1 → (K ()).1 G1 = some R → V X own cc nL fr lo Ts B Q G1 (pc + 1) lv st) : V X own cc nL fr lo Ts B Q G pc lv (.int x :: .int i :: .ref a :: st) := by
  intro D Kb H ls locs hI hl
  obtain ⟨h, h3, h2⟩ := mwr_inv hf
  obtain ⟨q, h5, h6⟩ := Option.bind_eq_some_iff.mp h3
  obtain ⟨z, h7, h8⟩ := Option.bind_eq_some_iff.mp h5
  obtain ⟨hin, rfl⟩ := oin_inv h6
  obtain ⟨n, f⟩ := q
  have h9 := aint_inv h8
  subst h9
  obtain ⟨k0, hk0⟩ := hI.cell (garr_inv h7)
  refine W.iast D.x D.b (hI.1.2.1 k0 _ hk0) ((D.k.2 0 _ rfl).1 n (fun j => .int (f j))) (fun q => by cases q) (by show ¬ (i < 0 ∨ (arrV _ _ _).slots.size ≤ _); rw [arrV_size]; exact hin) rfl rfl hd fun H1 e z oq => ?_
  have kz := kk _ (by exact Kb) h2
  refine kz D Kb H1 ls _ (hI.set (garr_inv h7) hk0 (.inl (0, (n, .inl (upd f i.toNatClampNeg x)))) z (hI.1.2.1.set hI.D hk0 ?_ oq) (hI.2.2.put z oq (hI.D.2 k0 _ hk0))) hl
  show H1[a]? = some (vp_cell _ _)
  rw [e]
  rw [vp_cell_i, vp_cell_i, arrV_store]
  congr 2
  funext q
  by_cases hq : q = i.toNatClampNeg
  · subst hq
    simp [updV, upd]
  · simp [updV, upd, hq]
theorem v_astq {a t ci : Nat} {C : String} {T : u_T} {N : Nat} {i : Int32} {r : Option Nat} {K : Unit → MM ρ} (ht : ∀ dA, (gty dA)[t]? = some (dA t, .object C)) (hc : vwCl[ci]? = some (C, T, N)) (hd : decode cc pc = .ok (.aastore, 1)) (hf : (mbind (masq a t ci i r) K).1 G = some R)
    (kk : ∀ G1 : GH, VK X B G1 → (K ()).1 G1 = some R → V X own cc nL fr lo Ts B Q G1 (pc + 1) lv st) : V X own cc nL fr lo Ts B Q G pc lv (va_rf r :: .int i :: .ref a :: st) := by
  intro D Kb H ls locs hI hl
  obtain ⟨h, h3, h2⟩ := mwr_inv hf
  obtain ⟨u, hu, h3⟩ := Option.bind_eq_some_iff.mp h3
  obtain ⟨q, h5, h6⟩ := Option.bind_eq_some_iff.mp h3
  obtain ⟨z, h7, h8⟩ := Option.bind_eq_some_iff.mp h5
  obtain ⟨hin, rfl⟩ := oin_inv h6
  obtain ⟨n, f⟩ := q
  have h9 := aref_inv h8
  subst h9
  obtain ⟨k0, hk0⟩ := hI.cell (garr_inv h7)
  have fin : ∀ (H1 : Heap), H1[a]? = some ((arrV (xdA X t) n (fun j => va_rf (f j))).setSlot i.toNatClampNeg (va_rf r)) → H1.size = H.size → (∀ q, q ≠ a → H1[q]? = H[q]?) → W (xp X) (xl X) (xe X) (xR X) (xs X) (xm X) (xa X) (xb X) (xme X) (xc X) H1 (locs ++ [⟨a, i.toNatClampNeg⟩]) (G.2.2.1 - B.1) (G.2.2.2 - B.2.1) Q (F0 (xm X) (pc + 1) ls st) := by
    intro H1 e z oq
    have kz := kk _ (by exact Kb) h2
    refine kz D Kb H1 ls _ (hI.set (garr_inv h7) hk0 (.inl (t, (n, .inr (.inr (.inr (.inr (va_up f i.toNatClampNeg r))))))) z (hI.1.2.1.set hI.D hk0 ?_ oq) (hI.2.2.put z oq (hI.D.2 k0 _ hk0))) hl
    show H1[a]? = some (vp_cell _ _)
    rw [e]
    rw [vp_cell_q, arrV_store]
    congr 2
    funext q
    by_cases hq : q = i.toNatClampNeg
    · subst hq
      simp [updV, va_up]
    · simp [updV, va_up, hq]
  cases r with
  | none =>
    exact va_WaastN (C := C) D.x D.b (hI.1.2.1 k0 _ hk0) ((D.k.2 t _ (ht _)).1 n (fun j => va_rf (f j))) (fun h => by cases h) (by show ¬ (i < 0 ∨ (arrV _ _ _).slots.size ≤ _); rw [arrV_size]; exact hin) rfl rfl hd fun H1 e z oq => fin H1 e z oq
  | some v =>
    have hlt : i.toNatClampNeg < n := Nat.not_le.mp fun q => hin (Or.inr q)
    have h0 : ¬ i < 0 := fun q => hin (Or.inl q)
    obtain ⟨vs, hv, -⟩ := Option.map_eq_some_iff.mp hu
    obtain ⟨qk, hqk⟩ := hI.cell (gobj_inv hv)
    obtain ⟨r', hr', cellV, g1, g2, g3, -⟩ := hI.1.2.1 qk _ hqk
    have hcls := (D.k.1 ci _ hc).2
    obtain ⟨kA, comp, k1, k2, k3, -⟩ := (D.k.2 t _ (ht _)).2
    have hcomp : comp = (xDD X).1 ci := Option.some.inj (k3.symm.trans hcls.1)
    subst hcomp
    obtain ⟨kC, hkC, -⟩ := hcls.2
    exact W.aast D.x D.b (hI.1.2.1 k0 _ hk0) (fun q h => by cases h) (fun h => by cases h) k1 k2 rfl hkC ⟨h0, by show _ < (arrV _ _ _).slots.size; rw [arrV_size]; exact hlt⟩ g1 (fun q h => by rw [g3] at h; cases h) (by rw [g2]; exact hkC) (by rw [g2]; exact va_assign hcls) rfl rfl hd fun H1 e z oq => fin H1 e z oq
end Varr
