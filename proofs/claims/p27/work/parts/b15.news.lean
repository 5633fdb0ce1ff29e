/-! PART 07: V's rows on new cells, Math, Object's constructor, System.arraycopy. -/
section Vnew
variable {X : VX} {own : String} {cc : ByteArray} {nL fr lo : Nat} {Ts : List Cond} {B : VB} {Q : State → Prop} {G : GH} {pc : Nat} {lv : List (Nat × Value)} {st : List Value} {ρ : Type} {R : ρ × GH}
theorem mnw_inv {f : GH → Option (LE × Nat)} {K : Nat → MM ρ} (hf : (mbind (mnew f) K).1 G = some R) : ∃ e, f G = some e ∧ (K G.2.1).1 (va_up G.1 G.2.1 (some e.1), G.2.1 + 1, G.2.2.1 + 1, G.2.2.2 + e.2) = some R := by
  obtain ⟨x, G1, h1, h2⟩ := mbind_inv hf
  obtain ⟨y, h3, h4⟩ := mnew_inv h1
  cases h4
  exact ⟨y, h3, h2⟩
theorem VK.room {c s : Nat} {h : Nat → Option LE} {n : Nat} (Kb : VK X B G) (hE : VE B R) {K : MM ρ} (h2 : K.1 (h, n, G.2.2.1 + c, G.2.2.2 + s) = some R) : (G.2.2.1 - B.1) + c ≤ (xR X).cells ∧ (G.2.2.2 - B.2.1) + s ≤ (xR X).slots ∧ VK X B (h, n, G.2.2.1 + c, G.2.2.2 + s) ∧ (G.2.2.1 - B.1) + c = G.2.2.1 + c - B.1 ∧ (G.2.2.2 - B.2.1) + s = G.2.2.2 + s - B.2.1 := by
  obtain ⟨-, g1, g2⟩ := K.2 _ _ _ h2
  obtain ⟨k1, k2, k3, k4⟩ := Kb
  obtain ⟨e1, e2⟩ := hE
  refine ⟨?_, ?_, ⟨k1, k2, ?_, ?_⟩, ?_, ?_⟩
  · rw [k1, e1]; dsimp only at g1; omega
  · rw [k2, e2]; dsimp only at g2; omega
  · dsimp only; omega
  · dsimp only; omega
  · omega
  · omega
theorem v_newo {C : String} {T : u_T} {N index : Nat} {fs : List Value} {K : Nat → MM ρ} (ci : Nat) (ty : Nat → FieldType) (hin : ∀ w ∈ u_ws C T N, w ∈ Ts) (hty : ∀ k, k < N → parseFieldDescriptor (T k).2.2.1 = some (ty k)) (hc : vwCl[ci]? = some (C, T, N)) (hcl : Cond.classLink own index C ∈ Ts) (hinst : Cond.instantiable C N ∈ Ts) (hini : Cond.initialized C ∈ Ts) (hfs : ∀ j, j < N → defaultValue (ty j) = vp_V fs j) (hd : decode cc pc = .ok (.new index, 3)) (hE : VE B R) (hf : (mbind (mnewo ci fs N) K).1 G = some R)
    (kk : ∀ (q : Nat) (G1 : GH), (K q).1 G1 = some R → V X own cc nL fr lo Ts B Q G1 (pc + 3) lv (.ref q :: st)) : V X own cc nL fr lo Ts B Q G pc lv st := by
  intro D Kb H ls locs hI hl
  obtain ⟨e, h3, h2⟩ := mnw_inv hf
  cases h3
  obtain ⟨r1, r2, r3, r4, r5⟩ := Kb.room hE h2
  have hKn := D.k.1 ci _ hc
  refine W.newcK D.x D.b D.ow (D.ts _ hcl) (D.ts _ hinst) (D.ts _ hini) rfl hd r1 r2 hKn.2.1 rfl fun H1 kC hkC e1 z1 o1 => ?_
  have hk : ∀ (k : Nat) (x : Nat × va_E), (gL (xdA X) G)[k]? = some x → H1[x.1]? = H[x.1]? := fun k x hx => o1 x.1 ((hI.1.2.1 k x hx).lt)
  have hI1 := hI.push D.a (.inr (ci, fs)) (G.2.2.1 + 1) (G.2.2.2 + N) rfl z1 ((hI.1.2.1.kept hk).app (fun k x hx => by
    have hz : k < 1 := (List.getElem?_eq_some_iff.mp hx).1
    rw [show k = 0 by omega] at hx
    cases hx
    exact ⟨_, hc, (u_born ty D.ts hin hKn hkC e1 hty).to hfs⟩)) ⟨Nat.le_trans hI.2.2.1 (by omega), fun x h1 h2 => (o1 x (Nat.lt_of_lt_of_le h1 hI.2.2.1)).trans (hI.2.2.2.1 x h1 h2), hI.2.2.2.2⟩
  have k0 := kk G.2.1 _ h2 D r3 H1 ls locs hI1 hl
  rw [hI.1.1] at k0
  rw [r4, r5]
  exact k0
theorem v_newi {n : Int32} {K : Nat → MM ρ} (harr : Cond.arrayClass .int ∈ Ts) (hd : decode cc pc = .ok (.newarray .int, 2)) (hE : VE B R) (hf : (mbind (mnewi n) K).1 G = some R)
    (kk : ∀ (q : Nat) (G1 : GH), (K q).1 G1 = some R → V X own cc nL fr lo Ts B Q G1 (pc + 2) lv (.ref q :: st)) : V X own cc nL fr lo Ts B Q G pc lv (.int n :: st) := by
  intro D Kb H ls locs hI hl
  obtain ⟨e, h3, h2⟩ := mnw_inv hf
  split at h3
  · rename_i hn
    cases h3
    obtain ⟨r1, r2, r3, r4, r5⟩ := Kb.room hE h2
    refine va_newaK (atype := .int) (N := n.toNatClampNeg) D.x D.b (D.ts _ harr) rfl hd rfl hn.1 rfl (by show n.toNatClampNeg * 4 ≤ 536870912; omega) r1 r2 rfl fun H1 cA e1 z1 o1 hAr hNm => ?_
    have hcA : cA = xdA X 0 := by
      have h9 := (D.k.2 0 _ rfl).2
      exact Option.some.inj (hNm.symm.trans h9)
    subst hcA
    have hk : ∀ (k : Nat) (x : Nat × va_E), (gL (xdA X) G)[k]? = some x → H1[x.1]? = H[x.1]? := fun k x hx => o1 x.1 ((hI.1.2.1 k x hx).lt)
    have hI1 := hI.push D.a (.inl (0, (n.toNatClampNeg, .inl (fun _ => 0)))) (G.2.2.1 + 1) (G.2.2.2 + n.toNatClampNeg) rfl z1 ((hI.1.2.1.kept hk).app (fun k x hx => by
      have hz : k < 1 := (List.getElem?_eq_some_iff.mp hx).1
      rw [show k = 0 by omega] at hx
      cases hx
      exact e1)) ⟨Nat.le_trans hI.2.2.1 (by omega), fun x h1 h2 => (o1 x (Nat.lt_of_lt_of_le h1 hI.2.2.1)).trans (hI.2.2.2.1 x h1 h2), hI.2.2.2.2⟩
    have k0 := kk G.2.1 _ h2 D r3 H1 ls locs hI1 hl
    rw [hI.1.1] at k0
    rw [r4, r5]
    exact k0
  · cases h3
theorem v_newq {n : Int32} {C : String} {index : Nat} {K : Nat → MM ρ} (t : Nat) (ht : ∀ dA, (gty dA)[t]? = some (dA t, .object C)) (hao : EX (xs X) → va_AO C (xs X)) (hcl : Cond.classLink own index C ∈ Ts) (hd : decode cc pc = .ok (.anewarray index, 3)) (hE : VE B R) (hf : (mbind (mnewq t n) K).1 G = some R)
    (kk : ∀ (q : Nat) (G1 : GH), (K q).1 G1 = some R → V X own cc nL fr lo Ts B Q G1 (pc + 3) lv (.ref q :: st)) : V X own cc nL fr lo Ts B Q G pc lv (.int n :: st) := by
  intro D Kb H ls locs hI hl
  obtain ⟨e, h3, h2⟩ := mnw_inv hf
  split at h3
  · rename_i hn
    cases h3
    obtain ⟨r1, r2, r3, r4, r5⟩ := Kb.room hE h2
    refine W.anew D.x D.b D.ow (D.ts _ hcl) (va_AO.use (hao D.ex)) rfl hd rfl hn.1 (by omega) r1 r2 fun cA kA comp f1 f2 f3 f4 => ?_
    have hcA : cA = xdA X t := by
      obtain ⟨kA9, comp9, -, -, -, h4⟩ := (D.k.2 t _ (ht _)).2
      exact Option.some.inj (f1.symm.trans h4)
    subst hcA
    generalize hH1 : H.push ({ cls := xdA X t, slots := Array.replicate n.toNatClampNeg .null, vm := .none } : Cell) = H1
    have z1 : H1.size = H.size + 1 := by rw [← hH1, Array.size_push]
    have e1 : H1[H.size]? = some (arrV (xdA X t) n.toNatClampNeg (fun _ => .null)) := by rw [← hH1, Array.getElem?_push_size, ← arrV_new]
    have o1 : ∀ q : Nat, q < H.size → H1[q]? = H[q]? := fun q hq => by rw [← hH1, Array.getElem?_push, if_neg (Nat.ne_of_lt hq)]
    have hk : ∀ (k : Nat) (x : Nat × va_E), (gL (xdA X) G)[k]? = some x → H1[x.1]? = H[x.1]? := fun k x hx => o1 x.1 ((hI.1.2.1 k x hx).lt)
    have hI1 := hI.push D.a (.inl (t, (n.toNatClampNeg, .inr (.inr (.inr (.inr (fun _ => none))))))) (G.2.2.1 + 1) (G.2.2.2 + n.toNatClampNeg) rfl z1 ((hI.1.2.1.kept hk).app (fun k x hx => by
      have hz : k < 1 := (List.getElem?_eq_some_iff.mp hx).1
      rw [show k = 0 by omega] at hx
      cases hx
      exact e1)) ⟨Nat.le_trans hI.2.2.1 (by omega), fun x h1 h2 => (o1 x (Nat.lt_of_lt_of_le h1 hI.2.2.1)).trans (hI.2.2.2.1 x h1 h2), hI.2.2.2.2⟩
    have k0 := kk G.2.1 _ h2 D r3 H1 ls locs hI1 hl
    rw [hI.1.1] at k0
    rw [r4, r5]
    exact k0
  · cases h3
theorem v_objInit {index a : Nat} (hlink : Cond.methodLink own index objectInit ∈ Ts) (hinst : Cond.instanceMethod objectInit ∈ Ts) (hcode : Cond.code objectInit ⟨#[0xb1]⟩ 1 none ∈ Ts) (hd : decode cc pc = .ok (.invokespecial index, 3)) (hfr : 1 ≤ fr) (hlo : 12 ≤ lo) (k : V X own cc nL fr lo Ts B Q G (pc + 3) lv []) : V X own cc nL fr lo Ts B Q G pc lv [.ref a] := by
  intro D Kb H ls locs hI hl
  exact W.objInit D.x D.b D.ow (D.ts _ hlink) (D.ts _ hinst) (D.ts _ hcode) rfl (by show ls.size = _; rw [hl.1, D.ml]) rfl hd (by rw [D.rf]; exact hfr) (by rw [D.rl]; exact hlo) (k D Kb H ls locs hI hl)
theorem VK.le (Kb : VK X B G) (hE : VE B R) {K : MM ρ} (h2 : K.1 G = some R) : (G.2.2.1 - B.1) ≤ (xR X).cells ∧ (G.2.2.2 - B.2.1) ≤ (xR X).slots := by
  obtain ⟨-, g1, g2⟩ := K.2 _ _ _ h2
  obtain ⟨k1, k2, k3, k4⟩ := Kb
  obtain ⟨e1, e2⟩ := hE
  exact ⟨by rw [k1, e1]; omega, by rw [k2, e2]; omega⟩
theorem v_max {index : Nat} {x y : Int32} {K : MM ρ} (hlink : Cond.methodLink own index Lib.Math.max.name ∈ Ts) (hstat : Cond.static Lib.Math.max.name ∈ Ts) (hini : Cond.initialized "java/lang/Math" ∈ Ts) (hcode : Cond.code Lib.Math.max.name Lib.Math.max.code 2 (some .int) ∈ Ts) (hd : decode cc pc = .ok (.invokestatic index, 3)) (hfr : 1 ≤ fr) (hlo : (st.map fun v => v.category).sum + 13 ≤ lo) (hE : VE B R) (hf : K.1 G = some R) (k : V X own cc nL fr lo Ts B Q G (pc + 3) lv (.int (if x < y then y else x) :: st)) : V X own cc nL fr lo Ts B Q G pc lv (.int y :: .int x :: st) := by
  intro D Kb H ls locs hI hl
  obtain ⟨r1, r2⟩ := Kb.le hE hf
  exact va_mmax D.x D.b (by rw [hl.1, D.ml]) D.ow (D.ts _ hlink) (D.ts _ hstat) (D.ts _ hini) (D.ts _ hcode) (by rw [D.rf]; exact hfr) (by rw [D.rl]; exact hlo) r1 r2 hd (k D Kb H ls locs hI hl)
theorem v_min {index : Nat} {x y : Int32} {K : MM ρ} (hlink : Cond.methodLink own index Lib.Math.min.name ∈ Ts) (hstat : Cond.static Lib.Math.min.name ∈ Ts) (hini : Cond.initialized "java/lang/Math" ∈ Ts) (hcode : Cond.code Lib.Math.min.name Lib.Math.min.code 2 (some .int) ∈ Ts) (hd : decode cc pc = .ok (.invokestatic index, 3)) (hfr : 1 ≤ fr) (hlo : (st.map fun v => v.category).sum + 13 ≤ lo) (hE : VE B R) (hf : K.1 G = some R) (k : V X own cc nL fr lo Ts B Q G (pc + 3) lv (.int (if y < x then y else x) :: st)) : V X own cc nL fr lo Ts B Q G pc lv (.int y :: .int x :: st) := by
  intro D Kb H ls locs hI hl
  obtain ⟨r1, r2⟩ := Kb.le hE hf
  exact va_mmin D.x D.b (by rw [hl.1, D.ml]) D.ow (D.ts _ hlink) (D.ts _ hstat) (D.ts _ hini) (D.ts _ hcode) (by rw [D.rf]; exact hfr) (by rw [D.rl]; exact hlo) r1 r2 hd (k D Kb H ls locs hI hl)
theorem nneg_toInt {z : Int32} (hz : ¬ z < 0) : z.toInt = (z.toNatClampNeg : Int) := by
  have hz0 : (0 : Int) ≤ z.toInt := by
    have := Int32.not_lt.mp hz
    simpa using Int32.le_iff_toInt_le.mp this
  show z.toInt = ((z.toInt.toNat : Nat) : Int)
  omega
theorem v_copy {index a0 a : Nat} {sp dp n : Int32} {K : Unit → MM ρ} (hlink : Cond.methodLink own index arraycopyName ∈ Ts) (hnat : Cond.native arraycopyName ∈ Ts) (hstat : Cond.static arraycopyName ∈ Ts) (hini : Cond.initialized "java/lang/System" ∈ Ts) (hd : decode cc pc = .ok (.invokestatic index, 3)) (hfr : 1 ≤ fr) (hlo : (st.map fun v => v.category).sum + (nativeFrameWords "java/lang/System" "arraycopy" 5 + 11) ≤ lo) (hf : (mbind (mcopy a0 sp a dp n) K).1 G = some R)
    (kk : ∀ G1 : GH, VK X B G1 → (K ()).1 G1 = some R → V X own cc nL fr lo Ts B Q G1 (pc + 3) lv st) : V X own cc nL fr lo Ts B Q G pc lv (.int n :: .int dp :: .ref a :: .int sp :: .ref a0 :: st) := by
  intro D Kb H ls locs hI hl
  obtain ⟨h, h3, h2⟩ := mwr_inv hf
  obtain ⟨q0, h5, h6⟩ := Option.bind_eq_some_iff.mp h3
  obtain ⟨z0, h7, h8⟩ := Option.bind_eq_some_iff.mp h5
  obtain ⟨q1, h9, h10⟩ := Option.bind_eq_some_iff.mp h6
  obtain ⟨z1, h11, h12⟩ := Option.bind_eq_some_iff.mp h9
  obtain ⟨n0, f⟩ := q0
  obtain ⟨n1, g⟩ := q1
  have h13 := aint_inv h8
  have h14 := aint_inv h12
  subst h13; subst h14
  split at h10
  · rename_i hc
    cases h10
    obtain ⟨c1, c2, c3, c4, c5, c6⟩ := hc
    obtain ⟨k0, hk0⟩ := hI.cell (garr_inv h7)
    obtain ⟨k1, hk1⟩ := hI.cell (garr_inv h11)
    intro T hT XS
    have hc0 : H[a0]? = some (vp_cell (xdA X 0) (n0, .inl f)) := hI.1.2.1 k0 _ hk0
    have hc1 : H[a]? = some (vp_cell (xdA X 0) (n1, .inl g)) := hI.1.2.1 k1 _ hk1
    obtain ⟨-, kk0, hkk0, cm0, hkd0⟩ := (D.k.2 0 _ rfl).1 n0 (fun j => .int (f j))
    obtain ⟨-, kk1, hkk1, cm1, hkd1⟩ := (D.k.2 0 _ rfl).1 n1 (fun j => .int (g j))
    obtain ⟨vm', X', step⟩ := XS.arraycopy D.x D.ow (D.ts _ hlink) (D.ts _ hnat) (D.ts _ hstat) (D.ts _ hini) (src := a0) (dst := a) (cs := vp_cell (xdA X 0) (n0, .inl f)) (cd := vp_cell (xdA X 0) (n1, .inl g)) (srcPos := sp) (destPos := dp) (n := n) (by rw [hT]; exact hc0) (by rw [hT]; exact hc1)
      (fun _ h => by cases h) (fun _ h => by cases h) (fun h => by cases h) (fun h => by cases h) hkk0 hkk1 hkd0 hkd1 (by simp [refKind]) c1 c2 c3
      (by rw [nneg_toInt c1, nneg_toInt c3]; show ¬ _ > ((arrV (xdA X 0) n0 (fun j => .int (f j))).slots.size : Int); rw [arrV_size]; omega)
      (by rw [nneg_toInt c2, nneg_toInt c3]; show ¬ _ > ((arrV (xdA X 0) n1 (fun j => .int (g j))).slots.size : Int); rw [arrV_size]; omega)
      (fun vm₁ _ i hi => by
        have e : (vp_cell (xdA X 0) (n0, .inl f)).slots.getD (sp.toNatClampNeg + i) .null = .int (f (sp.toNatClampNeg + i)) := by
          show (arrV (xdA X 0) n0 (fun j => .int (f j))).slots.getD _ _ = _
          rw [Array.getD_eq_getD_getElem?, arrV_read _ _ (by omega)]
          rfl
        refine ⟨?_, ?_⟩
        · rw [e]
          rfl
        · rw [e]
          exact trivial)
      (g := F0 (xm X) pc ls (.int n :: .int dp :: .ref a :: .int sp :: .ref a0 :: st)) rfl (by show ls.size = _; rw [hl.1, D.ml]) (rest := st) rfl (by rw [D.b]; exact hd) (by rw [D.rf]; exact hfr) (by rw [D.rl]; show 2 * 0 + _ + _ ≤ _; omega)
    have e1 : copied (vp_cell (xdA X 0) (n0, .inl f)) (vp_cell (xdA X 0) (n1, .inl g)) sp dp n = vp_cell (xdA X 0) (n1, .inl (va_cpy f g sp.toNatClampNeg dp.toNatClampNeg n.toNatClampNeg)) := va_copied (fun z => .int z) (xdA X 0) (xdA X 0) f g c4
    rw [e1] at X' step
    have hla : a < H.size := (Array.getElem?_eq_some_iff.mp hc1).1
    have hheap : ((T.setVm vm').setCell a (vp_cell (xdA X 0) (n1, .inl (va_cpy f g sp.toNatClampNeg dp.toNatClampNeg n.toNatClampNeg)))).heap = H.setIfInBounds a (vp_cell (xdA X 0) (n1, .inl (va_cpy f g sp.toNatClampNeg dp.toNatClampNeg n.toNatClampNeg))) := by rw [← hT]; rfl
    have oq : ∀ q : Nat, q ≠ a → (H.setIfInBounds a (vp_cell (xdA X 0) (n1, .inl (va_cpy f g sp.toNatClampNeg dp.toNatClampNeg n.toNatClampNeg))))[q]? = H[q]? := fun q hq => by simp [Array.getElem?_setIfInBounds, Ne.symm hq]
    have k0' := kk _ (by exact Kb) h2
    obtain ⟨t, a1, b1⟩ := k0' D Kb _ ls _ (hI.set (garr_inv h11) hk1 (.inl (0, (n1, .inl (va_cpy f g sp.toNatClampNeg dp.toNatClampNeg n.toNatClampNeg)))) (by simp) (hI.1.2.1.set hI.D hk1 (show (H.setIfInBounds a _)[a]? = some _ by simp [Array.getElem?_setIfInBounds, hla]) oq) ⟨by simp; exact hI.2.2.1, fun q g1 g2 => by
        rw [oq q (fun e => g2 (by rw [e]; exact hI.D.2 k1 _ hk1))]
        exact hI.2.2.2.1 q g1 g2, fun q hq => by
        rcases List.mem_append.mp hq with h | h
        · exact hI.2.2.2.2 q h
        · obtain ⟨z, -, hz⟩ := List.mem_map.mp h
          rw [← hz]
          exact hI.D.2 k1 _ hk1⟩) hl _ hheap X'
    exact ⟨t, step t a1, b1⟩
  · cases h10
end Vnew
