/-! PART 05: V's rows on cells: fields, arrays, new cells. -/
/-- where a program ends: the counters' last values are those of the end -/
def VE {ρ : Type} (B : VB) (R : ρ × GH) : Prop := B.2.2.1 = R.2.2.2.1 ∧ B.2.2.2 = R.2.2.2.2
section Vcells
variable {X : VX} {own : String} {cc : ByteArray} {nL fr lo : Nat} {Ts : List Cond} {B : VB} {Q : State → Prop} {G : GH} {pc : Nat} {lv : List (Nat × Value)} {st : List Value} {ρ : Type} {R : ρ × GH}
theorem gI.cell {H : Heap} {locs : List Loc} (hI : gI X G H locs) {a : Nat} {e : LE} (h : G.1 a = some e) : ∃ k : Nat, (gL (xdA X) G)[k]? = some (a, gE (xdA X) e) := gL_get (hI.1.2.2 a (by rw [h]; exact fun z => by cases z)) h
theorem gI.D {H : Heap} {locs : List Loc} (hI : gI X G H locs) : va_D (xA X) (gL (xdA X) G) := gL_D hI.2.1
/-- one cell's contents change -/
theorem gI.set {H H1 : Heap} {locs locs1 : List Loc} (hI : gI X G H locs) {a k : Nat} {e : LE} {x : va_E} (he : G.1 a = some e) (hk : (gL (xdA X) G)[k]? = some (a, x)) (e' : LE) (hz : H1.size = H.size) (hP : va_P (xDD X) vwCl ((gL (xdA X) G).set k (a, gE (xdA X) e')) H1) (hS : va_S (xA X) (xs X).heap H1 locs1) : gI X (va_up G.1 a (some e'), G.2) H1 locs1 := by
  rw [gL_set e' hk] at hP
  have ha : G.1 a ≠ none := by rw [he]; exact fun z => by cases z
  refine ⟨⟨hI.1.1.trans hz.symm, hP, fun b hb => ?_⟩, fun b hb => ?_, hS⟩
  · by_cases hba : b = a
    · rw [hba]; exact hI.1.2.2 a ha
    · exact hI.1.2.2 b (by simpa [va_up, hba] using hb)
  · by_cases hba : b = a
    · rw [hba]; exact hI.2.1 a ha
    · exact hI.2.1 b (by simpa [va_up, hba] using hb)
theorem gI.push {H H1 : Heap} {locs locs1 : List Loc} (hI : gI X G H locs) (hA : ∀ q, (xs X).heap.size ≤ q → (xA X) q) (e : LE) (c s : Nat) {q : Nat} (hq : q = H.size) (hz : H1.size = H.size + 1) (hP : va_P (xDD X) vwCl (gL (xdA X) G ++ [(q, gE (xdA X) e)]) H1) (hS : va_S (xA X) (xs X).heap H1 locs1) : gI X (va_up G.1 G.2.1 (some e), G.2.1 + 1, c, s) H1 locs1 := by
  have hn : q = G.2.1 := hq.trans hI.1.1.symm
  rw [hn, ← gL_push e c s] at hP
  refine ⟨⟨?_, hP, fun b hb => ?_⟩, fun b hb => ?_, hS⟩
  · show G.2.1 + 1 = _
    rw [hz, hI.1.1]
  · show b < G.2.1 + 1
    by_cases hba : b = G.2.1
    · omega
    · exact Nat.lt_succ_of_lt (hI.1.2.2 b (by simpa [va_up, hba] using hb))
  · by_cases hba : b = G.2.1
    · rw [hba, hI.1.1]; exact hA _ hI.2.2.1
    · exact hI.2.1 b (by simpa [va_up, hba] using hb)
theorem v_get {C : String} {T : u_T} {N index a : Nat} {v : Value} {fs : List Value} (ci k : Nat) (hin : ∀ w ∈ u_ws C T N, w ∈ Ts) (hc : vwCl[ci]? = some (C, T, N)) (hk : k < N) (hdc : (T k).1 = C) (hw : Cond.fieldLink own index C (T k).2.1 (T k).2.2.1 ∈ Ts) (hd : decode cc pc = .ok (.getfield index, 3)) (hg : G.1 a = some (.inr (ci, fs))) (hv : fs[k]? = some v)
    (kk : V X own cc nL fr lo Ts B Q G (pc + 3) lv (v :: st)) : V X own cc nL fr lo Ts B Q G pc lv (.ref a :: st) := by
  intro D K H ls locs hI hl
  obtain ⟨k0, hk0⟩ := hI.cell hg
  exact va_get D.x D.b D.ts hin D.ow D.k hI.1.2.1 k0 hk0 hc k hk (D.ts _ hw) (fun _ h => by rw [hdc] at h; exact h) hv hd (kk D K H ls locs hI hl)
theorem v_gi {C : String} {T : u_T} {N index a : Nat} {K : Int32 → MM ρ} (ci k : Nat) (hin : ∀ w ∈ u_ws C T N, w ∈ Ts) (hc : vwCl[ci]? = some (C, T, N)) (hk : k < N) (hdc : (T k).1 = C) (hw : Cond.fieldLink own index C (T k).2.1 (T k).2.2.1 ∈ Ts) (hd : decode cc pc = .ok (.getfield index, 3)) (hf : (mbind (mgi a ci k) K).1 G = some R)
    (kk : ∀ x : Int32, (K x).1 G = some R → V X own cc nL fr lo Ts B Q G (pc + 3) lv (.int x :: st)) : V X own cc nL fr lo Ts B Q G pc lv (.ref a :: st) := by
  obtain ⟨x, G1, h1, h2⟩ := mbind_inv hf
  obtain ⟨y, h3, h4⟩ := mread_inv h1
  cases h4
  obtain ⟨fs, h5, h6⟩ := Option.bind_eq_some_iff.mp h3
  exact v_get ci k hin hc hk hdc hw hd (gobj_inv h5) (oint_inv h6) (kk x h2)
theorem v_gr {C : String} {T : u_T} {N index a : Nat} {K : Nat → MM ρ} (ci k : Nat) (hin : ∀ w ∈ u_ws C T N, w ∈ Ts) (hc : vwCl[ci]? = some (C, T, N)) (hk : k < N) (hdc : (T k).1 = C) (hw : Cond.fieldLink own index C (T k).2.1 (T k).2.2.1 ∈ Ts) (hd : decode cc pc = .ok (.getfield index, 3)) (hf : (mbind (mgr a ci k) K).1 G = some R)
    (kk : ∀ x : Nat, (K x).1 G = some R → V X own cc nL fr lo Ts B Q G (pc + 3) lv (.ref x :: st)) : V X own cc nL fr lo Ts B Q G pc lv (.ref a :: st) := by
  obtain ⟨x, G1, h1, h2⟩ := mbind_inv hf
  obtain ⟨y, h3, h4⟩ := mread_inv h1
  cases h4
  obtain ⟨fs, h5, h6⟩ := Option.bind_eq_some_iff.mp h3
  exact v_get ci k hin hc hk hdc hw hd (gobj_inv h5) (oref_inv h6) (kk x h2)
theorem mput_inv {a ci k : Nat} {v : Value} {K : Unit → MM ρ} (hf : (mbind (mput a ci k v) K).1 G = some R) : ∃ fs, G.1 a = some (.inr (ci, fs)) ∧ k < fs.length ∧ (K ()).1 (va_up G.1 a (some (.inr (ci, fs.set k v))), G.2) = some R := by
  obtain ⟨x, G1, h1, h2⟩ := mbind_inv hf
  obtain ⟨y, h3, h4⟩ := mwrite_inv h1
  cases h4
  obtain ⟨fs, h5, h6⟩ := Option.bind_eq_some_iff.mp h3
  split at h6
  · rename_i hlt
    cases h6
    exact ⟨fs, gobj_inv h5, hlt, h2⟩
  · cases h6
theorem va_S_size {A : Nat → Prop} {H0 H : Heap} {locs : List Loc} (h : va_S A H0 H locs) : H0.size ≤ H.size := h.1
theorem v_put {C : String} {T : u_T} {N index a : Nat} {v : Value} {K : Unit → MM ρ} (ci k : Nat) (ty : FieldType) (hin : ∀ w ∈ u_ws C T N, w ∈ Ts) (ty0 : Nat → FieldType) (hty : ∀ k, k < N → parseFieldDescriptor (T k).2.2.1 = some (ty0 k)) (hnm : ∀ a, a < N → ∀ b, b < N → a ≠ b → (T a).2.1 ≠ (T b).2.1) (hc : vwCl[ci]? = some (C, T, N)) (hk : k < N) (hdc : (T k).1 = C) (hw : Cond.fieldLink own index C (T k).2.1 (T k).2.2.1 ∈ Ts) (hfin : (T k).2.2.2 = false) (hdt : parseFieldDescriptor (T k).2.2.1 = some ty) (hn : narrow ty v = v) (hfit : fits ty v = true) (hd : decode cc pc = .ok (.putfield index, 3)) (hf : (mbind (mput a ci k v) K).1 G = some R)
    (kk : ∀ G1 : GH, VK X B G1 → (K ()).1 G1 = some R → V X own cc nL fr lo Ts B Q G1 (pc + 3) lv st) : V X own cc nL fr lo Ts B Q G pc lv (v :: .ref a :: st) := by
  intro D Kb H ls locs hI hl
  obtain ⟨fs, hg, hlt, h2⟩ := mput_inv hf
  obtain ⟨k0, hk0⟩ := hI.cell hg
  have hap := va_apart (own := own) D.ts hin ty0 hty hnm D.k hc
  obtain ⟨r, h1, cell, q1, q2, q3, q4⟩ := hI.1.2.1 k0 _ hk0
  have hr : r = (C, T, N) := Option.some.inj (h1.symm.trans hc)
  subst hr
  obtain ⟨hS, hfc, kC, hkC, hkind⟩ := D.k.1 ci _ hc
  obtain ⟨cf, kf, fi, f, hi, hsl⟩ := hS k hk
  have hlay := D.ts _ (hin _ (u_in_lay hk))
  unfold u_lay at hlay
  rw [if_neg (by rw [hfin]; decide)] at hlay
  have hi2 : (xs X).fieldFound? C (T k).2.1 (T k).2.2.1 = some (cf, kf, fi, f) := by rw [← hdc]; exact hi
  refine W.putK D.x D.b (f := f) ⟨D.ow, D.ts _ hw, ⟨_, _, _, hi2⟩, (u_facts hfc hkC (u_lays D.ts hin hk) hi).1⟩ (by rw [q2]; exact u_store hfc hkC hkind hlay hi hdt hn hfit) q1 q3 (by rw [hsl]; exact k2_hasslot (q4 k hk)) rfl rfl hd fun H' e1 e2 e3 => ?_
  rw [hsl] at e1 ⊢
  have hP' := hI.1.2.1.set hI.D hk0 (e := .inr (ci, fs.set k v)) ⟨_, hc, t_OB.to (V := updV (vp_V fs) k v) ⟨_, e1, q2, q3, t_set q4 hap hk v⟩ (fun j _ => vp_updV_set hlt v j)⟩ e3
  have kz := kk _ (by exact Kb) h2
  exact kz D Kb H' ls _ (hI.set hg hk0 (.inr (ci, fs.set k v)) e2 hP' (hI.2.2.put e2 e3 (hI.D.2 k0 _ hk0))) hl
theorem v_putF {C : String} {T : u_T} {N index a : Nat} {v : Value} {K : Unit → MM ρ} (ci k : Nat) (ty : FieldType) (hinit : (xme X).name = "<init>") (hin : ∀ w ∈ u_ws C T N, w ∈ Ts) (ty0 : Nat → FieldType) (hty : ∀ k, k < N → parseFieldDescriptor (T k).2.2.1 = some (ty0 k)) (hnm : ∀ a, a < N → ∀ b, b < N → a ≠ b → (T a).2.1 ≠ (T b).2.1) (hc : vwCl[ci]? = some (C, T, N)) (hk : k < N) (hdc : (T k).1 = C) (hw : Cond.fieldLink own index C (T k).2.1 (T k).2.2.1 ∈ Ts) (hfin : (T k).2.2.2 = true) (hdecl : (T k).1 = own) (hdt : parseFieldDescriptor (T k).2.2.1 = some ty) (hn : narrow ty v = v) (hfit : fits ty v = true) (hd : decode cc pc = .ok (.putfield index, 3)) (hf : (mbind (mput a ci k v) K).1 G = some R)
    (kk : ∀ G1 : GH, VK X B G1 → (K ()).1 G1 = some R → V X own cc nL fr lo Ts B Q G1 (pc + 3) lv st) : V X own cc nL fr lo Ts B Q G pc lv (v :: .ref a :: st) := by
  intro D Kb H ls locs hI hl
  obtain ⟨fs, hg, hlt, h2⟩ := mput_inv hf
  obtain ⟨k0, hk0⟩ := hI.cell hg
  have hap := va_apart (own := own) D.ts hin ty0 hty hnm D.k hc
  obtain ⟨r, h1, cell, q1, q2, q3, q4⟩ := hI.1.2.1 k0 _ hk0
  have hr : r = (C, T, N) := Option.some.inj (h1.symm.trans hc)
  subst hr
  obtain ⟨hS, hfc, kC, hkC, hkind⟩ := D.k.1 ci _ hc
  obtain ⟨cf, kf, fi, f, hi, hsl⟩ := hS k hk
  have hlay := D.ts _ (hin _ (u_in_lay hk))
  unfold u_lay at hlay
  rw [if_pos hfin] at hlay
  have hcf : (xm X).cls = cf := by
    obtain ⟨_, _, c', _, _, _, -, -, hf', -, -, -, hown2, -⟩ := Cond.laysFinal_spec hlay
    have e1 : c' = cf := by have := hi.symm.trans hf'; simp at this; exact this.1.symm
    rw [hdecl] at hown2
    rw [← e1]; exact Option.some.inj (D.ow.symm.trans hown2)
  have hi2 : (xs X).fieldFound? C (T k).2.1 (T k).2.2.1 = some (cf, kf, fi, f) := by rw [← hdc]; exact hi
  refine W.putFinK D.x D.b D.ow (D.ts _ hw) hi2 (u_facts hfc hkC (u_lays D.ts hin hk) hi).1 hcf hinit (by rw [q2]; exact u_fits hfc hkC hkind (Or.inr hlay) hi hdt hn hfit) q1 q3 (by rw [hsl]; exact k2_hasslot (q4 k hk)) rfl rfl hd fun H' e1 e2 e3 => ?_
  rw [hsl] at e1 ⊢
  have hP' := hI.1.2.1.set hI.D hk0 (e := .inr (ci, fs.set k v)) ⟨_, hc, t_OB.to (V := updV (vp_V fs) k v) ⟨_, e1, q2, q3, t_set q4 hap hk v⟩ (fun j _ => vp_updV_set hlt v j)⟩ e3
  have kz := kk _ (by exact Kb) h2
  exact kz D Kb H' ls _ (hI.set hg hk0 (.inr (ci, fs.set k v)) e2 hP' (hI.2.2.put e2 e3 (hI.D.2 k0 _ hk0))) hl
end Vcells
