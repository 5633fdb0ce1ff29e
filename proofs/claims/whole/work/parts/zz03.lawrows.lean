/-! LAW 3: rows for the law's own walk: calls by their answers, the script's cells, comparisons. -/
def mpad {α : Type} (c s : Nat) (a : α) : MM (α × GH) := ⟨fun G => if G.2.2.1 ≤ c ∧ G.2.2.2 ≤ s then some ((a, G), (G.1, G.2.1, c, s)) else none, fun G r G' h => by
  dsimp only at h
  split at h
  · rename_i hc
    cases h
    exact ⟨Nat.le_refl _, hc.1, hc.2⟩
  · cases h⟩
theorem mpad_ok {α : Type} {c s : Nat} {a : α} {G : GH} (h : G.2.2.1 ≤ c ∧ G.2.2.2 ≤ s) : (mpad c s a).1 G = some ((a, G), (G.1, G.2.1, c, s)) := if_pos h
theorem mpad_inv {α : Type} {c s : Nat} {a b : α} {G G1 Ge : GH} (h : (mpad c s a).1 G = some ((b, G1), Ge)) : b = a ∧ G1 = G := by
  have h' : (if G.2.2.1 ≤ c ∧ G.2.2.2 ≤ s then some ((a, G), ((G.1, G.2.1, c, s) : GH)) else none) = some ((b, G1), Ge) := h
  split at h'
  · cases h'
    exact ⟨rfl, rfl⟩
  · cases h'
theorem cmp64 {x : Int64} : ¬ x > x ∧ (x == x) = true := ⟨Int64.lt_irrefl, beq_self_eq_true x⟩
section Lcmp
variable {p : Program} {l : Launch} {e : Env} {R : Room} {s : State} {m : MethodId} {args : Array Value} {below : List Frame} {meth : Method} {c : Code} {H : Heap} {locs : List Loc} {cells slots : Nat} {Q : State → Prop} {ls : Array Slot} {rest : List Value} {pc : Nat} {cc : ByteArray}
theorem lv_lcmp0 (hexec : p.tables.exec = Jvm.exec) (hb : c.code = cc) {x : Int64} (hdg : decode cc pc = .ok (.lcmp, 1))
    (k : W p l e R s m args below meth c H locs cells slots Q (F0 m (pc + 1) ls (.int 0 :: rest))) : W p l e R s m args below meth c H locs cells slots Q (F0 m pc ls (.long x :: .long x :: rest)) := by
  intro T hT X
  obtain ⟨t, a, b⟩ := k T hT X
  refine ⟨t, ?_, b⟩
  jvm_step X.here [X.here.top, hexec, hb, hdg, cmp64 (x := x)]
  exact a
end Lcmp
section Vlaw
variable {X : VX} {own : String} {cc : ByteArray} {nL fr lo : Nat} {Ts : List Cond} {B : VB} {Q : State → Prop} {G : GH} {pc : Nat} {lv : List (Nat × Value)} {st : List Value}
theorem u_callV {α : Type} {F : MM α} {x : α} {G1 : GH} {val : α → Option Value} {y : MethodName} {ws ws' : List Cond} {bytes : ByteArray} {maxL : Nat} {ret : Option FieldType} {fr' lo' index b : Nat} {C : String} {T : u_T} {N : Nat} {st0 st1 : List Value} {fs : List Value} (ci n : Nat) (As : List Value)
    (hM : CM (xl X) y ws fr' lo' (.ref b :: As) val F) (hG : GoodIn Ts (wsV own index C y ws)) (hw : ws = Cond.code y bytes maxL ret :: ws') (hdd : y.cls = C ∧ y.cls ≠ "java/lang/invoke/MethodHandle" ∧ y.cls ≠ "java/lang/invoke/VarHandle" ∧ (parseMethodDescriptor y.desc).map (fun d => d.parameters.length) = some n) (hfr : fr' + 1 ≤ fr) (hlo : 8 + (maxL + 11) + lo' ≤ lo) (hn : As.length = n) (hc : vwCl[ci]? = some (C, T, N)) (hd : decode cc pc = .ok (.invokevirtual index, 3)) (hst : (st.map fun v => v.category).sum ≤ 8) (hst0 : st0 = As.reverse ++ .ref b :: st) (hb : G.1 b = some (.inr (ci, fs))) (h1 : F.1 G = some (x, G1)) (hR : G1.2.2.1 ≤ B.2.2.1 ∧ G1.2.2.2 ≤ B.2.2.2) (hst1 : (val x).toList ++ st = st1)
    (kk : V X own cc nL fr lo Ts B Q G1 (pc + 3) lv st1) : V X own cc nL fr lo Ts B Q G pc lv st0 := by
  intro D Kb H ls locs hI hl
  obtain ⟨k0, hk0⟩ := hI.cell hb
  have hle := F.2 _ _ _ h1
  have Kb' := Kb
  obtain ⟨k1, k2, k3, k4⟩ := Kb
  obtain ⟨g0, g1, g2⟩ := hle
  have r1 : (G.2.2.1 - B.1) + (G1.2.2.1 - G.2.2.1) ≤ (xR X).cells := by rw [k1]; omega
  have r2 : (G.2.2.2 - B.2.1) + (G1.2.2.2 - G.2.2.2) ≤ (xR X).slots := by rw [k2]; omega
  subst hst1
  exact v_after D Kb' hI hl ⟨g0, g1, g2⟩ (va_runV (As := As) (rest := st) ⟨D.x, D.b, D.ml, D.ow, D.ts⟩ (hM _ _ _ _ _ h1) (cwV n D.ts hG hw rfl rfl hdd ⟨by rw [D.rf]; exact hfr, by rw [D.rl]; exact hlo⟩) ⟨cPc_blind _ _ _ _, va_recv D.k hI.1.2.1 (ci := ci) (q0 := k0) hc hk0, fun U hU hW => hI.pre D hU hW⟩ rfl hn hl.1 hst0 (lv_room hst) hd ⟨r1, r2⟩) kk
theorem v_afterW {lv : List (Nat × Value)} {st0 : List Value} {k : Int32} {G1 Gu : GH} {a : Array Value} {H : Heap} {ls : Array Slot} {locs : List Loc} (D : VC X own cc nL fr lo Ts) (Kb : VK X B G) (hI : gI X G H locs) (hl : lv_has ls nL lv) (hle : gle G G1) (hu : Gu.2 = G1.2)
    (hr : va_Run (xp X) (xl X) (xe X) (xR X) (xs X) (xm X) (xa X) (xb X) (xme X) (xc X) H locs (G.2.2.1 - B.1) (G.2.2.2 - B.2.1) (G1.2.2.1 - G.2.2.1) (G1.2.2.2 - G.2.2.2) (F0 (xm X) pc ls st0) st (cQw (xDD X) (xdA X) (some (.int k)) (gA G) Gu a) (gA G))
    (kk : ∀ n, (∀ a, Gu.1 a ≠ none → a < n) → V X own cc nL fr lo Ts B Q (Gu.1, n, Gu.2.2) (pc + 3) lv (.int k :: st)) : W (xp X) (xl X) (xe X) (xR X) (xs X) (xm X) (xa X) (xb X) (xme X) (xc X) H locs (G.2.2.1 - B.1) (G.2.2.2 - B.2.1) Q (F0 (xm X) pc ls st0) := by
  intro T hT XS
  obtain ⟨v, st₀, t, T', L, h0, X', hL, e1, e2, ⟨hv, ⟨n9, hp⟩, hdom, hz, hk⟩, stp⟩ := hr T hT XS
  cases hv
  rw [h0] at hz hk
  have hsub := hI.sub D
  have hI1 : gI X (Gu.1, n9, Gu.2.2) T'.heap (locs ++ L) := ⟨by rw [e1]; exact hp, fun a ha => hsub a (hdom a ha), Nat.le_trans hI.2.2.1 (by rw [e1]; exact hz), fun q h1 h2 => by rw [e1, hk q (Nat.lt_of_lt_of_le h1 hI.2.2.1) (fun z => h2 (hsub q z))]; exact hI.2.2.2.1 q h1 h2, fun q hq => by
    rcases List.mem_append.mp hq with h | h
    · exact hI.2.2.2.2 q h
    · exact hsub _ (hL q h)⟩
  obtain ⟨k1, k2, k3, k4⟩ := Kb
  obtain ⟨g0, g1, g2⟩ := hle
  have c1 : G.2.2.1 - B.1 + (G1.2.2.1 - G.2.2.1) = Gu.2.2.1 - B.1 := by rw [hu]; omega
  have c2 : G.2.2.2 - B.2.1 + (G1.2.2.2 - G.2.2.2) = Gu.2.2.2 - B.2.1 := by rw [hu]; omega
  rw [c1, c2] at X'
  obtain ⟨t2, a1, b1⟩ := kk n9 hp.2.2 D ⟨k1, k2, by show B.1 ≤ Gu.2.2.1; rw [hu]; omega, by show B.2.1 ≤ Gu.2.2.2; rw [hu]; omega⟩ T'.heap ls (locs ++ L) hI1 hl T' rfl X'
  exact ⟨t2, stp t2 a1, b1⟩
theorem u_wrap {α : Type} {F : MX α} {z : String ⊕ α} {G1 Gu : GH} {k : Int32} {x : Nat} {tb : List (String × Int32)} {wr : α → MM Unit} {y : MethodName} {ws ws' : List Cond} {bytes : ByteArray} {maxL : Nat} {hh : List (Nat × Nat × Nat × Nat)} {fr' lo' index : Nat} {st0 : List Value} (n : Nat) (As : List Value)
    (hM : CWr (xl X) y ws fr' lo' x As F tb wr) (hG : GoodIn Ts (va_wsS own index y ws)) (hw : ws = Cond.codeWith y bytes maxL (some .int) hh :: ws') (hdd : y.cls ≠ "java/lang/invoke/MethodHandle" ∧ y.cls ≠ "java/lang/invoke/VarHandle" ∧ (parseMethodDescriptor y.desc).map (fun d => d.parameters.length) = some n) (hfr : fr' + 1 ≤ fr) (hlo : 8 + (maxL + 11) + lo' ≤ lo) (hn : As.length = n) (hd : decode cc pc = .ok (.invokestatic index, 3)) (hst : (st.map fun v => v.category).sum ≤ 8) (hst0 : st0 = As.reverse ++ st) (hN : NX (xs X)) (hb : ∃ fs, G.1 x = some (.inr (4, fs))) (h1 : F.1 G = some (z, G1)) (hW : WR tb wr z G1 k Gu) (hu : Gu.2 = G1.2) (hR : G1.2.2.1 ≤ B.2.2.1 ∧ G1.2.2.2 ≤ B.2.2.2)
    (kk : ∀ n, (∀ a, Gu.1 a ≠ none → a < n) → V X own cc nL fr lo Ts B Q (Gu.1, n, Gu.2.2) (pc + 3) lv (.int k :: st)) : V X own cc nL fr lo Ts B Q G pc lv st0 := by
  intro D Kb H ls locs hI hl
  have hle := F.2 _ _ _ h1
  have Kb' := Kb
  obtain ⟨k1, k2, k3, k4⟩ := Kb
  obtain ⟨g0, g1, g2⟩ := hle
  have r1 : (G.2.2.1 - B.1) + (G1.2.2.1 - G.2.2.1) ≤ (xR X).cells := by rw [k1]; omega
  have r2 : (G.2.2.2 - B.2.1) + (G1.2.2.2 - G.2.2.2) ≤ (xR X).slots := by rw [k2]; omega
  exact v_afterW D Kb' hI hl ⟨g0, g1, g2⟩ hu (vx_runSW (As := As) (rest := st) ⟨D.x, D.b, D.ml, D.ow, D.ts⟩ (hM _ _ _ _ _ _ _ h1 hb hW) (vx_cwSW n D.ts hG hw rfl rfl hdd ⟨by rw [D.rf]; exact hfr, by rw [D.rl]; exact hlo⟩) ⟨cPw_blind _ _ _ _, fun U hU hWW => ⟨hI.pre D hU hWW, NX.moved hWW.alike hN⟩⟩ rfl hn hl.1 hst0 (lv_room hst) hd ⟨r1, r2⟩) kk
theorem u_sld {b L : Nat} {ys : Nat → Int32} {i : Int32} (hX : va_X b L ys (xs X) (xs X).heap) (hbl : b < (xs X).heap.size) (hbA : ¬ (xA X) b) (hin : vp_in i L) (hd : decode cc pc = .ok (.iaload, 1)) (kk : V X own cc nL fr lo Ts B Q G (pc + 1) lv (.int (ys i.toNatClampNeg) :: st)) : V X own cc nL fr lo Ts B Q G pc lv (.int i :: .ref b :: st) := fun D Kb H ls locs hI hl => va_sld D.x D.b hX hbl hbA hI.2.2 hin hd (kk D Kb H ls locs hI hl)
theorem u_slen {b L : Nat} {ys : Nat → Int32} (hX : va_X b L ys (xs X) (xs X).heap) (hbl : b < (xs X).heap.size) (hbA : ¬ (xA X) b) (hd : decode cc pc = .ok (.arraylength, 1)) (kk : V X own cc nL fr lo Ts B Q G (pc + 1) lv (.int (Int32.ofNat L) :: st)) : V X own cc nL fr lo Ts B Q G pc lv (.ref b :: st) := fun D Kb H ls locs hI hl => va_slen D.x D.b hX hbl hbA hI.2.2 hd (kk D Kb H ls locs hI hl)
theorem u_dload {i : Nat} {x : UInt64} (p : Nat) (hd : decode cc pc = .ok (.dload i, 2)) (hk : lv[p]? = some (i, .double x)) (k : V X own cc nL fr lo Ts B Q G (pc + 2) lv (.double x :: st)) : V X own cc nL fr lo Ts B Q G pc lv st := fun C K H ls locs hI hl => lv_dload C.1 C.2.1 hd (lv_at hl p hk) (k C K H ls locs hI hl)
theorem u_dstore {i : Nat} {x : UInt64} (lv' : List (Nat × Value)) (hd : decode cc pc = .ok (.dstore i, 2)) (hn : i + 1 < nL) (he : (i, Value.double x) :: lv.filter (fun q => !(q.1 == i) && (!(q.1 == i + 1) && !(q.1 + 1 == i && q.2.category == 2))) = lv') (k : V X own cc nL fr lo Ts B Q G (pc + 2) lv' st) : V X own cc nL fr lo Ts B Q G pc lv (.double x :: st) := fun C K H ls locs hI hl => lv_dstore C.1 C.2.1 hd hl hn he (fun ls hl => k C K H ls locs hI hl)
theorem u_dcmp {x y : UInt64} {op : CmpOp} (hd : decode cc pc = .ok (.dcmp op, 1)) (k : V X own cc nL fr lo Ts B Q G (pc + 1) lv (.int (Op.cmpValue (FP.dcmp x y) op) :: st)) : V X own cc nL fr lo Ts B Q G pc lv (.double y :: .double x :: st) := fun C K H ls locs hI hl => lv_dcmp C.1 C.2.1 hd (k C K H ls locs hI hl)
theorem u_lcmp0 {x y : Int64} (hxy : x = y) (hd : decode cc pc = .ok (.lcmp, 1)) (k : V X own cc nL fr lo Ts B Q G (pc + 1) lv (.int 0 :: st)) : V X own cc nL fr lo Ts B Q G pc lv (.long y :: .long x :: st) := by
  subst hxy
  exact fun C K H ls locs hI hl => lv_lcmp0 C.1 C.2.1 hd (k C K H ls locs hI hl)
theorem u_lald {a : Nat} {i : Int32} {x : Int64} (hd : decode cc pc = .ok (.laload, 1)) (h : (mall a i).1 G = some (x, G)) (k : V X own cc nL fr lo Ts B Q G (pc + 1) lv (.long x :: st)) : V X own cc nL fr lo Ts B Q G pc lv (.int i :: .ref a :: st) := by
  refine v_lald (K := fun x => mpure x) (R := (x, G)) hd (by rw [mbind_ok h]; rfl) (fun x' hx => ?_)
  obtain rfl : x = x' := congrArg Prod.fst (Option.some.inj hx).symm
  exact k
theorem u_dald {a : Nat} {i : Int32} {x : UInt64} (hd : decode cc pc = .ok (.daload, 1)) (h : (mald a i).1 G = some (x, G)) (k : V X own cc nL fr lo Ts B Q G (pc + 1) lv (.double x :: st)) : V X own cc nL fr lo Ts B Q G pc lv (.int i :: .ref a :: st) := by
  refine v_dald (K := fun x => mpure x) (R := (x, G)) hd (by rw [mbind_ok h]; rfl) (fun x' hx => ?_)
  obtain rfl : x = x' := congrArg Prod.fst (Option.some.inj hx).symm
  exact k
theorem u_newl {n : Int32} {q : Nat} {G1 : GH} (harr : Cond.arrayClass .long ∈ Ts) (hd : decode cc pc = .ok (.newarray .long, 2)) (h : (mnewl n).1 G = some (q, G1)) (hR : G1.2.2.1 ≤ B.2.2.1 ∧ G1.2.2.2 ≤ B.2.2.2) (k : V X own cc nL fr lo Ts B Q G1 (pc + 2) lv (.ref q :: st)) : V X own cc nL fr lo Ts B Q G pc lv (.int n :: st) := by
  refine v_newl (K := fun q => mpad B.2.2.1 B.2.2.2 q) (R := ((q, G1), (G1.1, G1.2.1, B.2.2.1, B.2.2.2))) harr hd ⟨rfl, rfl⟩ (by rw [mbind_ok h]; exact mpad_ok hR) (fun q' G' hq => ?_)
  obtain ⟨rfl, rfl⟩ := mpad_inv hq
  exact k
theorem u_newd {n : Int32} {q : Nat} {G1 : GH} (harr : Cond.arrayClass .double ∈ Ts) (hd : decode cc pc = .ok (.newarray .double, 2)) (h : (mnewd n).1 G = some (q, G1)) (hR : G1.2.2.1 ≤ B.2.2.1 ∧ G1.2.2.2 ≤ B.2.2.2) (k : V X own cc nL fr lo Ts B Q G1 (pc + 2) lv (.ref q :: st)) : V X own cc nL fr lo Ts B Q G pc lv (.int n :: st) := by
  refine v_newd (K := fun q => mpad B.2.2.1 B.2.2.2 q) (R := ((q, G1), (G1.1, G1.2.1, B.2.2.1, B.2.2.2))) harr hd ⟨rfl, rfl⟩ (by rw [mbind_ok h]; exact mpad_ok hR) (fun q' G' hq => ?_)
  obtain ⟨rfl, rfl⟩ := mpad_inv hq
  exact k
end Vlaw
