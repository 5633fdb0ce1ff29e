/-! LAW 1: rows that the law's methods want beside the class's: shifts, remainders, long and double locals, calls of methods that may throw. -/
section Vl1
variable {X : VX} {own : String} {cc : ByteArray} {nL fr lo : Nat} {Ts : List Cond} {B : VB} {Q : State → Prop} {G : GH} {pc : Nat} {lv lv' : List (Nat × Value)} {st : List Value} {ρ : Type} {R : ρ × GH}
theorem v_ishr {x y : Int32} (hd : decode cc pc = .ok (.ishr, 1)) (k : V X own cc nL fr lo Ts B Q G (pc + 1) lv (.int (x >>> (y &&& 31)) :: st)) : V X own cc nL fr lo Ts B Q G pc lv (.int y :: .int x :: st) := fun C K H ls locs hI hl => lv_ishr C.1 C.2.1 hd (k C K H ls locs hI hl)
/-- a remainder by a number that isn't 0 -/
def mrem (x y : Int32) : MM Int32 := mread (fun _ => if y = 0 then none else some (x - x / y * y))
theorem v_irem {x y : Int32} {K : Int32 → MM ρ} (hd : decode cc pc = .ok (.irem, 1)) (hf : (mbind (mrem x y) K).1 G = some R) (kk : ∀ d : Int32, (K d).1 G = some R → V X own cc nL fr lo Ts B Q G (pc + 1) lv (.int d :: st)) : V X own cc nL fr lo Ts B Q G pc lv (.int y :: .int x :: st) := by
  obtain ⟨d, G1, h1, h2⟩ := mbind_inv hf
  obtain ⟨z, h3, h4⟩ := mread_inv h1
  cases h4
  split at h3
  · cases h3
  · rename_i hn
    cases h3
    exact fun D Kb H ls locs hI hl => lv_irem D.x D.b hd hn (kk _ h2 D Kb H ls locs hI hl)
theorem v_ldci {index : Nat} {v : Int32} (hw : Cond.constant own index v ∈ Ts) (hd : decode cc pc = .ok (.ldc index, 2)) (k : V X own cc nL fr lo Ts B Q G (pc + 2) lv (.int v :: st)) : V X own cc nL fr lo Ts B Q G pc lv st := fun D K H ls locs hI hl => lv_ldc D.x D.b D.ow (D.ts _ hw) hd (k D K H ls locs hI hl)
theorem v_lload {i : Nat} {x : Int64} (p : Nat) (hd : decode cc pc = .ok (.lload i, 2)) (hk : lv[p]? = some (i, .long x)) (k : V X own cc nL fr lo Ts B Q G (pc + 2) lv (.long x :: st)) : V X own cc nL fr lo Ts B Q G pc lv st := fun C K H ls locs hI hl => lv_lload C.1 C.2.1 hd (lv_at hl p hk) (k C K H ls locs hI hl)
theorem v_lstore {i : Nat} {x : Int64} (lv' : List (Nat × Value)) (hd : decode cc pc = .ok (.lstore i, 2)) (hn : i + 1 < nL) (he : (i, Value.long x) :: lv.filter (fun q => !(q.1 == i) && (!(q.1 == i + 1) && !(q.1 + 1 == i && q.2.category == 2))) = lv') (k : V X own cc nL fr lo Ts B Q G (pc + 2) lv' st) : V X own cc nL fr lo Ts B Q G pc lv (.long x :: st) := fun C K H ls locs hI hl => lv_lstore C.1 C.2.1 hd hl hn he (fun ls hl => k C K H ls locs hI hl)
theorem v_dcmp {x y : UInt64} {op : CmpOp} (hd : decode cc pc = .ok (.dcmp op, 1)) (k : V X own cc nL fr lo Ts B Q G (pc + 1) lv (.int (Op.cmpValue (FP.dcmp x y) op) :: st)) : V X own cc nL fr lo Ts B Q G pc lv (.double y :: .double x :: st) := fun C K H ls locs hI hl => lv_dcmp C.1 C.2.1 hd (k C K H ls locs hI hl)
theorem v_lcmp {x y : Int64} (hd : decode cc pc = .ok (.lcmp, 1)) (k : V X own cc nL fr lo Ts B Q G (pc + 1) lv (.int (lg_cmp x y) :: st)) : V X own cc nL fr lo Ts B Q G pc lv (.long y :: .long x :: st) := fun C K H ls locs hI hl => W.lcmp C.1 C.2.1 hd (k C K H ls locs hI hl)
theorem v_xlret {x : Int64} {z : String ⊕ Int64} {Gf : GH} (hr : (xme X).sig.returnType = some .long) (hd : decode cc pc = .ok (.lreturn, 1)) (hE : VE B (z, Gf)) (hf : (mpure (.inr x)).1 G = some (z, Gf)) : V X own cc nL fr lo Ts B (XQ X (xmap vL z) Gf B) G pc lv [.long x] := by
  cases pure_inv hf
  intro D Kb H ls locs hI hl
  unfold XQ
  rw [hE.1, hE.2]
  exact vx_ret (W.lret D.x D.b hr (fun t ht hW => ⟨vL x, rfl, hI.q ht⟩) hI.2.2.2.2 hd D.lk)
theorem v_xcallVg {α β : Type} {val : α → Option Value} {vb : β → Option Value} {F : MX α} {K : α → MX β} {z : String ⊕ β} {Gf : GH} {y : MethodName} {ws ws' : List Cond} {bytes : ByteArray} {maxL : Nat} {ret : Option FieldType} {fr' lo' index b : Nat} {C : String} {T : u_T} {N : Nat} {st0 : List Value} (hn0 : ∀ x ∈ (xc X).exceptionTable.toList, False) (ci n : Nat) (As : List Value)
    (hM : CX (xl X) y ws fr' lo' (.ref b :: As) val F) (hG : GoodIn Ts (wsV own index C y ws)) (hw : ws = Cond.code y bytes maxL ret :: ws') (hdd : y.cls = C ∧ y.cls ≠ "java/lang/invoke/MethodHandle" ∧ y.cls ≠ "java/lang/invoke/VarHandle" ∧ (parseMethodDescriptor y.desc).map (fun d => d.parameters.length) = some n) (hfr : fr' + 1 ≤ fr) (hlo : 8 + (maxL + 11) + lo' ≤ lo) (hn : As.length = n) (hc : vwCl[ci]? = some (C, T, N)) (hd : decode cc pc = .ok (.invokevirtual index, 3)) (hst : (st.map fun v => v.category).sum ≤ 8) (hst0 : st0 = As.reverse ++ .ref b :: st) (hE : VE B (z, Gf)) (hf : (mbind (mchk b ci) (fun _ => xbind F K)).1 G = some (z, Gf))
    (kk : ∀ (x : α) (G1 : GH), (K x).1 G1 = some (z, Gf) → V X own cc nL fr lo Ts B (XQ X (xmap vb z) Gf B) G1 (pc + 3) lv ((val x).toList ++ st)) : V X own cc nL fr lo Ts B (XQ X (xmap vb z) Gf B) G pc lv st0 := by
  intro D Kb H ls locs hI hl
  obtain ⟨fs, hb, hf⟩ := chk_inv hf
  obtain ⟨r, G1, h1, hle, r1, r2, hz⟩ := xcall_inv Kb hE hf
  obtain ⟨k0, hk0⟩ := hI.cell hb
  refine v_xafter (r := xmap val r) hn0 D Kb hI hl hle (vx_runV (As := As) (rest := st) ⟨D.x, D.b, D.ml, D.ow, D.ts⟩ (hM _ _ _ _ _ h1) (cwV n D.ts hG hw rfl rfl hdd ⟨by rw [D.rf]; exact hfr, by rw [D.rl]; exact hlo⟩) ⟨cPc_blind _ _ _ _, va_recv D.k hI.1.2.1 (ci := ci) (q0 := k0) hc hk0, fun U hU hW => hI.pre D hU hW⟩ rfl hn hl.1 hst0 (lv_room hst) hd ⟨r1, r2⟩) (fun v hv => ?_) (fun E hv => ?_)
  · rcases hz with ⟨E, rfl, -, -⟩ | ⟨x, rfl, h2⟩
    · cases hv
    · cases hv
      exact kk x G1 h2
  · rcases hz with ⟨E', rfl, rfl, rfl⟩ | ⟨x, rfl, h2⟩
    · cases hv
      exact ⟨rfl, hE.1, hE.2⟩
    · cases hv
theorem v_xcallSg {α β : Type} {val : α → Option Value} {vb : β → Option Value} {F : MX α} {K : α → MX β} {z : String ⊕ β} {Gf : GH} {y : MethodName} {ws ws' : List Cond} {bytes : ByteArray} {maxL : Nat} {ret : Option FieldType} {fr' lo' index : Nat} {st0 : List Value} (hn0 : ∀ x ∈ (xc X).exceptionTable.toList, False) (n : Nat) (As : List Value)
    (hM : CX (xl X) y ws fr' lo' As val F) (hG : GoodIn Ts (va_wsS own index y ws)) (hw : ws = Cond.code y bytes maxL ret :: ws') (hdd : y.cls ≠ "java/lang/invoke/MethodHandle" ∧ y.cls ≠ "java/lang/invoke/VarHandle" ∧ (parseMethodDescriptor y.desc).map (fun d => d.parameters.length) = some n) (hfr : fr' + 1 ≤ fr) (hlo : 8 + (maxL + 11) + lo' ≤ lo) (hn : As.length = n) (hd : decode cc pc = .ok (.invokestatic index, 3)) (hst : (st.map fun v => v.category).sum ≤ 8) (hst0 : st0 = As.reverse ++ st) (hE : VE B (z, Gf)) (hf : (xbind F K).1 G = some (z, Gf))
    (kk : ∀ (x : α) (G1 : GH), (K x).1 G1 = some (z, Gf) → V X own cc nL fr lo Ts B (XQ X (xmap vb z) Gf B) G1 (pc + 3) lv ((val x).toList ++ st)) : V X own cc nL fr lo Ts B (XQ X (xmap vb z) Gf B) G pc lv st0 := by
  intro D Kb H ls locs hI hl
  obtain ⟨r, G1, h1, hle, r1, r2, hz⟩ := xcall_inv Kb hE hf
  refine v_xafter (r := xmap val r) hn0 D Kb hI hl hle (vx_runS (As := As) (rest := st) ⟨D.x, D.b, D.ml, D.ow, D.ts⟩ (hM _ _ _ _ _ h1) (va_cwS n D.ts hG hw rfl rfl hdd ⟨by rw [D.rf]; exact hfr, by rw [D.rl]; exact hlo⟩) ⟨cPc_blind _ _ _ _, fun U hU hW => hI.pre D hU hW⟩ rfl hn hl.1 hst0 (lv_room hst) hd ⟨r1, r2⟩) (fun v hv => ?_) (fun E hv => ?_)
  · rcases hz with ⟨E, rfl, -, -⟩ | ⟨x, rfl, h2⟩
    · cases hv
    · cases hv
      exact kk x G1 h2
  · rcases hz with ⟨E', rfl, rfl, rfl⟩ | ⟨x, rfl, h2⟩
    · cases hv
      exact ⟨rfl, hE.1, hE.2⟩
    · cases hv
theorem v_xcallVi {β : Type} {vb : β → Option Value} {F : MX Int32} {K : Int32 → MX β} {z : String ⊕ β} {Gf : GH} {y : MethodName} {ws ws' : List Cond} {bytes : ByteArray} {maxL : Nat} {ret : Option FieldType} {fr' lo' index b : Nat} {C : String} {T : u_T} {N : Nat} {st0 : List Value} (hn0 : ∀ x ∈ (xc X).exceptionTable.toList, False) (ci n : Nat) (As : List Value)
    (hM : CX (xl X) y ws fr' lo' (.ref b :: As) vI F) (hG : GoodIn Ts (wsV own index C y ws)) (hw : ws = Cond.code y bytes maxL ret :: ws') (hdd : y.cls = C ∧ y.cls ≠ "java/lang/invoke/MethodHandle" ∧ y.cls ≠ "java/lang/invoke/VarHandle" ∧ (parseMethodDescriptor y.desc).map (fun d => d.parameters.length) = some n) (hfr : fr' + 1 ≤ fr) (hlo : 8 + (maxL + 11) + lo' ≤ lo) (hn : As.length = n) (hc : vwCl[ci]? = some (C, T, N)) (hd : decode cc pc = .ok (.invokevirtual index, 3)) (hst : (st.map fun v => v.category).sum ≤ 8) (hst0 : st0 = As.reverse ++ .ref b :: st) (hE : VE B (z, Gf)) (hf : (mbind (mchk b ci) (fun _ => xbind F K)).1 G = some (z, Gf))
    (kk : ∀ (x : Int32) (G1 : GH), (K x).1 G1 = some (z, Gf) → V X own cc nL fr lo Ts B (XQ X (xmap vb z) Gf B) G1 (pc + 3) lv (.int x :: st)) : V X own cc nL fr lo Ts B (XQ X (xmap vb z) Gf B) G pc lv st0 := v_xcallVg hn0 ci n As hM hG hw hdd hfr hlo hn hc hd hst hst0 hE hf (fun x G1 h => kk x G1 h)
theorem v_xcallVl {β : Type} {vb : β → Option Value} {F : MX Int64} {K : Int64 → MX β} {z : String ⊕ β} {Gf : GH} {y : MethodName} {ws ws' : List Cond} {bytes : ByteArray} {maxL : Nat} {ret : Option FieldType} {fr' lo' index b : Nat} {C : String} {T : u_T} {N : Nat} {st0 : List Value} (hn0 : ∀ x ∈ (xc X).exceptionTable.toList, False) (ci n : Nat) (As : List Value)
    (hM : CX (xl X) y ws fr' lo' (.ref b :: As) vL F) (hG : GoodIn Ts (wsV own index C y ws)) (hw : ws = Cond.code y bytes maxL ret :: ws') (hdd : y.cls = C ∧ y.cls ≠ "java/lang/invoke/MethodHandle" ∧ y.cls ≠ "java/lang/invoke/VarHandle" ∧ (parseMethodDescriptor y.desc).map (fun d => d.parameters.length) = some n) (hfr : fr' + 1 ≤ fr) (hlo : 8 + (maxL + 11) + lo' ≤ lo) (hn : As.length = n) (hc : vwCl[ci]? = some (C, T, N)) (hd : decode cc pc = .ok (.invokevirtual index, 3)) (hst : (st.map fun v => v.category).sum ≤ 8) (hst0 : st0 = As.reverse ++ .ref b :: st) (hE : VE B (z, Gf)) (hf : (mbind (mchk b ci) (fun _ => xbind F K)).1 G = some (z, Gf))
    (kk : ∀ (x : Int64) (G1 : GH), (K x).1 G1 = some (z, Gf) → V X own cc nL fr lo Ts B (XQ X (xmap vb z) Gf B) G1 (pc + 3) lv (.long x :: st)) : V X own cc nL fr lo Ts B (XQ X (xmap vb z) Gf B) G pc lv st0 := v_xcallVg hn0 ci n As hM hG hw hdd hfr hlo hn hc hd hst hst0 hE hf (fun x G1 h => kk x G1 h)
theorem v_xcallVd {β : Type} {vb : β → Option Value} {F : MX UInt64} {K : UInt64 → MX β} {z : String ⊕ β} {Gf : GH} {y : MethodName} {ws ws' : List Cond} {bytes : ByteArray} {maxL : Nat} {ret : Option FieldType} {fr' lo' index b : Nat} {C : String} {T : u_T} {N : Nat} {st0 : List Value} (hn0 : ∀ x ∈ (xc X).exceptionTable.toList, False) (ci n : Nat) (As : List Value)
    (hM : CX (xl X) y ws fr' lo' (.ref b :: As) vD F) (hG : GoodIn Ts (wsV own index C y ws)) (hw : ws = Cond.code y bytes maxL ret :: ws') (hdd : y.cls = C ∧ y.cls ≠ "java/lang/invoke/MethodHandle" ∧ y.cls ≠ "java/lang/invoke/VarHandle" ∧ (parseMethodDescriptor y.desc).map (fun d => d.parameters.length) = some n) (hfr : fr' + 1 ≤ fr) (hlo : 8 + (maxL + 11) + lo' ≤ lo) (hn : As.length = n) (hc : vwCl[ci]? = some (C, T, N)) (hd : decode cc pc = .ok (.invokevirtual index, 3)) (hst : (st.map fun v => v.category).sum ≤ 8) (hst0 : st0 = As.reverse ++ .ref b :: st) (hE : VE B (z, Gf)) (hf : (mbind (mchk b ci) (fun _ => xbind F K)).1 G = some (z, Gf))
    (kk : ∀ (x : UInt64) (G1 : GH), (K x).1 G1 = some (z, Gf) → V X own cc nL fr lo Ts B (XQ X (xmap vb z) Gf B) G1 (pc + 3) lv (.double x :: st)) : V X own cc nL fr lo Ts B (XQ X (xmap vb z) Gf B) G pc lv st0 := v_xcallVg hn0 ci n As hM hG hw hdd hfr hlo hn hc hd hst hst0 hE hf (fun x G1 h => kk x G1 h)
theorem v_xcallSi {β : Type} {vb : β → Option Value} {F : MX Int32} {K : Int32 → MX β} {z : String ⊕ β} {Gf : GH} {y : MethodName} {ws ws' : List Cond} {bytes : ByteArray} {maxL : Nat} {ret : Option FieldType} {fr' lo' index : Nat} {st0 : List Value} (hn0 : ∀ x ∈ (xc X).exceptionTable.toList, False) (n : Nat) (As : List Value)
    (hM : CX (xl X) y ws fr' lo' As vI F) (hG : GoodIn Ts (va_wsS own index y ws)) (hw : ws = Cond.code y bytes maxL ret :: ws') (hdd : y.cls ≠ "java/lang/invoke/MethodHandle" ∧ y.cls ≠ "java/lang/invoke/VarHandle" ∧ (parseMethodDescriptor y.desc).map (fun d => d.parameters.length) = some n) (hfr : fr' + 1 ≤ fr) (hlo : 8 + (maxL + 11) + lo' ≤ lo) (hn : As.length = n) (hd : decode cc pc = .ok (.invokestatic index, 3)) (hst : (st.map fun v => v.category).sum ≤ 8) (hst0 : st0 = As.reverse ++ st) (hE : VE B (z, Gf)) (hf : (xbind F K).1 G = some (z, Gf))
    (kk : ∀ (x : Int32) (G1 : GH), (K x).1 G1 = some (z, Gf) → V X own cc nL fr lo Ts B (XQ X (xmap vb z) Gf B) G1 (pc + 3) lv (.int x :: st)) : V X own cc nL fr lo Ts B (XQ X (xmap vb z) Gf B) G pc lv st0 := v_xcallSg hn0 n As hM hG hw hdd hfr hlo hn hd hst hst0 hE hf (fun x G1 h => kk x G1 h)
theorem v_xcallSl {β : Type} {vb : β → Option Value} {F : MX Int64} {K : Int64 → MX β} {z : String ⊕ β} {Gf : GH} {y : MethodName} {ws ws' : List Cond} {bytes : ByteArray} {maxL : Nat} {ret : Option FieldType} {fr' lo' index : Nat} {st0 : List Value} (hn0 : ∀ x ∈ (xc X).exceptionTable.toList, False) (n : Nat) (As : List Value)
    (hM : CX (xl X) y ws fr' lo' As vL F) (hG : GoodIn Ts (va_wsS own index y ws)) (hw : ws = Cond.code y bytes maxL ret :: ws') (hdd : y.cls ≠ "java/lang/invoke/MethodHandle" ∧ y.cls ≠ "java/lang/invoke/VarHandle" ∧ (parseMethodDescriptor y.desc).map (fun d => d.parameters.length) = some n) (hfr : fr' + 1 ≤ fr) (hlo : 8 + (maxL + 11) + lo' ≤ lo) (hn : As.length = n) (hd : decode cc pc = .ok (.invokestatic index, 3)) (hst : (st.map fun v => v.category).sum ≤ 8) (hst0 : st0 = As.reverse ++ st) (hE : VE B (z, Gf)) (hf : (xbind F K).1 G = some (z, Gf))
    (kk : ∀ (x : Int64) (G1 : GH), (K x).1 G1 = some (z, Gf) → V X own cc nL fr lo Ts B (XQ X (xmap vb z) Gf B) G1 (pc + 3) lv (.long x :: st)) : V X own cc nL fr lo Ts B (XQ X (xmap vb z) Gf B) G pc lv st0 := v_xcallSg hn0 n As hM hG hw hdd hfr hlo hn hd hst hst0 hE hf (fun x G1 h => kk x G1 h)
theorem v_xcallSd {β : Type} {vb : β → Option Value} {F : MX UInt64} {K : UInt64 → MX β} {z : String ⊕ β} {Gf : GH} {y : MethodName} {ws ws' : List Cond} {bytes : ByteArray} {maxL : Nat} {ret : Option FieldType} {fr' lo' index : Nat} {st0 : List Value} (hn0 : ∀ x ∈ (xc X).exceptionTable.toList, False) (n : Nat) (As : List Value)
    (hM : CX (xl X) y ws fr' lo' As vD F) (hG : GoodIn Ts (va_wsS own index y ws)) (hw : ws = Cond.code y bytes maxL ret :: ws') (hdd : y.cls ≠ "java/lang/invoke/MethodHandle" ∧ y.cls ≠ "java/lang/invoke/VarHandle" ∧ (parseMethodDescriptor y.desc).map (fun d => d.parameters.length) = some n) (hfr : fr' + 1 ≤ fr) (hlo : 8 + (maxL + 11) + lo' ≤ lo) (hn : As.length = n) (hd : decode cc pc = .ok (.invokestatic index, 3)) (hst : (st.map fun v => v.category).sum ≤ 8) (hst0 : st0 = As.reverse ++ st) (hE : VE B (z, Gf)) (hf : (xbind F K).1 G = some (z, Gf))
    (kk : ∀ (x : UInt64) (G1 : GH), (K x).1 G1 = some (z, Gf) → V X own cc nL fr lo Ts B (XQ X (xmap vb z) Gf B) G1 (pc + 3) lv (.double x :: st)) : V X own cc nL fr lo Ts B (XQ X (xmap vb z) Gf B) G pc lv st0 := v_xcallSg hn0 n As hM hG hw hdd hfr hlo hn hd hst hst0 hE hf (fun x G1 h => kk x G1 h)
end Vl1
