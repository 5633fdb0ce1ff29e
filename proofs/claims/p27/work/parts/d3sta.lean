/-! partial programs of the state (class X1) -/
noncomputable def f_X1_init  (this : Nat) : MM Unit := (mbind (mput this 1 0 (.int 1)) (fun _ => (mbind (mput this 1 1 (.int 3)) (fun _ => (mbind (mput this 1 2 (.int 3)) (fun _ => (mbind (mnewq 4 100) (fun a1 => (mbind (mput this 1 3 (.ref a1)) (fun _ => (mbind (mnewi 100) (fun a2 => (mbind (mput this 1 4 (.ref a2)) (fun _ => (mpure ())))))))))))))))
noncomputable def f_X1_slot  (this : Nat) (p1 : Int32) : MM Nat := (if p1 < 0 then (mbind (mnewo 3 [.int 0, .int 0, .int 0, .int 0, .int 0, .int 0, .int 0, .int 0, .int 0, .int 0, .null] 11) (fun a1 => (mbind (f_X3_init a1) (fun _ => (mpure a1))))) else (mbind (mgr this 1 3) (fun r2 => (mbind (mlen r2 4) (fun x3 => (if p1 < x3 then (mbind (mgr this 1 3) (fun r4 => (mbind (malq r4 4 p1) (fun o5 => (mnull o5 (mbind (mnewo 3 [.int 0, .int 0, .int 0, .int 0, .int 0, .int 0, .int 0, .int 0, .int 0, .int 0, .null] 11) (fun a7 => (mbind (f_X3_init a7) (fun _ => (mbind (mgr this 1 3) (fun r8 => (mbind (masq r8 4 3 p1 (some a7)) (fun _ => (mpure a7))))))))) (fun q6 => (mpure q6))))))) else (mbind (mnewo 3 [.int 0, .int 0, .int 0, .int 0, .int 0, .int 0, .int 0, .int 0, .int 0, .int 0, .null] 11) (fun a9 => (mbind (f_X3_init a9) (fun _ => (mpure a9)))))))))))
noncomputable def f_X1_copyFrom_26  : Nat → Nat → Nat → Int32 → MM Unit
  | 0, _, _, _ => mnone
  | n + 1, this, p1, l2 => (mbind (mgi this 1 0) (fun x4 => (if x4 ≤ l2 then (mpure ()) else (mbind (mchk this 1) (fun _ => mbind (f_X1_slot this l2) (fun r5 => (mbind (mchk p1 1) (fun _ => mbind (f_X1_slot p1 l2) (fun r6 => (mbind (mchk r5 3) (fun _ => mbind (f_X3_copyFrom r5 r6) (fun _ => (f_X1_copyFrom_26 n this p1 (l2 + 1))))))))))))))
noncomputable def f_X1_copyFrom  (this : Nat) (p1 : Nat) : MM Unit := (mbind (mgi p1 1 0) (fun x1 => (mbind (mput this 1 0 (.int x1)) (fun _ => (mbind (mgi p1 1 1) (fun x2 => (mbind (mput this 1 1 (.int x2)) (fun _ => (mbind (mgi p1 1 2) (fun x3 => (mbind (mput this 1 2 (.int x3)) (fun _ => (f_X1_copyFrom_26 FU this p1 0)))))))))))))
noncomputable def f_X1_has  (this : Nat) (p1 : Int32) : MM Int32 := (if p1 < 0 then (mbind (mbool 0) (fun _ => mpure 0)) else (mbind (mgi this 1 0) (fun x1 => (if x1 ≤ p1 then (mbind (mbool 0) (fun _ => mpure 0)) else (mbind (mbool 1) (fun _ => mpure 1))))))
noncomputable def f_X1_hasPlace  (this : Nat) (p1 : Int32) (p2 : Int32) : MM Int32 := (mbind (mchk this 1) (fun _ => mbind (f_X1_has this p1) (fun x1 => (if x1 = 0 then (mbind (mbool 0) (fun _ => mpure 0)) else (if p2 < 0 then (mbind (mbool 0) (fun _ => mpure 0)) else (mbind (mchk this 1) (fun _ => mbind (f_X1_slot this p1) (fun r2 => (mbind (mchk r2 3) (fun _ => mbind (f_X3_size r2) (fun x3 => (if x3 ≤ p2 then (mbind (mbool 0) (fun _ => mpure 0)) else (mbind (mbool 1) (fun _ => mpure 1))))))))))))))
noncomputable def f_X1_settingOf  (this : Nat) (p1 : Int32) : MM Int32 := (if p1 = 0 then (mbind (mgi this 1 1) (fun x2 => (mpure x2))) else (mbind (mgi this 1 2) (fun x1 => (mpure x1))))
noncomputable def f_X1_changeSetting  (this : Nat) (p1 : Int32) (p2 : Int32) : MM Unit := (if p1 = 0 then (mbind (mput this 1 1 (.int p2)) (fun _ => (mpure ()))) else (mbind (mput this 1 2 (.int p2)) (fun _ => (mpure ()))))
noncomputable def f_X1_left  (this : Nat) : MM Int32 := (mbind (mgi this 1 0) (fun x1 => (mpure (100 - x1))))
noncomputable def f_X1_allows  (this : Nat) (p1 : Int32) (p2 : Int32) : MM Int32 := (mbind (mchk this 1) (fun _ => mbind (f_X1_left this) (fun x1 => (if x1 ≤ 0 then (mbind (mbool 0) (fun _ => mpure 0)) else (mbind (mchk this 1) (fun _ => mbind (f_X1_slot this p1) (fun r2 => (mbind (mchk r2 3) (fun _ => mbind (f_X3_permits r2 p2) (fun x3 => (if x3 = 0 then (mbind (mbool 0) (fun _ => mpure 0)) else (mbind (mbool 1) (fun _ => mpure 1)))))))))))))
noncomputable def f_X1_grow  (this : Nat) (p1 : Int32) (p2 : Int32) (p3 : Int32) : MM Int32 := (mbind (mgi this 1 0) (fun x1 => (mbind (mchk this 1) (fun _ => mbind (f_X1_slot this x1) (fun r2 => (mbind (mchk this 1) (fun _ => mbind (f_X1_slot this p1) (fun r3 => (mbind (mchk r2 3) (fun _ => mbind (f_X3_copyFrom r2 r3) (fun _ => (mbind (mput r2 3 0 (.int p1)) (fun _ => (mbind (mgi this 1 1) (fun x4 => (mbind (mgi this 1 2) (fun x5 => (mbind (mchk r2 3) (fun _ => mbind (f_X3_perform r2 p2 p3 x4 x5) (fun _ => (mbind (mgi this 1 0) (fun x6 => (mbind (mput this 1 0 (.int (x6 + 1))) (fun _ => (mpure x1)))))))))))))))))))))))))
noncomputable def f_X1_growBy_5  : Nat → Nat → Nat → Int32 → Int32 → MM Int32
  | 0, _, _, _, _ => mnone
  | n + 1, this, p1, p2, l4 => (mbind (mgi p1 0 1) (fun x1 => (if x1 ≤ l4 then (mbind (mgi p1 0 1) (fun x2 => (mpure x2))) else (mbind (mchk p1 0) (fun _ => mbind (f_X0_actAt p1 l4) (fun x3 => (mbind (mchk this 1) (fun _ => mbind (f_X1_allows this p2 x3) (fun x4 => (if x4 = 0 then (mpure l4) else (mbind (mchk p1 0) (fun _ => mbind (f_X0_valueAt p1 l4) (fun x5 => (mbind (mchk this 1) (fun _ => mbind (f_X1_grow this p2 x3 x5) (fun x6 => (f_X1_growBy_5 n this p1 x6 (l4 + 1))))))))))))))))))
noncomputable def f_X1_growBy  (this : Nat) (p1 : Nat) (p2 : Int32) : MM Int32 := (f_X1_growBy_5 FU this p1 p2 0)
noncomputable def f_X1_childless_29  : Nat → Nat → Int32 → Int32 → MM Int32
  | 0, _, _, _ => mnone
  | n + 1, this, l1, l2 => (mbind (mgi this 1 0) (fun x2 => (if x2 ≤ l2 then (mbind (mgi this 1 0) (fun x3 => (mpure (x3 - l1)))) else (mbind (mchk this 1) (fun _ => mbind (f_X1_slot this l2) (fun r4 => (mbind (mgi r4 3 0) (fun x5 => (mbind (mgr this 1 4) (fun r6 => (mbind (f_X4_cell r6 x5) (fun x7 => (if x7 = 0 then (mbind (mgr this 1 4) (fun r8 => (mbind (f_X4_fill r8 x5 1) (fun _ => (f_X1_childless_29 n this (l1 + 1) (l2 + 1)))))) else (f_X1_childless_29 n this l1 (l2 + 1)))))))))))))))
noncomputable def f_X1_childless_2  : Nat → Nat → Int32 → MM Int32
  | 0, _, _ => mnone
  | n + 1, this, l1 => (mbind (mgi this 1 0) (fun x1 => (if x1 ≤ l1 then (f_X1_childless_29 FU this 0 1) else (mbind (mgr this 1 4) (fun r9 => (mbind (f_X4_fill r9 l1 0) (fun _ => (f_X1_childless_2 n this (l1 + 1)))))))))
noncomputable def f_X1_childless  (this : Nat) : MM Int32 := (f_X1_childless_2 FU this 0)
noncomputable def f_X1_greatestFact_4  : Nat → Nat → Int32 → Int32 → Int32 → MM Int32
  | 0, _, _, _, _ => mnone
  | n + 1, this, p1, l2, l3 => (mbind (mgi this 1 0) (fun x1 => (if x1 ≤ l3 then (mpure l2) else (mbind (mchk this 1) (fun _ => mbind (f_X1_slot this l3) (fun r2 => (mbind (mchk r2 3) (fun _ => mbind (f_X3_fact r2 p1) (fun x3 => (f_X1_greatestFact_4 n this p1 (if l2 < x3 then x3 else l2) (l3 + 1)))))))))))
noncomputable def f_X1_greatestFact  (this : Nat) (p1 : Int32) : MM Int32 := (f_X1_greatestFact_4 FU this p1 0 0)
noncomputable def f_X1_sumOfFacts_4  : Nat → Nat → Int32 → Int32 → Int32 → MM Int32
  | 0, _, _, _, _ => mnone
  | n + 1, this, p1, l2, l3 => (mbind (mgi this 1 0) (fun x1 => (if x1 ≤ l3 then (mpure l2) else (mbind (mchk this 1) (fun _ => mbind (f_X1_slot this l3) (fun r2 => (mbind (mchk r2 3) (fun _ => mbind (f_X3_fact r2 p1) (fun x3 => (f_X1_sumOfFacts_4 n this p1 (l2 + x3) (l3 + 1)))))))))))
noncomputable def f_X1_sumOfFacts  (this : Nat) (p1 : Int32) : MM Int32 := (f_X1_sumOfFacts_4 FU this p1 0 0)
noncomputable def f_X1_stalled_4  : Nat → Nat → Int32 → Int32 → MM Int32
  | 0, _, _, _ => mnone
  | n + 1, this, l1, l2 => (mbind (mgi this 1 0) (fun x1 => (if x1 ≤ l2 then (mpure l1) else (mbind (mchk this 1) (fun _ => mbind (f_X1_slot this l2) (fun r2 => (mbind (mgi r2 3 9) (fun x3 => (if x3 ≤ 0 then (f_X1_stalled_4 n this l1 (l2 + 1)) else (f_X1_stalled_4 n this (l1 + 1) (l2 + 1)))))))))))
noncomputable def f_X1_stalled  (this : Nat) : MM Int32 := (f_X1_stalled_4 FU this 0 0)
noncomputable def f_X1_rebuilding_4  : Nat → Nat → Int32 → Int32 → MM Int32
  | 0, _, _, _ => mnone
  | n + 1, this, l1, l2 => (mbind (mgi this 1 0) (fun x1 => (if x1 ≤ l2 then (mpure l1) else (mbind (mchk this 1) (fun _ => mbind (f_X1_slot this l2) (fun r2 => (mbind (mchk r2 3) (fun _ => mbind (f_X3_isRebuilding r2) (fun x3 => (if x3 = 0 then (f_X1_rebuilding_4 n this l1 (l2 + 1)) else (f_X1_rebuilding_4 n this (l1 + 1) (l2 + 1))))))))))))
noncomputable def f_X1_rebuilding  (this : Nat) : MM Int32 := (f_X1_rebuilding_4 FU this 0 0)
noncomputable def f_X1_total  (this : Nat) (p1 : Int32) : MM Int32 := (if p1 = 0 then (mbind (mgi this 1 0) (fun x1 => (mpure x1))) else (if p1 = 1 then (mbind (mchk this 1) (fun _ => mbind (f_X1_childless this) (fun x2 => (mpure x2)))) else (if p1 = 2 then (mbind (mchk this 1) (fun _ => mbind (f_X1_greatestFact this 6) (fun x3 => (mpure x3)))) else (if p1 = 3 then (mbind (mchk this 1) (fun _ => mbind (f_X1_sumOfFacts this 6) (fun x4 => (mpure x4)))) else (if p1 = 4 then (mbind (mchk this 1) (fun _ => mbind (f_X1_stalled this) (fun x5 => (mpure x5)))) else (if p1 = 5 then (mbind (mchk this 1) (fun _ => mbind (f_X1_sumOfFacts this 7) (fun x6 => (mpure x6)))) else (if p1 = 6 then (mbind (mchk this 1) (fun _ => mbind (f_X1_rebuilding this) (fun x7 => (mpure x7)))) else (mbind (mchk this 1) (fun _ => mbind (f_X1_greatestFact this 9) (fun x8 => (mpure x8)))))))))))
noncomputable def f_X1_meeting_8  : Nat → Nat → Int32 → Int32 → Int32 → MM Int32
  | 0, _, _, _, _ => mnone
  | n + 1, this, p1, p2, l5 => (if 200 ≤ l5 then (mpure p1) else (if p1 = p2 then (mpure p1) else (if p1 ≤ p2 then (mbind (mchk this 1) (fun _ => mbind (f_X1_slot this p2) (fun r1 => (mbind (mgi r1 3 0) (fun x2 => (f_X1_meeting_8 n this p1 x2 (l5 + 1))))))) else (mbind (mchk this 1) (fun _ => mbind (f_X1_slot this p1) (fun r3 => (mbind (mgi r3 3 0) (fun x4 => (f_X1_meeting_8 n this x4 p2 (l5 + 1))))))))))
noncomputable def f_X1_meeting  (this : Nat) (p1 : Int32) (p2 : Int32) : MM Int32 := (f_X1_meeting_8 FU this p1 p2 0)
noncomputable def f_X1_firstWithRowOf_2  : Nat → Nat → Int32 → Int32 → MM Int32
  | 0, _, _, _ => mnone
  | n + 1, this, p1, l2 => (if p1 ≤ l2 then (mpure p1) else (mbind (mchk this 1) (fun _ => mbind (f_X1_slot this l2) (fun r1 => (mbind (mchk this 1) (fun _ => mbind (f_X1_slot this p1) (fun r2 => (mbind (mchk r1 3) (fun _ => mbind (f_X3_hasRowOf r1 r2) (fun x3 => (if x3 = 0 then (f_X1_firstWithRowOf_2 n this p1 (l2 + 1)) else (mpure l2))))))))))))
noncomputable def f_X1_firstWithRowOf  (this : Nat) (p1 : Int32) : MM Int32 := (f_X1_firstWithRowOf_2 FU this p1 0)
noncomputable def f_X1_greatestCostOnWay_7  : Nat → Nat → Int32 → Int32 → Int32 → MM Int32
  | 0, _, _, _, _ => mnone
  | n + 1, this, l2, p1, l4 => (if 100 ≤ l4 then (mpure l2) else (if p1 = (-1) then (mpure l2) else (mbind (mchk this 1) (fun _ => mbind (f_X1_slot this p1) (fun r1 => (mbind (mgi r1 3 8) (fun x2 => (mbind (mchk this 1) (fun _ => mbind (f_X1_slot this p1) (fun r3 => (mbind (mgi r3 3 0) (fun x4 => (f_X1_greatestCostOnWay_7 n this (if l2 < x2 then x2 else l2) x4 (l4 + 1))))))))))))))
noncomputable def f_X1_greatestCostOnWay  (this : Nat) (p1 : Int32) : MM Int32 := (f_X1_greatestCostOnWay_7 FU this 0 p1 0)
noncomputable def f_X1_sumOfCostsOnWay_7  : Nat → Nat → Int32 → Int32 → Int32 → MM Int32
  | 0, _, _, _, _ => mnone
  | n + 1, this, l2, p1, l4 => (if 100 ≤ l4 then (mpure l2) else (if p1 = (-1) then (mpure l2) else (mbind (mchk this 1) (fun _ => mbind (f_X1_slot this p1) (fun r1 => (mbind (mgi r1 3 8) (fun x2 => (mbind (mchk this 1) (fun _ => mbind (f_X1_slot this p1) (fun r3 => (mbind (mgi r3 3 0) (fun x4 => (f_X1_sumOfCostsOnWay_7 n this (l2 + x2) x4 (l4 + 1))))))))))))))
noncomputable def f_X1_sumOfCostsOnWay  (this : Nat) (p1 : Int32) : MM Int32 := (f_X1_sumOfCostsOnWay_7 FU this 0 p1 0)
