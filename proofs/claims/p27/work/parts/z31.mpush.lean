/-! PURE PART 31: push and pop of the reference; append, mean -/
def tPush (s : SS) (a x : Int) : Int := if inV s a = true then (if -999 ≤ x ∧ x ≤ 999 then (if sz (s.2.2.2 a.toNat) < 40 ∧ s.2.2.1 < 100 then 0 else 3) else 2) else 1
def tPop (s : SS) (a : Int) : Int := if inV s a = true then (if 0 < sz (s.2.2.2 a.toNat) then (if s.2.2.1 < 100 then 0 else 3) else 2) else 1
def kPush (fr : Bool) : Int := if fr = true then 0 else 1
def kPop (fr : Bool) : Int := if fr = true then 2 else 3
