/-! PURE PART 38: the digest; the reference's -/
def dmx (h : Int64) (x : Int) : Int64 := (31 : Int64) * h + (iI x).toInt64
noncomputable def dgT (s : SS) : Nat → Nat → Int64 → Int64
  | 0, _, h => h
  | d + 1, k, h => dgT s d (k + 1) (dmx h (totF s k))
def dgF (v : Nat → Int) : Nat → Nat → Int64 → Int64
  | 0, _, h => h
  | d + 1, k, h => dgF v d (k + 1) (dmx h (fct v k))
def dgR (g : Nat → Int) : Nat → Nat → Int64 → Int64
  | 0, _, h => h
  | d + 1, k, h => dgR g d (k + 1) (dmx h (g k))
def dgV (s : SS) : Nat → Nat → Int64 → Int64
  | 0, _, h => h
  | d + 1, i, h => dgV s d (i + 1) (dgR (s.2.2.2 i).2 (sz (s.2.2.2 i)).toNat 0 (dgF (s.2.2.2 i).1 10 0 h))
noncomputable def dgW (w : WW) : Int64 := dmx (dgV w.1 w.1.2.2.1 0 (dmx (dmx (dgT w.1 8 0 (dmx 3767 w.2.2.2.1)) w.1.1) w.1.2.1)) w.2.2.1
