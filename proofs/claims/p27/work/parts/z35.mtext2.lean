/-! PURE PART 35: the reference reads the whole text -/
/-- the fault of a world's text, and what is read of it -/
def tt0 : TT := (0, false, 0, 0, fun _ => 0, fun _ => 0)
def wT (w : WW) : Int × TT := tRun w.2.2.2.2 w.2.2.2.1 0 0 tt0
