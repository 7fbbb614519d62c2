/-! the face of the class -/
abbrev xTr (v : CV) (t : Int32) : CV := (v.1, v.2.1, v.2.2.1, v.2.2.2.1, v.2.2.2.2.1, t, v.2.2.2.2.2.2.1, v.2.2.2.2.2.2.2.1, v.2.2.2.2.2.2.2.2)
abbrev vHo (v : CV) : Int32 := v.2.2.2.2.2.2.1
abbrev vTr (v : CV) : Int32 := v.2.2.2.2.2.1
def xHour (fa : Nat → Int32) (wr ago what : Int32) : Int32 := if ago < 0 then -1 else if ago < zMin wr 48 then (if what < 0 then -2 else if what < 7 then lFact fa wr ago what + zMore what.toNatClampNeg else -2) else -1
def xCount (v : CV) (le kp : Nat) (w : Int32) : Int32 :=
  if w = 0 then v.2.2.2.2.2.2.1 else if w = 1 then v.2.1 + 1000000000 else if w = 2 then v.2.2.1 + 1000 else if w = 3 then v.2.2.2.2.2.1 else if w = 4 then v.2.2.2.2.2.2.2.2 else if w = 5 then zMin v.2.2.2.2.1 48 else if w = 6 then v.2.2.2.2.2.2.2.1
  else if w = 7 then cSet v.1 0 + 1000 else if w = 8 then cSet v.1 1 + 1000 else if w = 9 then cSet v.1 2 + 1000 else if w = 10 then cSet v.1 3 + 1000 else if w = 11 then nI le else if w = 12 then nI kp else -2
def xOfLog (fa : Nat → Int32) (wr : Int32) (n : Nat) (w : Int32) : Int32 :=
  if w < 0 then -2 else if w ≤ 4 then (if zMin wr 48 = 0 then -6 else if w = 0 then lMax fa wr (n - 1) + 100000 else if w = 1 then lMin fa wr (n - 1) + 100000 else if w = 2 then lCnt fa wr 3 n else if w = 3 then lCnt fa wr 5 n else lOth fa wr (n - 1)) else -2
def xRate (st : Nat → Int32) (tr ht ar : Int32) : Int32 := if zHeat ht = 0 then -2 else if zAir ar = 0 then -2 else cBare st ht ar + tr + 100000
def xBw (bare : Int32) : Nat → Int32
  | 0 => 0
  | n + 1 => if zAbs (bare + xBw bare n) ≤ zAbs (bare + nI (n + 1)) then xBw bare n else nI (n + 1)
def xBest (st : Nat → Int32) (ht ar w : Int32) : Int32 := if zHeat ht = 0 then -2 else if zAir ar = 0 then -2 else if w < 0 then -2 else if w ≤ 1 then (if w = 0 then xBw (cBare st ht ar) 255 else cBare st ht ar + xBw (cBare st ht ar) 255 + 100000) else -2
def xOf (rate lim : Int32) : Nat → Int32 → Int32 → Nat → Int32
  | 0, _, _, _ => -6
  | f + 1, off, car, n => if dMore off lim = 0 then xOf rate lim f (dOff off car rate) (dCar car rate) (n + 1) else nI n
def xOffIn (v : CV) (ht ar : Int32) : Int32 := if zHeat ht = 0 then -2 else if zAir ar = 0 then -2 else xOf (cBare v.1 ht ar + v.2.2.2.2.2.1) (cSet v.1 3) 5001 v.2.1 v.2.2.1 0
def xRp (st fa : Nat → Int32) (wr tr : Int32) : Nat → Int32 × Int32 → Int32 × Int32
  | 0, s => s
  | n + 1, s => xRp st fa wr tr n (dOff s.1 s.2 (cBare st (lFact fa wr (nI n) 0) (lFact fa wr (nI n) 1) + tr), dCar s.2 (cBare st (lFact fa wr (nI n) 0) (lFact fa wr (nI n) 1) + tr))
def xCool (v : CV) (ar : Int32) : Int32 := if zAir ar = 0 then -2 else mCo (fun h => cBare v.1 h ar + v.2.2.2.2.2.1) 71 (-20)
theorem cErrH_mo {ho ht ar rd mo : Int32} (h : cErrH ho ht ar rd mo = 0) : mo = nI mo.toNatClampNeg ∧ 1 ≤ mo.toNatClampNeg ∧ mo.toNatClampNeg ≤ 99 := by
  rw [cErrH_eq] at h
  by_cases h1 : mRng mo 1 99 = 0
  · rw [if_pos h1] at h
    exfalso
    revert h
    repeat' split
    all_goals exact fun h => absurd h (by decide)
  · exact zRange (lo := 1) (hi := 99) (by decide) (by decide) h1
