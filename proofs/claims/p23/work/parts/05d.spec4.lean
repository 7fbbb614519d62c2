/-! the reference's reads -/
def mHour (al : Nat → Int32) (L : Nat) (ago what : Int32) : Int32 :=
  if mRng ago 0 (nI L - 1) = 0 then -1 else if mRng what 0 6 = 0 then -2
  else al (11 + 7 * ago.toNatClampNeg + what.toNatClampNeg) + (if what = 0 then 100 else if what = 3 then 100000 else if what = 4 then 1000000000 else 0)
theorem zSub1L {L : Nat} (h : L < 2 ^ 31) : (nI L).toInt64 - 1 = (nI L - 1).toInt64 := by
  apply Int64.toInt_inj.mp
  have e1 : (nI L - 1).toInt = (L : Int) - 1 := by
    cases L with
    | zero => decide
    | succ n => rw [nI_pred, nI_toInt (by omega)]; omega
  rw [Int32.toInt_toInt64, e1, Int64.toInt_sub, Int32.toInt_toInt64, nI_toInt h]
  rw [Int.bmod_eq_of_le] <;> (show _ ; simp; try omega)
theorem mHour_ago {ago : Int32} {L : Nat} (hL : L ≤ 48) (h : ¬ mRng ago 0 (nI L - 1) = 0) : ago = nI ago.toNatClampNeg ∧ ago.toNatClampNeg < L := by
  cases L with
  | zero =>
    exfalso
    apply h
    unfold mRng
    by_cases h0 : ago < 0
    · rw [if_pos h0]
    · rw [if_neg h0, if_pos]
      have h1 : (0 : Int) ≤ ago.toInt := by
        have := mt (Int32.lt_iff_toInt_lt (x := ago) (y := 0)).mpr h0
        simpa using this
      rw [Int32.lt_iff_toInt_lt, show (nI 0 - 1).toInt = -1 from by decide]
      omega
  | succ n =>
    rw [nI_pred] at h
    obtain ⟨h1, h2, h3⟩ := zRange (lo := 0) (hi := n) (by decide) (by omega) h
    exact ⟨h1, by omega⟩
def mCount (al : Nat → Int32) (pq hq : Nat) (w : Int32) : Int32 :=
  if w = 0 then al 4 else if w = 1 then al 5 + 1000000000 else if w = 2 then al 6 + 1000 else if w = 3 then al 7 else if w = 4 then al 8 else if w = 5 then al 9 else if w = 6 then al 10
  else if w = 7 then al 0 + 1000 else if w = 8 then al 1 + 1000 else if w = 9 then al 2 + 1000 else if w = 10 then al 3 + 1000 else if w = 11 then nI pq else if w = 12 then nI hq else -2
def mSum (al : Nat → Int32) : Nat → Int32
  | 0 => 0
  | n + 1 => mSum al n + al (11 + 7 * n + 3)
def mMax (al : Nat → Int32) : Nat → Int32
  | 0 => al (11 + 7 * 0 + 3)
  | n + 1 => zMax (mMax al n) (al (11 + 7 * (n + 1) + 3))
def mMin (al : Nat → Int32) : Nat → Int32
  | 0 => al (11 + 7 * 0 + 3)
  | n + 1 => zMin (mMin al n) (al (11 + 7 * (n + 1) + 3))
def mFast (al : Nat → Int32) : Nat → Int32
  | 0 => 0
  | n + 1 => mFast al n + (if al (11 + 7 * n + 3) ≤ 0 then 0 else 1)
def mSets (al : Nat → Int32) : Nat → Int32
  | 0 => 0
  | n + 1 => mSets al n + al (11 + 7 * n + 5)
def mOth (al : Nat → Int32) : Nat → Int32
  | 0 => 0
  | n + 1 => mOth al n + (if al (11 + 7 * (n + 1) + 6) = al (11 + 7 * n + 6) then 0 else 1)
def mOfLog (al : Nat → Int32) (L : Nat) (w : Int32) : Int32 :=
  if mRng w 0 4 = 0 then -2 else if al 9 = 0 then -6 else if w = 0 then mMax al (L - 1) + 100000 else if w = 1 then mMin al (L - 1) + 100000 else if w = 2 then mFast al L else if w = 3 then mSets al L else mOth al (L - 1)
def mRate (al : Nat → Int32) (ht ar : Int32) : Int32 := if zHeat ht = 0 then -2 else if zAir ar = 0 then -2 else cBare al ht ar + al 7 + 100000
/-- the best weights among the first n + 1 sets -/
def mBw (bare : Int32) : Nat → Int32
  | 0 => 0
  | n + 1 => if mSize (bare + mBw bare n) ≤ mSize (bare + nI (n + 1)) then mBw bare n else nI (n + 1)
def mBest (al : Nat → Int32) (ht ar w : Int32) : Int32 := if zHeat ht = 0 then -2 else if zAir ar = 0 then -2 else if mRng w 0 1 = 0 then -2 else if w = 0 then mBw (cBare al ht ar) 255 else cBare al ht ar + mBw (cBare al ht ar) 255 + 100000
def mOf (rate lim : Int32) : Nat → Int32 → Int32 → Nat → Int32
  | 0, _, _, _ => -6
  | f + 1, off, car, n => if mFar off lim = 0 then mOf rate lim f (dOff off car rate) (dCar car rate) (n + 1) else nI n
def mOffIn (al : Nat → Int32) (ht ar : Int32) : Int32 := if zHeat ht = 0 then -2 else if zAir ar = 0 then -2 else mOf (cBare al ht ar + al 7) (al 3) 5001 (al 5) (al 6) 0
/-- the hours of the log anew: off, carried -/
def mRp (al : Nat → Int32) : Nat → Int32 × Int32 → Int32 × Int32
  | 0, s => s
  | n + 1, s => mRp al n (dOff s.1 s.2 (cBare al (al (11 + 7 * n + 0)) (al (11 + 7 * n + 1)) + al 7), dCar s.2 (cBare al (al (11 + 7 * n + 0)) (al (11 + 7 * n + 1)) + al 7))
def mCo (bare : Int32 → Int32) : Nat → Int32 → Int32
  | 0, _ => -6
  | f + 1, h => if bare h ≤ 0 then h + 100 else mCo bare f (h + 1)
def mCool (al : Nat → Int32) (ar : Int32) : Int32 := if zAir ar = 0 then -2 else mCo (fun h => cBare al h ar + al 7) 71 (-20)
theorem zInc {h : Int32} {f : Nat} (e : h.toInt + (f + 1 : Nat) = 51) (hf : f ≤ 71) : (h + 1).toInt + f = 51 := by
  have h1 : (h + 1).toInt = h.toInt + 1 := by
    rw [Int32.toInt_add]
    show (h.toInt + 1).bmod (2 ^ 32) = h.toInt + 1
    rw [Int.bmod_eq_of_le] <;> omega
  omega
theorem zNot50 {h : Int32} {f : Nat} (e : h.toInt + f = 51) : (50 < h) ↔ f = 0 := by
  rw [Int32.lt_iff_toInt_lt, show (50 : Int32).toInt = 50 from by decide]
  omega
def dNaN (x : UInt64) : Prop := ¬ Op.cmpValue (FP.dcmp x x) .l = 0
def mMean (al : Nat → Int32) (L : Nat) : Int64 := if al 9 = 0 then 0 else (FP.ddiv (FP.i2d (mSum al L)) (FP.i2d (nI L))).toInt64
