/-! the states as values, and what the methods do to them -/
abbrev CV : Type := (Nat → Int32) × Int32 × Int32 × (Nat → Int32) × Int32 × Int32 × Int32 × Int32 × Int32
abbrev MV : Type := (Nat → Int32) × (Nat → Int32) × (Nat → Int32) × Nat × (Nat → Int32) × (Nat → Int32) × Int32 × Int32 × (Nat → Int32) × Nat × Nat × Int32 × Int32 × Int32
/-- the cells of a clock -/
abbrev ck (Z : Nat → ClassId) (a : Nat → Nat) (v : CV) : va_W := [(a 0, .inr (0, [.ref (a 1), .ref (a 2), .ref (a 3), .int v.2.2.2.2.2.1, .int v.2.2.2.2.2.2.1, .int v.2.2.2.2.2.2.2.1, .int v.2.2.2.2.2.2.2.2])), (a 1, .inl (Z 0, 4, .inl v.1)), (a 2, .inr (1, [.int v.2.1, .int v.2.2.1])), (a 3, .inr (3, [.ref (a 4), .int v.2.2.2.2.1])), (a 4, .inl (Z 0, 336, .inl v.2.2.2.1))]
/-- the cells of the reference -/
abbrev mk (Z : Nat → ClassId) (b : Nat → Nat) (v : MV) : va_W := [(b 0, .inr (8, [.ref (b 1), .ref (b 2), .ref (b 3), .int (nI v.2.2.2.1), .ref (b 4), .ref (b 5), .int v.2.2.2.2.2.2.1, .int v.2.2.2.2.2.2.2.1, .ref (b 6), .int (nI v.2.2.2.2.2.2.2.2.2.1), .int (nI v.2.2.2.2.2.2.2.2.2.2.1), .int v.2.2.2.2.2.2.2.2.2.2.2.1, .int v.2.2.2.2.2.2.2.2.2.2.2.2.1, .int v.2.2.2.2.2.2.2.2.2.2.2.2.2])), (b 1, .inl (Z 0, 347, .inl v.1)), (b 2, .inl (Z 0, 347, .inl v.2.1)), (b 3, .inl (Z 0, 2082, .inl v.2.2.1)), (b 4, .inl (Z 0, 694, .inl v.2.2.2.2.1)), (b 5, .inl (Z 0, 2, .inl v.2.2.2.2.2.1)), (b 6, .inl (Z 0, 80, .inl v.2.2.2.2.2.2.2.2.1))]
-- numbers
theorem zNC {x : Int32} {N : Nat} (h0 : ¬ x < 0) (h1 : ¬ nI N ≤ x) (hN : N < 2 ^ 31) : x = nI x.toNatClampNeg ∧ x.toNatClampNeg < N := by
  obtain ⟨j, hj, e⟩ : ∃ j : Nat, j < N ∧ x = nI j := by
    rcases pk_ix x hN with h | h | h
    · exact absurd h h0
    · exact absurd h h1
    · exact h
  subst e
  rw [nI_clamp (by omega)]
  exact ⟨rfl, hj⟩
theorem zLe {a b : Nat} (h : nI a ≤ nI b) (ha : a < 2 ^ 31) (hb : b < 2 ^ 31) : a ≤ b := (nI_leI ha hb).mp h
theorem zNle {a b : Nat} (h : ¬ nI a ≤ nI b) (ha : a < 2 ^ 31) (hb : b < 2 ^ 31) : b < a := Nat.not_le.mp (mt (nI_leI ha hb).mpr h)
theorem zLt {a b : Nat} (h : nI a < nI b) (ha : a < 2 ^ 31) (hb : b < 2 ^ 31) : a < b := (nI_ltI ha hb).mp h
theorem zNlt {a b : Nat} (h : ¬ nI a < nI b) (ha : a < 2 ^ 31) (hb : b < 2 ^ 31) : b ≤ a := Nat.not_lt.mp (mt (nI_ltI ha hb).mpr h)
theorem zLe1 {n k : Nat} (h : nI n - 1 ≤ nI k) (hn : n < 2 ^ 31) (hk : k < 2 ^ 31) : n - 1 ≤ k := by
  cases n with
  | zero => omega
  | succ n => rw [nI_pred] at h; exact zLe h (by omega) hk
theorem zNle1 {n k : Nat} (h : ¬ nI n - 1 ≤ nI k) (hn : n < 2 ^ 31) (hk : k < 2 ^ 31) : k < n - 1 := by
  cases n with
  | zero =>
    refine absurd ?_ h
    rw [Int32.le_iff_toInt_le, nI_toInt hk, show (nI 0 - 1).toInt = -1 from by decide]
    omega
  | succ n => rw [nI_pred] at h; exact zNle h (by omega) hk
-- Drift
def dOff (off car rate : Int32) : Int32 := off + (car + rate * 3600) / 1000
def dCar (car rate : Int32) : Int32 := (car + rate * 3600) - (car + rate * 3600) / 1000 * 1000
def dMore (off lim : Int32) : Int32 := if lim < off then 1 else if off < -lim then 1 else 0
-- Log
def lPl (wr ago what : Int32) : Int32 := ((wr - 1 - ago) - (wr - 1 - ago) / 48 * 48) * 7 + what
def lWr (fa : Nat → Int32) (wr what number : Int32) : Nat → Int32 := if lPl wr 0 what < 0 then fa else if 336 ≤ lPl wr 0 what then fa else upd fa (lPl wr 0 what).toNatClampNeg number
def lFact (fa : Nat → Int32) (wr ago what : Int32) : Int32 := if lPl wr ago what < 0 then 0 else if 336 ≤ lPl wr ago what then 0 else fa (lPl wr ago what).toNatClampNeg
def lSum (fa : Nat → Int32) (wr : Int32) : Nat → Int32
  | 0 => 0
  | n + 1 => lSum fa wr n + lFact fa wr (nI n) 3
def lMax (fa : Nat → Int32) (wr : Int32) : Nat → Int32
  | 0 => lFact fa wr 0 3
  | n + 1 => zMax (lMax fa wr n) (lFact fa wr (nI (n + 1)) 3)
def lMin (fa : Nat → Int32) (wr : Int32) : Nat → Int32
  | 0 => lFact fa wr 0 3
  | n + 1 => zMin (lMin fa wr n) (lFact fa wr (nI (n + 1)) 3)
def lCnt (fa : Nat → Int32) (wr what : Int32) : Nat → Int32
  | 0 => 0
  | n + 1 => lCnt fa wr what n + (if lFact fa wr (nI n) what ≤ 0 then 0 else 1)
def lOth (fa : Nat → Int32) (wr : Int32) : Nat → Int32
  | 0 => 0
  | n + 1 => lOth fa wr n + (if lFact fa wr (nI n) 6 = lFact fa wr (nI (n + 1)) 6 then 0 else 1)
-- Clock
def cSet (st : Nat → Int32) (k : Int32) : Int32 := if k < 0 then 0 else if 4 ≤ k then 0 else st k.toNatClampNeg
def cChg (st : Nat → Int32) (k v : Int32) : Nat → Int32 := if k < 0 then st else if 4 ≤ k then st else upd st k.toNatClampNeg v
def cBare (st : Nat → Int32) (heat air : Int32) : Int32 := st 2 - st 0 * (heat - 20) - st 1 * (air - 1000) / 10
def cErrS (k v : Int32) : Int32 := if k < 0 then -2 else if 4 ≤ k then -2 else if v < zLeast k.toNatClampNeg then -2 else if zGreat k.toNatClampNeg < v then -2 else 0
def cErrW (w : Int32) : Int32 := if w < 0 then -1 else if 8 ≤ w then -1 else 0
def zHeat (h : Int32) : Int32 := if h < -20 then 0 else if 50 < h then 0 else 1
def zAir (h : Int32) : Int32 := if h < 800 then 0 else if 1200 < h then 0 else 1
def cErrH (ho heat air radio more : Int32) : Int32 := if zHeat heat = 0 then -2 else if zAir air = 0 then -2 else if radio < 0 then -2 else if 1 < radio then -2 else if more < 1 then -2 else if 99 < more then -2 else if 9999 < ho + more then -5 else 0
def cMvT (tr w : Int32) : Int32 := tr ^^^ ((1 : Int32) <<< (w &&& 31))
def cMvR (tr w : Int32) : Int32 := (cMvT tr w >>> (w &&& 31)) &&& 1
def cCorT (off tr : Int32) : Int32 := if 0 < off then tr &&& (tr - 1) else (tr ||| (tr + 1)) &&& 255
theorem cSet_0 (st : Nat → Int32) : cSet st 0 = st 0 := rfl
theorem cSet_1 (st : Nat → Int32) : cSet st 1 = st 1 := rfl
theorem cSet_2 (st : Nat → Int32) : cSet st 2 = st 2 := rfl
theorem cSet_3 (st : Nat → Int32) : cSet st 3 = st 3 := rfl
def cSt0 : Nat → Int32 := fun k => match k with
  | 0 => 12
  | 1 => 15
  | 2 => 0
  | 3 => 500
  | _ => 0
abbrev vTi (v : CV) : Int32 := v.2.2.2.2.2.2.2.2
/-- the facts of an hour are written -/
def lHour (fa : Nat → Int32) (wr heat air radio rate off iset tr : Int32) : Nat → Int32 :=
  lWr (lWr (lWr (lWr (lWr (lWr (lWr fa wr 0 heat) wr 1 air) wr 2 radio) wr 3 rate) wr 4 off) wr 5 iset) wr 6 tr
def cGo : CV → Int32 → Int32 → Int32 → CV := fun (st, off, car, fa, wr, tr, ho, ra, ti) heat air radio =>
  if radio = 1 then
    if dMore (dOff off car (cBare st heat air + tr)) (cSet st 3) = 0 then
      (st, dOff off car (cBare st heat air + tr), dCar car (cBare st heat air + tr), lHour fa (wr + 1) heat air radio (cBare st heat air + tr) (dOff off car (cBare st heat air + tr)) 0 tr, wr + 1, tr, ho + 1, ra + radio, ti)
    else
      (st, 0, 0, lHour fa (wr + 1) heat air radio (cBare st heat air + tr) (dOff off car (cBare st heat air + tr)) 1 tr, wr + 1, cCorT (dOff off car (cBare st heat air + tr)) tr, ho + 1, ra + radio, ti + 1)
  else
    (st, dOff off car (cBare st heat air + tr), dCar car (cBare st heat air + tr), lHour fa (wr + 1) heat air radio (cBare st heat air + tr) (dOff off car (cBare st heat air + tr)) 0 tr, wr + 1, tr, ho + 1, ra + radio, ti)
def cGoN (v : CV) (heat air radio : Int32) : Nat → CV
  | 0 => v
  | n + 1 => cGo (cGoN v heat air radio n) heat air radio
/-- a clock's value behind become() -/
def cBec (v w : CV) : CV := (va_cpy w.1 v.1 0 0 4, w.2.1, w.2.2.1, va_cpy w.2.2.2.1 v.2.2.2.1 0 0 336, w.2.2.2.2.1, w.2.2.2.2.2.1, w.2.2.2.2.2.2.1, w.2.2.2.2.2.2.2.1, w.2.2.2.2.2.2.2.2)
/-- the history: addresses and values, the newest first -/
abbrev HV : Type := Nat → ((Nat → Nat) × CV)
abbrev hk (Z : Nat → ClassId) (c : Nat → Nat) (v : Nat × HV) : va_W := [(c 0, .inr (2, [.ref (c 1), .int (nI v.1)])), (c 1, .inl (Z 2, 6, .inr (.inr (.inr (.inr (zQ [some ((v.2 0).1 0), some ((v.2 1).1 0), some ((v.2 2).1 0), some ((v.2 3).1 0), some ((v.2 4).1 0), some ((v.2 5).1 0)]))))))] ++ (ck Z (v.2 0).1 (v.2 0).2 ++ (ck Z (v.2 1).1 (v.2 1).2 ++ (ck Z (v.2 2).1 (v.2 2).2 ++ (ck Z (v.2 3).1 (v.2 3).2 ++ (ck Z (v.2 4).1 (v.2 4).2 ++ ck Z (v.2 5).1 (v.2 5).2)))))
def hKp (n : Nat) : Nat := if n < 6 then n + 1 else 6
def hRec (H : HV) (v : CV) : HV := fun k => match k with
  | 0 => ((H 5).1, cBec (H 5).2 v)
  | k + 1 => H k
def hTak (H : HV) : HV := fun k => if k = 5 then H 0 else H (k + 1)
theorem hKp_min {n : Nat} (h : n ≤ 6) : zMin (nI (n + 1)) 6 = nI (hKp n) := by
  have e : ∀ n : Nat, n < 7 → zMin (nI (n + 1)) 6 = nI (hKp n) := by decide +kernel
  exact e n (by omega)
