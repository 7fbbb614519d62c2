/-! the reference's methods -/
theorem zInt64 (n : Nat) : (OfNat.ofNat n : Int64) = lN n := rfl
def mRng (x lo hi : Int32) : Int32 := if x < lo then 0 else if hi < x then 0 else 1
def mIn (x lo hi : Int64) : Int32 := if x < lo then 0 else if hi < x then 0 else 1
theorem mIn_b (x lo hi : Int64) : mIn x lo hi = 0 ∨ mIn x lo hi = 1 := by
  unfold mIn
  repeat' split
  all_goals first | exact Or.inl rfl | exact Or.inr rfl
theorem zNarB {v : Int32} (h : v = 0 ∨ v = 1) : narrow .boolean (.int v) = .int v := by
  rcases h with rfl | rfl <;> rfl
theorem mIn_w (x lo hi : Int32) : mIn x.toInt64 lo.toInt64 hi.toInt64 = mRng x lo hi := by
  have h : ∀ a b : Int32, (a.toInt64 < b.toInt64) = (a < b) := fun a b => by
    rw [Int64.lt_iff_toInt_lt, Int32.lt_iff_toInt_lt, Int32.toInt_toInt64, Int32.toInt_toInt64]
  unfold mIn mRng
  simp only [h]
theorem zHeat_eq (x : Int32) : mRng x (-20) 50 = zHeat x := rfl
theorem zAir_eq (x : Int32) : mRng x 800 1200 = zAir x := rfl
/-- the first n of f over g -/
def mCp (f g : Nat → Int32) (n : Nat) : Nat → Int32 := fun j => if j < n then f j else g j
theorem mCp_0 (f g : Nat → Int32) : mCp f g 0 = g := by
  funext j
  simp [mCp]
theorem mCp_s (f g : Nat → Int32) (n : Nat) : upd (mCp f g n) n (f n) = mCp f g (n + 1) := by
  funext j
  unfold upd mCp
  by_cases h : j = n
  · subst h
    rw [if_pos rfl, if_pos (by omega)]
  · rw [if_neg h]
    by_cases h2 : j < n
    · rw [if_pos h2, if_pos (by omega)]
    · rw [if_neg h2, if_neg (by omega)]
/-- f from a on, n places, over g -/
def mPut (f g : Nat → Int32) (a n : Nat) : Nat → Int32 := fun j => if a ≤ j ∧ j < a + n then f (j - a) else g j
theorem mPut_0 (f g : Nat → Int32) (a : Nat) : mPut f g a 0 = g := by
  funext j
  unfold mPut
  rw [if_neg (by omega)]
theorem mPut_s (f g : Nat → Int32) (a n : Nat) : upd (mPut f g a n) (a + n) (f n) = mPut f g a (n + 1) := by
  funext j
  unfold upd mPut
  by_cases h : j = a + n
  · subst h
    rw [if_pos rfl, if_pos (by omega)]
    congr 1
    omega
  · rw [if_neg h]
    by_cases h2 : a ≤ j ∧ j < a + n
    · rw [if_pos h2, if_pos (by omega)]
    · rw [if_neg h2, if_neg (by omega)]
/-- the oldest state falls off -/
def mDrop (g : Nat → Int32) (n : Nat) : Nat → Int32 := fun j => if j < n then g (j + 347) else g j
theorem mDrop_0 (g : Nat → Int32) : mDrop g 0 = g := by
  funext j
  simp [mDrop]
theorem mDrop_s (g : Nat → Int32) (n : Nat) : upd (mDrop g n) n (mDrop g n (n + 347)) = mDrop g (n + 1) := by
  funext j
  unfold upd mDrop
  rw [if_neg (show ¬ n + 347 < n by omega)]
  by_cases h : j = n
  · subst h
    rw [if_pos rfl, if_pos (by omega)]
  · rw [if_neg h]
    by_cases h2 : j < n
    · rw [if_pos h2, if_pos (by omega)]
    · rw [if_neg h2, if_neg (by omega)]
def mHs (hs f : Nat → Int32) (hq : Nat) : Nat → Int32 := if hq = 6 then mPut f (mDrop hs 1735) (347 * 5) 347 else mPut f hs (347 * hq) 347
def mHq (hq : Nat) : Nat := if hq = 6 then 6 else hq + 1
theorem mPut_cp (f k g : Nat → Int32) (a : Nat) : mPut (mCp f k 347) g a 347 = mPut f g a 347 := by
  funext j
  unfold mPut mCp
  by_cases h : a ≤ j ∧ j < a + 347
  · rw [if_pos h, if_pos h, if_pos (by omega)]
  · rw [if_neg h, if_neg h]
theorem mHs_cp (hs f k : Nat → Int32) (hq : Nat) : mHs hs (mCp f k 347) hq = mHs hs f hq := by
  unfold mHs
  rw [mPut_cp, mPut_cp]
def mFar (off lim : Int32) : Int32 := if lim < off then 1 else if lim < -off then 1 else 0
def mLt (tr l : Int32) : Int32 :=
  if (tr >>> ((0 : Int32) &&& 31)) &&& 1 = l then 0 else if (tr >>> ((1 : Int32) &&& 31)) &&& 1 = l then 1 else if (tr >>> ((2 : Int32) &&& 31)) &&& 1 = l then 2 else if (tr >>> ((3 : Int32) &&& 31)) &&& 1 = l then 3
  else if (tr >>> ((4 : Int32) &&& 31)) &&& 1 = l then 4 else if (tr >>> ((5 : Int32) &&& 31)) &&& 1 = l then 5 else if (tr >>> ((6 : Int32) &&& 31)) &&& 1 = l then 6 else if (tr >>> ((7 : Int32) &&& 31)) &&& 1 = l then 7 else -6
def mCorT (off tr : Int32) : Int32 := tr ^^^ (if mLt tr (if 0 < off then 1 else 0) = -6 then 0 else (1 : Int32) <<< (mLt tr (if 0 < off then 1 else 0) &&& 31))
def mCor (al : Nat → Int32) (off : Int32) : Nat → Int32 := upd (upd al 7 (mCorT off (al 7))) 8 ((upd al 7 (mCorT off (al 7))) 8 + 1)
/-- the log moves by one hour: places above lo and below hi -/
def mSh (f : Nat → Int32) (lo hi : Nat) : Nat → Int32 := fun j => if lo < j ∧ j < hi then f (j - 7) else f j
theorem mSh_0 (f : Nat → Int32) {lo hi : Nat} (h : hi ≤ lo + 1) : mSh f lo hi = f := by
  funext j
  unfold mSh
  rw [if_neg (by omega)]
theorem mSh_s (f : Nat → Int32) {k hi : Nat} (h : k + 18 < hi) : upd (mSh f (18 + k) hi) (18 + k) (mSh f (18 + k) hi (11 + k)) = mSh f (17 + k) hi := by
  funext j
  unfold upd mSh
  rw [if_neg (show ¬ (18 + k < 11 + k ∧ 11 + k < hi) by omega)]
  by_cases h1 : j = 18 + k
  · subst h1
    rw [if_pos rfl, if_pos (by omega)]
    congr 1
    omega
  · rw [if_neg h1]
    by_cases h2 : 18 + k < j ∧ j < hi
    · rw [if_pos h2, if_pos (by omega)]
    · rw [if_neg h2, if_neg (by omega)]
def mTop (al : Nat → Int32) (off car radio inc : Int32) : Nat → Int32 :=
  upd (upd (upd (upd (upd al 5 off) 6 car) 4 ((upd (upd al 5 off) 6 car) 4 + 1)) 10 ((upd (upd (upd al 5 off) 6 car) 4 ((upd (upd al 5 off) 6 car) 4 + 1)) 10 + radio)) 9 ((upd (upd (upd (upd al 5 off) 6 car) 4 ((upd (upd al 5 off) 6 car) 4 + 1)) 10 ((upd (upd (upd al 5 off) 6 car) 4 ((upd (upd al 5 off) 6 car) 4 + 1)) 10 + radio)) 9 + inc)
def mLen (L : Nat) : Nat := if L < 48 then L + 1 else L
def mFacts (f : Nat → Int32) (heat air radio rate behind iset tray : Int32) : Nat → Int32 :=
  upd (upd (upd (upd (upd (upd (upd f 11 heat) 12 air) 13 radio) 14 rate) 15 behind) 16 iset) 17 tray
/-- whether the clock is set in an hour -/
def mIs (al : Nat → Int32) (heat air radio : Int32) : Int32 :=
  if radio = 1 then (if mFar (dOff (al 5) (al 6) (cBare al heat air + al 7)) (al 3) = 0 then 0 else 1) else 0
/-- an hour -/
def mGo (al : Nat → Int32) (L : Nat) (heat air radio : Int32) : Nat → Int32 :=
  if mIs al heat air radio = 0 then
    mFacts (mSh (mTop al (dOff (al 5) (al 6) (cBare al heat air + al 7)) (dCar (al 6) (cBare al heat air + al 7)) radio (if L < 48 then 1 else 0)) 17 (11 + 7 * mLen L)) heat air radio (cBare al heat air + al 7) (dOff (al 5) (al 6) (cBare al heat air + al 7)) 0 (al 7)
  else
    mFacts (mSh (mTop (mCor al (dOff (al 5) (al 6) (cBare al heat air + al 7))) 0 0 radio (if L < 48 then 1 else 0)) 17 (11 + 7 * mLen L)) heat air radio (cBare al heat air + al 7) (dOff (al 5) (al 6) (cBare al heat air + al 7)) 1 (al 7)
theorem mFacts_lo (f : Nat → Int32) (a b c d e g h : Int32) {j : Nat} (hj : j < 11) : mFacts f a b c d e g h j = f j := by
  unfold mFacts upd
  rw [if_neg (by omega), if_neg (by omega), if_neg (by omega), if_neg (by omega), if_neg (by omega), if_neg (by omega), if_neg (by omega)]
theorem mSh_lo (f : Nat → Int32) (hi : Nat) {j : Nat} (hj : j < 18) : mSh f 17 hi j = f j := by
  unfold mSh
  rw [if_neg (by omega)]
theorem mLen_le {L : Nat} (h : L ≤ 48) : mLen L ≤ 48 := by
  unfold mLen
  split <;> omega
theorem mTop_9 (al : Nat → Int32) (off car radio : Int32) {L : Nat} (h : al 9 = nI L) : mTop al off car radio (if L < 48 then 1 else 0) 9 = nI (mLen L) := by
  show al 9 + _ = _
  rw [h]
  unfold mLen
  by_cases hl : L < 48
  · rw [if_pos hl, if_pos hl, nI_succ]
  · rw [if_neg hl, if_neg hl, Int32.add_zero]
theorem mGo_9 (al : Nat → Int32) {L : Nat} (heat air radio : Int32) (h : al 9 = nI L) : mGo al L heat air radio 9 = nI (mLen L) := by
  unfold mGo
  split
  · rw [mFacts_lo _ _ _ _ _ _ _ _ (by decide), mSh_lo _ _ (by decide)]
    exact mTop_9 _ _ _ _ h
  · rw [mFacts_lo _ _ _ _ _ _ _ _ (by decide), mSh_lo _ _ (by decide)]
    exact mTop_9 _ _ _ _ h
def mLenN (L : Nat) : Nat → Nat
  | 0 => L
  | n + 1 => mLen (mLenN L n)
def mGoN (al : Nat → Int32) (L : Nat) (heat air radio : Int32) : Nat → (Nat → Int32)
  | 0 => al
  | n + 1 => mGo (mGoN al L heat air radio n) (mLenN L n) heat air radio
def mCntN (al : Nat → Int32) (L : Nat) (heat air radio : Int32) : Nat → Int32
  | 0 => 0
  | n + 1 => mCntN al L heat air radio n + (if mIs (mGoN al L heat air radio n) heat air radio = 0 then 0 else 1)
theorem mLenN_le {L : Nat} (h : L ≤ 48) : ∀ n, mLenN L n ≤ 48
  | 0 => h
  | n + 1 => mLen_le (mLenN_le h n)
theorem mGoN_9 {al : Nat → Int32} {L : Nat} {heat air radio : Int32} (h : al 9 = nI L) : ∀ n, mGoN al L heat air radio n 9 = nI (mLenN L n)
  | 0 => h
  | n + 1 => mGo_9 _ _ _ _ (mGoN_9 h n)
theorem cErrH_eq (ho ht ar rd mo : Int32) : cErrH ho ht ar rd mo = if zHeat ht = 0 then -2 else if zAir ar = 0 then -2 else if mRng rd 0 1 = 0 then -2 else if mRng mo 1 99 = 0 then -2 else if 9999 < ho + mo then -5 else 0 := by
  unfold cErrH mRng
  repeat' split
  all_goals first | rfl | (exfalso; first | contradiction | simp_all)
theorem zRange {x : Int32} {lo hi : Nat} (hl : lo < 2 ^ 31) (hh : hi < 2 ^ 31) (h : ¬ mRng x (nI lo) (nI hi) = 0) : x = nI x.toNatClampNeg ∧ lo ≤ x.toNatClampNeg ∧ x.toNatClampNeg ≤ hi := by
  unfold mRng at h
  by_cases h1 : x < nI lo
  · rw [if_pos h1] at h; exact absurd rfl h
  · rw [if_neg h1] at h
    by_cases h2 : nI hi < x
    · rw [if_pos h2] at h; exact absurd rfl h
    · have g1 := Int32.lt_iff_toInt_lt (x := x) (y := nI lo)
      have g2 := Int32.lt_iff_toInt_lt (x := nI hi) (y := x)
      rw [nI_toInt hl] at g1
      rw [nI_toInt hh] at g2
      have k1 : (lo : Int) ≤ x.toInt := by
        rcases Int.lt_or_le x.toInt lo with q | q
        · exact absurd (g1.mpr q) h1
        · exact q
      have k2 : x.toInt ≤ hi := by
        rcases Int.lt_or_le (hi : Int) x.toInt with q | q
        · exact absurd (g2.mpr q) h2
        · exact q
      have e1 : x.toNatClampNeg = x.toInt.toNat := rfl
      have e2 : x = nI x.toNatClampNeg := by
        apply Int32.toInt_inj.mp
        rw [nI_toInt (by omega)]
        omega
      exact ⟨e2, by omega, by omega⟩
def mIsS (k x : Int32) : Int32 := if k = 0 then mRng x 0 99 else if k = 1 then mRng x 0 99 else if k = 2 then mRng x (-500) 500 else if k = 3 then (if mRng x 1 5000 = 0 then 0 else 1) else 0
theorem mIsS_k {k x : Int32} (h : ¬ mIsS k x = 0) : k = nI k.toNatClampNeg ∧ k.toNatClampNeg < 4 := by
  unfold mIsS at h
  by_cases h0 : k = 0
  · subst h0; decide
  rw [if_neg h0] at h
  by_cases h0 : k = 1
  · subst h0; decide
  rw [if_neg h0] at h
  by_cases h0 : k = 2
  · subst h0; decide
  rw [if_neg h0] at h
  by_cases h0 : k = 3
  · subst h0; decide
  rw [if_neg h0] at h
  exact absurd rfl h
def mSetR (al : Nat → Int32) (k x : Int32) : Int32 := if mIsS k x = 0 then -2 else al k.toNatClampNeg + 1000
def mSetA (al : Nat → Int32) (k x : Int32) : Nat → Int32 := if mIsS k x = 0 then al else upd al k.toNatClampNeg x
def mWtR (al : Nat → Int32) (w : Int32) : Int32 := if mRng w 0 7 = 0 then -1 else cMvR (al 7) w
def mWtA (al : Nat → Int32) (w : Int32) : Nat → Int32 := if mRng w 0 7 = 0 then al else upd al 7 (cMvT (al 7) w)
def mPaR (al : Nat → Int32) (L : Nat) (ht ar rd mo : Int32) : Int32 := if cErrH (al 4) ht ar rd mo = 0 then mCntN al L ht ar rd mo.toNatClampNeg else cErrH (al 4) ht ar rd mo
def mPaA (al : Nat → Int32) (L : Nat) (ht ar rd mo : Int32) : Nat → Int32 := if cErrH (al 4) ht ar rd mo = 0 then mGoN al L ht ar rd mo.toNatClampNeg else al
def mZeA (al : Nat → Int32) : Nat → Int32 := upd (upd al 5 0) 6 0
def mSize (x : Int32) : Int32 := if 0 ≤ x then x else -x
