/-! the reads related -/
theorem zMin48 {h : Nat} (hh : h ≤ 9999) : zMin (nI h) 48 = nI (min h 48) := by
  unfold zMin
  by_cases q : (48 : Int32) < nI h
  · have := zLt (a := 48) q (by decide) (by omega)
    rw [if_pos q, show min h 48 = 48 by omega]
    rfl
  · have := zNlt (a := 48) q (by decide) (by omega)
    rw [if_neg q, show min h 48 = h by omega]
theorem lF {v : CV} {al : Nat → Int32} {h : Nat} (r : RS v al h) {j w : Nat} (hj : j < min h 48) (hw : w < 7) : lFact v.2.2.2.1 v.2.2.2.2.1 (nI j) (nI w) = al (11 + 7 * j + w) := by
  rw [r.wr]
  exact r.lg j w hj hw
theorem sSum {v : CV} {al : Nat → Int32} {h : Nat} (r : RS v al h) : ∀ n, n ≤ min h 48 → lSum v.2.2.2.1 v.2.2.2.2.1 n = mSum al n
  | 0, _ => rfl
  | n + 1, hn => by
    rw [lSum, mSum, sSum r n (by omega)]
    exact congrArg _ (lF r (j := n) (w := 3) (by omega) (by decide))
theorem sMax {v : CV} {al : Nat → Int32} {h : Nat} (r : RS v al h) : ∀ n, n < min h 48 → lMax v.2.2.2.1 v.2.2.2.2.1 n = mMax al n
  | 0, hn => lF r (j := 0) (w := 3) hn (by decide)
  | n + 1, hn => by
    rw [lMax, mMax, sMax r n (by omega)]
    exact congrArg _ (lF r (j := n + 1) (w := 3) hn (by decide))
theorem sMin {v : CV} {al : Nat → Int32} {h : Nat} (r : RS v al h) : ∀ n, n < min h 48 → lMin v.2.2.2.1 v.2.2.2.2.1 n = mMin al n
  | 0, hn => lF r (j := 0) (w := 3) hn (by decide)
  | n + 1, hn => by
    rw [lMin, mMin, sMin r n (by omega)]
    exact congrArg _ (lF r (j := n + 1) (w := 3) hn (by decide))
theorem sFast {v : CV} {al : Nat → Int32} {h : Nat} (r : RS v al h) : ∀ n, n ≤ min h 48 → lCnt v.2.2.2.1 v.2.2.2.2.1 3 n = mFast al n
  | 0, _ => rfl
  | n + 1, hn => by
    rw [lCnt, mFast, sFast r n (by omega), show lFact v.2.2.2.1 v.2.2.2.2.1 (nI n) 3 = al (11 + 7 * n + 3) from lF r (j := n) (w := 3) (by omega) (by decide)]
theorem sSets {v : CV} {al : Nat → Int32} {h : Nat} (r : RS v al h) : ∀ n, n ≤ min h 48 → lCnt v.2.2.2.1 v.2.2.2.2.1 5 n = mSets al n
  | 0, _ => rfl
  | n + 1, hn => by
    rw [lCnt, mSets, sSets r n (by omega), show lFact v.2.2.2.1 v.2.2.2.2.1 (nI n) 5 = al (11 + 7 * n + 5) from lF r (j := n) (w := 5) (by omega) (by decide)]
    rcases r.fl n (by omega) with q | q <;> rw [q] <;> rfl
theorem sOth {v : CV} {al : Nat → Int32} {h : Nat} (r : RS v al h) : ∀ n, n < min h 48 → lOth v.2.2.2.1 v.2.2.2.2.1 n = mOth al n
  | 0, _ => rfl
  | n + 1, hn => by
    rw [lOth, mOth, sOth r n (by omega), show lFact v.2.2.2.1 v.2.2.2.2.1 (nI n) 6 = al (11 + 7 * n + 6) from lF r (j := n) (w := 6) (by omega) (by decide), show lFact v.2.2.2.1 v.2.2.2.2.1 (nI (n + 1)) 6 = al (11 + 7 * (n + 1) + 6) from lF r (j := n + 1) (w := 6) hn (by decide)]
    by_cases q : al (11 + 7 * n + 6) = al (11 + 7 * (n + 1) + 6)
    · rw [if_pos q, if_pos q.symm]
    · rw [if_neg q, if_neg (fun z => q z.symm)]
theorem rngN {w : Int32} {N : Nat} (hN : N < 1000) : mRng w 0 (nI N) = 0 ↔ w < 0 ∨ ¬ w ≤ nI N := by
  unfold mRng
  by_cases h1 : w < 0
  · rw [if_pos h1]; exact ⟨fun _ => Or.inl h1, fun _ => rfl⟩
  · rw [if_neg h1]
    by_cases h2 : nI N < w
    · rw [if_pos h2]; exact ⟨fun _ => Or.inr (Int32.not_le.mpr h2), fun _ => rfl⟩
    · rw [if_neg h2]; exact ⟨fun q => absurd q (by decide), fun q => (q.elim h1 (fun z => z (Int32.not_lt.mp h2))).elim⟩
theorem sim_ofLog {v : CV} {al : Nat → Int32} {h : Nat} (r : RS v al h) (w : Int32) : xOfLog v.2.2.2.1 v.2.2.2.2.1 (min h 48) w = mOfLog al (min h 48) w := by
  have h9 : zMin v.2.2.2.2.1 48 = al 9 := by rw [r.wr, zMin48 r.hh, r.n9]
  unfold xOfLog mOfLog
  rw [h9]
  have e := rngN (w := w) (N := 4) (by decide)
  by_cases g : mRng w 0 4 = 0
  · rw [if_pos g]
    rcases e.mp g with q | q
    · rw [if_pos q]
    · by_cases z : w < 0
      · rw [if_pos z]
      · rw [if_neg z]; exact if_neg q
  · have q1 : ¬ w < 0 := fun q => g (e.mpr (Or.inl q))
    have q2 : w ≤ 4 := Classical.byContradiction (fun q => g (e.mpr (Or.inr q)))
    rw [if_neg g, if_neg q1, if_pos q2]
    by_cases z : al 9 = 0
    · rw [if_pos z, if_pos z]
    · have hp : 0 < min h 48 := by
        rcases Nat.eq_zero_or_pos (min h 48) with y | y
        · exact absurd (by rw [r.n9, y]; rfl) z
        · exact y
      rw [if_neg z, if_neg z, sMax r _ (by omega), sMin r _ (by omega), sFast r _ (Nat.le_refl _), sSets r _ (Nat.le_refl _), sOth r _ (by omega)]
theorem sim_count {v : CV} {al : Nat → Int32} {h : Nat} (r : RS v al h) (p k : Nat) (w : Int32) : xCount v p k w = mCount al p k w := by
  have h9 : zMin v.2.2.2.2.1 48 = al 9 := by rw [r.wr, zMin48 r.hh, r.n9]
  unfold xCount mCount
  rw [h9, r.off, r.car, r.tr, r.ti, r.ra, show v.2.2.2.2.2.2.1 = al 4 from r.ho.trans r.ho4.symm, cSet_0, cSet_1, cSet_2, cSet_3, r.st 0 (by decide), r.st 1 (by decide), r.st 2 (by decide), r.st 3 (by decide)]
theorem sim_rate {v : CV} {al : Nat → Int32} {h : Nat} (r : RS v al h) (ht ar : Int32) : xRate v.1 (vTr v) ht ar = mRate al ht ar := by
  unfold xRate mRate
  rw [cBare_st r, show vTr v = al 7 from r.tr]
theorem sim_cool {v : CV} {al : Nat → Int32} {h : Nat} (r : RS v al h) (ar : Int32) : xCool v ar = mCool al ar := by
  unfold xCool mCool
  rw [show (fun h => cBare v.1 h ar + v.2.2.2.2.2.1) = (fun h => cBare al h ar + al 7) from funext (fun x => by rw [cBare_st r, r.tr])]
theorem sRp {v : CV} {al : Nat → Int32} {h : Nat} (r : RS v al h) : ∀ n, n ≤ min h 48 → ∀ s, xRp v.1 v.2.2.2.1 v.2.2.2.2.1 (vTr v) n s = mRp al n s
  | 0, _, s => rfl
  | n + 1, hn, s => by
    rw [xRp, mRp, sRp r n (by omega), cBare_st r, show vTr v = al 7 from r.tr, show lFact v.2.2.2.1 v.2.2.2.2.1 (nI n) 0 = al (11 + 7 * n + 0) from lF r (j := n) (w := 0) (by omega) (by decide), show lFact v.2.2.2.1 v.2.2.2.2.1 (nI n) 1 = al (11 + 7 * n + 1) from lF r (j := n) (w := 1) (by omega) (by decide)]
theorem abs_size (x : Int32) : zAbs x = mSize x := by
  unfold zAbs mSize
  rw [Int32.zero_sub]
theorem sBw (b : Int32) : ∀ n, xBw b n = mBw b n
  | 0 => rfl
  | n + 1 => by rw [xBw, mBw, sBw b n, abs_size, abs_size]
theorem sim_best {v : CV} {al : Nat → Int32} {h : Nat} (r : RS v al h) (ht ar w : Int32) : xBest v.1 ht ar w = mBest al ht ar w := by
  unfold xBest mBest
  rw [cBare_st r, sBw]
  have e := rngN (w := w) (N := 1) (by decide)
  by_cases g : mRng w 0 1 = 0
  · rw [if_pos g]
    rcases e.mp g with q | q
    · rw [if_pos q]
    · by_cases z : w < 0
      · rw [if_pos z]
      · rw [if_neg z, if_neg (show ¬ w ≤ 1 from q)]
  · have q1 : ¬ w < 0 := fun q => g (e.mpr (Or.inl q))
    have q2 : w ≤ 1 := Classical.byContradiction (fun q => g (e.mpr (Or.inr q)))
    rw [if_neg g, if_neg q1, if_pos q2]
