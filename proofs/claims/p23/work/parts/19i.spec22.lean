/-! an hour of the log, and the hours until the clock is off -/
theorem pred_i {L : Nat} (h : L < 1000) : (nI L - 1).toInt = (L : Int) - 1 := by
  rw [iS] <;> (rw [nI_toInt (by omega), show (1 : Int32).toInt = 1 by decide]; try omega)
theorem sim_hour {v : CV} {al : Nat → Int32} {h : Nat} (r : RS v al h) (ago what : Int32) : xHour v.2.2.2.1 v.2.2.2.2.1 ago what = mHour al (min h 48) ago what := by
  have hL : min h 48 < 1000 := by omega
  have e9 : zMin v.2.2.2.2.1 48 = nI (min h 48) := by rw [r.wr, zMin48 r.hh]
  unfold xHour mHour
  rw [e9]
  have key : ¬ ago < 0 → (ago < nI (min h 48) ↔ ¬ nI (min h 48) - 1 < ago) := fun _ => by
    rw [Int32.lt_iff_toInt_lt, Int32.lt_iff_toInt_lt, pred_i hL, nI_toInt (by omega)]
    omega
  by_cases a1 : ago < 0
  · rw [if_pos a1, show mRng ago 0 (nI (min h 48) - 1) = 0 from if_pos a1, if_pos rfl]
  · rw [if_neg a1]
    by_cases a2 : ago < nI (min h 48)
    · have g : mRng ago 0 (nI (min h 48) - 1) = 1 := by
        unfold mRng
        rw [if_neg a1, if_neg ((key a1).mp a2)]
      rw [if_pos a2, g, if_neg (show ¬ ((1 : Int32) = 0) by decide)]
      obtain ⟨c1, c2⟩ := zNC a1 (Int32.not_le.mpr a2) (by omega)
      have e : mRng what 0 6 = 0 ↔ what < 0 ∨ ¬ what ≤ nI 6 := rngN (w := what) (N := 6) (by decide)
      by_cases w1 : what < 0
      · rw [if_pos w1, if_pos (e.mpr (Or.inl w1))]
      · rw [if_neg w1]
        by_cases w2 : what < 7
        · obtain ⟨d1, d2⟩ := zNC (N := 7) w1 (Int32.not_le.mpr w2) (by decide)
          have g2 : ¬ mRng what 0 6 = 0 := fun q => by
            rcases e.mp q with z | z
            · exact w1 z
            · rw [d1] at z
              have := zNle (b := 6) z (by omega) (by decide)
              omega
          have f := lF r c2 d2
          rw [← c1, ← d1] at f
          rw [if_pos w2, if_neg g2, f]
          generalize al (11 + 7 * ago.toNatClampNeg + what.toNatClampNeg) = y
          generalize what.toNatClampNeg = m at d1 d2
          subst d1
          rcases (show m = 0 ∨ m = 1 ∨ m = 2 ∨ m = 3 ∨ m = 4 ∨ m = 5 ∨ m = 6 by omega) with q | q | q | q | q | q | q <;> subst q <;> rfl
        · rw [if_neg w2, if_pos]
          refine e.mpr (Or.inr (fun z => w2 ?_))
          rw [Int32.lt_iff_toInt_lt, show (7 : Int32).toInt = 7 by decide]
          rw [Int32.le_iff_toInt_le, show (nI 6).toInt = 6 by decide] at z
          omega
    · rw [if_neg a2, if_pos]
      unfold mRng
      rw [if_neg a1, if_pos]
      exact Classical.byContradiction (fun q => a2 ((key a1).mpr q))
theorem far0 {off lim : Int32} (h : mFar off lim = 0) (h1 : -2147483648 < off.toInt) : -lim.toInt ≤ off.toInt ∧ off.toInt ≤ lim.toInt := by
  have e1 := iN h1
  unfold mFar at h
  by_cases a : lim < off
  · rw [if_pos a] at h; exact absurd h (by decide)
  · rw [if_neg a] at h
    by_cases b : lim < -off
    · rw [if_pos b] at h; exact absurd h (by decide)
    · rw [Int32.lt_iff_toInt_lt] at a b
      rw [e1] at b
      omega
theorem sOf {rate lim : Int32} (h2 : -6695 ≤ rate.toInt ∧ rate.toInt ≤ 6695) (h3 : 1 ≤ lim.toInt ∧ lim.toInt ≤ 5000) : ∀ (f : Nat) (off car : Int32) (n : Nat), (-1000 < car.toInt ∧ car.toInt < 1000) → (-1000000000 ≤ off.toInt ∧ off.toInt ≤ 1000000000) → xOf rate lim f off car n = mOf rate lim f off car n
  | 0, _, _, _, _, _ => rfl
  | f + 1, off, car, n, hc, ho => by
    rw [xOf, mOf, far_eq (by omega) (by omega)]
    by_cases g : mFar off lim = 0
    · rw [if_pos g, if_pos g]
      have a := far0 g (by omega)
      have b := dOff_i (off := off) (B := 5000) hc h2 (by omega) (by decide)
      exact sOf h2 h3 f _ _ _ (dCar_i hc h2) (by omega)
    · rw [if_neg g, if_neg g]
theorem sim_offIn {v : CV} {al : Nat → Int32} {h : Nat} (r : RS v al h) (ht ar : Int32) : xOffIn v ht ar = mOffIn al ht ar := by
  unfold xOffIn mOffIn
  by_cases g1 : zHeat ht = 0
  · rw [if_pos g1, if_pos g1]
  · rw [if_neg g1, if_neg g1]
    by_cases g2 : zAir ar = 0
    · rw [if_pos g2, if_pos g2]
    · rw [if_neg g2, if_neg g2, cBare_st r, r.tr, cSet_3, r.st 3 (by decide), r.off, r.car]
      have a := r.b5
      have b := r.hh
      exact sOf (rate_i r g1 g2) r.s3 _ _ _ _ r.b6 (by omega)
