/-! p23: how near the best weights are, when the clock is off, the least heat; the numbers that the law draws -/
theorem oLe (x y : Int32) : x ≤ y ↔ x.toInt ≤ y.toInt := Int32.le_iff_toInt_le
theorem oBw (b : Int32) : ∀ n t, t ≤ n → (mSize (b + mBw b n)).toInt ≤ (mSize (b + nI t)).toInt
  | 0, t, h => by
    rw [show t = 0 by omega]
    exact Int.le_refl _
  | n + 1, t, h => by
    have ih := oBw b n
    show (mSize (b + (if mSize (b + mBw b n) ≤ mSize (b + nI (n + 1)) then mBw b n else nI (n + 1)))).toInt ≤ _
    have e := oLe (mSize (b + mBw b n)) (mSize (b + nI (n + 1)))
    by_cases q : mSize (b + mBw b n) ≤ mSize (b + nI (n + 1))
    · rw [if_pos q]
      rcases Nat.lt_or_ge t (n + 1) with z | z
      · exact ih t (by omega)
      · rw [show t = n + 1 by omega]; exact e.mp q
    · rw [if_neg q]
      rcases Nat.lt_or_ge t (n + 1) with z | z
      · have := ih t (by omega)
        have := mt e.mpr q
        omega
      · rw [show t = n + 1 by omega]; exact Int.le_refl _
theorem oBest {v : CV} {al : Nat → Int32} {h : Nat} (r : RS v al h) {ht ar : Int32} (g1 : ¬ zHeat ht = 0) (g2 : ¬ zAir ar = 0) : xBest v.1 ht ar 1 = cBare al ht ar + mBw (cBare al ht ar) 255 + 100000 := by
  rw [sim_best r, mBest, if_neg g1, if_neg g2, if_neg (by decide), if_neg (by decide)]
theorem oBestA {v : CV} {al : Nat → Int32} {h : Nat} (r : RS v al h) (ht ar w : Int32) : xBest v.1 ht ar w = mBest al ht ar w := sim_best r ht ar w
/-- the best weights are no farther from 0 than the tray -/
theorem oNear {v : CV} {al : Nat → Int32} {h : Nat} (r : RS v al h) (b : Int32) : ¬ mSize (b + al 7) < mSize (b + mBw b 255) := by
  obtain ⟨t, ht, e⟩ := r.t7
  have := oBw b 255 t (by omega)
  rw [Int32.lt_iff_toInt_lt, e]
  omega
theorem mSize_i {x : Int32} (h : -2147483648 < x.toInt) : (mSize x).toInt = if 0 ≤ x.toInt then x.toInt else -x.toInt := by
  have e := oLe 0 x
  rw [show (0 : Int32).toInt = 0 by decide] at e
  unfold mSize
  by_cases q : 0 ≤ x
  · rw [if_pos q, if_pos (e.mp q)]
  · rw [if_neg q, if_neg (mt e.mpr q), iN h]
/-- an hour's step -/
theorem dStep {off car rate : Int32} {B : Int} (h1 : -1000 < car.toInt ∧ car.toInt < 1000) (h2 : -6695 ≤ rate.toInt ∧ rate.toInt ≤ 6695) (hb : -B ≤ rate.toInt ∧ rate.toInt ≤ B) (h3 : -1000000000 ≤ off.toInt ∧ off.toInt ≤ 1000000000) :
    off.toInt - (B * 36 / 10 + 1) ≤ (dOff off car rate).toInt ∧ (dOff off car rate).toInt ≤ off.toInt + (B * 36 / 10 + 1) := by
  have e := dRate h1 h2
  have d := iD1000 (a := car + rate * 3600)
  have k : -(B * 36 / 10 + 1) ≤ ((car + rate * 3600) / 1000).toInt ∧ ((car + rate * 3600) / 1000).toInt ≤ B * 36 / 10 + 1 := by
    rw [d]; split <;> omega
  have k2 : -24103 ≤ ((car + rate * 3600) / 1000).toInt ∧ ((car + rate * 3600) / 1000).toInt ≤ 24103 := by
    rw [d]; split <;> omega
  unfold dOff
  rw [iA] <;> omega
/-- offIn: so many hours, each of which can't do more than most -/
theorem oOf {rate lim : Int32} {B : Int} (h2 : -6695 ≤ rate.toInt ∧ rate.toInt ≤ 6695) (hb : -B ≤ rate.toInt ∧ rate.toInt ≤ B) (h3 : 1 ≤ lim.toInt ∧ lim.toInt ≤ 5000) : ∀ (f : Nat) (off car : Int32) (n : Nat), (-1000 < car.toInt ∧ car.toInt < 1000) → (-1000000000 ≤ off.toInt ∧ off.toInt ≤ 1000000000) →
    mOf rate lim f off car n = -6 ∨ (∃ m k : Nat, m = n + k ∧ k < f ∧ mOf rate lim f off car n = nI m ∧ lim.toInt + 1 - off.toInt ≤ (k : Int) * (B * 36 / 10 + 1)) ∨ (∃ m k : Nat, m = n + k ∧ k < f ∧ mOf rate lim f off car n = nI m ∧ lim.toInt + 1 + off.toInt ≤ (k : Int) * (B * 36 / 10 + 1))
  | 0, _, _, _, _, _ => Or.inl rfl
  | f + 1, off, car, n, hc, ho => by
    rw [mOf]
    by_cases g : mFar off lim = 0
    · rw [if_pos g]
      have a := far0 g (by omega)
      have b := dOff_i (off := off) (B := 5000) hc h2 (by omega) (by decide)
      have s := dStep (off := off) hc h2 hb ho
      have mul : ∀ k : Nat, ((k + 1 : Nat) : Int) * (B * 36 / 10 + 1) = (k : Int) * (B * 36 / 10 + 1) + (B * 36 / 10 + 1) := fun k => by
        rw [Int.natCast_add, Int.add_mul, Int.natCast_one, Int.one_mul]
      rcases oOf h2 hb h3 f (dOff off car rate) (dCar car rate) (n + 1) (dCar_i hc h2) (by omega) with q | ⟨m, k, e1, e2, e3, e4⟩ | ⟨m, k, e1, e2, e3, e4⟩
      · exact Or.inl q
      · refine Or.inr (Or.inl ⟨m, k + 1, by omega, by omega, e3, ?_⟩)
        rw [mul k]
        omega
      · refine Or.inr (Or.inr ⟨m, k + 1, by omega, by omega, e3, ?_⟩)
        rw [mul k]
        omega
    · rw [if_neg g]
      have e1 := iN (a := off) (by omega)
      unfold mFar at g
      by_cases a : lim < off
      · rw [Int32.lt_iff_toInt_lt] at a
        exact Or.inr (Or.inl ⟨n, 0, by omega, by omega, rfl, by rw [Int.natCast_zero, Int.zero_mul]; omega⟩)
      · rw [if_neg a] at g
        by_cases b : lim < -off
        · rw [Int32.lt_iff_toInt_lt, e1] at b
          exact Or.inr (Or.inr ⟨n, 0, by omega, by omega, rfl, by rw [Int.natCast_zero, Int.zero_mul]; omega⟩)
        · rw [if_neg b] at g
          exact absurd rfl g
theorem oOffIn {v : CV} {al : Nat → Int32} {h : Nat} (r : RS v al h) {ht ar : Int32} (g1 : ¬ zHeat ht = 0) (g2 : ¬ zAir ar = 0) : xOffIn v ht ar = mOf (cBare al ht ar + al 7) (al 3) 5001 (al 5) (al 6) 0 := by
  rw [sim_offIn r, mOffIn, if_neg g1, if_neg g2]
theorem oOffInA {v : CV} {al : Nat → Int32} {h : Nat} (r : RS v al h) (ht ar : Int32) : xOffIn v ht ar = mOffIn al ht ar := sim_offIn r ht ar
/-- the clock is off by more now -/
theorem oFar1 {v : CV} {al : Nat → Int32} {h : Nat} (r : RS v al h) {rate : Int32} (q : ¬ dMore (al 5) (al 3) = 0) : mOf rate (al 3) 5001 (al 5) (al 6) 0 = 0 := by
  have a := r.b5
  have b := r.hh
  rw [far_eq (by omega) (by have := r.s3; omega)] at q
  rw [mOf, if_neg q]
  rfl
theorem oFar0 {v : CV} {al : Nat → Int32} {h : Nat} (r : RS v al h) {rate : Int32} (h2 : -6695 ≤ rate.toInt ∧ rate.toInt ≤ 6695) (q : dMore (al 5) (al 3) = 0) : ¬ mOf rate (al 3) 5001 (al 5) (al 6) 0 = 0 := by
  have a := r.b5
  have b := r.hh
  have s3 := r.s3
  rw [far_eq (by omega) (by omega)] at q
  rw [mOf, if_pos q]
  have c := dOff_i (off := al 5) (B := 241005897) r.b6 h2 (by omega) (by decide)
  intro z
  rcases oOf (rate := rate) (lim := al 3) (B := 6695) h2 h2 s3 5000 (dOff (al 5) (al 6) rate) (dCar (al 6) rate) (0 + 1) (dCar_i r.b6 h2) (by omega) with e | ⟨m, k, e1, e2, e3, e4⟩ | ⟨m, k, e1, e2, e3, e4⟩
  · rw [e] at z; exact absurd z (by decide)
  · rw [e3] at z
    have := (nI_eq (b := 0) (by omega) (by decide)).mp z
    omega
  · rw [e3] at z
    have := (nI_eq (b := 0) (by omega) (by decide)).mp z
    omega
theorem dMore_b (off lim : Int32) : dMore off lim = 0 ∨ dMore off lim = 1 := by
  unfold dMore
  repeat' split
  all_goals first | exact Or.inl rfl | exact Or.inr rfl
theorem mulL {m : Nat} (hm : m < 6000) {x : Int32} (hx : 0 ≤ x.toInt ∧ x.toInt ≤ 30000) : ((nI m).toInt64 * x.toInt64).toInt = (m : Int) * x.toInt := by
  have e : (m : Int) * x.toInt ≤ 6000 * 30000 := Int.mul_le_mul (by omega) hx.2 hx.1 (by omega)
  have e0 : 0 ≤ (m : Int) * x.toInt := Int.mul_nonneg (by omega) hx.1
  rw [Int64.toInt_mul, Int32.toInt_toInt64, Int32.toInt_toInt64, nI_toInt (by omega), Int.bmod_eq_of_le] <;> omega
/-- the hours told by offIn are enough -/
theorem oEnough {v : CV} {al : Nat → Int32} {h : Nat} (r : RS v al h) {rate : Int32} (h2 : -6695 ≤ rate.toInt ∧ rate.toInt ≤ 6695) (q : dMore (al 5) (al 3) = 0) (z : ¬ mOf rate (al 3) 5001 (al 5) (al 6) 0 < 0) :
    ¬ lg_cmp ((mOf rate (al 3) 5001 (al 5) (al 6) 0).toInt64 * (mSize rate * 36 / 10 + 1).toInt64) (al 3 + 1 - mSize (al 5)).toInt64 < 0 := by
  have a := r.b5
  have b := r.hh
  have s3 := r.s3
  have y1 := mSize_i (x := rate) (by omega)
  have y2 := mSize_i (x := al 5) (by omega)
  have yB : 0 ≤ (mSize rate).toInt ∧ (mSize rate).toInt ≤ 6695 ∧ -(mSize rate).toInt ≤ rate.toInt ∧ rate.toInt ≤ (mSize rate).toInt := by
    rw [y1]; split <;> omega
  have p1 : (mSize rate * 36).toInt = (mSize rate).toInt * 36 := by rw [iM] <;> (rw [show (36 : Int32).toInt = 36 by decide]; try omega)
  have p2 : (mSize rate * 36 / 10).toInt = (mSize rate).toInt * 36 / 10 := by rw [iD10, p1, if_pos (by omega)]
  have p3 : (mSize rate * 36 / 10 + 1).toInt = (mSize rate).toInt * 36 / 10 + 1 := by
    rw [iA] <;> (rw [show (1 : Int32).toInt = 1 by decide, p2]; try omega)
  have l1 : (al 3 + 1).toInt = (al 3).toInt + 1 := by rw [iA] <;> (rw [show (1 : Int32).toInt = 1 by decide]; try omega)
  have l2 : (al 3 + 1 - mSize (al 5)).toInt = (al 3).toInt + 1 - (mSize (al 5)).toInt := by
    rw [iS, l1] <;> (rw [l1, y2]; split <;> omega)
  have far := q
  rw [far_eq (by omega) (by omega)] at far
  have f0 := far0 far (by omega)
  rw [lg_cmp_lt, Int64.lt_iff_toInt_lt, Int32.toInt_toInt64, l2]
  rcases oOf (rate := rate) (lim := al 3) (B := (mSize rate).toInt) h2 ⟨yB.2.2.1, yB.2.2.2⟩ s3 5001 (al 5) (al 6) 0 r.b6 (by omega) with e | ⟨m, k, e1, e2, e3, e4⟩ | ⟨m, k, e1, e2, e3, e4⟩
  · rw [e] at z; exact absurd (by decide) z
  · rw [e3, mulL (by omega) (by rw [p3]; omega), p3, show m = k by omega, y2]
    split <;> omega
  · rw [e3, mulL (by omega) (by rw [p3]; omega), p3, show m = k by omega, y2]
    split <;> omega
-- the least heat
theorem oCo {bare : Int32 → Int32} : ∀ (f : Nat) (h : Int32), h.toInt + (f : Nat) = 51 → -20 ≤ h.toInt → mCo bare f h = -6 ∨ ∃ x : Int32, ¬ zHeat x = 0 ∧ mCo bare f h = x + 100 ∧ bare x ≤ 0
  | 0, _, _, _ => Or.inl rfl
  | f + 1, h, e, h0 => by
    rw [mCo]
    by_cases q : bare h ≤ 0
    · rw [if_pos q]
      refine Or.inr ⟨h, ?_, rfl, q⟩
      unfold zHeat
      rw [if_neg, if_neg]
      · decide
      · rw [Int32.lt_iff_toInt_lt, show (50 : Int32).toInt = 50 by decide]; omega
      · rw [Int32.lt_iff_toInt_lt, show (-20 : Int32).toInt = -20 by decide]; omega
    · rw [if_neg q]
      have h1 : (h + 1).toInt = h.toInt + 1 := by rw [iA] <;> (rw [show (1 : Int32).toInt = 1 by decide]; try omega)
      exact oCo f (h + 1) (by omega) (by omega)
theorem oCool {v : CV} {al : Nat → Int32} {h : Nat} (r : RS v al h) {ar : Int32} (g2 : ¬ zAir ar = 0) : xCool v ar = mCo (fun h => cBare al h ar + al 7) 71 (-20) := by
  rw [sim_cool r, mCool, if_neg g2]
theorem oCool2 {al : Nat → Int32} {ar : Int32} (q : ¬ mCo (fun h => cBare al h ar + al 7) 71 (-20) = -6) : ∃ x : Int32, ¬ zHeat x = 0 ∧ mCo (fun h => cBare al h ar + al 7) 71 (-20) = x + 100 ∧ cBare al x ar + al 7 ≤ 0 :=
  (oCo 71 (-20) (by decide) (by decide)).resolve_left q
theorem oCool3 {x : Int32} (h : -6695 ≤ x.toInt ∧ x.toInt ≤ 6695) (q : x ≤ 0) : ¬ 100000 < x + 100000 := by
  rw [oLe, show (0 : Int32).toInt = 0 by decide] at q
  rw [Int32.lt_iff_toInt_lt, plusE h, show (100000 : Int32).toInt = 100000 by decide]
  omega
-- what the law draws
theorem dHe1 : ∀ k < 71, ¬ zHeat (nI k - 20) = 0 := by decide +kernel
theorem dHe2 : ∀ k < 14, ¬ zHeat (15 + nI k) = 0 := by decide +kernel
theorem dAi1 : ∀ k < 401, ¬ zAir (800 + nI k) = 0 := by decide +kernel
theorem dAi2 : ∀ k < 22, ¬ zAir (990 + nI k) = 0 := by decide +kernel
theorem dAi3 : ∀ k < 401, ¬ zAir (2000 - (800 + nI k)) = 0 := by decide +kernel
theorem dLow : ∀ k < 71, ¬ 40 - (nI k - 20) < -20 := by decide +kernel
theorem dHe3 : ∀ k < 71, 40 - (nI k - 20) ≤ 50 → ¬ zHeat (40 - (nI k - 20)) = 0 := by decide +kernel
theorem dSe1 : ∀ k < 2, ∀ j < 60, ¬ mIsS (nI k) (nI j) = 0 := by decide +kernel
theorem dSe2 : ∀ j < 301, ¬ mIsS (nI 2) (nI j - 150) = 0 := by decide +kernel
theorem dSe3 : ∀ j < 1500, ¬ mIsS (nI 3) (1 + nI j) = 0 := by decide +kernel
theorem dNum1 : ∀ k < 71, (nI k - 20).toInt = (k : Int) - 20 ∧ (40 - (nI k - 20) - 20).toInt = 40 - (k : Int) ∧ (nI k - 20 - 20).toInt = (k : Int) - 40 := by decide +kernel
theorem dNum2 : ∀ k < 401, (800 + nI k - 1000).toInt = (k : Int) - 200 ∧ (2000 - (800 + nI k) - 1000).toInt = 200 - (k : Int) := by decide +kernel
/-- two hours with heat and air as far on either side -/
theorem oTwo {v : CV} {al : Nat → Int32} {h : Nat} (r : RS v al h) {k j : Nat} (hk : k < 71) (hj : j < 401) (hc : 40 - (nI k - 20) ≤ 50) :
    cBare al (nI k - 20) (800 + nI j) + al 7 + 100000 - 100000 + (cBare al (40 - (nI k - 20)) (2000 - (800 + nI j)) + al 7 + 100000) - 100000 = 2 * (al 2 + 1000 - 1000 + al 7) := by
  have a1 := rate_i r (dHe1 k hk) (dAi1 j hj)
  have a2 := rate_i r (dHe3 k hk hc) (dAi3 j hj)
  have b0 := r.s0
  have b1 := r.s1
  have b2 := r.s2
  obtain ⟨t, ht, e7⟩ := r.t7
  have c7 : (al 7).toInt = (t : Int) := by rw [e7, nI_toInt (by omega)]
  obtain ⟨-, n1, n2⟩ := dNum1 k hk
  obtain ⟨n3, n4⟩ := dNum2 j hj
  have m1 := mulB (a := (al 0).toInt) (b := (k : Int) - 40) (A := 99) (B := 40) (by omega) (by omega) (by omega) (by omega)
  have m2 := mulB (a := (al 1).toInt) (b := (j : Int) - 200) (A := 99) (B := 200) (by omega) (by omega) (by omega) (by omega)
  have x1 : (al 0).toInt * (40 - (k : Int)) = -((al 0).toInt * ((k : Int) - 40)) := by rw [show (40 - (k : Int)) = -((k : Int) - 40) by omega, Int.mul_neg]
  have x2 : (al 1).toInt * (200 - (j : Int)) = -((al 1).toInt * ((j : Int) - 200)) := by rw [show (200 - (j : Int)) = -((j : Int) - 200) by omega, Int.mul_neg]
  have p1 : (al 0 * (nI k - 20 - 20)).toInt = (al 0).toInt * ((k : Int) - 40) := by rw [iM] <;> (rw [n2]; try omega)
  have p2 : (al 0 * (40 - (nI k - 20) - 20)).toInt = -((al 0).toInt * ((k : Int) - 40)) := by rw [iM] <;> (rw [n1, x1]; try omega)
  have p3 : (al 1 * (800 + nI j - 1000)).toInt = (al 1).toInt * ((j : Int) - 200) := by rw [iM] <;> (rw [n3]; try omega)
  have p4 : (al 1 * (2000 - (800 + nI j) - 1000)).toInt = -((al 1).toInt * ((j : Int) - 200)) := by rw [iM] <;> (rw [n4, x2]; try omega)
  have d3 := iD10 (a := al 1 * (800 + nI j - 1000))
  have d4 := iD10 (a := al 1 * (2000 - (800 + nI j) - 1000))
  rw [p3] at d3
  rw [p4] at d4
  have dd : (al 1 * (2000 - (800 + nI j) - 1000) / 10).toInt = -(al 1 * (800 + nI j - 1000) / 10).toInt := by
    rw [d3, d4]
    split <;> split <;> omega
  have db : -1980 ≤ (al 1 * (800 + nI j - 1000) / 10).toInt ∧ (al 1 * (800 + nI j - 1000) / 10).toInt ≤ 1980 := by
    rw [d3]; split <;> omega
  have f1 : (al 2 - al 0 * (nI k - 20 - 20)).toInt = (al 2).toInt - (al 0).toInt * ((k : Int) - 40) := by rw [iS, p1] <;> (rw [p1]; omega)
  have f2 : (al 2 - al 0 * (40 - (nI k - 20) - 20)).toInt = (al 2).toInt + (al 0).toInt * ((k : Int) - 40) := by rw [iS, p2] <;> (first | omega | (rw [p2]; omega))
  have g1 : (cBare al (nI k - 20) (800 + nI j)).toInt = (al 2).toInt - (al 0).toInt * ((k : Int) - 40) - (al 1 * (800 + nI j - 1000) / 10).toInt := by
    unfold cBare
    rw [iS, f1] <;> (rw [f1]; omega)
  have g2 : (cBare al (40 - (nI k - 20)) (2000 - (800 + nI j))).toInt = (al 2).toInt + (al 0).toInt * ((k : Int) - 40) + (al 1 * (800 + nI j - 1000) / 10).toInt := by
    unfold cBare
    rw [iS, f2, dd] <;> (first | omega | (rw [f2, dd]; omega))
  have s1 : (cBare al (nI k - 20) (800 + nI j) + al 7).toInt = (cBare al (nI k - 20) (800 + nI j)).toInt + t := by rw [iA, c7] <;> (rw [c7]; omega)
  have s2 : (cBare al (40 - (nI k - 20)) (2000 - (800 + nI j)) + al 7).toInt = (cBare al (40 - (nI k - 20)) (2000 - (800 + nI j))).toInt + t := by rw [iA, c7] <;> (rw [c7]; omega)
  rw [Int32.add_sub_cancel, Int32.add_sub_cancel, ← Int32.add_assoc, Int32.add_sub_cancel]
  apply Int32.toInt_inj.mp
  have u1 : (al 2 + al 7).toInt = (al 2).toInt + t := by rw [iA, c7] <;> (rw [c7]; omega)
  have u2 : (2 * (al 2 + al 7)).toInt = 2 * ((al 2).toInt + t) := by
    rw [iM, u1, show (2 : Int32).toInt = 2 by decide] <;> (rw [u1, show (2 : Int32).toInt = 2 by decide]; omega)
  rw [u2, iA, s1, s2, g1, g2] <;> omega
