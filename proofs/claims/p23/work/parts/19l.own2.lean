/-! p23: the answers, told by the shared picture -/
theorem oc0 {v : CV} {al : Nat → Int32} {h : Nat} (r : RS v al h) (p k : Nat) : xCount v p k 0 = nI h := by
  rw [sim_count r, mCount, if_pos rfl]; exact r.ho4
theorem oc1 {v : CV} {al : Nat → Int32} {h : Nat} (r : RS v al h) (p k : Nat) : xCount v p k 1 = al 5 + 1000000000 := by
  rw [sim_count r, mCount, if_neg (by decide), if_pos rfl]
theorem oc2 {v : CV} {al : Nat → Int32} {h : Nat} (r : RS v al h) (p k : Nat) : xCount v p k 2 = al 6 + 1000 := by
  rw [sim_count r, mCount, if_neg (by decide), if_neg (by decide), if_pos rfl]
theorem oc3 {v : CV} {al : Nat → Int32} {h : Nat} (r : RS v al h) (p k : Nat) : xCount v p k 3 = al 7 := by
  rw [sim_count r, mCount, if_neg (by decide), if_neg (by decide), if_neg (by decide), if_pos rfl]
theorem oc4 {v : CV} {al : Nat → Int32} {h : Nat} (r : RS v al h) (p k : Nat) : xCount v p k 4 = al 8 := by
  rw [sim_count r, mCount, if_neg (by decide), if_neg (by decide), if_neg (by decide), if_neg (by decide), if_pos rfl]
theorem oc5 {v : CV} {al : Nat → Int32} {h : Nat} (r : RS v al h) (p k : Nat) : xCount v p k 5 = nI (min h 48) := by
  rw [sim_count r, mCount, if_neg (by decide), if_neg (by decide), if_neg (by decide), if_neg (by decide), if_neg (by decide), if_pos rfl]; exact r.n9
theorem oc6 {v : CV} {al : Nat → Int32} {h : Nat} (r : RS v al h) (p k : Nat) : xCount v p k 6 = al 10 := by
  rw [sim_count r, mCount, if_neg (by decide), if_neg (by decide), if_neg (by decide), if_neg (by decide), if_neg (by decide), if_neg (by decide), if_pos rfl]
theorem ocS {v : CV} {al : Nat → Int32} {h : Nat} (r : RS v al h) (p k : Nat) {j : Nat} (hj : j < 4) : xCount v p k (7 + nI j) = al j + 1000 := by
  rw [sim_count r]
  rcases (show j = 0 ∨ j = 1 ∨ j = 2 ∨ j = 3 by omega) with q | q | q | q <;> subst q
  · rw [show (7 : Int32) + nI 0 = 7 by decide, mCount, if_neg (by decide), if_neg (by decide), if_neg (by decide), if_neg (by decide), if_neg (by decide), if_neg (by decide), if_neg (by decide), if_pos rfl]
  · rw [show (7 : Int32) + nI 1 = 8 by decide, mCount, if_neg (by decide), if_neg (by decide), if_neg (by decide), if_neg (by decide), if_neg (by decide), if_neg (by decide), if_neg (by decide), if_neg (by decide), if_pos rfl]
  · rw [show (7 : Int32) + nI 2 = 9 by decide, mCount, if_neg (by decide), if_neg (by decide), if_neg (by decide), if_neg (by decide), if_neg (by decide), if_neg (by decide), if_neg (by decide), if_neg (by decide), if_neg (by decide), if_pos rfl]
  · rw [show (7 : Int32) + nI 3 = 10 by decide, mCount, if_neg (by decide), if_neg (by decide), if_neg (by decide), if_neg (by decide), if_neg (by decide), if_neg (by decide), if_neg (by decide), if_neg (by decide), if_neg (by decide), if_neg (by decide), if_pos rfl]
theorem oc9 {v : CV} {al : Nat → Int32} {h : Nat} (r : RS v al h) (p k : Nat) : xCount v p k 9 = al 2 + 1000 := (congrArg (xCount v p k) (show (9 : Int32) = 7 + nI 2 by decide)).trans (ocS r p k (j := 2) (by decide))
theorem oc10 {v : CV} {al : Nat → Int32} {h : Nat} (r : RS v al h) (p k : Nat) : xCount v p k 10 = al 3 + 1000 := (congrArg (xCount v p k) (show (10 : Int32) = 7 + nI 3 by decide)).trans (ocS r p k (j := 3) (by decide))
/-- the counts that both clocks tell alike -/
theorem ocN {v : CV} {al : Nat → Int32} {h : Nat} (r : RS v al h) (p k : Nat) {j : Nat} (hj : j < 11) : xCount v p k (nI j) = mCount al 0 0 (nI j) := by
  rw [sim_count r]
  unfold mCount
  have e1 : ¬ nI j = 11 := fun q => by have := (nI_eq (b := 11) (by omega) (by decide)).mp q; omega
  have e2 : ¬ nI j = 12 := fun q => by have := (nI_eq (b := 12) (by omega) (by decide)).mp q; omega
  rw [if_neg e1, if_neg e2, if_neg e1, if_neg e2]
theorem oFalse {a b : Int32} (h : ¬ a = b) (e : a = b) : False := h e
-- changes
theorem oErrH {v : CV} {al : Nat → Int32} {h : Nat} (r : RS v al h) {ht ar rd : Int32} {n : Nat} (g1 : ¬ zHeat ht = 0) (g2 : ¬ zAir ar = 0) (hrd : rd = 0 ∨ rd = 1) (h1 : 1 ≤ n) (h2 : n ≤ 99) (hh : h + n ≤ 9999) : cErrH (vHo v) ht ar rd (nI n) = 0 := by
  have eh : vHo v = nI h := r.ho
  have e1 : ¬ rd < 0 := by rcases hrd with e | e <;> rw [e] <;> decide
  have e2 : ¬ 1 < rd := by rcases hrd with e | e <;> rw [e] <;> decide
  have e3 : ¬ nI n < 1 := fun q => by have := zLt (b := 1) q (by omega) (by omega); omega
  have e4 : ¬ 99 < nI n := fun q => by have := zLt (a := 99) q (by omega) (by omega); omega
  have e5 : ¬ 9999 < nI h + nI n := fun q => by rw [nI_add] at q; have := zLt (a := 9999) q (by omega) (by omega); omega
  unfold cErrH
  rw [if_neg g1, if_neg g2, eh, if_neg e1, if_neg e2, if_neg e3, if_neg e4, if_neg e5]
theorem oPass {v : CV} {al : Nat → Int32} {h : Nat} (r : RS v al h) {ht ar rd : Int32} {n : Nat} (g1 : ¬ zHeat ht = 0) (g2 : ¬ zAir ar = 0) (hrd : rd = 0 ∨ rd = 1) (h1 : 1 ≤ n) (h2 : n ≤ 99) (hh : h + n ≤ 9999) :
    (if cErrH (vHo v) ht ar rd (nI n) = 0 then vTi (cGoN v ht ar rd (nI n).toNatClampNeg) - vTi v else cErrH (vHo v) ht ar rd (nI n)) = mCntN al (min h 48) ht ar rd n ∧ RS (if cErrH (vHo v) ht ar rd (nI n) = 0 then cGoN v ht ar rd (nI n).toNatClampNeg else v) (mGoN al (min h 48) ht ar rd n) (h + n) := by
  have e := oErrH r g1 g2 hrd h1 h2 hh
  rw [if_pos e, if_pos e, nI_clamp (by omega)]
  obtain ⟨a, b⟩ := RS_goN r (rd := rd) g1 g2 n hh
  exact ⟨by rw [b, Int32.add_comm, Int32.add_sub_cancel], a⟩
theorem oKp {E : Int32} {kp : Nat} (h : kp ≤ 6) : (if E = 0 then hKp kp else kp) ≤ 6 := by
  unfold hKp
  repeat' split
  all_goals omega
theorem oKz {kp : Nat} (h : kp ≤ 6) : hKp kp ≤ 6 := by
  unfold hKp
  split <;> omega
theorem wRng : ∀ k < 8, ¬ mRng (nI k) 0 7 = 0 := by decide +kernel
theorem oWt {v : CV} {al : Nat → Int32} {h : Nat} (r : RS v al h) {k : Nat} (hk : k < 8) :
    (if cErrW (nI k) = 0 then cMvR (vTr v) (nI k) else cErrW (nI k)) = cMvR (al 7) (nI k) ∧ RS (if cErrW (nI k) = 0 then xTr v (cMvT (vTr v) (nI k)) else v) (upd al 7 (cMvT (al 7) (nI k))) h := by
  obtain ⟨a, -, b⟩ := sim_wt r (nI k)
  have g := wRng k hk
  unfold mWtR at a
  unfold mWtA at b
  rw [if_neg g] at a b
  exact ⟨a, b⟩
theorem mv2 (t w : Int32) : cMvT (cMvT t w) w = t := by
  unfold cMvT
  rw [Int32.xor_assoc, Int32.xor_self, Int32.xor_zero]
theorem updBack (al : Nat → Int32) (w : Int32) : upd (upd al 7 (cMvT (al 7) w)) 7 (cMvT ((upd al 7 (cMvT (al 7) w)) 7) w) = al := by
  funext j
  by_cases q : j = 7
  · subst q
    rw [updS, updS, mv2]
  · rw [updN q, updN q]
theorem mvSum : ∀ w < 8, ∀ t < 256, cMvR (nI t) (nI w) + cMvR (cMvT (nI t) (nI w)) (nI w) = 1 := by decide +kernel
theorem oSum {v : CV} {al : Nat → Int32} {h : Nat} (r : RS v al h) {w : Nat} (hw : w < 8) : cMvR (al 7) (nI w) + cMvR ((upd al 7 (cMvT (al 7) (nI w))) 7) (nI w) = 1 := by
  obtain ⟨t, ht, e⟩ := r.t7
  rw [updS, e]
  exact mvSum w hw t ht
theorem oSet {v : CV} {al : Nat → Int32} {h : Nat} (r : RS v al h) {k : Nat} (hk : k < 4) {x : Int32} (hx : ¬ mIsS (nI k) x = 0) :
    (if cErrS (nI k) x = 0 then cSet v.1 (nI k) + 1000 else cErrS (nI k) x) = al k + 1000 ∧ RS (if cErrS (nI k) x = 0 then (cChg v.1 (nI k) x, v.2) else v) (upd al k x) h := by
  obtain ⟨a, -, b⟩ := sim_set r (nI k) x
  unfold mSetR at a
  unfold mSetA at b
  rw [if_neg hx, nI_clamp (by omega)] at a b
  exact ⟨a, b⟩
theorem oRate {v : CV} {al : Nat → Int32} {h : Nat} (r : RS v al h) {ht ar : Int32} (g1 : ¬ zHeat ht = 0) (g2 : ¬ zAir ar = 0) : xRate v.1 (vTr v) ht ar = cBare al ht ar + al 7 + 100000 := by
  rw [sim_rate r, mRate, if_neg g1, if_neg g2]
theorem oAgo {k L : Nat} (hk : k < L) (hL : L ≤ 48) : ¬ mRng (nI k) 0 (nI L - 1) = 0 := by
  obtain ⟨n, rfl⟩ : ∃ n, L = n + 1 := ⟨L - 1, by omega⟩
  rw [nI_pred]
  unfold mRng
  rw [if_neg (nI_pos (by omega)), if_neg (fun q => by have := zLt q (by omega) (by omega); omega)]
  decide
theorem oHour {v : CV} {al : Nat → Int32} {h : Nat} (r : RS v al h) {k w : Nat} (hk : k < min h 48) (hw : w < 7) : xHour v.2.2.2.1 v.2.2.2.2.1 (nI k) (nI w) = al (11 + 7 * k + w) + (if nI w = 0 then 100 else if nI w = 3 then 100000 else if nI w = 4 then 1000000000 else 0) := by
  have e6 : ∀ w < 7, ¬ mRng (nI w) 0 6 = 0 := by decide +kernel
  rw [sim_hour r, mHour, if_neg (oAgo hk (by omega)), if_neg (e6 w hw), nI_clamp (by omega), nI_clamp (by omega)]
theorem oHour2 {v : CV} {al : Nat → Int32} {h : Nat} (r : RS v al h) {k : Nat} (hk : k < min h 48) : xHour v.2.2.2.1 v.2.2.2.2.1 (nI k) 2 = al (11 + 7 * k + 2) := (oHour r hk (w := 2) (by decide)).trans (Int32.add_zero _)
theorem oHour3 {v : CV} {al : Nat → Int32} {h : Nat} (r : RS v al h) {k : Nat} (hk : k < min h 48) : xHour v.2.2.2.1 v.2.2.2.2.1 (nI k) 3 = al (11 + 7 * k + 3) + 100000 := oHour r hk (w := 3) (by decide)
theorem oHour4 {v : CV} {al : Nat → Int32} {h : Nat} (r : RS v al h) {k : Nat} (hk : k < min h 48) : xHour v.2.2.2.1 v.2.2.2.2.1 (nI k) 4 = al (11 + 7 * k + 4) + 1000000000 := oHour r hk (w := 4) (by decide)
theorem oHour5 {v : CV} {al : Nat → Int32} {h : Nat} (r : RS v al h) {k : Nat} (hk : k < min h 48) : xHour v.2.2.2.1 v.2.2.2.2.1 (nI k) 5 = al (11 + 7 * k + 5) := (oHour r hk (w := 5) (by decide)).trans (Int32.add_zero _)
theorem oHour6 {v : CV} {al : Nat → Int32} {h : Nat} (r : RS v al h) {k : Nat} (hk : k < min h 48) : xHour v.2.2.2.1 v.2.2.2.2.1 (nI k) 6 = al (11 + 7 * k + 6) := (oHour r hk (w := 6) (by decide)).trans (Int32.add_zero _)
theorem oHourA {v : CV} {al : Nat → Int32} {h : Nat} (r : RS v al h) (ago what : Int32) : xHour v.2.2.2.1 v.2.2.2.2.1 ago what = mHour al (min h 48) ago what := sim_hour r ago what
/-- the rate of the newest hour -/
theorem mGo_14 (al : Nat → Int32) (L : Nat) (ht ar rd : Int32) : mGo al L ht ar rd (11 + 7 * 0 + 3) = cBare al ht ar + al 7 := by
  unfold mGo
  split
  · exact (mG_0 _ _ _ _ _ _ _ _).2.1
  · exact (mG_0 _ _ _ _ _ _ _ _).2.1
/-- no setting without the radio -/
theorem mCnt_no (al : Nat → Int32) (L : Nat) {ht ar rd : Int32} (h : ¬ rd = 1) : ∀ n, mCntN al L ht ar rd n = 0
  | 0 => rfl
  | n + 1 => by
    rw [mCntN, mCnt_no al L h n, Int32.zero_add, if_pos]
    unfold mIs
    rw [if_neg h]
-- the log
theorem oLog0 {v : CV} {al : Nat → Int32} {h : Nat} (r : RS v al h) (hp : 0 < min h 48) : xOfLog v.2.2.2.1 v.2.2.2.2.1 (min h 48) 0 = mMax al (min h 48 - 1) + 100000 := by
  have z : ¬ al 9 = 0 := by rw [r.n9]; exact nI_ne0 hp (by omega)
  rw [sim_ofLog r, mOfLog, if_neg (by decide), if_neg z, if_pos rfl]
theorem oLog1 {v : CV} {al : Nat → Int32} {h : Nat} (r : RS v al h) (hp : 0 < min h 48) : xOfLog v.2.2.2.1 v.2.2.2.2.1 (min h 48) 1 = mMin al (min h 48 - 1) + 100000 := by
  have z : ¬ al 9 = 0 := by rw [r.n9]; exact nI_ne0 hp (by omega)
  rw [sim_ofLog r, mOfLog, if_neg (by decide), if_neg z, if_neg (by decide), if_pos rfl]
theorem oLog2 {v : CV} {al : Nat → Int32} {h : Nat} (r : RS v al h) (hp : 0 < min h 48) : xOfLog v.2.2.2.1 v.2.2.2.2.1 (min h 48) 2 = mFast al (min h 48) := by
  have z : ¬ al 9 = 0 := by rw [r.n9]; exact nI_ne0 hp (by omega)
  rw [sim_ofLog r, mOfLog, if_neg (by decide), if_neg z, if_neg (by decide), if_neg (by decide), if_pos rfl]
theorem oLog3 {v : CV} {al : Nat → Int32} {h : Nat} (r : RS v al h) (hp : 0 < min h 48) : xOfLog v.2.2.2.1 v.2.2.2.2.1 (min h 48) 3 = mSets al (min h 48) := by
  have z : ¬ al 9 = 0 := by rw [r.n9]; exact nI_ne0 hp (by omega)
  rw [sim_ofLog r, mOfLog, if_neg (by decide), if_neg z, if_neg (by decide), if_neg (by decide), if_neg (by decide), if_pos rfl]
theorem oLog4 {v : CV} {al : Nat → Int32} {h : Nat} (r : RS v al h) (hp : 0 < min h 48) : xOfLog v.2.2.2.1 v.2.2.2.2.1 (min h 48) 4 = mOth al (min h 48 - 1) := by
  have z : ¬ al 9 = 0 := by rw [r.n9]; exact nI_ne0 hp (by omega)
  rw [sim_ofLog r, mOfLog, if_neg (by decide), if_neg z, if_neg (by decide), if_neg (by decide), if_neg (by decide), if_neg (by decide)]
theorem oLogN {v : CV} {al : Nat → Int32} {h : Nat} (r : RS v al h) (hp : min h 48 = 0) : xOfLog v.2.2.2.1 v.2.2.2.2.1 (min h 48) 2 = -6 := by
  have z : al 9 = 0 := by rw [r.n9, hp]; rfl
  rw [sim_ofLog r, mOfLog, if_neg (by decide), if_pos z]
theorem zMax_i {x y : Int32} : x.toInt ≤ (zMax x y).toInt ∧ y.toInt ≤ (zMax x y).toInt ∧ (zMax x y = x ∨ zMax x y = y) := by
  unfold zMax
  have e := Int32.lt_iff_toInt_lt (x := x) (y := y)
  by_cases q : x < y
  · rw [if_pos q]
    have := e.mp q
    exact ⟨by omega, by omega, Or.inr rfl⟩
  · rw [if_neg q]
    have := mt e.mpr q
    exact ⟨by omega, by omega, Or.inl rfl⟩
theorem zMin_i {x y : Int32} : (zMin x y).toInt ≤ x.toInt ∧ (zMin x y).toInt ≤ y.toInt ∧ (zMin x y = x ∨ zMin x y = y) := by
  unfold zMin
  have e := Int32.lt_iff_toInt_lt (x := y) (y := x)
  by_cases q : y < x
  · rw [if_pos q]
    have := e.mp q
    exact ⟨by omega, by omega, Or.inr rfl⟩
  · rw [if_neg q]
    have := mt e.mpr q
    exact ⟨by omega, by omega, Or.inl rfl⟩
theorem mMax_i {al : Nat → Int32} : ∀ n, (∀ j, j ≤ n → (al (11 + 7 * j + 3)).toInt ≤ (mMax al n).toInt) ∧ ∃ j, j ≤ n ∧ mMax al n = al (11 + 7 * j + 3)
  | 0 => ⟨fun j hj => by rw [show j = 0 by omega]; exact Int.le_refl _, 0, Nat.le_refl _, rfl⟩
  | n + 1 => by
    obtain ⟨a, j, hj, e⟩ := mMax_i (al := al) n
    obtain ⟨z1, z2, z3⟩ := zMax_i (x := mMax al n) (y := al (11 + 7 * (n + 1) + 3))
    refine ⟨fun k hk => ?_, ?_⟩
    · show _ ≤ (zMax (mMax al n) (al (11 + 7 * (n + 1) + 3))).toInt
      rcases Nat.lt_or_ge k (n + 1) with q | q
      · have := a k (by omega)
        omega
      · rw [show k = n + 1 by omega]; exact z2
    · rcases z3 with q | q
      · exact ⟨j, by omega, (show mMax al (n + 1) = _ from q).trans e⟩
      · exact ⟨n + 1, Nat.le_refl _, q⟩
theorem mMin_i {al : Nat → Int32} : ∀ n, (∀ j, j ≤ n → (mMin al n).toInt ≤ (al (11 + 7 * j + 3)).toInt) ∧ ∃ j, j ≤ n ∧ mMin al n = al (11 + 7 * j + 3)
  | 0 => ⟨fun j hj => by rw [show j = 0 by omega]; exact Int.le_refl _, 0, Nat.le_refl _, rfl⟩
  | n + 1 => by
    obtain ⟨a, j, hj, e⟩ := mMin_i (al := al) n
    obtain ⟨z1, z2, z3⟩ := zMin_i (x := mMin al n) (y := al (11 + 7 * (n + 1) + 3))
    refine ⟨fun k hk => ?_, ?_⟩
    · show (zMin (mMin al n) (al (11 + 7 * (n + 1) + 3))).toInt ≤ _
      rcases Nat.lt_or_ge k (n + 1) with q | q
      · have := a k (by omega)
        omega
      · rw [show k = n + 1 by omega]; exact z2
    · rcases z3 with q | q
      · exact ⟨j, by omega, (show mMin al (n + 1) = _ from q).trans e⟩
      · exact ⟨n + 1, Nat.le_refl _, q⟩
theorem plusE {x : Int32} (h : -6695 ≤ x.toInt ∧ x.toInt ≤ 6695) : (x + 100000).toInt = x.toInt + 100000 := by
  rw [iA] <;> (rw [show (100000 : Int32).toInt = 100000 by decide]; try omega)
/-- a rate of the log is no greater than the greatest -/
theorem oMaxN {al : Nat → Int32} {h k : Nat} (g : WI al h) (hk : k < min h 48) : ¬ mMax al (min h 48 - 1) + 100000 < al (11 + 7 * k + 3) + 100000 := by
  obtain ⟨a, j, hj, e⟩ := mMax_i (al := al) (min h 48 - 1)
  have b := a k (by omega)
  have c := (g.2 k hk).1
  have d := (g.2 j (by omega)).1
  rw [Int32.lt_iff_toInt_lt, plusE c, plusE (by rw [e]; exact d)]
  omega
theorem oMinN {al : Nat → Int32} {h k : Nat} (g : WI al h) (hk : k < min h 48) : ¬ al (11 + 7 * k + 3) + 100000 < mMin al (min h 48 - 1) + 100000 := by
  obtain ⟨a, j, hj, e⟩ := mMin_i (al := al) (min h 48 - 1)
  have b := a k (by omega)
  have c := (g.2 k hk).1
  have d := (g.2 j (by omega)).1
  rw [Int32.lt_iff_toInt_lt, plusE c, plusE (by rw [e]; exact d)]
  omega
