/-! p23: what the law's loops rest on -/
/-- behind a step: both clocks stand for one picture -/
def oStp (hh : Nat) (v bv : CV) (kp bkp : Nat) : Prop := ∃ (al : Nat → Int32) (h : Nat), RS v al h ∧ RS bv al h ∧ WI al h ∧ h ≤ hh + 30 ∧ kp ≤ 6 ∧ bkp ≤ 6
theorem oStep1 (al : Nat → Int32) (h k : Nat) (ht ar rd : Int32) : mGoN (mGoN al (min h 48) ht ar rd k) (min (h + k) 48) ht ar rd 1 = mGoN al (min h 48) ht ar rd (k + 1) := by
  show mGo (mGoN al (min h 48) ht ar rd k) (min (h + k) 48) ht ar rd = mGo (mGoN al (min h 48) ht ar rd k) (mLenN (min h 48) k) ht ar rd
  rw [mLenN_min]
theorem oCnt1 (al : Nat → Int32) (h k : Nat) (ht ar rd : Int32) : mCntN al (min h 48) ht ar rd k + mCntN (mGoN al (min h 48) ht ar rd k) (min (h + k) 48) ht ar rd 1 = mCntN al (min h 48) ht ar rd (k + 1) := by
  show _ + (0 + (if mIs (mGoN al (min h 48) ht ar rd k) ht ar rd = 0 then 0 else 1)) = _
  rw [Int32.zero_add]
  rfl
theorem oNew {v : CV} {al : Nat → Int32} {L h k : Nat} {ht ar rd : Int32} (r : RS v (mGoN al L ht ar rd (k + 1)) (h + (k + 1))) : xHour v.2.2.2.1 v.2.2.2.2.1 0 3 = cBare (mGoN al L ht ar rd k) ht ar + mGoN al L ht ar rd k 7 + 100000 := by
  have a := oHour3 r (k := 0) (by omega)
  have b : mGoN al L ht ar rd (k + 1) (11 + 7 * 0 + 3) = cBare (mGoN al L ht ar rd k) ht ar + mGoN al L ht ar rd k 7 := mGo_14 _ _ _ _ _
  rw [b] at a
  exact a
-- isWell
section OW
variable {v : CV} {al : Nat → Int32} {h : Nat}
theorem oCar1 (r : RS v al h) : ¬ al 6 ≤ -1000 := by
  have a := r.b6
  rw [oLe, show (-1000 : Int32).toInt = -1000 by decide]
  omega
theorem oCar2 (r : RS v al h) : ¬ 1000 ≤ al 6 := by
  have a := r.b6
  rw [oLe, show (1000 : Int32).toInt = 1000 by decide]
  omega
theorem oRadH (r : RS v al h) (g : WI al h) : ¬ nI h < al 10 := by
  obtain ⟨⟨x, t, a1, a2, a3, a4, -⟩, -⟩ := g
  have := r.hh
  rw [a1]
  intro q
  have := zLt q (by omega) (by omega)
  omega
theorem oSetR (r : RS v al h) (g : WI al h) : ¬ al 10 < al 8 := by
  obtain ⟨⟨x, t, a1, a2, a3, a4, -⟩, -⟩ := g
  have := r.hh
  rw [a1, a2]
  intro q
  have := zLt q (by omega) (by omega)
  omega
theorem oTr1 (r : RS v al h) : ¬ al 7 < 0 := by
  obtain ⟨t, ht, e⟩ := r.t7
  rw [e]
  exact nI_pos (by omega)
theorem oTr2 (r : RS v al h) : ¬ 256 ≤ al 7 := by
  obtain ⟨t, ht, e⟩ := r.t7
  rw [e]
  intro q
  have := zLe (a := 256) q (by omega) (by omega)
  omega
theorem oMS (r : RS v al h) : mSets al (min h 48) = nI (nHas al 5 (min h 48)) := mSets_n r.fl _ (Nat.le_refl _)
theorem oMR (g : WI al h) : mRad al (min h 48) = nI (nHas al 2 (min h 48)) := mRad_n (fun j hj => (g.2 j hj).2.1) _ (Nat.le_refl _)
theorem oS1 (r : RS v al h) (g : WI al h) : ¬ al 8 < mSets al (min h 48) := by
  rw [oMS r]
  obtain ⟨⟨x, t, a1, a2, a3, a4, a5, a6, a7⟩, -⟩ := g
  have := r.hh
  rw [a2]
  intro q
  have := zLt q (by omega) (by omega)
  omega
theorem oR1 (r : RS v al h) (g : WI al h) : ¬ al 10 < mRad al (min h 48) := by
  rw [oMR g]
  obtain ⟨⟨x, t, a1, a2, a3, a4, a5, a6, a7⟩, -⟩ := g
  have := r.hh
  rw [a1]
  intro q
  have := zLt q (by omega) (by omega)
  omega
theorem oS2 (r : RS v al h) (g : WI al h) (hh : h ≤ 48) : mSets al (min h 48) = al 8 := by
  rw [oMS r]
  obtain ⟨⟨x, t, a1, a2, a3, a4, a5, a6, a7⟩, -⟩ := g
  rw [a2, (a7 hh).2]
theorem oR2 (g : WI al h) (hh : h ≤ 48) : mRad al (min h 48) = al 10 := by
  rw [oMR g]
  obtain ⟨⟨x, t, a1, a2, a3, a4, a5, a6, a7⟩, -⟩ := g
  rw [a1, (a7 hh).1]
end OW
theorem oOth (al : Nat → Int32) {k : Nat} (h : 0 < k) : mOth al (k - 1) + (if al (11 + 7 * k + 6) = al (11 + 7 * (k - 1) + 6) then (0 : Int32) else 1) = mOth al k := by
  obtain ⟨j, rfl⟩ : ∃ j, k = j + 1 := ⟨k - 1, by omega⟩
  rfl
theorem oPred {k : Nat} (h : 0 < k) : nI k - 1 = nI (k - 1) := by
  obtain ⟨j, rfl⟩ : ∃ j, k = j + 1 := ⟨k - 1, by omega⟩
  rw [nI_pred]
  rfl
theorem oPos {k : Nat} (h : ¬ nI k ≤ 0) : 0 < k := by
  rcases Nat.eq_zero_or_pos k with q | q
  · exact absurd (by rw [q]; decide) h
  · exact q
theorem oZer {k : Nat} (h : nI k ≤ 0) (hk : k < 2 ^ 31) : k = 0 := by
  have := zLe (b := 0) h hk (by decide)
  omega
theorem oNz {k : Nat} (h : ¬ nI k = 0) : 0 < k := by
  rcases Nat.eq_zero_or_pos k with q | q
  · exact absurd (by rw [q]; rfl) h
  · exact q
