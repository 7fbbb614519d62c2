/-! the histories and slots related -/
def RH (kp : Nat) (Y : HV) (hs : Nat → Int32) (hq : Nat) : Prop := kp = hq ∧ hq ≤ 6 ∧ ∀ j, j < hq → ∃ h, RS (Y j).2 (fun k => hs (347 * (hq - 1 - j) + k)) h
theorem mPut_in {f g : Nat → Int32} {a n j : Nat} (h1 : a ≤ j) (h2 : j < a + n) : mPut f g a n j = f (j - a) := if_pos ⟨h1, h2⟩
theorem mPut_out {f g : Nat → Int32} {a n j : Nat} (h : j < a ∨ a + n ≤ j) : mPut f g a n j = g j := if_neg (fun q => by omega)
theorem sim_rec {kp hq : Nat} {Y : HV} {hs : Nat → Int32} (q : RH kp Y hs hq) {v : CV} {al : Nat → Int32} {h : Nat} (r : RS v al h) : RH (hKp kp) (hRec Y v) (mHs hs al hq) (mHq hq) := by
  obtain ⟨rfl, q6, qr⟩ := q
  have e1 : hKp kp = mHq kp := by
    unfold hKp mHq
    by_cases z : kp = 6
    · rw [if_pos z, if_neg (by omega)]
    · rw [if_neg z, if_pos (by omega)]
  refine ⟨e1, by unfold mHq; split <;> omega, ?_⟩
  intro j hj
  unfold mHq mHs at *
  by_cases z : kp = 6
  · rw [if_pos z] at hj ⊢
    rw [if_pos z]
    cases j with
    | zero =>
      refine ⟨h, RS_cg (RS_bec r _) (fun k hk => ?_)⟩
      show mPut al (mDrop hs 1735) (347 * 5) 347 (347 * 5 + k) = al k
      rw [mPut_in (by omega) (by omega)]
      exact congrArg al (by omega)
    | succ j =>
      obtain ⟨h2, r2⟩ := qr j (by omega)
      refine ⟨h2, RS_cg r2 (fun k hk => ?_)⟩
      show mPut al (mDrop hs 1735) (347 * 5) 347 (347 * (6 - 1 - (j + 1)) + k) = hs (347 * (kp - 1 - j) + k)
      rw [mPut_out (by omega)]
      unfold mDrop
      rw [if_pos (by omega)]
      congr 1
      omega
  · rw [if_neg z] at hj ⊢
    rw [if_neg z]
    cases j with
    | zero =>
      refine ⟨h, RS_cg (RS_bec r _) (fun k hk => ?_)⟩
      show mPut al hs (347 * kp) 347 (347 * (kp + 1 - 1 - 0) + k) = al k
      rw [mPut_in (by omega) (by omega)]
      exact congrArg al (by omega)
    | succ j =>
      obtain ⟨h2, r2⟩ := qr j (by omega)
      refine ⟨h2, RS_cg r2 (fun k hk => ?_)⟩
      show mPut al hs (347 * kp) 347 (347 * (kp + 1 - 1 - (j + 1)) + k) = hs (347 * (kp - 1 - j) + k)
      rw [mPut_out (by omega)]
      congr 1
      omega
theorem sim_tak {kp : Nat} {Y : HV} {hs al : Nat → Int32} (q : RH (kp + 1) Y hs (kp + 1)) (v : CV) : RH kp (hTak Y) hs kp ∧ ∃ h, RS (cBec v (Y 0).2) (mPut (fun j => hs (347 * kp + j)) al 0 347) h := by
  obtain ⟨-, q6, qr⟩ := q
  refine ⟨⟨rfl, by omega, fun j hj => ?_⟩, ?_⟩
  · obtain ⟨h2, r2⟩ := qr (j + 1) (by omega)
    refine ⟨h2, ?_⟩
    have e : hTak Y j = Y (j + 1) := if_neg (by omega)
    rw [e]
    refine RS_cg r2 (fun k hk => ?_)
    show hs (347 * (kp - 1 - j) + k) = hs (347 * (kp + 1 - 1 - (j + 1)) + k)
    congr 1
    omega
  · obtain ⟨h2, r2⟩ := qr 0 (by omega)
    refine ⟨h2, RS_bec (RS_cg r2 (fun k hk => ?_)) v⟩
    rw [mPut_in (by omega) (by omega)]
    show hs (347 * kp + (k - 0)) = hs (347 * (kp + 1 - 1 - 0) + k)
    congr 1
/-- a slot -/
def RSl (f : Int32) (u : CV) (sl sa : Nat → Int32) (k : Nat) : Prop := f = sa k ∧ (¬ f = 0 → ∃ h, RS u (fun j => sl (347 * k + j)) h)
