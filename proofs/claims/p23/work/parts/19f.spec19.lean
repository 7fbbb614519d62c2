/-! the changes related: the answer, whether it is one, the state -/
theorem mIsS_i {k x : Int32} (h : ¬ mIsS k x = 0) : (k = 0 ∧ 0 ≤ x.toInt ∧ x.toInt ≤ 99) ∨ (k = 1 ∧ 0 ≤ x.toInt ∧ x.toInt ≤ 99) ∨ (k = 2 ∧ -500 ≤ x.toInt ∧ x.toInt ≤ 500) ∨ (k = 3 ∧ 1 ≤ x.toInt ∧ x.toInt ≤ 5000) := by
  unfold mIsS at h
  by_cases h0 : k = 0
  · rw [if_pos h0] at h; exact Or.inl ⟨h0, rng_i h⟩
  rw [if_neg h0] at h
  by_cases h1 : k = 1
  · rw [if_pos h1] at h; exact Or.inr (Or.inl ⟨h1, rng_i h⟩)
  rw [if_neg h1] at h
  by_cases h2 : k = 2
  · rw [if_pos h2] at h; exact Or.inr (Or.inr (Or.inl ⟨h2, rng_i h⟩))
  rw [if_neg h2] at h
  by_cases h3 : k = 3
  · rw [if_pos h3] at h
    by_cases g : mRng x 1 5000 = 0
    · rw [if_pos g] at h; exact absurd rfl h
    · exact Or.inr (Or.inr (Or.inr ⟨h3, rng_i g⟩))
  rw [if_neg h3] at h
  exact absurd rfl h
theorem nneg {x : Int32} (h : 0 ≤ x.toInt) : ¬ x < 0 := by
  rw [Int32.lt_iff_toInt_lt, show (0 : Int32).toInt = 0 by decide]
  omega
theorem plusK {x : Int32} (h1 : -500 ≤ x.toInt) (h2 : x.toInt ≤ 5000) : ¬ x + 1000 < 0 := by
  apply nneg
  rw [iA] <;> (rw [show (1000 : Int32).toInt = 1000 by decide]; omega)
theorem sim_set {v : CV} {al : Nat → Int32} {h : Nat} (r : RS v al h) (k x : Int32) :
    (if cErrS k x = 0 then cSet v.1 k + 1000 else cErrS k x) = mSetR al k x ∧ (cErrS k x = 0 ↔ ¬ mSetR al k x < 0) ∧ RS (if cErrS k x = 0 then (cChg v.1 k x, v.2) else v) (mSetA al k x) h := by
  rw [cErrS_eq]
  unfold mSetR mSetA
  by_cases g : mIsS k x = 0
  · rw [if_pos g, if_pos g, if_pos g, if_neg (by decide), if_neg (by decide)]
    exact ⟨rfl, by decide, r⟩
  · rw [if_neg g, if_neg g, if_neg g, if_pos rfl, if_pos rfl]
    have a0 := r.s0
    have a1 := r.s1
    have a2 := r.s2
    have a3 := r.s3
    rcases mIsS_i g with ⟨rfl, b⟩ | ⟨rfl, b⟩ | ⟨rfl, b⟩ | ⟨rfl, b⟩
    · refine ⟨congrArg (· + 1000) (r.st 0 (by decide)), ⟨fun _ => plusK (x := al 0) (by omega) (by omega), fun _ => rfl⟩, ?_⟩
      exact RS_st r (k := 0) (by decide) b a1 a2 a3
    · refine ⟨congrArg (· + 1000) (r.st 1 (by decide)), ⟨fun _ => plusK (x := al 1) (by omega) (by omega), fun _ => rfl⟩, ?_⟩
      exact RS_st r (k := 1) (by decide) a0 b a2 a3
    · refine ⟨congrArg (· + 1000) (r.st 2 (by decide)), ⟨fun _ => plusK (x := al 2) (by omega) (by omega), fun _ => rfl⟩, ?_⟩
      exact RS_st r (k := 2) (by decide) a0 a1 b a3
    · refine ⟨congrArg (· + 1000) (r.st 3 (by decide)), ⟨fun _ => plusK (x := al 3) (by omega) (by omega), fun _ => rfl⟩, ?_⟩
      exact RS_st r (k := 3) (by decide) a0 a1 a2 b
/-- another tray -/
theorem RS_tr {v : CV} {al : Nat → Int32} {h : Nat} (r : RS v al h) {t : Nat} (ht : t < 256) : RS (xTr v (nI t)) (upd al 7 (nI t)) h := by
  have n : ∀ j, j ≠ 7 → upd al 7 (nI t) j = al j := fun j hj => updN hj
  refine ⟨r.hh, ?_, ?_, ?_, r.wr, ?_, r.ho, ?_, ?_, ?_, ?_, ?_, ?_, r.s0, r.s1, r.s2, r.s3, ⟨t, ht, updS⟩, r.b6, r.b5⟩
  · intro j hj
    rw [n j (by omega)]; exact r.st j hj
  · rw [n 5 (by decide)]; exact r.off
  · rw [n 6 (by decide)]; exact r.car
  · exact updS.symm
  · rw [n 4 (by decide)]; exact r.ho4
  · rw [n 10 (by decide)]; exact r.ra
  · rw [n 8 (by decide)]; exact r.ti
  · rw [n 9 (by decide)]; exact r.n9
  · intro j w hj hw
    rw [n _ (by omega)]; exact r.lg j w hj hw
  · intro j hj
    rw [n _ (by omega)]; exact r.fl j hj
theorem mvP : ∀ w < 8, ∀ t < 256, cMvT (nI t) (nI w) = nI (cMvT (nI t) (nI w)).toNatClampNeg ∧ (cMvT (nI t) (nI w)).toNatClampNeg < 256 ∧ ¬ cMvR (nI t) (nI w) < 0 := by decide +kernel
theorem sim_wt {v : CV} {al : Nat → Int32} {h : Nat} (r : RS v al h) (w : Int32) :
    (if cErrW w = 0 then cMvR (vTr v) w else cErrW w) = mWtR al w ∧ (cErrW w = 0 ↔ ¬ mWtR al w < 0) ∧ RS (if cErrW w = 0 then xTr v (cMvT (vTr v) w) else v) (mWtA al w) h := by
  rw [cErrW_eq]
  unfold mWtR mWtA
  have et : vTr v = al 7 := r.tr
  by_cases g : mRng w 0 7 = 0
  · rw [if_pos g, if_pos g, if_pos g, if_neg (by decide), if_neg (by decide)]
    exact ⟨rfl, by decide, r⟩
  · rw [if_neg g, if_neg g, if_neg g, if_pos rfl, if_pos rfl, et]
    obtain ⟨a, b, c⟩ := zRange (lo := 0) (hi := 7) (by decide) (by decide) g
    obtain ⟨t, ht, e7⟩ := r.t7
    obtain ⟨p1, p2, p3⟩ := mvP w.toNatClampNeg (by omega) t ht
    rw [← a, ← e7] at p1 p2 p3
    refine ⟨rfl, ⟨fun _ => p3, fun _ => rfl⟩, ?_⟩
    rw [p1]
    exact RS_tr r p2
