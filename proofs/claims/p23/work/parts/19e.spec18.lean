/-! settings, weights and zero related -/
theorem RS_st {v : CV} {al : Nat → Int32} {h : Nat} (r : RS v al h) {k : Nat} (hk : k < 4) {x : Int32}
    (h0 : 0 ≤ (upd al k x 0).toInt ∧ (upd al k x 0).toInt ≤ 99) (h1 : 0 ≤ (upd al k x 1).toInt ∧ (upd al k x 1).toInt ≤ 99) (h2 : -500 ≤ (upd al k x 2).toInt ∧ (upd al k x 2).toInt ≤ 500) (h3 : 1 ≤ (upd al k x 3).toInt ∧ (upd al k x 3).toInt ≤ 5000) : RS (upd v.1 k x, v.2) (upd al k x) h := by
  have n : ∀ j, 4 ≤ j → upd al k x j = al j := fun j hj => updN (by omega)
  refine ⟨r.hh, ?_, ?_, ?_, r.wr, ?_, r.ho, ?_, ?_, ?_, ?_, ?_, ?_, h0, h1, h2, h3, ?_, ?_, ?_⟩
  · intro j hj
    show upd v.1 k x j = upd al k x j
    unfold upd
    split
    · rfl
    · exact r.st j hj
  · rw [n 5 (by decide)]; exact r.off
  · rw [n 6 (by decide)]; exact r.car
  · rw [n 7 (by decide)]; exact r.tr
  · rw [n 4 (by decide)]; exact r.ho4
  · rw [n 10 (by decide)]; exact r.ra
  · rw [n 8 (by decide)]; exact r.ti
  · rw [n 9 (by decide)]; exact r.n9
  · intro j w hj hw
    rw [n _ (by omega)]; exact r.lg j w hj hw
  · intro j hj
    rw [n _ (by omega)]; exact r.fl j hj
  · rw [n 7 (by decide)]; exact r.t7
  · rw [n 6 (by decide)]; exact r.b6
  · rw [n 5 (by decide)]; exact r.b5
theorem rng_i {x lo hi : Int32} (h : ¬ mRng x lo hi = 0) : lo.toInt ≤ x.toInt ∧ x.toInt ≤ hi.toInt := by
  unfold mRng at h
  have e1 := Int32.lt_iff_toInt_lt (x := x) (y := lo)
  have e2 := Int32.lt_iff_toInt_lt (x := hi) (y := x)
  by_cases h1 : x < lo
  · rw [if_pos h1] at h; exact absurd rfl h
  · rw [if_neg h1] at h
    by_cases h2 : hi < x
    · rw [if_pos h2] at h; exact absurd rfl h
    · rw [e1] at h1
      rw [e2] at h2
      omega
theorem rng_e (x lo hi : Int32) (k : Int32) : (if x < lo then -2 else if hi < x then -2 else (0 : Int32)) = if mRng x lo hi = 0 then -2 else 0 := by
  unfold mRng
  by_cases h1 : x < lo
  · rw [if_pos h1, if_pos h1, if_pos rfl]
  · rw [if_neg h1, if_neg h1]
    by_cases h2 : hi < x
    · rw [if_pos h2, if_pos h2, if_pos rfl]
    · rw [if_neg h2, if_neg h2, if_neg (by decide)]
theorem cErrS_eq (k x : Int32) : cErrS k x = if mIsS k x = 0 then -2 else 0 := by
  by_cases h0 : k = 0
  · subst h0
    exact (rng_e x 0 99 0).trans rfl
  by_cases h1 : k = 1
  · subst h1
    exact (rng_e x 0 99 0).trans rfl
  by_cases h2 : k = 2
  · subst h2
    exact (rng_e x (-500) 500 0).trans rfl
  by_cases h3 : k = 3
  · subst h3
    have e : mIsS 3 x = if mRng x 1 5000 = 0 then 0 else 1 := rfl
    rw [e]
    refine (rng_e x 1 5000 0).trans ?_
    by_cases g : mRng x 1 5000 = 0
    · rw [if_pos g, if_pos g, if_pos rfl]
    · rw [if_neg g, if_neg g, if_neg (by decide)]
  have e : mIsS k x = 0 := by
    unfold mIsS
    rw [if_neg h0, if_neg h1, if_neg h2, if_neg h3]
  rw [e, if_pos rfl]
  unfold cErrS
  by_cases g : k < 0
  · rw [if_pos g]
  · rw [if_neg g]
    by_cases g2 : (4 : Int32) ≤ k
    · rw [if_pos g2]
    · exfalso
      obtain ⟨a, b⟩ := zNC (N := 4) g g2 (by decide)
      rcases (show k.toNatClampNeg = 0 ∨ k.toNatClampNeg = 1 ∨ k.toNatClampNeg = 2 ∨ k.toNatClampNeg = 3 by omega) with q | q | q | q <;> rw [q] at a
      · exact h0 a
      · exact h1 a
      · exact h2 a
      · exact h3 a
theorem cErrW_eq (w : Int32) : cErrW w = if mRng w 0 7 = 0 then -1 else 0 := by
  unfold cErrW mRng
  have e1 := Int32.le_iff_toInt_le (x := 8) (y := w)
  have e2 := Int32.lt_iff_toInt_lt (x := 7) (y := w)
  rw [show (8 : Int32).toInt = 8 by decide] at e1
  rw [show (7 : Int32).toInt = 7 by decide] at e2
  by_cases h1 : w < 0
  · rw [if_pos h1, if_pos h1, if_pos rfl]
  · rw [if_neg h1, if_neg h1]
    by_cases h2 : 7 < w
    · rw [if_pos h2, if_pos (e1.mpr (by have := e2.mp h2; omega)), if_pos rfl]
    · rw [if_neg h2, if_neg (fun q => h2 (e2.mpr (by have := e1.mp q; omega))), if_neg (by decide)]
