/-! numbers of an hour -/
theorem iA {a b : Int32} (h1 : -2147483648 ≤ a.toInt + b.toInt) (h2 : a.toInt + b.toInt < 2147483648) : (a + b).toInt = a.toInt + b.toInt := by
  rw [Int32.toInt_add, Int.bmod_eq_of_le] <;> omega
theorem iS {a b : Int32} (h1 : -2147483648 ≤ a.toInt - b.toInt) (h2 : a.toInt - b.toInt < 2147483648) : (a - b).toInt = a.toInt - b.toInt := by
  rw [Int32.toInt_sub, Int.bmod_eq_of_le] <;> omega
theorem iM {a b : Int32} (h1 : -2147483648 ≤ a.toInt * b.toInt) (h2 : a.toInt * b.toInt < 2147483648) : (a * b).toInt = a.toInt * b.toInt := by
  rw [Int32.toInt_mul, Int.bmod_eq_of_le] <;> omega
theorem iN {a : Int32} (h1 : -2147483648 < a.toInt) : (-a).toInt = -a.toInt := by
  have h2 := Int32.toInt_lt a
  rw [Int32.toInt_neg, Int.bmod_eq_of_le] <;> omega
theorem tdv (a : Int) (d : Nat) : a.tdiv (d : Int) = if 0 ≤ a then a / (d : Int) else -((-a) / (d : Int)) := by
  by_cases h : 0 ≤ a
  · rw [if_pos h, Int.tdiv_eq_ediv_of_nonneg h]
  · rw [if_neg h]
    have e : a = -(-a) := by omega
    have g : a.tdiv (d : Int) = -((-a).tdiv (d : Int)) := by
      conv => lhs; rw [e]
      rw [Int.neg_tdiv]
    rw [g, Int.tdiv_eq_ediv_of_nonneg (by omega)]
theorem iD10 {a : Int32} : (a / 10).toInt = if 0 ≤ a.toInt then a.toInt / 10 else -((-a.toInt) / 10) := by
  have h1 := Int32.le_toInt a
  have h2 := Int32.toInt_lt a
  have e := tdv a.toInt 10
  have e : a.toInt.tdiv 10 = if 0 ≤ a.toInt then a.toInt / 10 else -((-a.toInt) / 10) := e
  rw [Int32.toInt_div, show (10 : Int32).toInt = 10 by decide, e, Int.bmod_eq_of_le]
  · split <;> omega
  · split <;> omega
theorem iD1000 {a : Int32} : (a / 1000).toInt = if 0 ≤ a.toInt then a.toInt / 1000 else -((-a.toInt) / 1000) := by
  have h1 := Int32.le_toInt a
  have h2 := Int32.toInt_lt a
  have e := tdv a.toInt 1000
  have e : a.toInt.tdiv 1000 = if 0 ≤ a.toInt then a.toInt / 1000 else -((-a.toInt) / 1000) := e
  rw [Int32.toInt_div, show (1000 : Int32).toInt = 1000 by decide, e, Int.bmod_eq_of_le]
  · split <;> omega
  · split <;> omega
theorem zHeat_i {x : Int32} (h : ¬ zHeat x = 0) : -20 ≤ x.toInt ∧ x.toInt ≤ 50 := by
  unfold zHeat at h
  have e1 := Int32.lt_iff_toInt_lt (x := x) (y := -20)
  have e2 := Int32.lt_iff_toInt_lt (x := 50) (y := x)
  rw [show (-20 : Int32).toInt = -20 by decide] at e1
  rw [show (50 : Int32).toInt = 50 by decide] at e2
  by_cases h1 : x < -20
  · rw [if_pos h1] at h; exact absurd rfl h
  · rw [if_neg h1] at h
    by_cases h2 : 50 < x
    · rw [if_pos h2] at h; exact absurd rfl h
    · rw [e1] at h1
      rw [e2] at h2
      omega
theorem zAir_i {x : Int32} (h : ¬ zAir x = 0) : 800 ≤ x.toInt ∧ x.toInt ≤ 1200 := by
  unfold zAir at h
  have e1 := Int32.lt_iff_toInt_lt (x := x) (y := 800)
  have e2 := Int32.lt_iff_toInt_lt (x := 1200) (y := x)
  rw [show (800 : Int32).toInt = 800 by decide] at e1
  rw [show (1200 : Int32).toInt = 1200 by decide] at e2
  by_cases h1 : x < 800
  · rw [if_pos h1] at h; exact absurd rfl h
  · rw [if_neg h1] at h
    by_cases h2 : 1200 < x
    · rw [if_pos h2] at h; exact absurd rfl h
    · rw [e1] at h1
      rw [e2] at h2
      omega
theorem mulB {a b A B : Int} (h1 : -A ≤ a) (h2 : a ≤ A) (h3 : -B ≤ b) (h4 : b ≤ B) : -(A * B) ≤ a * b ∧ a * b ≤ A * B := by
  have e : (a * b).natAbs ≤ A.natAbs * B.natAbs := by
    rw [Int.natAbs_mul]
    exact Nat.mul_le_mul (by omega) (by omega)
  have e2 : ((A.natAbs * B.natAbs : Nat) : Int) = A * B := by
    rw [Int.natCast_mul, Int.natAbs_of_nonneg (by omega), Int.natAbs_of_nonneg (by omega)]
  omega
theorem cBare_i {v : CV} {al : Nat → Int32} {h : Nat} (r : RS v al h) {ht ar : Int32} (h1 : ¬ zHeat ht = 0) (h2 : ¬ zAir ar = 0) : -6440 ≤ (cBare al ht ar).toInt ∧ (cBare al ht ar).toInt ≤ 6440 := by
  have a1 := zHeat_i h1
  have a2 := zAir_i h2
  have b0 := r.s0
  have b1 := r.s1
  have b2 := r.s2
  have e1 : (ht - 20).toInt = ht.toInt - 20 := by rw [iS] <;> (rw [show (20 : Int32).toInt = 20 by decide]; try omega)
  have e2 : (ar - 1000).toInt = ar.toInt - 1000 := by rw [iS] <;> (rw [show (1000 : Int32).toInt = 1000 by decide]; try omega)
  have m1 := mulB (a := (al 0).toInt) (b := (ht - 20).toInt) (A := 99) (B := 40) (by omega) (by omega) (by omega) (by omega)
  have m2 := mulB (a := (al 1).toInt) (b := (ar - 1000).toInt) (A := 99) (B := 200) (by omega) (by omega) (by omega) (by omega)
  have f1 := iM (a := al 0) (b := ht - 20) (by omega) (by omega)
  have f2 := iM (a := al 1) (b := ar - 1000) (by omega) (by omega)
  have f3 := iD10 (a := al 1 * (ar - 1000))
  rw [f2] at f3
  have g3 : -1980 ≤ (al 1 * (ar - 1000) / 10).toInt ∧ (al 1 * (ar - 1000) / 10).toInt ≤ 1980 := by
    rw [f3]
    split <;> omega
  have f4 : (al 2 - al 0 * (ht - 20)).toInt = (al 2).toInt - (al 0).toInt * (ht - 20).toInt := by rw [iS, f1] <;> omega
  unfold cBare
  rw [iS] <;> (rw [f4]; omega)
theorem dRate {car rate : Int32} (h1 : -1000 < car.toInt ∧ car.toInt < 1000) (h2 : -6695 ≤ rate.toInt ∧ rate.toInt ≤ 6695) : (car + rate * 3600).toInt = car.toInt + rate.toInt * 3600 := by
  have e : (rate * 3600).toInt = rate.toInt * 3600 := by rw [iM] <;> (rw [show (3600 : Int32).toInt = 3600 by decide]; try omega)
  rw [iA, e] <;> (rw [e]; omega)
theorem dCar_i {car rate : Int32} (h1 : -1000 < car.toInt ∧ car.toInt < 1000) (h2 : -6695 ≤ rate.toInt ∧ rate.toInt ≤ 6695) : -1000 < (dCar car rate).toInt ∧ (dCar car rate).toInt < 1000 := by
  have e := dRate h1 h2
  have d := iD1000 (a := car + rate * 3600)
  have z : (1000 : Int32).toInt = 1000 := by decide
  have k := iM (a := (car + rate * 3600) / 1000) (b := 1000) (by rw [z, d]; split <;> omega) (by rw [z, d]; split <;> omega)
  rw [z] at k
  unfold dCar
  rw [iS, k, d]
  · split <;> omega
  · rw [k, d]; split <;> omega
  · rw [k, d]; split <;> omega
theorem dOff_i {off car rate : Int32} {B : Int} (h1 : -1000 < car.toInt ∧ car.toInt < 1000) (h2 : -6695 ≤ rate.toInt ∧ rate.toInt ≤ 6695) (h3 : -B ≤ off.toInt ∧ off.toInt ≤ B) (hB : B ≤ 1000000000) : -(B + 24103) ≤ (dOff off car rate).toInt ∧ (dOff off car rate).toInt ≤ B + 24103 := by
  have e := dRate h1 h2
  have d := iD1000 (a := car + rate * 3600)
  have k : -24103 ≤ ((car + rate * 3600) / 1000).toInt ∧ ((car + rate * 3600) / 1000).toInt ≤ 24103 := by
    rw [d]; split <;> omega
  unfold dOff
  rw [iA] <;> omega
theorem far_eq {off lim : Int32} (h1 : -2147483648 < off.toInt) (h2 : 0 ≤ lim.toInt) : dMore off lim = mFar off lim := by
  have h3 := Int32.toInt_lt off
  have e1 := iN h1
  have e2 := iN (a := lim) (by omega)
  have q1 : off < -lim ↔ lim < -off := by
    rw [Int32.lt_iff_toInt_lt, Int32.lt_iff_toInt_lt, e1, e2]
    omega
  unfold dMore mFar
  by_cases h : lim < off
  · rw [if_pos h, if_pos h]
  · rw [if_neg h, if_neg h]
    by_cases g : off < -lim
    · rw [if_pos g, if_pos (q1.mp g)]
    · rw [if_neg g, if_neg (mt q1.mpr g)]
theorem corP : ∀ t < 256, (nI t &&& (nI t - 1) = nI t ^^^ (if mLt (nI t) 1 = -6 then 0 else (1 : Int32) <<< (mLt (nI t) 1 &&& 31))) ∧ (nI t &&& (nI t - 1)).toNatClampNeg < 256 ∧ nI t &&& (nI t - 1) = nI (nI t &&& (nI t - 1)).toNatClampNeg := by decide +kernel
theorem corN : ∀ t < 256, ((nI t ||| (nI t + 1)) &&& 255 = nI t ^^^ (if mLt (nI t) 0 = -6 then 0 else (1 : Int32) <<< (mLt (nI t) 0 &&& 31))) ∧ ((nI t ||| (nI t + 1)) &&& 255).toNatClampNeg < 256 ∧ (nI t ||| (nI t + 1)) &&& 255 = nI ((nI t ||| (nI t + 1)) &&& 255).toNatClampNeg := by decide +kernel
theorem cor_eq (off : Int32) {t : Nat} (ht : t < 256) : cCorT off (nI t) = mCorT off (nI t) ∧ ∃ t' , t' < 256 ∧ mCorT off (nI t) = nI t' := by
  by_cases h : 0 < off
  · obtain ⟨a, b, c⟩ := corP t ht
    have e : cCorT off (nI t) = mCorT off (nI t) := by
      unfold cCorT mCorT
      rw [if_pos h, if_pos h]
      exact a
    refine ⟨e, _, b, ?_⟩
    rw [← e]
    unfold cCorT
    rw [if_pos h]
    exact c
  · obtain ⟨a, b, c⟩ := corN t ht
    have e : cCorT off (nI t) = mCorT off (nI t) := by
      unfold cCorT mCorT
      rw [if_neg h, if_neg h]
      exact a
    refine ⟨e, _, b, ?_⟩
    rw [← e]
    unfold cCorT
    rw [if_neg h]
    exact c
