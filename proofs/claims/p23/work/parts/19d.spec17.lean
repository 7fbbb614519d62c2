/-! hours, settings and weights related -/
theorem cBare_st {v : CV} {al : Nat → Int32} {h : Nat} (r : RS v al h) (ht ar : Int32) : cBare v.1 ht ar = cBare al ht ar := by
  unfold cBare
  rw [r.st 0 (by decide), r.st 1 (by decide), r.st 2 (by decide)]
theorem rate_i {v : CV} {al : Nat → Int32} {h : Nat} (r : RS v al h) {ht ar : Int32} (h1 : ¬ zHeat ht = 0) (h2 : ¬ zAir ar = 0) : -6695 ≤ (cBare al ht ar + al 7).toInt ∧ (cBare al ht ar + al 7).toInt ≤ 6695 := by
  have a := cBare_i r h1 h2
  obtain ⟨t, ht, e⟩ := r.t7
  have b : (al 7).toInt = (t : Int) := by rw [e, nI_toInt (by omega)]
  rw [iA] <;> omega
theorem RS_go {v : CV} {al : Nat → Int32} {h : Nat} (r : RS v al h) (h1 : h + 1 ≤ 9999) {ht ar rd : Int32} (g1 : ¬ zHeat ht = 0) (g2 : ¬ zAir ar = 0) :
    RS (cGo v ht ar rd) (mGo al (min h 48) ht ar rd) (h + 1) ∧ vTi (cGo v ht ar rd) = vTi v + (if mIs al ht ar rd = 0 then 0 else 1) := by
  obtain ⟨st, off, car, fa, wr, tr, ho, ra, ti⟩ := v
  have er := rate_i r g1 g2
  have eb := cBare_st r ht ar
  have e3 : cSet st 3 = al 3 := (cSet_3 st).trans (r.st 3 (by decide))
  have e5 : off = al 5 := r.off
  have e6 : car = al 6 := r.car
  have ew : wr = nI h := r.wr
  have et : tr = al 7 := r.tr
  have eh : ho = nI h := r.ho
  have ea : ra = al 10 := r.ra
  have ei : ti = al 8 := r.ti
  have hoff := dOff_i (B := 24103 * (h : Int)) r.b6 er r.b5 (by omega)
  have hcar := dCar_i r.b6 er
  have hoff2 : -(24103 * ((h + 1 : Nat) : Int)) ≤ (dOff (al 5) (al 6) (cBare al ht ar + al 7)).toInt ∧ (dOff (al 5) (al 6) (cBare al ht ar + al 7)).toInt ≤ 24103 * ((h + 1 : Nat) : Int) := by omega
  have hfar : dMore (dOff (al 5) (al 6) (cBare al ht ar + al 7)) (al 3) = mFar (dOff (al 5) (al 6) (cBare al ht ar + al 7)) (al 3) := far_eq (by omega) (by have := r.s3; omega)
  have eb2 : cBare st ht ar = cBare al ht ar := eb
  have hA : ∀ iset : Int32, iset = 0 ∨ iset = 1 → RS (st, dOff (al 5) (al 6) (cBare al ht ar + al 7), dCar (al 6) (cBare al ht ar + al 7), lHour fa (nI h + 1) ht ar rd (cBare al ht ar + al 7) (dOff (al 5) (al 6) (cBare al ht ar + al 7)) 0 (al 7), nI h + 1, al 7, nI h + 1, al 10 + rd, al 8)
      (mFacts (mSh (mTop al (dOff (al 5) (al 6) (cBare al ht ar + al 7)) (dCar (al 6) (cBare al ht ar + al 7)) rd (if min h 48 < 48 then 1 else 0)) 17 (11 + 7 * mLen (min h 48))) ht ar rd (cBare al ht ar + al 7) (dOff (al 5) (al 6) (cBare al ht ar + al 7)) 0 (al 7)) (h + 1) := fun _ _ =>
    RS_hour r h1 (al2 := al) (fun _ _ _ => rfl) hcar hoff2 r.t7 (Or.inl rfl)
  unfold cGo mGo mIs vTi
  dsimp only
  rw [e3, eb2, e5, e6, ew, et, eh, ea, ei, hfar]
  by_cases q : rd = 1
  · by_cases z : mFar (dOff (al 5) (al 6) (cBare al ht ar + al 7)) (al 3) = 0
    · simp only [if_pos q, if_pos z, ↓reduceIte]
      exact ⟨hA 0 (Or.inl rfl), (Int32.add_zero _).symm⟩
    · simp only [if_pos q, if_neg z, z10, ↓reduceIte]
      refine ⟨?_, trivial⟩
      obtain ⟨t, ht8, e7⟩ := r.t7
      have hcor := cor_eq (dOff (al 5) (al 6) (cBare al ht ar + al 7)) ht8
      rw [← e7] at hcor
      rw [hcor.1]
      exact RS_hour r h1 (al2 := mCor al (dOff (al 5) (al 6) (cBare al ht ar + al 7))) (fun k k7 k8 => by unfold mCor; rw [updN k8, updN k7]) (o := 0) (c := 0) (by decide) (by rw [show (0 : Int32).toInt = 0 by decide]; omega) (show ∃ t, t < 256 ∧ mCorT _ (al 7) = nI t from hcor.2) (Or.inr rfl)
  · simp only [if_neg q, ↓reduceIte]
    exact ⟨hA 0 (Or.inl rfl), (Int32.add_zero _).symm⟩
theorem mLenN_min (h : Nat) : ∀ n, mLenN (min h 48) n = min (h + n) 48
  | 0 => rfl
  | n + 1 => by
    rw [mLenN, mLenN_min h n, mLen_min]
    rfl
theorem RS_goN {v : CV} {al : Nat → Int32} {h : Nat} (r : RS v al h) {ht ar rd : Int32} (g1 : ¬ zHeat ht = 0) (g2 : ¬ zAir ar = 0) : ∀ n, h + n ≤ 9999 →
    RS (cGoN v ht ar rd n) (mGoN al (min h 48) ht ar rd n) (h + n) ∧ vTi (cGoN v ht ar rd n) = vTi v + mCntN al (min h 48) ht ar rd n
  | 0, _ => ⟨r, (Int32.add_zero _).symm⟩
  | n + 1, hn => by
    obtain ⟨a, b⟩ := RS_goN r g1 g2 n (by omega)
    obtain ⟨c, d⟩ := RS_go a (by omega) (rd := rd) g1 g2
    rw [cGoN, mGoN, mCntN, mLenN_min]
    refine ⟨c, ?_⟩
    rw [d, b, Int32.add_assoc]
