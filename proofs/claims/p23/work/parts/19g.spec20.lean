/-! zero and hours related -/
theorem RS_ze {v : CV} {al : Nat → Int32} {h : Nat} (r : RS v al h) : RS (v.1, 0, 0, v.2.2.2) (mZeA al) h := by
  have n : ∀ j, j ≠ 5 → j ≠ 6 → mZeA al j = al j := fun j h5 h6 => by
    unfold mZeA
    rw [updN h6, updN h5]
  refine ⟨r.hh, ?_, ?_, ?_, r.wr, ?_, r.ho, ?_, ?_, ?_, ?_, ?_, ?_, r.s0, r.s1, r.s2, r.s3, ?_, ?_, ?_⟩
  · intro j hj
    rw [n j (by omega) (by omega)]; exact r.st j hj
  · rfl
  · rfl
  · rw [n 7 (by decide) (by decide)]; exact r.tr
  · rw [n 4 (by decide) (by decide)]; exact r.ho4
  · rw [n 10 (by decide) (by decide)]; exact r.ra
  · rw [n 8 (by decide) (by decide)]; exact r.ti
  · rw [n 9 (by decide) (by decide)]; exact r.n9
  · intro j w hj hw
    rw [n _ (by omega) (by omega)]; exact r.lg j w hj hw
  · intro j hj
    rw [n _ (by omega) (by omega)]; exact r.fl j hj
  · rw [n 7 (by decide) (by decide)]; exact r.t7
  · rw [show mZeA al 6 = 0 from rfl]; decide
  · rw [show mZeA al 5 = 0 from rfl, show (0 : Int32).toInt = 0 by decide]; omega
theorem off_big {v : CV} {al : Nat → Int32} {h : Nat} (r : RS v al h) : ¬ al 5 + 1000000000 < 0 := by
  have a := r.b5
  have b := r.hh
  apply nneg
  rw [iA] <;> (rw [show (1000000000 : Int32).toInt = 1000000000 by decide]; omega)
theorem mCntN_nI (al : Nat → Int32) (L : Nat) (ht ar rd : Int32) : ∀ n, ∃ m, m ≤ n ∧ mCntN al L ht ar rd n = nI m
  | 0 => ⟨0, Nat.le_refl _, rfl⟩
  | n + 1 => by
    obtain ⟨m, hm, e⟩ := mCntN_nI al L ht ar rd n
    rw [mCntN, e]
    by_cases q : mIs (mGoN al L ht ar rd n) ht ar rd = 0
    · rw [if_pos q, Int32.add_zero]; exact ⟨m, by omega, rfl⟩
    · rw [if_neg q]; exact ⟨m + 1, by omega, (nI_succ m).symm⟩
theorem cErrH_neg {ho ht ar rd mo : Int32} (h : ¬ cErrH ho ht ar rd mo = 0) : cErrH ho ht ar rd mo < 0 := by
  unfold cErrH at *
  repeat' split
  all_goals first | decide | (exfalso; simp_all)
theorem cErrH_ok {ho ht ar rd mo : Int32} (h : cErrH ho ht ar rd mo = 0) : ¬ zHeat ht = 0 ∧ ¬ zAir ar = 0 ∧ ¬ 9999 < ho + mo := by
  unfold cErrH at h
  refine ⟨fun q => ?_, fun q => ?_, fun q => ?_⟩
  · rw [if_pos q] at h; exact absurd h (by decide)
  · revert h
    rw [if_pos q]
    split <;> decide
  · revert h
    repeat' split
    all_goals first | decide | exact fun _ => absurd q (by assumption)
theorem sim_pa {v : CV} {al : Nat → Int32} {h : Nat} (r : RS v al h) (ht ar rd mo : Int32) :
    (if cErrH (vHo v) ht ar rd mo = 0 then vTi (cGoN v ht ar rd mo.toNatClampNeg) - vTi v else cErrH (vHo v) ht ar rd mo) = mPaR al (min h 48) ht ar rd mo ∧ (cErrH (vHo v) ht ar rd mo = 0 ↔ ¬ mPaR al (min h 48) ht ar rd mo < 0) ∧
    ∃ h', RS (if cErrH (vHo v) ht ar rd mo = 0 then cGoN v ht ar rd mo.toNatClampNeg else v) (mPaA al (min h 48) ht ar rd mo) h' := by
  have eh : vHo v = al 4 := r.ho.trans r.ho4.symm
  rw [eh]
  unfold mPaR mPaA
  by_cases g : cErrH (al 4) ht ar rd mo = 0
  · rw [if_pos g, if_pos g, if_pos g, if_pos g]
    obtain ⟨g1, g2, g3⟩ := cErrH_ok g
    obtain ⟨e, n1, n2⟩ := cErrH_mo g
    have hn : h + mo.toNatClampNeg ≤ 9999 := by
      rw [r.ho4] at g3
      rw [e, nI_add] at g3
      have := r.hh
      exact zNlt (a := 9999) g3 (by decide) (by omega)
    obtain ⟨a, b⟩ := RS_goN r (rd := rd) g1 g2 mo.toNatClampNeg hn
    obtain ⟨m, hm, em⟩ := mCntN_nI al (min h 48) ht ar rd mo.toNatClampNeg
    refine ⟨?_, ⟨fun _ => ?_, fun _ => g⟩, _, a⟩
    · rw [b, Int32.add_comm, Int32.add_sub_cancel]
    · rw [em]; exact nI_pos (by omega)
  · rw [if_neg g, if_neg g, if_neg g, if_neg g]
    exact ⟨rfl, ⟨fun q => absurd q g, fun q => absurd (cErrH_neg g) q⟩, h, r⟩
