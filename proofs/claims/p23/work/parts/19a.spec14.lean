/-! the class's state against the reference's -/
def RS (v : CV) (al : Nat → Int32) (h : Nat) : Prop :=
  (h ≤ 9999) ∧ (∀ k, k < 4 → v.1 k = al k) ∧ (v.2.1 = al 5) ∧ (v.2.2.1 = al 6) ∧ (v.2.2.2.2.1 = nI h) ∧ (v.2.2.2.2.2.1 = al 7) ∧ (v.2.2.2.2.2.2.1 = nI h) ∧ (al 4 = nI h) ∧ (v.2.2.2.2.2.2.2.1 = al 10) ∧ (v.2.2.2.2.2.2.2.2 = al 8) ∧ (al 9 = nI (min h 48)) ∧ (∀ j w, j < min h 48 → w < 7 → lFact v.2.2.2.1 (nI h) (nI j) (nI w) = al (11 + 7 * j + w)) ∧ (∀ j, j < min h 48 → al (11 + 7 * j + 5) = 0 ∨ al (11 + 7 * j + 5) = 1) ∧ (0 ≤ (al 0).toInt ∧ (al 0).toInt ≤ 99) ∧ (0 ≤ (al 1).toInt ∧ (al 1).toInt ≤ 99) ∧ (-500 ≤ (al 2).toInt ∧ (al 2).toInt ≤ 500) ∧ (1 ≤ (al 3).toInt ∧ (al 3).toInt ≤ 5000) ∧ (∃ t, t < 256 ∧ al 7 = nI t) ∧ (-1000 < (al 6).toInt ∧ (al 6).toInt < 1000) ∧ (-(24103 * (h : Int)) ≤ (al 5).toInt ∧ (al 5).toInt ≤ 24103 * (h : Int))
theorem RS.hh {v : CV} {al : Nat → Int32} {h : Nat} (r : RS v al h) : h ≤ 9999 := r.1
theorem RS.st {v : CV} {al : Nat → Int32} {h : Nat} (r : RS v al h) : ∀ k, k < 4 → v.1 k = al k := r.2.1
theorem RS.off {v : CV} {al : Nat → Int32} {h : Nat} (r : RS v al h) : v.2.1 = al 5 := r.2.2.1
theorem RS.car {v : CV} {al : Nat → Int32} {h : Nat} (r : RS v al h) : v.2.2.1 = al 6 := r.2.2.2.1
theorem RS.wr {v : CV} {al : Nat → Int32} {h : Nat} (r : RS v al h) : v.2.2.2.2.1 = nI h := r.2.2.2.2.1
theorem RS.tr {v : CV} {al : Nat → Int32} {h : Nat} (r : RS v al h) : v.2.2.2.2.2.1 = al 7 := r.2.2.2.2.2.1
theorem RS.ho {v : CV} {al : Nat → Int32} {h : Nat} (r : RS v al h) : v.2.2.2.2.2.2.1 = nI h := r.2.2.2.2.2.2.1
theorem RS.ho4 {v : CV} {al : Nat → Int32} {h : Nat} (r : RS v al h) : al 4 = nI h := r.2.2.2.2.2.2.2.1
theorem RS.ra {v : CV} {al : Nat → Int32} {h : Nat} (r : RS v al h) : v.2.2.2.2.2.2.2.1 = al 10 := r.2.2.2.2.2.2.2.2.1
theorem RS.ti {v : CV} {al : Nat → Int32} {h : Nat} (r : RS v al h) : v.2.2.2.2.2.2.2.2 = al 8 := r.2.2.2.2.2.2.2.2.2.1
theorem RS.n9 {v : CV} {al : Nat → Int32} {h : Nat} (r : RS v al h) : al 9 = nI (min h 48) := r.2.2.2.2.2.2.2.2.2.2.1
theorem RS.lg {v : CV} {al : Nat → Int32} {h : Nat} (r : RS v al h) : ∀ j w, j < min h 48 → w < 7 → lFact v.2.2.2.1 (nI h) (nI j) (nI w) = al (11 + 7 * j + w) := r.2.2.2.2.2.2.2.2.2.2.2.1
theorem RS.fl {v : CV} {al : Nat → Int32} {h : Nat} (r : RS v al h) : ∀ j, j < min h 48 → al (11 + 7 * j + 5) = 0 ∨ al (11 + 7 * j + 5) = 1 := r.2.2.2.2.2.2.2.2.2.2.2.2.1
theorem RS.s0 {v : CV} {al : Nat → Int32} {h : Nat} (r : RS v al h) : 0 ≤ (al 0).toInt ∧ (al 0).toInt ≤ 99 := r.2.2.2.2.2.2.2.2.2.2.2.2.2.1
theorem RS.s1 {v : CV} {al : Nat → Int32} {h : Nat} (r : RS v al h) : 0 ≤ (al 1).toInt ∧ (al 1).toInt ≤ 99 := r.2.2.2.2.2.2.2.2.2.2.2.2.2.2.1
theorem RS.s2 {v : CV} {al : Nat → Int32} {h : Nat} (r : RS v al h) : -500 ≤ (al 2).toInt ∧ (al 2).toInt ≤ 500 := r.2.2.2.2.2.2.2.2.2.2.2.2.2.2.2.1
theorem RS.s3 {v : CV} {al : Nat → Int32} {h : Nat} (r : RS v al h) : 1 ≤ (al 3).toInt ∧ (al 3).toInt ≤ 5000 := r.2.2.2.2.2.2.2.2.2.2.2.2.2.2.2.2.1
theorem RS.t7 {v : CV} {al : Nat → Int32} {h : Nat} (r : RS v al h) : ∃ t, t < 256 ∧ al 7 = nI t := r.2.2.2.2.2.2.2.2.2.2.2.2.2.2.2.2.2.1
theorem RS.b6 {v : CV} {al : Nat → Int32} {h : Nat} (r : RS v al h) : -1000 < (al 6).toInt ∧ (al 6).toInt < 1000 := r.2.2.2.2.2.2.2.2.2.2.2.2.2.2.2.2.2.2.1
theorem RS.b5 {v : CV} {al : Nat → Int32} {h : Nat} (r : RS v al h) : -(24103 * (h : Int)) ≤ (al 5).toInt ∧ (al 5).toInt ≤ 24103 * (h : Int) := r.2.2.2.2.2.2.2.2.2.2.2.2.2.2.2.2.2.2.2
theorem lPl_nI {h j w : Nat} (hj : j < h) (hh : h ≤ 20000) (hw : w < 7) : lPl (nI h) (nI j) (nI w) = nI ((h - 1 - j) % 48 * 7 + w) := by
  have e1 : nI h - 1 - nI j = nI (h - 1 - j) := by
    rw [show (1 : Int32) = nI 1 from rfl, pk_sub (by omega), pk_sub (by omega)]
  have e2 : nI (h - 1 - j) / 48 = nI ((h - 1 - j) / 48) := by
    rw [show (48 : Int32) = nI 48 from rfl]
    exact pk_div (by omega) (by decide) (by decide)
  unfold lPl
  rw [e1, e2, show (48 : Int32) = nI 48 from rfl, pk_mul, pk_sub (by omega), show (7 : Int32) = nI 7 from rfl, pk_mul, nI_add]
  exact congrArg nI (by omega)
theorem lFact_nI (fa : Nat → Int32) {h j w : Nat} (hj : j < h) (hh : h ≤ 20000) (hw : w < 7) : lFact fa (nI h) (nI j) (nI w) = fa ((h - 1 - j) % 48 * 7 + w) := by
  unfold lFact
  rw [lPl_nI hj hh hw, if_neg (nI_pos (by omega)), if_neg, nI_clamp (by omega)]
  intro q
  have := zLe (a := 336) q (by omega) (by omega)
  omega
theorem lWr_nI (fa : Nat → Int32) {h w : Nat} (hj : 0 < h) (hh : h ≤ 20000) (hw : w < 7) (x : Int32) : lWr fa (nI h) (nI w) x = upd fa ((h - 1) % 48 * 7 + w) x := by
  unfold lWr
  have e := lPl_nI (h := h) (j := 0) (w := w) hj hh hw
  rw [show nI 0 = (0 : Int32) from rfl] at e
  rw [e, if_neg (nI_pos (by omega)), if_neg, nI_clamp (by omega)]
  · rfl
  · intro q
    have := zLe (a := 336) q (by omega) (by omega)
    omega
