/-! copies related -/
theorem RS_cg {v : CV} {al al2 : Nat → Int32} {h : Nat} (r : RS v al h) (e : ∀ k, k < 347 → al2 k = al k) : RS v al2 h := by
  refine ⟨r.hh, ?_, ?_, ?_, r.wr, ?_, r.ho, ?_, ?_, ?_, ?_, ?_, ?_, ?_, ?_, ?_, ?_, ?_, ?_, ?_⟩
  · intro j hj
    rw [e j (by omega)]; exact r.st j hj
  · rw [e 5 (by decide)]; exact r.off
  · rw [e 6 (by decide)]; exact r.car
  · rw [e 7 (by decide)]; exact r.tr
  · rw [e 4 (by decide)]; exact r.ho4
  · rw [e 10 (by decide)]; exact r.ra
  · rw [e 8 (by decide)]; exact r.ti
  · rw [e 9 (by decide)]; exact r.n9
  · intro j w hj hw
    rw [e _ (by omega)]; exact r.lg j w hj hw
  · intro j hj
    rw [e _ (by omega)]; exact r.fl j hj
  · rw [e 0 (by decide)]; exact r.s0
  · rw [e 1 (by decide)]; exact r.s1
  · rw [e 2 (by decide)]; exact r.s2
  · rw [e 3 (by decide)]; exact r.s3
  · rw [e 7 (by decide)]; exact r.t7
  · rw [e 6 (by decide)]; exact r.b6
  · rw [e 5 (by decide)]; exact r.b5
theorem RS_bec {w : CV} {al : Nat → Int32} {h : Nat} (r : RS w al h) (v : CV) : RS (cBec v w) al h := by
  refine ⟨r.hh, ?_, r.off, r.car, r.wr, r.tr, r.ho, r.ho4, r.ra, r.ti, r.n9, ?_, r.fl, r.s0, r.s1, r.s2, r.s3, r.t7, r.b6, r.b5⟩
  · intro j hj
    show va_cpy w.1 v.1 0 0 4 j = _
    rw [pk_cpy_in (by omega) (by omega), show 0 + (j - 0) = j by omega]
    exact r.st j hj
  · intro j k hj hk
    show lFact (va_cpy w.2.2.2.1 v.2.2.2.1 0 0 336) (nI h) (nI j) (nI k) = _
    have hh := r.hh
    rw [← r.lg j k hj hk, lFact_nI _ (by omega) (by omega) hk, lFact_nI _ (by omega) (by omega) hk]
    generalize hm : (h - 1 - j) % 48 * 7 + k = m
    have hm2 : m < 336 := by omega
    rw [pk_cpy_in (by omega) (by omega), show 0 + (m - 0) = m by omega]
