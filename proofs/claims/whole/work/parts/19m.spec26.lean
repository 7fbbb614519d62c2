/-! an order's answer, place and deed hang on the text and the place alone -/
theorem cAct_va (v : CV) {si si' : Nat → Int32} {le le' p p' : Nat} {nu nu' od va ai ai' rd rd' ho ho' : Int32} (h : ¬ od = 104) : cActR v (si, le, p, nu, od, va, ai, rd, ho) = cActR v (si', le', p', nu', od, va, ai', rd', ho') ∧ cActV v (si, le, p, nu, od, va, ai, rd, ho) = cActV v (si', le', p', nu', od, va, ai', rd', ho') := by
  unfold cActR cActV
  dsimp only
  rw [if_neg h, if_neg h, if_neg h, if_neg h]
  exact ⟨rfl, rfl⟩
theorem cAct_no (v : CV) {si si' : Nat → Int32} {le le' p p' : Nat} {nu nu' va va' ai ai' rd rd' ho ho' : Int32} : cActR v (si, le, p, nu, 122, va, ai, rd, ho) = cActR v (si', le', p', nu', 122, va', ai', rd', ho') ∧ cActV v (si, le, p, nu, 122, va, ai, rd, ho) = cActV v (si', le', p', nu', 122, va', ai', rd', ho') := by
  have h1 : ¬ (122 : Int32) = 98 := by decide
  have h2 : ¬ (122 : Int32) = 104 := by decide
  have h3 : ¬ (122 : Int32) = 119 := by decide
  unfold cActR cActV
  dsimp only
  rw [if_neg h1, if_neg h2, if_neg h3, if_neg h1, if_neg h2, if_neg h3, if_neg h1, if_neg h2, if_neg h3, if_neg h1, if_neg h2, if_neg h3]
  exact ⟨rfl, rfl⟩
theorem rOrd_ind (si : Nat → Int32) (le p : Nat) (nu od va ai rd ho : Int32) : (rOrd (si, le, p, nu, od, va, ai, rd, ho)).1 = (rOrd (wOf si le p)).1 ∧ (rOrd (si, le, p, nu, od, va, ai, rd, ho)).2.2.2.1 = (rOrd (wOf si le p)).2.2.2.1 ∧
    (¬ (rOrd (wOf si le p)).1 = 0 → ∀ v, cActR v (rOrd (si, le, p, nu, od, va, ai, rd, ho)).2 = cActR v (rOrd (wOf si le p)).2 ∧ cActV v (rOrd (si, le, p, nu, od, va, ai, rd, ho)).2 = cActV v (rOrd (wOf si le p)).2) := by
  by_cases a : pSign si le p = 98
  · have e : rOrd (si, le, p, nu, od, va, ai, rd, ho) = (rVaR si le (p + 1), (si, le, rVaP si le (p + 1), rVaN si le (p + 1), 98, rVaV si le (p + 1) va, ai, rd, ho)) := by
      unfold rOrd
      dsimp only
      rw [if_pos a, a]
    rw [e, rOrd_98 a]
    refine ⟨rfl, rfl, fun q v => ?_⟩
    dsimp only at q ⊢
    rw [rVaV_ok va q]
    exact cAct_va v (show ¬ (98 : Int32) = 104 by decide)
  by_cases b : pSign si le p = 104
  · obtain ⟨i1, i2, i3⟩ := rHrs_ind si le (p + 1) va ai rd ho
    have e : rOrd (si, le, p, nu, od, va, ai, rd, ho) = ((rHrs si le (p + 1) va ai rd ho).1, (si, le, (rHrs si le (p + 1) va ai rd ho).2.1, (rHrs si le (p + 1) va ai rd ho).2.2.1, 104, (rHrs si le (p + 1) va ai rd ho).2.2.2.1, (rHrs si le (p + 1) va ai rd ho).2.2.2.2.1, (rHrs si le (p + 1) va ai rd ho).2.2.2.2.2.1, (rHrs si le (p + 1) va ai rd ho).2.2.2.2.2.2)) := by
      unfold rOrd
      dsimp only
      rw [if_neg a, if_pos b, b]
    rw [e, rOrd_104 b]
    refine ⟨i1, i2, fun q v => ?_⟩
    dsimp only at q ⊢
    rw [i3 q]
    exact ⟨rfl, rfl⟩
  by_cases c : pSign si le p = 119
  · have e : rOrd (si, le, p, nu, od, va, ai, rd, ho) = (rWtR si le (p + 1), (si, le, rWtP si le (p + 1), nu, 119, rWtV si le (p + 1) va, ai, rd, ho)) := by
      unfold rOrd
      dsimp only
      rw [if_neg a, if_neg b, if_pos c, c]
    rw [e, rOrd_119 c]
    refine ⟨rfl, rfl, fun q v => ?_⟩
    dsimp only at q ⊢
    rw [rWtV_ok va q]
    exact cAct_va v (show ¬ (119 : Int32) = 104 by decide)
  by_cases d : pSign si le p = 122
  · have e : rOrd (si, le, p, nu, od, va, ai, rd, ho) = (1, (si, le, p + 1, nu, 122, va, ai, rd, ho)) := by
      unfold rOrd
      dsimp only
      rw [if_neg a, if_neg b, if_neg c, if_pos d, d]
    rw [e, rOrd_122 d]
    exact ⟨rfl, rfl, fun _ v => cAct_no v⟩
  · have e : rOrd (si, le, p, nu, od, va, ai, rd, ho) = (0, (si, le, p, nu, pSign si le p, va, ai, rd, ho)) := by
      unfold rOrd
      dsimp only
      rw [if_neg a, if_neg b, if_neg c, if_neg d]
    rw [e, rOrd_no a b c d]
    exact ⟨rfl, rfl, fun q => absurd rfl q⟩
