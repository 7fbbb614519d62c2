/-! the first fault related -/
theorem rOrd_s1 (v : RV) : (rOrd v).2.1 = v.1 := rOrd_si v
theorem sFa (si : Nat → Int32) {le : Nat} (hle : le ≤ 80) : ∀ (f p : Nat) (nu od va ai rd ho : Int32), p ≤ 80 → (rFa f (si, le, p, nu, od, va, ai, rd, ho)).1 = qFa si le f p
  | 0, p, nu, od, va, ai, rd, ho, _ => rfl
  | f + 1, p, nu, od, va, ai, rd, ho, hp => by
    obtain ⟨i1, i2, -⟩ := rOrd_ind si le p nu od va ai rd ho
    have e1 := rOrd_si (si, le, p, nu, od, va, ai, rd, ho)
    have e2 := rOrd_len (si, le, p, nu, od, va, ai, rd, ho)
    have e3 := rOrd_le (v := (si, le, p, nu, od, va, ai, rd, ho)) hp
    rw [rFa, qFa]
    generalize hw : rOrd (si, le, p, nu, od, va, ai, rd, ho) = w at *
    obtain ⟨k, s2, l2, p2, nu2, od2, va2, ai2, rd2, ho2⟩ := w
    dsimp only at i1 i2 e1 e2 e3 ⊢
    rw [← i1, ← i2]
    rw [e1, e2]
    by_cases a : k = 0
    · rw [if_pos a, if_pos a]
    rw [if_neg a, if_neg a]
    by_cases b : nI p2 = nI le
    · have hb := (nI_eq (by omega) (by omega)).mp b
      have c : rSgR si le p2 59 = 0 := by
        unfold rSgR
        rw [if_neg]
        rw [show pSign si le p2 = 0 from if_pos (by omega)]
        decide
      rw [if_pos b, if_pos c, if_pos b]
    · rw [if_neg b]
      by_cases c : rSgR si le p2 59 = 0
      · rw [if_pos c, if_pos c, if_neg b, rSgP_0 (rSgR_0 c)]
      · rw [if_neg c, if_neg c]
        exact sFa si hle f _ _ _ _ _ _ _ (rSgP_le (by decide) e3)
