/-! what an order reads does not hang on what was read before -/
theorem rVaV_ok {si : Nat → Int32} {le p : Nat} (va : Int32) (h : ¬ rVaR si le p = 0) : rVaV si le p va = rVaV si le p 0 := by
  unfold rVaV
  rw [if_neg h, if_neg h]
theorem rWtV_ok {si : Nat → Int32} {le p : Nat} (va : Int32) (h : ¬ rWtR si le p = 0) : rWtV si le p va = rWtV si le p 0 := by
  unfold rWtV
  rw [if_neg h, if_neg h]
theorem rHrs_ind (si : Nat → Int32) (le p : Nat) (va ai rd ho : Int32) : (rHrs si le p va ai rd ho).1 = (rHrs si le p 0 0 0 0).1 ∧ (rHrs si le p va ai rd ho).2.1 = (rHrs si le p 0 0 0 0).2.1 ∧ (¬ (rHrs si le p 0 0 0 0).1 = 0 → rHrs si le p va ai rd ho = rHrs si le p 0 0 0 0) := by
  by_cases a : rVaR si le p = 0
  · unfold rHrs
    rw [if_pos a, if_pos a]
    exact ⟨rfl, rfl, fun q => absurd rfl q⟩
  have e := rVaV_ok va a
  by_cases b : rSgR si le (rVaP si le p) 44 = 0
  · unfold rHrs
    rw [if_neg a, if_neg a, if_pos b, if_pos b]
    exact ⟨rfl, rfl, fun q => absurd rfl q⟩
  by_cases c : rNumR si le (rSgP si le (rVaP si le p) 44) = 0
  · unfold rHrs
    rw [if_neg a, if_neg a, if_neg b, if_neg b, if_pos c, if_pos c]
    exact ⟨rfl, rfl, fun q => absurd rfl q⟩
  have f : rHrs si le p va ai rd ho = rHrs si le p 0 0 0 0 := by
    unfold rHrs
    rw [if_neg a, if_neg a, if_neg b, if_neg b, if_neg c, if_neg c, e]
  rw [f]
  exact ⟨rfl, rfl, fun _ => rfl⟩
