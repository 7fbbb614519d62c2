/-! the pad and its reader -/
abbrev RV : Type := (Nat → Int32) × Nat × Nat × Int32 × Int32 × Int32 × Int32 × Int32 × Int32
/-- the cells of a reader -/
abbrev rk (Z : Nat → ClassId) (a : Nat → Nat) (v : RV) : va_W := [(a 0, .inr (5, [.ref (a 1), .int (nI v.2.2.1), .int v.2.2.2.1, .int v.2.2.2.2.1, .int v.2.2.2.2.2.1, .int v.2.2.2.2.2.2.1, .int v.2.2.2.2.2.2.2.1, .int v.2.2.2.2.2.2.2.2])), (a 1, .inr (4, [.ref (a 2), .int (nI v.2.1)])), (a 2, .inl (Z 1, 80, .inl v.1))]
def pSign (si : Nat → Int32) (le p : Nat) : Int32 := if le ≤ p then 0 else if 80 ≤ p then 0 else si p
def pDig (x : Int32) : Int32 := if x < 48 then 0 else if 57 < x then 0 else 1
def rSgR (si : Nat → Int32) (le p : Nat) (ch : Int32) : Int32 := if pSign si le p = ch then 1 else 0
def rSgP (si : Nat → Int32) (le p : Nat) (ch : Int32) : Nat := if pSign si le p = ch then p + 1 else p
def rN (si : Nat → Int32) (le : Nat) : Nat → Nat → Int32 → Nat → Nat × Int32 × Nat
  | 0, d, n, p => (d, n, p)
  | f + 1, d, n, p => if pDig (pSign si le p) = 0 then (d, n, p) else if ¬ d = 0 ∧ n ≤ 0 then (d, n, p) else rN si le f (d + 1) (n * 10 + pSign si le p - 48) (p + 1)
def rNumR (si : Nat → Int32) (le p : Nat) : Int32 := if (rN si le 4 0 0 p).1 = 0 then 0 else 1
def rNumN (si : Nat → Int32) (le p : Nat) : Int32 := (rN si le 4 0 0 p).2.1
def rNumP (si : Nat → Int32) (le p : Nat) : Nat := (rN si le 4 0 0 p).2.2
def rVaR (si : Nat → Int32) (le p : Nat) : Int32 := rNumR si le (rSgP si le p 45)
def rVaP (si : Nat → Int32) (le p : Nat) : Nat := rNumP si le (rSgP si le p 45)
def rVaN (si : Nat → Int32) (le p : Nat) : Int32 := rNumN si le (rSgP si le p 45)
def rVaV (si : Nat → Int32) (le p : Nat) (va : Int32) : Int32 := if rVaR si le p = 0 then va else if rSgR si le p 45 = 0 then rVaN si le p else -(rVaN si le p)
def rWtR (si : Nat → Int32) (le p : Nat) : Int32 := if pSign si le p - 48 < 0 then 0 else if 8 ≤ pSign si le p - 48 then 0 else 1
def rWtP (si : Nat → Int32) (le p : Nat) : Nat := if rWtR si le p = 0 then p else p + 1
def rWtV (si : Nat → Int32) (le p : Nat) (va : Int32) : Int32 := if rWtR si le p = 0 then va else pSign si le p - 48
/-- ok, place, number, value, air, radio, hours -/
def rHrs (si : Nat → Int32) (le p : Nat) (va ai rd ho : Int32) : Int32 × Nat × Int32 × Int32 × Int32 × Int32 × Int32 :=
  if rVaR si le p = 0 then (0, rVaP si le p, rVaN si le p, rVaV si le p va, ai, rd, ho)
  else if rSgR si le (rVaP si le p) 44 = 0 then (0, rSgP si le (rVaP si le p) 44, rVaN si le p, rVaV si le p va, ai, rd, ho)
  else if rNumR si le (rSgP si le (rVaP si le p) 44) = 0 then (0, rNumP si le (rSgP si le (rVaP si le p) 44), rNumN si le (rSgP si le (rVaP si le p) 44), rVaV si le p va, ai, rd, ho)
  else if rSgR si le (rSgP si le (rNumP si le (rSgP si le (rVaP si le p) 44)) 114) 42 = 0 then
    (1, rSgP si le (rSgP si le (rNumP si le (rSgP si le (rVaP si le p) 44)) 114) 42, rNumN si le (rSgP si le (rVaP si le p) 44), rVaV si le p va, rNumN si le (rSgP si le (rVaP si le p) 44), (if rSgR si le (rNumP si le (rSgP si le (rVaP si le p) 44)) 114 = 0 then 0 else 1), 1)
  else if rNumR si le (rSgP si le (rSgP si le (rNumP si le (rSgP si le (rVaP si le p) 44)) 114) 42) = 0 then
    (0, rNumP si le (rSgP si le (rSgP si le (rNumP si le (rSgP si le (rVaP si le p) 44)) 114) 42), rNumN si le (rSgP si le (rSgP si le (rNumP si le (rSgP si le (rVaP si le p) 44)) 114) 42), rVaV si le p va, rNumN si le (rSgP si le (rVaP si le p) 44), (if rSgR si le (rNumP si le (rSgP si le (rVaP si le p) 44)) 114 = 0 then 0 else 1), 1)
  else
    (1, rNumP si le (rSgP si le (rSgP si le (rNumP si le (rSgP si le (rVaP si le p) 44)) 114) 42), rNumN si le (rSgP si le (rSgP si le (rNumP si le (rSgP si le (rVaP si le p) 44)) 114) 42), rVaV si le p va, rNumN si le (rSgP si le (rVaP si le p) 44), (if rSgR si le (rNumP si le (rSgP si le (rVaP si le p) 44)) 114 = 0 then 0 else 1), rNumN si le (rSgP si le (rSgP si le (rNumP si le (rSgP si le (rVaP si le p) 44)) 114) 42))
def rOrd : RV → Int32 × RV := fun (si, le, p, nu, _, va, ai, rd, ho) =>
  if pSign si le p = 98 then (rVaR si le (p + 1), (si, le, rVaP si le (p + 1), rVaN si le (p + 1), pSign si le p, rVaV si le (p + 1) va, ai, rd, ho))
  else if pSign si le p = 104 then
    ((rHrs si le (p + 1) va ai rd ho).1, (si, le, (rHrs si le (p + 1) va ai rd ho).2.1, (rHrs si le (p + 1) va ai rd ho).2.2.1, pSign si le p, (rHrs si le (p + 1) va ai rd ho).2.2.2.1, (rHrs si le (p + 1) va ai rd ho).2.2.2.2.1, (rHrs si le (p + 1) va ai rd ho).2.2.2.2.2.1, (rHrs si le (p + 1) va ai rd ho).2.2.2.2.2.2))
  else if pSign si le p = 119 then (rWtR si le (p + 1), (si, le, rWtP si le (p + 1), nu, pSign si le p, rWtV si le (p + 1) va, ai, rd, ho))
  else if pSign si le p = 122 then (1, (si, le, p + 1, nu, pSign si le p, va, ai, rd, ho))
  else (0, (si, le, p, nu, pSign si le p, va, ai, rd, ho))
/-- the place set -/
abbrev rAt (v : RV) (p : Nat) : RV := (v.1, v.2.1, p, v.2.2.2.1, v.2.2.2.2.1, v.2.2.2.2.2.1, v.2.2.2.2.2.2.1, v.2.2.2.2.2.2.2.1, v.2.2.2.2.2.2.2.2)
def rFa : Nat → RV → Int32 × RV
  | 0, v => (nI v.2.2.1, v)
  | f + 1, v =>
    if (rOrd v).1 = 0 then (nI (rOrd v).2.2.2.1, (rOrd v).2)
    else if nI (rOrd v).2.2.2.1 = nI (rOrd v).2.2.1 then (-6, (rOrd v).2)
    else if rSgR (rOrd v).2.1 (rOrd v).2.2.1 (rOrd v).2.2.2.1 59 = 0 then (nI (rSgP (rOrd v).2.1 (rOrd v).2.2.1 (rOrd v).2.2.2.1 59), rAt (rOrd v).2 (rSgP (rOrd v).2.1 (rOrd v).2.2.1 (rOrd v).2.2.2.1 59))
    else rFa f (rAt (rOrd v).2 (rSgP (rOrd v).2.1 (rOrd v).2.2.1 (rOrd v).2.2.2.1 59))
theorem z10 : ((1 : Int32) = 0) = False := eq_false (by decide)
theorem zBit {p : Prop} [Decidable p] : (if p then (0 : Int32) else 1) = 0 ∨ (if p then (0 : Int32) else 1) = 1 := by
  split
  · exact Or.inl rfl
  · exact Or.inr rfl
theorem zNarBb {v : Int32} (h : v = 0 ∨ v = 1) : narrow .boolean (.int v) = .int v := by
  rcases h with rfl | rfl <;> rfl
theorem rNumR_b (si : Nat → Int32) (le p : Nat) : rNumR si le p = 0 ∨ rNumR si le p = 1 := zBit
theorem rVaR_b (si : Nat → Int32) (le p : Nat) : rVaR si le p = 0 ∨ rVaR si le p = 1 := zBit
theorem rWtR_b (si : Nat → Int32) (le p : Nat) : rWtR si le p = 0 ∨ rWtR si le p = 1 := by
  unfold rWtR
  split
  · exact Or.inl rfl
  · exact zBit
theorem rHrs_b (si : Nat → Int32) (le p : Nat) (va ai rd ho : Int32) : (rHrs si le p va ai rd ho).1 = 0 ∨ (rHrs si le p va ai rd ho).1 = 1 := by
  unfold rHrs
  repeat' split
  all_goals first | exact Or.inl rfl | exact Or.inr rfl
-- places stay in the pad
theorem pSign_in {si : Nat → Int32} {le p : Nat} (h : ¬ pSign si le p = 0) : p < le ∧ p < 80 := by
  unfold pSign at h
  by_cases h1 : le ≤ p
  · rw [if_pos h1] at h; exact absurd rfl h
  · rw [if_neg h1] at h
    by_cases h2 : 80 ≤ p
    · rw [if_pos h2] at h; exact absurd rfl h
    · omega
theorem rSgP_le {si : Nat → Int32} {le p : Nat} {ch : Int32} (hc : ¬ ch = 0) (hp : p ≤ 80) : rSgP si le p ch ≤ 80 := by
  unfold rSgP
  by_cases h : pSign si le p = ch
  · rw [if_pos h]
    have := pSign_in (si := si) (le := le) (p := p) (by rw [h]; exact hc)
    omega
  · rw [if_neg h]; exact hp
theorem pDig_nz {x : Int32} (h : ¬ pDig x = 0) : ¬ x = 0 := by
  intro e
  subst e
  exact h (by decide)
theorem rN_le (si : Nat → Int32) (le : Nat) : ∀ (f d : Nat) (n : Int32) (p : Nat), p ≤ 80 → (rN si le f d n p).2.2 ≤ 80
  | 0, d, n, p, h => h
  | f + 1, d, n, p, h => by
    unfold rN
    by_cases h1 : pDig (pSign si le p) = 0
    · rw [if_pos h1]; exact h
    · rw [if_neg h1]
      by_cases h2 : ¬ d = 0 ∧ n ≤ 0
      · rw [if_pos h2]; exact h
      · rw [if_neg h2]
        have := pSign_in (pDig_nz h1)
        exact rN_le si le f _ _ _ (by omega)
theorem rNumP_le {si : Nat → Int32} {le p : Nat} (hp : p ≤ 80) : rNumP si le p ≤ 80 := rN_le si le 4 0 0 p hp
theorem rVaP_le {si : Nat → Int32} {le p : Nat} (hp : p ≤ 80) : rVaP si le p ≤ 80 := rNumP_le (rSgP_le (by decide) hp)
theorem rWtP_le {si : Nat → Int32} {le p : Nat} (hp : p ≤ 80) : rWtP si le p ≤ 80 := by
  unfold rWtP
  by_cases h : rWtR si le p = 0
  · rw [if_pos h]; exact hp
  · rw [if_neg h]
    have h2 : ¬ pSign si le p = 0 := by
      intro e
      apply h
      unfold rWtR
      rw [e]
      decide
    have := pSign_in h2
    omega
theorem rHrs_le {si : Nat → Int32} {le p : Nat} {va ai rd ho : Int32} (hp : p ≤ 80) : (rHrs si le p va ai rd ho).2.1 ≤ 80 := by
  have h1 := rVaP_le (si := si) (le := le) hp
  have h2 := rSgP_le (si := si) (le := le) (ch := 44) (by decide) h1
  have h3 := rNumP_le (si := si) (le := le) h2
  have h4 := rSgP_le (si := si) (le := le) (ch := 114) (by decide) h3
  have h5 := rSgP_le (si := si) (le := le) (ch := 42) (by decide) h4
  have h6 := rNumP_le (si := si) (le := le) h5
  unfold rHrs
  repeat' split
  all_goals assumption
theorem rOrd_le {v : RV} (hp : v.2.2.1 ≤ 80) : (rOrd v).2.2.2.1 ≤ 80 := by
  obtain ⟨si, le, p, nu, od, va, ai, rd, ho⟩ := v
  have hp : p ≤ 80 := hp
  by_cases h : pSign si le p = 0
  · simp only [rOrd, h]
    rw [if_neg (by decide), if_neg (by decide), if_neg (by decide), if_neg (by decide)]
    exact hp
  · have := pSign_in h
    have h1 := rVaP_le (si := si) (le := le) (p := p + 1) (by omega)
    have h2 := rHrs_le (si := si) (le := le) (p := p + 1) (va := va) (ai := ai) (rd := rd) (ho := ho) (by omega)
    have h3 := rWtP_le (si := si) (le := le) (p := p + 1) (by omega)
    unfold rOrd
    dsimp only
    repeat' split
    all_goals first | assumption | (dsimp only; omega)
theorem rOrd_si (v : RV) : (rOrd v).2.1 = v.1 := by
  obtain ⟨si, le, p, nu, od, va, ai, rd, ho⟩ := v
  unfold rOrd
  dsimp only
  repeat' split
  all_goals rfl
theorem rOrd_len (v : RV) : (rOrd v).2.2.1 = v.2.1 := by
  obtain ⟨si, le, p, nu, od, va, ai, rd, ho⟩ := v
  unfold rOrd
  dsimp only
  repeat' split
  all_goals rfl
