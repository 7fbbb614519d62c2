/-! orders of a text, read and carried out by the reference -/
abbrev wH (pa : Nat → Int32) (pq sp : Nat) : Int32 × Nat × Int32 × Int32 × Int32 × Int32 × Int32 := rHrs pa pq sp 0 0 0 0
/-- what an order, read, does to the state: the state and the error -/
def mErr (x : Int32) : Int32 := if x < 0 then x else 0
def mActA (al : Nat → Int32) (L : Nat) (w : RV) : Nat → Int32 :=
  if w.2.2.2.2.1 = 98 then mSetA al 2 w.2.2.2.2.2.1 else if w.2.2.2.2.1 = 104 then mPaA al L w.2.2.2.2.2.1 w.2.2.2.2.2.2.1 w.2.2.2.2.2.2.2.1 w.2.2.2.2.2.2.2.2 else if w.2.2.2.2.1 = 119 then mWtA al w.2.2.2.2.2.1 else mZeA al
def mActE (al : Nat → Int32) (L : Nat) (w : RV) : Int32 :=
  if w.2.2.2.2.1 = 98 then mErr (mSetR al 2 w.2.2.2.2.2.1) else if w.2.2.2.2.1 = 104 then mErr (mPaR al L w.2.2.2.2.2.1 w.2.2.2.2.2.2.1 w.2.2.2.2.2.2.2.1 w.2.2.2.2.2.2.2.2) else if w.2.2.2.2.1 = 119 then mErr (mWtR al w.2.2.2.2.2.1) else mErr (al 5 + 1000000000)
theorem rOrd_98 {pa : Nat → Int32} {pq sp : Nat} (h : pSign pa pq sp = 98) : rOrd (wOf pa pq sp) = (rVaR pa pq (sp + 1), (pa, pq, rVaP pa pq (sp + 1), rVaN pa pq (sp + 1), 98, rVaV pa pq (sp + 1) 0, 0, 0, 0)) := by
  unfold rOrd
  dsimp only
  rw [if_pos h, h]
theorem rOrd_104 {pa : Nat → Int32} {pq sp : Nat} (h : pSign pa pq sp = 104) : rOrd (wOf pa pq sp) = ((wH pa pq (sp + 1)).1, (pa, pq, (wH pa pq (sp + 1)).2.1, (wH pa pq (sp + 1)).2.2.1, 104, (wH pa pq (sp + 1)).2.2.2.1, (wH pa pq (sp + 1)).2.2.2.2.1, (wH pa pq (sp + 1)).2.2.2.2.2.1, (wH pa pq (sp + 1)).2.2.2.2.2.2)) := by
  unfold rOrd
  dsimp only
  rw [if_neg (by rw [h]; decide), if_pos h, h]
theorem rOrd_119 {pa : Nat → Int32} {pq sp : Nat} (h : pSign pa pq sp = 119) : rOrd (wOf pa pq sp) = (rWtR pa pq (sp + 1), (pa, pq, rWtP pa pq (sp + 1), 0, 119, rWtV pa pq (sp + 1) 0, 0, 0, 0)) := by
  unfold rOrd
  dsimp only
  rw [if_neg (by rw [h]; decide), if_neg (by rw [h]; decide), if_pos h, h]
theorem rOrd_122 {pa : Nat → Int32} {pq sp : Nat} (h : pSign pa pq sp = 122) : rOrd (wOf pa pq sp) = (1, (pa, pq, sp + 1, 0, 122, 0, 0, 0, 0)) := by
  unfold rOrd
  dsimp only
  rw [if_neg (by rw [h]; decide), if_neg (by rw [h]; decide), if_neg (by rw [h]; decide), if_pos h, h]
theorem rOrd_no {pa : Nat → Int32} {pq sp : Nat} (h1 : ¬ pSign pa pq sp = 98) (h2 : ¬ pSign pa pq sp = 104) (h3 : ¬ pSign pa pq sp = 119) (h4 : ¬ pSign pa pq sp = 122) : rOrd (wOf pa pq sp) = (0, (pa, pq, sp, 0, pSign pa pq sp, 0, 0, 0, 0)) := by
  unfold rOrd
  dsimp only
  rw [if_neg h1, if_neg h2, if_neg h3, if_neg h4]
/-- a digit of a weight -/
theorem mWt_0 {pa : Nat → Int32} {pq sp : Nat} (h : mRng (pSign pa pq sp) 48 55 = 0) : rWtR pa pq sp = 0 := by
  unfold rWtR
  by_cases h1 : pSign pa pq sp - 48 < 0
  · rw [if_pos h1]
  rw [if_neg h1]
  by_cases h2 : (8 : Int32) ≤ pSign pa pq sp - 48
  · rw [if_pos h2]
  exfalso
  obtain ⟨g1, g2⟩ := zNC (N := 8) h1 h2 (by decide)
  have g3 : pSign pa pq sp = (pSign pa pq sp - 48) + 48 := (Int32.sub_add_cancel _ _).symm
  rw [g3, g1] at h
  generalize (pSign pa pq sp - 48).toNatClampNeg = m at h g2
  rcases (show m = 0 ∨ m = 1 ∨ m = 2 ∨ m = 3 ∨ m = 4 ∨ m = 5 ∨ m = 6 ∨ m = 7 by omega) with q | q | q | q | q | q | q | q <;> subst q <;> exact absurd h (by decide)
theorem mWt_1 {pa : Nat → Int32} {pq sp : Nat} (h : ¬ mRng (pSign pa pq sp) 48 55 = 0) : ¬ rWtR pa pq sp = 0 ∧ pSign pa pq sp = pa sp ∧ sp < pq ∧ sp < 80 := by
  have h0 : ¬ pSign pa pq sp = 0 := fun e => h (by rw [e]; decide)
  obtain ⟨h1, h2⟩ := pSign_in h0
  refine ⟨?_, by rw [pSign, if_neg (by omega), if_neg (by omega)], h1, h2⟩
  obtain ⟨g1, g2, g3⟩ := zRange (lo := 48) (hi := 55) (by decide) (by decide) h
  unfold rWtR
  rw [g1]
  generalize (pSign pa pq sp).toNatClampNeg = m at g2 g3
  rcases (show m = 48 ∨ m = 49 ∨ m = 50 ∨ m = 51 ∨ m = 52 ∨ m = 53 ∨ m = 54 ∨ m = 55 by omega) with q | q | q | q | q | q | q | q <;> subst q <;> decide
theorem rWt_p {pa : Nat → Int32} {pq sp : Nat} (h : ¬ rWtR pa pq sp = 0) : rWtP pa pq sp = sp + 1 := if_neg h
theorem rWt_p0 {pa : Nat → Int32} {pq sp : Nat} (h : rWtR pa pq sp = 0) : rWtP pa pq sp = sp := if_pos h
/-- the place of the first fault -/
def qFa (pa : Nat → Int32) (pq : Nat) : Nat → Nat → Int32
  | 0, p => nI p
  | f + 1, p => if (rOrd (wOf pa pq p)).1 = 0 then nI (rOrd (wOf pa pq p)).2.2.2.1
    else if rSgR pa pq (rOrd (wOf pa pq p)).2.2.2.1 59 = 0 then (if nI (rOrd (wOf pa pq p)).2.2.2.1 = nI pq then -6 else nI (rOrd (wOf pa pq p)).2.2.2.1)
    else qFa pa pq f (rSgP pa pq (rOrd (wOf pa pq p)).2.2.2.1 59)
theorem pSign_80 {pa : Nat → Int32} {pq p : Nat} (h : 80 ≤ p) : pSign pa pq p = 0 := by
  unfold pSign
  by_cases h1 : pq ≤ p
  · rw [if_pos h1]
  · rw [if_neg h1, if_pos h]
theorem qFa_fail {pa : Nat → Int32} {pq f p : Nat} (hf : 80 ≤ f + p) (h : (rOrd (wOf pa pq p)).1 = 0) : qFa pa pq f p = nI (rOrd (wOf pa pq p)).2.2.2.1 := by
  cases f with
  | zero =>
    have e := pSign_80 (pa := pa) (pq := pq) (p := p) (by omega)
    rw [rOrd_no (by rw [e]; decide) (by rw [e]; decide) (by rw [e]; decide) (by rw [e]; decide)]
    rfl
  | succ f => rw [qFa, if_pos h]
theorem rOrd_gt {pa : Nat → Int32} {pq p : Nat} (h : ¬ (rOrd (wOf pa pq p)).1 = 0) : p < pq ∧ p < 80 := by
  have h0 : ¬ pSign pa pq p = 0 := by
    intro e
    apply h
    rw [rOrd_no (by rw [e]; decide) (by rw [e]; decide) (by rw [e]; decide) (by rw [e]; decide)]
  exact pSign_in h0
theorem rN_ge (si : Nat → Int32) (le : Nat) : ∀ (f d : Nat) (n : Int32) (p : Nat), p ≤ (rN si le f d n p).2.2
  | 0, d, n, p => Nat.le_refl _
  | f + 1, d, n, p => by
    unfold rN
    repeat' split
    · exact Nat.le_refl _
    · exact Nat.le_refl _
    · have := rN_ge si le f (d + 1) (n * 10 + pSign si le p - 48) (p + 1)
      omega
theorem rSgP_ge (si : Nat → Int32) (le p : Nat) (ch : Int32) : p ≤ rSgP si le p ch := by
  unfold rSgP
  split <;> omega
theorem rNumP_ge (si : Nat → Int32) (le p : Nat) : p ≤ rNumP si le p := rN_ge si le 4 0 0 p
theorem rVaP_ge (si : Nat → Int32) (le p : Nat) : p ≤ rVaP si le p := Nat.le_trans (rSgP_ge si le p 45) (rNumP_ge _ _ _)
theorem rHrs_ge (si : Nat → Int32) (le p : Nat) (va ai rd ho : Int32) : p ≤ (rHrs si le p va ai rd ho).2.1 := by
  have h1 := rVaP_ge si le p
  have h2 := rSgP_ge si le (rVaP si le p) 44
  have h3 := rNumP_ge si le (rSgP si le (rVaP si le p) 44)
  have h4 := rSgP_ge si le (rNumP si le (rSgP si le (rVaP si le p) 44)) 114
  have h5 := rSgP_ge si le (rSgP si le (rNumP si le (rSgP si le (rVaP si le p) 44)) 114) 42
  have h6 := rNumP_ge si le (rSgP si le (rSgP si le (rNumP si le (rSgP si le (rVaP si le p) 44)) 114) 42)
  unfold rHrs
  repeat' split
  all_goals (dsimp only; omega)
theorem rOrd_ge (v : RV) : v.2.2.1 ≤ (rOrd v).2.2.2.1 := by
  obtain ⟨si, le, p, nu, od, va, ai, rd, ho⟩ := v
  have h1 := rVaP_ge si le (p + 1)
  have h2 := rHrs_ge si le (p + 1) va ai rd ho
  have h3 : p + 1 ≤ rWtP si le (p + 1) := by unfold rWtP; split <;> omega
  unfold rOrd
  dsimp only
  repeat' split
  all_goals (dsimp only; omega)
theorem qFa_ok {pa : Nat → Int32} {pq f p : Nat} (hf : 80 ≤ f + p) (h : ¬ (rOrd (wOf pa pq p)).1 = 0) : ∃ g, f = g + 1 ∧ 80 ≤ g + (p + 1) ∧ p ≤ (rOrd (wOf pa pq p)).2.2.2.1 := by
  have h1 := rOrd_gt h
  have h2 := rOrd_ge (wOf pa pq p)
  exact ⟨f - 1, by omega, by omega, h2⟩
/-- the orders carried out by the reference: the state and how many -/
def mRun (pa : Nat → Int32) (pq : Nat) : Nat → Nat → (Nat → Int32) → Int32 → (Nat → Int32) × Int32
  | 0, _, al, n => (al, n)
  | f + 1, p, al, n =>
    if mActE al (al 9).toNatClampNeg (rOrd (wOf pa pq p)).2 = 0 then
      (if rSgR pa pq (rOrd (wOf pa pq p)).2.2.2.1 59 = 0 then (mActA al (al 9).toNatClampNeg (rOrd (wOf pa pq p)).2, n + 1)
       else mRun pa pq f (rSgP pa pq (rOrd (wOf pa pq p)).2.2.2.1 59) (mActA al (al 9).toNatClampNeg (rOrd (wOf pa pq p)).2) (n + 1))
    else (mActA al (al 9).toNatClampNeg (rOrd (wOf pa pq p)).2, n)
theorem mActA_9 {al : Nat → Int32} {L : Nat} (hL : al 9 = nI L) (h8 : L ≤ 48) (w : RV) : mActA al L w 9 = nI (mActA al L w 9).toNatClampNeg ∧ (mActA al L w 9).toNatClampNeg ≤ 48 := by
  have key : ∀ x : Int32, (∃ n : Nat, n ≤ 48 ∧ x = nI n) → x = nI x.toNatClampNeg ∧ x.toNatClampNeg ≤ 48 := by
    rintro x ⟨n, hn, rfl⟩
    have e : (nI n).toNatClampNeg = n := by
      show (nI n).toInt.toNat = n
      rw [nI_toInt (by omega)]
      rfl
    rw [e]
    exact ⟨rfl, hn⟩
  apply key
  have hu : ∀ (k : Nat) (x : Int32), k < 9 → ∃ n : Nat, n ≤ 48 ∧ upd al k x 9 = nI n := fun k x hk => ⟨L, h8, by rw [← hL]; exact if_neg (by omega)⟩
  unfold mActA
  by_cases h1 : w.2.2.2.2.1 = 98
  · rw [if_pos h1, mSetA]
    by_cases h2 : mIsS 2 w.2.2.2.2.2.1 = 0
    · rw [if_pos h2]; exact ⟨L, h8, hL⟩
    · rw [if_neg h2]; exact hu _ _ (by decide)
  rw [if_neg h1]
  by_cases h1 : w.2.2.2.2.1 = 104
  · rw [if_pos h1, mPaA]
    split
    · exact ⟨_, mLenN_le h8 _, mGoN_9 hL _⟩
    · exact ⟨L, h8, hL⟩
  rw [if_neg h1]
  by_cases h1 : w.2.2.2.2.1 = 119
  · rw [if_pos h1, mWtA]
    split
    · exact ⟨L, h8, hL⟩
    · exact hu _ _ (by decide)
  rw [if_neg h1, mZeA]
  refine ⟨L, h8, ?_⟩
  rw [← hL]
  exact (if_neg (by decide)).trans (if_neg (by decide))
/-- a pad that reads well from p on -/
def qOk (pa : Nat → Int32) (pq f p : Nat) : Prop := qFa pa pq f p = -6
theorem nI_ne6 (n : Nat) (h : n < 2 ^ 31) : ¬ nI n = -6 := by
  intro e
  have := congrArg Int32.toInt e
  rw [nI_toInt h] at this
  have h2 : (-6 : Int32).toInt = -6 := by decide
  omega
theorem qOk_step {pa : Nat → Int32} {pq f p : Nat} (hp : p ≤ 80) (hf : 80 ≤ f + p) (h : qFa pa pq f p = -6) : ¬ (rOrd (wOf pa pq p)).1 = 0 ∧ ∃ g, f = g + 1 ∧ (¬ rSgR pa pq (rOrd (wOf pa pq p)).2.2.2.1 59 = 0 → qFa pa pq g (rSgP pa pq (rOrd (wOf pa pq p)).2.2.2.1 59) = -6 ∧ 80 ≤ g + rSgP pa pq (rOrd (wOf pa pq p)).2.2.2.1 59) := by
  have h1 : ¬ (rOrd (wOf pa pq p)).1 = 0 := by
    intro e
    rw [qFa_fail hf e] at h
    exact nI_ne6 _ (by have := rOrd_le (v := wOf pa pq p) hp; omega) h
  obtain ⟨g, rfl, h3, h4⟩ := qFa_ok hf h1
  refine ⟨h1, g, rfl, fun h5 => ?_⟩
  rw [qFa, if_neg h1, if_neg h5] at h
  refine ⟨h, ?_⟩
  rw [rSgP_1 (rSgR_1 h5)]
  omega
