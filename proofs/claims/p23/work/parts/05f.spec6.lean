/-! the reference's texts, undo and slots -/
def mAl0 : Nat → Int32 := fun k => match k with
  | 0 => 12
  | 1 => 15
  | 2 => 0
  | 3 => 500
  | _ => 0
theorem mRng_b (x lo hi : Int32) : mRng x lo hi = 0 ∨ mRng x lo hi = 1 := by
  unfold mRng
  repeat' split
  all_goals first | exact Or.inl rfl | exact Or.inr rfl
theorem mRng_one (x c : Int32) : mRng x c c = if x = c then 1 else 0 := by
  unfold mRng
  by_cases h : x = c
  · subst h
    have hx : ¬ x < x := by rw [Int32.lt_iff_toInt_lt]; omega
    rw [if_neg hx, if_neg hx, if_pos rfl]
  · rw [if_neg h]
    by_cases h1 : x < c
    · rw [if_pos h1]
    · rw [if_neg h1, if_pos]
      rw [Int32.lt_iff_toInt_lt] at h1 ⊢
      have : ¬ x.toInt = c.toInt := fun q => h (Int32.toInt_inj.mp q)
      omega
def mNumN (pa : Nat → Int32) (pq sp : Nat) (nu : Int32) : Int32 := if rNumR pa pq sp = 0 then nu else rNumN pa pq sp
def mVaN (pa : Nat → Int32) (pq sp : Nat) (nu : Int32) : Int32 := if rSgR pa pq sp 45 = 0 then mNumN pa pq (rSgP pa pq sp 45) nu else -(mNumN pa pq (rSgP pa pq sp 45) nu)
def mRes (al sl : Nat → Int32) (k : Nat) : Nat → Int32 := mPut (fun j => sl (347 * k + j)) al 0 347
theorem rN_stop {si : Nat → Int32} {le f d : Nat} {n : Int32} {p : Nat} (h : f = 0 ∨ pDig (pSign si le p) = 0 ∨ (¬ d = 0 ∧ n ≤ 0)) : rN si le f d n p = (d, n, p) := by
  cases f with
  | zero => rfl
  | succ f =>
    rw [rN]
    by_cases h1 : pDig (pSign si le p) = 0
    · rw [if_pos h1]
    · rw [if_neg h1]
      rcases h with h | h | h
      · omega
      · exact absurd h h1
      · rw [if_pos h]
theorem mDig {x : Int32} (h : ¬ mRng x 48 57 = 0) : ∃ c : Nat, c ≤ 9 ∧ x = nI (48 + c) := by
  obtain ⟨h1, h2, h3⟩ := zRange (lo := 48) (hi := 57) (by decide) (by decide) h
  exact ⟨x.toNatClampNeg - 48, by omega, by rw [show 48 + (x.toNatClampNeg - 48) = x.toNatClampNeg by omega]; exact h1⟩
def p10 : Nat → Nat
  | 1 => 10
  | 2 => 100
  | 3 => 1000
  | _ => 10000
def mNI (pa : Nat → Int32) (pq sp q : Nat) (n : Int32) (d N : Nat) : Prop := n = nI N ∧ 1 ≤ d ∧ d ≤ 4 ∧ rN pa pq (4 - d) d n q = rN pa pq 4 0 0 sp ∧ N < p10 d ∧ (N = 0 ∨ p10 d ≤ 10 * N) ∧ q ≤ 80
theorem pSign_val {pa : Nat → Int32} {pq q : Nat} (h : ¬ mRng (pSign pa pq q) 48 57 = 0) : pSign pa pq q = pa q ∧ q < pq ∧ q < 80 := by
  have h0 : ¬ pSign pa pq q = 0 := fun e => h (by rw [e]; decide)
  obtain ⟨h1, h2⟩ := pSign_in h0
  exact ⟨by rw [pSign, if_neg (by omega), if_neg (by omega)], h1, h2⟩
theorem mNI_0 {pa : Nat → Int32} {pq sp : Nat} (h : ¬ mRng (pSign pa pq sp) 48 57 = 0) : ∃ N, mNI pa pq sp (sp + 1) (pa sp - 48) 1 N := by
  obtain ⟨e1, h1, h2⟩ := pSign_val h
  obtain ⟨c, hc, e2⟩ := mDig h
  have e3 : pa sp - 48 = nI c := by
    rw [← e1, e2, show (48 : Int32) = nI 48 from rfl, pk_sub (by omega)]
    exact congrArg nI (by omega)
  refine ⟨c, e3, by decide, by decide, ?_, by show c < 10; omega, ?_, by omega⟩
  · rw [show rN pa pq 4 0 0 sp = rN pa pq 3 1 (0 * 10 + pSign pa pq sp - 48) (sp + 1) from by
      rw [rN, if_neg (show ¬ pDig (pSign pa pq sp) = 0 from h), if_neg (fun q => q.1 rfl)], e1]
    rw [show (0 : Int32) * 10 + pa sp = pa sp from by rw [Int32.zero_mul, Int32.zero_add]]
  · show c = 0 ∨ 10 ≤ 10 * c
    omega
theorem mNI_v {n x : Int32} {N c : Nat} (h1 : n = nI N) (h2 : x = nI (48 + c)) : 10 * n + x - 48 = nI (10 * N + c) := by
  rw [h1, h2, show (10 : Int32) = nI 10 from rfl, pk_mul, nI_add, show (48 : Int32) = nI 48 from rfl, pk_sub (by omega)]
  exact congrArg nI (by omega)
theorem p10_le (d : Nat) : p10 d ≤ 10000 := by
  unfold p10
  split <;> decide
theorem mNI_s {pa : Nat → Int32} {pq sp q : Nat} {n : Int32} {d N : Nat} (hi : mNI pa pq sp q n d N) (h1 : ¬ n ≤ 0) (h2 : ¬ mRng (pSign pa pq q) 48 57 = 0) (h3 : ¬ 9999 < 10 * n + pa q - 48) : d < 4 ∧ ∃ N', mNI pa pq sp (q + 1) (10 * n + pa q - 48) (d + 1) N' := by
  obtain ⟨a1, a2, a3, a4, a5, a6, a7⟩ := hi
  obtain ⟨e1, k1, k2⟩ := pSign_val h2
  obtain ⟨c, hc, e2⟩ := mDig h2
  have e3 := mNI_v (x := pa q) a1 (by rw [← e1]; exact e2)
  have hp := p10_le d
  have hN : ¬ N = 0 := fun q => h1 (by rw [a1, q]; decide)
  rw [e3] at h3
  have h4 := zNlt (a := 9999) h3 (by omega) (by omega)
  have h5 : d < 4 := by
    rcases Nat.lt_or_ge d 4 with q | q
    · exact q
    · have : d = 4 := by omega
      subst this
      have : p10 4 = 10000 := rfl
      omega
  refine ⟨h5, 10 * N + c, e3, by omega, by omega, ?_, ?_, ?_, by omega⟩
  · rw [← a4]
    obtain ⟨f, hf⟩ : ∃ f, 4 - d = f + 1 := ⟨3 - d, by omega⟩
    rw [hf, rN, if_neg (show ¬ pDig (pSign pa pq q) = 0 from h2), if_neg (fun q => h1 q.2), show 4 - (d + 1) = f by omega, e1, Int32.mul_comm n 10]
  · rcases (show d = 1 ∨ d = 2 ∨ d = 3 by omega) with q | q | q <;> subst q <;> simp only [p10] at * <;> omega
  · rcases (show d = 1 ∨ d = 2 ∨ d = 3 by omega) with q | q | q <;> subst q <;> simp only [p10] at * <;> omega
theorem mNI_e {pa : Nat → Int32} {pq sp q : Nat} {n : Int32} {d N : Nat} (hi : mNI pa pq sp q n d N) (h : n ≤ 0 ∨ mRng (pSign pa pq q) 48 57 = 0 ∨ (¬ mRng (pSign pa pq q) 48 57 = 0 ∧ 9999 < 10 * n + pa q - 48)) : rN pa pq 4 0 0 sp = (d, n, q) ∧ ¬ d = 0 := by
  obtain ⟨a1, a2, a3, a4, a5, a6, a7⟩ := hi
  refine ⟨?_, by omega⟩
  rw [← a4]
  apply rN_stop
  rcases h with h | h | ⟨h2, h3⟩
  · exact Or.inr (Or.inr ⟨by omega, h⟩)
  · exact Or.inr (Or.inl h)
  · left
    obtain ⟨e1, k1, k2⟩ := pSign_val h2
    obtain ⟨c, hc, e2⟩ := mDig h2
    have hp := p10_le d
    rw [mNI_v (x := pa q) a1 (by rw [← e1]; exact e2)] at h3
    have h4 := zLt (a := 9999) h3 (by omega) (by omega)
    rcases Nat.lt_or_ge d 4 with q | q
    · rcases (show d = 1 ∨ d = 2 ∨ d = 3 by omega) with q | q | q <;> subst q <;> simp only [p10] at * <;> omega
    · omega
theorem rSgR_1 {si : Nat → Int32} {le p : Nat} {ch : Int32} (h : ¬ rSgR si le p ch = 0) : pSign si le p = ch := by
  unfold rSgR at h
  by_cases q : pSign si le p = ch
  · exact q
  · rw [if_neg q] at h; exact absurd rfl h
theorem rSgR_0 {si : Nat → Int32} {le p : Nat} {ch : Int32} (h : rSgR si le p ch = 0) : ¬ pSign si le p = ch := by
  intro q
  unfold rSgR at h
  rw [if_pos q] at h
  exact absurd h (by decide)
theorem rSgP_1 {si : Nat → Int32} {le p : Nat} {ch : Int32} (h : pSign si le p = ch) : rSgP si le p ch = p + 1 := if_pos h
theorem rSgP_0 {si : Nat → Int32} {le p : Nat} {ch : Int32} (h : ¬ pSign si le p = ch) : rSgP si le p ch = p := if_neg h
theorem mNumN_ok {pa : Nat → Int32} {pq sp : Nat} (nu : Int32) (h : ¬ rNumR pa pq sp = 0) : mNumN pa pq sp nu = rNumN pa pq sp := if_neg h
theorem mVaN_ok {pa : Nat → Int32} {pq sp : Nat} (nu va : Int32) (h : ¬ rVaR pa pq sp = 0) : mVaN pa pq sp nu = rVaV pa pq sp va := by
  unfold mVaN rVaV
  rw [if_neg h, mNumN_ok nu h]
  rfl
abbrev wOf (pa : Nat → Int32) (pq sp : Nat) : RV := (pa, pq, sp, 0, 0, 0, 0, 0, 0)
