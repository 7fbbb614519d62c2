/-! the characters of a long -/
theorem lW (w : Int64) : w = lN w.toBitVec.toNat := by
  apply Int64.toBitVec_inj.mp
  apply BitVec.eq_of_toNat_eq
  show _ = w.toBitVec.toNat % 2 ^ 64
  rw [Nat.mod_eq_of_lt w.toBitVec.isLt]
theorem qW (w : Int64) : w.toBitVec.toNat < 2 ^ 64 := w.toBitVec.isLt
theorem zUs63 : ∀ s < 64, ((nI s).toInt64.toUInt64 &&& Int64.toUInt64 63).toNat = s := by decide
theorem lN_nat0 {n : Nat} (h : n < 2 ^ 64) : (lN n).toUInt64.toNat = n := Nat.mod_eq_of_lt h
theorem zUshr_lN {N s : Nat} (hN : N < 2 ^ 64) (hs : s < 64) : zUshr (lN N) (nI s) = lN (N / 2 ^ s) := by
  apply Int64.toBitVec_inj.mp
  apply BitVec.eq_of_toNat_eq
  show ((lN N).toUInt64 >>> ((nI s).toInt64.toUInt64 &&& Int64.toUInt64 63)).toNat = (N / 2 ^ s) % 2 ^ 64
  rw [UInt64.toNat_shiftRight, lN_nat0 hN, zUs63 s hs, Nat.mod_eq_of_lt hs, Nat.shiftRight_eq_div_pow, Nat.mod_eq_of_lt]
  exact Nat.lt_of_le_of_lt (Nat.div_le_self _ _) hN
theorem zSh8 {N k : Nat} (hN : N < 2 ^ 64) (hk : k < 8) : zUshr (lN N) (8 * nI k) = lN (N / 256 ^ k) := by
  rw [show (8 : Int32) * nI k = nI (8 * k) from by rw [show (8 : Int32) = nI 8 from rfl, pk_mul], zUshr_lN hN (by omega), Nat.pow_mul]
theorem zShS {N k : Nat} (hN : N < 2 ^ 64) : zUshr (lN (N / 256 ^ k)) 8 = lN (N / 256 ^ (k + 1)) := by
  rw [show (8 : Int32) = nI 8 from rfl, zUshr_lN (Nat.lt_of_le_of_lt (Nat.div_le_self _ _) hN) (by decide), Nat.div_div_eq_div_mul, show 256 ^ k * 2 ^ 8 = 256 ^ (k + 1) from (Nat.pow_succ (n := 256) (m := k)).symm]
theorem lN_255 {N : Nat} (h : N < 2 ^ 64) : lN N &&& 255 = lN (N % 256) := by
  apply Int64.toBitVec_inj.mp
  apply BitVec.eq_of_toNat_eq
  rw [Int64.toBitVec_and, BitVec.toNat_and]
  show (N % 2 ^ 64) &&& 255 = N % 256 % 2 ^ 64
  rw [Nat.mod_eq_of_lt h, Nat.mod_eq_of_lt (a := N % 256) (by omega)]
  exact Nat.and_two_pow_sub_one_eq_mod N 8
theorem nI_255 (n : Nat) : nI n &&& 255 = nI (n % 256) := by
  apply Int32.toBitVec_inj.mp
  apply BitVec.eq_of_toNat_eq
  rw [Int32.toBitVec_and, BitVec.toNat_and]
  show (n % 2 ^ 32) &&& 255 = n % 256 % 2 ^ 32
  rw [show (n % 2 ^ 32) &&& 255 = n % 2 ^ 32 % 256 from Nat.and_two_pow_sub_one_eq_mod _ 8]
  omega
/-- byte k of a number -/
def qB (N k : Nat) : Nat := N / 256 ^ k % 256
theorem qB_lt (N k : Nat) : qB N k < 256 := Nat.mod_lt _ (by decide)
/-- how many characters, none if something is amiss -/
def qSg (N : Nat) : Nat → Nat → Nat
  | 0, _ => 8
  | f + 1, k => if qB N k = 0 then (if N / 256 ^ k = 0 then k else 0) else if qB N k < 33 then 0 else if 126 < qB N k then 0 else qSg N f (k + 1)
/-- the characters, the first ahead, appended -/
def qAp (N : Nat) : Nat → (Nat → Int32) → Nat → (Nat → Int32)
  | 0, si, _ => si
  | n + 1, si, le => qAp N n (upd si le (nI (qB N n))) (le + 1)
theorem zCode (w : Int64) {k : Nat} (hk : k < 8) : (zUshr w (8 * nI k)).toInt32 &&& 255 = nI (qB w.toBitVec.toNat k) := by
  have e : zUshr w (8 * nI k) = lN (w.toBitVec.toNat / 256 ^ k) := by
    rw [← zSh8 (qW w) hk, ← lW w]
  rw [e, lN_i, nI_255]
  rfl
theorem zCodeL (w : Int64) {k : Nat} (hk : k < 8) : (zUshr w (8 * nI k) &&& 255).toInt32 = nI (qB w.toBitVec.toNat k) := by
  have e : zUshr w (8 * nI k) = lN (w.toBitVec.toNat / 256 ^ k) := by
    rw [← zSh8 (qW w) hk, ← lW w]
  rw [e, lN_255 (Nat.lt_of_le_of_lt (Nat.div_le_self _ _) (qW w)), lN_i]
  rfl
theorem lgc0 (x y : Int64) : lg_cmp x y = 0 ↔ x = y := by
  constructor
  · intro h
    have h1 : ¬ x < y := fun q => by
      have := (lg_cmp_lt x y).mpr q
      rw [h] at this
      exact absurd this (by decide)
    have h2 : ¬ y < x := fun q => by
      have := (lg_cmp_gt x y).mpr q
      rw [h] at this
      exact absurd this (by decide)
    rw [Int64.lt_iff_toInt_lt] at h1 h2
    exact Int64.toInt_inj.mp (by omega)
  · rintro rfl
    have h1 := (lg_cmp_lt x x)
    have h2 := (lg_cmp_gt x x)
    have h3 : ¬ x < x := by rw [Int64.lt_iff_toInt_lt]; omega
    have g1 : ¬ lg_cmp x x < 0 := fun q => h3 (h1.mp q)
    have g2 : ¬ 0 < lg_cmp x x := fun q => h3 (h2.mp q)
    rw [Int32.lt_iff_toInt_lt] at g1 g2
    have g0 : (0 : Int32).toInt = 0 := by decide
    exact Int32.toInt_inj.mp (by omega)
theorem lN_0 {n : Nat} (h : n < 2 ^ 64) : lN n = 0 ↔ n = 0 := by
  constructor
  · intro q
    have this : (lN n).toUInt64.toNat = (0 : Int64).toUInt64.toNat := congrArg (fun x : Int64 => x.toUInt64.toNat) q
    rw [lN_nat0 h] at this
    exact this
  · rintro rfl
    rfl
theorem zShZ (w : Int64) {k : Nat} (hk : k < 8) : lg_cmp (zUshr w (8 * nI k)) 0 = 0 ↔ w.toBitVec.toNat / 256 ^ k = 0 := by
  have e : zUshr w (8 * nI k) = lN (w.toBitVec.toNat / 256 ^ k) := by
    rw [← zSh8 (qW w) hk, ← lW w]
  rw [lgc0, e, lN_0 (Nat.lt_of_le_of_lt (Nat.div_le_self _ _) (qW w))]
theorem qSg_end {N k : Nat} (hN : N < 2 ^ 64) (h : k = 8 ∨ (k < 8 ∧ qB N k = 0)) : qSg N (8 - k) k = if N / 256 ^ k = 0 then k else 0 := by
  rcases h with rfl | ⟨h1, h2⟩
  · rw [if_pos (Nat.div_eq_of_lt (by rw [show (256 : Nat) ^ 8 = 2 ^ 64 by decide]; exact hN))]
    rfl
  · rw [show 8 - k = (7 - k) + 1 by omega, qSg, if_pos h2]
theorem zGr {b : Nat} (h : b < 256) : mIn (lN b) 33 126 = 0 ↔ b < 33 ∨ 126 < b := by
  have e1 := lN_lt (a := b) (b := 33) (by omega) (by omega)
  have e2 := lN_lt (a := 126) (b := b) (by omega) (by omega)
  have e1 : lN b < 33 ↔ b < 33 := e1
  have e2 : 126 < lN b ↔ 126 < b := e2
  unfold mIn
  by_cases h1 : b < 33
  · rw [if_pos (e1.mpr h1)]
    exact ⟨fun _ => Or.inl h1, fun _ => rfl⟩
  · rw [if_neg (mt e1.mp h1)]
    by_cases h2 : 126 < b
    · rw [if_pos (e2.mpr h2)]
      exact ⟨fun _ => Or.inr h2, fun _ => rfl⟩
    · rw [if_neg (mt e2.mp h2)]
      exact ⟨fun q => absurd q (by decide), fun q => (q.elim h1 h2).elim⟩
theorem zChr : ∀ b < 256, vp_nar .char ((nI b).toUInt32 % 65536).toInt32 = nI b := by decide +kernel
theorem qSg_le8 (N : Nat) : ∀ f k, f + k = 8 → qSg N f k ≤ 8
  | 0, k, h => Nat.le_refl _
  | f + 1, k, h => by
    rw [qSg]
    repeat' split
    all_goals first | omega | exact qSg_le8 N f (k + 1) (by omega)
theorem qSg_le (N : Nat) : qSg N 8 0 ≤ 8 := qSg_le8 N 8 0 rfl
