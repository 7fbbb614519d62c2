/-! doubles: the mean and its bits -/
theorem fpInt {A : Nat} (h0 : 0 < A) (hA : A < 2 ^ 53) (s : Bool) : ∃ k : Nat, k ≤ 52 ∧ Jvm.FP.Core.roundRatio Jvm.FP.Core.b64 s A 1 0 = .fin s (A * 2 ^ k) (-(k : Int)) := by
  have l1 : A.log2 < 53 := (Nat.log2_lt (by omega)).mpr hA
  have l2 : 2 ^ A.log2 ≤ A := Nat.log2_self_le (by omega)
  have l3 : A < 2 ^ (A.log2 + 1) := Nat.lt_log2_self
  refine ⟨52 - A.log2, by omega, Jvm.FP.Core.roundRatio_exact Jvm.FP.Core.good_b64 (by decide) ⟨?_, ?_, ?_, Or.inr ?_⟩ ?_⟩
  · show A * 2 ^ (52 - A.log2) < 2 ^ 53
    calc A * 2 ^ (52 - A.log2) < 2 ^ (A.log2 + 1) * 2 ^ (52 - A.log2) := Nat.mul_lt_mul_of_pos_right l3 (Nat.two_pow_pos _)
      _ = 2 ^ 53 := by rw [← Nat.pow_add]; congr 1; omega
  · show (-1074 : Int) ≤ _
    omega
  · show _ ≤ (971 : Int)
    omega
  · show 2 ^ 52 ≤ A * 2 ^ (52 - A.log2)
    calc 2 ^ 52 = 2 ^ A.log2 * 2 ^ (52 - A.log2) := by rw [← Nat.pow_add]; congr 1; omega
      _ ≤ _ := Nat.mul_le_mul_right _ l2
  · rw [show ((0 : Int) - -((52 - A.log2 : Nat) : Int)).toNat = 52 - A.log2 by omega, show (-((52 - A.log2 : Nat) : Int) - 0).toNat = 0 by omega]
    omega
theorem fpRange {A L : Nat} (h0 : 0 < A) (hA : A < 2 ^ 32) (h1 : 1 ≤ L) (h2 : L ≤ 48) (s : Bool) : ∃ (c : Nat) (q : Int), Jvm.FP.Core.roundRatio Jvm.FP.Core.b64 s A L 0 = .fin s c q ∧ 2 ^ 52 ≤ c ∧ c < 2 ^ 53 ∧ -64 ≤ q ∧ q ≤ 0 := by
  have hf := Jvm.FP.Core.roundRatio_fits Jvm.FP.Core.good_b64 s A (B := L) h1 0
  have l1 : A.log2 < 32 := (Nat.log2_lt (by omega)).mpr hA
  have l2 : L.log2 < 6 := (Nat.log2_lt (by omega)).mpr (by omega)
  have l3 : -6 ≤ Jvm.FP.Core.leading A L ∧ Jvm.FP.Core.leading A L ≤ 31 := by
    unfold Jvm.FP.Core.leading
    dsimp only
    split <;> omega
  have l4 : Jvm.FP.Core.quantum Jvm.FP.Core.b64 A L 0 = Jvm.FP.Core.leading A L - 52 := by
    unfold Jvm.FP.Core.quantum
    show max (-1074 : Int) (Jvm.FP.Core.leading A L + 0 - (53 - 1)) = _
    omega
  have key : ∃ (c : Nat) (q : Int), Jvm.FP.Core.roundRatio Jvm.FP.Core.b64 s A L 0 = .fin s c q ∧ -64 ≤ q ∧ q ≤ 0 := by
    unfold Jvm.FP.Core.roundRatio
    rw [if_neg (by omega), l4]
    unfold Jvm.FP.Core.roundAt Jvm.FP.Core.settle Jvm.FP.Core.bound
    have g : Jvm.FP.Core.b64.qmax = 971 := by decide
    by_cases hc : Jvm.FP.Core.nearest (Jvm.FP.Core.unitsNum A 0 (Jvm.FP.Core.leading A L - 52)) (Jvm.FP.Core.unitsDen L 0 (Jvm.FP.Core.leading A L - 52)) < 2 ^ Jvm.FP.Core.b64.p
    · rw [if_pos hc, if_pos (by rw [g]; omega)]
      exact ⟨_, _, rfl, by omega, by omega⟩
    · rw [if_neg hc, if_pos (by rw [g]; omega)]
      exact ⟨_, _, rfl, by omega, by omega⟩
  obtain ⟨c, q, e, q1, q2⟩ := key
  rw [e] at hf
  obtain ⟨f1, f2, f3, f4⟩ := hf
  have g1 : Jvm.FP.Core.b64.qmin = -1074 := by decide
  have g2 : Jvm.FP.Core.b64.tails = 2 ^ 52 := by decide
  rw [g1, g2] at f4
  exact ⟨c, q, e, by omega, f1, q1, q2⟩
theorem fpQuot {A L k m : Nat} (h1 : 1 ≤ L) (s : Bool) : Jvm.FP.Core.quotient Jvm.FP.Core.b64 (.fin s (A * 2 ^ k) (-(k : Int))) (.fin false (L * 2 ^ m) (-(m : Int))) = Jvm.FP.Core.roundRatio Jvm.FP.Core.b64 s A L 0 := by
  have hd : ¬ L * 2 ^ m = 0 := Nat.ne_of_gt (Nat.mul_pos h1 (Nat.two_pow_pos _))
  unfold Jvm.FP.Core.quotient
  dsimp only
  rw [if_neg hd]
  have hs : (s != false) = s := by cases s <;> rfl
  rw [hs]
  apply Jvm.FP.Core.roundRatio_congr (Nat.mul_pos h1 (Nat.two_pow_pos _)) h1
  rcases Nat.le_total k m with q | q
  · rw [show (-(k : Int) - -(m : Int) - 0).toNat = m - k by omega, show (0 - (-(k : Int) - -(m : Int))).toNat = 0 by omega]
    have : 2 ^ m = 2 ^ k * 2 ^ (m - k) := by rw [← Nat.pow_add]; congr 1; omega
    rw [this]
    simp only [Nat.pow_zero, Nat.one_mul, Nat.mul_one, Nat.mul_comm, Nat.mul_left_comm, Nat.mul_assoc]
  · rw [show (-(k : Int) - -(m : Int) - 0).toNat = 0 by omega, show (0 - (-(k : Int) - -(m : Int))).toNat = k - m by omega]
    have : 2 ^ k = 2 ^ m * 2 ^ (k - m) := by rw [← Nat.pow_add]; congr 1; omega
    rw [this]
    simp only [Nat.pow_zero, Nat.one_mul, Nat.mul_one, Nat.mul_comm, Nat.mul_left_comm, Nat.mul_assoc]
/-- a double whose bits the class can tell -/
def dGood (x : UInt64) : Prop := x = 0 ∨ ∃ (s : Bool) (c : Nat) (q : Int), Jvm.FP.Core.val64 x = .fin s c q ∧ 2 ^ 52 ≤ c ∧ c < 2 ^ 53 ∧ -64 ≤ q ∧ q ≤ 0
theorem fpMean (i : Int32) {L : Nat} (h1 : 1 ≤ L) (h2 : L ≤ 48) : dGood (FP.ddiv (FP.i2d i) (FP.i2d (nI L))) := by
  have eL : Jvm.FP.Core.val64 (FP.i2d (nI L)) = Jvm.FP.Core.roundRatio Jvm.FP.Core.b64 false L 1 0 := by
    show Jvm.FP.Core.val64 (Jvm.FP.Core.i2d (nI L)) = _
    rw [Jvm.FP.Core.val64_i2d, nI_toInt (by omega)]
    unfold Jvm.FP.Core.ofInt Jvm.FP.Core.round
    rw [decide_eq_false (by omega)]
    rfl
  obtain ⟨m, hm, hL⟩ := fpInt (A := L) (by omega) (by omega) false
  have eI : Jvm.FP.Core.val64 (FP.i2d i) = Jvm.FP.Core.roundRatio Jvm.FP.Core.b64 (decide (i.toInt < 0)) i.toInt.natAbs 1 0 := by
    show Jvm.FP.Core.val64 (Jvm.FP.Core.i2d i) = _
    rw [Jvm.FP.Core.val64_i2d]
    rfl
  have eD : Jvm.FP.Core.val64 (FP.ddiv (FP.i2d i) (FP.i2d (nI L))) = Jvm.FP.Core.quotient Jvm.FP.Core.b64 (Jvm.FP.Core.val64 (FP.i2d i)) (Jvm.FP.Core.val64 (FP.i2d (nI L))) := Jvm.FP.Core.val64_ddiv _ _
  rcases Nat.eq_zero_or_pos i.toInt.natAbs with h0 | h0
  · left
    have hi : i = 0 := Int32.toInt_inj.mp (by rw [show (0 : Int32).toInt = 0 by decide]; omega)
    subst hi
    apply Jvm.FP.Core.val64_inj
    · rw [eD, eI, eL, hL]
      intro q
      have hd : ¬ L * 2 ^ m = 0 := Nat.ne_of_gt (Nat.mul_pos h1 (Nat.two_pow_pos _))
      have e0 : Jvm.FP.Core.roundRatio Jvm.FP.Core.b64 (decide ((0 : Int32).toInt < 0)) (0 : Int32).toInt.natAbs 1 0 = .fin false 0 Jvm.FP.Core.b64.qmin := by decide +kernel
      rw [e0] at q
      unfold Jvm.FP.Core.quotient at q
      dsimp only at q
      rw [if_neg hd] at q
      unfold Jvm.FP.Core.roundRatio at q
      rw [if_pos rfl] at q
      exact absurd q (by intro z; cases z)
    · rw [eD, eI, eL, hL]
      have hd : ¬ L * 2 ^ m = 0 := Nat.ne_of_gt (Nat.mul_pos h1 (Nat.two_pow_pos _))
      have e0 : Jvm.FP.Core.roundRatio Jvm.FP.Core.b64 (decide ((0 : Int32).toInt < 0)) (0 : Int32).toInt.natAbs 1 0 = .fin false 0 Jvm.FP.Core.b64.qmin := by decide +kernel
      rw [e0]
      unfold Jvm.FP.Core.quotient
      dsimp only
      rw [if_neg hd]
      unfold Jvm.FP.Core.roundRatio
      rw [if_pos rfl]
      decide +kernel
  · right
    have hA : i.toInt.natAbs < 2 ^ 32 := by
      have a1 := Int32.le_toInt i
      have a2 := Int32.toInt_lt i
      omega
    obtain ⟨k, hk, hI⟩ := fpInt (A := i.toInt.natAbs) h0 (by omega) (decide (i.toInt < 0))
    obtain ⟨c, q, e, r⟩ := fpRange h0 hA h1 h2 (decide (i.toInt < 0))
    refine ⟨decide (i.toInt < 0), c, q, ?_, r⟩
    rw [eD, eI, eL, hL, hI, fpQuot h1]
    exact e
