/-! the bits of a double -/
theorem vN64 {r : UInt64} {s : Bool} {c : Nat} {q : Int} (h : Jvm.FP.Core.val64 r = .fin s c q) : vf_n64 r := by
  have hE : ¬ r.toNat / 4503599627370496 % 2048 = 2047 := by
    intro e
    have e2 : Jvm.FP.Core.val64 r = if Jvm.FP.Core.fieldT Jvm.FP.Core.b64 r.toNat = 0 then .inf (Jvm.FP.Core.fieldS Jvm.FP.Core.b64 r.toNat) else .nan := if_pos (show Jvm.FP.Core.fieldE Jvm.FP.Core.b64 r.toNat = 2047 from e)
    rw [h] at e2
    split at e2 <;> cases e2
  unfold vf_n64
  rw [UInt64.le_iff_toNat_le, UInt64.toNat_and]
  show r.toNat &&& (2 ^ 63 - 1) ≤ 0x7ff0000000000000
  rw [Nat.and_two_pow_sub_one_eq_mod]
  omega
theorem fpCmp {a b : Int} : compare a b = if a < b then .lt else if a = b then .eq else .gt := rfl
theorem dcO (x y : UInt64) : FP.dcmp x y = Jvm.FP.Core.order (Jvm.FP.Core.val64 x) (Jvm.FP.Core.val64 y) := rfl
theorem dc0 {x : UInt64} {s : Bool} {c : Nat} {q : Int} (h : Jvm.FP.Core.val64 x = .fin s c q) (hc : 0 < c) : FP.dcmp x FP.dconst0 = some (if s then .lt else .gt) := by
  rw [dcO, h, show Jvm.FP.Core.val64 FP.dconst0 = .fin false 0 Jvm.FP.Core.b64.qmin from Jvm.FP.Core.val64_dconst0]
  unfold Jvm.FP.Core.order
  dsimp only
  have hp : 0 < Jvm.FP.Core.inUnits c q (min q Jvm.FP.Core.b64.qmin) := Nat.mul_pos hc (Nat.two_pow_pos _)
  have hz : Jvm.FP.Core.inUnits 0 Jvm.FP.Core.b64.qmin (min q Jvm.FP.Core.b64.qmin) = 0 := Nat.zero_mul _
  rw [hz, fpCmp]
  cases s
  · rw [show Jvm.FP.Core.signed false 0 = 0 from rfl, show Jvm.FP.Core.signed false (Jvm.FP.Core.inUnits c q (min q Jvm.FP.Core.b64.qmin)) = (Jvm.FP.Core.inUnits c q (min q Jvm.FP.Core.b64.qmin) : Int) from rfl, if_neg (by omega), if_neg (by omega)]
    rfl
  · rw [show Jvm.FP.Core.signed false 0 = 0 from rfl, show Jvm.FP.Core.signed true (Jvm.FP.Core.inUnits c q (min q Jvm.FP.Core.b64.qmin)) = -(Jvm.FP.Core.inUnits c q (min q Jvm.FP.Core.b64.qmin) : Int) from rfl, if_pos (by omega)]
    rfl
theorem dcB {y : UInt64} {c : Nat} {q : Int} (h : Jvm.FP.Core.val64 y = .fin false c q) (h1 : 2 ^ 52 ≤ c) (h2 : c < 2 ^ 53) (hq : q ≤ 0) : Op.cmpValue (FP.dcmp y 4841369599423283200) .g < 0 ↔ q < 0 := by
  have hB : Jvm.FP.Core.val64 4841369599423283200 = .fin false (2 ^ 52) 0 := by decide +kernel
  rw [dcO, h, hB]
  unfold Jvm.FP.Core.order
  dsimp only
  rw [fpCmp, show min q 0 = q by omega]
  have e1 : Jvm.FP.Core.signed false (Jvm.FP.Core.inUnits c q q) = (c : Int) := by
    unfold Jvm.FP.Core.inUnits
    rw [show (q - q).toNat = 0 by omega, Nat.pow_zero, Nat.mul_one]
    rfl
  have e2 : Jvm.FP.Core.signed false (Jvm.FP.Core.inUnits (2 ^ 52) 0 q) = ((2 ^ 52 * 2 ^ (-q).toNat : Nat) : Int) := by
    unfold Jvm.FP.Core.inUnits
    rw [show (0 - q) = -q by omega]
    rfl
  rw [e1, e2]
  constructor
  · intro hl
    rcases Int.lt_or_le q 0 with g | g
    · exact g
    · exfalso
      have : q = 0 := by omega
      subst this
      rw [show (-(0 : Int)).toNat = 0 by omega, Nat.pow_zero, Nat.mul_one, if_neg (by omega)] at hl
      revert hl
      split <;> decide
  · intro hl
    have : 2 ^ 53 ≤ 2 ^ 52 * 2 ^ (-q).toNat := by
      have g : 2 ^ 1 ≤ 2 ^ (-q).toNat := Nat.pow_le_pow_right (by decide) (by omega)
      omega
    rw [if_pos (by omega)]
    decide
theorem dm2 {y : UInt64} {c : Nat} {q : Int} (h : Jvm.FP.Core.val64 y = .fin false c q) (h1 : 2 ^ 52 ≤ c) (h2 : c < 2 ^ 53) (hq : q < 0) (hq2 : -64 ≤ q) : Jvm.FP.Core.val64 (FP.dmul y 4611686018427387904) = .fin false c (q + 1) := by
  have hB : Jvm.FP.Core.val64 4611686018427387904 = .fin false (2 ^ 52) (-51) := by decide +kernel
  show Jvm.FP.Core.val64 (Jvm.FP.Core.dmul y 4611686018427387904) = _
  rw [Jvm.FP.Core.val64_dmul, h, hB]
  show Jvm.FP.Core.roundRatio Jvm.FP.Core.b64 false (c * 2 ^ 52) 1 (q + -51) = _
  apply Jvm.FP.Core.roundRatio_exact Jvm.FP.Core.good_b64 (by decide)
  · refine ⟨h2, ?_, ?_, Or.inr h1⟩
    · show (-1074 : Int) ≤ _
      omega
    · show _ ≤ (971 : Int)
      omega
  · rw [show (q + -51 - (q + 1)).toNat = 0 by omega, show (q + 1 - (q + -51)).toNat = 52 by omega]
    omega
theorem uL (x : UInt64) : x.toInt64 = lN x.toNat := by
  apply Int64.toBitVec_inj.mp
  apply BitVec.eq_of_toNat_eq
  show x.toNat = x.toNat % 2 ^ 64
  rw [Nat.mod_eq_of_lt x.toNat_lt]
theorem lN_or (a b : Nat) : lN a ||| lN b = lN (a ||| b) := by
  apply Int64.toBitVec_inj.mp
  apply BitVec.eq_of_toNat_eq
  rw [Int64.toBitVec_or, BitVec.toNat_or]
  show (a % 2 ^ 64) ||| (b % 2 ^ 64) = (a ||| b) % 2 ^ 64
  rw [Nat.or_mod_two_pow]
theorem zShl52 : ∀ E < 1076, zShl (lN E) 52 = lN (2 ^ 52 * E) := by decide +kernel
theorem dLong {y : UInt64} {c : Nat} (h : Jvm.FP.Core.val64 y = .fin false c 0) (h2 : c < 2 ^ 53) : FP.d2l y = lN c := by
  show Jvm.FP.Core.toL (Jvm.FP.Core.val64 y) = _
  rw [h]
  unfold Jvm.FP.Core.toL Jvm.FP.Core.toInt Jvm.FP.Core.truncate
  dsimp only
  rw [show (0 : Int).toNat = 0 from rfl, show (-(0 : Int)).toNat = 0 by decide, Nat.pow_zero, Nat.mul_one, Nat.div_one, show Jvm.FP.Core.signed false c = (c : Int) from rfl, show max (-2 ^ 63) (min (2 ^ 63 - 1) (c : Int)) = (c : Int) by omega]
  rfl
theorem bitsFin {x y : UInt64} {s : Bool} {c j : Nat} {q : Int} (hx : Jvm.FP.Core.val64 x = .fin s c q) (h1 : 2 ^ 52 ≤ c) (h2 : c < 2 ^ 53) (h3 : -64 ≤ q) (h4 : q + (j : Nat) = 0) (hy : Jvm.FP.Core.val64 y = .fin false c (q + (j : Nat))) :
    ((if s then (-9223372036854775808 : Int64) else 0) ||| zShl (lN (1075 - j)) 52) ||| (FP.d2l y - 4503599627370496) = x.toInt64 := by
  rw [h4] at hy
  have e1 : (if s then (-9223372036854775808 : Int64) else 0) = lN (2 ^ 63 * s.toNat) := by cases s <;> decide
  have e5 : (4503599627370496 : Int64) = lN (2 ^ 52) := by decide
  have e2 : FP.d2l y - 4503599627370496 = lN (c - 2 ^ 52) := by
    rw [dLong hy h2, e5, lN_sub h1]
  have e3 : x.toNat = (s.toNat * 2048 + (1075 - j)) * 2 ^ 52 + (c - 2 ^ 52) := by
    have g := Jvm.FP.Core.of64_val64 (a := x) (by rw [hx]; intro z; cases z)
    have g1 : Jvm.FP.Core.b64.qmin = -1074 := by decide
    have g2 : Jvm.FP.Core.b64.tails = 2 ^ 52 := by decide
    have g3 : Jvm.FP.Core.b64.exps = 2048 := by decide
    have g4 : Jvm.FP.Core.encode Jvm.FP.Core.b64 (.fin s c q) = (s.toNat * 2048 + (1075 - j)) * 2 ^ 52 + (c - 2 ^ 52) := by
      unfold Jvm.FP.Core.encode
      dsimp only
      rw [g2, if_neg (by omega)]
      unfold Jvm.FP.Core.assemble
      rw [g1, g2, g3, show (q - -1074).toNat + 1 = 1075 - j by omega]
    rw [← g, hx]
    unfold Jvm.FP.Core.of64
    have hs : s.toNat ≤ 1 := by cases s <;> decide
    rw [UInt64.toNat_ofNat', g4, Nat.mod_eq_of_lt (by omega)]
  rw [e1, e2, zShl52 _ (by omega), lN_or, lN_or, uL, e3, ← Nat.two_pow_add_eq_or_of_lt (by omega), show 2 ^ 63 * s.toNat + 2 ^ 52 * (1075 - j) = 2 ^ 52 * (s.toNat * 2048 + (1075 - j)) by omega, ← Nat.two_pow_add_eq_or_of_lt (by omega), Nat.mul_comm]
