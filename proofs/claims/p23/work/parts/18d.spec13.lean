/-! good doubles -/
theorem dGood_n {x : UInt64} (h : dGood x) : vf_n64 x := by
  rcases h with h | ⟨s, c, q, h, -⟩
  · rw [h]
    unfold vf_n64
    decide
  · exact vN64 h
theorem dGood_e {x : UInt64} (h : dGood x) : Op.cmpValue (FP.dcmp x x) .l = 0 := by
  rcases h with h | ⟨s, c, q, h, -⟩
  · rw [h]
    decide +kernel
  · rw [dcO, h]
    unfold Jvm.FP.Core.order
    dsimp only
    rw [fpCmp, if_neg (by omega), if_pos rfl]
    rfl
