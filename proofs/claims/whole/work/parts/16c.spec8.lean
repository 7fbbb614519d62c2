/-! what an order does, by its sign -/
theorem mAct_98 (al : Nat → Int32) (L : Nat) (pa : Nat → Int32) (pq pp : Nat) (nu va ai rd hh : Int32) : mActA al L (pa, pq, pp, nu, 98, va, ai, rd, hh) = mSetA al 2 va ∧ mActE al L (pa, pq, pp, nu, 98, va, ai, rd, hh) = mErr (mSetR al 2 va) := ⟨if_pos rfl, if_pos rfl⟩
theorem mAct_104 (al : Nat → Int32) (L : Nat) (pa : Nat → Int32) (pq pp : Nat) (nu va ai rd hh : Int32) : mActA al L (pa, pq, pp, nu, 104, va, ai, rd, hh) = mPaA al L va ai rd hh ∧ mActE al L (pa, pq, pp, nu, 104, va, ai, rd, hh) = mErr (mPaR al L va ai rd hh) := ⟨(if_neg (show ¬ (104 : Int32) = 98 by decide)).trans (if_pos rfl), (if_neg (show ¬ (104 : Int32) = 98 by decide)).trans (if_pos rfl)⟩
theorem mAct_119 (al : Nat → Int32) (L : Nat) (pa : Nat → Int32) (pq pp : Nat) (nu va ai rd hh : Int32) : mActA al L (pa, pq, pp, nu, 119, va, ai, rd, hh) = mWtA al va ∧ mActE al L (pa, pq, pp, nu, 119, va, ai, rd, hh) = mErr (mWtR al va) := ⟨(if_neg (show ¬ (119 : Int32) = 98 by decide)).trans ((if_neg (show ¬ (119 : Int32) = 104 by decide)).trans (if_pos rfl)), (if_neg (show ¬ (119 : Int32) = 98 by decide)).trans ((if_neg (show ¬ (119 : Int32) = 104 by decide)).trans (if_pos rfl))⟩
theorem mAct_122 (al : Nat → Int32) (L : Nat) (pa : Nat → Int32) (pq pp : Nat) (nu va ai rd hh : Int32) : mActA al L (pa, pq, pp, nu, 122, va, ai, rd, hh) = mZeA al ∧ mActE al L (pa, pq, pp, nu, 122, va, ai, rd, hh) = mErr (al 5 + 1000000000) := ⟨(if_neg (show ¬ (122 : Int32) = 98 by decide)).trans ((if_neg (show ¬ (122 : Int32) = 104 by decide)).trans (if_neg (show ¬ (122 : Int32) = 119 by decide))), (if_neg (show ¬ (122 : Int32) = 98 by decide)).trans ((if_neg (show ¬ (122 : Int32) = 104 by decide)).trans (if_neg (show ¬ (122 : Int32) = 119 by decide)))⟩
theorem rWt_v {pa : Nat → Int32} {pq sp : Nat} (h : ¬ mRng (pSign pa pq sp) 48 55 = 0) : rWtV pa pq sp 0 = pa sp - 48 := by
  obtain ⟨h1, h2, h3, h4⟩ := mWt_1 h
  rw [rWtV, if_neg h1, h2]
theorem rWt_r {pa : Nat → Int32} {pq sp : Nat} (h : ¬ mRng (pSign pa pq sp) 48 55 = 0) : rWtR pa pq sp = 1 := (rWtR_b _ _ _).resolve_left (mWt_1 h).1
theorem rSgR_b (si : Nat → Int32) (le p : Nat) (ch : Int32) : rSgR si le p ch = 0 ∨ rSgR si le p ch = 1 := by
  unfold rSgR
  split
  · exact Or.inr rfl
  · exact Or.inl rfl
