/-! places where several ways meet -/
section ZJ
variable {p : Program} {l : Launch} {e : Env} {R : Room} {s : State} {m : MethodId} {args : Array Value} {below : List Frame} {meth : Method} {c : Code} {H : Heap} {locs : List Loc} {cells slots : Nat} {Q : State → Prop}
variable {cc : ByteArray} {pc : Nat} {ls : Array Slot} {rest : List Value} {A : Nat → Prop} {G : va_G} {Z : Nat → ClassId} {ws : va_W} {g : JFrame}
theorem zTopL {x y : Int64} (h : x = y) (k : W p l e R s m args below meth c H locs cells slots Q (F0 m pc ls (.long y :: rest))) : W p l e R s m args below meth c H locs cells slots Q (F0 m pc ls (.long x :: rest)) := by rw [h]; exact k
theorem zJoin {σ : Type} {nL : Nat} (pcj : Nat) (CW : σ → va_W) (LV : σ → List (Nat × Value)) (ST : σ → List Value) (INV : σ → Prop)
    (K : ∀ x : σ, INV x → ∀ (H : Heap) (locs : List Loc) (ls : Array Slot), va_P G vwCl (CW x) H → va_D A (CW x) → va_S A s.heap H locs → lv_has ls nL (LV x) → W p l e R s m args below meth c H locs cells slots Q (F0 m pcj ls (ST x)))
    (kk : (∀ x : σ, INV x → ∀ (H : Heap) (locs : List Loc) (ls : Array Slot), va_P G vwCl (CW x) H → va_D A (CW x) → va_S A s.heap H locs → lv_has ls nL (LV x) → W p l e R s m args below meth c H locs cells slots Q (F0 m pcj ls (ST x))) → W p l e R s m args below meth c H locs cells slots Q g) : W p l e R s m args below meth c H locs cells slots Q g := kk K
end ZJ
theorem oMask (v : Int32) : ∃ a : Nat, a < 2 ^ 31 ∧ v &&& 2147483647 = nI a := by
  refine ⟨v.toBitVec.toNat % 2 ^ 31, Nat.mod_lt _ (by decide), ?_⟩
  apply Int32.toBitVec_inj.mp
  apply BitVec.eq_of_toNat_eq
  rw [Int32.toBitVec_and, BitVec.toNat_and]
  show v.toBitVec.toNat &&& (2 ^ 31 - 1) = v.toBitVec.toNat % 2 ^ 31 % 2 ^ 32
  rw [Nat.and_two_pow_sub_one_eq_mod]
  omega
theorem oUp (v : Int32) {N : Nat} (h0 : 0 < N) (h1 : N < 2 ^ 31) : (v &&& 2147483647) - (v &&& 2147483647) / nI N * nI N = nI ((v &&& 2147483647).toNatClampNeg % N) ∧ (v &&& 2147483647).toNatClampNeg % N < N := by
  obtain ⟨a, ha, e⟩ := oMask v
  rw [e, nI_clamp ha, pk_rem ha h0 h1]
  exact ⟨rfl, Nat.mod_lt _ h0⟩
theorem oBit {k : Nat} (h : k < 2) : nI k = 0 ∨ nI k = 1 := by
  rcases (show k = 0 ∨ k = 1 by omega) with q | q
  · exact Or.inl (by rw [q]; rfl)
  · exact Or.inr (by rw [q]; rfl)
theorem oRep {v : CV} {al : Nat → Int32} {h : Nat} (r : RS v al h) : (xRp v.1 v.2.2.2.1 v.2.2.2.2.1 (vTr v) (min h 48) (0, 0)).1 + 1000000000 = (mRp al (min h 48) (0, 0)).1 + 1000000000 := by
  rw [sRp r _ (Nat.le_refl _)]
