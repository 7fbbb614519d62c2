/-! p23: what holds of a clock's log beside RS; both clocks stand for the same picture al -/
theorem RS_0 : RS (cSt0, 0, 0, (fun _ => 0), 0, 0, 0, 0, 0) mAl0 0 := by
  refine ⟨by decide, ?_, rfl, rfl, rfl, rfl, rfl, rfl, rfl, rfl, rfl, ?_, ?_, by decide, by decide, by decide, by decide, ⟨0, by decide, rfl⟩, by decide, by decide⟩
  · intro k hk
    rcases (show k = 0 ∨ k = 1 ∨ k = 2 ∨ k = 3 by omega) with e | e | e | e <;> subst e <;> rfl
  · intro j w hj
    exact absurd hj (by omega)
  · intro j hj
    exact absurd hj (by omega)
theorem sim_mean {v : CV} {al : Nat → Int32} {h : Nat} (r : RS v al h) : (if nI (min h 48) = 0 then (0 : Int64) else (FP.ddiv (FP.i2d (lSum v.2.2.2.1 v.2.2.2.2.1 (min h 48))) (FP.i2d (nI (min h 48)))).toInt64) = mMean al (min h 48) := by
  have e : ∀ n, n ≤ min h 48 → lSum v.2.2.2.1 v.2.2.2.2.1 n = mSum al n := by
    intro n
    induction n with
    | zero => intro _; rfl
    | succ n ih =>
      intro hn
      have f := r.lg n 3 (by omega) (by decide)
      rw [lSum, mSum, ih (by omega), r.wr]
      exact congrArg (mSum al n + ·) f
  unfold mMean
  rw [e _ (Nat.le_refl _), r.n9]
/-- how many of the first n hours of the log have a 1 at w -/
def nHas (al : Nat → Int32) (w : Nat) : Nat → Nat
  | 0 => 0
  | n + 1 => nHas al w n + (if al (11 + 7 * n + w) = 1 then 1 else 0)
theorem nHas_le {al : Nat → Int32} {w a b : Nat} (h : a ≤ b) : nHas al w a ≤ nHas al w b := by
  induction b with
  | zero => rw [show a = 0 by omega]; exact Nat.le_refl _
  | succ b ih =>
    rcases Nat.lt_or_ge a (b + 1) with q | q
    · exact Nat.le_trans (ih (by omega)) (Nat.le_add_right _ _)
    · rw [show a = b + 1 by omega]; exact Nat.le_refl _
theorem nHas_s {al b : Nat → Int32} {w N : Nat} (hi : ∀ j, j + 1 < N → b (11 + 7 * (j + 1) + w) = al (11 + 7 * j + w)) : ∀ n, n + 1 ≤ N → nHas b w (n + 1) = (if b (11 + 7 * 0 + w) = 1 then 1 else 0) + nHas al w n
  | 0, _ => Nat.add_comm _ _
  | n + 1, h => by
    show nHas b w (n + 1) + (if b (11 + 7 * (n + 1) + w) = 1 then 1 else 0) = (if b (11 + 7 * 0 + w) = 1 then 1 else 0) + (nHas al w n + (if al (11 + 7 * n + w) = 1 then 1 else 0))
    rw [nHas_s hi n (by omega), hi n (by omega)]
    exact Nat.add_assoc _ _ _
theorem nHas_cg {al b : Nat → Int32} (e : ∀ k, 8 ≤ k → b k = al k) (w : Nat) : ∀ n, nHas b w n = nHas al w n
  | 0 => rfl
  | n + 1 => by
    show nHas b w n + (if b (11 + 7 * n + w) = 1 then 1 else 0) = nHas al w n + (if al (11 + 7 * n + w) = 1 then 1 else 0)
    rw [nHas_cg e w n, e (11 + 7 * n + w) (by omega)]
/-- what is told of the radio and of being set, in the log and so far -/
def WI (al : Nat → Int32) (h : Nat) : Prop :=
  (∃ r t : Nat, al 10 = nI r ∧ al 8 = nI t ∧ t ≤ r ∧ r ≤ h ∧ nHas al 2 (min h 48) ≤ r ∧ nHas al 5 (min h 48) ≤ t ∧ (h ≤ 48 → nHas al 2 (min h 48) = r ∧ nHas al 5 (min h 48) = t)) ∧
  (∀ j, j < min h 48 → (-6695 ≤ (al (11 + 7 * j + 3)).toInt ∧ (al (11 + 7 * j + 3)).toInt ≤ 6695) ∧ (al (11 + 7 * j + 2) = 0 ∨ al (11 + 7 * j + 2) = 1) ∧ (al (11 + 7 * j + 5) = 1 → al (11 + 7 * j + 2) = 1 ∧ ¬ al (11 + 7 * j + 4) = 0))
theorem WI_0 : WI mAl0 0 := ⟨⟨0, 0, rfl, rfl, Nat.le_refl _, Nat.le_refl _, Nat.le_refl 0, Nat.le_refl 0, fun _ => ⟨rfl, rfl⟩⟩, fun j hj => absurd hj (by omega)⟩
theorem WI_cg {al b : Nat → Int32} {h : Nat} (g : WI al h) (e : ∀ k, 8 ≤ k → b k = al k) : WI b h := by
  obtain ⟨⟨r, t, a1, a2, a3, a4, a5, a6, a7⟩, a8⟩ := g
  refine ⟨⟨r, t, (e 10 (by decide)).trans a1, (e 8 (by decide)).trans a2, a3, a4, ?_, ?_, ?_⟩, ?_⟩
  · rw [nHas_cg e]; exact a5
  · rw [nHas_cg e]; exact a6
  · rw [nHas_cg e, nHas_cg e]; exact a7
  · intro j hj
    rw [e (11 + 7 * j + 3) (by omega), e (11 + 7 * j + 2) (by omega), e (11 + 7 * j + 5) (by omega), e (11 + 7 * j + 4) (by omega)]
    exact a8 j hj
theorem WI_hour {al b : Nat → Int32} {h : Nat} (g : WI al h) {rd rate beh iset : Int32}
    (hi : ∀ j w, j + 1 < min (h + 1) 48 → w < 7 → b (11 + 7 * (j + 1) + w) = al (11 + 7 * j + w))
    (h2 : b (11 + 7 * 0 + 2) = rd) (h3 : b (11 + 7 * 0 + 3) = rate) (h4 : b (11 + 7 * 0 + 4) = beh) (h5 : b (11 + 7 * 0 + 5) = iset)
    (h10 : b 10 = al 10 + rd) (h8 : b 8 = al 8 + iset) (hr : -6695 ≤ rate.toInt ∧ rate.toInt ≤ 6695)
    (hs : ∃ x y : Nat, x ≤ 1 ∧ y ≤ x ∧ rd = nI x ∧ iset = nI y ∧ (y = 1 → ¬ beh = 0)) : WI b (h + 1) := by
  obtain ⟨⟨r, t, a1, a2, a3, a4, a5, a6, a7⟩, a8⟩ := g
  obtain ⟨x, y, x1, y1, ex, ey, hb⟩ := hs
  have one : ∀ z < 2, (if nI z = 1 then 1 else 0) = z := by decide +kernel
  have n2 := nHas_s (al := al) (b := b) (w := 2) (N := min (h + 1) 48) (fun j hj => hi j 2 hj (by decide)) (min (h + 1) 48 - 1) (by omega)
  have n5 := nHas_s (al := al) (b := b) (w := 5) (N := min (h + 1) 48) (fun j hj => hi j 5 hj (by decide)) (min (h + 1) 48 - 1) (by omega)
  rw [show min (h + 1) 48 - 1 + 1 = min (h + 1) 48 by omega, h2, ex, one x (by omega)] at n2
  rw [show min (h + 1) 48 - 1 + 1 = min (h + 1) 48 by omega, h5, ey, one y (by omega)] at n5
  have m2 : nHas al 2 (min (h + 1) 48 - 1) ≤ nHas al 2 (min h 48) := nHas_le (by omega)
  have m5 : nHas al 5 (min (h + 1) 48 - 1) ≤ nHas al 5 (min h 48) := nHas_le (by omega)
  have k2 : h + 1 ≤ 48 → nHas al 2 (min (h + 1) 48 - 1) = nHas al 2 (min h 48) := fun q => by rw [show min (h + 1) 48 - 1 = min h 48 by omega]
  have k5 : h + 1 ≤ 48 → nHas al 5 (min (h + 1) 48 - 1) = nHas al 5 (min h 48) := fun q => by rw [show min (h + 1) 48 - 1 = min h 48 by omega]
  refine ⟨⟨r + x, t + y, ?_, ?_, by omega, by omega, by omega, by omega, ?_⟩, ?_⟩
  · rw [h10, a1, ex, nI_add]
  · rw [h8, a2, ey, nI_add]
  · intro q
    have c1 := k2 q
    have c2 := k5 q
    have c3 := a7 (by omega)
    omega
  · intro j hj
    cases j with
    | zero =>
      rw [h2, h3, h4, h5]
      refine ⟨hr, ?_, ?_⟩
      · rcases (show x = 0 ∨ x = 1 by omega) with q | q
        · exact Or.inl (by rw [ex, q]; rfl)
        · exact Or.inr (by rw [ex, q]; rfl)
      · intro q
        rw [ey] at q
        have : y = 1 := (nI_eq (b := 1) (by omega) (by decide)).mp q
        exact ⟨by rw [ex, show x = 1 by omega]; rfl, hb this⟩
    | succ j =>
      rw [hi j 3 hj (by decide), hi j 2 hj (by decide), hi j 5 hj (by decide), hi j 4 hj (by decide)]
      exact a8 j (by omega)
theorem mG_hi {al al2 : Nat → Int32} {h : Nat} (e : ∀ k, k ≠ 7 → k ≠ 8 → al2 k = al k) (o c rd ht ar rate beh iset tray inc : Int32) : ∀ j w, j + 1 < min (h + 1) 48 → w < 7 → mFacts (mSh (mTop al2 o c rd inc) 17 (11 + 7 * mLen (min h 48))) ht ar rd rate beh iset tray (11 + 7 * (j + 1) + w) = al (11 + 7 * j + w) := fun j w hj hw => by
    rw [mFacts_hi _ _ _ _ _ _ _ _ (by omega), mLen_min]
    unfold mSh
    rw [if_pos (by omega), mTop_hi _ _ _ _ _ (by omega), e _ (by omega) (by omega)]
    congr 1
    omega
theorem mG_lo (f : Nat → Int32) (n : Nat) (ht ar rd rate beh iset tray : Int32) {j : Nat} (hj : j < 11) : mFacts (mSh f 17 n) ht ar rd rate beh iset tray j = f j := by
  rw [mFacts_lo _ _ _ _ _ _ _ _ hj, mSh_lo _ _ (by omega)]
theorem mG_0 (f : Nat → Int32) (ht ar rd rate beh iset tray : Int32) : mFacts f ht ar rd rate beh iset tray (11 + 7 * 0 + 2) = rd ∧ mFacts f ht ar rd rate beh iset tray (11 + 7 * 0 + 3) = rate ∧ mFacts f ht ar rd rate beh iset tray (11 + 7 * 0 + 4) = beh ∧ mFacts f ht ar rd rate beh iset tray (11 + 7 * 0 + 5) = iset :=
  ⟨mFacts_0 f ht ar rd rate beh iset tray (w := 2) (by decide), mFacts_0 f ht ar rd rate beh iset tray (w := 3) (by decide), mFacts_0 f ht ar rd rate beh iset tray (w := 4) (by decide), mFacts_0 f ht ar rd rate beh iset tray (w := 5) (by decide)⟩
theorem far_z {lim : Int32} (h : 1 ≤ lim.toInt) : mFar 0 lim = 0 := by
  unfold mFar
  rw [if_neg, if_neg]
  · rw [Int32.lt_iff_toInt_lt, show (-(0 : Int32)).toInt = 0 by decide]; omega
  · rw [Int32.lt_iff_toInt_lt, show (0 : Int32).toInt = 0 by decide]; omega
theorem mIs_1 {al : Nat → Int32} {ht ar rd : Int32} (h : ¬ mIs al ht ar rd = 0) : rd = 1 ∧ ¬ mFar (dOff (al 5) (al 6) (cBare al ht ar + al 7)) (al 3) = 0 := by
  unfold mIs at h
  by_cases q : rd = 1
  · rw [if_pos q] at h
    refine ⟨q, fun z => h ?_⟩
    rw [if_pos z]
  · rw [if_neg q] at h
    exact absurd rfl h
theorem WI_go {v : CV} {al : Nat → Int32} {h : Nat} (r : RS v al h) (g : WI al h) {ht ar rd : Int32} (g1 : ¬ zHeat ht = 0) (g2 : ¬ zAir ar = 0) (hrd : rd = 0 ∨ rd = 1) : WI (mGo al (min h 48) ht ar rd) (h + 1) := by
  have er := rate_i r g1 g2
  have hx : ∃ x : Nat, x ≤ 1 ∧ rd = nI x := by
    rcases hrd with q | q
    · exact ⟨0, by decide, q⟩
    · exact ⟨1, by decide, q⟩
  obtain ⟨x, x1, ex⟩ := hx
  unfold mGo
  by_cases z : mIs al ht ar rd = 0
  · rw [if_pos z]
    obtain ⟨b2, b3, b4, b5⟩ := mG_0 (mSh (mTop al (dOff (al 5) (al 6) (cBare al ht ar + al 7)) (dCar (al 6) (cBare al ht ar + al 7)) rd (if min h 48 < 48 then 1 else 0)) 17 (11 + 7 * mLen (min h 48))) ht ar rd (cBare al ht ar + al 7) (dOff (al 5) (al 6) (cBare al ht ar + al 7)) 0 (al 7)
    refine WI_hour g (mG_hi (fun _ _ _ => rfl) _ _ _ _ _ _ _ _ _ _) b2 b3 b4 b5 ?_ ?_ er ⟨x, 0, x1, by omega, ex, rfl, fun q => absurd q (by decide)⟩
    · exact (mG_lo _ _ _ _ _ _ _ _ _ (by decide)).trans rfl
    · exact (mG_lo _ _ _ _ _ _ _ _ _ (by decide)).trans (Int32.add_zero _).symm
  · rw [if_neg z]
    obtain ⟨z1, z2⟩ := mIs_1 z
    obtain ⟨b2, b3, b4, b5⟩ := mG_0 (mSh (mTop (mCor al (dOff (al 5) (al 6) (cBare al ht ar + al 7))) 0 0 rd (if min h 48 < 48 then 1 else 0)) 17 (11 + 7 * mLen (min h 48))) ht ar rd (cBare al ht ar + al 7) (dOff (al 5) (al 6) (cBare al ht ar + al 7)) 1 (al 7)
    refine WI_hour g (mG_hi (al2 := mCor al (dOff (al 5) (al 6) (cBare al ht ar + al 7))) (fun k k7 k8 => by unfold mCor; rw [updN k8, updN k7]) _ _ _ _ _ _ _ _ _ _) b2 b3 b4 b5 ?_ ?_ er ⟨1, 1, by decide, by decide, z1, rfl, fun _ q => z2 ?_⟩
    · exact (mG_lo _ _ _ _ _ _ _ _ _ (by decide)).trans rfl
    · exact (mG_lo _ _ _ _ _ _ _ _ _ (by decide)).trans rfl
    · rw [q]; exact far_z r.s3.1
theorem WI_goN {v : CV} {al : Nat → Int32} {h : Nat} (r : RS v al h) (g : WI al h) {ht ar rd : Int32} (g1 : ¬ zHeat ht = 0) (g2 : ¬ zAir ar = 0) (hrd : rd = 0 ∨ rd = 1) : ∀ n, h + n ≤ 9999 → WI (mGoN al (min h 48) ht ar rd n) (h + n)
  | 0, _ => g
  | n + 1, hn => by
    have a := (RS_goN r (rd := rd) g1 g2 n (by omega)).1
    rw [mGoN, mLenN_min]
    exact WI_go a (WI_goN r g g1 g2 hrd n (by omega)) g1 g2 hrd
theorem mSets_n {al : Nat → Int32} {N : Nat} (fl : ∀ j, j < N → al (11 + 7 * j + 5) = 0 ∨ al (11 + 7 * j + 5) = 1) : ∀ n, n ≤ N → mSets al n = nI (nHas al 5 n)
  | 0, _ => rfl
  | n + 1, h => by
    rw [mSets, mSets_n fl n (by omega)]
    show _ = nI (nHas al 5 n + (if al (11 + 7 * n + 5) = 1 then 1 else 0))
    rcases fl n (by omega) with q | q
    · rw [q, if_neg (by decide), Int32.add_zero, Nat.add_zero]
    · rw [q, if_pos rfl, nI_succ]
/-- the sum of the radio's flags -/
def mRad (al : Nat → Int32) : Nat → Int32
  | 0 => 0
  | n + 1 => mRad al n + al (11 + 7 * n + 2)
theorem mRad_n {al : Nat → Int32} {N : Nat} (fl : ∀ j, j < N → al (11 + 7 * j + 2) = 0 ∨ al (11 + 7 * j + 2) = 1) : ∀ n, n ≤ N → mRad al n = nI (nHas al 2 n)
  | 0, _ => rfl
  | n + 1, h => by
    rw [mRad, mRad_n fl n (by omega)]
    show _ = nI (nHas al 2 n + (if al (11 + 7 * n + 2) = 1 then 1 else 0))
    rcases fl n (by omega) with q | q
    · rw [q, if_neg (by decide), Int32.add_zero, Nat.add_zero]
    · rw [q, if_pos rfl, nI_succ]
