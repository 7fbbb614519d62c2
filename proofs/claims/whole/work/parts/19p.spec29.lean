/-! slots related -/
theorem rng01 {x : Int32} (a : ¬ x = 0) (b : ¬ x = 1) : mRng x 0 1 = 0 := by
  apply Classical.byContradiction
  intro q
  obtain ⟨h1, h2, h3⟩ := zRange (lo := 0) (hi := 1) (by decide) (by decide) q
  rcases (show x.toNatClampNeg = 0 ∨ x.toNatClampNeg = 1 by omega) with z | z
  · rw [z] at h1; exact a h1
  · rw [z] at h1; exact b h1
theorem sl_new {u v : CV} {al sl sa : Nat → Int32} {h k : Nat} (r : RS v al h) : RSl 1 (cBec u v) (mPut al sl (347 * k) 347) (upd sa k 1) k :=
  ⟨updS.symm, fun _ => ⟨h, RS_bec (RS_cg r (fun j hj => (mPut_in (by omega) (by omega)).trans (congrArg al (by omega)))) u⟩⟩
theorem sl_old {f : Int32} {u : CV} {al sl sa : Nat → Int32} {k m : Nat} (q : RSl f u sl sa m) (hm : m < k ∨ k < m) : RSl f u (mPut al sl (347 * k) 347) (upd sa k 1) m := by
  obtain ⟨q1, q2⟩ := q
  refine ⟨q1.trans (updN (by omega)).symm, fun z => ?_⟩
  obtain ⟨h, r⟩ := q2 z
  exact ⟨h, RS_cg r (fun j hj => mPut_out (by omega))⟩
theorem sim_save {v u1 u2 : CV} {al sl sa : Nat → Int32} {h : Nat} {f1 f2 : Int32} (r : RS v al h) (q1 : RSl f1 u1 sl sa 0) (q2 : RSl f2 u2 sl sa 1) (x : Int32) :
    (if x = 0 then vTr v else if x = 1 then vTr v else -2) = (if mRng x 0 1 = 0 then -2 else al 7) ∧
    RSl (if x = 0 then 1 else f1) (if x = 0 then cBec u1 v else u1) (if mRng x 0 1 = 0 then sl else mPut al sl (347 * x.toNatClampNeg) 347) (if mRng x 0 1 = 0 then sa else upd sa x.toNatClampNeg 1) 0 ∧
    RSl (if x = 1 then 1 else f2) (if x = 1 then cBec u2 v else u2) (if mRng x 0 1 = 0 then sl else mPut al sl (347 * x.toNatClampNeg) 347) (if mRng x 0 1 = 0 then sa else upd sa x.toNatClampNeg 1) 1 := by
  by_cases a : x = 0
  · subst a
    rw [if_pos rfl, if_pos rfl, if_pos rfl, if_neg (show ¬ (0 : Int32) = 1 by decide), if_neg (show ¬ (0 : Int32) = 1 by decide), if_neg (show ¬ mRng 0 0 1 = 0 by decide), if_neg (show ¬ mRng 0 0 1 = 0 by decide), if_neg (show ¬ mRng 0 0 1 = 0 by decide)]
    exact ⟨r.tr, sl_new r, sl_old q2 (Or.inr (by decide))⟩
  by_cases b : x = 1
  · subst b
    rw [if_neg (show ¬ (1 : Int32) = 0 by decide), if_neg (show ¬ (1 : Int32) = 0 by decide), if_neg (show ¬ (1 : Int32) = 0 by decide), if_pos rfl, if_pos rfl, if_pos rfl, if_neg (show ¬ mRng 1 0 1 = 0 by decide), if_neg (show ¬ mRng 1 0 1 = 0 by decide), if_neg (show ¬ mRng 1 0 1 = 0 by decide)]
    exact ⟨r.tr, sl_old q1 (Or.inl (by decide)), sl_new r⟩
  · have e := rng01 a b
    rw [if_neg a, if_neg a, if_neg a, if_neg b, if_neg b, if_neg b, if_pos e, if_pos e, if_pos e]
    exact ⟨rfl, q1, q2⟩
/-- a filled slot comes back -/
theorem sl_back {f : Int32} {u : CV} {al sl sa : Nat → Int32} {k : Nat} (q : RSl f u sl sa k) (z : ¬ f = 0) (v : CV) : vTr u = mRes al sl k 7 ∧ ∃ h, RS (cBec v u) (mRes al sl k) h := by
  obtain ⟨h, r⟩ := q.2 z
  refine ⟨r.tr.trans (mPut_in (f := fun j => sl (347 * k + j)) (g := al) (a := 0) (n := 347) (j := 7) (by decide) (by decide)).symm, h, RS_bec (RS_cg r (fun j hj => ?_)) v⟩
  unfold mRes
  rw [mPut_in (by omega) (by omega)]
  rfl
theorem sim_res {v u1 u2 : CV} {al sl sa hs : Nat → Int32} {kp hq h : Nat} {Y : HV} {f1 f2 : Int32} (r : RS v al h) (g : RH kp Y hs hq) (q1 : RSl f1 u1 sl sa 0) (q2 : RSl f2 u2 sl sa 1) (x : Int32) :
    (if x = 0 then (if f1 = 0 then -5 else vTr u1) else if x = 1 then (if f2 = 0 then -5 else vTr u2) else -2) = (if mRng x 0 1 = 0 then -2 else if sa x.toNatClampNeg = 0 then -5 else mRes al sl x.toNatClampNeg 7) ∧
    (∃ h', RS (if x = 0 then (if f1 = 0 then v else cBec v u1) else if x = 1 then (if f2 = 0 then v else cBec v u2) else v) (if mRng x 0 1 = 0 then al else if sa x.toNatClampNeg = 0 then al else mRes al sl x.toNatClampNeg) h') ∧
    RH (if x = 0 then (if f1 = 0 then kp else hKp kp) else if x = 1 then (if f2 = 0 then kp else hKp kp) else kp) (if x = 0 then (if f1 = 0 then Y else hRec Y v) else if x = 1 then (if f2 = 0 then Y else hRec Y v) else Y) (if mRng x 0 1 = 0 then hs else if sa x.toNatClampNeg = 0 then hs else mHs hs al hq) (if mRng x 0 1 = 0 then hq else if sa x.toNatClampNeg = 0 then hq else mHq hq) := by
  by_cases a : x = 0
  · subst a
    have m : ¬ mRng 0 0 1 = 0 := by decide
    rw [if_pos rfl, if_pos rfl, if_pos rfl, if_pos rfl, if_neg m, if_neg m, if_neg m, if_neg m, show (0 : Int32).toNatClampNeg = 0 by decide, ← q1.1]
    by_cases z : f1 = 0
    · rw [if_pos z, if_pos z, if_pos z, if_pos z, if_pos z, if_pos z, if_pos z, if_pos z]
      exact ⟨rfl, ⟨h, r⟩, g⟩
    · rw [if_neg z, if_neg z, if_neg z, if_neg z, if_neg z, if_neg z, if_neg z, if_neg z]
      obtain ⟨s1, s2⟩ := sl_back (al := al) q1 z v
      exact ⟨s1, s2, sim_rec g r⟩
  by_cases b : x = 1
  · subst b
    have m : ¬ mRng 1 0 1 = 0 := by decide
    have n : ¬ (1 : Int32) = 0 := by decide
    rw [if_neg n, if_neg n, if_neg n, if_neg n, if_pos rfl, if_pos rfl, if_pos rfl, if_pos rfl, if_neg m, if_neg m, if_neg m, if_neg m, show (1 : Int32).toNatClampNeg = 1 by decide, ← q2.1]
    by_cases z : f2 = 0
    · rw [if_pos z, if_pos z, if_pos z, if_pos z, if_pos z, if_pos z, if_pos z, if_pos z]
      exact ⟨rfl, ⟨h, r⟩, g⟩
    · rw [if_neg z, if_neg z, if_neg z, if_neg z, if_neg z, if_neg z, if_neg z, if_neg z]
      obtain ⟨s1, s2⟩ := sl_back (al := al) q2 z v
      exact ⟨s1, s2, sim_rec g r⟩
  · have e := rng01 a b
    rw [if_neg a, if_neg a, if_neg a, if_neg a, if_neg b, if_neg b, if_neg b, if_neg b, if_pos e, if_pos e, if_pos e, if_pos e]
    exact ⟨rfl, ⟨h, r⟩, g⟩
/-- undo -/
theorem sim_undo {v : CV} {al hs : Nat → Int32} {kp hq h : Nat} {Y : HV} (r : RS v al h) (g : RH kp Y hs hq) :
    (if kp = 0 then -5 else nI (kp - 1)) = (if hq = 0 then -5 else nI (hq - 1)) ∧ (∃ h', RS (if kp = 0 then v else cBec v (Y 0).2) (if hq = 0 then al else mPut (fun j => hs (347 * (hq - 1) + j)) al 0 347) h') ∧ RH (if kp = 0 then kp else kp - 1) (if kp = 0 then Y else hTak Y) hs (if hq = 0 then hq else hq - 1) := by
  obtain ⟨rfl, g2⟩ := g
  refine ⟨rfl, ?_⟩
  cases kp with
  | zero =>
    rw [if_pos rfl, if_pos rfl, if_pos rfl, if_pos rfl]
    exact ⟨⟨h, r⟩, rfl, g2⟩
  | succ k =>
    have n : ¬ k + 1 = 0 := by omega
    rw [if_neg n, if_neg n, if_neg n, if_neg n, show k + 1 - 1 = k by omega]
    obtain ⟨t1, t2⟩ := sim_tak (al := al) ⟨rfl, g2⟩ v
    exact ⟨t2, t1⟩
/-- the mean -/
theorem sim_mean {v : CV} {al : Nat → Int32} {h : Nat} (r : RS v al h) : (if nI (min h 48) = 0 then (0 : Int64) else (FP.ddiv (FP.i2d (lSum v.2.2.2.1 v.2.2.2.2.1 (min h 48))) (FP.i2d (nI (min h 48)))).toInt64) = mMean al (min h 48) := by
  have e : ∀ n, n ≤ min h 48 → lSum v.2.2.2.1 v.2.2.2.2.1 n = mSum al n := by
    intro n
    induction n with
    | zero => intro _; rfl
    | succ n ih =>
      intro hn
      have f := r.lg n 3 (by omega) (by decide)
      rw [lSum, mSum, ih (by omega), r.wr]
      exact congrArg (mSum al n + ·) f
  unfold mMean
  rw [e _ (Nat.le_refl _), r.n9]
