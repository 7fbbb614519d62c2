/-! everything related: the class's clock, history, slots and pad against the reference's -/
def lwR (v : CV) (kp : Nat) (Y : HV) (f1 : Int32) (u1 : CV) (f2 : Int32) (u2 : CV) (w : RV) (al hs : Nat → Int32) (hq : Nat) (sl sa pa : Nat → Int32) (pq : Nat) : Prop :=
  (∃ h, RS v al h) ∧ RH kp Y hs hq ∧ RSl f1 u1 sl sa 0 ∧ RSl f2 u2 sl sa 1 ∧ w.1 = pa ∧ w.2.1 = pq ∧ pq ≤ 80
section LR
variable {v : CV} {kp : Nat} {Y : HV} {f1 : Int32} {u1 : CV} {f2 : Int32} {u2 : CV} {w : RV} {al hs : Nat → Int32} {hq : Nat} {sl sa pa : Nat → Int32} {pq : Nat}
theorem lwR.k6 (q : lwR v kp Y f1 u1 f2 u2 w al hs hq sl sa pa pq) : kp ≤ 6 := by
  obtain ⟨-, ⟨e, h, -⟩, -⟩ := q
  omega
theorem lwR.h6 (q : lwR v kp Y f1 u1 f2 u2 w al hs hq sl sa pa pq) : hq ≤ 6 := q.2.1.2.1
theorem lwR.keq (q : lwR v kp Y f1 u1 f2 u2 w al hs hq sl sa pa pq) : kp = hq := q.2.1.1
theorem lwR.p80 (q : lwR v kp Y f1 u1 f2 u2 w al hs hq sl sa pa pq) : pq ≤ 80 := q.2.2.2.2.2.2
theorem lwR.l80 (q : lwR v kp Y f1 u1 f2 u2 w al hs hq sl sa pa pq) : w.2.1 ≤ 80 := by
  rw [q.2.2.2.2.2.1]
  exact q.p80
theorem lr_set (q : lwR v kp Y f1 u1 f2 u2 w al hs hq sl sa pa pq) (k x : Int32) :
    (if cErrS k x = 0 then cSet v.1 k + 1000 else cErrS k x) = mSetR al k x ∧ lwR (if cErrS k x = 0 then (cChg v.1 k x, v.2) else v) (if cErrS k x = 0 then hKp kp else kp) (if cErrS k x = 0 then hRec Y v else Y) f1 u1 f2 u2 w (mSetA al k x) (if mSetR al k x < 0 then hs else mHs hs al hq) (if mSetR al k x < 0 then hq else mHq hq) sl sa pa pq := by
  obtain ⟨⟨h, r⟩, g, q2⟩ := q
  obtain ⟨s1, s2, s3⟩ := sim_set r k x
  refine ⟨s1, ⟨h, s3⟩, ?_, q2⟩
  by_cases e : cErrS k x = 0
  · rw [if_pos e, if_pos e, if_neg (s2.mp e), if_neg (s2.mp e)]
    exact sim_rec g r
  · have e2 := Classical.not_not.mp (mt s2.mpr e)
    rw [if_neg e, if_neg e, if_pos e2, if_pos e2]
    exact g
theorem lr_wt (q : lwR v kp Y f1 u1 f2 u2 w al hs hq sl sa pa pq) (k : Int32) :
    (if cErrW k = 0 then cMvR (vTr v) k else cErrW k) = mWtR al k ∧ lwR (if cErrW k = 0 then xTr v (cMvT (vTr v) k) else v) (if cErrW k = 0 then hKp kp else kp) (if cErrW k = 0 then hRec Y v else Y) f1 u1 f2 u2 w (mWtA al k) (if mWtR al k < 0 then hs else mHs hs al hq) (if mWtR al k < 0 then hq else mHq hq) sl sa pa pq := by
  obtain ⟨⟨h, r⟩, g, q2⟩ := q
  obtain ⟨s1, s2, s3⟩ := sim_wt r k
  refine ⟨s1, ⟨h, s3⟩, ?_, q2⟩
  by_cases e : cErrW k = 0
  · rw [if_pos e, if_pos e, if_neg (s2.mp e), if_neg (s2.mp e)]
    exact sim_rec g r
  · have e2 := Classical.not_not.mp (mt s2.mpr e)
    rw [if_neg e, if_neg e, if_pos e2, if_pos e2]
    exact g
theorem lr_pa (q : lwR v kp Y f1 u1 f2 u2 w al hs hq sl sa pa pq) {h : Nat} (r : RS v al h) (ht ar rd mo : Int32) :
    (if cErrH (vHo v) ht ar rd mo = 0 then vTi (cGoN v ht ar rd mo.toNatClampNeg) - vTi v else cErrH (vHo v) ht ar rd mo) = mPaR al (min h 48) ht ar rd mo ∧ lwR (if cErrH (vHo v) ht ar rd mo = 0 then cGoN v ht ar rd mo.toNatClampNeg else v) (if cErrH (vHo v) ht ar rd mo = 0 then hKp kp else kp) (if cErrH (vHo v) ht ar rd mo = 0 then hRec Y v else Y) f1 u1 f2 u2 w (mPaA al (min h 48) ht ar rd mo) (if mPaR al (min h 48) ht ar rd mo < 0 then hs else mHs hs al hq) (if mPaR al (min h 48) ht ar rd mo < 0 then hq else mHq hq) sl sa pa pq := by
  obtain ⟨-, g, q2⟩ := q
  obtain ⟨s1, s2, s3⟩ := sim_pa r ht ar rd mo
  refine ⟨s1, s3, ?_, q2⟩
  by_cases e : cErrH (vHo v) ht ar rd mo = 0
  · rw [if_pos e, if_pos e, if_neg (s2.mp e), if_neg (s2.mp e)]
    exact sim_rec g r
  · have e2 := Classical.not_not.mp (mt s2.mpr e)
    rw [if_neg e, if_neg e, if_pos e2, if_pos e2]
    exact g
theorem lr_ze (q : lwR v kp Y f1 u1 f2 u2 w al hs hq sl sa pa pq) :
    v.2.1 + 1000000000 = al 5 + 1000000000 ∧ lwR (v.1, 0, 0, v.2.2.2) (hKp kp) (hRec Y v) f1 u1 f2 u2 w (mZeA al) (mHs hs al hq) (mHq hq) sl sa pa pq := by
  obtain ⟨⟨h, r⟩, g, q2⟩ := q
  exact ⟨congrArg (· + 1000000000) r.off, ⟨h, RS_ze r⟩, sim_rec g r, q2⟩
theorem lr_count (q : lwR v kp Y f1 u1 f2 u2 w al hs hq sl sa pa pq) (x : Int32) : xCount v w.2.1 kp x = mCount al pq hq x := by
  obtain ⟨⟨h, r⟩, g, -, -, -, e, -⟩ := q
  rw [e, g.1]
  exact sim_count r _ _ x
theorem lr_rep {h : Nat} (r : RS v al h) : (xRp v.1 v.2.2.2.1 v.2.2.2.2.1 (vTr v) (min h 48) (0, 0)).1 + 1000000000 = (mRp al (min h 48) (0, 0)).1 + 1000000000 := by
  rw [sRp r _ (Nat.le_refl _)]
theorem lr_put (q : lwR v kp Y f1 u1 f2 u2 w al hs hq sl sa pa pq) (n N : Nat) :
    (if n = 0 then (-2 : Int32) else if 80 < w.2.1 + n then -4 else nI (w.2.1 + n)) = (if n = 0 then -2 else if 80 < pq + n then -4 else nI (pq + n)) ∧
    lwR v kp Y f1 u1 f2 u2 ((if n = 0 then w.1 else if 80 < w.2.1 + n then w.1 else qAp N n w.1 w.2.1), (if n = 0 then w.2.1 else if 80 < w.2.1 + n then w.2.1 else w.2.1 + n), w.2.2.1, w.2.2.2.1, w.2.2.2.2.1, w.2.2.2.2.2.1, w.2.2.2.2.2.2.1, w.2.2.2.2.2.2.2.1, w.2.2.2.2.2.2.2.2) al hs hq sl sa (if n = 0 then pa else if 80 < pq + n then pa else qAp N n pa pq) (if n = 0 then pq else if 80 < pq + n then pq else pq + n) := by
  obtain ⟨q1, q2, q3, q4, e1, e2, e3⟩ := q
  rw [e1, e2]
  refine ⟨rfl, q1, q2, q3, q4, rfl, rfl, ?_⟩
  repeat' split
  all_goals omega
theorem lr_wipe (q : lwR v kp Y f1 u1 f2 u2 w al hs hq sl sa pa pq) : nI w.2.1 = nI pq ∧ lwR v kp Y f1 u1 f2 u2 (w.1, 0, w.2.2) al hs hq sl sa pa 0 := by
  obtain ⟨q1, q2, q3, q4, e1, e2, e3⟩ := q
  exact ⟨congrArg nI e2, q1, q2, q3, q4, e1, rfl, by decide⟩
theorem lr_rd (q : lwR v kp Y f1 u1 f2 u2 w al hs hq sl sa pa pq) : (rFa 80 (rAt w 0)).1 = qFa pa pq 80 0 := by
  obtain ⟨-, -, -, -, e1, e2, e3⟩ := q
  obtain ⟨si, le, p, nu, od, va, ai, rd, ho⟩ := w
  dsimp only at e1 e2
  subst e1
  subst e2
  exact sFa si e3 80 0 _ _ _ _ _ _ (by decide)
theorem lr_fault (q : lwR v kp Y f1 u1 f2 u2 w al hs hq sl sa pa pq) : (rFa 80 (rAt w 0)).1 = qFa pa pq 80 0 ∧ lwR v kp Y f1 u1 f2 u2 (rFa 80 (rAt w 0)).2 al hs hq sl sa pa pq := by
  refine ⟨lr_rd q, ?_⟩
  obtain ⟨q1, q2, q3, q4, e1, e2, e3⟩ := q
  exact ⟨q1, q2, q3, q4, (rFa_si 80 _).trans e1, (rFa_len 80 _).trans e2, e3⟩
theorem lr_carry (q : lwR v kp Y f1 u1 f2 u2 w al hs hq sl sa pa pq) :
    (if (rFa 80 (rAt w 0)).1 = -6 then (cRun 80 v (rAt (rFa 80 (rAt w 0)).2 0) 0).2.1 else -3) = (if qFa pa pq 80 0 = -6 then (mRun pa pq 80 0 al 0).2 else -3) ∧
    lwR (if (rFa 80 (rAt w 0)).1 = -6 then (cRun 80 v (rAt (rFa 80 (rAt w 0)).2 0) 0).1 else v) (if (rFa 80 (rAt w 0)).1 = -6 then hKp kp else kp) (if (rFa 80 (rAt w 0)).1 = -6 then hRec Y v else Y) f1 u1 f2 u2
      (if (rFa 80 (rAt w 0)).1 = -6 then ((cRun 80 v (rAt (rFa 80 (rAt w 0)).2 0) 0).2.2.1, 0, (cRun 80 v (rAt (rFa 80 (rAt w 0)).2 0) 0).2.2.2.2) else (rFa 80 (rAt w 0)).2)
      (if qFa pa pq 80 0 = -6 then (mRun pa pq 80 0 al 0).1 else al) (if qFa pa pq 80 0 = -6 then mHs hs al hq else hs) (if qFa pa pq 80 0 = -6 then mHq hq else hq) sl sa pa (if qFa pa pq 80 0 = -6 then 0 else pq) := by
  have e := lr_rd q
  obtain ⟨-, qf⟩ := lr_fault q
  rw [e]
  by_cases z : qFa pa pq 80 0 = -6
  · rw [if_pos z, if_pos z, if_pos z, if_pos z, if_pos z, if_pos z, if_pos z, if_pos z, if_pos z, if_pos z]
    obtain ⟨⟨h, r⟩, g, q3, q4, -⟩ := q
    obtain ⟨-, -, -, -, f1, f2, f3⟩ := qf
    generalize (rFa 80 (rAt w 0)).2 = x at f1 f2
    obtain ⟨si, le, p, nu, od, va, ai, rd, ho⟩ := x
    dsimp only at f1 f2
    subst f1
    subst f2
    obtain ⟨s1, s2⟩ := sim_run si le 80 0 nu od va ai rd ho v al h 0 (by decide) (by decide) r z
    exact ⟨s2, s1, sim_rec g r, q3, q4, cRun_si 80 v _ 0, rfl, by decide⟩
  · rw [if_neg z, if_neg z, if_neg z, if_neg z, if_neg z, if_neg z, if_neg z, if_neg z, if_neg z, if_neg z]
    exact ⟨rfl, qf⟩
theorem lr_undo (q : lwR v kp Y f1 u1 f2 u2 w al hs hq sl sa pa pq) :
    (if kp = 0 then (-5 : Int32) else nI (kp - 1)) = (if hq = 0 then -5 else nI (hq - 1)) ∧ lwR (if kp = 0 then v else cBec v (Y 0).2) (if kp = 0 then kp else kp - 1) (if kp = 0 then Y else hTak Y) f1 u1 f2 u2 w (if hq = 0 then al else mPut (fun j => hs (347 * (hq - 1) + j)) al 0 347) hs (if hq = 0 then hq else hq - 1) sl sa pa pq := by
  obtain ⟨⟨h, r⟩, g, q2⟩ := q
  obtain ⟨s1, s2, s3⟩ := sim_undo r g
  exact ⟨s1, s2, s3, q2⟩
theorem lr_save (q : lwR v kp Y f1 u1 f2 u2 w al hs hq sl sa pa pq) (x : Int32) :
    (if x = 0 then vTr v else if x = 1 then vTr v else -2) = (if mRng x 0 1 = 0 then -2 else al 7) ∧
    lwR v kp Y (if x = 0 then 1 else f1) (if x = 0 then cBec u1 v else u1) (if x = 1 then 1 else f2) (if x = 1 then cBec u2 v else u2) w al hs hq (if mRng x 0 1 = 0 then sl else mPut al sl (347 * x.toNatClampNeg) 347) (if mRng x 0 1 = 0 then sa else upd sa x.toNatClampNeg 1) pa pq := by
  obtain ⟨⟨h, r⟩, g, q3, q4, q5⟩ := q
  obtain ⟨s1, s2, s3⟩ := sim_save r q3 q4 x
  exact ⟨s1, ⟨h, r⟩, g, s2, s3, q5⟩
theorem lr_res (q : lwR v kp Y f1 u1 f2 u2 w al hs hq sl sa pa pq) (x : Int32) :
    (if x = 0 then (if f1 = 0 then -5 else vTr u1) else if x = 1 then (if f2 = 0 then -5 else vTr u2) else -2) = (if mRng x 0 1 = 0 then -2 else if sa x.toNatClampNeg = 0 then -5 else mRes al sl x.toNatClampNeg 7) ∧
    lwR (if x = 0 then (if f1 = 0 then v else cBec v u1) else if x = 1 then (if f2 = 0 then v else cBec v u2) else v) (if x = 0 then (if f1 = 0 then kp else hKp kp) else if x = 1 then (if f2 = 0 then kp else hKp kp) else kp) (if x = 0 then (if f1 = 0 then Y else hRec Y v) else if x = 1 then (if f2 = 0 then Y else hRec Y v) else Y) f1 u1 f2 u2 w
      (if mRng x 0 1 = 0 then al else if sa x.toNatClampNeg = 0 then al else mRes al sl x.toNatClampNeg) (if mRng x 0 1 = 0 then hs else if sa x.toNatClampNeg = 0 then hs else mHs hs al hq) (if mRng x 0 1 = 0 then hq else if sa x.toNatClampNeg = 0 then hq else mHq hq) sl sa pa pq := by
  obtain ⟨⟨h, r⟩, g, q3, q4, q5⟩ := q
  obtain ⟨s1, s2, s3⟩ := sim_res r g q3 q4 x
  exact ⟨s1, s2, s3, q3, q4, q5⟩
end LR
/-- two new objects -/
theorem RS_0 : RS (cSt0, 0, 0, (fun _ => 0), 0, 0, 0, 0, 0) mAl0 0 := by
  refine ⟨by decide, ?_, rfl, rfl, rfl, rfl, rfl, rfl, rfl, rfl, rfl, ?_, ?_, by decide, by decide, by decide, by decide, ⟨0, by decide, rfl⟩, by decide, by decide⟩
  · intro k hk
    rcases (show k = 0 ∨ k = 1 ∨ k = 2 ∨ k = 3 by omega) with e | e | e | e <;> subst e <;> rfl
  · intro j w hj
    exact absurd hj (by omega)
  · intro j hj
    exact absurd hj (by omega)
theorem lwR_0 (Y : HV) (u1 u2 : CV) (p : Nat) (nu od va ai rd ho : Int32) : lwR (cSt0, 0, 0, (fun _ => 0), 0, 0, 0, 0, 0) 0 Y 0 u1 0 u2 ((fun _ => 0), 0, p, nu, od, va, ai, rd, ho) mAl0 (fun _ => 0) 0 (fun _ => 0) (fun _ => 0) (fun _ => 0) 0 :=
  ⟨⟨0, RS_0⟩, ⟨rfl, by decide, fun j hj => absurd hj (by omega)⟩, ⟨rfl, fun q => absurd rfl q⟩, ⟨rfl, fun q => absurd rfl q⟩, rfl, rfl, by decide⟩
