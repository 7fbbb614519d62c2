/-! an order carried out by the class, and all of them -/
def cActR (v : CV) (w : RV) : Int32 :=
  if w.2.2.2.2.1 = 98 then (if cErrS 2 w.2.2.2.2.2.1 = 0 then 1 else 0) else if w.2.2.2.2.1 = 104 then (if cErrH (vHo v) w.2.2.2.2.2.1 w.2.2.2.2.2.2.1 w.2.2.2.2.2.2.2.1 w.2.2.2.2.2.2.2.2 = 0 then 1 else 0) else if w.2.2.2.2.1 = 119 then (if cErrW w.2.2.2.2.2.1 = 0 then 1 else 0) else 1
def cActV (v : CV) (w : RV) : CV :=
  if w.2.2.2.2.1 = 98 then (if cErrS 2 w.2.2.2.2.2.1 = 0 then (cChg v.1 2 w.2.2.2.2.2.1, v.2) else v)
  else if w.2.2.2.2.1 = 104 then (if cErrH (vHo v) w.2.2.2.2.2.1 w.2.2.2.2.2.2.1 w.2.2.2.2.2.2.2.1 w.2.2.2.2.2.2.2.2 = 0 then cGoN v w.2.2.2.2.2.1 w.2.2.2.2.2.2.1 w.2.2.2.2.2.2.2.1 (w.2.2.2.2.2.2.2.2).toNatClampNeg else v)
  else if w.2.2.2.2.1 = 119 then (if cErrW w.2.2.2.2.2.1 = 0 then xTr v (cMvT (vTr v) w.2.2.2.2.2.1) else v) else (v.1, 0, 0, v.2.2.2)
theorem cActR_b (v : CV) (w : RV) : cActR v w = 0 ∨ cActR v w = 1 := by
  unfold cActR
  repeat' split
  all_goals first | exact Or.inl rfl | exact Or.inr rfl
def cRun : Nat → CV → RV → Int32 → CV × Int32 × RV
  | 0, v, w, n => (v, n, w)
  | f + 1, v, w, n =>
    if (rOrd w).1 = 0 then (v, n, (rOrd w).2)
    else if cActR v (rOrd w).2 = 0 then (cActV v (rOrd w).2, n, (rOrd w).2)
    else if rSgR (rOrd w).2.1 (rOrd w).2.2.1 (rOrd w).2.2.2.1 59 = 0 then (cActV v (rOrd w).2, n + 1, rAt (rOrd w).2 (rSgP (rOrd w).2.1 (rOrd w).2.2.1 (rOrd w).2.2.2.1 59))
    else cRun f (cActV v (rOrd w).2) (rAt (rOrd w).2 (rSgP (rOrd w).2.1 (rOrd w).2.2.1 (rOrd w).2.2.2.1 59)) (n + 1)
theorem rFa_len : ∀ (f : Nat) (v : RV), (rFa f v).2.2.1 = v.2.1
  | 0, v => rfl
  | f + 1, v => by
    rw [rFa]
    repeat' split
    · exact rOrd_len v
    · exact rOrd_len v
    · exact rOrd_len v
    · exact (rFa_len f _).trans (rOrd_len v)
