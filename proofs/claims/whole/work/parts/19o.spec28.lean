/-! an order carried out, by both -/
theorem mErr_0 {x : Int32} : mErr x = 0 ↔ ¬ x < 0 := by
  unfold mErr
  by_cases h : x < 0
  · rw [if_pos h]
    exact ⟨fun q => by rw [q] at h; exact absurd h (by decide), fun q => absurd h q⟩
  · rw [if_neg h]
    exact ⟨fun _ => h, fun _ => rfl⟩
theorem zIf10 {c : Prop} [Decidable c] : (if c then (1 : Int32) else 0) = 0 ↔ ¬ c := by
  by_cases h : c
  · rw [if_pos h]
    exact ⟨fun q => absurd q (by decide), fun q => absurd h q⟩
  · rw [if_neg h]
    exact ⟨fun _ => h, fun _ => rfl⟩
theorem cAct_98 (v : CV) (pa : Nat → Int32) (pq pp : Nat) (nu va ai rd hh : Int32) : cActR v (pa, pq, pp, nu, 98, va, ai, rd, hh) = (if cErrS 2 va = 0 then 1 else 0) ∧ cActV v (pa, pq, pp, nu, 98, va, ai, rd, hh) = (if cErrS 2 va = 0 then (cChg v.1 2 va, v.2) else v) := ⟨if_pos rfl, if_pos rfl⟩
theorem cAct_104 (v : CV) (pa : Nat → Int32) (pq pp : Nat) (nu va ai rd hh : Int32) : cActR v (pa, pq, pp, nu, 104, va, ai, rd, hh) = (if cErrH (vHo v) va ai rd hh = 0 then 1 else 0) ∧ cActV v (pa, pq, pp, nu, 104, va, ai, rd, hh) = (if cErrH (vHo v) va ai rd hh = 0 then cGoN v va ai rd hh.toNatClampNeg else v) := ⟨(if_neg (show ¬ (104 : Int32) = 98 by decide)).trans (if_pos rfl), (if_neg (show ¬ (104 : Int32) = 98 by decide)).trans (if_pos rfl)⟩
theorem cAct_119 (v : CV) (pa : Nat → Int32) (pq pp : Nat) (nu va ai rd hh : Int32) : cActR v (pa, pq, pp, nu, 119, va, ai, rd, hh) = (if cErrW va = 0 then 1 else 0) ∧ cActV v (pa, pq, pp, nu, 119, va, ai, rd, hh) = (if cErrW va = 0 then xTr v (cMvT (vTr v) va) else v) := ⟨(if_neg (show ¬ (119 : Int32) = 98 by decide)).trans ((if_neg (show ¬ (119 : Int32) = 104 by decide)).trans (if_pos rfl)), (if_neg (show ¬ (119 : Int32) = 98 by decide)).trans ((if_neg (show ¬ (119 : Int32) = 104 by decide)).trans (if_pos rfl))⟩
theorem cAct_122 (v : CV) (pa : Nat → Int32) (pq pp : Nat) (nu va ai rd hh : Int32) : cActR v (pa, pq, pp, nu, 122, va, ai, rd, hh) = 1 ∧ cActV v (pa, pq, pp, nu, 122, va, ai, rd, hh) = (v.1, 0, 0, v.2.2.2) := ⟨(if_neg (show ¬ (122 : Int32) = 98 by decide)).trans ((if_neg (show ¬ (122 : Int32) = 104 by decide)).trans (if_neg (show ¬ (122 : Int32) = 119 by decide))), (if_neg (show ¬ (122 : Int32) = 98 by decide)).trans ((if_neg (show ¬ (122 : Int32) = 104 by decide)).trans (if_neg (show ¬ (122 : Int32) = 119 by decide)))⟩
/-- what both do with an order -/
def sAct (v : CV) (al : Nat → Int32) (L : Nat) (w : RV) : Prop := (cActR v w = 0 ↔ ¬ mActE al L w = 0) ∧ ∃ h', RS (cActV v w) (mActA al L w) h'
theorem sAct_98 {v : CV} {al : Nat → Int32} {h : Nat} (r : RS v al h) (pa : Nat → Int32) (pq pp : Nat) (nu va ai rd hh : Int32) : sAct v al (min h 48) (pa, pq, pp, nu, 98, va, ai, rd, hh) := by
  obtain ⟨c1, c2⟩ := cAct_98 v pa pq pp nu va ai rd hh
  obtain ⟨m1, m2⟩ := mAct_98 al (min h 48) pa pq pp nu va ai rd hh
  obtain ⟨-, i, rr⟩ := sim_set r 2 va
  unfold sAct
  rw [c1, c2, m1, m2, zIf10, mErr_0]
  exact ⟨not_congr i, h, rr⟩
theorem sAct_104 {v : CV} {al : Nat → Int32} {h : Nat} (r : RS v al h) (pa : Nat → Int32) (pq pp : Nat) (nu va ai rd hh : Int32) : sAct v al (min h 48) (pa, pq, pp, nu, 104, va, ai, rd, hh) := by
  obtain ⟨c1, c2⟩ := cAct_104 v pa pq pp nu va ai rd hh
  obtain ⟨m1, m2⟩ := mAct_104 al (min h 48) pa pq pp nu va ai rd hh
  obtain ⟨-, i, rr⟩ := sim_pa r va ai rd hh
  unfold sAct
  rw [c1, c2, m1, m2, zIf10, mErr_0]
  exact ⟨not_congr i, rr⟩
theorem sAct_119 {v : CV} {al : Nat → Int32} {h : Nat} (r : RS v al h) (pa : Nat → Int32) (pq pp : Nat) (nu va ai rd hh : Int32) : sAct v al (min h 48) (pa, pq, pp, nu, 119, va, ai, rd, hh) := by
  obtain ⟨c1, c2⟩ := cAct_119 v pa pq pp nu va ai rd hh
  obtain ⟨m1, m2⟩ := mAct_119 al (min h 48) pa pq pp nu va ai rd hh
  obtain ⟨-, i, rr⟩ := sim_wt r va
  unfold sAct
  rw [c1, c2, m1, m2, zIf10, mErr_0]
  exact ⟨not_congr i, h, rr⟩
theorem sAct_122 {v : CV} {al : Nat → Int32} {h : Nat} (r : RS v al h) (pa : Nat → Int32) (pq pp : Nat) (nu va ai rd hh : Int32) : sAct v al (min h 48) (pa, pq, pp, nu, 122, va, ai, rd, hh) := by
  obtain ⟨c1, c2⟩ := cAct_122 v pa pq pp nu va ai rd hh
  obtain ⟨m1, m2⟩ := mAct_122 al (min h 48) pa pq pp nu va ai rd hh
  unfold sAct
  rw [c1, c2, m1, m2, mErr_0]
  exact ⟨⟨fun q => absurd q (by decide), fun q => absurd (off_big r) q⟩, h, RS_ze r⟩
theorem sim_act {v : CV} {al : Nat → Int32} {h : Nat} (r : RS v al h) (pa : Nat → Int32) (pq p : Nat) (q : ¬ (rOrd (wOf pa pq p)).1 = 0) : sAct v al (min h 48) (rOrd (wOf pa pq p)).2 := by
  by_cases a : pSign pa pq p = 98
  · rw [rOrd_98 a]
    exact sAct_98 r _ _ _ _ _ _ _ _
  by_cases b : pSign pa pq p = 104
  · rw [rOrd_104 b]
    exact sAct_104 r _ _ _ _ _ _ _ _
  by_cases c : pSign pa pq p = 119
  · rw [rOrd_119 c]
    exact sAct_119 r _ _ _ _ _ _ _ _
  by_cases d : pSign pa pq p = 122
  · rw [rOrd_122 d]
    exact sAct_122 r _ _ _ _ _ _ _ _
  · rw [rOrd_no a b c d] at q
    exact absurd rfl q
/-- all orders of a pad that reads well -/
theorem sim_run (si : Nat → Int32) (le : Nat) : ∀ (f p : Nat) (nu od va ai rd ho : Int32) (v : CV) (al : Nat → Int32) (h : Nat) (n : Int32), p ≤ 80 → 80 ≤ f + p → RS v al h → qFa si le f p = -6 →
    (∃ h', RS (cRun f v (si, le, p, nu, od, va, ai, rd, ho) n).1 (mRun si le f p al n).1 h') ∧ (cRun f v (si, le, p, nu, od, va, ai, rd, ho) n).2.1 = (mRun si le f p al n).2
  | 0, p, nu, od, va, ai, rd, ho, v, al, h, n, hp, hf, r, q => ⟨⟨h, r⟩, rfl⟩
  | f + 1, p, nu, od, va, ai, rd, ho, v, al, h, n, hp, hf, r, q => by
    obtain ⟨a, g, hg, b⟩ := qOk_step hp hf q
    obtain ⟨i1, i2, i3⟩ := rOrd_ind si le p nu od va ai rd ho
    obtain ⟨j1, j2⟩ := i3 a v
    clear i3
    have e1 : (rOrd (si, le, p, nu, od, va, ai, rd, ho)).2.1 = si := rOrd_si _
    have e2 : (rOrd (si, le, p, nu, od, va, ai, rd, ho)).2.2.1 = le := rOrd_len _
    have e3 := rOrd_le (v := wOf si le p) hp
    have e9 : (al 9).toNatClampNeg = min h 48 := by rw [r.n9, nI_clamp (by omega)]
    obtain ⟨k1, h', k2⟩ := sim_act r si le p a
    rw [cRun, mRun, e9]
    generalize rOrd (si, le, p, nu, od, va, ai, rd, ho) = w at *
    obtain ⟨k, s2, l2, p2, nu2, od2, va2, ai2, rd2, ho2⟩ := w
    dsimp only at i1 i2 j1 j2 e1 e2 ⊢
    rw [if_neg (show ¬ k = 0 by rw [i1]; exact a), j1, j2, i2, e1, e2]
    by_cases c : mActE al (min h 48) (rOrd (wOf si le p)).2 = 0
    · rw [if_neg (show ¬ cActR v (rOrd (wOf si le p)).2 = 0 from fun z => (k1.mp z) c), if_pos c]
      by_cases d : rSgR si le (rOrd (wOf si le p)).2.2.2.1 59 = 0
      · rw [if_pos d, if_pos d]
        exact ⟨⟨h', k2⟩, rfl⟩
      · rw [if_neg d, if_neg d]
        obtain ⟨b1, b2⟩ := b d
        have e : g = f := by omega
        rw [e] at b1 b2
        exact sim_run si le f _ _ _ _ _ _ _ _ _ h' _ (rSgP_le (by decide) e3) b2 k2 b1
    · rw [if_pos (k1.mpr c), if_neg c]
      exact ⟨⟨h', k2⟩, rfl⟩
theorem rFa_si : ∀ (f : Nat) (v : RV), (rFa f v).2.1 = v.1
  | 0, v => rfl
  | f + 1, v => by
    rw [rFa]
    repeat' split
    · exact rOrd_si v
    · exact rOrd_si v
    · exact rOrd_si v
    · exact (rFa_si f _).trans (rOrd_si v)
theorem cRun_si : ∀ (f : Nat) (v : CV) (w : RV) (n : Int32), (cRun f v w n).2.2.1 = w.1
  | 0, v, w, n => rfl
  | f + 1, v, w, n => by
    rw [cRun]
    repeat' split
    · exact rOrd_si w
    · exact rOrd_si w
    · exact rOrd_si w
    · exact (cRun_si f _ _ _).trans (rOrd_si w)
