/-! an hour, by the class and by the reference -/
theorem lHour_eq (fa : Nat → Int32) {h : Nat} (hh : h + 1 ≤ 20000) (a b c d e f g : Int32) :
    lHour fa (nI h + 1) a b c d e f g = upd (upd (upd (upd (upd (upd (upd fa (h % 48 * 7 + 0) a) (h % 48 * 7 + 1) b) (h % 48 * 7 + 2) c) (h % 48 * 7 + 3) d) (h % 48 * 7 + 4) e) (h % 48 * 7 + 5) f) (h % 48 * 7 + 6) g := by
  rw [← nI_succ]
  have z : ∀ (fa : Nat → Int32) (w : Nat) (x : Int32), w < 7 → lWr fa (nI (h + 1)) (nI w) x = upd fa (h % 48 * 7 + w) x := fun fa w x hw => by
    rw [lWr_nI fa (by omega) hh hw, Nat.add_sub_cancel]
  unfold lHour
  rw [show (0 : Int32) = nI 0 from rfl, show (1 : Int32) = nI 1 from rfl, show (2 : Int32) = nI 2 from rfl, show (3 : Int32) = nI 3 from rfl, show (4 : Int32) = nI 4 from rfl, show (5 : Int32) = nI 5 from rfl, show (6 : Int32) = nI 6 from rfl]
  rw [z _ 0 _ (by decide), z _ 1 _ (by decide), z _ 2 _ (by decide), z _ 3 _ (by decide), z _ 4 _ (by decide), z _ 5 _ (by decide), z _ 6 _ (by decide)]
theorem updN {f : Nat → Int32} {k j : Nat} {x : Int32} (h : j ≠ k) : upd f k x j = f j := if_neg h
theorem updS {f : Nat → Int32} {k : Nat} {x : Int32} : upd f k x k = x := if_pos rfl
/-- the facts of the newest hour -/
def hFact (a b c d e f g : Int32) : Nat → Int32
  | 0 => a
  | 1 => b
  | 2 => c
  | 3 => d
  | 4 => e
  | 5 => f
  | _ => g
theorem lHour_0 (fa : Nat → Int32) {h w : Nat} (hh : h + 1 ≤ 20000) (hw : w < 7) (a b c d e f g : Int32) : lFact (lHour fa (nI h + 1) a b c d e f g) (nI (h + 1)) (nI 0) (nI w) = hFact a b c d e f g w := by
  rw [lFact_nI _ (by omega) hh hw, lHour_eq fa hh, show h + 1 - 1 - 0 = h by omega]
  generalize h % 48 * 7 = m
  rcases (show w = 0 ∨ w = 1 ∨ w = 2 ∨ w = 3 ∨ w = 4 ∨ w = 5 ∨ w = 6 by omega) with q | q | q | q | q | q | q <;> subst q
  · rw [updN (by omega), updN (by omega), updN (by omega), updN (by omega), updN (by omega), updN (by omega), updS]; rfl
  · rw [updN (by omega), updN (by omega), updN (by omega), updN (by omega), updN (by omega), updS]; rfl
  · rw [updN (by omega), updN (by omega), updN (by omega), updN (by omega), updS]; rfl
  · rw [updN (by omega), updN (by omega), updN (by omega), updS]; rfl
  · rw [updN (by omega), updN (by omega), updS]; rfl
  · rw [updN (by omega), updS]; rfl
  · rw [updS]; rfl
theorem lHour_s (fa : Nat → Int32) {h j w : Nat} (hh : h + 1 ≤ 20000) (hj : j + 1 < h + 1) (hj2 : j + 1 < 48) (hw : w < 7) (a b c d e f g : Int32) : lFact (lHour fa (nI h + 1) a b c d e f g) (nI (h + 1)) (nI (j + 1)) (nI w) = lFact fa (nI h) (nI j) (nI w) := by
  rw [lFact_nI _ (by omega) hh hw, lFact_nI _ (by omega) (by omega) hw, lHour_eq fa hh, show h + 1 - 1 - (j + 1) = h - 1 - j by omega]
  have hne : (h - 1 - j) % 48 ≠ h % 48 := by omega
  generalize (h - 1 - j) % 48 = m at hne
  generalize h % 48 = n at hne
  rw [updN (by omega), updN (by omega), updN (by omega), updN (by omega), updN (by omega), updN (by omega), updN (by omega)]
theorem mFacts_0 (f : Nat → Int32) (a b c d e g h : Int32) {w : Nat} (hw : w < 7) : mFacts f a b c d e g h (11 + 7 * 0 + w) = hFact a b c d e g h w := by
  rcases (show w = 0 ∨ w = 1 ∨ w = 2 ∨ w = 3 ∨ w = 4 ∨ w = 5 ∨ w = 6 by omega) with q | q | q | q | q | q | q <;> subst q <;> rfl
theorem mFacts_hi (f : Nat → Int32) (a b c d e g h : Int32) {j : Nat} (hj : 18 ≤ j) : mFacts f a b c d e g h j = f j := by
  unfold mFacts
  rw [updN (by omega), updN (by omega), updN (by omega), updN (by omega), updN (by omega), updN (by omega), updN (by omega)]
theorem mTop_hi (al : Nat → Int32) (o c r i : Int32) {j : Nat} (hj : 11 ≤ j) : mTop al o c r i j = al j := by
  unfold mTop
  rw [updN (by omega), updN (by omega), updN (by omega), updN (by omega), updN (by omega)]
theorem mLen_min (h : Nat) : mLen (min h 48) = min (h + 1) 48 := by
  unfold mLen
  split <;> omega
theorem RS_hour {v : CV} {al : Nat → Int32} {h : Nat} (r : RS v al h) (h1 : h + 1 ≤ 9999) {al2 : Nat → Int32} (e : ∀ k, k ≠ 7 → k ≠ 8 → al2 k = al k) {o c rd ht ar rate beh iset tray : Int32}
    (hc : -1000 < c.toInt ∧ c.toInt < 1000) (ho : -(24103 * ((h + 1 : Nat) : Int)) ≤ o.toInt ∧ o.toInt ≤ 24103 * ((h + 1 : Nat) : Int)) (ht7 : ∃ t, t < 256 ∧ al2 7 = nI t) (hi : iset = 0 ∨ iset = 1) :
    RS (v.1, o, c, lHour v.2.2.2.1 (nI h + 1) ht ar rd rate beh iset tray, nI h + 1, al2 7, nI h + 1, al 10 + rd, al2 8)
      (mFacts (mSh (mTop al2 o c rd (if min h 48 < 48 then 1 else 0)) 17 (11 + 7 * mLen (min h 48))) ht ar rd rate beh iset tray) (h + 1) := by
  have lo : ∀ j, j < 11 → mFacts (mSh (mTop al2 o c rd (if min h 48 < 48 then 1 else 0)) 17 (11 + 7 * mLen (min h 48))) ht ar rd rate beh iset tray j = mTop al2 o c rd (if min h 48 < 48 then 1 else 0) j := fun j hj => by
    rw [mFacts_lo _ _ _ _ _ _ _ _ hj, mSh_lo _ _ (by omega)]
  have hi2 : ∀ j w, j + 1 < min (h + 1) 48 → w < 7 → mFacts (mSh (mTop al2 o c rd (if min h 48 < 48 then 1 else 0)) 17 (11 + 7 * mLen (min h 48))) ht ar rd rate beh iset tray (11 + 7 * (j + 1) + w) = al (11 + 7 * j + w) := fun j w hj hw => by
    rw [mFacts_hi _ _ _ _ _ _ _ _ (by omega), mLen_min]
    unfold mSh
    rw [if_pos (by omega), mTop_hi _ _ _ _ _ (by omega), e _ (by omega) (by omega)]
    congr 1
    omega
  refine ⟨h1, ?_, ?_, ?_, ?_, ?_, ?_, ?_, ?_, ?_, ?_, ?_, ?_, ?_, ?_, ?_, ?_, ?_, ?_, ?_⟩
  · intro k hk
    rw [lo k (by omega)]
    show v.1 k = _
    rw [r.st k hk, ← e k (by omega) (by omega)]
    unfold mTop
    rw [updN (by omega), updN (by omega), updN (by omega), updN (by omega), updN (by omega)]
  · rw [lo 5 (by decide)]; rfl
  · rw [lo 6 (by decide)]; rfl
  · exact (nI_succ h).symm
  · rw [lo 7 (by decide)]; rfl
  · exact (nI_succ h).symm
  · rw [lo 4 (by decide)]
    show al2 4 + 1 = _
    rw [e 4 (by decide) (by decide), r.ho4, nI_succ]
  · rw [lo 10 (by decide)]
    show _ = al2 10 + rd
    rw [e 10 (by decide) (by decide)]
  · rw [lo 8 (by decide)]; rfl
  · rw [lo 9 (by decide)]
    show al2 9 + _ = _
    rw [e 9 (by decide) (by decide), r.n9]
    by_cases q : min h 48 < 48
    · rw [if_pos q, show min (h + 1) 48 = min h 48 + 1 by omega, nI_succ]
    · rw [if_neg q, show min (h + 1) 48 = min h 48 by omega, Int32.add_zero]
  · intro j w hj hw
    cases j with
    | zero => rw [mFacts_0 _ _ _ _ _ _ _ _ hw]; exact lHour_0 _ (by omega) hw _ _ _ _ _ _ _
    | succ j =>
      rw [hi2 j w hj hw, ← r.lg j w (by omega) hw]
      exact lHour_s _ (by omega) (by omega) (by omega) hw _ _ _ _ _ _ _
  · intro j hj
    cases j with
    | zero => exact hi
    | succ j => rw [hi2 j 5 hj (by decide)]; exact r.fl j (by omega)
  · rw [lo 0 (by decide), show mTop al2 o c rd (if min h 48 < 48 then 1 else 0) 0 = al2 0 from rfl, e 0 (by decide) (by decide)]; exact r.s0
  · rw [lo 1 (by decide), show mTop al2 o c rd (if min h 48 < 48 then 1 else 0) 1 = al2 1 from rfl, e 1 (by decide) (by decide)]; exact r.s1
  · rw [lo 2 (by decide), show mTop al2 o c rd (if min h 48 < 48 then 1 else 0) 2 = al2 2 from rfl, e 2 (by decide) (by decide)]; exact r.s2
  · rw [lo 3 (by decide), show mTop al2 o c rd (if min h 48 < 48 then 1 else 0) 3 = al2 3 from rfl, e 3 (by decide) (by decide)]; exact r.s3
  · rw [lo 7 (by decide)]; exact ht7
  · rw [lo 6 (by decide)]; exact hc
  · rw [lo 5 (by decide)]; exact ho
