set_option maxHeartbeats 4000000 in
set_option maxRecDepth 100000 in
theorem m_X7_meanRate (l : Launch) (G : va_G) (Z : Nat → ClassId) (sz : Nat) (h : Nat) (a : Nat → Nat) (cd : Nat → Nat) (s1 : Nat) (s2 : Nat) (d : Nat → Nat) (g : Nat) (v : CV) (n : Nat) (hn : n ≤ 48) (hw : zMin v.2.2.2.2.1 48 = nI n) : Met l yX7_meanRate wsX7_meanRate ({ frames := 3, cells := 0, slots := 0, locals := 67 }) (va_Pc [.ref h] (zWP G Z sz ([(h, .inr (7, [.ref (a 0), .ref (cd 0), .ref s1, .ref s2, .ref (d 0), .ref g]))] ++ ck Z a v))) (va_Ql (fun (r : Int64) (u : Unit) => r = (if nI n = 0 then 0 else (FP.ddiv (FP.i2d (lSum v.2.2.2.1 v.2.2.2.2.1 n)) (FP.i2d (nI n))).toInt64)) (fun (u : Unit) t => zB G (va_A ([(h, .inr (7, [.ref (a 0), .ref (cd 0), .ref s1, .ref s2, .ref (d 0), .ref g]))] ++ ck Z a v) sz) ([(h, .inr (7, [.ref (a 0), .ref (cd 0), .ref s1, .ref s2, .ref (d 0), .ref g]))] ++ ck Z a v) t) (va_A ([(h, .inr (7, [.ref (a 0), .ref (cd 0), .ref s1, .ref s2, .ref (d 0), .ref g]))] ++ ck Z a v) sz)) 0 0 (va_A ([(h, .inr (7, [.ref (a 0), .ref (cd 0), .ref s1, .ref s2, .ref (d 0), .ref g]))] ++ ck Z a v) sz) := by
  obtain ⟨st, off, car, fa, wr, tr, ho, ra, ti⟩ := v
  have hw : zMin wr 48 = nI n := hw
  refine Met.ofW (cc := cX7_meanRate) (maxL := 2) (ret := (some .long)) (by decide) rfl ?_
  intro p e s m args below meth c s₁ B hml hv
  have hx := B.exec
  have hb := B.bytes
  have hr := B.returns
  have hts := atoms_spec (ws := wsX7_meanRate) B.pre
  have hown : s.vm.findClass RX7 = some m.cls := findClass_of_methodNamed B.named
  have hlocks := B.notSynchronized
  obtain ⟨rfl, hsz, hP, hK, hD, hA, hS, hSW⟩ := zEnter hv
  subst hsz
  generalize va_A ([(h, .inr (7, [.ref (a 0), .ref (cd 0), .ref s1, .ref s2, .ref (d 0), .ref g]))] ++ ck Z a (st, off, car, fa, wr, tr, ho, ra, ti)) s.heap.size = A at hD hA hS hSW ⊢
  have k_10 := hts (.fieldLink RX7 10 "WarmRods" "clock" "LWarmRods$Clock;") (List.mem_of_getElem? (i := 1) rfl)
  have iX7 : ∀ w ∈ u_ws RX7 TX7 6, w ∈ wsX7_meanRate := fun _ h => List.mem_cons_of_mem _ (List.mem_append_left _ (List.mem_append_left _ (List.mem_append_right _ h)))
  have k_83 : (Cond.fieldLinkNest RX7 83 "WarmRods$Clock" "log" "LWarmRods$Log;" "WarmRods").before (#[.ref h] : Array Value) s = true := va_Nw.use rfl (hSW.1.1 _ (List.mem_of_getElem? (i := 4) rfl))
  have iX0 : ∀ w ∈ u_ws RX0 TX0 7, w ∈ wsX7_meanRate := fun _ h => List.mem_cons_of_mem _ (List.mem_append_left _ (List.mem_append_right _ h))
  have hP : va_P G vwCl ([(h, .inr (7, [.ref (a 0), .ref (cd 0), .ref s1, .ref s2, .ref (d 0), .ref g]))] ++ ck Z a (st, off, car, fa, wr, tr, ho, ra, ti)) s.heap := hP
  have hl := lv_entry ([.ref h]) (n := 2) (Nat.le_of_ble_eq_true rfl)
  rw [lg_entry_eq]
  generalize (lg_sl ([.ref h]) ++ List.replicate (2 - (lg_sl ([.ref h])).length) Slot.unset).toArray = ls at hl ⊢
  have hl : lv_has ls 2 [(0, .ref h)] := hl
  refine lv_aload_n hx hb dX7_meanRate_0 rfl (lv_at hl 0 rfl) ?_
  refine va_get (D := G) (ci := 7) (v := .ref (a 0)) (C := RX7) (T := TX7) (N := 6) hx hb hts iX7 hown hK hP 0 rfl rfl 0 (by decide) k_10 (fun _ h9 => h9) rfl dX7_meanRate_1 ?_
  refine va_getN (D := G) (ci := 0) (v := .ref (a 3)) (C := RX0) (T := TX0) (N := 7) hx hb hts iX0 hown hK hP 1 rfl rfl 2 (by decide) k_83 (fun _ h9 => h9) rfl dX7_meanRate_4 ?_
  refine zCi (S := Unit) (ws1 := fun u => [(h, .inr (7, [.ref (a 0), .ref (cd 0), .ref s1, .ref s2, .ref (d 0), .ref g]))] ++ ck Z a (st, off, car, fa, wr, tr, ho, ra, ti)) (wr := [(h, .inr (7, [.ref (a 0), .ref (cd 0), .ref s1, .ref s2, .ref (d 0), .ref g])), ((a 0), .inr (0, [.ref (a 1), .ref (a 2), .ref (a 3), .int tr, .int ho, .int ra, .int ti])), ((a 1), .inl (Z 0, 4, .inl st)), ((a 2), .inr (1, [.int off, .int car]))]) (va_runV (As := []) (rest := []) ⟨hx, hb, hml, hown, hts⟩ (m_X3_length l G Z _ (a 3) (a 4) fa wr) (cwV 0 hts gX7_meanRate_X3_length rfl rfl rfl (by decide +kernel) ⟨Nat.le_of_ble_eq_true rfl, Nat.le_of_ble_eq_true rfl⟩) (zPreV hK hP hD hS hA hSW [4, 5] rfl (by decide) 4 (ci := 3) rfl rfl rfl) rfl rfl hl.1 rfl (lv_room (Nat.le_of_ble_eq_true rfl)) dX7_meanRate_7 ⟨Nat.le_of_ble_eq_true rfl, Nat.le_of_ble_eq_true rfl⟩) hP hD hS hA [4, 5] [0, 1, 2, 3] [0, 1, 2, 3, 4, 5] rfl rfl (by decide) (by decide) (by decide) (fun _ => rfl) (fun r7 u H locs hw7 hP hD hS => ?_)
  try dsimp only at hw7
  subst hw7
  have hP : va_P G vwCl ([(h, .inr (7, [.ref (a 0), .ref (cd 0), .ref s1, .ref s2, .ref (d 0), .ref g]))] ++ ck Z a (st, off, car, fa, wr, tr, ho, ra, ti)) H := hP
  have hD : va_D A ([(h, .inr (7, [.ref (a 0), .ref (cd 0), .ref s1, .ref s2, .ref (d 0), .ref g]))] ++ ck Z a (st, off, car, fa, wr, tr, ho, ra, ti)) := hD
  refine lv_istore_n (lv' := [(1, .int (zMin wr 48)), (0, .ref h)]) hx hb dX7_meanRate_10 rfl hl (by decide) rfl (fun ls hl => ?_)
  rw [hw] at hl
  refine lv_iload_n hx hb dX7_meanRate_11 rfl (lv_at hl 0 rfl) ?_
  refine lv_if_ne (tgt := 17) hx hb dX7_meanRate_12 (by decide) (fun c12 => ?_) (fun c12 => ?_)
  · have hn1 : 1 ≤ n := by
      rcases Nat.eq_zero_or_pos n with q | q
      · exact absurd (by rw [q]; rfl) c12
      · exact q
    refine lv_aload_n hx hb dX7_meanRate_17 rfl (lv_at hl 1 rfl) ?_
    refine va_get (D := G) (ci := 7) (v := .ref (a 0)) (C := RX7) (T := TX7) (N := 6) hx hb hts iX7 hown hK hP 0 rfl rfl 0 (by decide) k_10 (fun _ h9 => h9) rfl dX7_meanRate_18 ?_
    refine va_getN (D := G) (ci := 0) (v := .ref (a 3)) (C := RX0) (T := TX0) (N := 7) hx hb hts iX0 hown hK hP 1 rfl rfl 2 (by decide) k_83 (fun _ h9 => h9) rfl dX7_meanRate_21 ?_
    refine zCi (S := Unit) (ws1 := fun u => [(h, .inr (7, [.ref (a 0), .ref (cd 0), .ref s1, .ref s2, .ref (d 0), .ref g]))] ++ ck Z a (st, off, car, fa, wr, tr, ho, ra, ti)) (wr := [(h, .inr (7, [.ref (a 0), .ref (cd 0), .ref s1, .ref s2, .ref (d 0), .ref g])), ((a 0), .inr (0, [.ref (a 1), .ref (a 2), .ref (a 3), .int tr, .int ho, .int ra, .int ti])), ((a 1), .inl (Z 0, 4, .inl st)), ((a 2), .inr (1, [.int off, .int car]))]) (va_runV (As := []) (rest := []) ⟨hx, hb, hml, hown, hts⟩ (m_X3_sumOfRates l G Z _ (a 3) (a 4) fa wr n (by
        exact hn) (by
        exact hw)) (cwV 0 hts gX7_meanRate_X3_sumOfRates rfl rfl rfl (by decide +kernel) ⟨Nat.le_of_ble_eq_true rfl, Nat.le_of_ble_eq_true rfl⟩) (zPreV hK hP hD hS hA hSW [4, 5] rfl (by decide) 4 (ci := 3) rfl rfl rfl) rfl rfl hl.1 rfl (lv_room (Nat.le_of_ble_eq_true rfl)) dX7_meanRate_24 ⟨Nat.le_of_ble_eq_true rfl, Nat.le_of_ble_eq_true rfl⟩) hP hD hS hA [4, 5] [0, 1, 2, 3] [0, 1, 2, 3, 4, 5] rfl rfl (by decide) (by decide) (by decide) (fun _ => rfl) (fun r24 u H locs hw24 hP hD hS => ?_)
    try dsimp only at hw24
    subst hw24
    have hP : va_P G vwCl ([(h, .inr (7, [.ref (a 0), .ref (cd 0), .ref s1, .ref s2, .ref (d 0), .ref g]))] ++ ck Z a (st, off, car, fa, wr, tr, ho, ra, ti)) H := hP
    have hD : va_D A ([(h, .inr (7, [.ref (a 0), .ref (cd 0), .ref s1, .ref s2, .ref (d 0), .ref g]))] ++ ck Z a (st, off, car, fa, wr, tr, ho, ra, ti)) := hD
    refine lv_i2d hx hb dX7_meanRate_27 ?_
    refine lv_iload_n hx hb dX7_meanRate_28 rfl (lv_at hl 0 rfl) ?_
    refine lv_i2d hx hb dX7_meanRate_29 ?_
    refine lv_ddiv hx hb dX7_meanRate_30 (dGood_n (fpMean _ hn1 hn)) ?_
    refine zCl (S := Unit) (ws1 := fun u => [(h, .inr (7, [.ref (a 0), .ref (cd 0), .ref s1, .ref s2, .ref (d 0), .ref g]))] ++ ck Z a (st, off, car, fa, wr, tr, ho, ra, ti)) (wr := [(h, .inr (7, [.ref (a 0), .ref (cd 0), .ref s1, .ref s2, .ref (d 0), .ref g]))] ++ ck Z a (st, off, car, fa, wr, tr, ho, ra, ti)) (va_runS (As := [.double (FP.ddiv (FP.i2d (lSum fa wr n)) (FP.i2d (nI n)))]) (rest := []) ⟨hx, hb, hml, hown, hts⟩ (m_X7_bitsOf l G Z _ (FP.ddiv (FP.i2d (lSum fa wr n)) (FP.i2d (nI n))) (by
        exact fpMean _ hn1 hn)) (va_cwS 1 hts gX7_meanRate_X7_bitsOf rfl rfl rfl (by decide +kernel) ⟨Nat.le_of_ble_eq_true rfl, Nat.le_of_ble_eq_true rfl⟩) (zPreS hK hP hD hS hA hSW [] rfl (by decide)) rfl rfl hl.1 rfl (lv_room (Nat.le_of_ble_eq_true rfl)) dX7_meanRate_31 ⟨Nat.le_of_ble_eq_true rfl, Nat.le_of_ble_eq_true rfl⟩) hP hD hS hA [] [0, 1, 2, 3, 4, 5] [0, 1, 2, 3, 4, 5] rfl rfl (by decide) (by decide) (by decide) (fun _ => rfl) (fun r31 u H locs hw31 hP hD hS => ?_)
    try dsimp only at hw31
    subst hw31
    have hP : va_P G vwCl ([(h, .inr (7, [.ref (a 0), .ref (cd 0), .ref s1, .ref s2, .ref (d 0), .ref g]))] ++ ck Z a (st, off, car, fa, wr, tr, ho, ra, ti)) H := hP
    have hD : va_D A ([(h, .inr (7, [.ref (a 0), .ref (cd 0), .ref s1, .ref s2, .ref (d 0), .ref g]))] ++ ck Z a (st, off, car, fa, wr, tr, ho, ra, ti)) := hD
    exact W.lret hx hb hr (zEl () (by
        simp only [c12, ↓reduceIte]) hP hD hS) hS.2.2 dX7_meanRate_34
  · refine lv_lconst (v := 0) hx hb dX7_meanRate_15 (by decide) ?_
    exact W.lret hx hb hr (zEl () (by
        simp only [eq_true c12, ↓reduceIte]) hP hD hS) hS.2.2 dX7_meanRate_16
