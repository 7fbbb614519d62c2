set_option maxHeartbeats 4000000 in
set_option maxRecDepth 100000 in
theorem m_X8_set (l : Launch) (G : va_G) (Z : Nat → ClassId) (sz : Nat) (b : Nat → Nat) (al : Nat → Int32) (ke : Nat → Int32) (hs : Nat → Int32) (hq : Nat) (sl : Nat → Int32) (sa : Nat → Int32) (off : Int32) (car : Int32) (pa : Nat → Int32) (pq : Nat) (sp : Nat) (nu : Int32) (dn : Int32) (er : Int32) (k : Int32) (x : Int32) (hhq : hq ≤ 6) : Met l yX8_set wsX8_set ({ frames := 3, cells := 0, slots := 0, locals := 69 }) (va_Pc [.ref (b 0), .int k, .int x] (zWP G Z sz (mk Z b (al, ke, hs, hq, sl, sa, off, car, pa, pq, sp, nu, dn, er)))) (va_Qi (fun (r : Int32) (u : (Nat → Int32) × (Nat → Int32) × (Nat → Int32) × Nat) => r = mSetR al k x ∧ u.1 = mSetA al k x ∧ u.2.2.1 = (if mSetR al k x < 0 then hs else mHs hs al hq) ∧ u.2.2.2 = (if mSetR al k x < 0 then hq else mHq hq)) (fun (u : (Nat → Int32) × (Nat → Int32) × (Nat → Int32) × Nat) t => zB G (va_A (mk Z b (al, ke, hs, hq, sl, sa, off, car, pa, pq, sp, nu, dn, er)) sz) (mk Z b (u.1, u.2.1, u.2.2.1, u.2.2.2, sl, sa, off, car, pa, pq, sp, nu, dn, er)) t) (va_A (mk Z b (al, ke, hs, hq, sl, sa, off, car, pa, pq, sp, nu, dn, er)) sz)) 0 0 (va_A (mk Z b (al, ke, hs, hq, sl, sa, off, car, pa, pq, sp, nu, dn, er)) sz) := by
  refine Met.ofW (cc := cX8_set) (maxL := 4) (ret := (some .int)) (by decide) rfl ?_
  intro p e s m args below meth c s₁ B hml hv
  have hx := B.exec
  have hb := B.bytes
  have hr := B.returns
  have hts := atoms_spec (ws := wsX8_set) B.pre
  have hown : s.vm.findClass RX8 = some m.cls := findClass_of_methodNamed B.named
  have hlocks := B.notSynchronized
  obtain ⟨rfl, hsz, hP, hK, hD, hA, hS, hSW⟩ := zEnter hv
  subst hsz
  generalize va_A (mk Z b (al, ke, hs, hq, sl, sa, off, car, pa, pq, sp, nu, dn, er)) s.heap.size = A at hD hA hS hSW ⊢
  have hP : va_P G vwCl (mk Z b (al, ke, hs, hq, sl, sa, off, car, pa, pq, sp, nu, dn, er)) s.heap := hP
  have hl := lv_entry ([.ref (b 0), .int k, .int x]) (n := 4) (Nat.le_of_ble_eq_true rfl)
  rw [lg_entry_eq]
  generalize (lg_sl ([.ref (b 0), .int k, .int x]) ++ List.replicate (4 - (lg_sl ([.ref (b 0), .int k, .int x])).length) Slot.unset).toArray = ls at hl ⊢
  have hl : lv_has ls 4 [(0, .ref (b 0)), (1, .int k), (2, .int x)] := hl
  refine lv_aload_n hx hb dX8_set_0 rfl (lv_at hl 0 rfl) ?_
  refine zCv (S := Unit) (ws1 := fun u => mk Z b (al, (mCp al ke 347), hs, hq, sl, sa, off, car, pa, pq, sp, nu, dn, er)) (wr := []) (va_runV (As := []) (rest := []) ⟨hx, hb, hml, hown, hts⟩ (m_X8_keep l G Z _ b al ke hs hq sl sa off car pa pq sp nu dn er) (cwV 0 hts gX8_set_X8_keep rfl rfl rfl (by decide +kernel) ⟨Nat.le_of_ble_eq_true rfl, Nat.le_of_ble_eq_true rfl⟩) (zPreV hK hP hD hS hA hSW [0, 1, 2, 3, 4, 5, 6] rfl (by decide) 0 (ci := 8) rfl rfl rfl) rfl rfl hl.1 rfl (lv_room (Nat.le_of_ble_eq_true rfl)) dX8_set_1 ⟨Nat.le_of_ble_eq_true rfl, Nat.le_of_ble_eq_true rfl⟩) hP hD hS hA [0, 1, 2, 3, 4, 5, 6] [] [0, 1, 2, 3, 4, 5, 6] rfl rfl (by decide) (by decide) (by decide) (fun _ => rfl) (fun u H locs hw1 hP hD hS => ?_)
  try dsimp only at hw1
  have hP : va_P G vwCl (mk Z b (al, (mCp al ke 347), hs, hq, sl, sa, off, car, pa, pq, sp, nu, dn, er)) H := hP
  have hD : va_D A (mk Z b (al, (mCp al ke 347), hs, hq, sl, sa, off, car, pa, pq, sp, nu, dn, er)) := hD
  refine lv_aload_n hx hb dX8_set_4 rfl (lv_at hl 0 rfl) ?_
  refine lv_iload_n hx hb dX8_set_5 rfl (lv_at hl 1 rfl) ?_
  refine lv_iload_n hx hb dX8_set_6 rfl (lv_at hl 2 rfl) ?_
  refine zCi (S := (Nat → Int32)) (ws1 := fun u => mk Z b (u, (mCp al ke 347), hs, hq, sl, sa, off, car, pa, pq, sp, nu, dn, er)) (wr := []) (va_runV (As := [.int k, .int x]) (rest := []) ⟨hx, hb, hml, hown, hts⟩ (m_X8_doSet l G Z _ b al (mCp al ke 347) hs hq sl sa off car pa pq sp nu dn er k x) (cwV 2 hts gX8_set_X8_doSet rfl rfl rfl (by decide +kernel) ⟨Nat.le_of_ble_eq_true rfl, Nat.le_of_ble_eq_true rfl⟩) (zPreV hK hP hD hS hA hSW [0, 1, 2, 3, 4, 5, 6] rfl (by decide) 0 (ci := 8) rfl rfl rfl) rfl rfl hl.1 rfl (lv_room (Nat.le_of_ble_eq_true rfl)) dX8_set_7 ⟨Nat.le_of_ble_eq_true rfl, Nat.le_of_ble_eq_true rfl⟩) hP hD hS hA [0, 1, 2, 3, 4, 5, 6] [] [0, 1, 2, 3, 4, 5, 6] rfl rfl (by decide) (by decide) (by decide) (fun _ => rfl) (fun r7 u H locs hw7 hP hD hS => ?_)
  obtain ⟨al1_7, rfl⟩ : ∃ z, z = u := ⟨_, rfl⟩
  try dsimp only at hw7
  obtain ⟨rfl, rfl⟩ := hw7
  have hP : va_P G vwCl (mk Z b ((mSetA al k x), (mCp al ke 347), hs, hq, sl, sa, off, car, pa, pq, sp, nu, dn, er)) H := hP
  have hD : va_D A (mk Z b ((mSetA al k x), (mCp al ke 347), hs, hq, sl, sa, off, car, pa, pq, sp, nu, dn, er)) := hD
  refine lv_istore_n (lv' := [(3, .int (mSetR al k x)), (0, .ref (b 0)), (1, .int k), (2, .int x)]) hx hb dX8_set_10 rfl hl (by decide) rfl (fun ls hl => ?_)
  refine lv_iload_n hx hb dX8_set_11 rfl (lv_at hl 0 rfl) ?_
  refine lv_if_ge (tgt := 19) hx hb dX8_set_12 (by decide) (fun c12 => ?_) (fun c12 => ?_)
  · refine lv_aload_n hx hb dX8_set_19 rfl (lv_at hl 1 rfl) ?_
    refine lv_iload_n hx hb dX8_set_20 rfl (lv_at hl 0 rfl) ?_
    refine zCi (S := (Nat → Int32) × Nat) (ws1 := fun u => mk Z b ((mSetA al k x), (mCp al ke 347), u.1, u.2, sl, sa, off, car, pa, pq, sp, nu, dn, er)) (wr := []) (va_runV (As := [.int (mSetR al k x)]) (rest := []) ⟨hx, hb, hml, hown, hts⟩ (m_X8_changed l G Z _ b (mSetA al k x) (mCp al ke 347) hs hq sl sa off car pa pq sp nu dn er (mSetR al k x) (by
        exact hhq)) (cwV 1 hts gX8_set_X8_changed rfl rfl rfl (by decide +kernel) ⟨Nat.le_of_ble_eq_true rfl, Nat.le_of_ble_eq_true rfl⟩) (zPreV hK hP hD hS hA hSW [0, 1, 2, 3, 4, 5, 6] rfl (by decide) 0 (ci := 8) rfl rfl rfl) rfl rfl hl.1 rfl (lv_room (Nat.le_of_ble_eq_true rfl)) dX8_set_21 ⟨Nat.le_of_ble_eq_true rfl, Nat.le_of_ble_eq_true rfl⟩) hP hD hS hA [0, 1, 2, 3, 4, 5, 6] [] [0, 1, 2, 3, 4, 5, 6] rfl rfl (by decide) (by decide) (by decide) (fun _ => rfl) (fun r21 u H locs hw21 hP hD hS => ?_)
    obtain ⟨hs1_21, hq1_21⟩ := u
    try dsimp only at hw21
    obtain ⟨rfl, rfl, rfl⟩ := hw21
    have hP : va_P G vwCl (mk Z b ((mSetA al k x), (mCp al ke 347), (mHs hs (mCp al ke 347) hq), (mHq hq), sl, sa, off, car, pa, pq, sp, nu, dn, er)) H := hP
    have hD : va_D A (mk Z b ((mSetA al k x), (mCp al ke 347), (mHs hs (mCp al ke 347) hq), (mHq hq), sl, sa, off, car, pa, pq, sp, nu, dn, er)) := hD
    exact W.iret hx hb hr (zEi ((mSetA al k x), (mCp al ke 347), (mHs hs (mCp al ke 347) hq), (mHq hq)) (by
        simp only [c12, Int32.not_lt.mpr c12, mHs_cp, ↓reduceIte, and_self]) hP hD hS) hS.2.2 dX8_set_24
  · refine lv_iload_n hx hb dX8_set_15 rfl (lv_at hl 0 rfl) ?_
    refine lv_goto (tgt := 24) hx hb dX8_set_16 (by decide) ?_
    exact W.iret hx hb hr (zEi ((mSetA al k x), (mCp al ke 347), hs, hq) (by
        simp only [c12, Int32.not_le.mp c12, mHs_cp, ↓reduceIte, and_self]) hP hD hS) hS.2.2 dX8_set_24

set_option maxHeartbeats 4000000 in
set_option maxRecDepth 100000 in
theorem m_X8_weight (l : Launch) (G : va_G) (Z : Nat → ClassId) (sz : Nat) (b : Nat → Nat) (al : Nat → Int32) (ke : Nat → Int32) (hs : Nat → Int32) (hq : Nat) (sl : Nat → Int32) (sa : Nat → Int32) (off : Int32) (car : Int32) (pa : Nat → Int32) (pq : Nat) (sp : Nat) (nu : Int32) (dn : Int32) (er : Int32) (k : Int32) (hhq : hq ≤ 6) : Met l yX8_weight wsX8_weight ({ frames := 2, cells := 0, slots := 0, locals := 46 }) (va_Pc [.ref (b 0), .int k] (zWP G Z sz (mk Z b (al, ke, hs, hq, sl, sa, off, car, pa, pq, sp, nu, dn, er)))) (va_Qi (fun (r : Int32) (u : (Nat → Int32) × (Nat → Int32) × (Nat → Int32) × Nat) => r = mWtR al k ∧ u.1 = mWtA al k ∧ u.2.2.1 = (if mWtR al k < 0 then hs else mHs hs al hq) ∧ u.2.2.2 = (if mWtR al k < 0 then hq else mHq hq)) (fun (u : (Nat → Int32) × (Nat → Int32) × (Nat → Int32) × Nat) t => zB G (va_A (mk Z b (al, ke, hs, hq, sl, sa, off, car, pa, pq, sp, nu, dn, er)) sz) (mk Z b (u.1, u.2.1, u.2.2.1, u.2.2.2, sl, sa, off, car, pa, pq, sp, nu, dn, er)) t) (va_A (mk Z b (al, ke, hs, hq, sl, sa, off, car, pa, pq, sp, nu, dn, er)) sz)) 0 0 (va_A (mk Z b (al, ke, hs, hq, sl, sa, off, car, pa, pq, sp, nu, dn, er)) sz) := by
  refine Met.ofW (cc := cX8_weight) (maxL := 3) (ret := (some .int)) (by decide) rfl ?_
  intro p e s m args below meth c s₁ B hml hv
  have hx := B.exec
  have hb := B.bytes
  have hr := B.returns
  have hts := atoms_spec (ws := wsX8_weight) B.pre
  have hown : s.vm.findClass RX8 = some m.cls := findClass_of_methodNamed B.named
  have hlocks := B.notSynchronized
  obtain ⟨rfl, hsz, hP, hK, hD, hA, hS, hSW⟩ := zEnter hv
  subst hsz
  generalize va_A (mk Z b (al, ke, hs, hq, sl, sa, off, car, pa, pq, sp, nu, dn, er)) s.heap.size = A at hD hA hS hSW ⊢
  have hP : va_P G vwCl (mk Z b (al, ke, hs, hq, sl, sa, off, car, pa, pq, sp, nu, dn, er)) s.heap := hP
  have hl := lv_entry ([.ref (b 0), .int k]) (n := 3) (Nat.le_of_ble_eq_true rfl)
  rw [lg_entry_eq]
  generalize (lg_sl ([.ref (b 0), .int k]) ++ List.replicate (3 - (lg_sl ([.ref (b 0), .int k])).length) Slot.unset).toArray = ls at hl ⊢
  have hl : lv_has ls 3 [(0, .ref (b 0)), (1, .int k)] := hl
  refine lv_aload_n hx hb dX8_weight_0 rfl (lv_at hl 0 rfl) ?_
  refine zCv (S := Unit) (ws1 := fun u => mk Z b (al, (mCp al ke 347), hs, hq, sl, sa, off, car, pa, pq, sp, nu, dn, er)) (wr := []) (va_runV (As := []) (rest := []) ⟨hx, hb, hml, hown, hts⟩ (m_X8_keep l G Z _ b al ke hs hq sl sa off car pa pq sp nu dn er) (cwV 0 hts gX8_weight_X8_keep rfl rfl rfl (by decide +kernel) ⟨Nat.le_of_ble_eq_true rfl, Nat.le_of_ble_eq_true rfl⟩) (zPreV hK hP hD hS hA hSW [0, 1, 2, 3, 4, 5, 6] rfl (by decide) 0 (ci := 8) rfl rfl rfl) rfl rfl hl.1 rfl (lv_room (Nat.le_of_ble_eq_true rfl)) dX8_weight_1 ⟨Nat.le_of_ble_eq_true rfl, Nat.le_of_ble_eq_true rfl⟩) hP hD hS hA [0, 1, 2, 3, 4, 5, 6] [] [0, 1, 2, 3, 4, 5, 6] rfl rfl (by decide) (by decide) (by decide) (fun _ => rfl) (fun u H locs hw1 hP hD hS => ?_)
  try dsimp only at hw1
  have hP : va_P G vwCl (mk Z b (al, (mCp al ke 347), hs, hq, sl, sa, off, car, pa, pq, sp, nu, dn, er)) H := hP
  have hD : va_D A (mk Z b (al, (mCp al ke 347), hs, hq, sl, sa, off, car, pa, pq, sp, nu, dn, er)) := hD
  refine lv_aload_n hx hb dX8_weight_4 rfl (lv_at hl 0 rfl) ?_
  refine lv_iload_n hx hb dX8_weight_5 rfl (lv_at hl 1 rfl) ?_
  refine zCi (S := (Nat → Int32)) (ws1 := fun u => mk Z b (u, (mCp al ke 347), hs, hq, sl, sa, off, car, pa, pq, sp, nu, dn, er)) (wr := []) (va_runV (As := [.int k]) (rest := []) ⟨hx, hb, hml, hown, hts⟩ (m_X8_doWeight l G Z _ b al (mCp al ke 347) hs hq sl sa off car pa pq sp nu dn er k) (cwV 1 hts gX8_weight_X8_doWeight rfl rfl rfl (by decide +kernel) ⟨Nat.le_of_ble_eq_true rfl, Nat.le_of_ble_eq_true rfl⟩) (zPreV hK hP hD hS hA hSW [0, 1, 2, 3, 4, 5, 6] rfl (by decide) 0 (ci := 8) rfl rfl rfl) rfl rfl hl.1 rfl (lv_room (Nat.le_of_ble_eq_true rfl)) dX8_weight_6 ⟨Nat.le_of_ble_eq_true rfl, Nat.le_of_ble_eq_true rfl⟩) hP hD hS hA [0, 1, 2, 3, 4, 5, 6] [] [0, 1, 2, 3, 4, 5, 6] rfl rfl (by decide) (by decide) (by decide) (fun _ => rfl) (fun r6 u H locs hw6 hP hD hS => ?_)
  obtain ⟨al1_6, rfl⟩ : ∃ z, z = u := ⟨_, rfl⟩
  try dsimp only at hw6
  obtain ⟨rfl, rfl⟩ := hw6
  have hP : va_P G vwCl (mk Z b ((mWtA al k), (mCp al ke 347), hs, hq, sl, sa, off, car, pa, pq, sp, nu, dn, er)) H := hP
  have hD : va_D A (mk Z b ((mWtA al k), (mCp al ke 347), hs, hq, sl, sa, off, car, pa, pq, sp, nu, dn, er)) := hD
  refine lv_istore_n (lv' := [(2, .int (mWtR al k)), (0, .ref (b 0)), (1, .int k)]) hx hb dX8_weight_9 rfl hl (by decide) rfl (fun ls hl => ?_)
  refine lv_iload_n hx hb dX8_weight_10 rfl (lv_at hl 0 rfl) ?_
  refine lv_if_ge (tgt := 18) hx hb dX8_weight_11 (by decide) (fun c11 => ?_) (fun c11 => ?_)
  · refine lv_aload_n hx hb dX8_weight_18 rfl (lv_at hl 1 rfl) ?_
    refine lv_iload_n hx hb dX8_weight_19 rfl (lv_at hl 0 rfl) ?_
    refine zCi (S := (Nat → Int32) × Nat) (ws1 := fun u => mk Z b ((mWtA al k), (mCp al ke 347), u.1, u.2, sl, sa, off, car, pa, pq, sp, nu, dn, er)) (wr := []) (va_runV (As := [.int (mWtR al k)]) (rest := []) ⟨hx, hb, hml, hown, hts⟩ (m_X8_changed l G Z _ b (mWtA al k) (mCp al ke 347) hs hq sl sa off car pa pq sp nu dn er (mWtR al k) (by
        exact hhq)) (cwV 1 hts gX8_weight_X8_changed rfl rfl rfl (by decide +kernel) ⟨Nat.le_of_ble_eq_true rfl, Nat.le_of_ble_eq_true rfl⟩) (zPreV hK hP hD hS hA hSW [0, 1, 2, 3, 4, 5, 6] rfl (by decide) 0 (ci := 8) rfl rfl rfl) rfl rfl hl.1 rfl (lv_room (Nat.le_of_ble_eq_true rfl)) dX8_weight_20 ⟨Nat.le_of_ble_eq_true rfl, Nat.le_of_ble_eq_true rfl⟩) hP hD hS hA [0, 1, 2, 3, 4, 5, 6] [] [0, 1, 2, 3, 4, 5, 6] rfl rfl (by decide) (by decide) (by decide) (fun _ => rfl) (fun r20 u H locs hw20 hP hD hS => ?_)
    obtain ⟨hs1_20, hq1_20⟩ := u
    try dsimp only at hw20
    obtain ⟨rfl, rfl, rfl⟩ := hw20
    have hP : va_P G vwCl (mk Z b ((mWtA al k), (mCp al ke 347), (mHs hs (mCp al ke 347) hq), (mHq hq), sl, sa, off, car, pa, pq, sp, nu, dn, er)) H := hP
    have hD : va_D A (mk Z b ((mWtA al k), (mCp al ke 347), (mHs hs (mCp al ke 347) hq), (mHq hq), sl, sa, off, car, pa, pq, sp, nu, dn, er)) := hD
    exact W.iret hx hb hr (zEi ((mWtA al k), (mCp al ke 347), (mHs hs (mCp al ke 347) hq), (mHq hq)) (by
        simp only [c11, Int32.not_lt.mpr c11, mHs_cp, ↓reduceIte, and_self]) hP hD hS) hS.2.2 dX8_weight_23
  · refine lv_iload_n hx hb dX8_weight_14 rfl (lv_at hl 0 rfl) ?_
    refine lv_goto (tgt := 23) hx hb dX8_weight_15 (by decide) ?_
    exact W.iret hx hb hr (zEi ((mWtA al k), (mCp al ke 347), hs, hq) (by
        simp only [c11, Int32.not_le.mp c11, mHs_cp, ↓reduceIte, and_self]) hP hD hS) hS.2.2 dX8_weight_23

set_option maxHeartbeats 4000000 in
set_option maxRecDepth 100000 in
theorem m_X8_pass (l : Launch) (G : va_G) (Z : Nat → ClassId) (sz : Nat) (b : Nat → Nat) (al : Nat → Int32) (ke : Nat → Int32) (hs : Nat → Int32) (hq : Nat) (sl : Nat → Int32) (sa : Nat → Int32) (off : Int32) (car : Int32) (pa : Nat → Int32) (pq : Nat) (sp : Nat) (nu : Int32) (dn : Int32) (er : Int32) (L : Nat) (ht : Int32) (ar : Int32) (rd : Int32) (mo : Int32) (hhq : hq ≤ 6) (hL : al 9 = nI L) (hL8 : L ≤ 48) : Met l yX8_pass wsX8_pass ({ frames := 4, cells := 0, slots := 0, locals := 99 }) (va_Pc [.ref (b 0), .int ht, .int ar, .int rd, .int mo] (zWP G Z sz (mk Z b (al, ke, hs, hq, sl, sa, off, car, pa, pq, sp, nu, dn, er)))) (va_Qi (fun (r : Int32) (u : (Nat → Int32) × (Nat → Int32) × (Nat → Int32) × Nat × Int32 × Int32) => r = mPaR al L ht ar rd mo ∧ u.1 = mPaA al L ht ar rd mo ∧ u.2.2.1 = (if mPaR al L ht ar rd mo < 0 then hs else mHs hs al hq) ∧ u.2.2.2.1 = (if mPaR al L ht ar rd mo < 0 then hq else mHq hq)) (fun (u : (Nat → Int32) × (Nat → Int32) × (Nat → Int32) × Nat × Int32 × Int32) t => zB G (va_A (mk Z b (al, ke, hs, hq, sl, sa, off, car, pa, pq, sp, nu, dn, er)) sz) (mk Z b (u.1, u.2.1, u.2.2.1, u.2.2.2.1, sl, sa, u.2.2.2.2.1, u.2.2.2.2.2, pa, pq, sp, nu, dn, er)) t) (va_A (mk Z b (al, ke, hs, hq, sl, sa, off, car, pa, pq, sp, nu, dn, er)) sz)) 0 0 (va_A (mk Z b (al, ke, hs, hq, sl, sa, off, car, pa, pq, sp, nu, dn, er)) sz) := by
  refine Met.ofW (cc := cX8_pass) (maxL := 6) (ret := (some .int)) (by decide) rfl ?_
  intro p e s m args below meth c s₁ B hml hv
  have hx := B.exec
  have hb := B.bytes
  have hr := B.returns
  have hts := atoms_spec (ws := wsX8_pass) B.pre
  have hown : s.vm.findClass RX8 = some m.cls := findClass_of_methodNamed B.named
  have hlocks := B.notSynchronized
  obtain ⟨rfl, hsz, hP, hK, hD, hA, hS, hSW⟩ := zEnter hv
  subst hsz
  generalize va_A (mk Z b (al, ke, hs, hq, sl, sa, off, car, pa, pq, sp, nu, dn, er)) s.heap.size = A at hD hA hS hSW ⊢
  have hP : va_P G vwCl (mk Z b (al, ke, hs, hq, sl, sa, off, car, pa, pq, sp, nu, dn, er)) s.heap := hP
  have hl := lv_entry ([.ref (b 0), .int ht, .int ar, .int rd, .int mo]) (n := 6) (Nat.le_of_ble_eq_true rfl)
  rw [lg_entry_eq]
  generalize (lg_sl ([.ref (b 0), .int ht, .int ar, .int rd, .int mo]) ++ List.replicate (6 - (lg_sl ([.ref (b 0), .int ht, .int ar, .int rd, .int mo])).length) Slot.unset).toArray = ls at hl ⊢
  have hl : lv_has ls 6 [(0, .ref (b 0)), (1, .int ht), (2, .int ar), (3, .int rd), (4, .int mo)] := hl
  refine lv_aload_n hx hb dX8_pass_0 rfl (lv_at hl 0 rfl) ?_
  refine zCv (S := Unit) (ws1 := fun u => mk Z b (al, (mCp al ke 347), hs, hq, sl, sa, off, car, pa, pq, sp, nu, dn, er)) (wr := []) (va_runV (As := []) (rest := []) ⟨hx, hb, hml, hown, hts⟩ (m_X8_keep l G Z _ b al ke hs hq sl sa off car pa pq sp nu dn er) (cwV 0 hts gX8_pass_X8_keep rfl rfl rfl (by decide +kernel) ⟨Nat.le_of_ble_eq_true rfl, Nat.le_of_ble_eq_true rfl⟩) (zPreV hK hP hD hS hA hSW [0, 1, 2, 3, 4, 5, 6] rfl (by decide) 0 (ci := 8) rfl rfl rfl) rfl rfl hl.1 rfl (lv_room (Nat.le_of_ble_eq_true rfl)) dX8_pass_1 ⟨Nat.le_of_ble_eq_true rfl, Nat.le_of_ble_eq_true rfl⟩) hP hD hS hA [0, 1, 2, 3, 4, 5, 6] [] [0, 1, 2, 3, 4, 5, 6] rfl rfl (by decide) (by decide) (by decide) (fun _ => rfl) (fun u H locs hw1 hP hD hS => ?_)
  try dsimp only at hw1
  have hP : va_P G vwCl (mk Z b (al, (mCp al ke 347), hs, hq, sl, sa, off, car, pa, pq, sp, nu, dn, er)) H := hP
  have hD : va_D A (mk Z b (al, (mCp al ke 347), hs, hq, sl, sa, off, car, pa, pq, sp, nu, dn, er)) := hD
  refine lv_aload_n hx hb dX8_pass_4 rfl (lv_at hl 0 rfl) ?_
  refine lv_iload_n hx hb dX8_pass_5 rfl (lv_at hl 1 rfl) ?_
  refine lv_iload_n hx hb dX8_pass_6 rfl (lv_at hl 2 rfl) ?_
  refine lv_iload_n hx hb dX8_pass_7 rfl (lv_at hl 3 rfl) ?_
  refine lv_iload hx hb dX8_pass_8 (lv_at hl 4 rfl) ?_
  refine zCi (S := (Nat → Int32) × Int32 × Int32) (ws1 := fun u => mk Z b (u.1, (mCp al ke 347), hs, hq, sl, sa, u.2.1, u.2.2, pa, pq, sp, nu, dn, er)) (wr := []) (va_runV (As := [.int ht, .int ar, .int rd, .int mo]) (rest := []) ⟨hx, hb, hml, hown, hts⟩ (m_X8_doPass l G Z _ b al (mCp al ke 347) hs hq sl sa off car pa pq sp nu dn er L ht ar rd mo (by
      exact hL) (by
      exact hL8)) (cwV 4 hts gX8_pass_X8_doPass rfl rfl rfl (by decide +kernel) ⟨Nat.le_of_ble_eq_true rfl, Nat.le_of_ble_eq_true rfl⟩) (zPreV hK hP hD hS hA hSW [0, 1, 2, 3, 4, 5, 6] rfl (by decide) 0 (ci := 8) rfl rfl rfl) rfl rfl hl.1 rfl (lv_room (Nat.le_of_ble_eq_true rfl)) dX8_pass_10 ⟨Nat.le_of_ble_eq_true rfl, Nat.le_of_ble_eq_true rfl⟩) hP hD hS hA [0, 1, 2, 3, 4, 5, 6] [] [0, 1, 2, 3, 4, 5, 6] rfl rfl (by decide) (by decide) (by decide) (fun _ => rfl) (fun r10 u H locs hw10 hP hD hS => ?_)
  obtain ⟨al1_10, o1_10, c1_10⟩ := u
  try dsimp only at hw10
  obtain ⟨rfl, rfl⟩ := hw10
  have hP : va_P G vwCl (mk Z b ((mPaA al L ht ar rd mo), (mCp al ke 347), hs, hq, sl, sa, o1_10, c1_10, pa, pq, sp, nu, dn, er)) H := hP
  have hD : va_D A (mk Z b ((mPaA al L ht ar rd mo), (mCp al ke 347), hs, hq, sl, sa, o1_10, c1_10, pa, pq, sp, nu, dn, er)) := hD
  refine lv_istore (lv' := [(5, .int (mPaR al L ht ar rd mo)), (0, .ref (b 0)), (1, .int ht), (2, .int ar), (3, .int rd), (4, .int mo)]) hx hb dX8_pass_13 hl (by decide) rfl (fun ls hl => ?_)
  refine lv_iload hx hb dX8_pass_15 (lv_at hl 0 rfl) ?_
  refine lv_if_ge (tgt := 25) hx hb dX8_pass_17 (by decide) (fun c17 => ?_) (fun c17 => ?_)
  · refine lv_aload_n hx hb dX8_pass_25 rfl (lv_at hl 1 rfl) ?_
    refine lv_iload hx hb dX8_pass_26 (lv_at hl 0 rfl) ?_
    refine zCi (S := (Nat → Int32) × Nat) (ws1 := fun u => mk Z b ((mPaA al L ht ar rd mo), (mCp al ke 347), u.1, u.2, sl, sa, o1_10, c1_10, pa, pq, sp, nu, dn, er)) (wr := []) (va_runV (As := [.int (mPaR al L ht ar rd mo)]) (rest := []) ⟨hx, hb, hml, hown, hts⟩ (m_X8_changed l G Z _ b (mPaA al L ht ar rd mo) (mCp al ke 347) hs hq sl sa o1_10 c1_10 pa pq sp nu dn er (mPaR al L ht ar rd mo) (by
        exact hhq)) (cwV 1 hts gX8_pass_X8_changed rfl rfl rfl (by decide +kernel) ⟨Nat.le_of_ble_eq_true rfl, Nat.le_of_ble_eq_true rfl⟩) (zPreV hK hP hD hS hA hSW [0, 1, 2, 3, 4, 5, 6] rfl (by decide) 0 (ci := 8) rfl rfl rfl) rfl rfl hl.1 rfl (lv_room (Nat.le_of_ble_eq_true rfl)) dX8_pass_28 ⟨Nat.le_of_ble_eq_true rfl, Nat.le_of_ble_eq_true rfl⟩) hP hD hS hA [0, 1, 2, 3, 4, 5, 6] [] [0, 1, 2, 3, 4, 5, 6] rfl rfl (by decide) (by decide) (by decide) (fun _ => rfl) (fun r28 u H locs hw28 hP hD hS => ?_)
    obtain ⟨hs1_28, hq1_28⟩ := u
    try dsimp only at hw28
    obtain ⟨rfl, rfl, rfl⟩ := hw28
    have hP : va_P G vwCl (mk Z b ((mPaA al L ht ar rd mo), (mCp al ke 347), (mHs hs (mCp al ke 347) hq), (mHq hq), sl, sa, o1_10, c1_10, pa, pq, sp, nu, dn, er)) H := hP
    have hD : va_D A (mk Z b ((mPaA al L ht ar rd mo), (mCp al ke 347), (mHs hs (mCp al ke 347) hq), (mHq hq), sl, sa, o1_10, c1_10, pa, pq, sp, nu, dn, er)) := hD
    exact W.iret hx hb hr (zEi ((mPaA al L ht ar rd mo), (mCp al ke 347), (mHs hs (mCp al ke 347) hq), (mHq hq), o1_10, c1_10) (by
        simp only [c17, Int32.not_lt.mpr c17, mHs_cp, ↓reduceIte, and_self]) hP hD hS) hS.2.2 dX8_pass_31
  · refine lv_iload hx hb dX8_pass_20 (lv_at hl 0 rfl) ?_
    refine lv_goto (tgt := 31) hx hb dX8_pass_22 (by decide) ?_
    exact W.iret hx hb hr (zEi ((mPaA al L ht ar rd mo), (mCp al ke 347), hs, hq, o1_10, c1_10) (by
        simp only [c17, Int32.not_le.mp c17, mHs_cp, ↓reduceIte, and_self]) hP hD hS) hS.2.2 dX8_pass_31

set_option maxHeartbeats 4000000 in
set_option maxRecDepth 100000 in
theorem m_X8_zero (l : Launch) (G : va_G) (Z : Nat → ClassId) (sz : Nat) (b : Nat → Nat) (al : Nat → Int32) (ke : Nat → Int32) (hs : Nat → Int32) (hq : Nat) (sl : Nat → Int32) (sa : Nat → Int32) (off : Int32) (car : Int32) (pa : Nat → Int32) (pq : Nat) (sp : Nat) (nu : Int32) (dn : Int32) (er : Int32) (hhq : hq ≤ 6) : Met l yX8_zero wsX8_zero ({ frames := 1, cells := 0, slots := 0, locals := 22 }) (va_Pc [.ref (b 0)] (zWP G Z sz (mk Z b (al, ke, hs, hq, sl, sa, off, car, pa, pq, sp, nu, dn, er)))) (va_Qi (fun (r : Int32) (u : (Nat → Int32) × (Nat → Int32) × (Nat → Int32) × Nat) => r = al 5 + 1000000000 ∧ u.1 = mZeA al ∧ u.2.2.1 = mHs hs al hq ∧ u.2.2.2 = mHq hq) (fun (u : (Nat → Int32) × (Nat → Int32) × (Nat → Int32) × Nat) t => zB G (va_A (mk Z b (al, ke, hs, hq, sl, sa, off, car, pa, pq, sp, nu, dn, er)) sz) (mk Z b (u.1, u.2.1, u.2.2.1, u.2.2.2, sl, sa, off, car, pa, pq, sp, nu, dn, er)) t) (va_A (mk Z b (al, ke, hs, hq, sl, sa, off, car, pa, pq, sp, nu, dn, er)) sz)) 0 0 (va_A (mk Z b (al, ke, hs, hq, sl, sa, off, car, pa, pq, sp, nu, dn, er)) sz) := by
  refine Met.ofW (cc := cX8_zero) (maxL := 1) (ret := (some .int)) (by decide) rfl ?_
  intro p e s m args below meth c s₁ B hml hv
  have hx := B.exec
  have hb := B.bytes
  have hr := B.returns
  have hts := atoms_spec (ws := wsX8_zero) B.pre
  have hown : s.vm.findClass RX8 = some m.cls := findClass_of_methodNamed B.named
  have hlocks := B.notSynchronized
  obtain ⟨rfl, hsz, hP, hK, hD, hA, hS, hSW⟩ := zEnter hv
  subst hsz
  generalize va_A (mk Z b (al, ke, hs, hq, sl, sa, off, car, pa, pq, sp, nu, dn, er)) s.heap.size = A at hD hA hS hSW ⊢
  have hP : va_P G vwCl (mk Z b (al, ke, hs, hq, sl, sa, off, car, pa, pq, sp, nu, dn, er)) s.heap := hP
  have hl := lv_entry ([.ref (b 0)]) (n := 1) (Nat.le_of_ble_eq_true rfl)
  rw [lg_entry_eq]
  generalize (lg_sl ([.ref (b 0)]) ++ List.replicate (1 - (lg_sl ([.ref (b 0)])).length) Slot.unset).toArray = ls at hl ⊢
  have hl : lv_has ls 1 [(0, .ref (b 0))] := hl
  refine lv_aload_n hx hb dX8_zero_0 rfl (lv_at hl 0 rfl) ?_
  refine zCv (S := Unit) (ws1 := fun u => mk Z b (al, (mCp al ke 347), hs, hq, sl, sa, off, car, pa, pq, sp, nu, dn, er)) (wr := []) (va_runV (As := []) (rest := []) ⟨hx, hb, hml, hown, hts⟩ (m_X8_keep l G Z _ b al ke hs hq sl sa off car pa pq sp nu dn er) (cwV 0 hts gX8_zero_X8_keep rfl rfl rfl (by decide +kernel) ⟨Nat.le_of_ble_eq_true rfl, Nat.le_of_ble_eq_true rfl⟩) (zPreV hK hP hD hS hA hSW [0, 1, 2, 3, 4, 5, 6] rfl (by decide) 0 (ci := 8) rfl rfl rfl) rfl rfl hl.1 rfl (lv_room (Nat.le_of_ble_eq_true rfl)) dX8_zero_1 ⟨Nat.le_of_ble_eq_true rfl, Nat.le_of_ble_eq_true rfl⟩) hP hD hS hA [0, 1, 2, 3, 4, 5, 6] [] [0, 1, 2, 3, 4, 5, 6] rfl rfl (by decide) (by decide) (by decide) (fun _ => rfl) (fun u H locs hw1 hP hD hS => ?_)
  try dsimp only at hw1
  have hP : va_P G vwCl (mk Z b (al, (mCp al ke 347), hs, hq, sl, sa, off, car, pa, pq, sp, nu, dn, er)) H := hP
  have hD : va_D A (mk Z b (al, (mCp al ke 347), hs, hq, sl, sa, off, car, pa, pq, sp, nu, dn, er)) := hD
  refine lv_aload_n hx hb dX8_zero_4 rfl (lv_at hl 0 rfl) ?_
  refine lv_aload_n hx hb dX8_zero_5 rfl (lv_at hl 0 rfl) ?_
  refine zCi (S := Unit) (ws1 := fun u => mk Z b ((mZeA al), (mCp al ke 347), hs, hq, sl, sa, off, car, pa, pq, sp, nu, dn, er)) (wr := []) (va_runV (As := []) (rest := [.ref (b 0)]) ⟨hx, hb, hml, hown, hts⟩ (m_X8_doZero l G Z _ b al (mCp al ke 347) hs hq sl sa off car pa pq sp nu dn er) (cwV 0 hts gX8_zero_X8_doZero rfl rfl rfl (by decide +kernel) ⟨Nat.le_of_ble_eq_true rfl, Nat.le_of_ble_eq_true rfl⟩) (zPreV hK hP hD hS hA hSW [0, 1, 2, 3, 4, 5, 6] rfl (by decide) 0 (ci := 8) rfl rfl rfl) rfl rfl hl.1 rfl (lv_room (Nat.le_of_ble_eq_true rfl)) dX8_zero_6 ⟨Nat.le_of_ble_eq_true rfl, Nat.le_of_ble_eq_true rfl⟩) hP hD hS hA [0, 1, 2, 3, 4, 5, 6] [] [0, 1, 2, 3, 4, 5, 6] rfl rfl (by decide) (by decide) (by decide) (fun _ => rfl) (fun r6 u H locs hw6 hP hD hS => ?_)
  try dsimp only at hw6
  subst hw6
  have hP : va_P G vwCl (mk Z b ((mZeA al), (mCp al ke 347), hs, hq, sl, sa, off, car, pa, pq, sp, nu, dn, er)) H := hP
  have hD : va_D A (mk Z b ((mZeA al), (mCp al ke 347), hs, hq, sl, sa, off, car, pa, pq, sp, nu, dn, er)) := hD
  refine zCi (S := (Nat → Int32) × Nat) (ws1 := fun u => mk Z b ((mZeA al), (mCp al ke 347), u.1, u.2, sl, sa, off, car, pa, pq, sp, nu, dn, er)) (wr := []) (va_runV (As := [.int (al 5 + 1000000000)]) (rest := []) ⟨hx, hb, hml, hown, hts⟩ (m_X8_changed l G Z _ b (mZeA al) (mCp al ke 347) hs hq sl sa off car pa pq sp nu dn er (al 5 + 1000000000) (by
      exact hhq)) (cwV 1 hts gX8_zero_X8_changed rfl rfl rfl (by decide +kernel) ⟨Nat.le_of_ble_eq_true rfl, Nat.le_of_ble_eq_true rfl⟩) (zPreV hK hP hD hS hA hSW [0, 1, 2, 3, 4, 5, 6] rfl (by decide) 0 (ci := 8) rfl rfl rfl) rfl rfl hl.1 rfl (lv_room (Nat.le_of_ble_eq_true rfl)) dX8_zero_9 ⟨Nat.le_of_ble_eq_true rfl, Nat.le_of_ble_eq_true rfl⟩) hP hD hS hA [0, 1, 2, 3, 4, 5, 6] [] [0, 1, 2, 3, 4, 5, 6] rfl rfl (by decide) (by decide) (by decide) (fun _ => rfl) (fun r9 u H locs hw9 hP hD hS => ?_)
  obtain ⟨hs1_9, hq1_9⟩ := u
  try dsimp only at hw9
  obtain ⟨rfl, rfl, rfl⟩ := hw9
  have hP : va_P G vwCl (mk Z b ((mZeA al), (mCp al ke 347), (mHs hs (mCp al ke 347) hq), (mHq hq), sl, sa, off, car, pa, pq, sp, nu, dn, er)) H := hP
  have hD : va_D A (mk Z b ((mZeA al), (mCp al ke 347), (mHs hs (mCp al ke 347) hq), (mHq hq), sl, sa, off, car, pa, pq, sp, nu, dn, er)) := hD
  exact W.iret hx hb hr (zEi ((mZeA al), (mCp al ke 347), (mHs hs (mCp al ke 347) hq), (mHq hq)) (by
      simp only [mHs_cp, and_self]) hP hD hS) hS.2.2 dX8_zero_12

set_option maxHeartbeats 4000000 in
set_option maxRecDepth 100000 in
theorem m_X8_hour (l : Launch) (G : va_G) (Z : Nat → ClassId) (sz : Nat) (b : Nat → Nat) (al : Nat → Int32) (ke : Nat → Int32) (hs : Nat → Int32) (hq : Nat) (sl : Nat → Int32) (sa : Nat → Int32) (off : Int32) (car : Int32) (pa : Nat → Int32) (pq : Nat) (sp : Nat) (nu : Int32) (dn : Int32) (er : Int32) (L : Nat) (ago : Int32) (what : Int32) (hL : al 9 = nI L) (hL8 : L ≤ 48) : Met l yX8_hour wsX8_hour ({ frames := 1, cells := 0, slots := 0, locals := 25 }) (va_Pc [.ref (b 0), .int ago, .int what] (zWP G Z sz (mk Z b (al, ke, hs, hq, sl, sa, off, car, pa, pq, sp, nu, dn, er)))) (va_Qi (fun (r : Int32) (u : Unit) => r = mHour al L ago what) (fun (u : Unit) t => zB G (va_A (mk Z b (al, ke, hs, hq, sl, sa, off, car, pa, pq, sp, nu, dn, er)) sz) (mk Z b (al, ke, hs, hq, sl, sa, off, car, pa, pq, sp, nu, dn, er)) t) (va_A (mk Z b (al, ke, hs, hq, sl, sa, off, car, pa, pq, sp, nu, dn, er)) sz)) 0 0 (va_A (mk Z b (al, ke, hs, hq, sl, sa, off, car, pa, pq, sp, nu, dn, er)) sz) := by
  refine Met.ofW (cc := cX8_hour) (maxL := 3) (ret := (some .int)) (by decide) rfl ?_
  intro p e s m args below meth c s₁ B hml hv
  have hx := B.exec
  have hb := B.bytes
  have hr := B.returns
  have hts := atoms_spec (ws := wsX8_hour) B.pre
  have hown : s.vm.findClass RX8 = some m.cls := findClass_of_methodNamed B.named
  have hlocks := B.notSynchronized
  obtain ⟨rfl, hsz, hP, hK, hD, hA, hS, hSW⟩ := zEnter hv
  subst hsz
  generalize va_A (mk Z b (al, ke, hs, hq, sl, sa, off, car, pa, pq, sp, nu, dn, er)) s.heap.size = A at hD hA hS hSW ⊢
  have k_7 := hts (.fieldLink RX8 7 "WarmRodsModel" "all" "[I") (List.mem_of_getElem? (i := 1) rfl)
  have iX8 : ∀ w ∈ u_ws RX8 TX8 14, w ∈ wsX8_hour := fun _ h => List.mem_cons_of_mem _ (List.mem_append_right _ h)
  have k_119 := hts (.constantLong RX8 119 (6)) (List.mem_of_getElem? (i := 2) rfl)
  have k_98 := hts (.constant RX8 98 (1000000000)) (List.mem_of_getElem? (i := 4) rfl)
  have k_124 := hts (.constant RX8 124 (100000)) (List.mem_of_getElem? (i := 3) rfl)
  have hP : va_P G vwCl (mk Z b (al, ke, hs, hq, sl, sa, off, car, pa, pq, sp, nu, dn, er)) s.heap := hP
  have hl := lv_entry ([.ref (b 0), .int ago, .int what]) (n := 3) (Nat.le_of_ble_eq_true rfl)
  rw [lg_entry_eq]
  generalize (lg_sl ([.ref (b 0), .int ago, .int what]) ++ List.replicate (3 - (lg_sl ([.ref (b 0), .int ago, .int what])).length) Slot.unset).toArray = ls at hl ⊢
  have hl : lv_has ls 3 [(0, .ref (b 0)), (1, .int ago), (2, .int what)] := hl
  refine lv_iload_n hx hb dX8_hour_0 rfl (lv_at hl 1 rfl) ?_
  refine lv_i2l (v := ago.toInt64) hx hb dX8_hour_1 rfl ?_
  refine lv_lconst (v := 0) hx hb dX8_hour_2 (by decide) ?_
  refine lv_aload_n hx hb dX8_hour_3 rfl (lv_at hl 0 rfl) ?_
  refine va_get (D := G) (ci := 8) (v := .ref (b 1)) (C := RX8) (T := TX8) (N := 14) hx hb hts iX8 hown hK hP 0 rfl rfl 0 (by decide) k_7 (fun _ h9 => h9) rfl dX8_hour_4 ?_
  refine lv_bipush (v := 9) hx hb dX8_hour_7 (by decide) ?_
  refine zIald (f := al) hx hb hK hP 1 0 rfl rfl 9 (by decide) (by decide) (by decide) dX8_hour_9 ?_
  refine lv_i2l (v := (al 9).toInt64) hx hb dX8_hour_10 rfl ?_
  refine lv_lconst (v := 1) hx hb dX8_hour_11 (by decide) ?_
  refine lv_lsub hx hb dX8_hour_12 ?_
  refine zCi (S := Unit) (ws1 := fun u => mk Z b (al, ke, hs, hq, sl, sa, off, car, pa, pq, sp, nu, dn, er)) (wr := mk Z b (al, ke, hs, hq, sl, sa, off, car, pa, pq, sp, nu, dn, er)) (va_runS (As := [.long ago.toInt64, .long 0, .long ((al 9).toInt64 - 1)]) (rest := []) ⟨hx, hb, hml, hown, hts⟩ (m_X8_in l G Z _ ago.toInt64 0 ((al 9).toInt64 - 1)) (va_cwS 3 hts gX8_hour_X8_in rfl rfl rfl (by decide +kernel) ⟨Nat.le_of_ble_eq_true rfl, Nat.le_of_ble_eq_true rfl⟩) (zPreS hK hP hD hS hA hSW [] rfl (by decide)) rfl rfl hl.1 rfl (lv_room (Nat.le_of_ble_eq_true rfl)) dX8_hour_13 ⟨Nat.le_of_ble_eq_true rfl, Nat.le_of_ble_eq_true rfl⟩) hP hD hS hA [] [0, 1, 2, 3, 4, 5, 6] [0, 1, 2, 3, 4, 5, 6] rfl rfl (by decide) (by decide) (by decide) (fun _ => rfl) (fun r13 u H locs hw13 hP hD hS => ?_)
  try dsimp only at hw13
  subst hw13
  have hP : va_P G vwCl (mk Z b (al, ke, hs, hq, sl, sa, off, car, pa, pq, sp, nu, dn, er)) H := hP
  have hD : va_D A (mk Z b (al, ke, hs, hq, sl, sa, off, car, pa, pq, sp, nu, dn, er)) := hD
  refine lv_if_ne (tgt := 21) hx hb dX8_hour_16 (by decide) (fun c16 => ?_) (fun c16 => ?_)
  · rw [hL, zSub1L (by omega), show mIn ago.toInt64 0 (nI L - 1).toInt64 = mRng ago 0 (nI L - 1) from mIn_w ago 0 (nI L - 1)] at c16
    obtain ⟨ha, hal⟩ := mHour_ago hL8 c16
    refine lv_iload_n hx hb dX8_hour_21 rfl (lv_at hl 2 rfl) ?_
    refine lv_i2l (v := what.toInt64) hx hb dX8_hour_22 rfl ?_
    refine lv_lconst (v := 0) hx hb dX8_hour_23 (by decide) ?_
    refine lv_ldc2 (v := 6) hx hb hown k_119 dX8_hour_24 ?_
    refine zCi (S := Unit) (ws1 := fun u => mk Z b (al, ke, hs, hq, sl, sa, off, car, pa, pq, sp, nu, dn, er)) (wr := mk Z b (al, ke, hs, hq, sl, sa, off, car, pa, pq, sp, nu, dn, er)) (va_runS (As := [.long what.toInt64, .long 0, .long 6]) (rest := []) ⟨hx, hb, hml, hown, hts⟩ (m_X8_in l G Z _ what.toInt64 0 6) (va_cwS 3 hts gX8_hour_X8_in rfl rfl rfl (by decide +kernel) ⟨Nat.le_of_ble_eq_true rfl, Nat.le_of_ble_eq_true rfl⟩) (zPreS hK hP hD hS hA hSW [] rfl (by decide)) rfl rfl hl.1 rfl (lv_room (Nat.le_of_ble_eq_true rfl)) dX8_hour_27 ⟨Nat.le_of_ble_eq_true rfl, Nat.le_of_ble_eq_true rfl⟩) hP hD hS hA [] [0, 1, 2, 3, 4, 5, 6] [0, 1, 2, 3, 4, 5, 6] rfl rfl (by decide) (by decide) (by decide) (fun _ => rfl) (fun r27 u H locs hw27 hP hD hS => ?_)
    try dsimp only at hw27
    subst hw27
    have hP : va_P G vwCl (mk Z b (al, ke, hs, hq, sl, sa, off, car, pa, pq, sp, nu, dn, er)) H := hP
    have hD : va_D A (mk Z b (al, ke, hs, hq, sl, sa, off, car, pa, pq, sp, nu, dn, er)) := hD
    refine lv_if_ne (tgt := 36) hx hb dX8_hour_30 (by decide) (fun c30 => ?_) (fun c30 => ?_)
    · rw [show mIn what.toInt64 0 6 = mRng what 0 6 from mIn_w what 0 6] at c30
      obtain ⟨hw, -, hw6⟩ := zRange (lo := 0) (hi := 6) (by decide) (by decide) c30
      refine lv_aload_n hx hb dX8_hour_36 rfl (lv_at hl 0 rfl) ?_
      refine lv_iload_n hx hb dX8_hour_37 rfl (lv_at hl 1 rfl) ?_
      refine lv_iload_n hx hb dX8_hour_38 rfl (lv_at hl 2 rfl) ?_
      refine zCi (S := Unit) (ws1 := fun u => mk Z b (al, ke, hs, hq, sl, sa, off, car, pa, pq, sp, nu, dn, er)) (wr := []) (va_runV (As := [.int ago, .int what]) (rest := []) ⟨hx, hb, hml, hown, hts⟩ (m_X8_of l G Z _ b al ke hs hq sl sa off car pa pq sp nu dn er ago what ago.toNatClampNeg what.toNatClampNeg (by
          exact ha) (by
          exact hw) (by
          omega) (by
          omega)) (cwV 2 hts gX8_hour_X8_of rfl rfl rfl (by decide +kernel) ⟨Nat.le_of_ble_eq_true rfl, Nat.le_of_ble_eq_true rfl⟩) (zPreV hK hP hD hS hA hSW [0, 1, 2, 3, 4, 5, 6] rfl (by decide) 0 (ci := 8) rfl rfl rfl) rfl rfl hl.1 rfl (lv_room (Nat.le_of_ble_eq_true rfl)) dX8_hour_39 ⟨Nat.le_of_ble_eq_true rfl, Nat.le_of_ble_eq_true rfl⟩) hP hD hS hA [0, 1, 2, 3, 4, 5, 6] [] [0, 1, 2, 3, 4, 5, 6] rfl rfl (by decide) (by decide) (by decide) (fun _ => rfl) (fun r39 u H locs hw39 hP hD hS => ?_)
      try dsimp only at hw39
      subst hw39
      have hP : va_P G vwCl (mk Z b (al, ke, hs, hq, sl, sa, off, car, pa, pq, sp, nu, dn, er)) H := hP
      have hD : va_D A (mk Z b (al, ke, hs, hq, sl, sa, off, car, pa, pq, sp, nu, dn, er)) := hD
      refine lv_iload_n hx hb dX8_hour_42 rfl (lv_at hl 2 rfl) ?_
      refine lv_if_ne (tgt := 51) hx hb dX8_hour_43 (by decide) (fun c43 => ?_) (fun c43 => ?_)
      · refine lv_iload_n hx hb dX8_hour_51 rfl (lv_at hl 2 rfl) ?_
        refine lv_iconst (v := 3) hx hb dX8_hour_52 (by decide) ?_
        refine lv_icmp_ne (tgt := 61) hx hb dX8_hour_53 (by decide) (fun c53 => ?_) (fun c53 => ?_)
        · refine lv_iload_n hx hb dX8_hour_61 rfl (lv_at hl 2 rfl) ?_
          refine lv_iconst (v := 4) hx hb dX8_hour_62 (by decide) ?_
          refine lv_icmp_ne (tgt := 71) hx hb dX8_hour_63 (by decide) (fun c63 => ?_) (fun c63 => ?_)
          · refine lv_iconst (v := 0) hx hb dX8_hour_71 (by decide) ?_
            refine lv_iadd hx hb dX8_hour_72 ?_
            exact W.iret hx hb hr (zEi () (by
                simp only [mHour, c16, c30, c43, c53, c63, ↓reduceIte]) hP hD hS) hS.2.2 dX8_hour_73
          · refine lv_ldc (v := 1000000000) hx hb hown k_98 dX8_hour_66 ?_
            refine lv_goto (tgt := 72) hx hb dX8_hour_68 (by decide) ?_
            refine lv_iadd hx hb dX8_hour_72 ?_
            exact W.iret hx hb hr (zEi () (by
                simp only [mHour, c16, c30, c43, c53, eq_true c63, ↓reduceIte]) hP hD hS) hS.2.2 dX8_hour_73
        · refine lv_ldc (v := 100000) hx hb hown k_124 dX8_hour_56 ?_
          refine lv_goto (tgt := 72) hx hb dX8_hour_58 (by decide) ?_
          refine lv_iadd hx hb dX8_hour_72 ?_
          exact W.iret hx hb hr (zEi () (by
              simp only [mHour, c16, c30, c43, eq_true c53, ↓reduceIte]) hP hD hS) hS.2.2 dX8_hour_73
      · refine lv_bipush (v := 100) hx hb dX8_hour_46 (by decide) ?_
        refine lv_goto (tgt := 72) hx hb dX8_hour_48 (by decide) ?_
        refine lv_iadd hx hb dX8_hour_72 ?_
        exact W.iret hx hb hr (zEi () (by
            simp only [mHour, c16, c30, eq_true c43, ↓reduceIte]) hP hD hS) hS.2.2 dX8_hour_73
    · refine lv_bipush (v := (-2)) hx hb dX8_hour_33 (by decide) ?_
      exact W.iret hx hb hr (zEi () (by
          rw [show mIn what.toInt64 0 6 = mRng what 0 6 from mIn_w what 0 6] at c30
          rw [mHour, if_neg c16, if_pos c30]) hP hD hS) hS.2.2 dX8_hour_35
  · refine lv_iconst (v := (-1)) hx hb dX8_hour_19 (by decide) ?_
    exact W.iret hx hb hr (zEi () (by
        rw [hL, zSub1L (by omega), show mIn ago.toInt64 0 (nI L - 1).toInt64 = mRng ago 0 (nI L - 1) from mIn_w ago 0 (nI L - 1)] at c16
        rw [mHour, if_pos c16]) hP hD hS) hS.2.2 dX8_hour_20

set_option maxHeartbeats 4000000 in
set_option maxRecDepth 100000 in
theorem m_X8_count (l : Launch) (G : va_G) (Z : Nat → ClassId) (sz : Nat) (b : Nat → Nat) (al : Nat → Int32) (ke : Nat → Int32) (hs : Nat → Int32) (hq : Nat) (sl : Nat → Int32) (sa : Nat → Int32) (off : Int32) (car : Int32) (pa : Nat → Int32) (pq : Nat) (sp : Nat) (nu : Int32) (dn : Int32) (er : Int32) (w : Int32)  : Met l yX8_count wsX8_count ({ frames := 0, cells := 0, slots := 0, locals := 0 }) (va_Pc [.ref (b 0), .int w] (zWP G Z sz (mk Z b (al, ke, hs, hq, sl, sa, off, car, pa, pq, sp, nu, dn, er)))) (va_Qi (fun (r : Int32) (u : Unit) => r = mCount al pq hq w) (fun (u : Unit) t => zB G (va_A (mk Z b (al, ke, hs, hq, sl, sa, off, car, pa, pq, sp, nu, dn, er)) sz) (mk Z b (al, ke, hs, hq, sl, sa, off, car, pa, pq, sp, nu, dn, er)) t) (va_A (mk Z b (al, ke, hs, hq, sl, sa, off, car, pa, pq, sp, nu, dn, er)) sz)) 0 0 (va_A (mk Z b (al, ke, hs, hq, sl, sa, off, car, pa, pq, sp, nu, dn, er)) sz) := by
  refine Met.ofW (cc := cX8_count) (maxL := 2) (ret := (some .int)) (by decide) rfl ?_
  intro p e s m args below meth c s₁ B hml hv
  have hx := B.exec
  have hb := B.bytes
  have hr := B.returns
  have hts := atoms_spec (ws := wsX8_count) B.pre
  have hown : s.vm.findClass RX8 = some m.cls := findClass_of_methodNamed B.named
  have hlocks := B.notSynchronized
  obtain ⟨rfl, hsz, hP, hK, hD, hA, hS, hSW⟩ := zEnter hv
  subst hsz
  generalize va_A (mk Z b (al, ke, hs, hq, sl, sa, off, car, pa, pq, sp, nu, dn, er)) s.heap.size = A at hD hA hS hSW ⊢
  have k_7 := hts (.fieldLink RX8 7 "WarmRodsModel" "all" "[I") (List.mem_of_getElem? (i := 1) rfl)
  have iX8 : ∀ w ∈ u_ws RX8 TX8 14, w ∈ wsX8_count := fun _ h => List.mem_cons_of_mem _ (List.mem_append_right _ h)
  have k_98 := hts (.constant RX8 98 (1000000000)) (List.mem_of_getElem? (i := 2) rfl)
  have k_125 := hts (.fieldLink RX8 125 "WarmRodsModel" "padLong" "I") (List.mem_of_getElem? (i := 3) rfl)
  have k_28 := hts (.fieldLink RX8 28 "WarmRodsModel" "historyLong" "I") (List.mem_of_getElem? (i := 4) rfl)
  have hP : va_P G vwCl (mk Z b (al, ke, hs, hq, sl, sa, off, car, pa, pq, sp, nu, dn, er)) s.heap := hP
  have hl := lv_entry ([.ref (b 0), .int w]) (n := 2) (Nat.le_of_ble_eq_true rfl)
  rw [lg_entry_eq]
  generalize (lg_sl ([.ref (b 0), .int w]) ++ List.replicate (2 - (lg_sl ([.ref (b 0), .int w])).length) Slot.unset).toArray = ls at hl ⊢
  have hl : lv_has ls 2 [(0, .ref (b 0)), (1, .int w)] := hl
  refine lv_iload_n hx hb dX8_count_0 rfl (lv_at hl 1 rfl) ?_
  by_cases c1_0 : w = 0
  · refine lv_tableIn (off := 67) (tgt := 68) hx hb dX8_count_1 (zTin1 c1_0 (by decide)) (zTin2 c1_0 (by decide)) (zTin3 c1_0 (by decide)) (by decide) ?_
    refine lv_aload_n hx hb dX8_count_68 rfl (lv_at hl 0 rfl) ?_
    refine va_get (D := G) (ci := 8) (v := .ref (b 1)) (C := RX8) (T := TX8) (N := 14) hx hb hts iX8 hown hK hP 0 rfl rfl 0 (by decide) k_7 (fun _ h9 => h9) rfl dX8_count_69 ?_
    refine lv_iconst (v := 4) hx hb dX8_count_72 (by decide) ?_
    refine zIald (f := al) hx hb hK hP 1 0 rfl rfl 4 (by decide) (by decide) (by decide) dX8_count_73 ?_
    exact W.iret hx hb hr (zEi () (by
        rw [mCount, if_pos c1_0]) hP hD hS) hS.2.2 dX8_count_74
  by_cases c1_1 : w = 1
  · refine lv_tableIn (off := 74) (tgt := 75) hx hb dX8_count_1 (zTin1 c1_1 (by decide)) (zTin2 c1_1 (by decide)) (zTin3 c1_1 (by decide)) (by decide) ?_
    refine lv_aload_n hx hb dX8_count_75 rfl (lv_at hl 0 rfl) ?_
    refine va_get (D := G) (ci := 8) (v := .ref (b 1)) (C := RX8) (T := TX8) (N := 14) hx hb hts iX8 hown hK hP 0 rfl rfl 0 (by decide) k_7 (fun _ h9 => h9) rfl dX8_count_76 ?_
    refine lv_iconst (v := 5) hx hb dX8_count_79 (by decide) ?_
    refine zIald (f := al) hx hb hK hP 1 0 rfl rfl 5 (by decide) (by decide) (by decide) dX8_count_80 ?_
    refine lv_ldc (v := 1000000000) hx hb hown k_98 dX8_count_81 ?_
    refine lv_iadd hx hb dX8_count_83 ?_
    exact W.iret hx hb hr (zEi () (by
        rw [mCount, if_neg c1_0, if_pos c1_1]) hP hD hS) hS.2.2 dX8_count_84
  by_cases c1_2 : w = 2
  · refine lv_tableIn (off := 84) (tgt := 85) hx hb dX8_count_1 (zTin1 c1_2 (by decide)) (zTin2 c1_2 (by decide)) (zTin3 c1_2 (by decide)) (by decide) ?_
    refine lv_aload_n hx hb dX8_count_85 rfl (lv_at hl 0 rfl) ?_
    refine va_get (D := G) (ci := 8) (v := .ref (b 1)) (C := RX8) (T := TX8) (N := 14) hx hb hts iX8 hown hK hP 0 rfl rfl 0 (by decide) k_7 (fun _ h9 => h9) rfl dX8_count_86 ?_
    refine lv_bipush (v := 6) hx hb dX8_count_89 (by decide) ?_
    refine zIald (f := al) hx hb hK hP 1 0 rfl rfl 6 (by decide) (by decide) (by decide) dX8_count_91 ?_
    refine lv_sipush (v := 1000) hx hb dX8_count_92 (by decide) ?_
    refine lv_iadd hx hb dX8_count_95 ?_
    exact W.iret hx hb hr (zEi () (by
        rw [mCount, if_neg c1_0, if_neg c1_1, if_pos c1_2]) hP hD hS) hS.2.2 dX8_count_96
  by_cases c1_3 : w = 3
  · refine lv_tableIn (off := 96) (tgt := 97) hx hb dX8_count_1 (zTin1 c1_3 (by decide)) (zTin2 c1_3 (by decide)) (zTin3 c1_3 (by decide)) (by decide) ?_
    refine lv_aload_n hx hb dX8_count_97 rfl (lv_at hl 0 rfl) ?_
    refine va_get (D := G) (ci := 8) (v := .ref (b 1)) (C := RX8) (T := TX8) (N := 14) hx hb hts iX8 hown hK hP 0 rfl rfl 0 (by decide) k_7 (fun _ h9 => h9) rfl dX8_count_98 ?_
    refine lv_bipush (v := 7) hx hb dX8_count_101 (by decide) ?_
    refine zIald (f := al) hx hb hK hP 1 0 rfl rfl 7 (by decide) (by decide) (by decide) dX8_count_103 ?_
    exact W.iret hx hb hr (zEi () (by
        rw [mCount, if_neg c1_0, if_neg c1_1, if_neg c1_2, if_pos c1_3]) hP hD hS) hS.2.2 dX8_count_104
  by_cases c1_4 : w = 4
  · refine lv_tableIn (off := 104) (tgt := 105) hx hb dX8_count_1 (zTin1 c1_4 (by decide)) (zTin2 c1_4 (by decide)) (zTin3 c1_4 (by decide)) (by decide) ?_
    refine lv_aload_n hx hb dX8_count_105 rfl (lv_at hl 0 rfl) ?_
    refine va_get (D := G) (ci := 8) (v := .ref (b 1)) (C := RX8) (T := TX8) (N := 14) hx hb hts iX8 hown hK hP 0 rfl rfl 0 (by decide) k_7 (fun _ h9 => h9) rfl dX8_count_106 ?_
    refine lv_bipush (v := 8) hx hb dX8_count_109 (by decide) ?_
    refine zIald (f := al) hx hb hK hP 1 0 rfl rfl 8 (by decide) (by decide) (by decide) dX8_count_111 ?_
    exact W.iret hx hb hr (zEi () (by
        rw [mCount, if_neg c1_0, if_neg c1_1, if_neg c1_2, if_neg c1_3, if_pos c1_4]) hP hD hS) hS.2.2 dX8_count_112
  by_cases c1_5 : w = 5
  · refine lv_tableIn (off := 112) (tgt := 113) hx hb dX8_count_1 (zTin1 c1_5 (by decide)) (zTin2 c1_5 (by decide)) (zTin3 c1_5 (by decide)) (by decide) ?_
    refine lv_aload_n hx hb dX8_count_113 rfl (lv_at hl 0 rfl) ?_
    refine va_get (D := G) (ci := 8) (v := .ref (b 1)) (C := RX8) (T := TX8) (N := 14) hx hb hts iX8 hown hK hP 0 rfl rfl 0 (by decide) k_7 (fun _ h9 => h9) rfl dX8_count_114 ?_
    refine lv_bipush (v := 9) hx hb dX8_count_117 (by decide) ?_
    refine zIald (f := al) hx hb hK hP 1 0 rfl rfl 9 (by decide) (by decide) (by decide) dX8_count_119 ?_
    exact W.iret hx hb hr (zEi () (by
        rw [mCount, if_neg c1_0, if_neg c1_1, if_neg c1_2, if_neg c1_3, if_neg c1_4, if_pos c1_5]) hP hD hS) hS.2.2 dX8_count_120
  by_cases c1_6 : w = 6
  · refine lv_tableIn (off := 120) (tgt := 121) hx hb dX8_count_1 (zTin1 c1_6 (by decide)) (zTin2 c1_6 (by decide)) (zTin3 c1_6 (by decide)) (by decide) ?_
    refine lv_aload_n hx hb dX8_count_121 rfl (lv_at hl 0 rfl) ?_
    refine va_get (D := G) (ci := 8) (v := .ref (b 1)) (C := RX8) (T := TX8) (N := 14) hx hb hts iX8 hown hK hP 0 rfl rfl 0 (by decide) k_7 (fun _ h9 => h9) rfl dX8_count_122 ?_
    refine lv_bipush (v := 10) hx hb dX8_count_125 (by decide) ?_
    refine zIald (f := al) hx hb hK hP 1 0 rfl rfl 10 (by decide) (by decide) (by decide) dX8_count_127 ?_
    exact W.iret hx hb hr (zEi () (by
        rw [mCount, if_neg c1_0, if_neg c1_1, if_neg c1_2, if_neg c1_3, if_neg c1_4, if_neg c1_5, if_pos c1_6]) hP hD hS) hS.2.2 dX8_count_128
  by_cases c1_7 : w = 7
  · refine lv_tableIn (off := 128) (tgt := 129) hx hb dX8_count_1 (zTin1 c1_7 (by decide)) (zTin2 c1_7 (by decide)) (zTin3 c1_7 (by decide)) (by decide) ?_
    refine lv_aload_n hx hb dX8_count_129 rfl (lv_at hl 0 rfl) ?_
    refine va_get (D := G) (ci := 8) (v := .ref (b 1)) (C := RX8) (T := TX8) (N := 14) hx hb hts iX8 hown hK hP 0 rfl rfl 0 (by decide) k_7 (fun _ h9 => h9) rfl dX8_count_130 ?_
    refine lv_iload_n hx hb dX8_count_133 rfl (lv_at hl 1 rfl) ?_
    refine lv_bipush (v := 7) hx hb dX8_count_134 (by decide) ?_
    refine lv_isub hx hb dX8_count_136 ?_
    refine zIald (f := al) hx hb hK hP 1 0 rfl rfl 0 (by rw [c1_7]; decide) (by decide) (by decide) dX8_count_137 ?_
    refine lv_sipush (v := 1000) hx hb dX8_count_138 (by decide) ?_
    refine lv_iadd hx hb dX8_count_141 ?_
    exact W.iret hx hb hr (zEi () (by
        rw [mCount, if_neg c1_0, if_neg c1_1, if_neg c1_2, if_neg c1_3, if_neg c1_4, if_neg c1_5, if_neg c1_6, if_pos c1_7]) hP hD hS) hS.2.2 dX8_count_142
  by_cases c1_8 : w = 8
  · refine lv_tableIn (off := 128) (tgt := 129) hx hb dX8_count_1 (zTin1 c1_8 (by decide)) (zTin2 c1_8 (by decide)) (zTin3 c1_8 (by decide)) (by decide) ?_
    refine lv_aload_n hx hb dX8_count_129 rfl (lv_at hl 0 rfl) ?_
    refine va_get (D := G) (ci := 8) (v := .ref (b 1)) (C := RX8) (T := TX8) (N := 14) hx hb hts iX8 hown hK hP 0 rfl rfl 0 (by decide) k_7 (fun _ h9 => h9) rfl dX8_count_130 ?_
    refine lv_iload_n hx hb dX8_count_133 rfl (lv_at hl 1 rfl) ?_
    refine lv_bipush (v := 7) hx hb dX8_count_134 (by decide) ?_
    refine lv_isub hx hb dX8_count_136 ?_
    refine zIald (f := al) hx hb hK hP 1 0 rfl rfl 1 (by rw [c1_8]; decide) (by decide) (by decide) dX8_count_137 ?_
    refine lv_sipush (v := 1000) hx hb dX8_count_138 (by decide) ?_
    refine lv_iadd hx hb dX8_count_141 ?_
    exact W.iret hx hb hr (zEi () (by
        rw [mCount, if_neg c1_0, if_neg c1_1, if_neg c1_2, if_neg c1_3, if_neg c1_4, if_neg c1_5, if_neg c1_6, if_neg c1_7, if_pos c1_8]) hP hD hS) hS.2.2 dX8_count_142
  by_cases c1_9 : w = 9
  · refine lv_tableIn (off := 128) (tgt := 129) hx hb dX8_count_1 (zTin1 c1_9 (by decide)) (zTin2 c1_9 (by decide)) (zTin3 c1_9 (by decide)) (by decide) ?_
    refine lv_aload_n hx hb dX8_count_129 rfl (lv_at hl 0 rfl) ?_
    refine va_get (D := G) (ci := 8) (v := .ref (b 1)) (C := RX8) (T := TX8) (N := 14) hx hb hts iX8 hown hK hP 0 rfl rfl 0 (by decide) k_7 (fun _ h9 => h9) rfl dX8_count_130 ?_
    refine lv_iload_n hx hb dX8_count_133 rfl (lv_at hl 1 rfl) ?_
    refine lv_bipush (v := 7) hx hb dX8_count_134 (by decide) ?_
    refine lv_isub hx hb dX8_count_136 ?_
    refine zIald (f := al) hx hb hK hP 1 0 rfl rfl 2 (by rw [c1_9]; decide) (by decide) (by decide) dX8_count_137 ?_
    refine lv_sipush (v := 1000) hx hb dX8_count_138 (by decide) ?_
    refine lv_iadd hx hb dX8_count_141 ?_
    exact W.iret hx hb hr (zEi () (by
        rw [mCount, if_neg c1_0, if_neg c1_1, if_neg c1_2, if_neg c1_3, if_neg c1_4, if_neg c1_5, if_neg c1_6, if_neg c1_7, if_neg c1_8, if_pos c1_9]) hP hD hS) hS.2.2 dX8_count_142
  by_cases c1_10 : w = 10
  · refine lv_tableIn (off := 128) (tgt := 129) hx hb dX8_count_1 (zTin1 c1_10 (by decide)) (zTin2 c1_10 (by decide)) (zTin3 c1_10 (by decide)) (by decide) ?_
    refine lv_aload_n hx hb dX8_count_129 rfl (lv_at hl 0 rfl) ?_
    refine va_get (D := G) (ci := 8) (v := .ref (b 1)) (C := RX8) (T := TX8) (N := 14) hx hb hts iX8 hown hK hP 0 rfl rfl 0 (by decide) k_7 (fun _ h9 => h9) rfl dX8_count_130 ?_
    refine lv_iload_n hx hb dX8_count_133 rfl (lv_at hl 1 rfl) ?_
    refine lv_bipush (v := 7) hx hb dX8_count_134 (by decide) ?_
    refine lv_isub hx hb dX8_count_136 ?_
    refine zIald (f := al) hx hb hK hP 1 0 rfl rfl 3 (by rw [c1_10]; decide) (by decide) (by decide) dX8_count_137 ?_
    refine lv_sipush (v := 1000) hx hb dX8_count_138 (by decide) ?_
    refine lv_iadd hx hb dX8_count_141 ?_
    exact W.iret hx hb hr (zEi () (by
        rw [mCount, if_neg c1_0, if_neg c1_1, if_neg c1_2, if_neg c1_3, if_neg c1_4, if_neg c1_5, if_neg c1_6, if_neg c1_7, if_neg c1_8, if_neg c1_9, if_pos c1_10]) hP hD hS) hS.2.2 dX8_count_142
  by_cases c1_11 : w = 11
  · refine lv_tableIn (off := 142) (tgt := 143) hx hb dX8_count_1 (zTin1 c1_11 (by decide)) (zTin2 c1_11 (by decide)) (zTin3 c1_11 (by decide)) (by decide) ?_
    refine lv_aload_n hx hb dX8_count_143 rfl (lv_at hl 0 rfl) ?_
    refine va_get (D := G) (ci := 8) (v := .int (nI pq)) (C := RX8) (T := TX8) (N := 14) hx hb hts iX8 hown hK hP 0 rfl rfl 9 (by decide) k_125 (fun _ h9 => h9) rfl dX8_count_144 ?_
    exact W.iret hx hb hr (zEi () (by
        rw [mCount, if_neg c1_0, if_neg c1_1, if_neg c1_2, if_neg c1_3, if_neg c1_4, if_neg c1_5, if_neg c1_6, if_neg c1_7, if_neg c1_8, if_neg c1_9, if_neg c1_10, if_pos c1_11]) hP hD hS) hS.2.2 dX8_count_147
  by_cases c1_12 : w = 12
  · refine lv_tableIn (off := 147) (tgt := 148) hx hb dX8_count_1 (zTin1 c1_12 (by decide)) (zTin2 c1_12 (by decide)) (zTin3 c1_12 (by decide)) (by decide) ?_
    refine lv_aload_n hx hb dX8_count_148 rfl (lv_at hl 0 rfl) ?_
    refine va_get (D := G) (ci := 8) (v := .int (nI hq)) (C := RX8) (T := TX8) (N := 14) hx hb hts iX8 hown hK hP 0 rfl rfl 3 (by decide) k_28 (fun _ h9 => h9) rfl dX8_count_149 ?_
    exact W.iret hx hb hr (zEi () (by
        rw [mCount, if_neg c1_0, if_neg c1_1, if_neg c1_2, if_neg c1_3, if_neg c1_4, if_neg c1_5, if_neg c1_6, if_neg c1_7, if_neg c1_8, if_neg c1_9, if_neg c1_10, if_neg c1_11, if_pos c1_12]) hP hD hS) hS.2.2 dX8_count_152
  refine lv_tableOut (tgt := 153) hx hb dX8_count_1 (by have hh := @Int32.toInt_inj; have w_0 : ¬ (w).toInt = 0 := fun q => c1_0 (Int32.toInt_inj.mp q); have w_1 : ¬ (w).toInt = 1 := fun q => c1_1 (Int32.toInt_inj.mp q); have w_2 : ¬ (w).toInt = 2 := fun q => c1_2 (Int32.toInt_inj.mp q); have w_3 : ¬ (w).toInt = 3 := fun q => c1_3 (Int32.toInt_inj.mp q); have w_4 : ¬ (w).toInt = 4 := fun q => c1_4 (Int32.toInt_inj.mp q); have w_5 : ¬ (w).toInt = 5 := fun q => c1_5 (Int32.toInt_inj.mp q); have w_6 : ¬ (w).toInt = 6 := fun q => c1_6 (Int32.toInt_inj.mp q); have w_7 : ¬ (w).toInt = 7 := fun q => c1_7 (Int32.toInt_inj.mp q); have w_8 : ¬ (w).toInt = 8 := fun q => c1_8 (Int32.toInt_inj.mp q); have w_9 : ¬ (w).toInt = 9 := fun q => c1_9 (Int32.toInt_inj.mp q); have w_10 : ¬ (w).toInt = 10 := fun q => c1_10 (Int32.toInt_inj.mp q); have w_11 : ¬ (w).toInt = 11 := fun q => c1_11 (Int32.toInt_inj.mp q); have w_12 : ¬ (w).toInt = 12 := fun q => c1_12 (Int32.toInt_inj.mp q); omega) (by decide) ?_
  refine lv_bipush (v := (-2)) hx hb dX8_count_153 (by decide) ?_
  exact W.iret hx hb hr (zEi () (by
      rw [mCount, if_neg c1_0, if_neg c1_1, if_neg c1_2, if_neg c1_3, if_neg c1_4, if_neg c1_5, if_neg c1_6, if_neg c1_7, if_neg c1_8, if_neg c1_9, if_neg c1_10, if_neg c1_11, if_neg c1_12]) hP hD hS) hS.2.2 dX8_count_155

set_option maxHeartbeats 4000000 in
set_option maxRecDepth 100000 in
theorem m_X8_greatest (l : Launch) (G : va_G) (Z : Nat → ClassId) (sz : Nat) (b : Nat → Nat) (al : Nat → Int32) (ke : Nat → Int32) (hs : Nat → Int32) (hq : Nat) (sl : Nat → Int32) (sa : Nat → Int32) (off : Int32) (car : Int32) (pa : Nat → Int32) (pq : Nat) (sp : Nat) (nu : Int32) (dn : Int32) (er : Int32) (L : Nat) (hL : al 9 = nI L) (hL8 : L ≤ 48) : Met l yX8_greatest wsX8_greatest ({ frames := 1, cells := 0, slots := 0, locals := 22 }) (va_Pc [.ref (b 0)] (zWP G Z sz (mk Z b (al, ke, hs, hq, sl, sa, off, car, pa, pq, sp, nu, dn, er)))) (va_Qi (fun (r : Int32) (u : Unit) => r = mMax al (L - 1)) (fun (u : Unit) t => zB G (va_A (mk Z b (al, ke, hs, hq, sl, sa, off, car, pa, pq, sp, nu, dn, er)) sz) (mk Z b (al, ke, hs, hq, sl, sa, off, car, pa, pq, sp, nu, dn, er)) t) (va_A (mk Z b (al, ke, hs, hq, sl, sa, off, car, pa, pq, sp, nu, dn, er)) sz)) 0 0 (va_A (mk Z b (al, ke, hs, hq, sl, sa, off, car, pa, pq, sp, nu, dn, er)) sz) := by
  refine Met.ofW (cc := cX8_greatest) (maxL := 3) (ret := (some .int)) (by decide) rfl ?_
  intro p e s m args below meth c s₁ B hml hv
  have hx := B.exec
  have hb := B.bytes
  have hr := B.returns
  have hts := atoms_spec (ws := wsX8_greatest) B.pre
  have hown : s.vm.findClass RX8 = some m.cls := findClass_of_methodNamed B.named
  have hlocks := B.notSynchronized
  obtain ⟨rfl, hsz, hP, hK, hD, hA, hS, hSW⟩ := zEnter hv
  subst hsz
  generalize va_A (mk Z b (al, ke, hs, hq, sl, sa, off, car, pa, pq, sp, nu, dn, er)) s.heap.size = A at hD hA hS hSW ⊢
  have k_7 := hts (.fieldLink RX8 7 "WarmRodsModel" "all" "[I") (List.mem_of_getElem? (i := 1) rfl)
  have iX8 : ∀ w ∈ u_ws RX8 TX8 14, w ∈ wsX8_greatest := fun _ h => List.mem_cons_of_mem _ (List.mem_append_right _ h)
  have hP : va_P G vwCl (mk Z b (al, ke, hs, hq, sl, sa, off, car, pa, pq, sp, nu, dn, er)) s.heap := hP
  have hl := lv_entry ([.ref (b 0)]) (n := 3) (Nat.le_of_ble_eq_true rfl)
  rw [lg_entry_eq]
  generalize (lg_sl ([.ref (b 0)]) ++ List.replicate (3 - (lg_sl ([.ref (b 0)])).length) Slot.unset).toArray = ls at hl ⊢
  have hl : lv_has ls 3 [(0, .ref (b 0))] := hl
  refine lv_aload_n hx hb dX8_greatest_0 rfl (lv_at hl 0 rfl) ?_
  refine lv_iconst (v := 0) hx hb dX8_greatest_1 (by decide) ?_
  refine lv_iconst (v := 3) hx hb dX8_greatest_2 (by decide) ?_
  refine zCi (S := Unit) (ws1 := fun u => mk Z b (al, ke, hs, hq, sl, sa, off, car, pa, pq, sp, nu, dn, er)) (wr := []) (va_runV (As := [.int 0, .int 3]) (rest := []) ⟨hx, hb, hml, hown, hts⟩ (m_X8_of l G Z _ b al ke hs hq sl sa off car pa pq sp nu dn er 0 3 0 3 (by
      rfl) (by
      rfl) (by
      decide) (by
      decide)) (cwV 2 hts gX8_greatest_X8_of rfl rfl rfl (by decide +kernel) ⟨Nat.le_of_ble_eq_true rfl, Nat.le_of_ble_eq_true rfl⟩) (zPreV hK hP hD hS hA hSW [0, 1, 2, 3, 4, 5, 6] rfl (by decide) 0 (ci := 8) rfl rfl rfl) rfl rfl hl.1 rfl (lv_room (Nat.le_of_ble_eq_true rfl)) dX8_greatest_3 ⟨Nat.le_of_ble_eq_true rfl, Nat.le_of_ble_eq_true rfl⟩) hP hD hS hA [0, 1, 2, 3, 4, 5, 6] [] [0, 1, 2, 3, 4, 5, 6] rfl rfl (by decide) (by decide) (by decide) (fun _ => rfl) (fun r3 u H locs hw3 hP hD hS => ?_)
  try dsimp only at hw3
  subst hw3
  have hP : va_P G vwCl (mk Z b (al, ke, hs, hq, sl, sa, off, car, pa, pq, sp, nu, dn, er)) H := hP
  have hD : va_D A (mk Z b (al, ke, hs, hq, sl, sa, off, car, pa, pq, sp, nu, dn, er)) := hD
  refine lv_istore_n (lv' := [(1, .int (al (11 + 7 * 0 + 3))), (0, .ref (b 0))]) hx hb dX8_greatest_6 rfl hl (by decide) rfl (fun ls hl => ?_)
  refine lv_iconst (v := 1) hx hb dX8_greatest_7 (by decide) ?_
  refine lv_istore_n (lv' := [(2, .int 1), (1, .int (al (11 + 7 * 0 + 3))), (0, .ref (b 0))]) hx hb dX8_greatest_8 rfl hl (by decide) rfl (fun ls hl => ?_)
  refine zLoop (σ := Nat) (nL := 3) (fun zx => mk Z b (al, ke, hs, hq, sl, sa, off, car, pa, pq, sp, nu, dn, er)) (fun zx => [(2, .int (nI (zx + 1))), (1, .int (mMax al zx)), (0, .ref (b 0))]) (fun zx => zx ≤ (L - 1)) (fun zx => (L - 1) - zx) ?_ (0 ) (by
      try dsimp only
      omega) hP hD hS (lv_sub hl [0, 1, 2] rfl)
  intro zx hinv9 ih9 H locs ls hP hD hS hl
  obtain ⟨k, rfl⟩ : ∃ z, z = zx := ⟨_, rfl⟩
  try dsimp only at hinv9 ih9
  have hP : va_P G vwCl (mk Z b (al, ke, hs, hq, sl, sa, off, car, pa, pq, sp, nu, dn, er)) H := hP
  have hD : va_D A (mk Z b (al, ke, hs, hq, sl, sa, off, car, pa, pq, sp, nu, dn, er)) := hD
  have hl : lv_has ls 3 [(2, .int (nI (k + 1))), (1, .int (mMax al k)), (0, .ref (b 0))] := hl
  refine lv_iload_n hx hb dX8_greatest_9 rfl (lv_at hl 0 rfl) ?_
  refine lv_aload_n hx hb dX8_greatest_10 rfl (lv_at hl 2 rfl) ?_
  refine va_get (D := G) (ci := 8) (v := .ref (b 1)) (C := RX8) (T := TX8) (N := 14) hx hb hts iX8 hown hK hP 0 rfl rfl 0 (by decide) k_7 (fun _ h9 => h9) rfl dX8_greatest_11 ?_
  refine lv_bipush (v := 9) hx hb dX8_greatest_14 (by decide) ?_
  refine zIald (f := al) hx hb hK hP 1 0 rfl rfl 9 (by decide) (by decide) (by decide) dX8_greatest_16 ?_
  refine lv_icmp_ge (tgt := 47) hx hb dX8_greatest_17 (by decide) (fun c17 => ?_) (fun c17 => ?_)
  · refine lv_iload_n hx hb dX8_greatest_47 rfl (lv_at hl 1 rfl) ?_
    exact W.iret hx hb hr (zEi () (by
        rw [hL] at c17
        have hk := zLe c17 (by omega) (by omega)
        rw [show L - 1 = k by omega]) hP hD hS) hS.2.2 dX8_greatest_48
  · refine lv_aload_n hx hb dX8_greatest_20 rfl (lv_at hl 2 rfl) ?_
    refine lv_iload_n hx hb dX8_greatest_21 rfl (lv_at hl 0 rfl) ?_
    refine lv_iconst (v := 3) hx hb dX8_greatest_22 (by decide) ?_
    refine zCi (S := Unit) (ws1 := fun u => mk Z b (al, ke, hs, hq, sl, sa, off, car, pa, pq, sp, nu, dn, er)) (wr := []) (va_runV (As := [.int (nI (k + 1)), .int 3]) (rest := []) ⟨hx, hb, hml, hown, hts⟩ (m_X8_of l G Z _ b al ke hs hq sl sa off car pa pq sp nu dn er (nI (k + 1)) 3 (k + 1) 3 (by
        rfl) (by
        rfl) (by
        rw [hL] at c17
        have hk := zNle c17 (by omega) (by omega)
        omega) (by
        decide)) (cwV 2 hts gX8_greatest_X8_of rfl rfl rfl (by decide +kernel) ⟨Nat.le_of_ble_eq_true rfl, Nat.le_of_ble_eq_true rfl⟩) (zPreV hK hP hD hS hA hSW [0, 1, 2, 3, 4, 5, 6] rfl (by decide) 0 (ci := 8) rfl rfl rfl) rfl rfl hl.1 rfl (lv_room (Nat.le_of_ble_eq_true rfl)) dX8_greatest_23 ⟨Nat.le_of_ble_eq_true rfl, Nat.le_of_ble_eq_true rfl⟩) hP hD hS hA [0, 1, 2, 3, 4, 5, 6] [] [0, 1, 2, 3, 4, 5, 6] rfl rfl (by decide) (by decide) (by decide) (fun _ => rfl) (fun r23 u H locs hw23 hP hD hS => ?_)
    try dsimp only at hw23
    subst hw23
    have hP : va_P G vwCl (mk Z b (al, ke, hs, hq, sl, sa, off, car, pa, pq, sp, nu, dn, er)) H := hP
    have hD : va_D A (mk Z b (al, ke, hs, hq, sl, sa, off, car, pa, pq, sp, nu, dn, er)) := hD
    refine lv_iload_n hx hb dX8_greatest_26 rfl (lv_at hl 1 rfl) ?_
    refine lv_icmp_le (tgt := 39) hx hb dX8_greatest_27 (by decide) (fun c27 => ?_) (fun c27 => ?_)
    · refine lv_iload_n hx hb dX8_greatest_39 rfl (lv_at hl 1 rfl) ?_
      refine lv_istore_n (lv' := [(1, .int (mMax al k)), (2, .int (nI (k + 1))), (0, .ref (b 0))]) hx hb dX8_greatest_40 rfl hl (by decide) rfl (fun ls hl => ?_)
      refine lv_iinc (v := (nI ((k + 1) + 1))) (lv' := [(2, .int (nI ((k + 1) + 1))), (1, .int (mMax al k)), (0, .ref (b 0))]) hx hb dX8_greatest_41 hl (k := 1) rfl (nI_succ (k + 1)).symm (by decide) rfl (fun ls hl => ?_)
      refine lv_goto (tgt := 9) hx hb dX8_greatest_44 (by decide) ?_
      have e_k : mMax al (k + 1) = (mMax al k) := by simp only [mMax, zMax, c17, Int32.not_le.mp c17, c27, Int32.not_lt.mpr c27, ↓reduceIte]
      rw [← e_k] at hl
      exact ih9 (k + 1) (by
          try dsimp only
          rw [hL] at c17
          have hk := zNle c17 (by omega) (by omega)
          omega) (by
          try dsimp only
          rw [hL] at c17
          have hk := zNle c17 (by omega) (by omega)
          omega) _ _ _ hP hD hS (lv_sub hl [0, 1, 2] rfl)
    · refine lv_aload_n hx hb dX8_greatest_30 rfl (lv_at hl 2 rfl) ?_
      refine lv_iload_n hx hb dX8_greatest_31 rfl (lv_at hl 0 rfl) ?_
      refine lv_iconst (v := 3) hx hb dX8_greatest_32 (by decide) ?_
      refine zCi (S := Unit) (ws1 := fun u => mk Z b (al, ke, hs, hq, sl, sa, off, car, pa, pq, sp, nu, dn, er)) (wr := []) (va_runV (As := [.int (nI (k + 1)), .int 3]) (rest := []) ⟨hx, hb, hml, hown, hts⟩ (m_X8_of l G Z _ b al ke hs hq sl sa off car pa pq sp nu dn er (nI (k + 1)) 3 (k + 1) 3 (by
          rfl) (by
          rfl) (by
          rw [hL] at c17
          have hk := zNle c17 (by omega) (by omega)
          omega) (by
          decide)) (cwV 2 hts gX8_greatest_X8_of rfl rfl rfl (by decide +kernel) ⟨Nat.le_of_ble_eq_true rfl, Nat.le_of_ble_eq_true rfl⟩) (zPreV hK hP hD hS hA hSW [0, 1, 2, 3, 4, 5, 6] rfl (by decide) 0 (ci := 8) rfl rfl rfl) rfl rfl hl.1 rfl (lv_room (Nat.le_of_ble_eq_true rfl)) dX8_greatest_33 ⟨Nat.le_of_ble_eq_true rfl, Nat.le_of_ble_eq_true rfl⟩) hP hD hS hA [0, 1, 2, 3, 4, 5, 6] [] [0, 1, 2, 3, 4, 5, 6] rfl rfl (by decide) (by decide) (by decide) (fun _ => rfl) (fun r33 u H locs hw33 hP hD hS => ?_)
      try dsimp only at hw33
      subst hw33
      have hP : va_P G vwCl (mk Z b (al, ke, hs, hq, sl, sa, off, car, pa, pq, sp, nu, dn, er)) H := hP
      have hD : va_D A (mk Z b (al, ke, hs, hq, sl, sa, off, car, pa, pq, sp, nu, dn, er)) := hD
      refine lv_goto (tgt := 40) hx hb dX8_greatest_36 (by decide) ?_
      refine lv_istore_n (lv' := [(1, .int (al (11 + 7 * (k + 1) + 3))), (2, .int (nI (k + 1))), (0, .ref (b 0))]) hx hb dX8_greatest_40 rfl hl (by decide) rfl (fun ls hl => ?_)
      refine lv_iinc (v := (nI ((k + 1) + 1))) (lv' := [(2, .int (nI ((k + 1) + 1))), (1, .int (al (11 + 7 * (k + 1) + 3))), (0, .ref (b 0))]) hx hb dX8_greatest_41 hl (k := 1) rfl (nI_succ (k + 1)).symm (by decide) rfl (fun ls hl => ?_)
      refine lv_goto (tgt := 9) hx hb dX8_greatest_44 (by decide) ?_
      have e_k : mMax al (k + 1) = (al (11 + 7 * (k + 1) + 3)) := by simp only [mMax, zMax, c17, Int32.not_le.mp c17, c27, Int32.not_le.mp c27, ↓reduceIte]
      rw [← e_k] at hl
      exact ih9 (k + 1) (by
          try dsimp only
          rw [hL] at c17
          have hk := zNle c17 (by omega) (by omega)
          omega) (by
          try dsimp only
          rw [hL] at c17
          have hk := zNle c17 (by omega) (by omega)
          omega) _ _ _ hP hD hS (lv_sub hl [0, 1, 2] rfl)

set_option maxHeartbeats 4000000 in
set_option maxRecDepth 100000 in
theorem m_X8_least (l : Launch) (G : va_G) (Z : Nat → ClassId) (sz : Nat) (b : Nat → Nat) (al : Nat → Int32) (ke : Nat → Int32) (hs : Nat → Int32) (hq : Nat) (sl : Nat → Int32) (sa : Nat → Int32) (off : Int32) (car : Int32) (pa : Nat → Int32) (pq : Nat) (sp : Nat) (nu : Int32) (dn : Int32) (er : Int32) (L : Nat) (hL : al 9 = nI L) (hL8 : L ≤ 48) : Met l yX8_least wsX8_least ({ frames := 1, cells := 0, slots := 0, locals := 22 }) (va_Pc [.ref (b 0)] (zWP G Z sz (mk Z b (al, ke, hs, hq, sl, sa, off, car, pa, pq, sp, nu, dn, er)))) (va_Qi (fun (r : Int32) (u : Unit) => r = mMin al (L - 1)) (fun (u : Unit) t => zB G (va_A (mk Z b (al, ke, hs, hq, sl, sa, off, car, pa, pq, sp, nu, dn, er)) sz) (mk Z b (al, ke, hs, hq, sl, sa, off, car, pa, pq, sp, nu, dn, er)) t) (va_A (mk Z b (al, ke, hs, hq, sl, sa, off, car, pa, pq, sp, nu, dn, er)) sz)) 0 0 (va_A (mk Z b (al, ke, hs, hq, sl, sa, off, car, pa, pq, sp, nu, dn, er)) sz) := by
  refine Met.ofW (cc := cX8_least) (maxL := 3) (ret := (some .int)) (by decide) rfl ?_
  intro p e s m args below meth c s₁ B hml hv
  have hx := B.exec
  have hb := B.bytes
  have hr := B.returns
  have hts := atoms_spec (ws := wsX8_least) B.pre
  have hown : s.vm.findClass RX8 = some m.cls := findClass_of_methodNamed B.named
  have hlocks := B.notSynchronized
  obtain ⟨rfl, hsz, hP, hK, hD, hA, hS, hSW⟩ := zEnter hv
  subst hsz
  generalize va_A (mk Z b (al, ke, hs, hq, sl, sa, off, car, pa, pq, sp, nu, dn, er)) s.heap.size = A at hD hA hS hSW ⊢
  have k_7 := hts (.fieldLink RX8 7 "WarmRodsModel" "all" "[I") (List.mem_of_getElem? (i := 1) rfl)
  have iX8 : ∀ w ∈ u_ws RX8 TX8 14, w ∈ wsX8_least := fun _ h => List.mem_cons_of_mem _ (List.mem_append_right _ h)
  have hP : va_P G vwCl (mk Z b (al, ke, hs, hq, sl, sa, off, car, pa, pq, sp, nu, dn, er)) s.heap := hP
  have hl := lv_entry ([.ref (b 0)]) (n := 3) (Nat.le_of_ble_eq_true rfl)
  rw [lg_entry_eq]
  generalize (lg_sl ([.ref (b 0)]) ++ List.replicate (3 - (lg_sl ([.ref (b 0)])).length) Slot.unset).toArray = ls at hl ⊢
  have hl : lv_has ls 3 [(0, .ref (b 0))] := hl
  refine lv_aload_n hx hb dX8_least_0 rfl (lv_at hl 0 rfl) ?_
  refine lv_iconst (v := 0) hx hb dX8_least_1 (by decide) ?_
  refine lv_iconst (v := 3) hx hb dX8_least_2 (by decide) ?_
  refine zCi (S := Unit) (ws1 := fun u => mk Z b (al, ke, hs, hq, sl, sa, off, car, pa, pq, sp, nu, dn, er)) (wr := []) (va_runV (As := [.int 0, .int 3]) (rest := []) ⟨hx, hb, hml, hown, hts⟩ (m_X8_of l G Z _ b al ke hs hq sl sa off car pa pq sp nu dn er 0 3 0 3 (by
      rfl) (by
      rfl) (by
      decide) (by
      decide)) (cwV 2 hts gX8_least_X8_of rfl rfl rfl (by decide +kernel) ⟨Nat.le_of_ble_eq_true rfl, Nat.le_of_ble_eq_true rfl⟩) (zPreV hK hP hD hS hA hSW [0, 1, 2, 3, 4, 5, 6] rfl (by decide) 0 (ci := 8) rfl rfl rfl) rfl rfl hl.1 rfl (lv_room (Nat.le_of_ble_eq_true rfl)) dX8_least_3 ⟨Nat.le_of_ble_eq_true rfl, Nat.le_of_ble_eq_true rfl⟩) hP hD hS hA [0, 1, 2, 3, 4, 5, 6] [] [0, 1, 2, 3, 4, 5, 6] rfl rfl (by decide) (by decide) (by decide) (fun _ => rfl) (fun r3 u H locs hw3 hP hD hS => ?_)
  try dsimp only at hw3
  subst hw3
  have hP : va_P G vwCl (mk Z b (al, ke, hs, hq, sl, sa, off, car, pa, pq, sp, nu, dn, er)) H := hP
  have hD : va_D A (mk Z b (al, ke, hs, hq, sl, sa, off, car, pa, pq, sp, nu, dn, er)) := hD
  refine lv_istore_n (lv' := [(1, .int (al (11 + 7 * 0 + 3))), (0, .ref (b 0))]) hx hb dX8_least_6 rfl hl (by decide) rfl (fun ls hl => ?_)
  refine lv_iconst (v := 1) hx hb dX8_least_7 (by decide) ?_
  refine lv_istore_n (lv' := [(2, .int 1), (1, .int (al (11 + 7 * 0 + 3))), (0, .ref (b 0))]) hx hb dX8_least_8 rfl hl (by decide) rfl (fun ls hl => ?_)
  refine zLoop (σ := Nat) (nL := 3) (fun zx => mk Z b (al, ke, hs, hq, sl, sa, off, car, pa, pq, sp, nu, dn, er)) (fun zx => [(2, .int (nI (zx + 1))), (1, .int (mMin al zx)), (0, .ref (b 0))]) (fun zx => zx ≤ (L - 1)) (fun zx => (L - 1) - zx) ?_ (0 ) (by
      try dsimp only
      omega) hP hD hS (lv_sub hl [0, 1, 2] rfl)
  intro zx hinv9 ih9 H locs ls hP hD hS hl
  obtain ⟨k, rfl⟩ : ∃ z, z = zx := ⟨_, rfl⟩
  try dsimp only at hinv9 ih9
  have hP : va_P G vwCl (mk Z b (al, ke, hs, hq, sl, sa, off, car, pa, pq, sp, nu, dn, er)) H := hP
  have hD : va_D A (mk Z b (al, ke, hs, hq, sl, sa, off, car, pa, pq, sp, nu, dn, er)) := hD
  have hl : lv_has ls 3 [(2, .int (nI (k + 1))), (1, .int (mMin al k)), (0, .ref (b 0))] := hl
  refine lv_iload_n hx hb dX8_least_9 rfl (lv_at hl 0 rfl) ?_
  refine lv_aload_n hx hb dX8_least_10 rfl (lv_at hl 2 rfl) ?_
  refine va_get (D := G) (ci := 8) (v := .ref (b 1)) (C := RX8) (T := TX8) (N := 14) hx hb hts iX8 hown hK hP 0 rfl rfl 0 (by decide) k_7 (fun _ h9 => h9) rfl dX8_least_11 ?_
  refine lv_bipush (v := 9) hx hb dX8_least_14 (by decide) ?_
  refine zIald (f := al) hx hb hK hP 1 0 rfl rfl 9 (by decide) (by decide) (by decide) dX8_least_16 ?_
  refine lv_icmp_ge (tgt := 47) hx hb dX8_least_17 (by decide) (fun c17 => ?_) (fun c17 => ?_)
  · refine lv_iload_n hx hb dX8_least_47 rfl (lv_at hl 1 rfl) ?_
    exact W.iret hx hb hr (zEi () (by
        rw [hL] at c17
        have hk := zLe c17 (by omega) (by omega)
        rw [show L - 1 = k by omega]) hP hD hS) hS.2.2 dX8_least_48
  · refine lv_aload_n hx hb dX8_least_20 rfl (lv_at hl 2 rfl) ?_
    refine lv_iload_n hx hb dX8_least_21 rfl (lv_at hl 0 rfl) ?_
    refine lv_iconst (v := 3) hx hb dX8_least_22 (by decide) ?_
    refine zCi (S := Unit) (ws1 := fun u => mk Z b (al, ke, hs, hq, sl, sa, off, car, pa, pq, sp, nu, dn, er)) (wr := []) (va_runV (As := [.int (nI (k + 1)), .int 3]) (rest := []) ⟨hx, hb, hml, hown, hts⟩ (m_X8_of l G Z _ b al ke hs hq sl sa off car pa pq sp nu dn er (nI (k + 1)) 3 (k + 1) 3 (by
        rfl) (by
        rfl) (by
        rw [hL] at c17
        have hk := zNle c17 (by omega) (by omega)
        omega) (by
        decide)) (cwV 2 hts gX8_least_X8_of rfl rfl rfl (by decide +kernel) ⟨Nat.le_of_ble_eq_true rfl, Nat.le_of_ble_eq_true rfl⟩) (zPreV hK hP hD hS hA hSW [0, 1, 2, 3, 4, 5, 6] rfl (by decide) 0 (ci := 8) rfl rfl rfl) rfl rfl hl.1 rfl (lv_room (Nat.le_of_ble_eq_true rfl)) dX8_least_23 ⟨Nat.le_of_ble_eq_true rfl, Nat.le_of_ble_eq_true rfl⟩) hP hD hS hA [0, 1, 2, 3, 4, 5, 6] [] [0, 1, 2, 3, 4, 5, 6] rfl rfl (by decide) (by decide) (by decide) (fun _ => rfl) (fun r23 u H locs hw23 hP hD hS => ?_)
    try dsimp only at hw23
    subst hw23
    have hP : va_P G vwCl (mk Z b (al, ke, hs, hq, sl, sa, off, car, pa, pq, sp, nu, dn, er)) H := hP
    have hD : va_D A (mk Z b (al, ke, hs, hq, sl, sa, off, car, pa, pq, sp, nu, dn, er)) := hD
    refine lv_iload_n hx hb dX8_least_26 rfl (lv_at hl 1 rfl) ?_
    refine lv_icmp_ge (tgt := 39) hx hb dX8_least_27 (by decide) (fun c27 => ?_) (fun c27 => ?_)
    · refine lv_iload_n hx hb dX8_least_39 rfl (lv_at hl 1 rfl) ?_
      refine lv_istore_n (lv' := [(1, .int (mMin al k)), (2, .int (nI (k + 1))), (0, .ref (b 0))]) hx hb dX8_least_40 rfl hl (by decide) rfl (fun ls hl => ?_)
      refine lv_iinc (v := (nI ((k + 1) + 1))) (lv' := [(2, .int (nI ((k + 1) + 1))), (1, .int (mMin al k)), (0, .ref (b 0))]) hx hb dX8_least_41 hl (k := 1) rfl (nI_succ (k + 1)).symm (by decide) rfl (fun ls hl => ?_)
      refine lv_goto (tgt := 9) hx hb dX8_least_44 (by decide) ?_
      have e_k : mMin al (k + 1) = (mMin al k) := by simp only [mMin, zMin, c17, Int32.not_le.mp c17, c27, Int32.not_lt.mpr c27, ↓reduceIte]
      rw [← e_k] at hl
      exact ih9 (k + 1) (by
          try dsimp only
          rw [hL] at c17
          have hk := zNle c17 (by omega) (by omega)
          omega) (by
          try dsimp only
          rw [hL] at c17
          have hk := zNle c17 (by omega) (by omega)
          omega) _ _ _ hP hD hS (lv_sub hl [0, 1, 2] rfl)
    · refine lv_aload_n hx hb dX8_least_30 rfl (lv_at hl 2 rfl) ?_
      refine lv_iload_n hx hb dX8_least_31 rfl (lv_at hl 0 rfl) ?_
      refine lv_iconst (v := 3) hx hb dX8_least_32 (by decide) ?_
      refine zCi (S := Unit) (ws1 := fun u => mk Z b (al, ke, hs, hq, sl, sa, off, car, pa, pq, sp, nu, dn, er)) (wr := []) (va_runV (As := [.int (nI (k + 1)), .int 3]) (rest := []) ⟨hx, hb, hml, hown, hts⟩ (m_X8_of l G Z _ b al ke hs hq sl sa off car pa pq sp nu dn er (nI (k + 1)) 3 (k + 1) 3 (by
          rfl) (by
          rfl) (by
          rw [hL] at c17
          have hk := zNle c17 (by omega) (by omega)
          omega) (by
          decide)) (cwV 2 hts gX8_least_X8_of rfl rfl rfl (by decide +kernel) ⟨Nat.le_of_ble_eq_true rfl, Nat.le_of_ble_eq_true rfl⟩) (zPreV hK hP hD hS hA hSW [0, 1, 2, 3, 4, 5, 6] rfl (by decide) 0 (ci := 8) rfl rfl rfl) rfl rfl hl.1 rfl (lv_room (Nat.le_of_ble_eq_true rfl)) dX8_least_33 ⟨Nat.le_of_ble_eq_true rfl, Nat.le_of_ble_eq_true rfl⟩) hP hD hS hA [0, 1, 2, 3, 4, 5, 6] [] [0, 1, 2, 3, 4, 5, 6] rfl rfl (by decide) (by decide) (by decide) (fun _ => rfl) (fun r33 u H locs hw33 hP hD hS => ?_)
      try dsimp only at hw33
      subst hw33
      have hP : va_P G vwCl (mk Z b (al, ke, hs, hq, sl, sa, off, car, pa, pq, sp, nu, dn, er)) H := hP
      have hD : va_D A (mk Z b (al, ke, hs, hq, sl, sa, off, car, pa, pq, sp, nu, dn, er)) := hD
      refine lv_goto (tgt := 40) hx hb dX8_least_36 (by decide) ?_
      refine lv_istore_n (lv' := [(1, .int (al (11 + 7 * (k + 1) + 3))), (2, .int (nI (k + 1))), (0, .ref (b 0))]) hx hb dX8_least_40 rfl hl (by decide) rfl (fun ls hl => ?_)
      refine lv_iinc (v := (nI ((k + 1) + 1))) (lv' := [(2, .int (nI ((k + 1) + 1))), (1, .int (al (11 + 7 * (k + 1) + 3))), (0, .ref (b 0))]) hx hb dX8_least_41 hl (k := 1) rfl (nI_succ (k + 1)).symm (by decide) rfl (fun ls hl => ?_)
      refine lv_goto (tgt := 9) hx hb dX8_least_44 (by decide) ?_
      have e_k : mMin al (k + 1) = (al (11 + 7 * (k + 1) + 3)) := by simp only [mMin, zMin, c17, Int32.not_le.mp c17, c27, Int32.not_le.mp c27, ↓reduceIte]
      rw [← e_k] at hl
      exact ih9 (k + 1) (by
          try dsimp only
          rw [hL] at c17
          have hk := zNle c17 (by omega) (by omega)
          omega) (by
          try dsimp only
          rw [hL] at c17
          have hk := zNle c17 (by omega) (by omega)
          omega) _ _ _ hP hD hS (lv_sub hl [0, 1, 2] rfl)

set_option maxHeartbeats 4000000 in
set_option maxRecDepth 100000 in
theorem m_X8_fastHours (l : Launch) (G : va_G) (Z : Nat → ClassId) (sz : Nat) (b : Nat → Nat) (al : Nat → Int32) (ke : Nat → Int32) (hs : Nat → Int32) (hq : Nat) (sl : Nat → Int32) (sa : Nat → Int32) (off : Int32) (car : Int32) (pa : Nat → Int32) (pq : Nat) (sp : Nat) (nu : Int32) (dn : Int32) (er : Int32) (L : Nat) (hL : al 9 = nI L) (hL8 : L ≤ 48) : Met l yX8_fastHours wsX8_fastHours ({ frames := 1, cells := 0, slots := 0, locals := 22 }) (va_Pc [.ref (b 0)] (zWP G Z sz (mk Z b (al, ke, hs, hq, sl, sa, off, car, pa, pq, sp, nu, dn, er)))) (va_Qi (fun (r : Int32) (u : Unit) => r = mFast al L) (fun (u : Unit) t => zB G (va_A (mk Z b (al, ke, hs, hq, sl, sa, off, car, pa, pq, sp, nu, dn, er)) sz) (mk Z b (al, ke, hs, hq, sl, sa, off, car, pa, pq, sp, nu, dn, er)) t) (va_A (mk Z b (al, ke, hs, hq, sl, sa, off, car, pa, pq, sp, nu, dn, er)) sz)) 0 0 (va_A (mk Z b (al, ke, hs, hq, sl, sa, off, car, pa, pq, sp, nu, dn, er)) sz) := by
  refine Met.ofW (cc := cX8_fastHours) (maxL := 3) (ret := (some .int)) (by decide) rfl ?_
  intro p e s m args below meth c s₁ B hml hv
  have hx := B.exec
  have hb := B.bytes
  have hr := B.returns
  have hts := atoms_spec (ws := wsX8_fastHours) B.pre
  have hown : s.vm.findClass RX8 = some m.cls := findClass_of_methodNamed B.named
  have hlocks := B.notSynchronized
  obtain ⟨rfl, hsz, hP, hK, hD, hA, hS, hSW⟩ := zEnter hv
  subst hsz
  generalize va_A (mk Z b (al, ke, hs, hq, sl, sa, off, car, pa, pq, sp, nu, dn, er)) s.heap.size = A at hD hA hS hSW ⊢
  have k_7 := hts (.fieldLink RX8 7 "WarmRodsModel" "all" "[I") (List.mem_of_getElem? (i := 1) rfl)
  have iX8 : ∀ w ∈ u_ws RX8 TX8 14, w ∈ wsX8_fastHours := fun _ h => List.mem_cons_of_mem _ (List.mem_append_right _ h)
  have hP : va_P G vwCl (mk Z b (al, ke, hs, hq, sl, sa, off, car, pa, pq, sp, nu, dn, er)) s.heap := hP
  have hl := lv_entry ([.ref (b 0)]) (n := 3) (Nat.le_of_ble_eq_true rfl)
  rw [lg_entry_eq]
  generalize (lg_sl ([.ref (b 0)]) ++ List.replicate (3 - (lg_sl ([.ref (b 0)])).length) Slot.unset).toArray = ls at hl ⊢
  have hl : lv_has ls 3 [(0, .ref (b 0))] := hl
  refine lv_iconst (v := 0) hx hb dX8_fastHours_0 (by decide) ?_
  refine lv_istore_n (lv' := [(1, .int 0), (0, .ref (b 0))]) hx hb dX8_fastHours_1 rfl hl (by decide) rfl (fun ls hl => ?_)
  refine lv_iconst (v := 0) hx hb dX8_fastHours_2 (by decide) ?_
  refine lv_istore_n (lv' := [(2, .int 0), (1, .int 0), (0, .ref (b 0))]) hx hb dX8_fastHours_3 rfl hl (by decide) rfl (fun ls hl => ?_)
  refine zLoop (σ := Nat) (nL := 3) (fun zx => mk Z b (al, ke, hs, hq, sl, sa, off, car, pa, pq, sp, nu, dn, er)) (fun zx => [(2, .int (nI zx)), (1, .int (mFast al zx)), (0, .ref (b 0))]) (fun zx => zx ≤ L) (fun zx => L - zx) ?_ 0 (by
      try dsimp only
      omega) hP hD hS (lv_sub hl [0, 1, 2] rfl)
  intro zx hinv4 ih4 H locs ls hP hD hS hl
  obtain ⟨k, rfl⟩ : ∃ z, z = zx := ⟨_, rfl⟩
  try dsimp only at hinv4 ih4
  have hP : va_P G vwCl (mk Z b (al, ke, hs, hq, sl, sa, off, car, pa, pq, sp, nu, dn, er)) H := hP
  have hD : va_D A (mk Z b (al, ke, hs, hq, sl, sa, off, car, pa, pq, sp, nu, dn, er)) := hD
  have hl : lv_has ls 3 [(2, .int (nI k)), (1, .int (mFast al k)), (0, .ref (b 0))] := hl
  refine lv_iload_n hx hb dX8_fastHours_4 rfl (lv_at hl 0 rfl) ?_
  refine lv_aload_n hx hb dX8_fastHours_5 rfl (lv_at hl 2 rfl) ?_
  refine va_get (D := G) (ci := 8) (v := .ref (b 1)) (C := RX8) (T := TX8) (N := 14) hx hb hts iX8 hown hK hP 0 rfl rfl 0 (by decide) k_7 (fun _ h9 => h9) rfl dX8_fastHours_6 ?_
  refine lv_bipush (v := 9) hx hb dX8_fastHours_9 (by decide) ?_
  refine zIald (f := al) hx hb hK hP 1 0 rfl rfl 9 (by decide) (by decide) (by decide) dX8_fastHours_11 ?_
  refine lv_icmp_ge (tgt := 38) hx hb dX8_fastHours_12 (by decide) (fun c12 => ?_) (fun c12 => ?_)
  · refine lv_iload_n hx hb dX8_fastHours_38 rfl (lv_at hl 1 rfl) ?_
    exact W.iret hx hb hr (zEi () (by
        rw [hL] at c12
        have hk := zLe c12 (by omega) (by omega)
        rw [show L = k by omega]) hP hD hS) hS.2.2 dX8_fastHours_39
  · refine lv_iload_n hx hb dX8_fastHours_15 rfl (lv_at hl 1 rfl) ?_
    refine lv_aload_n hx hb dX8_fastHours_16 rfl (lv_at hl 2 rfl) ?_
    refine lv_iload_n hx hb dX8_fastHours_17 rfl (lv_at hl 0 rfl) ?_
    refine lv_iconst (v := 3) hx hb dX8_fastHours_18 (by decide) ?_
    refine zCi (S := Unit) (ws1 := fun u => mk Z b (al, ke, hs, hq, sl, sa, off, car, pa, pq, sp, nu, dn, er)) (wr := []) (va_runV (As := [.int (nI k), .int 3]) (rest := [.int (mFast al k)]) ⟨hx, hb, hml, hown, hts⟩ (m_X8_of l G Z _ b al ke hs hq sl sa off car pa pq sp nu dn er (nI k) 3 k 3 (by
        rfl) (by
        rfl) (by
        rw [hL] at c12
        have hk := zNle c12 (by omega) (by omega)
        omega) (by
        decide)) (cwV 2 hts gX8_fastHours_X8_of rfl rfl rfl (by decide +kernel) ⟨Nat.le_of_ble_eq_true rfl, Nat.le_of_ble_eq_true rfl⟩) (zPreV hK hP hD hS hA hSW [0, 1, 2, 3, 4, 5, 6] rfl (by decide) 0 (ci := 8) rfl rfl rfl) rfl rfl hl.1 rfl (lv_room (Nat.le_of_ble_eq_true rfl)) dX8_fastHours_19 ⟨Nat.le_of_ble_eq_true rfl, Nat.le_of_ble_eq_true rfl⟩) hP hD hS hA [0, 1, 2, 3, 4, 5, 6] [] [0, 1, 2, 3, 4, 5, 6] rfl rfl (by decide) (by decide) (by decide) (fun _ => rfl) (fun r19 u H locs hw19 hP hD hS => ?_)
    try dsimp only at hw19
    subst hw19
    have hP : va_P G vwCl (mk Z b (al, ke, hs, hq, sl, sa, off, car, pa, pq, sp, nu, dn, er)) H := hP
    have hD : va_D A (mk Z b (al, ke, hs, hq, sl, sa, off, car, pa, pq, sp, nu, dn, er)) := hD
    refine lv_if_le (tgt := 29) hx hb dX8_fastHours_22 (by decide) (fun c22 => ?_) (fun c22 => ?_)
    · refine lv_iconst (v := 0) hx hb dX8_fastHours_29 (by decide) ?_
      refine lv_iadd hx hb dX8_fastHours_30 ?_
      refine lv_istore_n (lv' := [(1, .int ((mFast al k) + 0)), (2, .int (nI k)), (0, .ref (b 0))]) hx hb dX8_fastHours_31 rfl hl (by decide) rfl (fun ls hl => ?_)
      refine lv_iinc (v := (nI (k + 1))) (lv' := [(2, .int (nI (k + 1))), (1, .int ((mFast al k) + 0)), (0, .ref (b 0))]) hx hb dX8_fastHours_32 hl (k := 1) rfl (nI_succ k).symm (by decide) rfl (fun ls hl => ?_)
      refine lv_goto (tgt := 4) hx hb dX8_fastHours_35 (by decide) ?_
      have e_k : mFast al (k + 1) = mFast al k + 0 := by simp only [mFast, c12, Int32.not_le.mp c12, c22, Int32.not_lt.mpr c22, ↓reduceIte]
      rw [← e_k] at hl
      exact ih4 (k + 1) (by
          try dsimp only
          rw [hL] at c12
          have hk := zNle c12 (by omega) (by omega)
          omega) (by
          try dsimp only
          rw [hL] at c12
          have hk := zNle c12 (by omega) (by omega)
          omega) _ _ _ hP hD hS (lv_sub hl [0, 1, 2] rfl)
    · refine lv_iconst (v := 1) hx hb dX8_fastHours_25 (by decide) ?_
      refine lv_goto (tgt := 30) hx hb dX8_fastHours_26 (by decide) ?_
      refine lv_iadd hx hb dX8_fastHours_30 ?_
      refine lv_istore_n (lv' := [(1, .int ((mFast al k) + 1)), (2, .int (nI k)), (0, .ref (b 0))]) hx hb dX8_fastHours_31 rfl hl (by decide) rfl (fun ls hl => ?_)
      refine lv_iinc (v := (nI (k + 1))) (lv' := [(2, .int (nI (k + 1))), (1, .int ((mFast al k) + 1)), (0, .ref (b 0))]) hx hb dX8_fastHours_32 hl (k := 1) rfl (nI_succ k).symm (by decide) rfl (fun ls hl => ?_)
      refine lv_goto (tgt := 4) hx hb dX8_fastHours_35 (by decide) ?_
      have e_k : mFast al (k + 1) = mFast al k + 1 := by simp only [mFast, c12, Int32.not_le.mp c12, c22, Int32.not_le.mp c22, ↓reduceIte]
      rw [← e_k] at hl
      exact ih4 (k + 1) (by
          try dsimp only
          rw [hL] at c12
          have hk := zNle c12 (by omega) (by omega)
          omega) (by
          try dsimp only
          rw [hL] at c12
          have hk := zNle c12 (by omega) (by omega)
          omega) _ _ _ hP hD hS (lv_sub hl [0, 1, 2] rfl)

set_option maxHeartbeats 4000000 in
set_option maxRecDepth 100000 in
theorem m_X8_setHours (l : Launch) (G : va_G) (Z : Nat → ClassId) (sz : Nat) (b : Nat → Nat) (al : Nat → Int32) (ke : Nat → Int32) (hs : Nat → Int32) (hq : Nat) (sl : Nat → Int32) (sa : Nat → Int32) (off : Int32) (car : Int32) (pa : Nat → Int32) (pq : Nat) (sp : Nat) (nu : Int32) (dn : Int32) (er : Int32) (L : Nat) (hL : al 9 = nI L) (hL8 : L ≤ 48) : Met l yX8_setHours wsX8_setHours ({ frames := 1, cells := 0, slots := 0, locals := 22 }) (va_Pc [.ref (b 0)] (zWP G Z sz (mk Z b (al, ke, hs, hq, sl, sa, off, car, pa, pq, sp, nu, dn, er)))) (va_Qi (fun (r : Int32) (u : Unit) => r = mSets al L) (fun (u : Unit) t => zB G (va_A (mk Z b (al, ke, hs, hq, sl, sa, off, car, pa, pq, sp, nu, dn, er)) sz) (mk Z b (al, ke, hs, hq, sl, sa, off, car, pa, pq, sp, nu, dn, er)) t) (va_A (mk Z b (al, ke, hs, hq, sl, sa, off, car, pa, pq, sp, nu, dn, er)) sz)) 0 0 (va_A (mk Z b (al, ke, hs, hq, sl, sa, off, car, pa, pq, sp, nu, dn, er)) sz) := by
  refine Met.ofW (cc := cX8_setHours) (maxL := 3) (ret := (some .int)) (by decide) rfl ?_
  intro p e s m args below meth c s₁ B hml hv
  have hx := B.exec
  have hb := B.bytes
  have hr := B.returns
  have hts := atoms_spec (ws := wsX8_setHours) B.pre
  have hown : s.vm.findClass RX8 = some m.cls := findClass_of_methodNamed B.named
  have hlocks := B.notSynchronized
  obtain ⟨rfl, hsz, hP, hK, hD, hA, hS, hSW⟩ := zEnter hv
  subst hsz
  generalize va_A (mk Z b (al, ke, hs, hq, sl, sa, off, car, pa, pq, sp, nu, dn, er)) s.heap.size = A at hD hA hS hSW ⊢
  have k_7 := hts (.fieldLink RX8 7 "WarmRodsModel" "all" "[I") (List.mem_of_getElem? (i := 1) rfl)
  have iX8 : ∀ w ∈ u_ws RX8 TX8 14, w ∈ wsX8_setHours := fun _ h => List.mem_cons_of_mem _ (List.mem_append_right _ h)
  have hP : va_P G vwCl (mk Z b (al, ke, hs, hq, sl, sa, off, car, pa, pq, sp, nu, dn, er)) s.heap := hP
  have hl := lv_entry ([.ref (b 0)]) (n := 3) (Nat.le_of_ble_eq_true rfl)
  rw [lg_entry_eq]
  generalize (lg_sl ([.ref (b 0)]) ++ List.replicate (3 - (lg_sl ([.ref (b 0)])).length) Slot.unset).toArray = ls at hl ⊢
  have hl : lv_has ls 3 [(0, .ref (b 0))] := hl
  refine lv_iconst (v := 0) hx hb dX8_setHours_0 (by decide) ?_
  refine lv_istore_n (lv' := [(1, .int 0), (0, .ref (b 0))]) hx hb dX8_setHours_1 rfl hl (by decide) rfl (fun ls hl => ?_)
  refine lv_iconst (v := 0) hx hb dX8_setHours_2 (by decide) ?_
  refine lv_istore_n (lv' := [(2, .int 0), (1, .int 0), (0, .ref (b 0))]) hx hb dX8_setHours_3 rfl hl (by decide) rfl (fun ls hl => ?_)
  refine zLoop (σ := Nat) (nL := 3) (fun zx => mk Z b (al, ke, hs, hq, sl, sa, off, car, pa, pq, sp, nu, dn, er)) (fun zx => [(2, .int (nI zx)), (1, .int (mSets al zx)), (0, .ref (b 0))]) (fun zx => zx ≤ L) (fun zx => L - zx) ?_ 0 (by
      try dsimp only
      omega) hP hD hS (lv_sub hl [0, 1, 2] rfl)
  intro zx hinv4 ih4 H locs ls hP hD hS hl
  obtain ⟨k, rfl⟩ : ∃ z, z = zx := ⟨_, rfl⟩
  try dsimp only at hinv4 ih4
  have hP : va_P G vwCl (mk Z b (al, ke, hs, hq, sl, sa, off, car, pa, pq, sp, nu, dn, er)) H := hP
  have hD : va_D A (mk Z b (al, ke, hs, hq, sl, sa, off, car, pa, pq, sp, nu, dn, er)) := hD
  have hl : lv_has ls 3 [(2, .int (nI k)), (1, .int (mSets al k)), (0, .ref (b 0))] := hl
  refine lv_iload_n hx hb dX8_setHours_4 rfl (lv_at hl 0 rfl) ?_
  refine lv_aload_n hx hb dX8_setHours_5 rfl (lv_at hl 2 rfl) ?_
  refine va_get (D := G) (ci := 8) (v := .ref (b 1)) (C := RX8) (T := TX8) (N := 14) hx hb hts iX8 hown hK hP 0 rfl rfl 0 (by decide) k_7 (fun _ h9 => h9) rfl dX8_setHours_6 ?_
  refine lv_bipush (v := 9) hx hb dX8_setHours_9 (by decide) ?_
  refine zIald (f := al) hx hb hK hP 1 0 rfl rfl 9 (by decide) (by decide) (by decide) dX8_setHours_11 ?_
  refine lv_icmp_ge (tgt := 30) hx hb dX8_setHours_12 (by decide) (fun c12 => ?_) (fun c12 => ?_)
  · refine lv_iload_n hx hb dX8_setHours_30 rfl (lv_at hl 1 rfl) ?_
    exact W.iret hx hb hr (zEi () (by
        rw [hL] at c12
        have hk := zLe c12 (by omega) (by omega)
        rw [show L = k by omega]) hP hD hS) hS.2.2 dX8_setHours_31
  · refine lv_iload_n hx hb dX8_setHours_15 rfl (lv_at hl 1 rfl) ?_
    refine lv_aload_n hx hb dX8_setHours_16 rfl (lv_at hl 2 rfl) ?_
    refine lv_iload_n hx hb dX8_setHours_17 rfl (lv_at hl 0 rfl) ?_
    refine lv_iconst (v := 5) hx hb dX8_setHours_18 (by decide) ?_
    refine zCi (S := Unit) (ws1 := fun u => mk Z b (al, ke, hs, hq, sl, sa, off, car, pa, pq, sp, nu, dn, er)) (wr := []) (va_runV (As := [.int (nI k), .int 5]) (rest := [.int (mSets al k)]) ⟨hx, hb, hml, hown, hts⟩ (m_X8_of l G Z _ b al ke hs hq sl sa off car pa pq sp nu dn er (nI k) 5 k 5 (by
        rfl) (by
        rfl) (by
        rw [hL] at c12
        have hk := zNle c12 (by omega) (by omega)
        omega) (by
        decide)) (cwV 2 hts gX8_setHours_X8_of rfl rfl rfl (by decide +kernel) ⟨Nat.le_of_ble_eq_true rfl, Nat.le_of_ble_eq_true rfl⟩) (zPreV hK hP hD hS hA hSW [0, 1, 2, 3, 4, 5, 6] rfl (by decide) 0 (ci := 8) rfl rfl rfl) rfl rfl hl.1 rfl (lv_room (Nat.le_of_ble_eq_true rfl)) dX8_setHours_19 ⟨Nat.le_of_ble_eq_true rfl, Nat.le_of_ble_eq_true rfl⟩) hP hD hS hA [0, 1, 2, 3, 4, 5, 6] [] [0, 1, 2, 3, 4, 5, 6] rfl rfl (by decide) (by decide) (by decide) (fun _ => rfl) (fun r19 u H locs hw19 hP hD hS => ?_)
    try dsimp only at hw19
    subst hw19
    have hP : va_P G vwCl (mk Z b (al, ke, hs, hq, sl, sa, off, car, pa, pq, sp, nu, dn, er)) H := hP
    have hD : va_D A (mk Z b (al, ke, hs, hq, sl, sa, off, car, pa, pq, sp, nu, dn, er)) := hD
    refine lv_iadd hx hb dX8_setHours_22 ?_
    refine lv_istore_n (lv' := [(1, .int ((mSets al k) + (al (11 + 7 * k + 5)))), (2, .int (nI k)), (0, .ref (b 0))]) hx hb dX8_setHours_23 rfl hl (by decide) rfl (fun ls hl => ?_)
    refine lv_iinc (v := (nI (k + 1))) (lv' := [(2, .int (nI (k + 1))), (1, .int ((mSets al k) + (al (11 + 7 * k + 5)))), (0, .ref (b 0))]) hx hb dX8_setHours_24 hl (k := 1) rfl (nI_succ k).symm (by decide) rfl (fun ls hl => ?_)
    refine lv_goto (tgt := 4) hx hb dX8_setHours_27 (by decide) ?_
    exact ih4 (k + 1) (by
        try dsimp only
        rw [hL] at c12
        have hk := zNle c12 (by omega) (by omega)
        omega) (by
        try dsimp only
        rw [hL] at c12
        have hk := zNle c12 (by omega) (by omega)
        omega) _ _ _ hP hD hS (lv_sub hl [0, 1, 2] rfl)

set_option maxHeartbeats 4000000 in
set_option maxRecDepth 100000 in
theorem m_X8_changes (l : Launch) (G : va_G) (Z : Nat → ClassId) (sz : Nat) (b : Nat → Nat) (al : Nat → Int32) (ke : Nat → Int32) (hs : Nat → Int32) (hq : Nat) (sl : Nat → Int32) (sa : Nat → Int32) (off : Int32) (car : Int32) (pa : Nat → Int32) (pq : Nat) (sp : Nat) (nu : Int32) (dn : Int32) (er : Int32) (L : Nat) (hL : al 9 = nI L) (hL8 : L ≤ 48) : Met l yX8_changes wsX8_changes ({ frames := 1, cells := 0, slots := 0, locals := 22 }) (va_Pc [.ref (b 0)] (zWP G Z sz (mk Z b (al, ke, hs, hq, sl, sa, off, car, pa, pq, sp, nu, dn, er)))) (va_Qi (fun (r : Int32) (u : Unit) => r = mOth al (L - 1)) (fun (u : Unit) t => zB G (va_A (mk Z b (al, ke, hs, hq, sl, sa, off, car, pa, pq, sp, nu, dn, er)) sz) (mk Z b (al, ke, hs, hq, sl, sa, off, car, pa, pq, sp, nu, dn, er)) t) (va_A (mk Z b (al, ke, hs, hq, sl, sa, off, car, pa, pq, sp, nu, dn, er)) sz)) 0 0 (va_A (mk Z b (al, ke, hs, hq, sl, sa, off, car, pa, pq, sp, nu, dn, er)) sz) := by
  refine Met.ofW (cc := cX8_changes) (maxL := 3) (ret := (some .int)) (by decide) rfl ?_
  intro p e s m args below meth c s₁ B hml hv
  have hx := B.exec
  have hb := B.bytes
  have hr := B.returns
  have hts := atoms_spec (ws := wsX8_changes) B.pre
  have hown : s.vm.findClass RX8 = some m.cls := findClass_of_methodNamed B.named
  have hlocks := B.notSynchronized
  obtain ⟨rfl, hsz, hP, hK, hD, hA, hS, hSW⟩ := zEnter hv
  subst hsz
  generalize va_A (mk Z b (al, ke, hs, hq, sl, sa, off, car, pa, pq, sp, nu, dn, er)) s.heap.size = A at hD hA hS hSW ⊢
  have k_7 := hts (.fieldLink RX8 7 "WarmRodsModel" "all" "[I") (List.mem_of_getElem? (i := 1) rfl)
  have iX8 : ∀ w ∈ u_ws RX8 TX8 14, w ∈ wsX8_changes := fun _ h => List.mem_cons_of_mem _ (List.mem_append_right _ h)
  have hP : va_P G vwCl (mk Z b (al, ke, hs, hq, sl, sa, off, car, pa, pq, sp, nu, dn, er)) s.heap := hP
  have hl := lv_entry ([.ref (b 0)]) (n := 3) (Nat.le_of_ble_eq_true rfl)
  rw [lg_entry_eq]
  generalize (lg_sl ([.ref (b 0)]) ++ List.replicate (3 - (lg_sl ([.ref (b 0)])).length) Slot.unset).toArray = ls at hl ⊢
  have hl : lv_has ls 3 [(0, .ref (b 0))] := hl
  refine lv_iconst (v := 0) hx hb dX8_changes_0 (by decide) ?_
  refine lv_istore_n (lv' := [(1, .int 0), (0, .ref (b 0))]) hx hb dX8_changes_1 rfl hl (by decide) rfl (fun ls hl => ?_)
  refine lv_iconst (v := 1) hx hb dX8_changes_2 (by decide) ?_
  refine lv_istore_n (lv' := [(2, .int 1), (1, .int 0), (0, .ref (b 0))]) hx hb dX8_changes_3 rfl hl (by decide) rfl (fun ls hl => ?_)
  refine zLoop (σ := Nat) (nL := 3) (fun zx => mk Z b (al, ke, hs, hq, sl, sa, off, car, pa, pq, sp, nu, dn, er)) (fun zx => [(2, .int (nI (zx + 1))), (1, .int (mOth al zx)), (0, .ref (b 0))]) (fun zx => zx ≤ (L - 1)) (fun zx => (L - 1) - zx) ?_ (0 ) (by
      try dsimp only
      omega) hP hD hS (lv_sub hl [0, 1, 2] rfl)
  intro zx hinv4 ih4 H locs ls hP hD hS hl
  obtain ⟨k, rfl⟩ : ∃ z, z = zx := ⟨_, rfl⟩
  try dsimp only at hinv4 ih4
  have hP : va_P G vwCl (mk Z b (al, ke, hs, hq, sl, sa, off, car, pa, pq, sp, nu, dn, er)) H := hP
  have hD : va_D A (mk Z b (al, ke, hs, hq, sl, sa, off, car, pa, pq, sp, nu, dn, er)) := hD
  have hl : lv_has ls 3 [(2, .int (nI (k + 1))), (1, .int (mOth al k)), (0, .ref (b 0))] := hl
  refine lv_iload_n hx hb dX8_changes_4 rfl (lv_at hl 0 rfl) ?_
  refine lv_aload_n hx hb dX8_changes_5 rfl (lv_at hl 2 rfl) ?_
  refine va_get (D := G) (ci := 8) (v := .ref (b 1)) (C := RX8) (T := TX8) (N := 14) hx hb hts iX8 hown hK hP 0 rfl rfl 0 (by decide) k_7 (fun _ h9 => h9) rfl dX8_changes_6 ?_
  refine lv_bipush (v := 9) hx hb dX8_changes_9 (by decide) ?_
  refine zIald (f := al) hx hb hK hP 1 0 rfl rfl 9 (by decide) (by decide) (by decide) dX8_changes_11 ?_
  refine lv_icmp_ge (tgt := 48) hx hb dX8_changes_12 (by decide) (fun c12 => ?_) (fun c12 => ?_)
  · refine lv_iload_n hx hb dX8_changes_48 rfl (lv_at hl 1 rfl) ?_
    exact W.iret hx hb hr (zEi () (by
        rw [hL] at c12
        have hk := zLe c12 (by omega) (by omega)
        rw [show L - 1 = k by omega]) hP hD hS) hS.2.2 dX8_changes_49
  · refine lv_iload_n hx hb dX8_changes_15 rfl (lv_at hl 1 rfl) ?_
    refine lv_aload_n hx hb dX8_changes_16 rfl (lv_at hl 2 rfl) ?_
    refine lv_iload_n hx hb dX8_changes_17 rfl (lv_at hl 0 rfl) ?_
    refine lv_bipush (v := 6) hx hb dX8_changes_18 (by decide) ?_
    refine zCi (S := Unit) (ws1 := fun u => mk Z b (al, ke, hs, hq, sl, sa, off, car, pa, pq, sp, nu, dn, er)) (wr := []) (va_runV (As := [.int (nI (k + 1)), .int 6]) (rest := [.int (mOth al k)]) ⟨hx, hb, hml, hown, hts⟩ (m_X8_of l G Z _ b al ke hs hq sl sa off car pa pq sp nu dn er (nI (k + 1)) 6 (k + 1) 6 (by
        rfl) (by
        rfl) (by
        rw [hL] at c12
        have hk := zNle c12 (by omega) (by omega)
        omega) (by
        decide)) (cwV 2 hts gX8_changes_X8_of rfl rfl rfl (by decide +kernel) ⟨Nat.le_of_ble_eq_true rfl, Nat.le_of_ble_eq_true rfl⟩) (zPreV hK hP hD hS hA hSW [0, 1, 2, 3, 4, 5, 6] rfl (by decide) 0 (ci := 8) rfl rfl rfl) rfl rfl hl.1 rfl (lv_room (Nat.le_of_ble_eq_true rfl)) dX8_changes_20 ⟨Nat.le_of_ble_eq_true rfl, Nat.le_of_ble_eq_true rfl⟩) hP hD hS hA [0, 1, 2, 3, 4, 5, 6] [] [0, 1, 2, 3, 4, 5, 6] rfl rfl (by decide) (by decide) (by decide) (fun _ => rfl) (fun r20 u H locs hw20 hP hD hS => ?_)
    try dsimp only at hw20
    subst hw20
    have hP : va_P G vwCl (mk Z b (al, ke, hs, hq, sl, sa, off, car, pa, pq, sp, nu, dn, er)) H := hP
    have hD : va_D A (mk Z b (al, ke, hs, hq, sl, sa, off, car, pa, pq, sp, nu, dn, er)) := hD
    refine lv_aload_n hx hb dX8_changes_23 rfl (lv_at hl 2 rfl) ?_
    refine lv_iload_n hx hb dX8_changes_24 rfl (lv_at hl 0 rfl) ?_
    refine lv_iconst (v := 1) hx hb dX8_changes_25 (by decide) ?_
    refine lv_isub hx hb dX8_changes_26 ?_
    refine zTopI (y := (nI k)) (nI_pred k) ?_
    refine lv_bipush (v := 6) hx hb dX8_changes_27 (by decide) ?_
    refine zCi (S := Unit) (ws1 := fun u => mk Z b (al, ke, hs, hq, sl, sa, off, car, pa, pq, sp, nu, dn, er)) (wr := []) (va_runV (As := [.int (nI k), .int 6]) (rest := [.int (al (11 + 7 * (k + 1) + 6)), .int (mOth al k)]) ⟨hx, hb, hml, hown, hts⟩ (m_X8_of l G Z _ b al ke hs hq sl sa off car pa pq sp nu dn er (nI k) 6 k 6 (by
        rfl) (by
        rfl) (by
        rw [hL] at c12
        have hk := zNle c12 (by omega) (by omega)
        omega) (by
        decide)) (cwV 2 hts gX8_changes_X8_of rfl rfl rfl (by decide +kernel) ⟨Nat.le_of_ble_eq_true rfl, Nat.le_of_ble_eq_true rfl⟩) (zPreV hK hP hD hS hA hSW [0, 1, 2, 3, 4, 5, 6] rfl (by decide) 0 (ci := 8) rfl rfl rfl) rfl rfl hl.1 rfl (lv_room (Nat.le_of_ble_eq_true rfl)) dX8_changes_29 ⟨Nat.le_of_ble_eq_true rfl, Nat.le_of_ble_eq_true rfl⟩) hP hD hS hA [0, 1, 2, 3, 4, 5, 6] [] [0, 1, 2, 3, 4, 5, 6] rfl rfl (by decide) (by decide) (by decide) (fun _ => rfl) (fun r29 u H locs hw29 hP hD hS => ?_)
    try dsimp only at hw29
    subst hw29
    have hP : va_P G vwCl (mk Z b (al, ke, hs, hq, sl, sa, off, car, pa, pq, sp, nu, dn, er)) H := hP
    have hD : va_D A (mk Z b (al, ke, hs, hq, sl, sa, off, car, pa, pq, sp, nu, dn, er)) := hD
    refine lv_icmp_eq (tgt := 39) hx hb dX8_changes_32 (by decide) (fun c32 => ?_) (fun c32 => ?_)
    · refine lv_iconst (v := 0) hx hb dX8_changes_39 (by decide) ?_
      refine lv_iadd hx hb dX8_changes_40 ?_
      refine lv_istore_n (lv' := [(1, .int ((mOth al k) + 0)), (2, .int (nI (k + 1))), (0, .ref (b 0))]) hx hb dX8_changes_41 rfl hl (by decide) rfl (fun ls hl => ?_)
      refine lv_iinc (v := (nI ((k + 1) + 1))) (lv' := [(2, .int (nI ((k + 1) + 1))), (1, .int ((mOth al k) + 0)), (0, .ref (b 0))]) hx hb dX8_changes_42 hl (k := 1) rfl (nI_succ (k + 1)).symm (by decide) rfl (fun ls hl => ?_)
      refine lv_goto (tgt := 4) hx hb dX8_changes_45 (by decide) ?_
      have e_k : mOth al (k + 1) = mOth al k + 0 := by simp only [mOth, c12, Int32.not_le.mp c12, eq_true c32, ↓reduceIte]
      rw [← e_k] at hl
      exact ih4 (k + 1) (by
          try dsimp only
          rw [hL] at c12
          have hk := zNle c12 (by omega) (by omega)
          omega) (by
          try dsimp only
          rw [hL] at c12
          have hk := zNle c12 (by omega) (by omega)
          omega) _ _ _ hP hD hS (lv_sub hl [0, 1, 2] rfl)
    · refine lv_iconst (v := 1) hx hb dX8_changes_35 (by decide) ?_
      refine lv_goto (tgt := 40) hx hb dX8_changes_36 (by decide) ?_
      refine lv_iadd hx hb dX8_changes_40 ?_
      refine lv_istore_n (lv' := [(1, .int ((mOth al k) + 1)), (2, .int (nI (k + 1))), (0, .ref (b 0))]) hx hb dX8_changes_41 rfl hl (by decide) rfl (fun ls hl => ?_)
      refine lv_iinc (v := (nI ((k + 1) + 1))) (lv' := [(2, .int (nI ((k + 1) + 1))), (1, .int ((mOth al k) + 1)), (0, .ref (b 0))]) hx hb dX8_changes_42 hl (k := 1) rfl (nI_succ (k + 1)).symm (by decide) rfl (fun ls hl => ?_)
      refine lv_goto (tgt := 4) hx hb dX8_changes_45 (by decide) ?_
      have e_k : mOth al (k + 1) = mOth al k + 1 := by simp only [mOth, c12, Int32.not_le.mp c12, c32, ↓reduceIte]
      rw [← e_k] at hl
      exact ih4 (k + 1) (by
          try dsimp only
          rw [hL] at c12
          have hk := zNle c12 (by omega) (by omega)
          omega) (by
          try dsimp only
          rw [hL] at c12
          have hk := zNle c12 (by omega) (by omega)
          omega) _ _ _ hP hD hS (lv_sub hl [0, 1, 2] rfl)

set_option maxHeartbeats 4000000 in
set_option maxRecDepth 100000 in
theorem m_X8_ofLog (l : Launch) (G : va_G) (Z : Nat → ClassId) (sz : Nat) (b : Nat → Nat) (al : Nat → Int32) (ke : Nat → Int32) (hs : Nat → Int32) (hq : Nat) (sl : Nat → Int32) (sa : Nat → Int32) (off : Int32) (car : Int32) (pa : Nat → Int32) (pq : Nat) (sp : Nat) (nu : Int32) (dn : Int32) (er : Int32) (L : Nat) (w : Int32) (hL : al 9 = nI L) (hL8 : L ≤ 48) : Met l yX8_ofLog wsX8_ofLog ({ frames := 2, cells := 0, slots := 0, locals := 44 }) (va_Pc [.ref (b 0), .int w] (zWP G Z sz (mk Z b (al, ke, hs, hq, sl, sa, off, car, pa, pq, sp, nu, dn, er)))) (va_Qi (fun (r : Int32) (u : Unit) => r = mOfLog al L w) (fun (u : Unit) t => zB G (va_A (mk Z b (al, ke, hs, hq, sl, sa, off, car, pa, pq, sp, nu, dn, er)) sz) (mk Z b (al, ke, hs, hq, sl, sa, off, car, pa, pq, sp, nu, dn, er)) t) (va_A (mk Z b (al, ke, hs, hq, sl, sa, off, car, pa, pq, sp, nu, dn, er)) sz)) 0 0 (va_A (mk Z b (al, ke, hs, hq, sl, sa, off, car, pa, pq, sp, nu, dn, er)) sz) := by
  refine Met.ofW (cc := cX8_ofLog) (maxL := 2) (ret := (some .int)) (by decide) rfl ?_
  intro p e s m args below meth c s₁ B hml hv
  have hx := B.exec
  have hb := B.bytes
  have hr := B.returns
  have hts := atoms_spec (ws := wsX8_ofLog) B.pre
  have hown : s.vm.findClass RX8 = some m.cls := findClass_of_methodNamed B.named
  have hlocks := B.notSynchronized
  obtain ⟨rfl, hsz, hP, hK, hD, hA, hS, hSW⟩ := zEnter hv
  subst hsz
  generalize va_A (mk Z b (al, ke, hs, hq, sl, sa, off, car, pa, pq, sp, nu, dn, er)) s.heap.size = A at hD hA hS hSW ⊢
  have k_134 := hts (.constantLong RX8 134 (4)) (List.mem_of_getElem? (i := 1) rfl)
  have k_7 := hts (.fieldLink RX8 7 "WarmRodsModel" "all" "[I") (List.mem_of_getElem? (i := 2) rfl)
  have iX8 : ∀ w ∈ u_ws RX8 TX8 14, w ∈ wsX8_ofLog := fun _ h => List.mem_cons_of_mem _ (List.mem_append_right _ h)
  have k_124 := hts (.constant RX8 124 (100000)) (List.mem_of_getElem? (i := 3) rfl)
  have hP : va_P G vwCl (mk Z b (al, ke, hs, hq, sl, sa, off, car, pa, pq, sp, nu, dn, er)) s.heap := hP
  have hl := lv_entry ([.ref (b 0), .int w]) (n := 2) (Nat.le_of_ble_eq_true rfl)
  rw [lg_entry_eq]
  generalize (lg_sl ([.ref (b 0), .int w]) ++ List.replicate (2 - (lg_sl ([.ref (b 0), .int w])).length) Slot.unset).toArray = ls at hl ⊢
  have hl : lv_has ls 2 [(0, .ref (b 0)), (1, .int w)] := hl
  refine lv_iload_n hx hb dX8_ofLog_0 rfl (lv_at hl 1 rfl) ?_
  refine lv_i2l (v := w.toInt64) hx hb dX8_ofLog_1 rfl ?_
  refine lv_lconst (v := 0) hx hb dX8_ofLog_2 (by decide) ?_
  refine lv_ldc2 (v := 4) hx hb hown k_134 dX8_ofLog_3 ?_
  refine zCi (S := Unit) (ws1 := fun u => mk Z b (al, ke, hs, hq, sl, sa, off, car, pa, pq, sp, nu, dn, er)) (wr := mk Z b (al, ke, hs, hq, sl, sa, off, car, pa, pq, sp, nu, dn, er)) (va_runS (As := [.long w.toInt64, .long 0, .long 4]) (rest := []) ⟨hx, hb, hml, hown, hts⟩ (m_X8_in l G Z _ w.toInt64 0 4) (va_cwS 3 hts gX8_ofLog_X8_in rfl rfl rfl (by decide +kernel) ⟨Nat.le_of_ble_eq_true rfl, Nat.le_of_ble_eq_true rfl⟩) (zPreS hK hP hD hS hA hSW [] rfl (by decide)) rfl rfl hl.1 rfl (lv_room (Nat.le_of_ble_eq_true rfl)) dX8_ofLog_6 ⟨Nat.le_of_ble_eq_true rfl, Nat.le_of_ble_eq_true rfl⟩) hP hD hS hA [] [0, 1, 2, 3, 4, 5, 6] [0, 1, 2, 3, 4, 5, 6] rfl rfl (by decide) (by decide) (by decide) (fun _ => rfl) (fun r6 u H locs hw6 hP hD hS => ?_)
  try dsimp only at hw6
  subst hw6
  have hP : va_P G vwCl (mk Z b (al, ke, hs, hq, sl, sa, off, car, pa, pq, sp, nu, dn, er)) H := hP
  have hD : va_D A (mk Z b (al, ke, hs, hq, sl, sa, off, car, pa, pq, sp, nu, dn, er)) := hD
  refine lv_if_ne (tgt := 15) hx hb dX8_ofLog_9 (by decide) (fun c9 => ?_) (fun c9 => ?_)
  · rw [show mIn w.toInt64 0 4 = mRng w 0 4 from mIn_w w 0 4] at c9
    refine lv_aload_n hx hb dX8_ofLog_15 rfl (lv_at hl 0 rfl) ?_
    refine va_get (D := G) (ci := 8) (v := .ref (b 1)) (C := RX8) (T := TX8) (N := 14) hx hb hts iX8 hown hK hP 0 rfl rfl 0 (by decide) k_7 (fun _ h9 => h9) rfl dX8_ofLog_16 ?_
    refine lv_bipush (v := 9) hx hb dX8_ofLog_19 (by decide) ?_
    refine zIald (f := al) hx hb hK hP 1 0 rfl rfl 9 (by decide) (by decide) (by decide) dX8_ofLog_21 ?_
    refine lv_if_ne (tgt := 28) hx hb dX8_ofLog_22 (by decide) (fun c22 => ?_) (fun c22 => ?_)
    · refine lv_iload_n hx hb dX8_ofLog_28 rfl (lv_at hl 1 rfl) ?_
      refine lv_if_ne (tgt := 42) hx hb dX8_ofLog_29 (by decide) (fun c29 => ?_) (fun c29 => ?_)
      · refine lv_iload_n hx hb dX8_ofLog_42 rfl (lv_at hl 1 rfl) ?_
        refine lv_iconst (v := 1) hx hb dX8_ofLog_43 (by decide) ?_
        refine lv_icmp_ne (tgt := 57) hx hb dX8_ofLog_44 (by decide) (fun c44 => ?_) (fun c44 => ?_)
        · refine lv_iload_n hx hb dX8_ofLog_57 rfl (lv_at hl 1 rfl) ?_
          refine lv_iconst (v := 2) hx hb dX8_ofLog_58 (by decide) ?_
          refine lv_icmp_ne (tgt := 69) hx hb dX8_ofLog_59 (by decide) (fun c59 => ?_) (fun c59 => ?_)
          · refine lv_iload_n hx hb dX8_ofLog_69 rfl (lv_at hl 1 rfl) ?_
            refine lv_iconst (v := 3) hx hb dX8_ofLog_70 (by decide) ?_
            refine lv_icmp_ne (tgt := 81) hx hb dX8_ofLog_71 (by decide) (fun c71 => ?_) (fun c71 => ?_)
            · refine lv_aload_n hx hb dX8_ofLog_81 rfl (lv_at hl 0 rfl) ?_
              refine zCi (S := Unit) (ws1 := fun u => mk Z b (al, ke, hs, hq, sl, sa, off, car, pa, pq, sp, nu, dn, er)) (wr := []) (va_runV (As := []) (rest := []) ⟨hx, hb, hml, hown, hts⟩ (m_X8_changes l G Z _ b al ke hs hq sl sa off car pa pq sp nu dn er L (by
                  exact hL) (by
                  exact hL8)) (cwV 0 hts gX8_ofLog_X8_changes rfl rfl rfl (by decide +kernel) ⟨Nat.le_of_ble_eq_true rfl, Nat.le_of_ble_eq_true rfl⟩) (zPreV hK hP hD hS hA hSW [0, 1, 2, 3, 4, 5, 6] rfl (by decide) 0 (ci := 8) rfl rfl rfl) rfl rfl hl.1 rfl (lv_room (Nat.le_of_ble_eq_true rfl)) dX8_ofLog_82 ⟨Nat.le_of_ble_eq_true rfl, Nat.le_of_ble_eq_true rfl⟩) hP hD hS hA [0, 1, 2, 3, 4, 5, 6] [] [0, 1, 2, 3, 4, 5, 6] rfl rfl (by decide) (by decide) (by decide) (fun _ => rfl) (fun r82 u H locs hw82 hP hD hS => ?_)
              try dsimp only at hw82
              subst hw82
              have hP : va_P G vwCl (mk Z b (al, ke, hs, hq, sl, sa, off, car, pa, pq, sp, nu, dn, er)) H := hP
              have hD : va_D A (mk Z b (al, ke, hs, hq, sl, sa, off, car, pa, pq, sp, nu, dn, er)) := hD
              exact W.iret hx hb hr (zEi () (by
                  simp only [mOfLog, c9, c22, c29, c44, c59, c71, ↓reduceIte]) hP hD hS) hS.2.2 dX8_ofLog_85
            · refine lv_aload_n hx hb dX8_ofLog_74 rfl (lv_at hl 0 rfl) ?_
              refine zCi (S := Unit) (ws1 := fun u => mk Z b (al, ke, hs, hq, sl, sa, off, car, pa, pq, sp, nu, dn, er)) (wr := []) (va_runV (As := []) (rest := []) ⟨hx, hb, hml, hown, hts⟩ (m_X8_setHours l G Z _ b al ke hs hq sl sa off car pa pq sp nu dn er L (by
                  exact hL) (by
                  exact hL8)) (cwV 0 hts gX8_ofLog_X8_setHours rfl rfl rfl (by decide +kernel) ⟨Nat.le_of_ble_eq_true rfl, Nat.le_of_ble_eq_true rfl⟩) (zPreV hK hP hD hS hA hSW [0, 1, 2, 3, 4, 5, 6] rfl (by decide) 0 (ci := 8) rfl rfl rfl) rfl rfl hl.1 rfl (lv_room (Nat.le_of_ble_eq_true rfl)) dX8_ofLog_75 ⟨Nat.le_of_ble_eq_true rfl, Nat.le_of_ble_eq_true rfl⟩) hP hD hS hA [0, 1, 2, 3, 4, 5, 6] [] [0, 1, 2, 3, 4, 5, 6] rfl rfl (by decide) (by decide) (by decide) (fun _ => rfl) (fun r75 u H locs hw75 hP hD hS => ?_)
              try dsimp only at hw75
              subst hw75
              have hP : va_P G vwCl (mk Z b (al, ke, hs, hq, sl, sa, off, car, pa, pq, sp, nu, dn, er)) H := hP
              have hD : va_D A (mk Z b (al, ke, hs, hq, sl, sa, off, car, pa, pq, sp, nu, dn, er)) := hD
              refine lv_goto (tgt := 85) hx hb dX8_ofLog_78 (by decide) ?_
              exact W.iret hx hb hr (zEi () (by
                  simp only [mOfLog, c9, c22, c29, c44, c59, eq_true c71, ↓reduceIte]) hP hD hS) hS.2.2 dX8_ofLog_85
          · refine lv_aload_n hx hb dX8_ofLog_62 rfl (lv_at hl 0 rfl) ?_
            refine zCi (S := Unit) (ws1 := fun u => mk Z b (al, ke, hs, hq, sl, sa, off, car, pa, pq, sp, nu, dn, er)) (wr := []) (va_runV (As := []) (rest := []) ⟨hx, hb, hml, hown, hts⟩ (m_X8_fastHours l G Z _ b al ke hs hq sl sa off car pa pq sp nu dn er L (by
                exact hL) (by
                exact hL8)) (cwV 0 hts gX8_ofLog_X8_fastHours rfl rfl rfl (by decide +kernel) ⟨Nat.le_of_ble_eq_true rfl, Nat.le_of_ble_eq_true rfl⟩) (zPreV hK hP hD hS hA hSW [0, 1, 2, 3, 4, 5, 6] rfl (by decide) 0 (ci := 8) rfl rfl rfl) rfl rfl hl.1 rfl (lv_room (Nat.le_of_ble_eq_true rfl)) dX8_ofLog_63 ⟨Nat.le_of_ble_eq_true rfl, Nat.le_of_ble_eq_true rfl⟩) hP hD hS hA [0, 1, 2, 3, 4, 5, 6] [] [0, 1, 2, 3, 4, 5, 6] rfl rfl (by decide) (by decide) (by decide) (fun _ => rfl) (fun r63 u H locs hw63 hP hD hS => ?_)
            try dsimp only at hw63
            subst hw63
            have hP : va_P G vwCl (mk Z b (al, ke, hs, hq, sl, sa, off, car, pa, pq, sp, nu, dn, er)) H := hP
            have hD : va_D A (mk Z b (al, ke, hs, hq, sl, sa, off, car, pa, pq, sp, nu, dn, er)) := hD
            refine lv_goto (tgt := 85) hx hb dX8_ofLog_66 (by decide) ?_
            exact W.iret hx hb hr (zEi () (by
                simp only [mOfLog, c9, c22, c29, c44, eq_true c59, ↓reduceIte]) hP hD hS) hS.2.2 dX8_ofLog_85
        · refine lv_aload_n hx hb dX8_ofLog_47 rfl (lv_at hl 0 rfl) ?_
          refine zCi (S := Unit) (ws1 := fun u => mk Z b (al, ke, hs, hq, sl, sa, off, car, pa, pq, sp, nu, dn, er)) (wr := []) (va_runV (As := []) (rest := []) ⟨hx, hb, hml, hown, hts⟩ (m_X8_least l G Z _ b al ke hs hq sl sa off car pa pq sp nu dn er L (by
              exact hL) (by
              exact hL8)) (cwV 0 hts gX8_ofLog_X8_least rfl rfl rfl (by decide +kernel) ⟨Nat.le_of_ble_eq_true rfl, Nat.le_of_ble_eq_true rfl⟩) (zPreV hK hP hD hS hA hSW [0, 1, 2, 3, 4, 5, 6] rfl (by decide) 0 (ci := 8) rfl rfl rfl) rfl rfl hl.1 rfl (lv_room (Nat.le_of_ble_eq_true rfl)) dX8_ofLog_48 ⟨Nat.le_of_ble_eq_true rfl, Nat.le_of_ble_eq_true rfl⟩) hP hD hS hA [0, 1, 2, 3, 4, 5, 6] [] [0, 1, 2, 3, 4, 5, 6] rfl rfl (by decide) (by decide) (by decide) (fun _ => rfl) (fun r48 u H locs hw48 hP hD hS => ?_)
          try dsimp only at hw48
          subst hw48
          have hP : va_P G vwCl (mk Z b (al, ke, hs, hq, sl, sa, off, car, pa, pq, sp, nu, dn, er)) H := hP
          have hD : va_D A (mk Z b (al, ke, hs, hq, sl, sa, off, car, pa, pq, sp, nu, dn, er)) := hD
          refine lv_ldc (v := 100000) hx hb hown k_124 dX8_ofLog_51 ?_
          refine lv_iadd hx hb dX8_ofLog_53 ?_
          refine lv_goto (tgt := 85) hx hb dX8_ofLog_54 (by decide) ?_
          exact W.iret hx hb hr (zEi () (by
              simp only [mOfLog, c9, c22, c29, eq_true c44, ↓reduceIte]) hP hD hS) hS.2.2 dX8_ofLog_85
      · refine lv_aload_n hx hb dX8_ofLog_32 rfl (lv_at hl 0 rfl) ?_
        refine zCi (S := Unit) (ws1 := fun u => mk Z b (al, ke, hs, hq, sl, sa, off, car, pa, pq, sp, nu, dn, er)) (wr := []) (va_runV (As := []) (rest := []) ⟨hx, hb, hml, hown, hts⟩ (m_X8_greatest l G Z _ b al ke hs hq sl sa off car pa pq sp nu dn er L (by
            exact hL) (by
            exact hL8)) (cwV 0 hts gX8_ofLog_X8_greatest rfl rfl rfl (by decide +kernel) ⟨Nat.le_of_ble_eq_true rfl, Nat.le_of_ble_eq_true rfl⟩) (zPreV hK hP hD hS hA hSW [0, 1, 2, 3, 4, 5, 6] rfl (by decide) 0 (ci := 8) rfl rfl rfl) rfl rfl hl.1 rfl (lv_room (Nat.le_of_ble_eq_true rfl)) dX8_ofLog_33 ⟨Nat.le_of_ble_eq_true rfl, Nat.le_of_ble_eq_true rfl⟩) hP hD hS hA [0, 1, 2, 3, 4, 5, 6] [] [0, 1, 2, 3, 4, 5, 6] rfl rfl (by decide) (by decide) (by decide) (fun _ => rfl) (fun r33 u H locs hw33 hP hD hS => ?_)
        try dsimp only at hw33
        subst hw33
        have hP : va_P G vwCl (mk Z b (al, ke, hs, hq, sl, sa, off, car, pa, pq, sp, nu, dn, er)) H := hP
        have hD : va_D A (mk Z b (al, ke, hs, hq, sl, sa, off, car, pa, pq, sp, nu, dn, er)) := hD
        refine lv_ldc (v := 100000) hx hb hown k_124 dX8_ofLog_36 ?_
        refine lv_iadd hx hb dX8_ofLog_38 ?_
        refine lv_goto (tgt := 85) hx hb dX8_ofLog_39 (by decide) ?_
        exact W.iret hx hb hr (zEi () (by
            simp only [mOfLog, c9, c22, eq_true c29, ↓reduceIte]) hP hD hS) hS.2.2 dX8_ofLog_85
    · refine lv_bipush (v := (-6)) hx hb dX8_ofLog_25 (by decide) ?_
      exact W.iret hx hb hr (zEi () (by
          simp only [mOfLog, c9, eq_true c22, ↓reduceIte]) hP hD hS) hS.2.2 dX8_ofLog_27
  · refine lv_bipush (v := (-2)) hx hb dX8_ofLog_12 (by decide) ?_
    exact W.iret hx hb hr (zEi () (by
        rw [show mIn w.toInt64 0 4 = mRng w 0 4 from mIn_w w 0 4] at c9
        simp only [mOfLog, eq_true c9, ↓reduceIte]) hP hD hS) hS.2.2 dX8_ofLog_14

set_option maxHeartbeats 4000000 in
set_option maxRecDepth 100000 in
theorem m_X8_rate (l : Launch) (G : va_G) (Z : Nat → ClassId) (sz : Nat) (b : Nat → Nat) (al : Nat → Int32) (ke : Nat → Int32) (hs : Nat → Int32) (hq : Nat) (sl : Nat → Int32) (sa : Nat → Int32) (off : Int32) (car : Int32) (pa : Nat → Int32) (pq : Nat) (sp : Nat) (nu : Int32) (dn : Int32) (er : Int32) (ht : Int32) (ar : Int32)  : Met l yX8_rate wsX8_rate ({ frames := 2, cells := 0, slots := 0, locals := 45 }) (va_Pc [.ref (b 0), .int ht, .int ar] (zWP G Z sz (mk Z b (al, ke, hs, hq, sl, sa, off, car, pa, pq, sp, nu, dn, er)))) (va_Qi (fun (r : Int32) (u : Unit) => r = mRate al ht ar) (fun (u : Unit) t => zB G (va_A (mk Z b (al, ke, hs, hq, sl, sa, off, car, pa, pq, sp, nu, dn, er)) sz) (mk Z b (al, ke, hs, hq, sl, sa, off, car, pa, pq, sp, nu, dn, er)) t) (va_A (mk Z b (al, ke, hs, hq, sl, sa, off, car, pa, pq, sp, nu, dn, er)) sz)) 0 0 (va_A (mk Z b (al, ke, hs, hq, sl, sa, off, car, pa, pq, sp, nu, dn, er)) sz) := by
  refine Met.ofW (cc := cX8_rate) (maxL := 3) (ret := (some .int)) (by decide) rfl ?_
  intro p e s m args below meth c s₁ B hml hv
  have hx := B.exec
  have hb := B.bytes
  have hr := B.returns
  have hts := atoms_spec (ws := wsX8_rate) B.pre
  have hown : s.vm.findClass RX8 = some m.cls := findClass_of_methodNamed B.named
  have hlocks := B.notSynchronized
  obtain ⟨rfl, hsz, hP, hK, hD, hA, hS, hSW⟩ := zEnter hv
  subst hsz
  generalize va_A (mk Z b (al, ke, hs, hq, sl, sa, off, car, pa, pq, sp, nu, dn, er)) s.heap.size = A at hD hA hS hSW ⊢
  have k_124 := hts (.constant RX8 124 (100000)) (List.mem_of_getElem? (i := 1) rfl)
  have hP : va_P G vwCl (mk Z b (al, ke, hs, hq, sl, sa, off, car, pa, pq, sp, nu, dn, er)) s.heap := hP
  have hl := lv_entry ([.ref (b 0), .int ht, .int ar]) (n := 3) (Nat.le_of_ble_eq_true rfl)
  rw [lg_entry_eq]
  generalize (lg_sl ([.ref (b 0), .int ht, .int ar]) ++ List.replicate (3 - (lg_sl ([.ref (b 0), .int ht, .int ar])).length) Slot.unset).toArray = ls at hl ⊢
  have hl : lv_has ls 3 [(0, .ref (b 0)), (1, .int ht), (2, .int ar)] := hl
  refine lv_iload_n hx hb dX8_rate_0 rfl (lv_at hl 1 rfl) ?_
  refine zCi (S := Unit) (ws1 := fun u => mk Z b (al, ke, hs, hq, sl, sa, off, car, pa, pq, sp, nu, dn, er)) (wr := mk Z b (al, ke, hs, hq, sl, sa, off, car, pa, pq, sp, nu, dn, er)) (va_runS (As := [.int ht]) (rest := []) ⟨hx, hb, hml, hown, hts⟩ (m_X8_isHeat l G Z _ ht) (va_cwS 1 hts gX8_rate_X8_isHeat rfl rfl rfl (by decide +kernel) ⟨Nat.le_of_ble_eq_true rfl, Nat.le_of_ble_eq_true rfl⟩) (zPreS hK hP hD hS hA hSW [] rfl (by decide)) rfl rfl hl.1 rfl (lv_room (Nat.le_of_ble_eq_true rfl)) dX8_rate_1 ⟨Nat.le_of_ble_eq_true rfl, Nat.le_of_ble_eq_true rfl⟩) hP hD hS hA [] [0, 1, 2, 3, 4, 5, 6] [0, 1, 2, 3, 4, 5, 6] rfl rfl (by decide) (by decide) (by decide) (fun _ => rfl) (fun r1 u H locs hw1 hP hD hS => ?_)
  try dsimp only at hw1
  subst hw1
  have hP : va_P G vwCl (mk Z b (al, ke, hs, hq, sl, sa, off, car, pa, pq, sp, nu, dn, er)) H := hP
  have hD : va_D A (mk Z b (al, ke, hs, hq, sl, sa, off, car, pa, pq, sp, nu, dn, er)) := hD
  refine lv_if_eq (tgt := 26) hx hb dX8_rate_4 (by decide) (fun c4 => ?_) (fun c4 => ?_)
  · refine lv_bipush (v := (-2)) hx hb dX8_rate_26 (by decide) ?_
    exact W.iret hx hb hr (zEi () (by
        simp only [mRate, eq_true c4, ↓reduceIte]) hP hD hS) hS.2.2 dX8_rate_28
  · refine lv_iload_n hx hb dX8_rate_7 rfl (lv_at hl 2 rfl) ?_
    refine zCi (S := Unit) (ws1 := fun u => mk Z b (al, ke, hs, hq, sl, sa, off, car, pa, pq, sp, nu, dn, er)) (wr := mk Z b (al, ke, hs, hq, sl, sa, off, car, pa, pq, sp, nu, dn, er)) (va_runS (As := [.int ar]) (rest := []) ⟨hx, hb, hml, hown, hts⟩ (m_X8_isAir l G Z _ ar) (va_cwS 1 hts gX8_rate_X8_isAir rfl rfl rfl (by decide +kernel) ⟨Nat.le_of_ble_eq_true rfl, Nat.le_of_ble_eq_true rfl⟩) (zPreS hK hP hD hS hA hSW [] rfl (by decide)) rfl rfl hl.1 rfl (lv_room (Nat.le_of_ble_eq_true rfl)) dX8_rate_8 ⟨Nat.le_of_ble_eq_true rfl, Nat.le_of_ble_eq_true rfl⟩) hP hD hS hA [] [0, 1, 2, 3, 4, 5, 6] [0, 1, 2, 3, 4, 5, 6] rfl rfl (by decide) (by decide) (by decide) (fun _ => rfl) (fun r8 u H locs hw8 hP hD hS => ?_)
    try dsimp only at hw8
    subst hw8
    have hP : va_P G vwCl (mk Z b (al, ke, hs, hq, sl, sa, off, car, pa, pq, sp, nu, dn, er)) H := hP
    have hD : va_D A (mk Z b (al, ke, hs, hq, sl, sa, off, car, pa, pq, sp, nu, dn, er)) := hD
    refine lv_if_eq (tgt := 26) hx hb dX8_rate_11 (by decide) (fun c11 => ?_) (fun c11 => ?_)
    · refine lv_bipush (v := (-2)) hx hb dX8_rate_26 (by decide) ?_
      exact W.iret hx hb hr (zEi () (by
          simp only [mRate, c4, eq_true c11, ↓reduceIte]) hP hD hS) hS.2.2 dX8_rate_28
    · refine lv_aload_n hx hb dX8_rate_14 rfl (lv_at hl 0 rfl) ?_
      refine lv_iload_n hx hb dX8_rate_15 rfl (lv_at hl 1 rfl) ?_
      refine lv_iload_n hx hb dX8_rate_16 rfl (lv_at hl 2 rfl) ?_
      refine zCi (S := Unit) (ws1 := fun u => mk Z b (al, ke, hs, hq, sl, sa, off, car, pa, pq, sp, nu, dn, er)) (wr := []) (va_runV (As := [.int ht, .int ar]) (rest := []) ⟨hx, hb, hml, hown, hts⟩ (m_X8_rateNow l G Z _ b al ke hs hq sl sa off car pa pq sp nu dn er ht ar) (cwV 2 hts gX8_rate_X8_rateNow rfl rfl rfl (by decide +kernel) ⟨Nat.le_of_ble_eq_true rfl, Nat.le_of_ble_eq_true rfl⟩) (zPreV hK hP hD hS hA hSW [0, 1, 2, 3, 4, 5, 6] rfl (by decide) 0 (ci := 8) rfl rfl rfl) rfl rfl hl.1 rfl (lv_room (Nat.le_of_ble_eq_true rfl)) dX8_rate_17 ⟨Nat.le_of_ble_eq_true rfl, Nat.le_of_ble_eq_true rfl⟩) hP hD hS hA [0, 1, 2, 3, 4, 5, 6] [] [0, 1, 2, 3, 4, 5, 6] rfl rfl (by decide) (by decide) (by decide) (fun _ => rfl) (fun r17 u H locs hw17 hP hD hS => ?_)
      try dsimp only at hw17
      subst hw17
      have hP : va_P G vwCl (mk Z b (al, ke, hs, hq, sl, sa, off, car, pa, pq, sp, nu, dn, er)) H := hP
      have hD : va_D A (mk Z b (al, ke, hs, hq, sl, sa, off, car, pa, pq, sp, nu, dn, er)) := hD
      refine lv_ldc (v := 100000) hx hb hown k_124 dX8_rate_20 ?_
      refine lv_iadd hx hb dX8_rate_22 ?_
      refine lv_goto (tgt := 28) hx hb dX8_rate_23 (by decide) ?_
      exact W.iret hx hb hr (zEi () (by
          simp only [mRate, c4, c11, ↓reduceIte]) hP hD hS) hS.2.2 dX8_rate_28

set_option maxHeartbeats 4000000 in
set_option maxRecDepth 100000 in
theorem m_X8_bestWeights (l : Launch) (G : va_G) (Z : Nat → ClassId) (sz : Nat) (b : Nat → Nat) (al : Nat → Int32) (ke : Nat → Int32) (hs : Nat → Int32) (hq : Nat) (sl : Nat → Int32) (sa : Nat → Int32) (off : Int32) (car : Int32) (pa : Nat → Int32) (pq : Nat) (sp : Nat) (nu : Int32) (dn : Int32) (er : Int32) (ht : Int32) (ar : Int32) (w : Int32)  : Met l yX8_bestWeights wsX8_bestWeights ({ frames := 2, cells := 0, slots := 0, locals := 45 }) (va_Pc [.ref (b 0), .int ht, .int ar, .int w] (zWP G Z sz (mk Z b (al, ke, hs, hq, sl, sa, off, car, pa, pq, sp, nu, dn, er)))) (va_Qi (fun (r : Int32) (u : Unit) => r = mBest al ht ar w) (fun (u : Unit) t => zB G (va_A (mk Z b (al, ke, hs, hq, sl, sa, off, car, pa, pq, sp, nu, dn, er)) sz) (mk Z b (al, ke, hs, hq, sl, sa, off, car, pa, pq, sp, nu, dn, er)) t) (va_A (mk Z b (al, ke, hs, hq, sl, sa, off, car, pa, pq, sp, nu, dn, er)) sz)) 0 0 (va_A (mk Z b (al, ke, hs, hq, sl, sa, off, car, pa, pq, sp, nu, dn, er)) sz) := by
  refine Met.ofW (cc := cX8_bestWeights) (maxL := 6) (ret := (some .int)) (by decide) rfl ?_
  intro p e s m args below meth c s₁ B hml hv
  have hx := B.exec
  have hb := B.bytes
  have hr := B.returns
  have hts := atoms_spec (ws := wsX8_bestWeights) B.pre
  have hown : s.vm.findClass RX8 = some m.cls := findClass_of_methodNamed B.named
  have hlocks := B.notSynchronized
  obtain ⟨rfl, hsz, hP, hK, hD, hA, hS, hSW⟩ := zEnter hv
  subst hsz
  generalize va_A (mk Z b (al, ke, hs, hq, sl, sa, off, car, pa, pq, sp, nu, dn, er)) s.heap.size = A at hD hA hS hSW ⊢
  have k_124 := hts (.constant RX8 124 (100000)) (List.mem_of_getElem? (i := 1) rfl)
  have hP : va_P G vwCl (mk Z b (al, ke, hs, hq, sl, sa, off, car, pa, pq, sp, nu, dn, er)) s.heap := hP
  have hl := lv_entry ([.ref (b 0), .int ht, .int ar, .int w]) (n := 6) (Nat.le_of_ble_eq_true rfl)
  rw [lg_entry_eq]
  generalize (lg_sl ([.ref (b 0), .int ht, .int ar, .int w]) ++ List.replicate (6 - (lg_sl ([.ref (b 0), .int ht, .int ar, .int w])).length) Slot.unset).toArray = ls at hl ⊢
  have hl : lv_has ls 6 [(0, .ref (b 0)), (1, .int ht), (2, .int ar), (3, .int w)] := hl
  refine lv_iload_n hx hb dX8_bestWeights_0 rfl (lv_at hl 1 rfl) ?_
  refine zCi (S := Unit) (ws1 := fun u => mk Z b (al, ke, hs, hq, sl, sa, off, car, pa, pq, sp, nu, dn, er)) (wr := mk Z b (al, ke, hs, hq, sl, sa, off, car, pa, pq, sp, nu, dn, er)) (va_runS (As := [.int ht]) (rest := []) ⟨hx, hb, hml, hown, hts⟩ (m_X8_isHeat l G Z _ ht) (va_cwS 1 hts gX8_bestWeights_X8_isHeat rfl rfl rfl (by decide +kernel) ⟨Nat.le_of_ble_eq_true rfl, Nat.le_of_ble_eq_true rfl⟩) (zPreS hK hP hD hS hA hSW [] rfl (by decide)) rfl rfl hl.1 rfl (lv_room (Nat.le_of_ble_eq_true rfl)) dX8_bestWeights_1 ⟨Nat.le_of_ble_eq_true rfl, Nat.le_of_ble_eq_true rfl⟩) hP hD hS hA [] [0, 1, 2, 3, 4, 5, 6] [0, 1, 2, 3, 4, 5, 6] rfl rfl (by decide) (by decide) (by decide) (fun _ => rfl) (fun r1 u H locs hw1 hP hD hS => ?_)
  try dsimp only at hw1
  subst hw1
  have hP : va_P G vwCl (mk Z b (al, ke, hs, hq, sl, sa, off, car, pa, pq, sp, nu, dn, er)) H := hP
  have hD : va_D A (mk Z b (al, ke, hs, hq, sl, sa, off, car, pa, pq, sp, nu, dn, er)) := hD
  refine lv_if_eq (tgt := 24) hx hb dX8_bestWeights_4 (by decide) (fun c4 => ?_) (fun c4 => ?_)
  · refine lv_bipush (v := (-2)) hx hb dX8_bestWeights_24 (by decide) ?_
    exact W.iret hx hb hr (zEi () (by
        simp only [mBest, eq_true c4, ↓reduceIte]) hP hD hS) hS.2.2 dX8_bestWeights_26
  · refine lv_iload_n hx hb dX8_bestWeights_7 rfl (lv_at hl 2 rfl) ?_
    refine zCi (S := Unit) (ws1 := fun u => mk Z b (al, ke, hs, hq, sl, sa, off, car, pa, pq, sp, nu, dn, er)) (wr := mk Z b (al, ke, hs, hq, sl, sa, off, car, pa, pq, sp, nu, dn, er)) (va_runS (As := [.int ar]) (rest := []) ⟨hx, hb, hml, hown, hts⟩ (m_X8_isAir l G Z _ ar) (va_cwS 1 hts gX8_bestWeights_X8_isAir rfl rfl rfl (by decide +kernel) ⟨Nat.le_of_ble_eq_true rfl, Nat.le_of_ble_eq_true rfl⟩) (zPreS hK hP hD hS hA hSW [] rfl (by decide)) rfl rfl hl.1 rfl (lv_room (Nat.le_of_ble_eq_true rfl)) dX8_bestWeights_8 ⟨Nat.le_of_ble_eq_true rfl, Nat.le_of_ble_eq_true rfl⟩) hP hD hS hA [] [0, 1, 2, 3, 4, 5, 6] [0, 1, 2, 3, 4, 5, 6] rfl rfl (by decide) (by decide) (by decide) (fun _ => rfl) (fun r8 u H locs hw8 hP hD hS => ?_)
    try dsimp only at hw8
    subst hw8
    have hP : va_P G vwCl (mk Z b (al, ke, hs, hq, sl, sa, off, car, pa, pq, sp, nu, dn, er)) H := hP
    have hD : va_D A (mk Z b (al, ke, hs, hq, sl, sa, off, car, pa, pq, sp, nu, dn, er)) := hD
    refine lv_if_eq (tgt := 24) hx hb dX8_bestWeights_11 (by decide) (fun c11 => ?_) (fun c11 => ?_)
    · refine lv_bipush (v := (-2)) hx hb dX8_bestWeights_24 (by decide) ?_
      exact W.iret hx hb hr (zEi () (by
          simp only [mBest, c4, eq_true c11, ↓reduceIte]) hP hD hS) hS.2.2 dX8_bestWeights_26
    · refine lv_iload_n hx hb dX8_bestWeights_14 rfl (lv_at hl 3 rfl) ?_
      refine lv_i2l (v := w.toInt64) hx hb dX8_bestWeights_15 rfl ?_
      refine lv_lconst (v := 0) hx hb dX8_bestWeights_16 (by decide) ?_
      refine lv_lconst (v := 1) hx hb dX8_bestWeights_17 (by decide) ?_
      refine zCi (S := Unit) (ws1 := fun u => mk Z b (al, ke, hs, hq, sl, sa, off, car, pa, pq, sp, nu, dn, er)) (wr := mk Z b (al, ke, hs, hq, sl, sa, off, car, pa, pq, sp, nu, dn, er)) (va_runS (As := [.long w.toInt64, .long 0, .long 1]) (rest := []) ⟨hx, hb, hml, hown, hts⟩ (m_X8_in l G Z _ w.toInt64 0 1) (va_cwS 3 hts gX8_bestWeights_X8_in rfl rfl rfl (by decide +kernel) ⟨Nat.le_of_ble_eq_true rfl, Nat.le_of_ble_eq_true rfl⟩) (zPreS hK hP hD hS hA hSW [] rfl (by decide)) rfl rfl hl.1 rfl (lv_room (Nat.le_of_ble_eq_true rfl)) dX8_bestWeights_18 ⟨Nat.le_of_ble_eq_true rfl, Nat.le_of_ble_eq_true rfl⟩) hP hD hS hA [] [0, 1, 2, 3, 4, 5, 6] [0, 1, 2, 3, 4, 5, 6] rfl rfl (by decide) (by decide) (by decide) (fun _ => rfl) (fun r18 u H locs hw18 hP hD hS => ?_)
      try dsimp only at hw18
      subst hw18
      have hP : va_P G vwCl (mk Z b (al, ke, hs, hq, sl, sa, off, car, pa, pq, sp, nu, dn, er)) H := hP
      have hD : va_D A (mk Z b (al, ke, hs, hq, sl, sa, off, car, pa, pq, sp, nu, dn, er)) := hD
      refine lv_if_ne (tgt := 27) hx hb dX8_bestWeights_21 (by decide) (fun c21 => ?_) (fun c21 => ?_)
      · rw [show mIn w.toInt64 0 1 = mRng w 0 1 from mIn_w w 0 1] at c21
        refine lv_iconst (v := 0) hx hb dX8_bestWeights_27 (by decide) ?_
        refine lv_istore (lv' := [(4, .int 0), (0, .ref (b 0)), (1, .int ht), (2, .int ar), (3, .int w)]) hx hb dX8_bestWeights_28 hl (by decide) rfl (fun ls hl => ?_)
        refine lv_iconst (v := 1) hx hb dX8_bestWeights_30 (by decide) ?_
        refine lv_istore (lv' := [(5, .int 1), (4, .int 0), (0, .ref (b 0)), (1, .int ht), (2, .int ar), (3, .int w)]) hx hb dX8_bestWeights_31 hl (by decide) rfl (fun ls hl => ?_)
        refine zLoop (σ := Nat) (nL := 6) (fun zx => mk Z b (al, ke, hs, hq, sl, sa, off, car, pa, pq, sp, nu, dn, er)) (fun zx => [(5, .int (nI (zx + 1))), (4, .int (mBw (cBare al ht ar) zx)), (0, .ref (b 0)), (1, .int ht), (2, .int ar), (3, .int w)]) (fun zx => zx ≤ 255) (fun zx => 255 - zx) ?_ 0 (by
            try dsimp only
            omega) hP hD hS (lv_sub hl [0, 1, 2, 3, 4, 5] rfl)
        intro zx hinv33 ih33 H locs ls hP hD hS hl
        obtain ⟨k, rfl⟩ : ∃ z, z = zx := ⟨_, rfl⟩
        try dsimp only at hinv33 ih33
        have hP : va_P G vwCl (mk Z b (al, ke, hs, hq, sl, sa, off, car, pa, pq, sp, nu, dn, er)) H := hP
        have hD : va_D A (mk Z b (al, ke, hs, hq, sl, sa, off, car, pa, pq, sp, nu, dn, er)) := hD
        have hl : lv_has ls 6 [(5, .int (nI (k + 1))), (4, .int (mBw (cBare al ht ar) k)), (0, .ref (b 0)), (1, .int ht), (2, .int ar), (3, .int w)] := hl
        refine lv_iload hx hb dX8_bestWeights_33 (lv_at hl 0 rfl) ?_
        refine lv_sipush (v := 256) hx hb dX8_bestWeights_35 (by decide) ?_
        refine lv_icmp_ge (tgt := 81) hx hb dX8_bestWeights_38 (by decide) (fun c38 => ?_) (fun c38 => ?_)
        · refine lv_iload_n hx hb dX8_bestWeights_81 rfl (lv_at hl 5 rfl) ?_
          refine lv_if_ne (tgt := 90) hx hb dX8_bestWeights_82 (by decide) (fun c82 => ?_) (fun c82 => ?_)
          · refine lv_aload_n hx hb dX8_bestWeights_90 rfl (lv_at hl 2 rfl) ?_
            refine lv_iload_n hx hb dX8_bestWeights_91 rfl (lv_at hl 3 rfl) ?_
            refine lv_iload_n hx hb dX8_bestWeights_92 rfl (lv_at hl 4 rfl) ?_
            refine lv_iload hx hb dX8_bestWeights_93 (lv_at hl 1 rfl) ?_
            refine zCi (S := Unit) (ws1 := fun u => mk Z b (al, ke, hs, hq, sl, sa, off, car, pa, pq, sp, nu, dn, er)) (wr := []) (va_runV (As := [.int ht, .int ar, .int (mBw (cBare al ht ar) k)]) (rest := []) ⟨hx, hb, hml, hown, hts⟩ (m_X8_rateWith l G Z _ b al ke hs hq sl sa off car pa pq sp nu dn er ht ar (mBw (cBare al ht ar) k)) (cwV 3 hts gX8_bestWeights_X8_rateWith rfl rfl rfl (by decide +kernel) ⟨Nat.le_of_ble_eq_true rfl, Nat.le_of_ble_eq_true rfl⟩) (zPreV hK hP hD hS hA hSW [0, 1, 2, 3, 4, 5, 6] rfl (by decide) 0 (ci := 8) rfl rfl rfl) rfl rfl hl.1 rfl (lv_room (Nat.le_of_ble_eq_true rfl)) dX8_bestWeights_95 ⟨Nat.le_of_ble_eq_true rfl, Nat.le_of_ble_eq_true rfl⟩) hP hD hS hA [0, 1, 2, 3, 4, 5, 6] [] [0, 1, 2, 3, 4, 5, 6] rfl rfl (by decide) (by decide) (by decide) (fun _ => rfl) (fun r95 u H locs hw95 hP hD hS => ?_)
            try dsimp only at hw95
            subst hw95
            have hP : va_P G vwCl (mk Z b (al, ke, hs, hq, sl, sa, off, car, pa, pq, sp, nu, dn, er)) H := hP
            have hD : va_D A (mk Z b (al, ke, hs, hq, sl, sa, off, car, pa, pq, sp, nu, dn, er)) := hD
            refine lv_ldc (v := 100000) hx hb hown k_124 dX8_bestWeights_98 ?_
            refine lv_iadd hx hb dX8_bestWeights_100 ?_
            exact W.iret hx hb hr (zEi () (by
                have hk := zLe (a := 256) c38 (by omega) (by omega)
                obtain rfl : k = 255 := by omega
                simp only [mBest, c4, c11, c21, c38, Int32.not_lt.mpr c38, c82, ↓reduceIte]) hP hD hS) hS.2.2 dX8_bestWeights_101
          · refine lv_iload hx hb dX8_bestWeights_85 (lv_at hl 1 rfl) ?_
            refine lv_goto (tgt := 101) hx hb dX8_bestWeights_87 (by decide) ?_
            exact W.iret hx hb hr (zEi () (by
                have hk := zLe (a := 256) c38 (by omega) (by omega)
                obtain rfl : k = 255 := by omega
                simp only [mBest, c4, c11, c21, c38, Int32.not_lt.mpr c38, eq_true c82, ↓reduceIte]) hP hD hS) hS.2.2 dX8_bestWeights_101
        · refine lv_aload_n hx hb dX8_bestWeights_41 rfl (lv_at hl 2 rfl) ?_
          refine lv_iload_n hx hb dX8_bestWeights_42 rfl (lv_at hl 3 rfl) ?_
          refine lv_iload_n hx hb dX8_bestWeights_43 rfl (lv_at hl 4 rfl) ?_
          refine lv_iload hx hb dX8_bestWeights_44 (lv_at hl 0 rfl) ?_
          refine zCi (S := Unit) (ws1 := fun u => mk Z b (al, ke, hs, hq, sl, sa, off, car, pa, pq, sp, nu, dn, er)) (wr := []) (va_runV (As := [.int ht, .int ar, .int (nI (k + 1))]) (rest := []) ⟨hx, hb, hml, hown, hts⟩ (m_X8_rateWith l G Z _ b al ke hs hq sl sa off car pa pq sp nu dn er ht ar (nI (k + 1))) (cwV 3 hts gX8_bestWeights_X8_rateWith rfl rfl rfl (by decide +kernel) ⟨Nat.le_of_ble_eq_true rfl, Nat.le_of_ble_eq_true rfl⟩) (zPreV hK hP hD hS hA hSW [0, 1, 2, 3, 4, 5, 6] rfl (by decide) 0 (ci := 8) rfl rfl rfl) rfl rfl hl.1 rfl (lv_room (Nat.le_of_ble_eq_true rfl)) dX8_bestWeights_46 ⟨Nat.le_of_ble_eq_true rfl, Nat.le_of_ble_eq_true rfl⟩) hP hD hS hA [0, 1, 2, 3, 4, 5, 6] [] [0, 1, 2, 3, 4, 5, 6] rfl rfl (by decide) (by decide) (by decide) (fun _ => rfl) (fun r46 u H locs hw46 hP hD hS => ?_)
          try dsimp only at hw46
          subst hw46
          have hP : va_P G vwCl (mk Z b (al, ke, hs, hq, sl, sa, off, car, pa, pq, sp, nu, dn, er)) H := hP
          have hD : va_D A (mk Z b (al, ke, hs, hq, sl, sa, off, car, pa, pq, sp, nu, dn, er)) := hD
          refine zCi (S := Unit) (ws1 := fun u => mk Z b (al, ke, hs, hq, sl, sa, off, car, pa, pq, sp, nu, dn, er)) (wr := mk Z b (al, ke, hs, hq, sl, sa, off, car, pa, pq, sp, nu, dn, er)) (va_runS (As := [.int (cBare al ht ar + (nI (k + 1)))]) (rest := []) ⟨hx, hb, hml, hown, hts⟩ (m_X8_size l G Z _ (cBare al ht ar + (nI (k + 1)))) (va_cwS 1 hts gX8_bestWeights_X8_size rfl rfl rfl (by decide +kernel) ⟨Nat.le_of_ble_eq_true rfl, Nat.le_of_ble_eq_true rfl⟩) (zPreS hK hP hD hS hA hSW [] rfl (by decide)) rfl rfl hl.1 rfl (lv_room (Nat.le_of_ble_eq_true rfl)) dX8_bestWeights_49 ⟨Nat.le_of_ble_eq_true rfl, Nat.le_of_ble_eq_true rfl⟩) hP hD hS hA [] [0, 1, 2, 3, 4, 5, 6] [0, 1, 2, 3, 4, 5, 6] rfl rfl (by decide) (by decide) (by decide) (fun _ => rfl) (fun r49 u H locs hw49 hP hD hS => ?_)
          try dsimp only at hw49
          subst hw49
          have hP : va_P G vwCl (mk Z b (al, ke, hs, hq, sl, sa, off, car, pa, pq, sp, nu, dn, er)) H := hP
          have hD : va_D A (mk Z b (al, ke, hs, hq, sl, sa, off, car, pa, pq, sp, nu, dn, er)) := hD
          refine lv_aload_n hx hb dX8_bestWeights_52 rfl (lv_at hl 2 rfl) ?_
          refine lv_iload_n hx hb dX8_bestWeights_53 rfl (lv_at hl 3 rfl) ?_
          refine lv_iload_n hx hb dX8_bestWeights_54 rfl (lv_at hl 4 rfl) ?_
          refine lv_iload hx hb dX8_bestWeights_55 (lv_at hl 1 rfl) ?_
          refine zCi (S := Unit) (ws1 := fun u => mk Z b (al, ke, hs, hq, sl, sa, off, car, pa, pq, sp, nu, dn, er)) (wr := []) (va_runV (As := [.int ht, .int ar, .int (mBw (cBare al ht ar) k)]) (rest := [.int (mSize (cBare al ht ar + (nI (k + 1))))]) ⟨hx, hb, hml, hown, hts⟩ (m_X8_rateWith l G Z _ b al ke hs hq sl sa off car pa pq sp nu dn er ht ar (mBw (cBare al ht ar) k)) (cwV 3 hts gX8_bestWeights_X8_rateWith rfl rfl rfl (by decide +kernel) ⟨Nat.le_of_ble_eq_true rfl, Nat.le_of_ble_eq_true rfl⟩) (zPreV hK hP hD hS hA hSW [0, 1, 2, 3, 4, 5, 6] rfl (by decide) 0 (ci := 8) rfl rfl rfl) rfl rfl hl.1 rfl (lv_room (Nat.le_of_ble_eq_true rfl)) dX8_bestWeights_57 ⟨Nat.le_of_ble_eq_true rfl, Nat.le_of_ble_eq_true rfl⟩) hP hD hS hA [0, 1, 2, 3, 4, 5, 6] [] [0, 1, 2, 3, 4, 5, 6] rfl rfl (by decide) (by decide) (by decide) (fun _ => rfl) (fun r57 u H locs hw57 hP hD hS => ?_)
          try dsimp only at hw57
          subst hw57
          have hP : va_P G vwCl (mk Z b (al, ke, hs, hq, sl, sa, off, car, pa, pq, sp, nu, dn, er)) H := hP
          have hD : va_D A (mk Z b (al, ke, hs, hq, sl, sa, off, car, pa, pq, sp, nu, dn, er)) := hD
          refine zCi (S := Unit) (ws1 := fun u => mk Z b (al, ke, hs, hq, sl, sa, off, car, pa, pq, sp, nu, dn, er)) (wr := mk Z b (al, ke, hs, hq, sl, sa, off, car, pa, pq, sp, nu, dn, er)) (va_runS (As := [.int (cBare al ht ar + (mBw (cBare al ht ar) k))]) (rest := [.int (mSize (cBare al ht ar + (nI (k + 1))))]) ⟨hx, hb, hml, hown, hts⟩ (m_X8_size l G Z _ (cBare al ht ar + (mBw (cBare al ht ar) k))) (va_cwS 1 hts gX8_bestWeights_X8_size rfl rfl rfl (by decide +kernel) ⟨Nat.le_of_ble_eq_true rfl, Nat.le_of_ble_eq_true rfl⟩) (zPreS hK hP hD hS hA hSW [] rfl (by decide)) rfl rfl hl.1 rfl (lv_room (Nat.le_of_ble_eq_true rfl)) dX8_bestWeights_60 ⟨Nat.le_of_ble_eq_true rfl, Nat.le_of_ble_eq_true rfl⟩) hP hD hS hA [] [0, 1, 2, 3, 4, 5, 6] [0, 1, 2, 3, 4, 5, 6] rfl rfl (by decide) (by decide) (by decide) (fun _ => rfl) (fun r60 u H locs hw60 hP hD hS => ?_)
          try dsimp only at hw60
          subst hw60
          have hP : va_P G vwCl (mk Z b (al, ke, hs, hq, sl, sa, off, car, pa, pq, sp, nu, dn, er)) H := hP
          have hD : va_D A (mk Z b (al, ke, hs, hq, sl, sa, off, car, pa, pq, sp, nu, dn, er)) := hD
          refine lv_icmp_ge (tgt := 71) hx hb dX8_bestWeights_63 (by decide) (fun c63 => ?_) (fun c63 => ?_)
          · refine lv_iload hx hb dX8_bestWeights_71 (lv_at hl 1 rfl) ?_
            refine lv_istore (lv' := [(4, .int (mBw (cBare al ht ar) k)), (5, .int (nI (k + 1))), (0, .ref (b 0)), (1, .int ht), (2, .int ar), (3, .int w)]) hx hb dX8_bestWeights_73 hl (by decide) rfl (fun ls hl => ?_)
            refine lv_iinc (v := (nI ((k + 1) + 1))) (lv' := [(5, .int (nI ((k + 1) + 1))), (4, .int (mBw (cBare al ht ar) k)), (0, .ref (b 0)), (1, .int ht), (2, .int ar), (3, .int w)]) hx hb dX8_bestWeights_75 hl (k := 1) rfl (nI_succ (k + 1)).symm (by decide) rfl (fun ls hl => ?_)
            refine lv_goto (tgt := 33) hx hb dX8_bestWeights_78 (by decide) ?_
            have e_k : mBw (cBare al ht ar) (k + 1) = (mBw (cBare al ht ar) k) := by simp only [mBw, c4, c11, c21, c38, Int32.not_le.mp c38, c63, Int32.not_lt.mpr c63, ↓reduceIte]
            rw [← e_k] at hl
            exact ih33 (k + 1) (by
                try dsimp only
                have hk := zNle (a := 256) c38 (by omega) (by omega)
                omega) (by
                try dsimp only
                have hk := zNle (a := 256) c38 (by omega) (by omega)
                omega) _ _ _ hP hD hS (lv_sub hl [0, 1, 2, 3, 4, 5] rfl)
          · refine lv_iload hx hb dX8_bestWeights_66 (lv_at hl 0 rfl) ?_
            refine lv_goto (tgt := 73) hx hb dX8_bestWeights_68 (by decide) ?_
            refine lv_istore (lv' := [(4, .int (nI (k + 1))), (5, .int (nI (k + 1))), (0, .ref (b 0)), (1, .int ht), (2, .int ar), (3, .int w)]) hx hb dX8_bestWeights_73 hl (by decide) rfl (fun ls hl => ?_)
            refine lv_iinc (v := (nI ((k + 1) + 1))) (lv' := [(5, .int (nI ((k + 1) + 1))), (4, .int (nI (k + 1))), (0, .ref (b 0)), (1, .int ht), (2, .int ar), (3, .int w)]) hx hb dX8_bestWeights_75 hl (k := 1) rfl (nI_succ (k + 1)).symm (by decide) rfl (fun ls hl => ?_)
            refine lv_goto (tgt := 33) hx hb dX8_bestWeights_78 (by decide) ?_
            have e_k : mBw (cBare al ht ar) (k + 1) = (nI (k + 1)) := by simp only [mBw, c4, c11, c21, c38, Int32.not_le.mp c38, c63, Int32.not_le.mp c63, ↓reduceIte]
            rw [← e_k] at hl
            exact ih33 (k + 1) (by
                try dsimp only
                have hk := zNle (a := 256) c38 (by omega) (by omega)
                omega) (by
                try dsimp only
                have hk := zNle (a := 256) c38 (by omega) (by omega)
                omega) _ _ _ hP hD hS (lv_sub hl [0, 1, 2, 3, 4, 5] rfl)
      · refine lv_bipush (v := (-2)) hx hb dX8_bestWeights_24 (by decide) ?_
        exact W.iret hx hb hr (zEi () (by
            rw [show mIn w.toInt64 0 1 = mRng w 0 1 from mIn_w w 0 1] at c21
            simp only [mBest, c4, c11, eq_true c21, ↓reduceIte]) hP hD hS) hS.2.2 dX8_bestWeights_26

set_option maxHeartbeats 4000000 in
set_option maxRecDepth 100000 in
theorem m_X8_offIn (l : Launch) (G : va_G) (Z : Nat → ClassId) (sz : Nat) (b : Nat → Nat) (al : Nat → Int32) (ke : Nat → Int32) (hs : Nat → Int32) (hq : Nat) (sl : Nat → Int32) (sa : Nat → Int32) (off : Int32) (car : Int32) (pa : Nat → Int32) (pq : Nat) (sp : Nat) (nu : Int32) (dn : Int32) (er : Int32) (ht : Int32) (ar : Int32)  : Met l yX8_offIn wsX8_offIn ({ frames := 2, cells := 0, slots := 0, locals := 45 }) (va_Pc [.ref (b 0), .int ht, .int ar] (zWP G Z sz (mk Z b (al, ke, hs, hq, sl, sa, off, car, pa, pq, sp, nu, dn, er)))) (va_Qi (fun (r : Int32) (u : Int32 × Int32) => r = mOffIn al ht ar) (fun (u : Int32 × Int32) t => zB G (va_A (mk Z b (al, ke, hs, hq, sl, sa, off, car, pa, pq, sp, nu, dn, er)) sz) (mk Z b (al, ke, hs, hq, sl, sa, u.1, u.2, pa, pq, sp, nu, dn, er)) t) (va_A (mk Z b (al, ke, hs, hq, sl, sa, off, car, pa, pq, sp, nu, dn, er)) sz)) 0 0 (va_A (mk Z b (al, ke, hs, hq, sl, sa, off, car, pa, pq, sp, nu, dn, er)) sz) := by
  refine Met.ofW (cc := cX8_offIn) (maxL := 4) (ret := (some .int)) (by decide) rfl ?_
  intro p e s m args below meth c s₁ B hml hv
  have hx := B.exec
  have hb := B.bytes
  have hr := B.returns
  have hts := atoms_spec (ws := wsX8_offIn) B.pre
  have hown : s.vm.findClass RX8 = some m.cls := findClass_of_methodNamed B.named
  have hlocks := B.notSynchronized
  obtain ⟨rfl, hsz, hP, hK, hD, hA, hS, hSW⟩ := zEnter hv
  subst hsz
  generalize va_A (mk Z b (al, ke, hs, hq, sl, sa, off, car, pa, pq, sp, nu, dn, er)) s.heap.size = A at hD hA hS hSW ⊢
  have k_7 := hts (.fieldLink RX8 7 "WarmRodsModel" "all" "[I") (List.mem_of_getElem? (i := 1) rfl)
  have iX8 : ∀ w ∈ u_ws RX8 TX8 14, w ∈ wsX8_offIn := fun _ h => List.mem_cons_of_mem _ (List.mem_append_right _ h)
  have k_51 := hts (.fieldLink RX8 51 "WarmRodsModel" "off" "I") (List.mem_of_getElem? (i := 2) rfl)
  have k_48 := hts (.fieldLink RX8 48 "WarmRodsModel" "carried" "I") (List.mem_of_getElem? (i := 3) rfl)
  have hP : va_P G vwCl (mk Z b (al, ke, hs, hq, sl, sa, off, car, pa, pq, sp, nu, dn, er)) s.heap := hP
  have hl := lv_entry ([.ref (b 0), .int ht, .int ar]) (n := 4) (Nat.le_of_ble_eq_true rfl)
  rw [lg_entry_eq]
  generalize (lg_sl ([.ref (b 0), .int ht, .int ar]) ++ List.replicate (4 - (lg_sl ([.ref (b 0), .int ht, .int ar])).length) Slot.unset).toArray = ls at hl ⊢
  have hl : lv_has ls 4 [(0, .ref (b 0)), (1, .int ht), (2, .int ar)] := hl
  refine lv_iload_n hx hb dX8_offIn_0 rfl (lv_at hl 1 rfl) ?_
  refine zCi (S := Unit) (ws1 := fun u => mk Z b (al, ke, hs, hq, sl, sa, off, car, pa, pq, sp, nu, dn, er)) (wr := mk Z b (al, ke, hs, hq, sl, sa, off, car, pa, pq, sp, nu, dn, er)) (va_runS (As := [.int ht]) (rest := []) ⟨hx, hb, hml, hown, hts⟩ (m_X8_isHeat l G Z _ ht) (va_cwS 1 hts gX8_offIn_X8_isHeat rfl rfl rfl (by decide +kernel) ⟨Nat.le_of_ble_eq_true rfl, Nat.le_of_ble_eq_true rfl⟩) (zPreS hK hP hD hS hA hSW [] rfl (by decide)) rfl rfl hl.1 rfl (lv_room (Nat.le_of_ble_eq_true rfl)) dX8_offIn_1 ⟨Nat.le_of_ble_eq_true rfl, Nat.le_of_ble_eq_true rfl⟩) hP hD hS hA [] [0, 1, 2, 3, 4, 5, 6] [0, 1, 2, 3, 4, 5, 6] rfl rfl (by decide) (by decide) (by decide) (fun _ => rfl) (fun r1 u H locs hw1 hP hD hS => ?_)
  try dsimp only at hw1
  subst hw1
  have hP : va_P G vwCl (mk Z b (al, ke, hs, hq, sl, sa, off, car, pa, pq, sp, nu, dn, er)) H := hP
  have hD : va_D A (mk Z b (al, ke, hs, hq, sl, sa, off, car, pa, pq, sp, nu, dn, er)) := hD
  refine lv_if_eq (tgt := 14) hx hb dX8_offIn_4 (by decide) (fun c4 => ?_) (fun c4 => ?_)
  · refine lv_bipush (v := (-2)) hx hb dX8_offIn_14 (by decide) ?_
    exact W.iret hx hb hr (zEi (off, car) (by
        simp only [mOffIn, eq_true c4, ↓reduceIte]) hP hD hS) hS.2.2 dX8_offIn_16
  · refine lv_iload_n hx hb dX8_offIn_7 rfl (lv_at hl 2 rfl) ?_
    refine zCi (S := Unit) (ws1 := fun u => mk Z b (al, ke, hs, hq, sl, sa, off, car, pa, pq, sp, nu, dn, er)) (wr := mk Z b (al, ke, hs, hq, sl, sa, off, car, pa, pq, sp, nu, dn, er)) (va_runS (As := [.int ar]) (rest := []) ⟨hx, hb, hml, hown, hts⟩ (m_X8_isAir l G Z _ ar) (va_cwS 1 hts gX8_offIn_X8_isAir rfl rfl rfl (by decide +kernel) ⟨Nat.le_of_ble_eq_true rfl, Nat.le_of_ble_eq_true rfl⟩) (zPreS hK hP hD hS hA hSW [] rfl (by decide)) rfl rfl hl.1 rfl (lv_room (Nat.le_of_ble_eq_true rfl)) dX8_offIn_8 ⟨Nat.le_of_ble_eq_true rfl, Nat.le_of_ble_eq_true rfl⟩) hP hD hS hA [] [0, 1, 2, 3, 4, 5, 6] [0, 1, 2, 3, 4, 5, 6] rfl rfl (by decide) (by decide) (by decide) (fun _ => rfl) (fun r8 u H locs hw8 hP hD hS => ?_)
    try dsimp only at hw8
    subst hw8
    have hP : va_P G vwCl (mk Z b (al, ke, hs, hq, sl, sa, off, car, pa, pq, sp, nu, dn, er)) H := hP
    have hD : va_D A (mk Z b (al, ke, hs, hq, sl, sa, off, car, pa, pq, sp, nu, dn, er)) := hD
    refine lv_if_ne (tgt := 17) hx hb dX8_offIn_11 (by decide) (fun c11 => ?_) (fun c11 => ?_)
    · refine lv_aload_n hx hb dX8_offIn_17 rfl (lv_at hl 0 rfl) ?_
      refine lv_aload_n hx hb dX8_offIn_18 rfl (lv_at hl 0 rfl) ?_
      refine va_get (D := G) (ci := 8) (v := .ref (b 1)) (C := RX8) (T := TX8) (N := 14) hx hb hts iX8 hown hK hP 0 rfl rfl 0 (by decide) k_7 (fun _ h9 => h9) rfl dX8_offIn_19 ?_
      refine lv_iconst (v := 5) hx hb dX8_offIn_22 (by decide) ?_
      refine zIald (f := al) hx hb hK hP 1 0 rfl rfl 5 (by decide) (by decide) (by decide) dX8_offIn_23 ?_
      refine va_put (D := G) (ci := 8) (v := .int (al 5)) (ty := .int) (C := RX8) (T := TX8) (N := 14) hx hb hts iX8 tyX8 tyX8_ok nmX8 hown hK hP hD hS 0 rfl rfl 6 (by decide) k_51 (fun _ h9 => h9) rfl (by decide +kernel) rfl rfl (Nat.le_of_ble_eq_true rfl) dX8_offIn_24 (fun H locs hP hD hS => ?_)
      have hP : va_P G vwCl (mk Z b (al, ke, hs, hq, sl, sa, (al 5), car, pa, pq, sp, nu, dn, er)) H := hP
      have hD : va_D A (mk Z b (al, ke, hs, hq, sl, sa, (al 5), car, pa, pq, sp, nu, dn, er)) := hD
      refine lv_aload_n hx hb dX8_offIn_27 rfl (lv_at hl 0 rfl) ?_
      refine lv_aload_n hx hb dX8_offIn_28 rfl (lv_at hl 0 rfl) ?_
      refine va_get (D := G) (ci := 8) (v := .ref (b 1)) (C := RX8) (T := TX8) (N := 14) hx hb hts iX8 hown hK hP 0 rfl rfl 0 (by decide) k_7 (fun _ h9 => h9) rfl dX8_offIn_29 ?_
      refine lv_bipush (v := 6) hx hb dX8_offIn_32 (by decide) ?_
      refine zIald (f := al) hx hb hK hP 1 0 rfl rfl 6 (by decide) (by decide) (by decide) dX8_offIn_34 ?_
      refine va_put (D := G) (ci := 8) (v := .int (al 6)) (ty := .int) (C := RX8) (T := TX8) (N := 14) hx hb hts iX8 tyX8 tyX8_ok nmX8 hown hK hP hD hS 0 rfl rfl 7 (by decide) k_48 (fun _ h9 => h9) rfl (by decide +kernel) rfl rfl (Nat.le_of_ble_eq_true rfl) dX8_offIn_35 (fun H locs hP hD hS => ?_)
      have hP : va_P G vwCl (mk Z b (al, ke, hs, hq, sl, sa, (al 5), (al 6), pa, pq, sp, nu, dn, er)) H := hP
      have hD : va_D A (mk Z b (al, ke, hs, hq, sl, sa, (al 5), (al 6), pa, pq, sp, nu, dn, er)) := hD
      refine lv_iconst (v := 0) hx hb dX8_offIn_38 (by decide) ?_
      refine lv_istore_n (lv' := [(3, .int 0), (0, .ref (b 0)), (1, .int ht), (2, .int ar)]) hx hb dX8_offIn_39 rfl hl (by decide) rfl (fun ls hl => ?_)
      refine zLoop (σ := Nat × Int32 × Int32 × Nat) (nL := 4) (fun zx => mk Z b (al, ke, hs, hq, sl, sa, zx.2.1, zx.2.2.1, pa, pq, sp, nu, dn, er)) (fun zx => [(3, .int (nI zx.2.2.2)), (0, .ref (b 0)), (1, .int ht), (2, .int ar)]) (fun zx => mOf (cBare al ht ar + al 7) (al 3) zx.1 zx.2.1 zx.2.2.1 zx.2.2.2 = mOf (cBare al ht ar + al 7) (al 3) 5001 (al 5) (al 6) 0 ∧ zx.1 + zx.2.2.2 = 5001) (fun zx => zx.1) ?_ (5001, (al 5), (al 6), 0) (by
          try dsimp only
          exact ⟨rfl, rfl⟩) hP hD hS (lv_sub hl [0, 1, 2, 3] rfl)
      intro zx hinv40 ih40 H locs ls hP hD hS hl
      obtain ⟨f, o, q, nn⟩ := zx
      try dsimp only at hinv40 ih40
      have hP : va_P G vwCl (mk Z b (al, ke, hs, hq, sl, sa, o, q, pa, pq, sp, nu, dn, er)) H := hP
      have hD : va_D A (mk Z b (al, ke, hs, hq, sl, sa, o, q, pa, pq, sp, nu, dn, er)) := hD
      have hl : lv_has ls 4 [(3, .int (nI nn)), (0, .ref (b 0)), (1, .int ht), (2, .int ar)] := hl
      refine lv_aload_n hx hb dX8_offIn_40 rfl (lv_at hl 1 rfl) ?_
      refine zCi (S := Unit) (ws1 := fun u => mk Z b (al, ke, hs, hq, sl, sa, o, q, pa, pq, sp, nu, dn, er)) (wr := []) (va_runV (As := []) (rest := []) ⟨hx, hb, hml, hown, hts⟩ (m_X8_isTooFar l G Z _ b al ke hs hq sl sa o q pa pq sp nu dn er) (cwV 0 hts gX8_offIn_X8_isTooFar rfl rfl rfl (by decide +kernel) ⟨Nat.le_of_ble_eq_true rfl, Nat.le_of_ble_eq_true rfl⟩) (zPreV hK hP hD hS hA hSW [0, 1, 2, 3, 4, 5, 6] rfl (by decide) 0 (ci := 8) rfl rfl rfl) rfl rfl hl.1 rfl (lv_room (Nat.le_of_ble_eq_true rfl)) dX8_offIn_41 ⟨Nat.le_of_ble_eq_true rfl, Nat.le_of_ble_eq_true rfl⟩) hP hD hS hA [0, 1, 2, 3, 4, 5, 6] [] [0, 1, 2, 3, 4, 5, 6] rfl rfl (by decide) (by decide) (by decide) (fun _ => rfl) (fun r41 u H locs hw41 hP hD hS => ?_)
      try dsimp only at hw41
      subst hw41
      have hP : va_P G vwCl (mk Z b (al, ke, hs, hq, sl, sa, o, q, pa, pq, sp, nu, dn, er)) H := hP
      have hD : va_D A (mk Z b (al, ke, hs, hq, sl, sa, o, q, pa, pq, sp, nu, dn, er)) := hD
      refine lv_if_ne (tgt := 70) hx hb dX8_offIn_44 (by decide) (fun c44 => ?_) (fun c44 => ?_)
      · refine lv_iload_n hx hb dX8_offIn_70 rfl (lv_at hl 0 rfl) ?_
        refine lv_sipush (v := 5000) hx hb dX8_offIn_71 (by decide) ?_
        refine lv_icmp_le (tgt := 82) hx hb dX8_offIn_74 (by decide) (fun c74 => ?_) (fun c74 => ?_)
        · refine lv_iload_n hx hb dX8_offIn_82 rfl (lv_at hl 0 rfl) ?_
          exact W.iret hx hb hr (zEi (o, q) (by
              have hn := zLe (a := nn) (b := 5000) c74 (by omega) (by omega)
              obtain ⟨f, rfl⟩ : ∃ j, f = j + 1 := ⟨f - 1, by omega⟩
              simp only [mOffIn, show ¬ zHeat ht = 0 from c4, show ¬ zAir ar = 0 from c11, ↓reduceIte]
              rw [← hinv40.1]
              rw [mOf, if_neg c44]) hP hD hS) hS.2.2 dX8_offIn_83
        · refine lv_bipush (v := (-6)) hx hb dX8_offIn_77 (by decide) ?_
          refine lv_goto (tgt := 83) hx hb dX8_offIn_79 (by decide) ?_
          exact W.iret hx hb hr (zEi (o, q) (by
              have hn := zNle (a := nn) (b := 5000) c74 (by omega) (by omega)
              simp only [mOffIn, show ¬ zHeat ht = 0 from c4, show ¬ zAir ar = 0 from c11, ↓reduceIte]
              rw [← hinv40.1]
              rw [show f = 0 by omega]
              rfl) hP hD hS) hS.2.2 dX8_offIn_83
      · refine lv_iload_n hx hb dX8_offIn_47 rfl (lv_at hl 0 rfl) ?_
        refine lv_sipush (v := 5000) hx hb dX8_offIn_48 (by decide) ?_
        refine lv_icmp_gt (tgt := 70) hx hb dX8_offIn_51 (by decide) (fun c51 => ?_) (fun c51 => ?_)
        · refine lv_iload_n hx hb dX8_offIn_70 rfl (lv_at hl 0 rfl) ?_
          refine lv_sipush (v := 5000) hx hb dX8_offIn_71 (by decide) ?_
          refine lv_icmp_le (tgt := 82) hx hb dX8_offIn_74 (by decide) (fun c74 => ?_) (fun c74 => ?_)
          · refine lv_iload_n hx hb dX8_offIn_82 rfl (lv_at hl 0 rfl) ?_
            exact W.iret hx hb hr (zEi (o, q) (by
                have hn := zLe (a := nn) (b := 5000) c74 (by omega) (by omega)
                have hn2 := zLt (a := 5000) (b := nn) c51 (by omega) (by omega)
                omega) hP hD hS) hS.2.2 dX8_offIn_83
          · refine lv_bipush (v := (-6)) hx hb dX8_offIn_77 (by decide) ?_
            refine lv_goto (tgt := 83) hx hb dX8_offIn_79 (by decide) ?_
            exact W.iret hx hb hr (zEi (o, q) (by
                have hn := zNle (a := nn) (b := 5000) c74 (by omega) (by omega)
                simp only [mOffIn, show ¬ zHeat ht = 0 from c4, show ¬ zAir ar = 0 from c11, ↓reduceIte]
                rw [← hinv40.1]
                rw [show f = 0 by omega]
                rfl) hP hD hS) hS.2.2 dX8_offIn_83
        · refine lv_aload_n hx hb dX8_offIn_54 rfl (lv_at hl 1 rfl) ?_
          refine lv_aload_n hx hb dX8_offIn_55 rfl (lv_at hl 1 rfl) ?_
          refine lv_iload_n hx hb dX8_offIn_56 rfl (lv_at hl 2 rfl) ?_
          refine lv_iload_n hx hb dX8_offIn_57 rfl (lv_at hl 3 rfl) ?_
          refine zCi (S := Unit) (ws1 := fun u => mk Z b (al, ke, hs, hq, sl, sa, o, q, pa, pq, sp, nu, dn, er)) (wr := []) (va_runV (As := [.int ht, .int ar]) (rest := [.ref (b 0)]) ⟨hx, hb, hml, hown, hts⟩ (m_X8_rateNow l G Z _ b al ke hs hq sl sa o q pa pq sp nu dn er ht ar) (cwV 2 hts gX8_offIn_X8_rateNow rfl rfl rfl (by decide +kernel) ⟨Nat.le_of_ble_eq_true rfl, Nat.le_of_ble_eq_true rfl⟩) (zPreV hK hP hD hS hA hSW [0, 1, 2, 3, 4, 5, 6] rfl (by decide) 0 (ci := 8) rfl rfl rfl) rfl rfl hl.1 rfl (lv_room (Nat.le_of_ble_eq_true rfl)) dX8_offIn_58 ⟨Nat.le_of_ble_eq_true rfl, Nat.le_of_ble_eq_true rfl⟩) hP hD hS hA [0, 1, 2, 3, 4, 5, 6] [] [0, 1, 2, 3, 4, 5, 6] rfl rfl (by decide) (by decide) (by decide) (fun _ => rfl) (fun r58 u H locs hw58 hP hD hS => ?_)
          try dsimp only at hw58
          subst hw58
          have hP : va_P G vwCl (mk Z b (al, ke, hs, hq, sl, sa, o, q, pa, pq, sp, nu, dn, er)) H := hP
          have hD : va_D A (mk Z b (al, ke, hs, hq, sl, sa, o, q, pa, pq, sp, nu, dn, er)) := hD
          refine zCv (S := Int32 × Int32) (ws1 := fun u => mk Z b (al, ke, hs, hq, sl, sa, u.1, u.2, pa, pq, sp, nu, dn, er)) (wr := []) (va_runV (As := [.int (cBare al ht ar + al 7)]) (rest := []) ⟨hx, hb, hml, hown, hts⟩ (m_X8_goes l G Z _ b al ke hs hq sl sa o q pa pq sp nu dn er (cBare al ht ar + al 7)) (cwV 1 hts gX8_offIn_X8_goes rfl rfl rfl (by decide +kernel) ⟨Nat.le_of_ble_eq_true rfl, Nat.le_of_ble_eq_true rfl⟩) (zPreV hK hP hD hS hA hSW [0, 1, 2, 3, 4, 5, 6] rfl (by decide) 0 (ci := 8) rfl rfl rfl) rfl rfl hl.1 rfl (lv_room (Nat.le_of_ble_eq_true rfl)) dX8_offIn_61 ⟨Nat.le_of_ble_eq_true rfl, Nat.le_of_ble_eq_true rfl⟩) hP hD hS hA [0, 1, 2, 3, 4, 5, 6] [] [0, 1, 2, 3, 4, 5, 6] rfl rfl (by decide) (by decide) (by decide) (fun _ => rfl) (fun u H locs hw61 hP hD hS => ?_)
          obtain ⟨o1_61, c1_61⟩ := u
          try dsimp only at hw61
          obtain ⟨rfl, rfl⟩ := hw61
          have hP : va_P G vwCl (mk Z b (al, ke, hs, hq, sl, sa, (dOff o q (cBare al ht ar + al 7)), (dCar q (cBare al ht ar + al 7)), pa, pq, sp, nu, dn, er)) H := hP
          have hD : va_D A (mk Z b (al, ke, hs, hq, sl, sa, (dOff o q (cBare al ht ar + al 7)), (dCar q (cBare al ht ar + al 7)), pa, pq, sp, nu, dn, er)) := hD
          refine lv_iinc (v := (nI (nn + 1))) (lv' := [(3, .int (nI (nn + 1))), (0, .ref (b 0)), (1, .int ht), (2, .int ar)]) hx hb dX8_offIn_64 hl (k := 0) rfl (nI_succ nn).symm (by decide) rfl (fun ls hl => ?_)
          refine lv_goto (tgt := 40) hx hb dX8_offIn_67 (by decide) ?_
          exact ih40 ((f - 1), (dOff o q (cBare al ht ar + al 7)), (dCar q (cBare al ht ar + al 7)), (nn + 1)) (by
              try dsimp only
              have hn := zNlt (b := nn) (a := 5000) c51 (by omega) (by omega)
              obtain ⟨f, rfl⟩ : ∃ j, f = j + 1 := ⟨f - 1, by omega⟩
              rw [mOf, if_pos c44] at hinv40
              exact ⟨hinv40.1, by omega⟩) (by
              try dsimp only
              have hn := zNlt (b := nn) (a := 5000) c51 (by omega) (by omega)
              omega) _ _ _ hP hD hS (lv_sub hl [0, 1, 2, 3] rfl)
    · refine lv_bipush (v := (-2)) hx hb dX8_offIn_14 (by decide) ?_
      exact W.iret hx hb hr (zEi (off, car) (by
          simp only [mOffIn, c4, eq_true c11, ↓reduceIte]) hP hD hS) hS.2.2 dX8_offIn_16

set_option maxHeartbeats 4000000 in
set_option maxRecDepth 100000 in
theorem m_X8_replay (l : Launch) (G : va_G) (Z : Nat → ClassId) (sz : Nat) (b : Nat → Nat) (al : Nat → Int32) (ke : Nat → Int32) (hs : Nat → Int32) (hq : Nat) (sl : Nat → Int32) (sa : Nat → Int32) (off : Int32) (car : Int32) (pa : Nat → Int32) (pq : Nat) (sp : Nat) (nu : Int32) (dn : Int32) (er : Int32) (L : Nat) (hL : al 9 = nI L) (hL8 : L ≤ 48) : Met l yX8_replay wsX8_replay ({ frames := 2, cells := 0, slots := 0, locals := 45 }) (va_Pc [.ref (b 0)] (zWP G Z sz (mk Z b (al, ke, hs, hq, sl, sa, off, car, pa, pq, sp, nu, dn, er)))) (va_Qi (fun (r : Int32) (u : Int32 × Int32) => r = (mRp al L (0, 0)).1 + 1000000000) (fun (u : Int32 × Int32) t => zB G (va_A (mk Z b (al, ke, hs, hq, sl, sa, off, car, pa, pq, sp, nu, dn, er)) sz) (mk Z b (al, ke, hs, hq, sl, sa, u.1, u.2, pa, pq, sp, nu, dn, er)) t) (va_A (mk Z b (al, ke, hs, hq, sl, sa, off, car, pa, pq, sp, nu, dn, er)) sz)) 0 0 (va_A (mk Z b (al, ke, hs, hq, sl, sa, off, car, pa, pq, sp, nu, dn, er)) sz) := by
  refine Met.ofW (cc := cX8_replay) (maxL := 2) (ret := (some .int)) (by decide) rfl ?_
  intro p e s m args below meth c s₁ B hml hv
  have hx := B.exec
  have hb := B.bytes
  have hr := B.returns
  have hts := atoms_spec (ws := wsX8_replay) B.pre
  have hown : s.vm.findClass RX8 = some m.cls := findClass_of_methodNamed B.named
  have hlocks := B.notSynchronized
  obtain ⟨rfl, hsz, hP, hK, hD, hA, hS, hSW⟩ := zEnter hv
  subst hsz
  generalize va_A (mk Z b (al, ke, hs, hq, sl, sa, off, car, pa, pq, sp, nu, dn, er)) s.heap.size = A at hD hA hS hSW ⊢
  have k_51 := hts (.fieldLink RX8 51 "WarmRodsModel" "off" "I") (List.mem_of_getElem? (i := 1) rfl)
  have iX8 : ∀ w ∈ u_ws RX8 TX8 14, w ∈ wsX8_replay := fun _ h => List.mem_cons_of_mem _ (List.mem_append_right _ h)
  have k_48 := hts (.fieldLink RX8 48 "WarmRodsModel" "carried" "I") (List.mem_of_getElem? (i := 2) rfl)
  have k_7 := hts (.fieldLink RX8 7 "WarmRodsModel" "all" "[I") (List.mem_of_getElem? (i := 3) rfl)
  have k_98 := hts (.constant RX8 98 (1000000000)) (List.mem_of_getElem? (i := 4) rfl)
  have hP : va_P G vwCl (mk Z b (al, ke, hs, hq, sl, sa, off, car, pa, pq, sp, nu, dn, er)) s.heap := hP
  have hl := lv_entry ([.ref (b 0)]) (n := 2) (Nat.le_of_ble_eq_true rfl)
  rw [lg_entry_eq]
  generalize (lg_sl ([.ref (b 0)]) ++ List.replicate (2 - (lg_sl ([.ref (b 0)])).length) Slot.unset).toArray = ls at hl ⊢
  have hl : lv_has ls 2 [(0, .ref (b 0))] := hl
  refine lv_aload_n hx hb dX8_replay_0 rfl (lv_at hl 0 rfl) ?_
  refine lv_iconst (v := 0) hx hb dX8_replay_1 (by decide) ?_
  refine va_put (D := G) (ci := 8) (v := .int 0) (ty := .int) (C := RX8) (T := TX8) (N := 14) hx hb hts iX8 tyX8 tyX8_ok nmX8 hown hK hP hD hS 0 rfl rfl 6 (by decide) k_51 (fun _ h9 => h9) rfl (by decide +kernel) rfl rfl (Nat.le_of_ble_eq_true rfl) dX8_replay_2 (fun H locs hP hD hS => ?_)
  have hP : va_P G vwCl (mk Z b (al, ke, hs, hq, sl, sa, 0, car, pa, pq, sp, nu, dn, er)) H := hP
  have hD : va_D A (mk Z b (al, ke, hs, hq, sl, sa, 0, car, pa, pq, sp, nu, dn, er)) := hD
  refine lv_aload_n hx hb dX8_replay_5 rfl (lv_at hl 0 rfl) ?_
  refine lv_iconst (v := 0) hx hb dX8_replay_6 (by decide) ?_
  refine va_put (D := G) (ci := 8) (v := .int 0) (ty := .int) (C := RX8) (T := TX8) (N := 14) hx hb hts iX8 tyX8 tyX8_ok nmX8 hown hK hP hD hS 0 rfl rfl 7 (by decide) k_48 (fun _ h9 => h9) rfl (by decide +kernel) rfl rfl (Nat.le_of_ble_eq_true rfl) dX8_replay_7 (fun H locs hP hD hS => ?_)
  have hP : va_P G vwCl (mk Z b (al, ke, hs, hq, sl, sa, 0, 0, pa, pq, sp, nu, dn, er)) H := hP
  have hD : va_D A (mk Z b (al, ke, hs, hq, sl, sa, 0, 0, pa, pq, sp, nu, dn, er)) := hD
  refine lv_aload_n hx hb dX8_replay_10 rfl (lv_at hl 0 rfl) ?_
  refine va_get (D := G) (ci := 8) (v := .ref (b 1)) (C := RX8) (T := TX8) (N := 14) hx hb hts iX8 hown hK hP 0 rfl rfl 0 (by decide) k_7 (fun _ h9 => h9) rfl dX8_replay_11 ?_
  refine lv_bipush (v := 9) hx hb dX8_replay_14 (by decide) ?_
  refine zIald (f := al) hx hb hK hP 1 0 rfl rfl 9 (by decide) (by decide) (by decide) dX8_replay_16 ?_
  refine lv_iconst (v := 1) hx hb dX8_replay_17 (by decide) ?_
  refine lv_isub hx hb dX8_replay_18 ?_
  refine lv_istore_n (lv' := [(1, .int ((al 9) - 1)), (0, .ref (b 0))]) hx hb dX8_replay_19 rfl hl (by decide) rfl (fun ls hl => ?_)
  rw [hL] at hl
  refine zLoop (σ := Nat × Int32 × Int32) (nL := 2) (fun zx => mk Z b (al, ke, hs, hq, sl, sa, zx.2.1, zx.2.2, pa, pq, sp, nu, dn, er)) (fun zx => [(1, .int ((nI zx.1) - 1)), (0, .ref (b 0))]) (fun zx => mRp al zx.1 (zx.2.1, zx.2.2) = mRp al L (0, 0) ∧ zx.1 ≤ L) (fun zx => zx.1) ?_ (L, 0, 0) (by
      try dsimp only
      exact ⟨rfl, Nat.le_refl _⟩) hP hD hS (lv_sub hl [0, 1] rfl)
  intro zx hinv20 ih20 H locs ls hP hD hS hl
  obtain ⟨k, o, q⟩ := zx
  try dsimp only at hinv20 ih20
  have hP : va_P G vwCl (mk Z b (al, ke, hs, hq, sl, sa, o, q, pa, pq, sp, nu, dn, er)) H := hP
  have hD : va_D A (mk Z b (al, ke, hs, hq, sl, sa, o, q, pa, pq, sp, nu, dn, er)) := hD
  have hl : lv_has ls 2 [(1, .int ((nI k) - 1)), (0, .ref (b 0))] := hl
  refine lv_iload_n hx hb dX8_replay_20 rfl (lv_at hl 0 rfl) ?_
  refine lv_if_lt (tgt := 50) hx hb dX8_replay_21 (by decide) (fun c21 => ?_) (fun c21 => ?_)
  · obtain rfl : k = 0 := by
      cases k with
      | zero => rfl
      | succ j => rw [nI_pred] at c21; exact absurd c21 (nI_pos (by omega))
    refine lv_aload_n hx hb dX8_replay_50 rfl (lv_at hl 1 rfl) ?_
    refine va_get (D := G) (ci := 8) (v := .int o) (C := RX8) (T := TX8) (N := 14) hx hb hts iX8 hown hK hP 0 rfl rfl 6 (by decide) k_51 (fun _ h9 => h9) rfl dX8_replay_51 ?_
    refine lv_ldc (v := 1000000000) hx hb hown k_98 dX8_replay_54 ?_
    refine lv_iadd hx hb dX8_replay_56 ?_
    exact W.iret hx hb hr (zEi (o, q) (by
        rw [← hinv20.1]
        rfl) hP hD hS) hS.2.2 dX8_replay_57
  · obtain ⟨k, rfl⟩ : ∃ j, k = j + 1 := by
      cases k with
      | zero => exact absurd (by decide) c21
      | succ j => exact ⟨j, rfl⟩
    rw [nI_pred] at hl
    rw [mRp] at hinv20
    refine lv_aload_n hx hb dX8_replay_24 rfl (lv_at hl 1 rfl) ?_
    refine lv_aload_n hx hb dX8_replay_25 rfl (lv_at hl 1 rfl) ?_
    refine lv_aload_n hx hb dX8_replay_26 rfl (lv_at hl 1 rfl) ?_
    refine lv_iload_n hx hb dX8_replay_27 rfl (lv_at hl 0 rfl) ?_
    refine lv_iconst (v := 0) hx hb dX8_replay_28 (by decide) ?_
    refine zCi (S := Unit) (ws1 := fun u => mk Z b (al, ke, hs, hq, sl, sa, o, q, pa, pq, sp, nu, dn, er)) (wr := []) (va_runV (As := [.int (nI k), .int 0]) (rest := [.ref (b 0), .ref (b 0)]) ⟨hx, hb, hml, hown, hts⟩ (m_X8_of l G Z _ b al ke hs hq sl sa o q pa pq sp nu dn er (nI k) 0 k 0 (by
        rfl) (by
        rfl) (by
        omega) (by
        decide)) (cwV 2 hts gX8_replay_X8_of rfl rfl rfl (by decide +kernel) ⟨Nat.le_of_ble_eq_true rfl, Nat.le_of_ble_eq_true rfl⟩) (zPreV hK hP hD hS hA hSW [0, 1, 2, 3, 4, 5, 6] rfl (by decide) 0 (ci := 8) rfl rfl rfl) rfl rfl hl.1 rfl (lv_room (Nat.le_of_ble_eq_true rfl)) dX8_replay_29 ⟨Nat.le_of_ble_eq_true rfl, Nat.le_of_ble_eq_true rfl⟩) hP hD hS hA [0, 1, 2, 3, 4, 5, 6] [] [0, 1, 2, 3, 4, 5, 6] rfl rfl (by decide) (by decide) (by decide) (fun _ => rfl) (fun r29 u H locs hw29 hP hD hS => ?_)
    try dsimp only at hw29
    subst hw29
    have hP : va_P G vwCl (mk Z b (al, ke, hs, hq, sl, sa, o, q, pa, pq, sp, nu, dn, er)) H := hP
    have hD : va_D A (mk Z b (al, ke, hs, hq, sl, sa, o, q, pa, pq, sp, nu, dn, er)) := hD
    refine lv_aload_n hx hb dX8_replay_32 rfl (lv_at hl 1 rfl) ?_
    refine lv_iload_n hx hb dX8_replay_33 rfl (lv_at hl 0 rfl) ?_
    refine lv_iconst (v := 1) hx hb dX8_replay_34 (by decide) ?_
    refine zCi (S := Unit) (ws1 := fun u => mk Z b (al, ke, hs, hq, sl, sa, o, q, pa, pq, sp, nu, dn, er)) (wr := []) (va_runV (As := [.int (nI k), .int 1]) (rest := [.int (al (11 + 7 * k + 0)), .ref (b 0), .ref (b 0)]) ⟨hx, hb, hml, hown, hts⟩ (m_X8_of l G Z _ b al ke hs hq sl sa o q pa pq sp nu dn er (nI k) 1 k 1 (by
        rfl) (by
        rfl) (by
        omega) (by
        decide)) (cwV 2 hts gX8_replay_X8_of rfl rfl rfl (by decide +kernel) ⟨Nat.le_of_ble_eq_true rfl, Nat.le_of_ble_eq_true rfl⟩) (zPreV hK hP hD hS hA hSW [0, 1, 2, 3, 4, 5, 6] rfl (by decide) 0 (ci := 8) rfl rfl rfl) rfl rfl hl.1 rfl (lv_room (Nat.le_of_ble_eq_true rfl)) dX8_replay_35 ⟨Nat.le_of_ble_eq_true rfl, Nat.le_of_ble_eq_true rfl⟩) hP hD hS hA [0, 1, 2, 3, 4, 5, 6] [] [0, 1, 2, 3, 4, 5, 6] rfl rfl (by decide) (by decide) (by decide) (fun _ => rfl) (fun r35 u H locs hw35 hP hD hS => ?_)
    try dsimp only at hw35
    subst hw35
    have hP : va_P G vwCl (mk Z b (al, ke, hs, hq, sl, sa, o, q, pa, pq, sp, nu, dn, er)) H := hP
    have hD : va_D A (mk Z b (al, ke, hs, hq, sl, sa, o, q, pa, pq, sp, nu, dn, er)) := hD
    refine zCi (S := Unit) (ws1 := fun u => mk Z b (al, ke, hs, hq, sl, sa, o, q, pa, pq, sp, nu, dn, er)) (wr := []) (va_runV (As := [.int (al (11 + 7 * k + 0)), .int (al (11 + 7 * k + 1))]) (rest := [.ref (b 0)]) ⟨hx, hb, hml, hown, hts⟩ (m_X8_rateNow l G Z _ b al ke hs hq sl sa o q pa pq sp nu dn er (al (11 + 7 * k + 0)) (al (11 + 7 * k + 1))) (cwV 2 hts gX8_replay_X8_rateNow rfl rfl rfl (by decide +kernel) ⟨Nat.le_of_ble_eq_true rfl, Nat.le_of_ble_eq_true rfl⟩) (zPreV hK hP hD hS hA hSW [0, 1, 2, 3, 4, 5, 6] rfl (by decide) 0 (ci := 8) rfl rfl rfl) rfl rfl hl.1 rfl (lv_room (Nat.le_of_ble_eq_true rfl)) dX8_replay_38 ⟨Nat.le_of_ble_eq_true rfl, Nat.le_of_ble_eq_true rfl⟩) hP hD hS hA [0, 1, 2, 3, 4, 5, 6] [] [0, 1, 2, 3, 4, 5, 6] rfl rfl (by decide) (by decide) (by decide) (fun _ => rfl) (fun r38 u H locs hw38 hP hD hS => ?_)
    try dsimp only at hw38
    subst hw38
    have hP : va_P G vwCl (mk Z b (al, ke, hs, hq, sl, sa, o, q, pa, pq, sp, nu, dn, er)) H := hP
    have hD : va_D A (mk Z b (al, ke, hs, hq, sl, sa, o, q, pa, pq, sp, nu, dn, er)) := hD
    refine zCv (S := Int32 × Int32) (ws1 := fun u => mk Z b (al, ke, hs, hq, sl, sa, u.1, u.2, pa, pq, sp, nu, dn, er)) (wr := []) (va_runV (As := [.int (cBare al (al (11 + 7 * k + 0)) (al (11 + 7 * k + 1)) + al 7)]) (rest := []) ⟨hx, hb, hml, hown, hts⟩ (m_X8_goes l G Z _ b al ke hs hq sl sa o q pa pq sp nu dn er (cBare al (al (11 + 7 * k + 0)) (al (11 + 7 * k + 1)) + al 7)) (cwV 1 hts gX8_replay_X8_goes rfl rfl rfl (by decide +kernel) ⟨Nat.le_of_ble_eq_true rfl, Nat.le_of_ble_eq_true rfl⟩) (zPreV hK hP hD hS hA hSW [0, 1, 2, 3, 4, 5, 6] rfl (by decide) 0 (ci := 8) rfl rfl rfl) rfl rfl hl.1 rfl (lv_room (Nat.le_of_ble_eq_true rfl)) dX8_replay_41 ⟨Nat.le_of_ble_eq_true rfl, Nat.le_of_ble_eq_true rfl⟩) hP hD hS hA [0, 1, 2, 3, 4, 5, 6] [] [0, 1, 2, 3, 4, 5, 6] rfl rfl (by decide) (by decide) (by decide) (fun _ => rfl) (fun u H locs hw41 hP hD hS => ?_)
    obtain ⟨o1_41, c1_41⟩ := u
    try dsimp only at hw41
    obtain ⟨rfl, rfl⟩ := hw41
    have hP : va_P G vwCl (mk Z b (al, ke, hs, hq, sl, sa, (dOff o q (cBare al (al (11 + 7 * k + 0)) (al (11 + 7 * k + 1)) + al 7)), (dCar q (cBare al (al (11 + 7 * k + 0)) (al (11 + 7 * k + 1)) + al 7)), pa, pq, sp, nu, dn, er)) H := hP
    have hD : va_D A (mk Z b (al, ke, hs, hq, sl, sa, (dOff o q (cBare al (al (11 + 7 * k + 0)) (al (11 + 7 * k + 1)) + al 7)), (dCar q (cBare al (al (11 + 7 * k + 0)) (al (11 + 7 * k + 1)) + al 7)), pa, pq, sp, nu, dn, er)) := hD
    refine lv_iinc (v := ((nI k) + (-1))) (lv' := [(1, .int ((nI k) + (-1))), (0, .ref (b 0))]) hx hb dX8_replay_44 hl (k := 0) rfl rfl (by decide) rfl (fun ls hl => ?_)
    refine lv_goto (tgt := 20) hx hb dX8_replay_47 (by decide) ?_
    rw [show nI k + (-1) = nI k - 1 from (Int32.sub_eq_add_neg _ _).symm] at hl
    exact ih20 (k, (dOff o q (cBare al (al (11 + 7 * k + 0)) (al (11 + 7 * k + 1)) + al 7)), (dCar q (cBare al (al (11 + 7 * k + 0)) (al (11 + 7 * k + 1)) + al 7))) (by
        try dsimp only
        exact ⟨hinv20.1, by omega⟩) (by
        try dsimp only
        omega) _ _ _ hP hD hS (lv_sub hl [0, 1] rfl)

set_option maxHeartbeats 4000000 in
set_option maxRecDepth 100000 in
theorem m_X8_coolest (l : Launch) (G : va_G) (Z : Nat → ClassId) (sz : Nat) (b : Nat → Nat) (al : Nat → Int32) (ke : Nat → Int32) (hs : Nat → Int32) (hq : Nat) (sl : Nat → Int32) (sa : Nat → Int32) (off : Int32) (car : Int32) (pa : Nat → Int32) (pq : Nat) (sp : Nat) (nu : Int32) (dn : Int32) (er : Int32) (ar : Int32)  : Met l yX8_coolest wsX8_coolest ({ frames := 2, cells := 0, slots := 0, locals := 45 }) (va_Pc [.ref (b 0), .int ar] (zWP G Z sz (mk Z b (al, ke, hs, hq, sl, sa, off, car, pa, pq, sp, nu, dn, er)))) (va_Qi (fun (r : Int32) (u : Unit) => r = mCool al ar) (fun (u : Unit) t => zB G (va_A (mk Z b (al, ke, hs, hq, sl, sa, off, car, pa, pq, sp, nu, dn, er)) sz) (mk Z b (al, ke, hs, hq, sl, sa, off, car, pa, pq, sp, nu, dn, er)) t) (va_A (mk Z b (al, ke, hs, hq, sl, sa, off, car, pa, pq, sp, nu, dn, er)) sz)) 0 0 (va_A (mk Z b (al, ke, hs, hq, sl, sa, off, car, pa, pq, sp, nu, dn, er)) sz) := by
  refine Met.ofW (cc := cX8_coolest) (maxL := 3) (ret := (some .int)) (by decide) rfl ?_
  intro p e s m args below meth c s₁ B hml hv
  have hx := B.exec
  have hb := B.bytes
  have hr := B.returns
  have hts := atoms_spec (ws := wsX8_coolest) B.pre
  have hown : s.vm.findClass RX8 = some m.cls := findClass_of_methodNamed B.named
  have hlocks := B.notSynchronized
  obtain ⟨rfl, hsz, hP, hK, hD, hA, hS, hSW⟩ := zEnter hv
  subst hsz
  generalize va_A (mk Z b (al, ke, hs, hq, sl, sa, off, car, pa, pq, sp, nu, dn, er)) s.heap.size = A at hD hA hS hSW ⊢
  have hP : va_P G vwCl (mk Z b (al, ke, hs, hq, sl, sa, off, car, pa, pq, sp, nu, dn, er)) s.heap := hP
  have hl := lv_entry ([.ref (b 0), .int ar]) (n := 3) (Nat.le_of_ble_eq_true rfl)
  rw [lg_entry_eq]
  generalize (lg_sl ([.ref (b 0), .int ar]) ++ List.replicate (3 - (lg_sl ([.ref (b 0), .int ar])).length) Slot.unset).toArray = ls at hl ⊢
  have hl : lv_has ls 3 [(0, .ref (b 0)), (1, .int ar)] := hl
  refine lv_iload_n hx hb dX8_coolest_0 rfl (lv_at hl 1 rfl) ?_
  refine zCi (S := Unit) (ws1 := fun u => mk Z b (al, ke, hs, hq, sl, sa, off, car, pa, pq, sp, nu, dn, er)) (wr := mk Z b (al, ke, hs, hq, sl, sa, off, car, pa, pq, sp, nu, dn, er)) (va_runS (As := [.int ar]) (rest := []) ⟨hx, hb, hml, hown, hts⟩ (m_X8_isAir l G Z _ ar) (va_cwS 1 hts gX8_coolest_X8_isAir rfl rfl rfl (by decide +kernel) ⟨Nat.le_of_ble_eq_true rfl, Nat.le_of_ble_eq_true rfl⟩) (zPreS hK hP hD hS hA hSW [] rfl (by decide)) rfl rfl hl.1 rfl (lv_room (Nat.le_of_ble_eq_true rfl)) dX8_coolest_1 ⟨Nat.le_of_ble_eq_true rfl, Nat.le_of_ble_eq_true rfl⟩) hP hD hS hA [] [0, 1, 2, 3, 4, 5, 6] [0, 1, 2, 3, 4, 5, 6] rfl rfl (by decide) (by decide) (by decide) (fun _ => rfl) (fun r1 u H locs hw1 hP hD hS => ?_)
  try dsimp only at hw1
  subst hw1
  have hP : va_P G vwCl (mk Z b (al, ke, hs, hq, sl, sa, off, car, pa, pq, sp, nu, dn, er)) H := hP
  have hD : va_D A (mk Z b (al, ke, hs, hq, sl, sa, off, car, pa, pq, sp, nu, dn, er)) := hD
  refine lv_if_ne (tgt := 10) hx hb dX8_coolest_4 (by decide) (fun c4 => ?_) (fun c4 => ?_)
  · refine lv_bipush (v := (-20)) hx hb dX8_coolest_10 (by decide) ?_
    refine lv_istore_n (lv' := [(2, .int (-20)), (0, .ref (b 0)), (1, .int ar)]) hx hb dX8_coolest_12 rfl hl (by decide) rfl (fun ls hl => ?_)
    refine zLoop (σ := Nat × Int32) (nL := 3) (fun zx => mk Z b (al, ke, hs, hq, sl, sa, off, car, pa, pq, sp, nu, dn, er)) (fun zx => [(2, .int zx.2), (0, .ref (b 0)), (1, .int ar)]) (fun zx => mCo (fun h => cBare al h ar + al 7) zx.1 zx.2 = mCo (fun h => cBare al h ar + al 7) 71 (-20) ∧ (zx.2).toInt + (zx.1 : Nat) = 51 ∧ zx.1 ≤ 71) (fun zx => zx.1) ?_ (71, (-20)) (by
        try dsimp only
        exact ⟨rfl, by decide, by decide⟩) hP hD hS (lv_sub hl [0, 1, 2] rfl)
    intro zx hinv13 ih13 H locs ls hP hD hS hl
    obtain ⟨f, h⟩ := zx
    try dsimp only at hinv13 ih13
    have hP : va_P G vwCl (mk Z b (al, ke, hs, hq, sl, sa, off, car, pa, pq, sp, nu, dn, er)) H := hP
    have hD : va_D A (mk Z b (al, ke, hs, hq, sl, sa, off, car, pa, pq, sp, nu, dn, er)) := hD
    have hl : lv_has ls 3 [(2, .int h), (0, .ref (b 0)), (1, .int ar)] := hl
    refine lv_iload_n hx hb dX8_coolest_13 rfl (lv_at hl 0 rfl) ?_
    refine lv_bipush (v := 50) hx hb dX8_coolest_14 (by decide) ?_
    refine lv_icmp_gt (tgt := 39) hx hb dX8_coolest_16 (by decide) (fun c16 => ?_) (fun c16 => ?_)
    · refine lv_bipush (v := (-6)) hx hb dX8_coolest_39 (by decide) ?_
      exact W.iret hx hb hr (zEi () (by
          rw [mCool, if_neg c4, ← hinv13.1, (zNot50 hinv13.2.1).mp c16]
          rfl) hP hD hS) hS.2.2 dX8_coolest_41
    · refine lv_aload_n hx hb dX8_coolest_19 rfl (lv_at hl 1 rfl) ?_
      refine lv_iload_n hx hb dX8_coolest_20 rfl (lv_at hl 0 rfl) ?_
      refine lv_iload_n hx hb dX8_coolest_21 rfl (lv_at hl 2 rfl) ?_
      refine zCi (S := Unit) (ws1 := fun u => mk Z b (al, ke, hs, hq, sl, sa, off, car, pa, pq, sp, nu, dn, er)) (wr := []) (va_runV (As := [.int h, .int ar]) (rest := []) ⟨hx, hb, hml, hown, hts⟩ (m_X8_rateNow l G Z _ b al ke hs hq sl sa off car pa pq sp nu dn er h ar) (cwV 2 hts gX8_coolest_X8_rateNow rfl rfl rfl (by decide +kernel) ⟨Nat.le_of_ble_eq_true rfl, Nat.le_of_ble_eq_true rfl⟩) (zPreV hK hP hD hS hA hSW [0, 1, 2, 3, 4, 5, 6] rfl (by decide) 0 (ci := 8) rfl rfl rfl) rfl rfl hl.1 rfl (lv_room (Nat.le_of_ble_eq_true rfl)) dX8_coolest_22 ⟨Nat.le_of_ble_eq_true rfl, Nat.le_of_ble_eq_true rfl⟩) hP hD hS hA [0, 1, 2, 3, 4, 5, 6] [] [0, 1, 2, 3, 4, 5, 6] rfl rfl (by decide) (by decide) (by decide) (fun _ => rfl) (fun r22 u H locs hw22 hP hD hS => ?_)
      try dsimp only at hw22
      subst hw22
      have hP : va_P G vwCl (mk Z b (al, ke, hs, hq, sl, sa, off, car, pa, pq, sp, nu, dn, er)) H := hP
      have hD : va_D A (mk Z b (al, ke, hs, hq, sl, sa, off, car, pa, pq, sp, nu, dn, er)) := hD
      refine lv_if_gt (tgt := 33) hx hb dX8_coolest_25 (by decide) (fun c25 => ?_) (fun c25 => ?_)
      · refine lv_iinc (v := (h + 1)) (lv' := [(2, .int (h + 1)), (0, .ref (b 0)), (1, .int ar)]) hx hb dX8_coolest_33 hl (k := 0) rfl rfl (by decide) rfl (fun ls hl => ?_)
        refine lv_goto (tgt := 13) hx hb dX8_coolest_36 (by decide) ?_
        exact ih13 ((f - 1), (h + 1)) (by
            try dsimp only
            obtain ⟨f, rfl⟩ : ∃ j, f = j + 1 := ⟨f - 1, by have := mt (zNot50 hinv13.2.1).mpr c16; omega⟩
            rw [mCo, if_neg (Int32.not_le.mpr c25)] at hinv13
            exact ⟨hinv13.1, zInc hinv13.2.1 (by omega), by omega⟩) (by
            try dsimp only
            have := mt (zNot50 hinv13.2.1).mpr c16
            omega) _ _ _ hP hD hS (lv_sub hl [0, 1, 2] rfl)
      · refine lv_iload_n hx hb dX8_coolest_28 rfl (lv_at hl 0 rfl) ?_
        refine lv_bipush (v := 100) hx hb dX8_coolest_29 (by decide) ?_
        refine lv_iadd hx hb dX8_coolest_31 ?_
        exact W.iret hx hb hr (zEi () (by
            obtain ⟨f, rfl⟩ : ∃ j, f = j + 1 := ⟨f - 1, by have := mt (zNot50 hinv13.2.1).mpr c16; omega⟩
            rw [mCool, if_neg c4, ← hinv13.1, mCo, if_pos (Int32.not_lt.mp c25)]) hP hD hS) hS.2.2 dX8_coolest_32
  · refine lv_bipush (v := (-2)) hx hb dX8_coolest_7 (by decide) ?_
    exact W.iret hx hb hr (zEi () (by
        rw [mCool, if_pos c4]) hP hD hS) hS.2.2 dX8_coolest_9

set_option maxHeartbeats 4000000 in
set_option maxRecDepth 100000 in
theorem m_X8_wipe (l : Launch) (G : va_G) (Z : Nat → ClassId) (sz : Nat) (b : Nat → Nat) (al : Nat → Int32) (ke : Nat → Int32) (hs : Nat → Int32) (hq : Nat) (sl : Nat → Int32) (sa : Nat → Int32) (off : Int32) (car : Int32) (pa : Nat → Int32) (pq : Nat) (sp : Nat) (nu : Int32) (dn : Int32) (er : Int32)  : Met l yX8_wipe wsX8_wipe ({ frames := 0, cells := 0, slots := 0, locals := 0 }) (va_Pc [.ref (b 0)] (zWP G Z sz (mk Z b (al, ke, hs, hq, sl, sa, off, car, pa, pq, sp, nu, dn, er)))) (va_Qi (fun (r : Int32) (u : Unit) => r = nI pq) (fun (u : Unit) t => zB G (va_A (mk Z b (al, ke, hs, hq, sl, sa, off, car, pa, pq, sp, nu, dn, er)) sz) (mk Z b (al, ke, hs, hq, sl, sa, off, car, pa, 0, sp, nu, dn, er)) t) (va_A (mk Z b (al, ke, hs, hq, sl, sa, off, car, pa, pq, sp, nu, dn, er)) sz)) 0 0 (va_A (mk Z b (al, ke, hs, hq, sl, sa, off, car, pa, pq, sp, nu, dn, er)) sz) := by
  refine Met.ofW (cc := cX8_wipe) (maxL := 2) (ret := (some .int)) (by decide) rfl ?_
  intro p e s m args below meth c s₁ B hml hv
  have hx := B.exec
  have hb := B.bytes
  have hr := B.returns
  have hts := atoms_spec (ws := wsX8_wipe) B.pre
  have hown : s.vm.findClass RX8 = some m.cls := findClass_of_methodNamed B.named
  have hlocks := B.notSynchronized
  obtain ⟨rfl, hsz, hP, hK, hD, hA, hS, hSW⟩ := zEnter hv
  subst hsz
  generalize va_A (mk Z b (al, ke, hs, hq, sl, sa, off, car, pa, pq, sp, nu, dn, er)) s.heap.size = A at hD hA hS hSW ⊢
  have k_125 := hts (.fieldLink RX8 125 "WarmRodsModel" "padLong" "I") (List.mem_of_getElem? (i := 1) rfl)
  have iX8 : ∀ w ∈ u_ws RX8 TX8 14, w ∈ wsX8_wipe := fun _ h => List.mem_cons_of_mem _ (List.mem_append_right _ h)
  have hP : va_P G vwCl (mk Z b (al, ke, hs, hq, sl, sa, off, car, pa, pq, sp, nu, dn, er)) s.heap := hP
  have hl := lv_entry ([.ref (b 0)]) (n := 2) (Nat.le_of_ble_eq_true rfl)
  rw [lg_entry_eq]
  generalize (lg_sl ([.ref (b 0)]) ++ List.replicate (2 - (lg_sl ([.ref (b 0)])).length) Slot.unset).toArray = ls at hl ⊢
  have hl : lv_has ls 2 [(0, .ref (b 0))] := hl
  refine lv_aload_n hx hb dX8_wipe_0 rfl (lv_at hl 0 rfl) ?_
  refine va_get (D := G) (ci := 8) (v := .int (nI pq)) (C := RX8) (T := TX8) (N := 14) hx hb hts iX8 hown hK hP 0 rfl rfl 9 (by decide) k_125 (fun _ h9 => h9) rfl dX8_wipe_1 ?_
  refine lv_istore_n (lv' := [(1, .int (nI pq)), (0, .ref (b 0))]) hx hb dX8_wipe_4 rfl hl (by decide) rfl (fun ls hl => ?_)
  refine lv_aload_n hx hb dX8_wipe_5 rfl (lv_at hl 1 rfl) ?_
  refine lv_iconst (v := 0) hx hb dX8_wipe_6 (by decide) ?_
  refine va_put (D := G) (ci := 8) (v := .int 0) (ty := .int) (C := RX8) (T := TX8) (N := 14) hx hb hts iX8 tyX8 tyX8_ok nmX8 hown hK hP hD hS 0 rfl rfl 9 (by decide) k_125 (fun _ h9 => h9) rfl (by decide +kernel) rfl rfl (Nat.le_of_ble_eq_true rfl) dX8_wipe_7 (fun H locs hP hD hS => ?_)
  have hP : va_P G vwCl (mk Z b (al, ke, hs, hq, sl, sa, off, car, pa, 0, sp, nu, dn, er)) H := hP
  have hD : va_D A (mk Z b (al, ke, hs, hq, sl, sa, off, car, pa, 0, sp, nu, dn, er)) := hD
  refine lv_iload_n hx hb dX8_wipe_10 rfl (lv_at hl 0 rfl) ?_
  exact W.iret hx hb hr (zEi () (by
      rfl) hP hD hS) hS.2.2 dX8_wipe_11

set_option maxHeartbeats 4000000 in
set_option maxRecDepth 100000 in
theorem m_Jxe99ae_isNaN_b9ae7 (l : Launch) (G : va_G) (Z : Nat → ClassId) (sz : Nat) (x : UInt64) (he : Op.cmpValue (FP.dcmp x x) .l = 0) : Met l yJxe99ae_isNaN_b9ae7 wsJxe99ae_isNaN_b9ae7 ({ frames := 0, cells := 0, slots := 0, locals := 0 }) (va_Pc [.double x] (zWP G Z sz ([]))) (va_Qi (fun (r : Int32) (u : Unit) => r = 0) (fun (u : Unit) t => zB G (va_A ([]) sz) ([]) t) (va_A ([]) sz)) 0 0 (va_A ([]) sz) := by
  refine Met.ofW (cc := cJxe99ae_isNaN_b9ae7) (maxL := 2) (ret := (some .boolean)) (by decide) rfl ?_
  intro p e s m args below meth c s₁ B hml hv
  have hx := B.exec
  have hb := B.bytes
  have hr := B.returns
  have hts := atoms_spec (ws := wsJxe99ae_isNaN_b9ae7) B.pre
  have hown : s.vm.findClass RJxe99ae = some m.cls := findClass_of_methodNamed B.named
  have hlocks := B.notSynchronized
  obtain ⟨rfl, hsz, hP, hK, hD, hA, hS, hSW⟩ := zEnter hv
  subst hsz
  generalize va_A ([]) s.heap.size = A at hD hA hS hSW ⊢
  have hP : va_P G vwCl ([]) s.heap := hP
  have hl := lv_entry ([.double x]) (n := 2) (Nat.le_of_ble_eq_true rfl)
  rw [lg_entry_eq]
  generalize (lg_sl ([.double x]) ++ List.replicate (2 - (lg_sl ([.double x])).length) Slot.unset).toArray = ls at hl ⊢
  have hl : lv_has ls 2 [(0, .double x)] := hl
  refine lv_dload_n hx hb dJxe99ae_isNaN_b9ae7_0 rfl (lv_at hl 0 rfl) ?_
  refine lv_dload_n hx hb dJxe99ae_isNaN_b9ae7_1 rfl (lv_at hl 0 rfl) ?_
  refine lv_dcmp hx hb dJxe99ae_isNaN_b9ae7_2 ?_
  refine lv_if_eq (tgt := 10) hx hb dJxe99ae_isNaN_b9ae7_3 (by decide) (fun c3 => ?_) (fun c3 => (c3 he).elim)
  refine lv_iconst (v := 0) hx hb dJxe99ae_isNaN_b9ae7_10 (by decide) ?_
  exact W.zret hx hb hr (rfl) (zEi () (by
      rfl) hP hD hS) hS.2.2 dJxe99ae_isNaN_b9ae7_11

set_option maxHeartbeats 4000000 in
set_option maxRecDepth 100000 in
theorem m_Jxe99ae_doubleToLongBits_ccdee (l : Launch) (G : va_G) (Z : Nat → ClassId) (sz : Nat) (x : UInt64) (he : Op.cmpValue (FP.dcmp x x) .l = 0) : Met l yJxe99ae_doubleToLongBits_ccdee wsJxe99ae_doubleToLongBits_ccdee ({ frames := 1, cells := 0, slots := 0, locals := 21 }) (va_Pc [.double x] (zWP G Z sz ([]))) (va_Ql (fun (r : Int64) (u : Unit) => r = x.toInt64) (fun (u : Unit) t => zB G (va_A ([]) sz) ([]) t) (va_A ([]) sz)) 0 0 (va_A ([]) sz) := by
  refine Met.ofW (cc := cJxe99ae_doubleToLongBits_ccdee) (maxL := 2) (ret := (some .long)) (by decide) rfl ?_
  intro p e s m args below meth c s₁ B hml hv
  have hx := B.exec
  have hb := B.bytes
  have hr := B.returns
  have hts := atoms_spec (ws := wsJxe99ae_doubleToLongBits_ccdee) B.pre
  have hown : s.vm.findClass RJxe99ae = some m.cls := findClass_of_methodNamed B.named
  have hlocks := B.notSynchronized
  obtain ⟨rfl, hsz, hP, hK, hD, hA, hS, hSW⟩ := zEnter hv
  subst hsz
  generalize va_A ([]) s.heap.size = A at hD hA hS hSW ⊢
  have k_134 := hts (.methodLink RJxe99ae 134 ⟨"java/lang/Double", "doubleToRawLongBits", "(D)J"⟩) (List.mem_of_getElem? (i := 1) rfl)
  have kdn := hts (.native ⟨"java/lang/Double", "doubleToRawLongBits", "(D)J"⟩) (List.mem_of_getElem? (i := 2) rfl)
  have kds := hts (.static ⟨"java/lang/Double", "doubleToRawLongBits", "(D)J"⟩) (List.mem_of_getElem? (i := 3) rfl)
  have kdi := hts (.initialized "java/lang/Double") (List.mem_of_getElem? (i := 4) rfl)
  have hP : va_P G vwCl ([]) s.heap := hP
  have hl := lv_entry ([.double x]) (n := 2) (Nat.le_of_ble_eq_true rfl)
  rw [lg_entry_eq]
  generalize (lg_sl ([.double x]) ++ List.replicate (2 - (lg_sl ([.double x])).length) Slot.unset).toArray = ls at hl ⊢
  have hl : lv_has ls 2 [(0, .double x)] := hl
  refine lv_dload_n hx hb dJxe99ae_doubleToLongBits_ccdee_0 rfl (lv_at hl 0 rfl) ?_
  refine zCi (S := Unit) (ws1 := fun u => []) (wr := []) (va_runS (As := [.double x]) (rest := []) ⟨hx, hb, hml, hown, hts⟩ (m_Jxe99ae_isNaN_b9ae7 l G Z _ x (by
      exact he)) (va_cwS 1 hts gJxe99ae_doubleToLongBits_ccdee_Jxe99ae_isNaN_b9ae7 rfl rfl rfl (by decide +kernel) ⟨Nat.le_of_ble_eq_true rfl, Nat.le_of_ble_eq_true rfl⟩) (zPreS hK hP hD hS hA hSW [] rfl (by decide)) rfl rfl hl.1 rfl (lv_room (Nat.le_of_ble_eq_true rfl)) dJxe99ae_doubleToLongBits_ccdee_1 ⟨Nat.le_of_ble_eq_true rfl, Nat.le_of_ble_eq_true rfl⟩) hP hD hS hA [] [] [] rfl rfl (by decide) (by decide) (by decide) (fun _ => rfl) (fun r1 u H locs hw1 hP hD hS => ?_)
  try dsimp only at hw1
  subst hw1
  have hP : va_P G vwCl ([]) H := hP
  have hD : va_D A ([]) := hD
  refine lv_if_ne (tgt := 12) hx hb dJxe99ae_doubleToLongBits_ccdee_4 (by decide) (fun c4 => absurd c4 (by decide)) (fun _ => ?_)
  refine lv_dload_n hx hb dJxe99ae_doubleToLongBits_ccdee_7 rfl (lv_at hl 0 rfl) ?_
  refine vn_d2l hx hb (hml.trans hl.1.symm) hown k_134 kdn kds kdi (Nat.le_of_ble_eq_true rfl) (Nat.le_of_ble_eq_true rfl) dJxe99ae_doubleToLongBits_ccdee_8 ?_
  exact W.lret hx hb hr (zEl () (by
      rfl) hP hD hS) hS.2.2 dJxe99ae_doubleToLongBits_ccdee_11
