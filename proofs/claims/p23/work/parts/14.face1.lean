set_option maxHeartbeats 4000000 in
set_option maxRecDepth 100000 in
theorem m_X7_set (l : Launch) (G : va_G) (Z : Nat → ClassId) (sz : Nat) (h : Nat) (a : Nat → Nat) (cd : Nat → Nat) (s1 : Nat) (s2 : Nat) (d : Nat → Nat) (g : Nat) (v : CV) (kp : Nat) (Y : HV) (k : Int32) (x : Int32) (hkp : kp ≤ 6) : Met l yX7_set wsX7_set ({ frames := 4, cells := 0, slots := 0, locals := 83 }) (va_Pc [.ref h, .int k, .int x] (zWP G Z sz ([(h, .inr (7, [.ref (a 0), .ref (cd 0), .ref s1, .ref s2, .ref (d 0), .ref g]))] ++ (ck Z a v ++ hk Z cd (kp, Y))))) (va_Qi (fun (r : Int32) (u : CV × Nat × HV) => r = (if cErrS k x = 0 then cSet v.1 k + 1000 else cErrS k x) ∧ u.1 = (if cErrS k x = 0 then (cChg v.1 k x, v.2) else v) ∧ u.2.1 = (if cErrS k x = 0 then hKp kp else kp) ∧ u.2.2 = (if cErrS k x = 0 then hRec Y v else Y)) (fun (u : CV × Nat × HV) t => zB G (va_A ([(h, .inr (7, [.ref (a 0), .ref (cd 0), .ref s1, .ref s2, .ref (d 0), .ref g]))] ++ (ck Z a v ++ hk Z cd (kp, Y))) sz) ([(h, .inr (7, [.ref (a 0), .ref (cd 0), .ref s1, .ref s2, .ref (d 0), .ref g]))] ++ (ck Z a u.1 ++ hk Z cd (u.2.1, u.2.2))) t) (va_A ([(h, .inr (7, [.ref (a 0), .ref (cd 0), .ref s1, .ref s2, .ref (d 0), .ref g]))] ++ (ck Z a v ++ hk Z cd (kp, Y))) sz)) 0 0 (va_A ([(h, .inr (7, [.ref (a 0), .ref (cd 0), .ref s1, .ref s2, .ref (d 0), .ref g]))] ++ (ck Z a v ++ hk Z cd (kp, Y))) sz) := by
  obtain ⟨st, off, car, fa, wr, tr, ho, ra, ti⟩ := v
  refine Met.ofW (cc := cX7_set) (maxL := 4) (ret := (some .int)) (by decide) rfl ?_
  intro p e s m args below meth c s₁ B hml hv
  have hx := B.exec
  have hb := B.bytes
  have hr := B.returns
  have hts := atoms_spec (ws := wsX7_set) B.pre
  have hown : s.vm.findClass RX7 = some m.cls := findClass_of_methodNamed B.named
  have hlocks := B.notSynchronized
  obtain ⟨rfl, hsz, hP, hK, hD, hA, hS, hSW⟩ := zEnter hv
  subst hsz
  generalize va_A ([(h, .inr (7, [.ref (a 0), .ref (cd 0), .ref s1, .ref s2, .ref (d 0), .ref g]))] ++ (ck Z a (st, off, car, fa, wr, tr, ho, ra, ti) ++ hk Z cd (kp, Y))) s.heap.size = A at hD hA hS hSW ⊢
  have k_10 := hts (.fieldLink RX7 10 "WarmRods" "clock" "LWarmRods$Clock;") (List.mem_of_getElem? (i := 1) rfl)
  have iX7 : ∀ w ∈ u_ws RX7 TX7 6, w ∈ wsX7_set := fun _ h => List.mem_cons_of_mem _ (List.mem_append_left _ (List.mem_append_left _ (List.mem_append_left _ (List.mem_append_left _ (List.mem_append_right _ h)))))
  have k_19 := hts (.fieldLink RX7 19 "WarmRods" "history" "LWarmRods$History;") (List.mem_of_getElem? (i := 2) rfl)
  have hP : va_P G vwCl ([(h, .inr (7, [.ref (a 0), .ref (cd 0), .ref s1, .ref s2, .ref (d 0), .ref g]))] ++ (ck Z a (st, off, car, fa, wr, tr, ho, ra, ti) ++ hk Z cd (kp, Y))) s.heap := hP
  have hl := lv_entry ([.ref h, .int k, .int x]) (n := 4) (Nat.le_of_ble_eq_true rfl)
  rw [lg_entry_eq]
  generalize (lg_sl ([.ref h, .int k, .int x]) ++ List.replicate (4 - (lg_sl ([.ref h, .int k, .int x])).length) Slot.unset).toArray = ls at hl ⊢
  have hl : lv_has ls 4 [(0, .ref h), (1, .int k), (2, .int x)] := hl
  refine lv_aload_n hx hb dX7_set_0 rfl (lv_at hl 0 rfl) ?_
  refine va_get (D := G) (ci := 7) (v := .ref (a 0)) (C := RX7) (T := TX7) (N := 6) hx hb hts iX7 hown hK hP 0 rfl rfl 0 (by decide) k_10 (fun _ h9 => h9) rfl dX7_set_1 ?_
  refine lv_iload_n hx hb dX7_set_4 rfl (lv_at hl 1 rfl) ?_
  refine lv_iload_n hx hb dX7_set_5 rfl (lv_at hl 2 rfl) ?_
  refine zCi (S := Unit) (ws1 := fun u => [(h, .inr (7, [.ref (a 0), .ref (cd 0), .ref s1, .ref s2, .ref (d 0), .ref g]))] ++ (ck Z a (st, off, car, fa, wr, tr, ho, ra, ti) ++ hk Z cd (kp, Y))) (wr := [(h, .inr (7, [.ref (a 0), .ref (cd 0), .ref s1, .ref s2, .ref (d 0), .ref g]))] ++ hk Z cd (kp, Y)) (va_runV (As := [.int k, .int x]) (rest := []) ⟨hx, hb, hml, hown, hts⟩ (m_X0_errorOfSetting l G Z _ a st off car fa wr tr ho ra ti k x) (cwV 2 hts gX7_set_X0_errorOfSetting rfl rfl rfl (by decide +kernel) ⟨Nat.le_of_ble_eq_true rfl, Nat.le_of_ble_eq_true rfl⟩) (zPreV hK hP hD hS hA hSW [1, 2, 3, 4, 5] rfl (by decide) 1 (ci := 0) rfl rfl rfl) rfl rfl hl.1 rfl (lv_room (Nat.le_of_ble_eq_true rfl)) dX7_set_6 ⟨Nat.le_of_ble_eq_true rfl, Nat.le_of_ble_eq_true rfl⟩) hP hD hS hA [1, 2, 3, 4, 5] [0, 6, 7, 8, 9, 10, 11, 12, 13, 14, 15, 16, 17, 18, 19, 20, 21, 22, 23, 24, 25, 26, 27, 28, 29, 30, 31, 32, 33, 34, 35, 36, 37] [0, 33, 34, 35, 36, 37, 1, 2, 3, 4, 5, 6, 7, 8, 9, 10, 11, 12, 13, 14, 15, 16, 17, 18, 19, 20, 21, 22, 23, 24, 25, 26, 27, 28, 29, 30, 31, 32] rfl rfl (by decide) (by decide) (by decide) (fun _ => rfl) (fun r6 u H locs hw6 hP hD hS => ?_)
  try dsimp only at hw6
  subst hw6
  have hP : va_P G vwCl ([(h, .inr (7, [.ref (a 0), .ref (cd 0), .ref s1, .ref s2, .ref (d 0), .ref g]))] ++ (ck Z a (st, off, car, fa, wr, tr, ho, ra, ti) ++ hk Z cd (kp, Y))) H := hP
  have hD : va_D A ([(h, .inr (7, [.ref (a 0), .ref (cd 0), .ref s1, .ref s2, .ref (d 0), .ref g]))] ++ (ck Z a (st, off, car, fa, wr, tr, ho, ra, ti) ++ hk Z cd (kp, Y))) := hD
  refine lv_istore_n (lv' := [(3, .int (cErrS k x)), (0, .ref h), (1, .int k), (2, .int x)]) hx hb dX7_set_9 rfl hl (by decide) rfl (fun ls hl => ?_)
  refine lv_iload_n hx hb dX7_set_10 rfl (lv_at hl 0 rfl) ?_
  refine lv_if_eq (tgt := 16) hx hb dX7_set_11 (by decide) (fun c11 => ?_) (fun c11 => ?_)
  · refine lv_aload_n hx hb dX7_set_16 rfl (lv_at hl 1 rfl) ?_
    refine va_get (D := G) (ci := 7) (v := .ref (cd 0)) (C := RX7) (T := TX7) (N := 6) hx hb hts iX7 hown hK hP 0 rfl rfl 1 (by decide) k_19 (fun _ h9 => h9) rfl dX7_set_17 ?_
    refine lv_aload_n hx hb dX7_set_20 rfl (lv_at hl 1 rfl) ?_
    refine va_get (D := G) (ci := 7) (v := .ref (a 0)) (C := RX7) (T := TX7) (N := 6) hx hb hts iX7 hown hK hP 0 rfl rfl 0 (by decide) k_10 (fun _ h9 => h9) rfl dX7_set_21 ?_
    refine zCv (S := Nat × HV) (ws1 := fun u => [(h, .inr (7, [.ref (a 0), .ref (cd 0), .ref s1, .ref s2, .ref (d 0), .ref g]))] ++ (ck Z a (st, off, car, fa, wr, tr, ho, ra, ti) ++ hk Z cd (u.1, u.2))) (wr := [(h, .inr (7, [.ref (a 0), .ref (cd 0), .ref s1, .ref s2, .ref (d 0), .ref g]))]) (va_runV (As := [.ref (a 0)]) (rest := []) ⟨hx, hb, hml, hown, hts⟩ (m_X2_record l G Z _ cd kp Y a (st, off, car, fa, wr, tr, ho, ra, ti) (by
        exact hkp)) (cwV 1 hts gX7_set_X2_record rfl rfl rfl (by decide +kernel) ⟨Nat.le_of_ble_eq_true rfl, Nat.le_of_ble_eq_true rfl⟩) (zPreV hK hP hD hS hA hSW [6, 7, 8, 9, 10, 11, 12, 13, 14, 15, 16, 17, 18, 19, 20, 21, 22, 23, 24, 25, 26, 27, 28, 29, 30, 31, 32, 33, 34, 35, 36, 37, 1, 2, 3, 4, 5] rfl (by decide) 6 (ci := 2) rfl rfl rfl) rfl rfl hl.1 rfl (lv_room (Nat.le_of_ble_eq_true rfl)) dX7_set_24 ⟨Nat.le_of_ble_eq_true rfl, Nat.le_of_ble_eq_true rfl⟩) hP hD hS hA [6, 7, 8, 9, 10, 11, 12, 13, 14, 15, 16, 17, 18, 19, 20, 21, 22, 23, 24, 25, 26, 27, 28, 29, 30, 31, 32, 33, 34, 35, 36, 37, 1, 2, 3, 4, 5] [0] [0, 33, 34, 35, 36, 37, 1, 2, 3, 4, 5, 6, 7, 8, 9, 10, 11, 12, 13, 14, 15, 16, 17, 18, 19, 20, 21, 22, 23, 24, 25, 26, 27, 28, 29, 30, 31, 32] rfl rfl (by decide) (by decide) (by decide) (fun _ => rfl) (fun u H locs hw24 hP hD hS => ?_)
    obtain ⟨kp1_24, H1_24⟩ := u
    try dsimp only at hw24
    obtain ⟨rfl, rfl⟩ := hw24
    have hP : va_P G vwCl ([(h, .inr (7, [.ref (a 0), .ref (cd 0), .ref s1, .ref s2, .ref (d 0), .ref g]))] ++ (ck Z a (st, off, car, fa, wr, tr, ho, ra, ti) ++ hk Z cd ((hKp kp), (hRec Y (st, off, car, fa, wr, tr, ho, ra, ti))))) H := hP
    have hD : va_D A ([(h, .inr (7, [.ref (a 0), .ref (cd 0), .ref s1, .ref s2, .ref (d 0), .ref g]))] ++ (ck Z a (st, off, car, fa, wr, tr, ho, ra, ti) ++ hk Z cd ((hKp kp), (hRec Y (st, off, car, fa, wr, tr, ho, ra, ti))))) := hD
    refine lv_aload_n hx hb dX7_set_27 rfl (lv_at hl 1 rfl) ?_
    refine va_get (D := G) (ci := 7) (v := .ref (a 0)) (C := RX7) (T := TX7) (N := 6) hx hb hts iX7 hown hK hP 0 rfl rfl 0 (by decide) k_10 (fun _ h9 => h9) rfl dX7_set_28 ?_
    refine lv_iload_n hx hb dX7_set_31 rfl (lv_at hl 2 rfl) ?_
    refine lv_iload_n hx hb dX7_set_32 rfl (lv_at hl 3 rfl) ?_
    refine zCi (S := (Nat → Int32)) (ws1 := fun u => [(h, .inr (7, [.ref (a 0), .ref (cd 0), .ref s1, .ref s2, .ref (d 0), .ref g]))] ++ (ck Z a (u, off, car, fa, wr, tr, ho, ra, ti) ++ hk Z cd ((hKp kp), (hRec Y (st, off, car, fa, wr, tr, ho, ra, ti))))) (wr := [(h, .inr (7, [.ref (a 0), .ref (cd 0), .ref s1, .ref s2, .ref (d 0), .ref g]))] ++ hk Z cd ((hKp kp), (hRec Y (st, off, car, fa, wr, tr, ho, ra, ti)))) (va_runV (As := [.int k, .int x]) (rest := []) ⟨hx, hb, hml, hown, hts⟩ (m_X0_changeSetting l G Z _ a st off car fa wr tr ho ra ti k x) (cwV 2 hts gX7_set_X0_changeSetting rfl rfl rfl (by decide +kernel) ⟨Nat.le_of_ble_eq_true rfl, Nat.le_of_ble_eq_true rfl⟩) (zPreV hK hP hD hS hA hSW [1, 2, 3, 4, 5] rfl (by decide) 1 (ci := 0) rfl rfl rfl) rfl rfl hl.1 rfl (lv_room (Nat.le_of_ble_eq_true rfl)) dX7_set_33 ⟨Nat.le_of_ble_eq_true rfl, Nat.le_of_ble_eq_true rfl⟩) hP hD hS hA [1, 2, 3, 4, 5] [0, 6, 7, 8, 9, 10, 11, 12, 13, 14, 15, 16, 17, 18, 19, 20, 21, 22, 23, 24, 25, 26, 27, 28, 29, 30, 31, 32, 33, 34, 35, 36, 37] [0, 33, 34, 35, 36, 37, 1, 2, 3, 4, 5, 6, 7, 8, 9, 10, 11, 12, 13, 14, 15, 16, 17, 18, 19, 20, 21, 22, 23, 24, 25, 26, 27, 28, 29, 30, 31, 32] rfl rfl (by decide) (by decide) (by decide) (fun _ => rfl) (fun r33 u H locs hw33 hP hD hS => ?_)
    obtain ⟨st1_33, rfl⟩ : ∃ z, z = u := ⟨_, rfl⟩
    try dsimp only at hw33
    obtain ⟨rfl, rfl⟩ := hw33
    have hP : va_P G vwCl ([(h, .inr (7, [.ref (a 0), .ref (cd 0), .ref s1, .ref s2, .ref (d 0), .ref g]))] ++ (ck Z a ((cChg st k x), off, car, fa, wr, tr, ho, ra, ti) ++ hk Z cd ((hKp kp), (hRec Y (st, off, car, fa, wr, tr, ho, ra, ti))))) H := hP
    have hD : va_D A ([(h, .inr (7, [.ref (a 0), .ref (cd 0), .ref s1, .ref s2, .ref (d 0), .ref g]))] ++ (ck Z a ((cChg st k x), off, car, fa, wr, tr, ho, ra, ti) ++ hk Z cd ((hKp kp), (hRec Y (st, off, car, fa, wr, tr, ho, ra, ti))))) := hD
    refine lv_sipush (v := 1000) hx hb dX7_set_36 (by decide) ?_
    refine lv_iadd hx hb dX7_set_39 ?_
    exact W.iret hx hb hr (zEi (((cChg st k x), off, car, fa, wr, tr, ho, ra, ti), (hKp kp), (hRec Y (st, off, car, fa, wr, tr, ho, ra, ti))) (by
        simp only [eq_true c11, ↓reduceIte, and_self]) hP hD hS) hS.2.2 dX7_set_40
  · refine lv_iload_n hx hb dX7_set_14 rfl (lv_at hl 0 rfl) ?_
    exact W.iret hx hb hr (zEi ((st, off, car, fa, wr, tr, ho, ra, ti), kp, Y) (by
        simp only [c11, ↓reduceIte, and_self]) hP hD hS) hS.2.2 dX7_set_15

set_option maxHeartbeats 4000000 in
set_option maxRecDepth 100000 in
theorem m_X7_weight (l : Launch) (G : va_G) (Z : Nat → ClassId) (sz : Nat) (h : Nat) (a : Nat → Nat) (cd : Nat → Nat) (s1 : Nat) (s2 : Nat) (d : Nat → Nat) (g : Nat) (v : CV) (kp : Nat) (Y : HV) (k : Int32) (hkp : kp ≤ 6) : Met l yX7_weight wsX7_weight ({ frames := 4, cells := 0, slots := 0, locals := 83 }) (va_Pc [.ref h, .int k] (zWP G Z sz ([(h, .inr (7, [.ref (a 0), .ref (cd 0), .ref s1, .ref s2, .ref (d 0), .ref g]))] ++ (ck Z a v ++ hk Z cd (kp, Y))))) (va_Qi (fun (r : Int32) (u : CV × Nat × HV) => r = (if cErrW k = 0 then cMvR (vTr v) k else cErrW k) ∧ u.1 = (if cErrW k = 0 then xTr v (cMvT (vTr v) k) else v) ∧ u.2.1 = (if cErrW k = 0 then hKp kp else kp) ∧ u.2.2 = (if cErrW k = 0 then hRec Y v else Y)) (fun (u : CV × Nat × HV) t => zB G (va_A ([(h, .inr (7, [.ref (a 0), .ref (cd 0), .ref s1, .ref s2, .ref (d 0), .ref g]))] ++ (ck Z a v ++ hk Z cd (kp, Y))) sz) ([(h, .inr (7, [.ref (a 0), .ref (cd 0), .ref s1, .ref s2, .ref (d 0), .ref g]))] ++ (ck Z a u.1 ++ hk Z cd (u.2.1, u.2.2))) t) (va_A ([(h, .inr (7, [.ref (a 0), .ref (cd 0), .ref s1, .ref s2, .ref (d 0), .ref g]))] ++ (ck Z a v ++ hk Z cd (kp, Y))) sz)) 0 0 (va_A ([(h, .inr (7, [.ref (a 0), .ref (cd 0), .ref s1, .ref s2, .ref (d 0), .ref g]))] ++ (ck Z a v ++ hk Z cd (kp, Y))) sz) := by
  obtain ⟨st, off, car, fa, wr, tr, ho, ra, ti⟩ := v
  refine Met.ofW (cc := cX7_weight) (maxL := 3) (ret := (some .int)) (by decide) rfl ?_
  intro p e s m args below meth c s₁ B hml hv
  have hx := B.exec
  have hb := B.bytes
  have hr := B.returns
  have hts := atoms_spec (ws := wsX7_weight) B.pre
  have hown : s.vm.findClass RX7 = some m.cls := findClass_of_methodNamed B.named
  have hlocks := B.notSynchronized
  obtain ⟨rfl, hsz, hP, hK, hD, hA, hS, hSW⟩ := zEnter hv
  subst hsz
  generalize va_A ([(h, .inr (7, [.ref (a 0), .ref (cd 0), .ref s1, .ref s2, .ref (d 0), .ref g]))] ++ (ck Z a (st, off, car, fa, wr, tr, ho, ra, ti) ++ hk Z cd (kp, Y))) s.heap.size = A at hD hA hS hSW ⊢
  have k_10 := hts (.fieldLink RX7 10 "WarmRods" "clock" "LWarmRods$Clock;") (List.mem_of_getElem? (i := 1) rfl)
  have iX7 : ∀ w ∈ u_ws RX7 TX7 6, w ∈ wsX7_weight := fun _ h => List.mem_cons_of_mem _ (List.mem_append_left _ (List.mem_append_left _ (List.mem_append_left _ (List.mem_append_left _ (List.mem_append_right _ h)))))
  have k_19 := hts (.fieldLink RX7 19 "WarmRods" "history" "LWarmRods$History;") (List.mem_of_getElem? (i := 2) rfl)
  have hP : va_P G vwCl ([(h, .inr (7, [.ref (a 0), .ref (cd 0), .ref s1, .ref s2, .ref (d 0), .ref g]))] ++ (ck Z a (st, off, car, fa, wr, tr, ho, ra, ti) ++ hk Z cd (kp, Y))) s.heap := hP
  have hl := lv_entry ([.ref h, .int k]) (n := 3) (Nat.le_of_ble_eq_true rfl)
  rw [lg_entry_eq]
  generalize (lg_sl ([.ref h, .int k]) ++ List.replicate (3 - (lg_sl ([.ref h, .int k])).length) Slot.unset).toArray = ls at hl ⊢
  have hl : lv_has ls 3 [(0, .ref h), (1, .int k)] := hl
  refine lv_aload_n hx hb dX7_weight_0 rfl (lv_at hl 0 rfl) ?_
  refine va_get (D := G) (ci := 7) (v := .ref (a 0)) (C := RX7) (T := TX7) (N := 6) hx hb hts iX7 hown hK hP 0 rfl rfl 0 (by decide) k_10 (fun _ h9 => h9) rfl dX7_weight_1 ?_
  refine lv_iload_n hx hb dX7_weight_4 rfl (lv_at hl 1 rfl) ?_
  refine zCi (S := Unit) (ws1 := fun u => [(h, .inr (7, [.ref (a 0), .ref (cd 0), .ref s1, .ref s2, .ref (d 0), .ref g]))] ++ (ck Z a (st, off, car, fa, wr, tr, ho, ra, ti) ++ hk Z cd (kp, Y))) (wr := [(h, .inr (7, [.ref (a 0), .ref (cd 0), .ref s1, .ref s2, .ref (d 0), .ref g]))] ++ hk Z cd (kp, Y)) (va_runV (As := [.int k]) (rest := []) ⟨hx, hb, hml, hown, hts⟩ (m_X0_errorOfWeight l G Z _ a st off car fa wr tr ho ra ti k) (cwV 1 hts gX7_weight_X0_errorOfWeight rfl rfl rfl (by decide +kernel) ⟨Nat.le_of_ble_eq_true rfl, Nat.le_of_ble_eq_true rfl⟩) (zPreV hK hP hD hS hA hSW [1, 2, 3, 4, 5] rfl (by decide) 1 (ci := 0) rfl rfl rfl) rfl rfl hl.1 rfl (lv_room (Nat.le_of_ble_eq_true rfl)) dX7_weight_5 ⟨Nat.le_of_ble_eq_true rfl, Nat.le_of_ble_eq_true rfl⟩) hP hD hS hA [1, 2, 3, 4, 5] [0, 6, 7, 8, 9, 10, 11, 12, 13, 14, 15, 16, 17, 18, 19, 20, 21, 22, 23, 24, 25, 26, 27, 28, 29, 30, 31, 32, 33, 34, 35, 36, 37] [0, 33, 34, 35, 36, 37, 1, 2, 3, 4, 5, 6, 7, 8, 9, 10, 11, 12, 13, 14, 15, 16, 17, 18, 19, 20, 21, 22, 23, 24, 25, 26, 27, 28, 29, 30, 31, 32] rfl rfl (by decide) (by decide) (by decide) (fun _ => rfl) (fun r5 u H locs hw5 hP hD hS => ?_)
  try dsimp only at hw5
  subst hw5
  have hP : va_P G vwCl ([(h, .inr (7, [.ref (a 0), .ref (cd 0), .ref s1, .ref s2, .ref (d 0), .ref g]))] ++ (ck Z a (st, off, car, fa, wr, tr, ho, ra, ti) ++ hk Z cd (kp, Y))) H := hP
  have hD : va_D A ([(h, .inr (7, [.ref (a 0), .ref (cd 0), .ref s1, .ref s2, .ref (d 0), .ref g]))] ++ (ck Z a (st, off, car, fa, wr, tr, ho, ra, ti) ++ hk Z cd (kp, Y))) := hD
  refine lv_istore_n (lv' := [(2, .int (cErrW k)), (0, .ref h), (1, .int k)]) hx hb dX7_weight_8 rfl hl (by decide) rfl (fun ls hl => ?_)
  refine lv_iload_n hx hb dX7_weight_9 rfl (lv_at hl 0 rfl) ?_
  refine lv_if_eq (tgt := 15) hx hb dX7_weight_10 (by decide) (fun c10 => ?_) (fun c10 => ?_)
  · refine lv_aload_n hx hb dX7_weight_15 rfl (lv_at hl 1 rfl) ?_
    refine va_get (D := G) (ci := 7) (v := .ref (cd 0)) (C := RX7) (T := TX7) (N := 6) hx hb hts iX7 hown hK hP 0 rfl rfl 1 (by decide) k_19 (fun _ h9 => h9) rfl dX7_weight_16 ?_
    refine lv_aload_n hx hb dX7_weight_19 rfl (lv_at hl 1 rfl) ?_
    refine va_get (D := G) (ci := 7) (v := .ref (a 0)) (C := RX7) (T := TX7) (N := 6) hx hb hts iX7 hown hK hP 0 rfl rfl 0 (by decide) k_10 (fun _ h9 => h9) rfl dX7_weight_20 ?_
    refine zCv (S := Nat × HV) (ws1 := fun u => [(h, .inr (7, [.ref (a 0), .ref (cd 0), .ref s1, .ref s2, .ref (d 0), .ref g]))] ++ (ck Z a (st, off, car, fa, wr, tr, ho, ra, ti) ++ hk Z cd (u.1, u.2))) (wr := [(h, .inr (7, [.ref (a 0), .ref (cd 0), .ref s1, .ref s2, .ref (d 0), .ref g]))]) (va_runV (As := [.ref (a 0)]) (rest := []) ⟨hx, hb, hml, hown, hts⟩ (m_X2_record l G Z _ cd kp Y a (st, off, car, fa, wr, tr, ho, ra, ti) (by
        exact hkp)) (cwV 1 hts gX7_weight_X2_record rfl rfl rfl (by decide +kernel) ⟨Nat.le_of_ble_eq_true rfl, Nat.le_of_ble_eq_true rfl⟩) (zPreV hK hP hD hS hA hSW [6, 7, 8, 9, 10, 11, 12, 13, 14, 15, 16, 17, 18, 19, 20, 21, 22, 23, 24, 25, 26, 27, 28, 29, 30, 31, 32, 33, 34, 35, 36, 37, 1, 2, 3, 4, 5] rfl (by decide) 6 (ci := 2) rfl rfl rfl) rfl rfl hl.1 rfl (lv_room (Nat.le_of_ble_eq_true rfl)) dX7_weight_23 ⟨Nat.le_of_ble_eq_true rfl, Nat.le_of_ble_eq_true rfl⟩) hP hD hS hA [6, 7, 8, 9, 10, 11, 12, 13, 14, 15, 16, 17, 18, 19, 20, 21, 22, 23, 24, 25, 26, 27, 28, 29, 30, 31, 32, 33, 34, 35, 36, 37, 1, 2, 3, 4, 5] [0] [0, 33, 34, 35, 36, 37, 1, 2, 3, 4, 5, 6, 7, 8, 9, 10, 11, 12, 13, 14, 15, 16, 17, 18, 19, 20, 21, 22, 23, 24, 25, 26, 27, 28, 29, 30, 31, 32] rfl rfl (by decide) (by decide) (by decide) (fun _ => rfl) (fun u H locs hw23 hP hD hS => ?_)
    obtain ⟨kp1_23, H1_23⟩ := u
    try dsimp only at hw23
    obtain ⟨rfl, rfl⟩ := hw23
    have hP : va_P G vwCl ([(h, .inr (7, [.ref (a 0), .ref (cd 0), .ref s1, .ref s2, .ref (d 0), .ref g]))] ++ (ck Z a (st, off, car, fa, wr, tr, ho, ra, ti) ++ hk Z cd ((hKp kp), (hRec Y (st, off, car, fa, wr, tr, ho, ra, ti))))) H := hP
    have hD : va_D A ([(h, .inr (7, [.ref (a 0), .ref (cd 0), .ref s1, .ref s2, .ref (d 0), .ref g]))] ++ (ck Z a (st, off, car, fa, wr, tr, ho, ra, ti) ++ hk Z cd ((hKp kp), (hRec Y (st, off, car, fa, wr, tr, ho, ra, ti))))) := hD
    refine lv_aload_n hx hb dX7_weight_26 rfl (lv_at hl 1 rfl) ?_
    refine va_get (D := G) (ci := 7) (v := .ref (a 0)) (C := RX7) (T := TX7) (N := 6) hx hb hts iX7 hown hK hP 0 rfl rfl 0 (by decide) k_10 (fun _ h9 => h9) rfl dX7_weight_27 ?_
    refine lv_iload_n hx hb dX7_weight_30 rfl (lv_at hl 2 rfl) ?_
    refine zCi (S := Unit) (ws1 := fun u => [(h, .inr (7, [.ref (a 0), .ref (cd 0), .ref s1, .ref s2, .ref (d 0), .ref g]))] ++ (ck Z a (st, off, car, fa, wr, (cMvT tr k), ho, ra, ti) ++ hk Z cd ((hKp kp), (hRec Y (st, off, car, fa, wr, tr, ho, ra, ti))))) (wr := [(h, .inr (7, [.ref (a 0), .ref (cd 0), .ref s1, .ref s2, .ref (d 0), .ref g]))] ++ hk Z cd ((hKp kp), (hRec Y (st, off, car, fa, wr, tr, ho, ra, ti)))) (va_runV (As := [.int k]) (rest := []) ⟨hx, hb, hml, hown, hts⟩ (m_X0_moveWeight l G Z _ a st off car fa wr tr ho ra ti k) (cwV 1 hts gX7_weight_X0_moveWeight rfl rfl rfl (by decide +kernel) ⟨Nat.le_of_ble_eq_true rfl, Nat.le_of_ble_eq_true rfl⟩) (zPreV hK hP hD hS hA hSW [1, 2, 3, 4, 5] rfl (by decide) 1 (ci := 0) rfl rfl rfl) rfl rfl hl.1 rfl (lv_room (Nat.le_of_ble_eq_true rfl)) dX7_weight_31 ⟨Nat.le_of_ble_eq_true rfl, Nat.le_of_ble_eq_true rfl⟩) hP hD hS hA [1, 2, 3, 4, 5] [0, 6, 7, 8, 9, 10, 11, 12, 13, 14, 15, 16, 17, 18, 19, 20, 21, 22, 23, 24, 25, 26, 27, 28, 29, 30, 31, 32, 33, 34, 35, 36, 37] [0, 33, 34, 35, 36, 37, 1, 2, 3, 4, 5, 6, 7, 8, 9, 10, 11, 12, 13, 14, 15, 16, 17, 18, 19, 20, 21, 22, 23, 24, 25, 26, 27, 28, 29, 30, 31, 32] rfl rfl (by decide) (by decide) (by decide) (fun _ => rfl) (fun r31 u H locs hw31 hP hD hS => ?_)
    try dsimp only at hw31
    subst hw31
    have hP : va_P G vwCl ([(h, .inr (7, [.ref (a 0), .ref (cd 0), .ref s1, .ref s2, .ref (d 0), .ref g]))] ++ (ck Z a (st, off, car, fa, wr, (cMvT tr k), ho, ra, ti) ++ hk Z cd ((hKp kp), (hRec Y (st, off, car, fa, wr, tr, ho, ra, ti))))) H := hP
    have hD : va_D A ([(h, .inr (7, [.ref (a 0), .ref (cd 0), .ref s1, .ref s2, .ref (d 0), .ref g]))] ++ (ck Z a (st, off, car, fa, wr, (cMvT tr k), ho, ra, ti) ++ hk Z cd ((hKp kp), (hRec Y (st, off, car, fa, wr, tr, ho, ra, ti))))) := hD
    exact W.iret hx hb hr (zEi ((st, off, car, fa, wr, (cMvT tr k), ho, ra, ti), (hKp kp), (hRec Y (st, off, car, fa, wr, tr, ho, ra, ti))) (by
        simp only [eq_true c10, ↓reduceIte, and_self]) hP hD hS) hS.2.2 dX7_weight_34
  · refine lv_iload_n hx hb dX7_weight_13 rfl (lv_at hl 0 rfl) ?_
    exact W.iret hx hb hr (zEi ((st, off, car, fa, wr, tr, ho, ra, ti), kp, Y) (by
        simp only [c10, ↓reduceIte, and_self]) hP hD hS) hS.2.2 dX7_weight_14

set_option maxHeartbeats 4000000 in
set_option maxRecDepth 100000 in
theorem m_X7_pass (l : Launch) (G : va_G) (Z : Nat → ClassId) (sz : Nat) (h : Nat) (a : Nat → Nat) (cd : Nat → Nat) (s1 : Nat) (s2 : Nat) (d : Nat → Nat) (g : Nat) (v : CV) (kp : Nat) (Y : HV) (ht : Int32) (ar : Int32) (rd : Int32) (mo : Int32) (hkp : kp ≤ 6) : Met l yX7_pass wsX7_pass ({ frames := 5, cells := 0, slots := 0, locals := 116 }) (va_Pc [.ref h, .int ht, .int ar, .int rd, .int mo] (zWP G Z sz ([(h, .inr (7, [.ref (a 0), .ref (cd 0), .ref s1, .ref s2, .ref (d 0), .ref g]))] ++ (ck Z a v ++ hk Z cd (kp, Y))))) (va_Qi (fun (r : Int32) (u : CV × Nat × HV) => r = (if cErrH (vHo v) ht ar rd mo = 0 then vTi (cGoN v ht ar rd mo.toNatClampNeg) - vTi v else cErrH (vHo v) ht ar rd mo) ∧ u.1 = (if cErrH (vHo v) ht ar rd mo = 0 then cGoN v ht ar rd mo.toNatClampNeg else v) ∧ u.2.1 = (if cErrH (vHo v) ht ar rd mo = 0 then hKp kp else kp) ∧ u.2.2 = (if cErrH (vHo v) ht ar rd mo = 0 then hRec Y v else Y)) (fun (u : CV × Nat × HV) t => zB G (va_A ([(h, .inr (7, [.ref (a 0), .ref (cd 0), .ref s1, .ref s2, .ref (d 0), .ref g]))] ++ (ck Z a v ++ hk Z cd (kp, Y))) sz) ([(h, .inr (7, [.ref (a 0), .ref (cd 0), .ref s1, .ref s2, .ref (d 0), .ref g]))] ++ (ck Z a u.1 ++ hk Z cd (u.2.1, u.2.2))) t) (va_A ([(h, .inr (7, [.ref (a 0), .ref (cd 0), .ref s1, .ref s2, .ref (d 0), .ref g]))] ++ (ck Z a v ++ hk Z cd (kp, Y))) sz)) 0 0 (va_A ([(h, .inr (7, [.ref (a 0), .ref (cd 0), .ref s1, .ref s2, .ref (d 0), .ref g]))] ++ (ck Z a v ++ hk Z cd (kp, Y))) sz) := by
  obtain ⟨st, off, car, fa, wr, tr, ho, ra, ti⟩ := v
  refine Met.ofW (cc := cX7_pass) (maxL := 6) (ret := (some .int)) (by decide) rfl ?_
  intro p e s m args below meth c s₁ B hml hv
  have hx := B.exec
  have hb := B.bytes
  have hr := B.returns
  have hts := atoms_spec (ws := wsX7_pass) B.pre
  have hown : s.vm.findClass RX7 = some m.cls := findClass_of_methodNamed B.named
  have hlocks := B.notSynchronized
  obtain ⟨rfl, hsz, hP, hK, hD, hA, hS, hSW⟩ := zEnter hv
  subst hsz
  generalize va_A ([(h, .inr (7, [.ref (a 0), .ref (cd 0), .ref s1, .ref s2, .ref (d 0), .ref g]))] ++ (ck Z a (st, off, car, fa, wr, tr, ho, ra, ti) ++ hk Z cd (kp, Y))) s.heap.size = A at hD hA hS hSW ⊢
  have k_10 := hts (.fieldLink RX7 10 "WarmRods" "clock" "LWarmRods$Clock;") (List.mem_of_getElem? (i := 1) rfl)
  have iX7 : ∀ w ∈ u_ws RX7 TX7 6, w ∈ wsX7_pass := fun _ h => List.mem_cons_of_mem _ (List.mem_append_left _ (List.mem_append_left _ (List.mem_append_left _ (List.mem_append_left _ (List.mem_append_right _ h)))))
  have k_19 := hts (.fieldLink RX7 19 "WarmRods" "history" "LWarmRods$History;") (List.mem_of_getElem? (i := 2) rfl)
  have hP : va_P G vwCl ([(h, .inr (7, [.ref (a 0), .ref (cd 0), .ref s1, .ref s2, .ref (d 0), .ref g]))] ++ (ck Z a (st, off, car, fa, wr, tr, ho, ra, ti) ++ hk Z cd (kp, Y))) s.heap := hP
  have hl := lv_entry ([.ref h, .int ht, .int ar, .int rd, .int mo]) (n := 6) (Nat.le_of_ble_eq_true rfl)
  rw [lg_entry_eq]
  generalize (lg_sl ([.ref h, .int ht, .int ar, .int rd, .int mo]) ++ List.replicate (6 - (lg_sl ([.ref h, .int ht, .int ar, .int rd, .int mo])).length) Slot.unset).toArray = ls at hl ⊢
  have hl : lv_has ls 6 [(0, .ref h), (1, .int ht), (2, .int ar), (3, .int rd), (4, .int mo)] := hl
  refine lv_aload_n hx hb dX7_pass_0 rfl (lv_at hl 0 rfl) ?_
  refine va_get (D := G) (ci := 7) (v := .ref (a 0)) (C := RX7) (T := TX7) (N := 6) hx hb hts iX7 hown hK hP 0 rfl rfl 0 (by decide) k_10 (fun _ h9 => h9) rfl dX7_pass_1 ?_
  refine lv_iload_n hx hb dX7_pass_4 rfl (lv_at hl 1 rfl) ?_
  refine lv_iload_n hx hb dX7_pass_5 rfl (lv_at hl 2 rfl) ?_
  refine lv_iload_n hx hb dX7_pass_6 rfl (lv_at hl 3 rfl) ?_
  refine lv_iload hx hb dX7_pass_7 (lv_at hl 4 rfl) ?_
  refine zCi (S := Unit) (ws1 := fun u => [(h, .inr (7, [.ref (a 0), .ref (cd 0), .ref s1, .ref s2, .ref (d 0), .ref g]))] ++ (ck Z a (st, off, car, fa, wr, tr, ho, ra, ti) ++ hk Z cd (kp, Y))) (wr := [(h, .inr (7, [.ref (a 0), .ref (cd 0), .ref s1, .ref s2, .ref (d 0), .ref g]))] ++ hk Z cd (kp, Y)) (va_runV (As := [.int ht, .int ar, .int rd, .int mo]) (rest := []) ⟨hx, hb, hml, hown, hts⟩ (m_X0_errorOfHours l G Z _ a st off car fa wr tr ho ra ti ht ar rd mo) (cwV 4 hts gX7_pass_X0_errorOfHours rfl rfl rfl (by decide +kernel) ⟨Nat.le_of_ble_eq_true rfl, Nat.le_of_ble_eq_true rfl⟩) (zPreV hK hP hD hS hA hSW [1, 2, 3, 4, 5] rfl (by decide) 1 (ci := 0) rfl rfl rfl) rfl rfl hl.1 rfl (lv_room (Nat.le_of_ble_eq_true rfl)) dX7_pass_9 ⟨Nat.le_of_ble_eq_true rfl, Nat.le_of_ble_eq_true rfl⟩) hP hD hS hA [1, 2, 3, 4, 5] [0, 6, 7, 8, 9, 10, 11, 12, 13, 14, 15, 16, 17, 18, 19, 20, 21, 22, 23, 24, 25, 26, 27, 28, 29, 30, 31, 32, 33, 34, 35, 36, 37] [0, 33, 34, 35, 36, 37, 1, 2, 3, 4, 5, 6, 7, 8, 9, 10, 11, 12, 13, 14, 15, 16, 17, 18, 19, 20, 21, 22, 23, 24, 25, 26, 27, 28, 29, 30, 31, 32] rfl rfl (by decide) (by decide) (by decide) (fun _ => rfl) (fun r9 u H locs hw9 hP hD hS => ?_)
  try dsimp only at hw9
  subst hw9
  have hP : va_P G vwCl ([(h, .inr (7, [.ref (a 0), .ref (cd 0), .ref s1, .ref s2, .ref (d 0), .ref g]))] ++ (ck Z a (st, off, car, fa, wr, tr, ho, ra, ti) ++ hk Z cd (kp, Y))) H := hP
  have hD : va_D A ([(h, .inr (7, [.ref (a 0), .ref (cd 0), .ref s1, .ref s2, .ref (d 0), .ref g]))] ++ (ck Z a (st, off, car, fa, wr, tr, ho, ra, ti) ++ hk Z cd (kp, Y))) := hD
  refine lv_istore (lv' := [(5, .int (cErrH ho ht ar rd mo)), (0, .ref h), (1, .int ht), (2, .int ar), (3, .int rd), (4, .int mo)]) hx hb dX7_pass_12 hl (by decide) rfl (fun ls hl => ?_)
  refine lv_iload hx hb dX7_pass_14 (lv_at hl 0 rfl) ?_
  refine lv_if_eq (tgt := 22) hx hb dX7_pass_16 (by decide) (fun c16 => ?_) (fun c16 => ?_)
  · refine lv_aload_n hx hb dX7_pass_22 rfl (lv_at hl 1 rfl) ?_
    refine va_get (D := G) (ci := 7) (v := .ref (cd 0)) (C := RX7) (T := TX7) (N := 6) hx hb hts iX7 hown hK hP 0 rfl rfl 1 (by decide) k_19 (fun _ h9 => h9) rfl dX7_pass_23 ?_
    refine lv_aload_n hx hb dX7_pass_26 rfl (lv_at hl 1 rfl) ?_
    refine va_get (D := G) (ci := 7) (v := .ref (a 0)) (C := RX7) (T := TX7) (N := 6) hx hb hts iX7 hown hK hP 0 rfl rfl 0 (by decide) k_10 (fun _ h9 => h9) rfl dX7_pass_27 ?_
    refine zCv (S := Nat × HV) (ws1 := fun u => [(h, .inr (7, [.ref (a 0), .ref (cd 0), .ref s1, .ref s2, .ref (d 0), .ref g]))] ++ (ck Z a (st, off, car, fa, wr, tr, ho, ra, ti) ++ hk Z cd (u.1, u.2))) (wr := [(h, .inr (7, [.ref (a 0), .ref (cd 0), .ref s1, .ref s2, .ref (d 0), .ref g]))]) (va_runV (As := [.ref (a 0)]) (rest := []) ⟨hx, hb, hml, hown, hts⟩ (m_X2_record l G Z _ cd kp Y a (st, off, car, fa, wr, tr, ho, ra, ti) (by
        exact hkp)) (cwV 1 hts gX7_pass_X2_record rfl rfl rfl (by decide +kernel) ⟨Nat.le_of_ble_eq_true rfl, Nat.le_of_ble_eq_true rfl⟩) (zPreV hK hP hD hS hA hSW [6, 7, 8, 9, 10, 11, 12, 13, 14, 15, 16, 17, 18, 19, 20, 21, 22, 23, 24, 25, 26, 27, 28, 29, 30, 31, 32, 33, 34, 35, 36, 37, 1, 2, 3, 4, 5] rfl (by decide) 6 (ci := 2) rfl rfl rfl) rfl rfl hl.1 rfl (lv_room (Nat.le_of_ble_eq_true rfl)) dX7_pass_30 ⟨Nat.le_of_ble_eq_true rfl, Nat.le_of_ble_eq_true rfl⟩) hP hD hS hA [6, 7, 8, 9, 10, 11, 12, 13, 14, 15, 16, 17, 18, 19, 20, 21, 22, 23, 24, 25, 26, 27, 28, 29, 30, 31, 32, 33, 34, 35, 36, 37, 1, 2, 3, 4, 5] [0] [0, 33, 34, 35, 36, 37, 1, 2, 3, 4, 5, 6, 7, 8, 9, 10, 11, 12, 13, 14, 15, 16, 17, 18, 19, 20, 21, 22, 23, 24, 25, 26, 27, 28, 29, 30, 31, 32] rfl rfl (by decide) (by decide) (by decide) (fun _ => rfl) (fun u H locs hw30 hP hD hS => ?_)
    obtain ⟨kp1_30, H1_30⟩ := u
    try dsimp only at hw30
    obtain ⟨rfl, rfl⟩ := hw30
    have hP : va_P G vwCl ([(h, .inr (7, [.ref (a 0), .ref (cd 0), .ref s1, .ref s2, .ref (d 0), .ref g]))] ++ (ck Z a (st, off, car, fa, wr, tr, ho, ra, ti) ++ hk Z cd ((hKp kp), (hRec Y (st, off, car, fa, wr, tr, ho, ra, ti))))) H := hP
    have hD : va_D A ([(h, .inr (7, [.ref (a 0), .ref (cd 0), .ref s1, .ref s2, .ref (d 0), .ref g]))] ++ (ck Z a (st, off, car, fa, wr, tr, ho, ra, ti) ++ hk Z cd ((hKp kp), (hRec Y (st, off, car, fa, wr, tr, ho, ra, ti))))) := hD
    refine lv_aload_n hx hb dX7_pass_33 rfl (lv_at hl 1 rfl) ?_
    refine va_get (D := G) (ci := 7) (v := .ref (a 0)) (C := RX7) (T := TX7) (N := 6) hx hb hts iX7 hown hK hP 0 rfl rfl 0 (by decide) k_10 (fun _ h9 => h9) rfl dX7_pass_34 ?_
    refine lv_iload_n hx hb dX7_pass_37 rfl (lv_at hl 2 rfl) ?_
    refine lv_iload_n hx hb dX7_pass_38 rfl (lv_at hl 3 rfl) ?_
    refine lv_iload_n hx hb dX7_pass_39 rfl (lv_at hl 4 rfl) ?_
    refine lv_iload hx hb dX7_pass_40 (lv_at hl 5 rfl) ?_
    refine zCi (S := Unit) (ws1 := fun u => [(h, .inr (7, [.ref (a 0), .ref (cd 0), .ref s1, .ref s2, .ref (d 0), .ref g]))] ++ (ck Z a (cGoN (st, off, car, fa, wr, tr, ho, ra, ti) ht ar rd mo.toNatClampNeg) ++ hk Z cd ((hKp kp), (hRec Y (st, off, car, fa, wr, tr, ho, ra, ti))))) (wr := [(h, .inr (7, [.ref (a 0), .ref (cd 0), .ref s1, .ref s2, .ref (d 0), .ref g]))] ++ hk Z cd ((hKp kp), (hRec Y (st, off, car, fa, wr, tr, ho, ra, ti)))) (va_runV (As := [.int ht, .int ar, .int rd, .int mo]) (rest := []) ⟨hx, hb, hml, hown, hts⟩ (m_X0_goHours l G Z _ a (st, off, car, fa, wr, tr, ho, ra, ti) ht ar rd mo mo.toNatClampNeg (by
        exact (cErrH_mo c16).1) (by
        have := (cErrH_mo c16).2; omega)) (cwV 4 hts gX7_pass_X0_goHours rfl rfl rfl (by decide +kernel) ⟨Nat.le_of_ble_eq_true rfl, Nat.le_of_ble_eq_true rfl⟩) (zPreV hK hP hD hS hA hSW [1, 2, 3, 4, 5] rfl (by decide) 1 (ci := 0) rfl rfl rfl) rfl rfl hl.1 rfl (lv_room (Nat.le_of_ble_eq_true rfl)) dX7_pass_42 ⟨Nat.le_of_ble_eq_true rfl, Nat.le_of_ble_eq_true rfl⟩) hP hD hS hA [1, 2, 3, 4, 5] [0, 6, 7, 8, 9, 10, 11, 12, 13, 14, 15, 16, 17, 18, 19, 20, 21, 22, 23, 24, 25, 26, 27, 28, 29, 30, 31, 32, 33, 34, 35, 36, 37] [0, 33, 34, 35, 36, 37, 1, 2, 3, 4, 5, 6, 7, 8, 9, 10, 11, 12, 13, 14, 15, 16, 17, 18, 19, 20, 21, 22, 23, 24, 25, 26, 27, 28, 29, 30, 31, 32] rfl rfl (by decide) (by decide) (by decide) (fun _ => rfl) (fun r42 u H locs hw42 hP hD hS => ?_)
    try dsimp only at hw42
    subst hw42
    have hP : va_P G vwCl ([(h, .inr (7, [.ref (a 0), .ref (cd 0), .ref s1, .ref s2, .ref (d 0), .ref g]))] ++ (ck Z a (cGoN (st, off, car, fa, wr, tr, ho, ra, ti) ht ar rd mo.toNatClampNeg) ++ hk Z cd ((hKp kp), (hRec Y (st, off, car, fa, wr, tr, ho, ra, ti))))) H := hP
    have hD : va_D A ([(h, .inr (7, [.ref (a 0), .ref (cd 0), .ref s1, .ref s2, .ref (d 0), .ref g]))] ++ (ck Z a (cGoN (st, off, car, fa, wr, tr, ho, ra, ti) ht ar rd mo.toNatClampNeg) ++ hk Z cd ((hKp kp), (hRec Y (st, off, car, fa, wr, tr, ho, ra, ti))))) := hD
    exact W.iret hx hb hr (zEi ((cGoN (st, off, car, fa, wr, tr, ho, ra, ti) ht ar rd mo.toNatClampNeg), (hKp kp), (hRec Y (st, off, car, fa, wr, tr, ho, ra, ti))) (by
        simp only [eq_true c16, ↓reduceIte, and_self]) hP hD hS) hS.2.2 dX7_pass_45
  · refine lv_iload hx hb dX7_pass_19 (lv_at hl 0 rfl) ?_
    exact W.iret hx hb hr (zEi ((st, off, car, fa, wr, tr, ho, ra, ti), kp, Y) (by
        simp only [c16, ↓reduceIte, and_self]) hP hD hS) hS.2.2 dX7_pass_21

set_option maxHeartbeats 4000000 in
set_option maxRecDepth 100000 in
theorem m_X7_zero (l : Launch) (G : va_G) (Z : Nat → ClassId) (sz : Nat) (h : Nat) (a : Nat → Nat) (cd : Nat → Nat) (s1 : Nat) (s2 : Nat) (d : Nat → Nat) (g : Nat) (v : CV) (kp : Nat) (Y : HV) (hkp : kp ≤ 6) : Met l yX7_zero wsX7_zero ({ frames := 4, cells := 0, slots := 0, locals := 83 }) (va_Pc [.ref h] (zWP G Z sz ([(h, .inr (7, [.ref (a 0), .ref (cd 0), .ref s1, .ref s2, .ref (d 0), .ref g]))] ++ (ck Z a v ++ hk Z cd (kp, Y))))) (va_Qi (fun (r : Int32) (u : CV × Nat × HV) => r = v.2.1 + 1000000000 ∧ u.1 = (v.1, 0, 0, v.2.2.2) ∧ u.2.1 = hKp kp ∧ u.2.2 = hRec Y v) (fun (u : CV × Nat × HV) t => zB G (va_A ([(h, .inr (7, [.ref (a 0), .ref (cd 0), .ref s1, .ref s2, .ref (d 0), .ref g]))] ++ (ck Z a v ++ hk Z cd (kp, Y))) sz) ([(h, .inr (7, [.ref (a 0), .ref (cd 0), .ref s1, .ref s2, .ref (d 0), .ref g]))] ++ (ck Z a u.1 ++ hk Z cd (u.2.1, u.2.2))) t) (va_A ([(h, .inr (7, [.ref (a 0), .ref (cd 0), .ref s1, .ref s2, .ref (d 0), .ref g]))] ++ (ck Z a v ++ hk Z cd (kp, Y))) sz)) 0 0 (va_A ([(h, .inr (7, [.ref (a 0), .ref (cd 0), .ref s1, .ref s2, .ref (d 0), .ref g]))] ++ (ck Z a v ++ hk Z cd (kp, Y))) sz) := by
  obtain ⟨st, off, car, fa, wr, tr, ho, ra, ti⟩ := v
  refine Met.ofW (cc := cX7_zero) (maxL := 2) (ret := (some .int)) (by decide) rfl ?_
  intro p e s m args below meth c s₁ B hml hv
  have hx := B.exec
  have hb := B.bytes
  have hr := B.returns
  have hts := atoms_spec (ws := wsX7_zero) B.pre
  have hown : s.vm.findClass RX7 = some m.cls := findClass_of_methodNamed B.named
  have hlocks := B.notSynchronized
  obtain ⟨rfl, hsz, hP, hK, hD, hA, hS, hSW⟩ := zEnter hv
  subst hsz
  generalize va_A ([(h, .inr (7, [.ref (a 0), .ref (cd 0), .ref s1, .ref s2, .ref (d 0), .ref g]))] ++ (ck Z a (st, off, car, fa, wr, tr, ho, ra, ti) ++ hk Z cd (kp, Y))) s.heap.size = A at hD hA hS hSW ⊢
  have k_19 := hts (.fieldLink RX7 19 "WarmRods" "history" "LWarmRods$History;") (List.mem_of_getElem? (i := 1) rfl)
  have iX7 : ∀ w ∈ u_ws RX7 TX7 6, w ∈ wsX7_zero := fun _ h => List.mem_cons_of_mem _ (List.mem_append_left _ (List.mem_append_left _ (List.mem_append_left _ (List.mem_append_left _ (List.mem_append_right _ h)))))
  have k_10 := hts (.fieldLink RX7 10 "WarmRods" "clock" "LWarmRods$Clock;") (List.mem_of_getElem? (i := 2) rfl)
  have k_72 : (Cond.fieldLinkNest RX7 72 "WarmRods$Clock" "drift" "LWarmRods$Drift;" "WarmRods").before (#[.ref h] : Array Value) s = true := va_Nw.use rfl (hSW.1.1 _ (List.mem_of_getElem? (i := 3) rfl))
  have iX0 : ∀ w ∈ u_ws RX0 TX0 7, w ∈ wsX7_zero := fun _ h => List.mem_cons_of_mem _ (List.mem_append_left _ (List.mem_append_left _ (List.mem_append_left _ (List.mem_append_right _ h))))
  have k_75 := hts (.fieldLink RX7 75 "WarmRods$Drift" "off" "I") (List.mem_of_getElem? (i := 3) rfl)
  have iX1 : ∀ w ∈ u_ws RX1 TX1 2, w ∈ wsX7_zero := fun _ h => List.mem_cons_of_mem _ (List.mem_append_left _ (List.mem_append_left _ (List.mem_append_right _ h)))
  have k_82 := hts (.constant RX7 82 (1000000000)) (List.mem_of_getElem? (i := 4) rfl)
  have hP : va_P G vwCl ([(h, .inr (7, [.ref (a 0), .ref (cd 0), .ref s1, .ref s2, .ref (d 0), .ref g]))] ++ (ck Z a (st, off, car, fa, wr, tr, ho, ra, ti) ++ hk Z cd (kp, Y))) s.heap := hP
  have hl := lv_entry ([.ref h]) (n := 2) (Nat.le_of_ble_eq_true rfl)
  rw [lg_entry_eq]
  generalize (lg_sl ([.ref h]) ++ List.replicate (2 - (lg_sl ([.ref h])).length) Slot.unset).toArray = ls at hl ⊢
  have hl : lv_has ls 2 [(0, .ref h)] := hl
  refine lv_aload_n hx hb dX7_zero_0 rfl (lv_at hl 0 rfl) ?_
  refine va_get (D := G) (ci := 7) (v := .ref (cd 0)) (C := RX7) (T := TX7) (N := 6) hx hb hts iX7 hown hK hP 0 rfl rfl 1 (by decide) k_19 (fun _ h9 => h9) rfl dX7_zero_1 ?_
  refine lv_aload_n hx hb dX7_zero_4 rfl (lv_at hl 0 rfl) ?_
  refine va_get (D := G) (ci := 7) (v := .ref (a 0)) (C := RX7) (T := TX7) (N := 6) hx hb hts iX7 hown hK hP 0 rfl rfl 0 (by decide) k_10 (fun _ h9 => h9) rfl dX7_zero_5 ?_
  refine zCv (S := Nat × HV) (ws1 := fun u => [(h, .inr (7, [.ref (a 0), .ref (cd 0), .ref s1, .ref s2, .ref (d 0), .ref g]))] ++ (ck Z a (st, off, car, fa, wr, tr, ho, ra, ti) ++ hk Z cd (u.1, u.2))) (wr := [(h, .inr (7, [.ref (a 0), .ref (cd 0), .ref s1, .ref s2, .ref (d 0), .ref g]))]) (va_runV (As := [.ref (a 0)]) (rest := []) ⟨hx, hb, hml, hown, hts⟩ (m_X2_record l G Z _ cd kp Y a (st, off, car, fa, wr, tr, ho, ra, ti) (by
      exact hkp)) (cwV 1 hts gX7_zero_X2_record rfl rfl rfl (by decide +kernel) ⟨Nat.le_of_ble_eq_true rfl, Nat.le_of_ble_eq_true rfl⟩) (zPreV hK hP hD hS hA hSW [6, 7, 8, 9, 10, 11, 12, 13, 14, 15, 16, 17, 18, 19, 20, 21, 22, 23, 24, 25, 26, 27, 28, 29, 30, 31, 32, 33, 34, 35, 36, 37, 1, 2, 3, 4, 5] rfl (by decide) 6 (ci := 2) rfl rfl rfl) rfl rfl hl.1 rfl (lv_room (Nat.le_of_ble_eq_true rfl)) dX7_zero_8 ⟨Nat.le_of_ble_eq_true rfl, Nat.le_of_ble_eq_true rfl⟩) hP hD hS hA [6, 7, 8, 9, 10, 11, 12, 13, 14, 15, 16, 17, 18, 19, 20, 21, 22, 23, 24, 25, 26, 27, 28, 29, 30, 31, 32, 33, 34, 35, 36, 37, 1, 2, 3, 4, 5] [0] [0, 33, 34, 35, 36, 37, 1, 2, 3, 4, 5, 6, 7, 8, 9, 10, 11, 12, 13, 14, 15, 16, 17, 18, 19, 20, 21, 22, 23, 24, 25, 26, 27, 28, 29, 30, 31, 32] rfl rfl (by decide) (by decide) (by decide) (fun _ => rfl) (fun u H locs hw8 hP hD hS => ?_)
  obtain ⟨kp1_8, H1_8⟩ := u
  try dsimp only at hw8
  obtain ⟨rfl, rfl⟩ := hw8
  have hP : va_P G vwCl ([(h, .inr (7, [.ref (a 0), .ref (cd 0), .ref s1, .ref s2, .ref (d 0), .ref g]))] ++ (ck Z a (st, off, car, fa, wr, tr, ho, ra, ti) ++ hk Z cd ((hKp kp), (hRec Y (st, off, car, fa, wr, tr, ho, ra, ti))))) H := hP
  have hD : va_D A ([(h, .inr (7, [.ref (a 0), .ref (cd 0), .ref s1, .ref s2, .ref (d 0), .ref g]))] ++ (ck Z a (st, off, car, fa, wr, tr, ho, ra, ti) ++ hk Z cd ((hKp kp), (hRec Y (st, off, car, fa, wr, tr, ho, ra, ti))))) := hD
  refine lv_aload_n hx hb dX7_zero_11 rfl (lv_at hl 0 rfl) ?_
  refine va_get (D := G) (ci := 7) (v := .ref (a 0)) (C := RX7) (T := TX7) (N := 6) hx hb hts iX7 hown hK hP 0 rfl rfl 0 (by decide) k_10 (fun _ h9 => h9) rfl dX7_zero_12 ?_
  refine va_getN (D := G) (ci := 0) (v := .ref (a 2)) (C := RX0) (T := TX0) (N := 7) hx hb hts iX0 hown hK hP 1 rfl rfl 1 (by decide) k_72 (fun _ h9 => h9) rfl dX7_zero_15 ?_
  refine va_get (D := G) (ci := 1) (v := .int off) (C := RX1) (T := TX1) (N := 2) hx hb hts iX1 hown hK hP 3 rfl rfl 0 (by decide) k_75 (fun _ h9 => h9) rfl dX7_zero_18 ?_
  refine lv_istore_n (lv' := [(1, .int off), (0, .ref h)]) hx hb dX7_zero_21 rfl hl (by decide) rfl (fun ls hl => ?_)
  refine lv_aload_n hx hb dX7_zero_22 rfl (lv_at hl 1 rfl) ?_
  refine va_get (D := G) (ci := 7) (v := .ref (a 0)) (C := RX7) (T := TX7) (N := 6) hx hb hts iX7 hown hK hP 0 rfl rfl 0 (by decide) k_10 (fun _ h9 => h9) rfl dX7_zero_23 ?_
  refine va_getN (D := G) (ci := 0) (v := .ref (a 2)) (C := RX0) (T := TX0) (N := 7) hx hb hts iX0 hown hK hP 1 rfl rfl 1 (by decide) k_72 (fun _ h9 => h9) rfl dX7_zero_26 ?_
  refine zCv (S := Unit) (ws1 := fun u => [(h, .inr (7, [.ref (a 0), .ref (cd 0), .ref s1, .ref s2, .ref (d 0), .ref g]))] ++ (ck Z a (st, 0, 0, fa, wr, tr, ho, ra, ti) ++ hk Z cd ((hKp kp), (hRec Y (st, off, car, fa, wr, tr, ho, ra, ti))))) (wr := [(h, .inr (7, [.ref (a 0), .ref (cd 0), .ref s1, .ref s2, .ref (d 0), .ref g])), ((a 0), .inr (0, [.ref (a 1), .ref (a 2), .ref (a 3), .int tr, .int ho, .int ra, .int ti])), ((a 1), .inl (Z 0, 4, .inl st)), ((a 3), .inr (3, [.ref (a 4), .int wr])), ((a 4), .inl (Z 0, 336, .inl fa))] ++ hk Z cd ((hKp kp), (hRec Y (st, off, car, fa, wr, tr, ho, ra, ti)))) (va_runV (As := []) (rest := []) ⟨hx, hb, hml, hown, hts⟩ (m_X1_clear l G Z _ (a 2) off car) (cwV 0 hts gX7_zero_X1_clear rfl rfl rfl (by decide +kernel) ⟨Nat.le_of_ble_eq_true rfl, Nat.le_of_ble_eq_true rfl⟩) (zPreV hK hP hD hS hA hSW [3] rfl (by decide) 3 (ci := 1) rfl rfl rfl) rfl rfl hl.1 rfl (lv_room (Nat.le_of_ble_eq_true rfl)) dX7_zero_29 ⟨Nat.le_of_ble_eq_true rfl, Nat.le_of_ble_eq_true rfl⟩) hP hD hS hA [3] [0, 1, 2, 4, 5, 6, 7, 8, 9, 10, 11, 12, 13, 14, 15, 16, 17, 18, 19, 20, 21, 22, 23, 24, 25, 26, 27, 28, 29, 30, 31, 32, 33, 34, 35, 36, 37] [0, 1, 2, 37, 3, 4, 5, 6, 7, 8, 9, 10, 11, 12, 13, 14, 15, 16, 17, 18, 19, 20, 21, 22, 23, 24, 25, 26, 27, 28, 29, 30, 31, 32, 33, 34, 35, 36] rfl rfl (by decide) (by decide) (by decide) (fun _ => rfl) (fun u H locs hw29 hP hD hS => ?_)
  try dsimp only at hw29
  have hP : va_P G vwCl ([(h, .inr (7, [.ref (a 0), .ref (cd 0), .ref s1, .ref s2, .ref (d 0), .ref g]))] ++ (ck Z a (st, 0, 0, fa, wr, tr, ho, ra, ti) ++ hk Z cd ((hKp kp), (hRec Y (st, off, car, fa, wr, tr, ho, ra, ti))))) H := hP
  have hD : va_D A ([(h, .inr (7, [.ref (a 0), .ref (cd 0), .ref s1, .ref s2, .ref (d 0), .ref g]))] ++ (ck Z a (st, 0, 0, fa, wr, tr, ho, ra, ti) ++ hk Z cd ((hKp kp), (hRec Y (st, off, car, fa, wr, tr, ho, ra, ti))))) := hD
  refine lv_iload_n hx hb dX7_zero_32 rfl (lv_at hl 0 rfl) ?_
  refine lv_ldc (v := 1000000000) hx hb hown k_82 dX7_zero_33 ?_
  refine lv_iadd hx hb dX7_zero_35 ?_
  exact W.iret hx hb hr (zEi ((st, 0, 0, fa, wr, tr, ho, ra, ti), (hKp kp), (hRec Y (st, off, car, fa, wr, tr, ho, ra, ti))) (by
      exact ⟨rfl, rfl, rfl, rfl⟩) hP hD hS) hS.2.2 dX7_zero_36

set_option maxHeartbeats 4000000 in
set_option maxRecDepth 100000 in
theorem m_X7_hour (l : Launch) (G : va_G) (Z : Nat → ClassId) (sz : Nat) (h : Nat) (a : Nat → Nat) (cd : Nat → Nat) (s1 : Nat) (s2 : Nat) (d : Nat → Nat) (g : Nat) (v : CV) (ago : Int32) (what : Int32)  : Met l yX7_hour wsX7_hour ({ frames := 2, cells := 0, slots := 0, locals := 45 }) (va_Pc [.ref h, .int ago, .int what] (zWP G Z sz ([(h, .inr (7, [.ref (a 0), .ref (cd 0), .ref s1, .ref s2, .ref (d 0), .ref g]))] ++ ck Z a v))) (va_Qi (fun (r : Int32) (u : Unit) => r = xHour v.2.2.2.1 v.2.2.2.2.1 ago what) (fun (u : Unit) t => zB G (va_A ([(h, .inr (7, [.ref (a 0), .ref (cd 0), .ref s1, .ref s2, .ref (d 0), .ref g]))] ++ ck Z a v) sz) ([(h, .inr (7, [.ref (a 0), .ref (cd 0), .ref s1, .ref s2, .ref (d 0), .ref g]))] ++ ck Z a v) t) (va_A ([(h, .inr (7, [.ref (a 0), .ref (cd 0), .ref s1, .ref s2, .ref (d 0), .ref g]))] ++ ck Z a v) sz)) 0 0 (va_A ([(h, .inr (7, [.ref (a 0), .ref (cd 0), .ref s1, .ref s2, .ref (d 0), .ref g]))] ++ ck Z a v) sz) := by
  obtain ⟨st, off, car, fa, wr, tr, ho, ra, ti⟩ := v
  refine Met.ofW (cc := cX7_hour) (maxL := 3) (ret := (some .int)) (by decide) rfl ?_
  intro p e s m args below meth c s₁ B hml hv
  have hx := B.exec
  have hb := B.bytes
  have hr := B.returns
  have hts := atoms_spec (ws := wsX7_hour) B.pre
  have hown : s.vm.findClass RX7 = some m.cls := findClass_of_methodNamed B.named
  have hlocks := B.notSynchronized
  obtain ⟨rfl, hsz, hP, hK, hD, hA, hS, hSW⟩ := zEnter hv
  subst hsz
  generalize va_A ([(h, .inr (7, [.ref (a 0), .ref (cd 0), .ref s1, .ref s2, .ref (d 0), .ref g]))] ++ ck Z a (st, off, car, fa, wr, tr, ho, ra, ti)) s.heap.size = A at hD hA hS hSW ⊢
  have k_10 := hts (.fieldLink RX7 10 "WarmRods" "clock" "LWarmRods$Clock;") (List.mem_of_getElem? (i := 1) rfl)
  have iX7 : ∀ w ∈ u_ws RX7 TX7 6, w ∈ wsX7_hour := fun _ h => List.mem_cons_of_mem _ (List.mem_append_left _ (List.mem_append_left _ (List.mem_append_right _ h)))
  have k_83 : (Cond.fieldLinkNest RX7 83 "WarmRods$Clock" "log" "LWarmRods$Log;" "WarmRods").before (#[.ref h, .int ago, .int what] : Array Value) s = true := va_Nw.use rfl (hSW.1.1 _ (List.mem_of_getElem? (i := 4) rfl))
  have iX0 : ∀ w ∈ u_ws RX0 TX0 7, w ∈ wsX7_hour := fun _ h => List.mem_cons_of_mem _ (List.mem_append_left _ (List.mem_append_right _ h))
  have k_93 := hts (.fieldLink RX7 93 "WarmRods" "MORE_FACTS" "[I") (List.mem_of_getElem? (i := 2) rfl)
  have hP : va_P G vwCl ([(h, .inr (7, [.ref (a 0), .ref (cd 0), .ref s1, .ref s2, .ref (d 0), .ref g]))] ++ ck Z a (st, off, car, fa, wr, tr, ho, ra, ti)) s.heap := hP
  have hl := lv_entry ([.ref h, .int ago, .int what]) (n := 3) (Nat.le_of_ble_eq_true rfl)
  rw [lg_entry_eq]
  generalize (lg_sl ([.ref h, .int ago, .int what]) ++ List.replicate (3 - (lg_sl ([.ref h, .int ago, .int what])).length) Slot.unset).toArray = ls at hl ⊢
  have hl : lv_has ls 3 [(0, .ref h), (1, .int ago), (2, .int what)] := hl
  refine lv_iload_n hx hb dX7_hour_0 rfl (lv_at hl 1 rfl) ?_
  refine lv_if_lt (tgt := 18) hx hb dX7_hour_1 (by decide) (fun c1 => ?_) (fun c1 => ?_)
  · refine lv_iconst (v := (-1)) hx hb dX7_hour_18 (by decide) ?_
    exact W.iret hx hb hr (zEi () (by
        simp only [xHour, c1, Int32.not_le.mpr c1, ↓reduceIte]) hP hD hS) hS.2.2 dX7_hour_19
  · refine lv_iload_n hx hb dX7_hour_4 rfl (lv_at hl 1 rfl) ?_
    refine lv_aload_n hx hb dX7_hour_5 rfl (lv_at hl 0 rfl) ?_
    refine va_get (D := G) (ci := 7) (v := .ref (a 0)) (C := RX7) (T := TX7) (N := 6) hx hb hts iX7 hown hK hP 0 rfl rfl 0 (by decide) k_10 (fun _ h9 => h9) rfl dX7_hour_6 ?_
    refine va_getN (D := G) (ci := 0) (v := .ref (a 3)) (C := RX0) (T := TX0) (N := 7) hx hb hts iX0 hown hK hP 1 rfl rfl 2 (by decide) k_83 (fun _ h9 => h9) rfl dX7_hour_9 ?_
    refine zCi (S := Unit) (ws1 := fun u => [(h, .inr (7, [.ref (a 0), .ref (cd 0), .ref s1, .ref s2, .ref (d 0), .ref g]))] ++ ck Z a (st, off, car, fa, wr, tr, ho, ra, ti)) (wr := [(h, .inr (7, [.ref (a 0), .ref (cd 0), .ref s1, .ref s2, .ref (d 0), .ref g])), ((a 0), .inr (0, [.ref (a 1), .ref (a 2), .ref (a 3), .int tr, .int ho, .int ra, .int ti])), ((a 1), .inl (Z 0, 4, .inl st)), ((a 2), .inr (1, [.int off, .int car]))]) (va_runV (As := []) (rest := [.int ago]) ⟨hx, hb, hml, hown, hts⟩ (m_X3_length l G Z _ (a 3) (a 4) fa wr) (cwV 0 hts gX7_hour_X3_length rfl rfl rfl (by decide +kernel) ⟨Nat.le_of_ble_eq_true rfl, Nat.le_of_ble_eq_true rfl⟩) (zPreV hK hP hD hS hA hSW [4, 5] rfl (by decide) 4 (ci := 3) rfl rfl rfl) rfl rfl hl.1 rfl (lv_room (Nat.le_of_ble_eq_true rfl)) dX7_hour_12 ⟨Nat.le_of_ble_eq_true rfl, Nat.le_of_ble_eq_true rfl⟩) hP hD hS hA [4, 5] [0, 1, 2, 3] [0, 1, 2, 3, 4, 5] rfl rfl (by decide) (by decide) (by decide) (fun _ => rfl) (fun r12 u H locs hw12 hP hD hS => ?_)
    try dsimp only at hw12
    subst hw12
    have hP : va_P G vwCl ([(h, .inr (7, [.ref (a 0), .ref (cd 0), .ref s1, .ref s2, .ref (d 0), .ref g]))] ++ ck Z a (st, off, car, fa, wr, tr, ho, ra, ti)) H := hP
    have hD : va_D A ([(h, .inr (7, [.ref (a 0), .ref (cd 0), .ref s1, .ref s2, .ref (d 0), .ref g]))] ++ ck Z a (st, off, car, fa, wr, tr, ho, ra, ti)) := hD
    refine lv_icmp_lt (tgt := 20) hx hb dX7_hour_15 (by decide) (fun c15 => ?_) (fun c15 => ?_)
    · refine lv_iload_n hx hb dX7_hour_20 rfl (lv_at hl 2 rfl) ?_
      refine lv_if_lt (tgt := 32) hx hb dX7_hour_21 (by decide) (fun c21 => ?_) (fun c21 => ?_)
      · refine lv_bipush (v := (-2)) hx hb dX7_hour_32 (by decide) ?_
        exact W.iret hx hb hr (zEi () (by
            simp only [xHour, c1, Int32.not_lt.mp c1, c15, Int32.not_le.mpr c15, c21, Int32.not_le.mpr c21, ↓reduceIte]) hP hD hS) hS.2.2 dX7_hour_34
      · refine lv_iload_n hx hb dX7_hour_24 rfl (lv_at hl 2 rfl) ?_
        obtain ⟨tMORE_FACTS, hMORE_FACTS_Z, hMORE_FACTS_T⟩ := hSW.2.2.2
        refine va_gets hx hb hMORE_FACTS_Z hS hown k_93 (fun _ h9 => h9) dX7_hour_25 ?_
        refine zTlen (v := 7) hx hb hMORE_FACTS_T hS rfl dX7_hour_28 ?_
        refine lv_icmp_lt (tgt := 35) hx hb dX7_hour_29 (by decide) (fun c29 => ?_) (fun c29 => ?_)
        · refine lv_aload_n hx hb dX7_hour_35 rfl (lv_at hl 0 rfl) ?_
          refine va_get (D := G) (ci := 7) (v := .ref (a 0)) (C := RX7) (T := TX7) (N := 6) hx hb hts iX7 hown hK hP 0 rfl rfl 0 (by decide) k_10 (fun _ h9 => h9) rfl dX7_hour_36 ?_
          refine va_getN (D := G) (ci := 0) (v := .ref (a 3)) (C := RX0) (T := TX0) (N := 7) hx hb hts iX0 hown hK hP 1 rfl rfl 2 (by decide) k_83 (fun _ h9 => h9) rfl dX7_hour_39 ?_
          refine lv_iload_n hx hb dX7_hour_42 rfl (lv_at hl 1 rfl) ?_
          refine lv_iload_n hx hb dX7_hour_43 rfl (lv_at hl 2 rfl) ?_
          refine zCi (S := Unit) (ws1 := fun u => [(h, .inr (7, [.ref (a 0), .ref (cd 0), .ref s1, .ref s2, .ref (d 0), .ref g]))] ++ ck Z a (st, off, car, fa, wr, tr, ho, ra, ti)) (wr := [(h, .inr (7, [.ref (a 0), .ref (cd 0), .ref s1, .ref s2, .ref (d 0), .ref g])), ((a 0), .inr (0, [.ref (a 1), .ref (a 2), .ref (a 3), .int tr, .int ho, .int ra, .int ti])), ((a 1), .inl (Z 0, 4, .inl st)), ((a 2), .inr (1, [.int off, .int car]))]) (va_runV (As := [.int ago, .int what]) (rest := []) ⟨hx, hb, hml, hown, hts⟩ (m_X3_fact l G Z _ (a 3) (a 4) fa wr ago what) (cwV 2 hts gX7_hour_X3_fact rfl rfl rfl (by decide +kernel) ⟨Nat.le_of_ble_eq_true rfl, Nat.le_of_ble_eq_true rfl⟩) (zPreV hK hP hD hS hA hSW [4, 5] rfl (by decide) 4 (ci := 3) rfl rfl rfl) rfl rfl hl.1 rfl (lv_room (Nat.le_of_ble_eq_true rfl)) dX7_hour_44 ⟨Nat.le_of_ble_eq_true rfl, Nat.le_of_ble_eq_true rfl⟩) hP hD hS hA [4, 5] [0, 1, 2, 3] [0, 1, 2, 3, 4, 5] rfl rfl (by decide) (by decide) (by decide) (fun _ => rfl) (fun r44 u H locs hw44 hP hD hS => ?_)
          try dsimp only at hw44
          subst hw44
          have hP : va_P G vwCl ([(h, .inr (7, [.ref (a 0), .ref (cd 0), .ref s1, .ref s2, .ref (d 0), .ref g]))] ++ ck Z a (st, off, car, fa, wr, tr, ho, ra, ti)) H := hP
          have hD : va_D A ([(h, .inr (7, [.ref (a 0), .ref (cd 0), .ref s1, .ref s2, .ref (d 0), .ref g]))] ++ ck Z a (st, off, car, fa, wr, tr, ho, ra, ti)) := hD
          obtain ⟨tMORE_FACTS, hMORE_FACTS_Z, hMORE_FACTS_T⟩ := hSW.2.2.2
          refine va_gets hx hb hMORE_FACTS_Z hS hown k_93 (fun _ h9 => h9) dX7_hour_47 ?_
          refine lv_iload_n hx hb dX7_hour_50 rfl (lv_at hl 2 rfl) ?_
          refine zTald hx hb hMORE_FACTS_T hS what.toNatClampNeg ((zNC c21 (Int32.not_le.mpr c29) (by decide)).1) ((zNC c21 (Int32.not_le.mpr c29) (by decide)).2) (by decide) dX7_hour_51 ?_
          refine lv_iadd hx hb dX7_hour_52 ?_
          exact W.iret hx hb hr (zEi () (by
              simp only [xHour, c1, Int32.not_lt.mp c1, c15, Int32.not_le.mpr c15, c21, Int32.not_lt.mp c21, c29, Int32.not_le.mpr c29, ↓reduceIte]) hP hD hS) hS.2.2 dX7_hour_53
        · refine lv_bipush (v := (-2)) hx hb dX7_hour_32 (by decide) ?_
          exact W.iret hx hb hr (zEi () (by
              simp only [xHour, c1, Int32.not_lt.mp c1, c15, Int32.not_le.mpr c15, c21, Int32.not_lt.mp c21, c29, Int32.not_lt.mp c29, ↓reduceIte]) hP hD hS) hS.2.2 dX7_hour_34
    · refine lv_iconst (v := (-1)) hx hb dX7_hour_18 (by decide) ?_
      exact W.iret hx hb hr (zEi () (by
          simp only [xHour, c1, Int32.not_lt.mp c1, c15, Int32.not_lt.mp c15, ↓reduceIte]) hP hD hS) hS.2.2 dX7_hour_19

set_option maxHeartbeats 4000000 in
set_option maxRecDepth 100000 in
theorem m_X7_count (l : Launch) (G : va_G) (Z : Nat → ClassId) (sz : Nat) (h : Nat) (a : Nat → Nat) (cd : Nat → Nat) (s1 : Nat) (s2 : Nat) (d : Nat → Nat) (g : Nat) (v : CV) (kp : Nat) (Y : HV) (w : RV) (x : Int32)  : Met l yX7_count wsX7_count ({ frames := 2, cells := 0, slots := 0, locals := 33 }) (va_Pc [.ref h, .int x] (zWP G Z sz ([(h, .inr (7, [.ref (a 0), .ref (cd 0), .ref s1, .ref s2, .ref (d 0), .ref g]))] ++ (ck Z a v ++ (hk Z cd (kp, Y) ++ rk Z d w))))) (va_Qi (fun (r : Int32) (u : Unit) => r = xCount v w.2.1 kp x) (fun (u : Unit) t => zB G (va_A ([(h, .inr (7, [.ref (a 0), .ref (cd 0), .ref s1, .ref s2, .ref (d 0), .ref g]))] ++ (ck Z a v ++ (hk Z cd (kp, Y) ++ rk Z d w))) sz) ([(h, .inr (7, [.ref (a 0), .ref (cd 0), .ref s1, .ref s2, .ref (d 0), .ref g]))] ++ (ck Z a v ++ (hk Z cd (kp, Y) ++ rk Z d w))) t) (va_A ([(h, .inr (7, [.ref (a 0), .ref (cd 0), .ref s1, .ref s2, .ref (d 0), .ref g]))] ++ (ck Z a v ++ (hk Z cd (kp, Y) ++ rk Z d w))) sz)) 0 0 (va_A ([(h, .inr (7, [.ref (a 0), .ref (cd 0), .ref s1, .ref s2, .ref (d 0), .ref g]))] ++ (ck Z a v ++ (hk Z cd (kp, Y) ++ rk Z d w))) sz) := by
  obtain ⟨st, off, car, fa, wr, tr, ho, ra, ti⟩ := v
  obtain ⟨si, le, pp, nu, od, va, ai, rd, hh⟩ := w
  refine Met.ofW (cc := cX7_count) (maxL := 2) (ret := (some .int)) (by decide) rfl ?_
  intro p e s m args below meth c s₁ B hml hv
  have hx := B.exec
  have hb := B.bytes
  have hr := B.returns
  have hts := atoms_spec (ws := wsX7_count) B.pre
  have hown : s.vm.findClass RX7 = some m.cls := findClass_of_methodNamed B.named
  have hlocks := B.notSynchronized
  obtain ⟨rfl, hsz, hP, hK, hD, hA, hS, hSW⟩ := zEnter hv
  subst hsz
  generalize va_A ([(h, .inr (7, [.ref (a 0), .ref (cd 0), .ref s1, .ref s2, .ref (d 0), .ref g]))] ++ (ck Z a (st, off, car, fa, wr, tr, ho, ra, ti) ++ (hk Z cd (kp, Y) ++ rk Z d (si, le, pp, nu, od, va, ai, rd, hh)))) s.heap.size = A at hD hA hS hSW ⊢
  have k_10 := hts (.fieldLink RX7 10 "WarmRods" "clock" "LWarmRods$Clock;") (List.mem_of_getElem? (i := 1) rfl)
  have iX7 : ∀ w ∈ u_ws RX7 TX7 6, w ∈ wsX7_count := fun _ h => List.mem_cons_of_mem _ (List.mem_append_left _ (List.mem_append_left _ (List.mem_append_left _ (List.mem_append_left _ (List.mem_append_left _ (List.mem_append_left _ (List.mem_append_right _ h)))))))
  have k_100 : (Cond.fieldLinkNest RX7 100 "WarmRods$Clock" "hours" "I" "WarmRods").before (#[.ref h, .int x] : Array Value) s = true := va_Nw.use rfl (hSW.1.1 _ (List.mem_of_getElem? (i := 6) rfl))
  have iX0 : ∀ w ∈ u_ws RX0 TX0 7, w ∈ wsX7_count := fun _ h => List.mem_cons_of_mem _ (List.mem_append_left _ (List.mem_append_left _ (List.mem_append_left _ (List.mem_append_left _ (List.mem_append_left _ (List.mem_append_right _ h))))))
  have k_72 : (Cond.fieldLinkNest RX7 72 "WarmRods$Clock" "drift" "LWarmRods$Drift;" "WarmRods").before (#[.ref h, .int x] : Array Value) s = true := va_Nw.use rfl (hSW.1.1 _ (List.mem_of_getElem? (i := 3) rfl))
  have k_75 := hts (.fieldLink RX7 75 "WarmRods$Drift" "off" "I") (List.mem_of_getElem? (i := 2) rfl)
  have iX1 : ∀ w ∈ u_ws RX1 TX1 2, w ∈ wsX7_count := fun _ h => List.mem_cons_of_mem _ (List.mem_append_left _ (List.mem_append_left _ (List.mem_append_left _ (List.mem_append_left _ (List.mem_append_right _ h)))))
  have k_82 := hts (.constant RX7 82 (1000000000)) (List.mem_of_getElem? (i := 3) rfl)
  have k_103 := hts (.fieldLink RX7 103 "WarmRods$Drift" "carried" "I") (List.mem_of_getElem? (i := 4) rfl)
  have k_106 : (Cond.fieldLinkNest RX7 106 "WarmRods$Clock" "tray" "I" "WarmRods").before (#[.ref h, .int x] : Array Value) s = true := va_Nw.use rfl (hSW.1.1 _ (List.mem_of_getElem? (i := 5) rfl))
  have k_109 : (Cond.fieldLinkNest RX7 109 "WarmRods$Clock" "timesSet" "I" "WarmRods").before (#[.ref h, .int x] : Array Value) s = true := va_Nw.use rfl (hSW.1.1 _ (List.mem_of_getElem? (i := 8) rfl))
  have k_83 : (Cond.fieldLinkNest RX7 83 "WarmRods$Clock" "log" "LWarmRods$Log;" "WarmRods").before (#[.ref h, .int x] : Array Value) s = true := va_Nw.use rfl (hSW.1.1 _ (List.mem_of_getElem? (i := 4) rfl))
  have k_112 : (Cond.fieldLinkNest RX7 112 "WarmRods$Clock" "radioHours" "I" "WarmRods").before (#[.ref h, .int x] : Array Value) s = true := va_Nw.use rfl (hSW.1.1 _ (List.mem_of_getElem? (i := 7) rfl))
  have k_36 := hts (.fieldLink RX7 36 "WarmRods" "reader" "LWarmRods$Reader;") (List.mem_of_getElem? (i := 5) rfl)
  have k_118 : (Cond.fieldLinkNest RX7 118 "WarmRods$Reader" "pad" "LWarmRods$Pad;" "WarmRods").before (#[.ref h, .int x] : Array Value) s = true := va_Nw.use rfl (hSW.1.1 _ (List.mem_of_getElem? (i := 16) rfl))
  have iX5 : ∀ w ∈ u_ws RX5 TX5 8, w ∈ wsX7_count := fun _ h => List.mem_cons_of_mem _ (List.mem_append_left _ (List.mem_append_left _ (List.mem_append_left _ (List.mem_append_right _ h))))
  have k_122 : (Cond.fieldLinkNest RX7 122 "WarmRods$Pad" "length" "I" "WarmRods").before (#[.ref h, .int x] : Array Value) s = true := va_Nw.use rfl (hSW.1.1 _ (List.mem_of_getElem? (i := 15) rfl))
  have iX4 : ∀ w ∈ u_ws RX4 TX4 2, w ∈ wsX7_count := fun _ h => List.mem_cons_of_mem _ (List.mem_append_left _ (List.mem_append_left _ (List.mem_append_right _ h)))
  have k_19 := hts (.fieldLink RX7 19 "WarmRods" "history" "LWarmRods$History;") (List.mem_of_getElem? (i := 6) rfl)
  have k_126 : (Cond.fieldLinkNest RX7 126 "WarmRods$History" "kept" "I" "WarmRods").before (#[.ref h, .int x] : Array Value) s = true := va_Nw.use rfl (hSW.1.1 _ (List.mem_of_getElem? (i := 10) rfl))
  have iX2 : ∀ w ∈ u_ws RX2 TX2 2, w ∈ wsX7_count := fun _ h => List.mem_cons_of_mem _ (List.mem_append_left _ (List.mem_append_right _ h))
  have hP : va_P G vwCl ([(h, .inr (7, [.ref (a 0), .ref (cd 0), .ref s1, .ref s2, .ref (d 0), .ref g]))] ++ (ck Z a (st, off, car, fa, wr, tr, ho, ra, ti) ++ (hk Z cd (kp, Y) ++ rk Z d (si, le, pp, nu, od, va, ai, rd, hh)))) s.heap := hP
  have hl := lv_entry ([.ref h, .int x]) (n := 2) (Nat.le_of_ble_eq_true rfl)
  rw [lg_entry_eq]
  generalize (lg_sl ([.ref h, .int x]) ++ List.replicate (2 - (lg_sl ([.ref h, .int x])).length) Slot.unset).toArray = ls at hl ⊢
  have hl : lv_has ls 2 [(0, .ref h), (1, .int x)] := hl
  refine lv_iload_n hx hb dX7_count_0 rfl (lv_at hl 1 rfl) ?_
  by_cases c1_0 : x = 0
  · refine lv_tableIn (off := 67) (tgt := 68) hx hb dX7_count_1 (zTin1 c1_0 (by decide)) (zTin2 c1_0 (by decide)) (zTin3 c1_0 (by decide)) (by decide) ?_
    refine lv_aload_n hx hb dX7_count_68 rfl (lv_at hl 0 rfl) ?_
    refine va_get (D := G) (ci := 7) (v := .ref (a 0)) (C := RX7) (T := TX7) (N := 6) hx hb hts iX7 hown hK hP 0 rfl rfl 0 (by decide) k_10 (fun _ h9 => h9) rfl dX7_count_69 ?_
    refine va_getN (D := G) (ci := 0) (v := .int ho) (C := RX0) (T := TX0) (N := 7) hx hb hts iX0 hown hK hP 1 rfl rfl 4 (by decide) k_100 (fun _ h9 => h9) rfl dX7_count_72 ?_
    exact W.iret hx hb hr (zEi () (by
        rw [xCount, if_pos c1_0]) hP hD hS) hS.2.2 dX7_count_75
  by_cases c1_1 : x = 1
  · refine lv_tableIn (off := 75) (tgt := 76) hx hb dX7_count_1 (zTin1 c1_1 (by decide)) (zTin2 c1_1 (by decide)) (zTin3 c1_1 (by decide)) (by decide) ?_
    refine lv_aload_n hx hb dX7_count_76 rfl (lv_at hl 0 rfl) ?_
    refine va_get (D := G) (ci := 7) (v := .ref (a 0)) (C := RX7) (T := TX7) (N := 6) hx hb hts iX7 hown hK hP 0 rfl rfl 0 (by decide) k_10 (fun _ h9 => h9) rfl dX7_count_77 ?_
    refine va_getN (D := G) (ci := 0) (v := .ref (a 2)) (C := RX0) (T := TX0) (N := 7) hx hb hts iX0 hown hK hP 1 rfl rfl 1 (by decide) k_72 (fun _ h9 => h9) rfl dX7_count_80 ?_
    refine va_get (D := G) (ci := 1) (v := .int off) (C := RX1) (T := TX1) (N := 2) hx hb hts iX1 hown hK hP 3 rfl rfl 0 (by decide) k_75 (fun _ h9 => h9) rfl dX7_count_83 ?_
    refine lv_ldc (v := 1000000000) hx hb hown k_82 dX7_count_86 ?_
    refine lv_iadd hx hb dX7_count_88 ?_
    exact W.iret hx hb hr (zEi () (by
        rw [xCount, if_neg c1_0, if_pos c1_1]) hP hD hS) hS.2.2 dX7_count_89
  by_cases c1_2 : x = 2
  · refine lv_tableIn (off := 89) (tgt := 90) hx hb dX7_count_1 (zTin1 c1_2 (by decide)) (zTin2 c1_2 (by decide)) (zTin3 c1_2 (by decide)) (by decide) ?_
    refine lv_aload_n hx hb dX7_count_90 rfl (lv_at hl 0 rfl) ?_
    refine va_get (D := G) (ci := 7) (v := .ref (a 0)) (C := RX7) (T := TX7) (N := 6) hx hb hts iX7 hown hK hP 0 rfl rfl 0 (by decide) k_10 (fun _ h9 => h9) rfl dX7_count_91 ?_
    refine va_getN (D := G) (ci := 0) (v := .ref (a 2)) (C := RX0) (T := TX0) (N := 7) hx hb hts iX0 hown hK hP 1 rfl rfl 1 (by decide) k_72 (fun _ h9 => h9) rfl dX7_count_94 ?_
    refine va_get (D := G) (ci := 1) (v := .int car) (C := RX1) (T := TX1) (N := 2) hx hb hts iX1 hown hK hP 3 rfl rfl 1 (by decide) k_103 (fun _ h9 => h9) rfl dX7_count_97 ?_
    refine lv_sipush (v := 1000) hx hb dX7_count_100 (by decide) ?_
    refine lv_iadd hx hb dX7_count_103 ?_
    exact W.iret hx hb hr (zEi () (by
        rw [xCount, if_neg c1_0, if_neg c1_1, if_pos c1_2]) hP hD hS) hS.2.2 dX7_count_104
  by_cases c1_3 : x = 3
  · refine lv_tableIn (off := 104) (tgt := 105) hx hb dX7_count_1 (zTin1 c1_3 (by decide)) (zTin2 c1_3 (by decide)) (zTin3 c1_3 (by decide)) (by decide) ?_
    refine lv_aload_n hx hb dX7_count_105 rfl (lv_at hl 0 rfl) ?_
    refine va_get (D := G) (ci := 7) (v := .ref (a 0)) (C := RX7) (T := TX7) (N := 6) hx hb hts iX7 hown hK hP 0 rfl rfl 0 (by decide) k_10 (fun _ h9 => h9) rfl dX7_count_106 ?_
    refine va_getN (D := G) (ci := 0) (v := .int tr) (C := RX0) (T := TX0) (N := 7) hx hb hts iX0 hown hK hP 1 rfl rfl 3 (by decide) k_106 (fun _ h9 => h9) rfl dX7_count_109 ?_
    exact W.iret hx hb hr (zEi () (by
        rw [xCount, if_neg c1_0, if_neg c1_1, if_neg c1_2, if_pos c1_3]) hP hD hS) hS.2.2 dX7_count_112
  by_cases c1_4 : x = 4
  · refine lv_tableIn (off := 112) (tgt := 113) hx hb dX7_count_1 (zTin1 c1_4 (by decide)) (zTin2 c1_4 (by decide)) (zTin3 c1_4 (by decide)) (by decide) ?_
    refine lv_aload_n hx hb dX7_count_113 rfl (lv_at hl 0 rfl) ?_
    refine va_get (D := G) (ci := 7) (v := .ref (a 0)) (C := RX7) (T := TX7) (N := 6) hx hb hts iX7 hown hK hP 0 rfl rfl 0 (by decide) k_10 (fun _ h9 => h9) rfl dX7_count_114 ?_
    refine va_getN (D := G) (ci := 0) (v := .int ti) (C := RX0) (T := TX0) (N := 7) hx hb hts iX0 hown hK hP 1 rfl rfl 6 (by decide) k_109 (fun _ h9 => h9) rfl dX7_count_117 ?_
    exact W.iret hx hb hr (zEi () (by
        rw [xCount, if_neg c1_0, if_neg c1_1, if_neg c1_2, if_neg c1_3, if_pos c1_4]) hP hD hS) hS.2.2 dX7_count_120
  by_cases c1_5 : x = 5
  · refine lv_tableIn (off := 120) (tgt := 121) hx hb dX7_count_1 (zTin1 c1_5 (by decide)) (zTin2 c1_5 (by decide)) (zTin3 c1_5 (by decide)) (by decide) ?_
    refine lv_aload_n hx hb dX7_count_121 rfl (lv_at hl 0 rfl) ?_
    refine va_get (D := G) (ci := 7) (v := .ref (a 0)) (C := RX7) (T := TX7) (N := 6) hx hb hts iX7 hown hK hP 0 rfl rfl 0 (by decide) k_10 (fun _ h9 => h9) rfl dX7_count_122 ?_
    refine va_getN (D := G) (ci := 0) (v := .ref (a 3)) (C := RX0) (T := TX0) (N := 7) hx hb hts iX0 hown hK hP 1 rfl rfl 2 (by decide) k_83 (fun _ h9 => h9) rfl dX7_count_125 ?_
    refine zCi (S := Unit) (ws1 := fun u => [(h, .inr (7, [.ref (a 0), .ref (cd 0), .ref s1, .ref s2, .ref (d 0), .ref g]))] ++ (ck Z a (st, off, car, fa, wr, tr, ho, ra, ti) ++ (hk Z cd (kp, Y) ++ rk Z d (si, le, pp, nu, od, va, ai, rd, hh)))) (wr := [(h, .inr (7, [.ref (a 0), .ref (cd 0), .ref s1, .ref s2, .ref (d 0), .ref g])), ((a 0), .inr (0, [.ref (a 1), .ref (a 2), .ref (a 3), .int tr, .int ho, .int ra, .int ti])), ((a 1), .inl (Z 0, 4, .inl st)), ((a 2), .inr (1, [.int off, .int car]))] ++ (hk Z cd (kp, Y) ++ rk Z d (si, le, pp, nu, od, va, ai, rd, hh))) (va_runV (As := []) (rest := []) ⟨hx, hb, hml, hown, hts⟩ (m_X3_length l G Z _ (a 3) (a 4) fa wr) (cwV 0 hts gX7_count_X3_length rfl rfl rfl (by decide +kernel) ⟨Nat.le_of_ble_eq_true rfl, Nat.le_of_ble_eq_true rfl⟩) (zPreV hK hP hD hS hA hSW [4, 5] rfl (by decide) 4 (ci := 3) rfl rfl rfl) rfl rfl hl.1 rfl (lv_room (Nat.le_of_ble_eq_true rfl)) dX7_count_128 ⟨Nat.le_of_ble_eq_true rfl, Nat.le_of_ble_eq_true rfl⟩) hP hD hS hA [4, 5] [0, 1, 2, 3, 6, 7, 8, 9, 10, 11, 12, 13, 14, 15, 16, 17, 18, 19, 20, 21, 22, 23, 24, 25, 26, 27, 28, 29, 30, 31, 32, 33, 34, 35, 36, 37, 38, 39, 40] [0, 1, 2, 3, 39, 40, 4, 5, 6, 7, 8, 9, 10, 11, 12, 13, 14, 15, 16, 17, 18, 19, 20, 21, 22, 23, 24, 25, 26, 27, 28, 29, 30, 31, 32, 33, 34, 35, 36, 37, 38] rfl rfl (by decide) (by decide) (by decide) (fun _ => rfl) (fun r128 u H locs hw128 hP hD hS => ?_)
    try dsimp only at hw128
    subst hw128
    have hP : va_P G vwCl ([(h, .inr (7, [.ref (a 0), .ref (cd 0), .ref s1, .ref s2, .ref (d 0), .ref g]))] ++ (ck Z a (st, off, car, fa, wr, tr, ho, ra, ti) ++ (hk Z cd (kp, Y) ++ rk Z d (si, le, pp, nu, od, va, ai, rd, hh)))) H := hP
    have hD : va_D A ([(h, .inr (7, [.ref (a 0), .ref (cd 0), .ref s1, .ref s2, .ref (d 0), .ref g]))] ++ (ck Z a (st, off, car, fa, wr, tr, ho, ra, ti) ++ (hk Z cd (kp, Y) ++ rk Z d (si, le, pp, nu, od, va, ai, rd, hh)))) := hD
    exact W.iret hx hb hr (zEi () (by
        rw [xCount, if_neg c1_0, if_neg c1_1, if_neg c1_2, if_neg c1_3, if_neg c1_4, if_pos c1_5]) hP hD hS) hS.2.2 dX7_count_131
  by_cases c1_6 : x = 6
  · refine lv_tableIn (off := 131) (tgt := 132) hx hb dX7_count_1 (zTin1 c1_6 (by decide)) (zTin2 c1_6 (by decide)) (zTin3 c1_6 (by decide)) (by decide) ?_
    refine lv_aload_n hx hb dX7_count_132 rfl (lv_at hl 0 rfl) ?_
    refine va_get (D := G) (ci := 7) (v := .ref (a 0)) (C := RX7) (T := TX7) (N := 6) hx hb hts iX7 hown hK hP 0 rfl rfl 0 (by decide) k_10 (fun _ h9 => h9) rfl dX7_count_133 ?_
    refine va_getN (D := G) (ci := 0) (v := .int ra) (C := RX0) (T := TX0) (N := 7) hx hb hts iX0 hown hK hP 1 rfl rfl 5 (by decide) k_112 (fun _ h9 => h9) rfl dX7_count_136 ?_
    exact W.iret hx hb hr (zEi () (by
        rw [xCount, if_neg c1_0, if_neg c1_1, if_neg c1_2, if_neg c1_3, if_neg c1_4, if_neg c1_5, if_pos c1_6]) hP hD hS) hS.2.2 dX7_count_139
  by_cases c1_7 : x = 7
  · refine lv_tableIn (off := 139) (tgt := 140) hx hb dX7_count_1 (zTin1 c1_7 (by decide)) (zTin2 c1_7 (by decide)) (zTin3 c1_7 (by decide)) (by decide) ?_
    refine lv_aload_n hx hb dX7_count_140 rfl (lv_at hl 0 rfl) ?_
    refine va_get (D := G) (ci := 7) (v := .ref (a 0)) (C := RX7) (T := TX7) (N := 6) hx hb hts iX7 hown hK hP 0 rfl rfl 0 (by decide) k_10 (fun _ h9 => h9) rfl dX7_count_141 ?_
    refine lv_iconst (v := 0) hx hb dX7_count_144 (by decide) ?_
    refine zCi (S := Unit) (ws1 := fun u => [(h, .inr (7, [.ref (a 0), .ref (cd 0), .ref s1, .ref s2, .ref (d 0), .ref g]))] ++ (ck Z a (st, off, car, fa, wr, tr, ho, ra, ti) ++ (hk Z cd (kp, Y) ++ rk Z d (si, le, pp, nu, od, va, ai, rd, hh)))) (wr := [(h, .inr (7, [.ref (a 0), .ref (cd 0), .ref s1, .ref s2, .ref (d 0), .ref g]))] ++ (hk Z cd (kp, Y) ++ rk Z d (si, le, pp, nu, od, va, ai, rd, hh))) (va_runV (As := [.int 0]) (rest := []) ⟨hx, hb, hml, hown, hts⟩ (m_X0_setting l G Z _ a st off car fa wr tr ho ra ti 0) (cwV 1 hts gX7_count_X0_setting rfl rfl rfl (by decide +kernel) ⟨Nat.le_of_ble_eq_true rfl, Nat.le_of_ble_eq_true rfl⟩) (zPreV hK hP hD hS hA hSW [1, 2, 3, 4, 5] rfl (by decide) 1 (ci := 0) rfl rfl rfl) rfl rfl hl.1 rfl (lv_room (Nat.le_of_ble_eq_true rfl)) dX7_count_145 ⟨Nat.le_of_ble_eq_true rfl, Nat.le_of_ble_eq_true rfl⟩) hP hD hS hA [1, 2, 3, 4, 5] [0, 6, 7, 8, 9, 10, 11, 12, 13, 14, 15, 16, 17, 18, 19, 20, 21, 22, 23, 24, 25, 26, 27, 28, 29, 30, 31, 32, 33, 34, 35, 36, 37, 38, 39, 40] [0, 36, 37, 38, 39, 40, 1, 2, 3, 4, 5, 6, 7, 8, 9, 10, 11, 12, 13, 14, 15, 16, 17, 18, 19, 20, 21, 22, 23, 24, 25, 26, 27, 28, 29, 30, 31, 32, 33, 34, 35] rfl rfl (by decide) (by decide) (by decide) (fun _ => rfl) (fun r145 u H locs hw145 hP hD hS => ?_)
    try dsimp only at hw145
    subst hw145
    have hP : va_P G vwCl ([(h, .inr (7, [.ref (a 0), .ref (cd 0), .ref s1, .ref s2, .ref (d 0), .ref g]))] ++ (ck Z a (st, off, car, fa, wr, tr, ho, ra, ti) ++ (hk Z cd (kp, Y) ++ rk Z d (si, le, pp, nu, od, va, ai, rd, hh)))) H := hP
    have hD : va_D A ([(h, .inr (7, [.ref (a 0), .ref (cd 0), .ref s1, .ref s2, .ref (d 0), .ref g]))] ++ (ck Z a (st, off, car, fa, wr, tr, ho, ra, ti) ++ (hk Z cd (kp, Y) ++ rk Z d (si, le, pp, nu, od, va, ai, rd, hh)))) := hD
    refine lv_sipush (v := 1000) hx hb dX7_count_148 (by decide) ?_
    refine lv_iadd hx hb dX7_count_151 ?_
    exact W.iret hx hb hr (zEi () (by
        rw [xCount, if_neg c1_0, if_neg c1_1, if_neg c1_2, if_neg c1_3, if_neg c1_4, if_neg c1_5, if_neg c1_6, if_pos c1_7]) hP hD hS) hS.2.2 dX7_count_152
  by_cases c1_8 : x = 8
  · refine lv_tableIn (off := 152) (tgt := 153) hx hb dX7_count_1 (zTin1 c1_8 (by decide)) (zTin2 c1_8 (by decide)) (zTin3 c1_8 (by decide)) (by decide) ?_
    refine lv_aload_n hx hb dX7_count_153 rfl (lv_at hl 0 rfl) ?_
    refine va_get (D := G) (ci := 7) (v := .ref (a 0)) (C := RX7) (T := TX7) (N := 6) hx hb hts iX7 hown hK hP 0 rfl rfl 0 (by decide) k_10 (fun _ h9 => h9) rfl dX7_count_154 ?_
    refine lv_iconst (v := 1) hx hb dX7_count_157 (by decide) ?_
    refine zCi (S := Unit) (ws1 := fun u => [(h, .inr (7, [.ref (a 0), .ref (cd 0), .ref s1, .ref s2, .ref (d 0), .ref g]))] ++ (ck Z a (st, off, car, fa, wr, tr, ho, ra, ti) ++ (hk Z cd (kp, Y) ++ rk Z d (si, le, pp, nu, od, va, ai, rd, hh)))) (wr := [(h, .inr (7, [.ref (a 0), .ref (cd 0), .ref s1, .ref s2, .ref (d 0), .ref g]))] ++ (hk Z cd (kp, Y) ++ rk Z d (si, le, pp, nu, od, va, ai, rd, hh))) (va_runV (As := [.int 1]) (rest := []) ⟨hx, hb, hml, hown, hts⟩ (m_X0_setting l G Z _ a st off car fa wr tr ho ra ti 1) (cwV 1 hts gX7_count_X0_setting rfl rfl rfl (by decide +kernel) ⟨Nat.le_of_ble_eq_true rfl, Nat.le_of_ble_eq_true rfl⟩) (zPreV hK hP hD hS hA hSW [1, 2, 3, 4, 5] rfl (by decide) 1 (ci := 0) rfl rfl rfl) rfl rfl hl.1 rfl (lv_room (Nat.le_of_ble_eq_true rfl)) dX7_count_158 ⟨Nat.le_of_ble_eq_true rfl, Nat.le_of_ble_eq_true rfl⟩) hP hD hS hA [1, 2, 3, 4, 5] [0, 6, 7, 8, 9, 10, 11, 12, 13, 14, 15, 16, 17, 18, 19, 20, 21, 22, 23, 24, 25, 26, 27, 28, 29, 30, 31, 32, 33, 34, 35, 36, 37, 38, 39, 40] [0, 36, 37, 38, 39, 40, 1, 2, 3, 4, 5, 6, 7, 8, 9, 10, 11, 12, 13, 14, 15, 16, 17, 18, 19, 20, 21, 22, 23, 24, 25, 26, 27, 28, 29, 30, 31, 32, 33, 34, 35] rfl rfl (by decide) (by decide) (by decide) (fun _ => rfl) (fun r158 u H locs hw158 hP hD hS => ?_)
    try dsimp only at hw158
    subst hw158
    have hP : va_P G vwCl ([(h, .inr (7, [.ref (a 0), .ref (cd 0), .ref s1, .ref s2, .ref (d 0), .ref g]))] ++ (ck Z a (st, off, car, fa, wr, tr, ho, ra, ti) ++ (hk Z cd (kp, Y) ++ rk Z d (si, le, pp, nu, od, va, ai, rd, hh)))) H := hP
    have hD : va_D A ([(h, .inr (7, [.ref (a 0), .ref (cd 0), .ref s1, .ref s2, .ref (d 0), .ref g]))] ++ (ck Z a (st, off, car, fa, wr, tr, ho, ra, ti) ++ (hk Z cd (kp, Y) ++ rk Z d (si, le, pp, nu, od, va, ai, rd, hh)))) := hD
    refine lv_sipush (v := 1000) hx hb dX7_count_161 (by decide) ?_
    refine lv_iadd hx hb dX7_count_164 ?_
    exact W.iret hx hb hr (zEi () (by
        rw [xCount, if_neg c1_0, if_neg c1_1, if_neg c1_2, if_neg c1_3, if_neg c1_4, if_neg c1_5, if_neg c1_6, if_neg c1_7, if_pos c1_8]) hP hD hS) hS.2.2 dX7_count_165
  by_cases c1_9 : x = 9
  · refine lv_tableIn (off := 165) (tgt := 166) hx hb dX7_count_1 (zTin1 c1_9 (by decide)) (zTin2 c1_9 (by decide)) (zTin3 c1_9 (by decide)) (by decide) ?_
    refine lv_aload_n hx hb dX7_count_166 rfl (lv_at hl 0 rfl) ?_
    refine va_get (D := G) (ci := 7) (v := .ref (a 0)) (C := RX7) (T := TX7) (N := 6) hx hb hts iX7 hown hK hP 0 rfl rfl 0 (by decide) k_10 (fun _ h9 => h9) rfl dX7_count_167 ?_
    refine lv_iconst (v := 2) hx hb dX7_count_170 (by decide) ?_
    refine zCi (S := Unit) (ws1 := fun u => [(h, .inr (7, [.ref (a 0), .ref (cd 0), .ref s1, .ref s2, .ref (d 0), .ref g]))] ++ (ck Z a (st, off, car, fa, wr, tr, ho, ra, ti) ++ (hk Z cd (kp, Y) ++ rk Z d (si, le, pp, nu, od, va, ai, rd, hh)))) (wr := [(h, .inr (7, [.ref (a 0), .ref (cd 0), .ref s1, .ref s2, .ref (d 0), .ref g]))] ++ (hk Z cd (kp, Y) ++ rk Z d (si, le, pp, nu, od, va, ai, rd, hh))) (va_runV (As := [.int 2]) (rest := []) ⟨hx, hb, hml, hown, hts⟩ (m_X0_setting l G Z _ a st off car fa wr tr ho ra ti 2) (cwV 1 hts gX7_count_X0_setting rfl rfl rfl (by decide +kernel) ⟨Nat.le_of_ble_eq_true rfl, Nat.le_of_ble_eq_true rfl⟩) (zPreV hK hP hD hS hA hSW [1, 2, 3, 4, 5] rfl (by decide) 1 (ci := 0) rfl rfl rfl) rfl rfl hl.1 rfl (lv_room (Nat.le_of_ble_eq_true rfl)) dX7_count_171 ⟨Nat.le_of_ble_eq_true rfl, Nat.le_of_ble_eq_true rfl⟩) hP hD hS hA [1, 2, 3, 4, 5] [0, 6, 7, 8, 9, 10, 11, 12, 13, 14, 15, 16, 17, 18, 19, 20, 21, 22, 23, 24, 25, 26, 27, 28, 29, 30, 31, 32, 33, 34, 35, 36, 37, 38, 39, 40] [0, 36, 37, 38, 39, 40, 1, 2, 3, 4, 5, 6, 7, 8, 9, 10, 11, 12, 13, 14, 15, 16, 17, 18, 19, 20, 21, 22, 23, 24, 25, 26, 27, 28, 29, 30, 31, 32, 33, 34, 35] rfl rfl (by decide) (by decide) (by decide) (fun _ => rfl) (fun r171 u H locs hw171 hP hD hS => ?_)
    try dsimp only at hw171
    subst hw171
    have hP : va_P G vwCl ([(h, .inr (7, [.ref (a 0), .ref (cd 0), .ref s1, .ref s2, .ref (d 0), .ref g]))] ++ (ck Z a (st, off, car, fa, wr, tr, ho, ra, ti) ++ (hk Z cd (kp, Y) ++ rk Z d (si, le, pp, nu, od, va, ai, rd, hh)))) H := hP
    have hD : va_D A ([(h, .inr (7, [.ref (a 0), .ref (cd 0), .ref s1, .ref s2, .ref (d 0), .ref g]))] ++ (ck Z a (st, off, car, fa, wr, tr, ho, ra, ti) ++ (hk Z cd (kp, Y) ++ rk Z d (si, le, pp, nu, od, va, ai, rd, hh)))) := hD
    refine lv_sipush (v := 1000) hx hb dX7_count_174 (by decide) ?_
    refine lv_iadd hx hb dX7_count_177 ?_
    exact W.iret hx hb hr (zEi () (by
        rw [xCount, if_neg c1_0, if_neg c1_1, if_neg c1_2, if_neg c1_3, if_neg c1_4, if_neg c1_5, if_neg c1_6, if_neg c1_7, if_neg c1_8, if_pos c1_9]) hP hD hS) hS.2.2 dX7_count_178
  by_cases c1_10 : x = 10
  · refine lv_tableIn (off := 178) (tgt := 179) hx hb dX7_count_1 (zTin1 c1_10 (by decide)) (zTin2 c1_10 (by decide)) (zTin3 c1_10 (by decide)) (by decide) ?_
    refine lv_aload_n hx hb dX7_count_179 rfl (lv_at hl 0 rfl) ?_
    refine va_get (D := G) (ci := 7) (v := .ref (a 0)) (C := RX7) (T := TX7) (N := 6) hx hb hts iX7 hown hK hP 0 rfl rfl 0 (by decide) k_10 (fun _ h9 => h9) rfl dX7_count_180 ?_
    refine lv_iconst (v := 3) hx hb dX7_count_183 (by decide) ?_
    refine zCi (S := Unit) (ws1 := fun u => [(h, .inr (7, [.ref (a 0), .ref (cd 0), .ref s1, .ref s2, .ref (d 0), .ref g]))] ++ (ck Z a (st, off, car, fa, wr, tr, ho, ra, ti) ++ (hk Z cd (kp, Y) ++ rk Z d (si, le, pp, nu, od, va, ai, rd, hh)))) (wr := [(h, .inr (7, [.ref (a 0), .ref (cd 0), .ref s1, .ref s2, .ref (d 0), .ref g]))] ++ (hk Z cd (kp, Y) ++ rk Z d (si, le, pp, nu, od, va, ai, rd, hh))) (va_runV (As := [.int 3]) (rest := []) ⟨hx, hb, hml, hown, hts⟩ (m_X0_setting l G Z _ a st off car fa wr tr ho ra ti 3) (cwV 1 hts gX7_count_X0_setting rfl rfl rfl (by decide +kernel) ⟨Nat.le_of_ble_eq_true rfl, Nat.le_of_ble_eq_true rfl⟩) (zPreV hK hP hD hS hA hSW [1, 2, 3, 4, 5] rfl (by decide) 1 (ci := 0) rfl rfl rfl) rfl rfl hl.1 rfl (lv_room (Nat.le_of_ble_eq_true rfl)) dX7_count_184 ⟨Nat.le_of_ble_eq_true rfl, Nat.le_of_ble_eq_true rfl⟩) hP hD hS hA [1, 2, 3, 4, 5] [0, 6, 7, 8, 9, 10, 11, 12, 13, 14, 15, 16, 17, 18, 19, 20, 21, 22, 23, 24, 25, 26, 27, 28, 29, 30, 31, 32, 33, 34, 35, 36, 37, 38, 39, 40] [0, 36, 37, 38, 39, 40, 1, 2, 3, 4, 5, 6, 7, 8, 9, 10, 11, 12, 13, 14, 15, 16, 17, 18, 19, 20, 21, 22, 23, 24, 25, 26, 27, 28, 29, 30, 31, 32, 33, 34, 35] rfl rfl (by decide) (by decide) (by decide) (fun _ => rfl) (fun r184 u H locs hw184 hP hD hS => ?_)
    try dsimp only at hw184
    subst hw184
    have hP : va_P G vwCl ([(h, .inr (7, [.ref (a 0), .ref (cd 0), .ref s1, .ref s2, .ref (d 0), .ref g]))] ++ (ck Z a (st, off, car, fa, wr, tr, ho, ra, ti) ++ (hk Z cd (kp, Y) ++ rk Z d (si, le, pp, nu, od, va, ai, rd, hh)))) H := hP
    have hD : va_D A ([(h, .inr (7, [.ref (a 0), .ref (cd 0), .ref s1, .ref s2, .ref (d 0), .ref g]))] ++ (ck Z a (st, off, car, fa, wr, tr, ho, ra, ti) ++ (hk Z cd (kp, Y) ++ rk Z d (si, le, pp, nu, od, va, ai, rd, hh)))) := hD
    refine lv_sipush (v := 1000) hx hb dX7_count_187 (by decide) ?_
    refine lv_iadd hx hb dX7_count_190 ?_
    exact W.iret hx hb hr (zEi () (by
        rw [xCount, if_neg c1_0, if_neg c1_1, if_neg c1_2, if_neg c1_3, if_neg c1_4, if_neg c1_5, if_neg c1_6, if_neg c1_7, if_neg c1_8, if_neg c1_9, if_pos c1_10]) hP hD hS) hS.2.2 dX7_count_191
  by_cases c1_11 : x = 11
  · refine lv_tableIn (off := 191) (tgt := 192) hx hb dX7_count_1 (zTin1 c1_11 (by decide)) (zTin2 c1_11 (by decide)) (zTin3 c1_11 (by decide)) (by decide) ?_
    refine lv_aload_n hx hb dX7_count_192 rfl (lv_at hl 0 rfl) ?_
    refine va_get (D := G) (ci := 7) (v := .ref (d 0)) (C := RX7) (T := TX7) (N := 6) hx hb hts iX7 hown hK hP 0 rfl rfl 4 (by decide) k_36 (fun _ h9 => h9) rfl dX7_count_193 ?_
    refine va_getN (D := G) (ci := 5) (v := .ref (d 1)) (C := RX5) (T := TX5) (N := 8) hx hb hts iX5 hown hK hP 38 rfl rfl 0 (by decide) k_118 (fun _ h9 => h9) rfl dX7_count_196 ?_
    refine va_getN (D := G) (ci := 4) (v := .int (nI le)) (C := RX4) (T := TX4) (N := 2) hx hb hts iX4 hown hK hP 39 rfl rfl 1 (by decide) k_122 (fun _ h9 => h9) rfl dX7_count_199 ?_
    exact W.iret hx hb hr (zEi () (by
        rw [xCount, if_neg c1_0, if_neg c1_1, if_neg c1_2, if_neg c1_3, if_neg c1_4, if_neg c1_5, if_neg c1_6, if_neg c1_7, if_neg c1_8, if_neg c1_9, if_neg c1_10, if_pos c1_11]) hP hD hS) hS.2.2 dX7_count_202
  by_cases c1_12 : x = 12
  · refine lv_tableIn (off := 202) (tgt := 203) hx hb dX7_count_1 (zTin1 c1_12 (by decide)) (zTin2 c1_12 (by decide)) (zTin3 c1_12 (by decide)) (by decide) ?_
    refine lv_aload_n hx hb dX7_count_203 rfl (lv_at hl 0 rfl) ?_
    refine va_get (D := G) (ci := 7) (v := .ref (cd 0)) (C := RX7) (T := TX7) (N := 6) hx hb hts iX7 hown hK hP 0 rfl rfl 1 (by decide) k_19 (fun _ h9 => h9) rfl dX7_count_204 ?_
    refine va_getN (D := G) (ci := 2) (v := .int (nI kp)) (C := RX2) (T := TX2) (N := 2) hx hb hts iX2 hown hK hP 6 rfl rfl 1 (by decide) k_126 (fun _ h9 => h9) rfl dX7_count_207 ?_
    exact W.iret hx hb hr (zEi () (by
        rw [xCount, if_neg c1_0, if_neg c1_1, if_neg c1_2, if_neg c1_3, if_neg c1_4, if_neg c1_5, if_neg c1_6, if_neg c1_7, if_neg c1_8, if_neg c1_9, if_neg c1_10, if_neg c1_11, if_pos c1_12]) hP hD hS) hS.2.2 dX7_count_210
  refine lv_tableOut (tgt := 211) hx hb dX7_count_1 (by have hh := @Int32.toInt_inj; have w_0 : ¬ (x).toInt = 0 := fun q => c1_0 (Int32.toInt_inj.mp q); have w_1 : ¬ (x).toInt = 1 := fun q => c1_1 (Int32.toInt_inj.mp q); have w_2 : ¬ (x).toInt = 2 := fun q => c1_2 (Int32.toInt_inj.mp q); have w_3 : ¬ (x).toInt = 3 := fun q => c1_3 (Int32.toInt_inj.mp q); have w_4 : ¬ (x).toInt = 4 := fun q => c1_4 (Int32.toInt_inj.mp q); have w_5 : ¬ (x).toInt = 5 := fun q => c1_5 (Int32.toInt_inj.mp q); have w_6 : ¬ (x).toInt = 6 := fun q => c1_6 (Int32.toInt_inj.mp q); have w_7 : ¬ (x).toInt = 7 := fun q => c1_7 (Int32.toInt_inj.mp q); have w_8 : ¬ (x).toInt = 8 := fun q => c1_8 (Int32.toInt_inj.mp q); have w_9 : ¬ (x).toInt = 9 := fun q => c1_9 (Int32.toInt_inj.mp q); have w_10 : ¬ (x).toInt = 10 := fun q => c1_10 (Int32.toInt_inj.mp q); have w_11 : ¬ (x).toInt = 11 := fun q => c1_11 (Int32.toInt_inj.mp q); have w_12 : ¬ (x).toInt = 12 := fun q => c1_12 (Int32.toInt_inj.mp q); omega) (by decide) ?_
  refine lv_bipush (v := (-2)) hx hb dX7_count_211 (by decide) ?_
  exact W.iret hx hb hr (zEi () (by
      rw [xCount, if_neg c1_0, if_neg c1_1, if_neg c1_2, if_neg c1_3, if_neg c1_4, if_neg c1_5, if_neg c1_6, if_neg c1_7, if_neg c1_8, if_neg c1_9, if_neg c1_10, if_neg c1_11, if_neg c1_12]) hP hD hS) hS.2.2 dX7_count_213

set_option maxHeartbeats 4000000 in
set_option maxRecDepth 100000 in
theorem m_X7_ofLog (l : Launch) (G : va_G) (Z : Nat → ClassId) (sz : Nat) (h : Nat) (a : Nat → Nat) (cd : Nat → Nat) (s1 : Nat) (s2 : Nat) (d : Nat → Nat) (g : Nat) (v : CV) (n : Nat) (x : Int32) (hn : n ≤ 48) (hw : zMin v.2.2.2.2.1 48 = nI n) : Met l yX7_ofLog wsX7_ofLog ({ frames := 3, cells := 0, slots := 0, locals := 68 }) (va_Pc [.ref h, .int x] (zWP G Z sz ([(h, .inr (7, [.ref (a 0), .ref (cd 0), .ref s1, .ref s2, .ref (d 0), .ref g]))] ++ ck Z a v))) (va_Qi (fun (r : Int32) (u : Unit) => r = xOfLog v.2.2.2.1 v.2.2.2.2.1 n x) (fun (u : Unit) t => zB G (va_A ([(h, .inr (7, [.ref (a 0), .ref (cd 0), .ref s1, .ref s2, .ref (d 0), .ref g]))] ++ ck Z a v) sz) ([(h, .inr (7, [.ref (a 0), .ref (cd 0), .ref s1, .ref s2, .ref (d 0), .ref g]))] ++ ck Z a v) t) (va_A ([(h, .inr (7, [.ref (a 0), .ref (cd 0), .ref s1, .ref s2, .ref (d 0), .ref g]))] ++ ck Z a v) sz)) 0 0 (va_A ([(h, .inr (7, [.ref (a 0), .ref (cd 0), .ref s1, .ref s2, .ref (d 0), .ref g]))] ++ ck Z a v) sz) := by
  obtain ⟨st, off, car, fa, wr, tr, ho, ra, ti⟩ := v
  refine Met.ofW (cc := cX7_ofLog) (maxL := 2) (ret := (some .int)) (by decide) rfl ?_
  intro p e s m args below meth c s₁ B hml hv
  have hx := B.exec
  have hb := B.bytes
  have hr := B.returns
  have hts := atoms_spec (ws := wsX7_ofLog) B.pre
  have hown : s.vm.findClass RX7 = some m.cls := findClass_of_methodNamed B.named
  have hlocks := B.notSynchronized
  obtain ⟨rfl, hsz, hP, hK, hD, hA, hS, hSW⟩ := zEnter hv
  subst hsz
  generalize va_A ([(h, .inr (7, [.ref (a 0), .ref (cd 0), .ref s1, .ref s2, .ref (d 0), .ref g]))] ++ ck Z a (st, off, car, fa, wr, tr, ho, ra, ti)) s.heap.size = A at hD hA hS hSW ⊢
  have k_10 := hts (.fieldLink RX7 10 "WarmRods" "clock" "LWarmRods$Clock;") (List.mem_of_getElem? (i := 1) rfl)
  have iX7 : ∀ w ∈ u_ws RX7 TX7 6, w ∈ wsX7_ofLog := fun _ h => List.mem_cons_of_mem _ (List.mem_append_left _ (List.mem_append_left _ (List.mem_append_right _ h)))
  have k_83 : (Cond.fieldLinkNest RX7 83 "WarmRods$Clock" "log" "LWarmRods$Log;" "WarmRods").before (#[.ref h, .int x] : Array Value) s = true := va_Nw.use rfl (hSW.1.1 _ (List.mem_of_getElem? (i := 4) rfl))
  have iX0 : ∀ w ∈ u_ws RX0 TX0 7, w ∈ wsX7_ofLog := fun _ h => List.mem_cons_of_mem _ (List.mem_append_left _ (List.mem_append_right _ h))
  have k_139 := hts (.constant RX7 139 (100000)) (List.mem_of_getElem? (i := 2) rfl)
  have hP : va_P G vwCl ([(h, .inr (7, [.ref (a 0), .ref (cd 0), .ref s1, .ref s2, .ref (d 0), .ref g]))] ++ ck Z a (st, off, car, fa, wr, tr, ho, ra, ti)) s.heap := hP
  have hl := lv_entry ([.ref h, .int x]) (n := 2) (Nat.le_of_ble_eq_true rfl)
  rw [lg_entry_eq]
  generalize (lg_sl ([.ref h, .int x]) ++ List.replicate (2 - (lg_sl ([.ref h, .int x])).length) Slot.unset).toArray = ls at hl ⊢
  have hl : lv_has ls 2 [(0, .ref h), (1, .int x)] := hl
  refine lv_iload_n hx hb dX7_ofLog_0 rfl (lv_at hl 1 rfl) ?_
  refine lv_if_lt (tgt := 9) hx hb dX7_ofLog_1 (by decide) (fun c1 => ?_) (fun c1 => ?_)
  · refine lv_bipush (v := (-2)) hx hb dX7_ofLog_9 (by decide) ?_
    exact W.iret hx hb hr (zEi () (by
        simp only [xOfLog, c1, Int32.not_le.mpr c1, ↓reduceIte]) hP hD hS) hS.2.2 dX7_ofLog_11
  · refine lv_iload_n hx hb dX7_ofLog_4 rfl (lv_at hl 1 rfl) ?_
    refine lv_iconst (v := 4) hx hb dX7_ofLog_5 (by decide) ?_
    refine lv_icmp_le (tgt := 12) hx hb dX7_ofLog_6 (by decide) (fun c6 => ?_) (fun c6 => ?_)
    · refine lv_aload_n hx hb dX7_ofLog_12 rfl (lv_at hl 0 rfl) ?_
      refine va_get (D := G) (ci := 7) (v := .ref (a 0)) (C := RX7) (T := TX7) (N := 6) hx hb hts iX7 hown hK hP 0 rfl rfl 0 (by decide) k_10 (fun _ h9 => h9) rfl dX7_ofLog_13 ?_
      refine va_getN (D := G) (ci := 0) (v := .ref (a 3)) (C := RX0) (T := TX0) (N := 7) hx hb hts iX0 hown hK hP 1 rfl rfl 2 (by decide) k_83 (fun _ h9 => h9) rfl dX7_ofLog_16 ?_
      refine zCi (S := Unit) (ws1 := fun u => [(h, .inr (7, [.ref (a 0), .ref (cd 0), .ref s1, .ref s2, .ref (d 0), .ref g]))] ++ ck Z a (st, off, car, fa, wr, tr, ho, ra, ti)) (wr := [(h, .inr (7, [.ref (a 0), .ref (cd 0), .ref s1, .ref s2, .ref (d 0), .ref g])), ((a 0), .inr (0, [.ref (a 1), .ref (a 2), .ref (a 3), .int tr, .int ho, .int ra, .int ti])), ((a 1), .inl (Z 0, 4, .inl st)), ((a 2), .inr (1, [.int off, .int car]))]) (va_runV (As := []) (rest := []) ⟨hx, hb, hml, hown, hts⟩ (m_X3_length l G Z _ (a 3) (a 4) fa wr) (cwV 0 hts gX7_ofLog_X3_length rfl rfl rfl (by decide +kernel) ⟨Nat.le_of_ble_eq_true rfl, Nat.le_of_ble_eq_true rfl⟩) (zPreV hK hP hD hS hA hSW [4, 5] rfl (by decide) 4 (ci := 3) rfl rfl rfl) rfl rfl hl.1 rfl (lv_room (Nat.le_of_ble_eq_true rfl)) dX7_ofLog_19 ⟨Nat.le_of_ble_eq_true rfl, Nat.le_of_ble_eq_true rfl⟩) hP hD hS hA [4, 5] [0, 1, 2, 3] [0, 1, 2, 3, 4, 5] rfl rfl (by decide) (by decide) (by decide) (fun _ => rfl) (fun r19 u H locs hw19 hP hD hS => ?_)
      try dsimp only at hw19
      subst hw19
      have hP : va_P G vwCl ([(h, .inr (7, [.ref (a 0), .ref (cd 0), .ref s1, .ref s2, .ref (d 0), .ref g]))] ++ ck Z a (st, off, car, fa, wr, tr, ho, ra, ti)) H := hP
      have hD : va_D A ([(h, .inr (7, [.ref (a 0), .ref (cd 0), .ref s1, .ref s2, .ref (d 0), .ref g]))] ++ ck Z a (st, off, car, fa, wr, tr, ho, ra, ti)) := hD
      refine lv_if_ne (tgt := 28) hx hb dX7_ofLog_22 (by decide) (fun c22 => ?_) (fun c22 => ?_)
      · refine lv_iload_n hx hb dX7_ofLog_28 rfl (lv_at hl 1 rfl) ?_
        by_cases c29_0 : x = 0
        · refine lv_tableIn (off := 31) (tgt := 60) hx hb dX7_ofLog_29 (zTin1 c29_0 (by decide)) (zTin2 c29_0 (by decide)) (zTin3 c29_0 (by decide)) (by decide) ?_
          refine lv_aload_n hx hb dX7_ofLog_60 rfl (lv_at hl 0 rfl) ?_
          refine va_get (D := G) (ci := 7) (v := .ref (a 0)) (C := RX7) (T := TX7) (N := 6) hx hb hts iX7 hown hK hP 0 rfl rfl 0 (by decide) k_10 (fun _ h9 => h9) rfl dX7_ofLog_61 ?_
          refine va_getN (D := G) (ci := 0) (v := .ref (a 3)) (C := RX0) (T := TX0) (N := 7) hx hb hts iX0 hown hK hP 1 rfl rfl 2 (by decide) k_83 (fun _ h9 => h9) rfl dX7_ofLog_64 ?_
          refine zCi (S := Unit) (ws1 := fun u => [(h, .inr (7, [.ref (a 0), .ref (cd 0), .ref s1, .ref s2, .ref (d 0), .ref g]))] ++ ck Z a (st, off, car, fa, wr, tr, ho, ra, ti)) (wr := [(h, .inr (7, [.ref (a 0), .ref (cd 0), .ref s1, .ref s2, .ref (d 0), .ref g])), ((a 0), .inr (0, [.ref (a 1), .ref (a 2), .ref (a 3), .int tr, .int ho, .int ra, .int ti])), ((a 1), .inl (Z 0, 4, .inl st)), ((a 2), .inr (1, [.int off, .int car]))]) (va_runV (As := []) (rest := []) ⟨hx, hb, hml, hown, hts⟩ (m_X3_greatestRate l G Z _ (a 3) (a 4) fa wr n (by
              exact hn) (by
              exact hw)) (cwV 0 hts gX7_ofLog_X3_greatestRate rfl rfl rfl (by decide +kernel) ⟨Nat.le_of_ble_eq_true rfl, Nat.le_of_ble_eq_true rfl⟩) (zPreV hK hP hD hS hA hSW [4, 5] rfl (by decide) 4 (ci := 3) rfl rfl rfl) rfl rfl hl.1 rfl (lv_room (Nat.le_of_ble_eq_true rfl)) dX7_ofLog_67 ⟨Nat.le_of_ble_eq_true rfl, Nat.le_of_ble_eq_true rfl⟩) hP hD hS hA [4, 5] [0, 1, 2, 3] [0, 1, 2, 3, 4, 5] rfl rfl (by decide) (by decide) (by decide) (fun _ => rfl) (fun r67 u H locs hw67 hP hD hS => ?_)
          try dsimp only at hw67
          subst hw67
          have hP : va_P G vwCl ([(h, .inr (7, [.ref (a 0), .ref (cd 0), .ref s1, .ref s2, .ref (d 0), .ref g]))] ++ ck Z a (st, off, car, fa, wr, tr, ho, ra, ti)) H := hP
          have hD : va_D A ([(h, .inr (7, [.ref (a 0), .ref (cd 0), .ref s1, .ref s2, .ref (d 0), .ref g]))] ++ ck Z a (st, off, car, fa, wr, tr, ho, ra, ti)) := hD
          refine lv_ldc (v := 100000) hx hb hown k_139 dX7_ofLog_70 ?_
          refine lv_iadd hx hb dX7_ofLog_72 ?_
          exact W.iret hx hb hr (zEi () (by
              rw [xOfLog, if_neg c1, if_pos c6, if_neg c22, if_pos c29_0]) hP hD hS) hS.2.2 dX7_ofLog_73
        by_cases c29_1 : x = 1
        · refine lv_tableIn (off := 45) (tgt := 74) hx hb dX7_ofLog_29 (zTin1 c29_1 (by decide)) (zTin2 c29_1 (by decide)) (zTin3 c29_1 (by decide)) (by decide) ?_
          refine lv_aload_n hx hb dX7_ofLog_74 rfl (lv_at hl 0 rfl) ?_
          refine va_get (D := G) (ci := 7) (v := .ref (a 0)) (C := RX7) (T := TX7) (N := 6) hx hb hts iX7 hown hK hP 0 rfl rfl 0 (by decide) k_10 (fun _ h9 => h9) rfl dX7_ofLog_75 ?_
          refine va_getN (D := G) (ci := 0) (v := .ref (a 3)) (C := RX0) (T := TX0) (N := 7) hx hb hts iX0 hown hK hP 1 rfl rfl 2 (by decide) k_83 (fun _ h9 => h9) rfl dX7_ofLog_78 ?_
          refine zCi (S := Unit) (ws1 := fun u => [(h, .inr (7, [.ref (a 0), .ref (cd 0), .ref s1, .ref s2, .ref (d 0), .ref g]))] ++ ck Z a (st, off, car, fa, wr, tr, ho, ra, ti)) (wr := [(h, .inr (7, [.ref (a 0), .ref (cd 0), .ref s1, .ref s2, .ref (d 0), .ref g])), ((a 0), .inr (0, [.ref (a 1), .ref (a 2), .ref (a 3), .int tr, .int ho, .int ra, .int ti])), ((a 1), .inl (Z 0, 4, .inl st)), ((a 2), .inr (1, [.int off, .int car]))]) (va_runV (As := []) (rest := []) ⟨hx, hb, hml, hown, hts⟩ (m_X3_leastRate l G Z _ (a 3) (a 4) fa wr n (by
              exact hn) (by
              exact hw)) (cwV 0 hts gX7_ofLog_X3_leastRate rfl rfl rfl (by decide +kernel) ⟨Nat.le_of_ble_eq_true rfl, Nat.le_of_ble_eq_true rfl⟩) (zPreV hK hP hD hS hA hSW [4, 5] rfl (by decide) 4 (ci := 3) rfl rfl rfl) rfl rfl hl.1 rfl (lv_room (Nat.le_of_ble_eq_true rfl)) dX7_ofLog_81 ⟨Nat.le_of_ble_eq_true rfl, Nat.le_of_ble_eq_true rfl⟩) hP hD hS hA [4, 5] [0, 1, 2, 3] [0, 1, 2, 3, 4, 5] rfl rfl (by decide) (by decide) (by decide) (fun _ => rfl) (fun r81 u H locs hw81 hP hD hS => ?_)
          try dsimp only at hw81
          subst hw81
          have hP : va_P G vwCl ([(h, .inr (7, [.ref (a 0), .ref (cd 0), .ref s1, .ref s2, .ref (d 0), .ref g]))] ++ ck Z a (st, off, car, fa, wr, tr, ho, ra, ti)) H := hP
          have hD : va_D A ([(h, .inr (7, [.ref (a 0), .ref (cd 0), .ref s1, .ref s2, .ref (d 0), .ref g]))] ++ ck Z a (st, off, car, fa, wr, tr, ho, ra, ti)) := hD
          refine lv_ldc (v := 100000) hx hb hown k_139 dX7_ofLog_84 ?_
          refine lv_iadd hx hb dX7_ofLog_86 ?_
          exact W.iret hx hb hr (zEi () (by
              rw [xOfLog, if_neg c1, if_pos c6, if_neg c22, if_neg c29_0, if_pos c29_1]) hP hD hS) hS.2.2 dX7_ofLog_87
        by_cases c29_2 : x = 2
        · refine lv_tableIn (off := 59) (tgt := 88) hx hb dX7_ofLog_29 (zTin1 c29_2 (by decide)) (zTin2 c29_2 (by decide)) (zTin3 c29_2 (by decide)) (by decide) ?_
          refine lv_aload_n hx hb dX7_ofLog_88 rfl (lv_at hl 0 rfl) ?_
          refine va_get (D := G) (ci := 7) (v := .ref (a 0)) (C := RX7) (T := TX7) (N := 6) hx hb hts iX7 hown hK hP 0 rfl rfl 0 (by decide) k_10 (fun _ h9 => h9) rfl dX7_ofLog_89 ?_
          refine va_getN (D := G) (ci := 0) (v := .ref (a 3)) (C := RX0) (T := TX0) (N := 7) hx hb hts iX0 hown hK hP 1 rfl rfl 2 (by decide) k_83 (fun _ h9 => h9) rfl dX7_ofLog_92 ?_
          refine lv_iconst (v := 3) hx hb dX7_ofLog_95 (by decide) ?_
          refine zCi (S := Unit) (ws1 := fun u => [(h, .inr (7, [.ref (a 0), .ref (cd 0), .ref s1, .ref s2, .ref (d 0), .ref g]))] ++ ck Z a (st, off, car, fa, wr, tr, ho, ra, ti)) (wr := [(h, .inr (7, [.ref (a 0), .ref (cd 0), .ref s1, .ref s2, .ref (d 0), .ref g])), ((a 0), .inr (0, [.ref (a 1), .ref (a 2), .ref (a 3), .int tr, .int ho, .int ra, .int ti])), ((a 1), .inl (Z 0, 4, .inl st)), ((a 2), .inr (1, [.int off, .int car]))]) (va_runV (As := [.int 3]) (rest := []) ⟨hx, hb, hml, hown, hts⟩ (m_X3_countAboveZero l G Z _ (a 3) (a 4) fa wr 3 n (by
              exact hn) (by
              exact hw)) (cwV 1 hts gX7_ofLog_X3_countAboveZero rfl rfl rfl (by decide +kernel) ⟨Nat.le_of_ble_eq_true rfl, Nat.le_of_ble_eq_true rfl⟩) (zPreV hK hP hD hS hA hSW [4, 5] rfl (by decide) 4 (ci := 3) rfl rfl rfl) rfl rfl hl.1 rfl (lv_room (Nat.le_of_ble_eq_true rfl)) dX7_ofLog_96 ⟨Nat.le_of_ble_eq_true rfl, Nat.le_of_ble_eq_true rfl⟩) hP hD hS hA [4, 5] [0, 1, 2, 3] [0, 1, 2, 3, 4, 5] rfl rfl (by decide) (by decide) (by decide) (fun _ => rfl) (fun r96 u H locs hw96 hP hD hS => ?_)
          try dsimp only at hw96
          subst hw96
          have hP : va_P G vwCl ([(h, .inr (7, [.ref (a 0), .ref (cd 0), .ref s1, .ref s2, .ref (d 0), .ref g]))] ++ ck Z a (st, off, car, fa, wr, tr, ho, ra, ti)) H := hP
          have hD : va_D A ([(h, .inr (7, [.ref (a 0), .ref (cd 0), .ref s1, .ref s2, .ref (d 0), .ref g]))] ++ ck Z a (st, off, car, fa, wr, tr, ho, ra, ti)) := hD
          exact W.iret hx hb hr (zEi () (by
              rw [xOfLog, if_neg c1, if_pos c6, if_neg c22, if_neg c29_0, if_neg c29_1, if_pos c29_2]) hP hD hS) hS.2.2 dX7_ofLog_99
        by_cases c29_3 : x = 3
        · refine lv_tableIn (off := 71) (tgt := 100) hx hb dX7_ofLog_29 (zTin1 c29_3 (by decide)) (zTin2 c29_3 (by decide)) (zTin3 c29_3 (by decide)) (by decide) ?_
          refine lv_aload_n hx hb dX7_ofLog_100 rfl (lv_at hl 0 rfl) ?_
          refine va_get (D := G) (ci := 7) (v := .ref (a 0)) (C := RX7) (T := TX7) (N := 6) hx hb hts iX7 hown hK hP 0 rfl rfl 0 (by decide) k_10 (fun _ h9 => h9) rfl dX7_ofLog_101 ?_
          refine va_getN (D := G) (ci := 0) (v := .ref (a 3)) (C := RX0) (T := TX0) (N := 7) hx hb hts iX0 hown hK hP 1 rfl rfl 2 (by decide) k_83 (fun _ h9 => h9) rfl dX7_ofLog_104 ?_
          refine lv_iconst (v := 5) hx hb dX7_ofLog_107 (by decide) ?_
          refine zCi (S := Unit) (ws1 := fun u => [(h, .inr (7, [.ref (a 0), .ref (cd 0), .ref s1, .ref s2, .ref (d 0), .ref g]))] ++ ck Z a (st, off, car, fa, wr, tr, ho, ra, ti)) (wr := [(h, .inr (7, [.ref (a 0), .ref (cd 0), .ref s1, .ref s2, .ref (d 0), .ref g])), ((a 0), .inr (0, [.ref (a 1), .ref (a 2), .ref (a 3), .int tr, .int ho, .int ra, .int ti])), ((a 1), .inl (Z 0, 4, .inl st)), ((a 2), .inr (1, [.int off, .int car]))]) (va_runV (As := [.int 5]) (rest := []) ⟨hx, hb, hml, hown, hts⟩ (m_X3_countAboveZero l G Z _ (a 3) (a 4) fa wr 5 n (by
              exact hn) (by
              exact hw)) (cwV 1 hts gX7_ofLog_X3_countAboveZero rfl rfl rfl (by decide +kernel) ⟨Nat.le_of_ble_eq_true rfl, Nat.le_of_ble_eq_true rfl⟩) (zPreV hK hP hD hS hA hSW [4, 5] rfl (by decide) 4 (ci := 3) rfl rfl rfl) rfl rfl hl.1 rfl (lv_room (Nat.le_of_ble_eq_true rfl)) dX7_ofLog_108 ⟨Nat.le_of_ble_eq_true rfl, Nat.le_of_ble_eq_true rfl⟩) hP hD hS hA [4, 5] [0, 1, 2, 3] [0, 1, 2, 3, 4, 5] rfl rfl (by decide) (by decide) (by decide) (fun _ => rfl) (fun r108 u H locs hw108 hP hD hS => ?_)
          try dsimp only at hw108
          subst hw108
          have hP : va_P G vwCl ([(h, .inr (7, [.ref (a 0), .ref (cd 0), .ref s1, .ref s2, .ref (d 0), .ref g]))] ++ ck Z a (st, off, car, fa, wr, tr, ho, ra, ti)) H := hP
          have hD : va_D A ([(h, .inr (7, [.ref (a 0), .ref (cd 0), .ref s1, .ref s2, .ref (d 0), .ref g]))] ++ ck Z a (st, off, car, fa, wr, tr, ho, ra, ti)) := hD
          exact W.iret hx hb hr (zEi () (by
              rw [xOfLog, if_neg c1, if_pos c6, if_neg c22, if_neg c29_0, if_neg c29_1, if_neg c29_2, if_pos c29_3]) hP hD hS) hS.2.2 dX7_ofLog_111
        refine lv_tableOut (tgt := 112) hx hb dX7_ofLog_29 (by have hh := @Int32.toInt_inj; have w_0 : ¬ (x).toInt = 0 := fun q => c29_0 (Int32.toInt_inj.mp q); have w_1 : ¬ (x).toInt = 1 := fun q => c29_1 (Int32.toInt_inj.mp q); have w_2 : ¬ (x).toInt = 2 := fun q => c29_2 (Int32.toInt_inj.mp q); have w_3 : ¬ (x).toInt = 3 := fun q => c29_3 (Int32.toInt_inj.mp q); omega) (by decide) ?_
        refine lv_aload_n hx hb dX7_ofLog_112 rfl (lv_at hl 0 rfl) ?_
        refine va_get (D := G) (ci := 7) (v := .ref (a 0)) (C := RX7) (T := TX7) (N := 6) hx hb hts iX7 hown hK hP 0 rfl rfl 0 (by decide) k_10 (fun _ h9 => h9) rfl dX7_ofLog_113 ?_
        refine va_getN (D := G) (ci := 0) (v := .ref (a 3)) (C := RX0) (T := TX0) (N := 7) hx hb hts iX0 hown hK hP 1 rfl rfl 2 (by decide) k_83 (fun _ h9 => h9) rfl dX7_ofLog_116 ?_
        refine zCi (S := Unit) (ws1 := fun u => [(h, .inr (7, [.ref (a 0), .ref (cd 0), .ref s1, .ref s2, .ref (d 0), .ref g]))] ++ ck Z a (st, off, car, fa, wr, tr, ho, ra, ti)) (wr := [(h, .inr (7, [.ref (a 0), .ref (cd 0), .ref s1, .ref s2, .ref (d 0), .ref g])), ((a 0), .inr (0, [.ref (a 1), .ref (a 2), .ref (a 3), .int tr, .int ho, .int ra, .int ti])), ((a 1), .inl (Z 0, 4, .inl st)), ((a 2), .inr (1, [.int off, .int car]))]) (va_runV (As := []) (rest := []) ⟨hx, hb, hml, hown, hts⟩ (m_X3_countOtherTrays l G Z _ (a 3) (a 4) fa wr n (by
            exact hn) (by
            exact hw)) (cwV 0 hts gX7_ofLog_X3_countOtherTrays rfl rfl rfl (by decide +kernel) ⟨Nat.le_of_ble_eq_true rfl, Nat.le_of_ble_eq_true rfl⟩) (zPreV hK hP hD hS hA hSW [4, 5] rfl (by decide) 4 (ci := 3) rfl rfl rfl) rfl rfl hl.1 rfl (lv_room (Nat.le_of_ble_eq_true rfl)) dX7_ofLog_119 ⟨Nat.le_of_ble_eq_true rfl, Nat.le_of_ble_eq_true rfl⟩) hP hD hS hA [4, 5] [0, 1, 2, 3] [0, 1, 2, 3, 4, 5] rfl rfl (by decide) (by decide) (by decide) (fun _ => rfl) (fun r119 u H locs hw119 hP hD hS => ?_)
        try dsimp only at hw119
        subst hw119
        have hP : va_P G vwCl ([(h, .inr (7, [.ref (a 0), .ref (cd 0), .ref s1, .ref s2, .ref (d 0), .ref g]))] ++ ck Z a (st, off, car, fa, wr, tr, ho, ra, ti)) H := hP
        have hD : va_D A ([(h, .inr (7, [.ref (a 0), .ref (cd 0), .ref s1, .ref s2, .ref (d 0), .ref g]))] ++ ck Z a (st, off, car, fa, wr, tr, ho, ra, ti)) := hD
        exact W.iret hx hb hr (zEi () (by
            rw [xOfLog, if_neg c1, if_pos c6, if_neg c22, if_neg c29_0, if_neg c29_1, if_neg c29_2, if_neg c29_3]) hP hD hS) hS.2.2 dX7_ofLog_122
      · refine lv_bipush (v := (-6)) hx hb dX7_ofLog_25 (by decide) ?_
        exact W.iret hx hb hr (zEi () (by
            simp only [xOfLog, c1, Int32.not_lt.mp c1, c6, Int32.not_lt.mpr c6, eq_true c22, ↓reduceIte]) hP hD hS) hS.2.2 dX7_ofLog_27
    · refine lv_bipush (v := (-2)) hx hb dX7_ofLog_9 (by decide) ?_
      exact W.iret hx hb hr (zEi () (by
          simp only [xOfLog, c1, Int32.not_lt.mp c1, c6, Int32.not_le.mp c6, ↓reduceIte]) hP hD hS) hS.2.2 dX7_ofLog_11

set_option maxHeartbeats 4000000 in
set_option maxRecDepth 100000 in
theorem m_X7_rate (l : Launch) (G : va_G) (Z : Nat → ClassId) (sz : Nat) (h : Nat) (a : Nat → Nat) (cd : Nat → Nat) (s1 : Nat) (s2 : Nat) (d : Nat → Nat) (g : Nat) (v : CV) (ht : Int32) (ar : Int32)  : Met l yX7_rate wsX7_rate ({ frames := 3, cells := 0, slots := 0, locals := 65 }) (va_Pc [.ref h, .int ht, .int ar] (zWP G Z sz ([(h, .inr (7, [.ref (a 0), .ref (cd 0), .ref s1, .ref s2, .ref (d 0), .ref g]))] ++ ck Z a v))) (va_Qi (fun (r : Int32) (u : Unit) => r = xRate v.1 (vTr v) ht ar) (fun (u : Unit) t => zB G (va_A ([(h, .inr (7, [.ref (a 0), .ref (cd 0), .ref s1, .ref s2, .ref (d 0), .ref g]))] ++ ck Z a v) sz) ([(h, .inr (7, [.ref (a 0), .ref (cd 0), .ref s1, .ref s2, .ref (d 0), .ref g]))] ++ ck Z a v) t) (va_A ([(h, .inr (7, [.ref (a 0), .ref (cd 0), .ref s1, .ref s2, .ref (d 0), .ref g]))] ++ ck Z a v) sz)) 0 0 (va_A ([(h, .inr (7, [.ref (a 0), .ref (cd 0), .ref s1, .ref s2, .ref (d 0), .ref g]))] ++ ck Z a v) sz) := by
  obtain ⟨st, off, car, fa, wr, tr, ho, ra, ti⟩ := v
  refine Met.ofW (cc := cX7_rate) (maxL := 3) (ret := (some .int)) (by decide) rfl ?_
  intro p e s m args below meth c s₁ B hml hv
  have hx := B.exec
  have hb := B.bytes
  have hr := B.returns
  have hts := atoms_spec (ws := wsX7_rate) B.pre
  have hown : s.vm.findClass RX7 = some m.cls := findClass_of_methodNamed B.named
  have hlocks := B.notSynchronized
  obtain ⟨rfl, hsz, hP, hK, hD, hA, hS, hSW⟩ := zEnter hv
  subst hsz
  generalize va_A ([(h, .inr (7, [.ref (a 0), .ref (cd 0), .ref s1, .ref s2, .ref (d 0), .ref g]))] ++ ck Z a (st, off, car, fa, wr, tr, ho, ra, ti)) s.heap.size = A at hD hA hS hSW ⊢
  have k_10 := hts (.fieldLink RX7 10 "WarmRods" "clock" "LWarmRods$Clock;") (List.mem_of_getElem? (i := 1) rfl)
  have iX7 : ∀ w ∈ u_ws RX7 TX7 6, w ∈ wsX7_rate := fun _ h => List.mem_cons_of_mem _ (List.mem_append_left _ (List.mem_append_right _ h))
  have k_139 := hts (.constant RX7 139 (100000)) (List.mem_of_getElem? (i := 2) rfl)
  have hP : va_P G vwCl ([(h, .inr (7, [.ref (a 0), .ref (cd 0), .ref s1, .ref s2, .ref (d 0), .ref g]))] ++ ck Z a (st, off, car, fa, wr, tr, ho, ra, ti)) s.heap := hP
  have hl := lv_entry ([.ref h, .int ht, .int ar]) (n := 3) (Nat.le_of_ble_eq_true rfl)
  rw [lg_entry_eq]
  generalize (lg_sl ([.ref h, .int ht, .int ar]) ++ List.replicate (3 - (lg_sl ([.ref h, .int ht, .int ar])).length) Slot.unset).toArray = ls at hl ⊢
  have hl : lv_has ls 3 [(0, .ref h), (1, .int ht), (2, .int ar)] := hl
  refine lv_iload_n hx hb dX7_rate_0 rfl (lv_at hl 1 rfl) ?_
  refine zCi (S := Unit) (ws1 := fun u => [(h, .inr (7, [.ref (a 0), .ref (cd 0), .ref s1, .ref s2, .ref (d 0), .ref g]))] ++ ck Z a (st, off, car, fa, wr, tr, ho, ra, ti)) (wr := [(h, .inr (7, [.ref (a 0), .ref (cd 0), .ref s1, .ref s2, .ref (d 0), .ref g]))] ++ ck Z a (st, off, car, fa, wr, tr, ho, ra, ti)) (va_runS (As := [.int ht]) (rest := []) ⟨hx, hb, hml, hown, hts⟩ (m_X7_isHeat l G Z _ ht) (va_cwS 1 hts gX7_rate_X7_isHeat rfl rfl rfl (by decide +kernel) ⟨Nat.le_of_ble_eq_true rfl, Nat.le_of_ble_eq_true rfl⟩) (zPreS hK hP hD hS hA hSW [] rfl (by decide)) rfl rfl hl.1 rfl (lv_room (Nat.le_of_ble_eq_true rfl)) dX7_rate_1 ⟨Nat.le_of_ble_eq_true rfl, Nat.le_of_ble_eq_true rfl⟩) hP hD hS hA [] [0, 1, 2, 3, 4, 5] [0, 1, 2, 3, 4, 5] rfl rfl (by decide) (by decide) (by decide) (fun _ => rfl) (fun r1 u H locs hw1 hP hD hS => ?_)
  try dsimp only at hw1
  subst hw1
  have hP : va_P G vwCl ([(h, .inr (7, [.ref (a 0), .ref (cd 0), .ref s1, .ref s2, .ref (d 0), .ref g]))] ++ ck Z a (st, off, car, fa, wr, tr, ho, ra, ti)) H := hP
  have hD : va_D A ([(h, .inr (7, [.ref (a 0), .ref (cd 0), .ref s1, .ref s2, .ref (d 0), .ref g]))] ++ ck Z a (st, off, car, fa, wr, tr, ho, ra, ti)) := hD
  refine lv_if_eq (tgt := 14) hx hb dX7_rate_4 (by decide) (fun c4 => ?_) (fun c4 => ?_)
  · refine lv_bipush (v := (-2)) hx hb dX7_rate_14 (by decide) ?_
    exact W.iret hx hb hr (zEi () (by
        simp only [xRate, eq_true c4, ↓reduceIte]) hP hD hS) hS.2.2 dX7_rate_16
  · refine lv_iload_n hx hb dX7_rate_7 rfl (lv_at hl 2 rfl) ?_
    refine zCi (S := Unit) (ws1 := fun u => [(h, .inr (7, [.ref (a 0), .ref (cd 0), .ref s1, .ref s2, .ref (d 0), .ref g]))] ++ ck Z a (st, off, car, fa, wr, tr, ho, ra, ti)) (wr := [(h, .inr (7, [.ref (a 0), .ref (cd 0), .ref s1, .ref s2, .ref (d 0), .ref g]))] ++ ck Z a (st, off, car, fa, wr, tr, ho, ra, ti)) (va_runS (As := [.int ar]) (rest := []) ⟨hx, hb, hml, hown, hts⟩ (m_X7_isAir l G Z _ ar) (va_cwS 1 hts gX7_rate_X7_isAir rfl rfl rfl (by decide +kernel) ⟨Nat.le_of_ble_eq_true rfl, Nat.le_of_ble_eq_true rfl⟩) (zPreS hK hP hD hS hA hSW [] rfl (by decide)) rfl rfl hl.1 rfl (lv_room (Nat.le_of_ble_eq_true rfl)) dX7_rate_8 ⟨Nat.le_of_ble_eq_true rfl, Nat.le_of_ble_eq_true rfl⟩) hP hD hS hA [] [0, 1, 2, 3, 4, 5] [0, 1, 2, 3, 4, 5] rfl rfl (by decide) (by decide) (by decide) (fun _ => rfl) (fun r8 u H locs hw8 hP hD hS => ?_)
    try dsimp only at hw8
    subst hw8
    have hP : va_P G vwCl ([(h, .inr (7, [.ref (a 0), .ref (cd 0), .ref s1, .ref s2, .ref (d 0), .ref g]))] ++ ck Z a (st, off, car, fa, wr, tr, ho, ra, ti)) H := hP
    have hD : va_D A ([(h, .inr (7, [.ref (a 0), .ref (cd 0), .ref s1, .ref s2, .ref (d 0), .ref g]))] ++ ck Z a (st, off, car, fa, wr, tr, ho, ra, ti)) := hD
    refine lv_if_ne (tgt := 17) hx hb dX7_rate_11 (by decide) (fun c11 => ?_) (fun c11 => ?_)
    · refine lv_aload_n hx hb dX7_rate_17 rfl (lv_at hl 0 rfl) ?_
      refine va_get (D := G) (ci := 7) (v := .ref (a 0)) (C := RX7) (T := TX7) (N := 6) hx hb hts iX7 hown hK hP 0 rfl rfl 0 (by decide) k_10 (fun _ h9 => h9) rfl dX7_rate_18 ?_
      refine lv_iload_n hx hb dX7_rate_21 rfl (lv_at hl 1 rfl) ?_
      refine lv_iload_n hx hb dX7_rate_22 rfl (lv_at hl 2 rfl) ?_
      refine zCi (S := Unit) (ws1 := fun u => [(h, .inr (7, [.ref (a 0), .ref (cd 0), .ref s1, .ref s2, .ref (d 0), .ref g]))] ++ ck Z a (st, off, car, fa, wr, tr, ho, ra, ti)) (wr := [(h, .inr (7, [.ref (a 0), .ref (cd 0), .ref s1, .ref s2, .ref (d 0), .ref g]))]) (va_runV (As := [.int ht, .int ar]) (rest := []) ⟨hx, hb, hml, hown, hts⟩ (m_X0_rateIn l G Z _ a st off car fa wr tr ho ra ti ht ar) (cwV 2 hts gX7_rate_X0_rateIn rfl rfl rfl (by decide +kernel) ⟨Nat.le_of_ble_eq_true rfl, Nat.le_of_ble_eq_true rfl⟩) (zPreV hK hP hD hS hA hSW [1, 2, 3, 4, 5] rfl (by decide) 1 (ci := 0) rfl rfl rfl) rfl rfl hl.1 rfl (lv_room (Nat.le_of_ble_eq_true rfl)) dX7_rate_23 ⟨Nat.le_of_ble_eq_true rfl, Nat.le_of_ble_eq_true rfl⟩) hP hD hS hA [1, 2, 3, 4, 5] [0] [0, 1, 2, 3, 4, 5] rfl rfl (by decide) (by decide) (by decide) (fun _ => rfl) (fun r23 u H locs hw23 hP hD hS => ?_)
      try dsimp only at hw23
      subst hw23
      have hP : va_P G vwCl ([(h, .inr (7, [.ref (a 0), .ref (cd 0), .ref s1, .ref s2, .ref (d 0), .ref g]))] ++ ck Z a (st, off, car, fa, wr, tr, ho, ra, ti)) H := hP
      have hD : va_D A ([(h, .inr (7, [.ref (a 0), .ref (cd 0), .ref s1, .ref s2, .ref (d 0), .ref g]))] ++ ck Z a (st, off, car, fa, wr, tr, ho, ra, ti)) := hD
      refine lv_ldc (v := 100000) hx hb hown k_139 dX7_rate_26 ?_
      refine lv_iadd hx hb dX7_rate_28 ?_
      exact W.iret hx hb hr (zEi () (by
          simp only [xRate, c4, c11, ↓reduceIte]) hP hD hS) hS.2.2 dX7_rate_29
    · refine lv_bipush (v := (-2)) hx hb dX7_rate_14 (by decide) ?_
      exact W.iret hx hb hr (zEi () (by
          simp only [xRate, c4, eq_true c11, ↓reduceIte]) hP hD hS) hS.2.2 dX7_rate_16

set_option maxHeartbeats 4000000 in
set_option maxRecDepth 100000 in
theorem m_X7_bestWeights (l : Launch) (G : va_G) (Z : Nat → ClassId) (sz : Nat) (h : Nat) (a : Nat → Nat) (cd : Nat → Nat) (s1 : Nat) (s2 : Nat) (d : Nat → Nat) (g : Nat) (v : CV) (ht : Int32) (ar : Int32) (x : Int32)  : Met l yX7_bestWeights wsX7_bestWeights ({ frames := 2, cells := 0, slots := 0, locals := 43 }) (va_Pc [.ref h, .int ht, .int ar, .int x] (zWP G Z sz ([(h, .inr (7, [.ref (a 0), .ref (cd 0), .ref s1, .ref s2, .ref (d 0), .ref g]))] ++ ck Z a v))) (va_Qi (fun (r : Int32) (u : Unit) => r = xBest v.1 ht ar x) (fun (u : Unit) t => zB G (va_A ([(h, .inr (7, [.ref (a 0), .ref (cd 0), .ref s1, .ref s2, .ref (d 0), .ref g]))] ++ ck Z a v) sz) ([(h, .inr (7, [.ref (a 0), .ref (cd 0), .ref s1, .ref s2, .ref (d 0), .ref g]))] ++ ck Z a v) t) (va_A ([(h, .inr (7, [.ref (a 0), .ref (cd 0), .ref s1, .ref s2, .ref (d 0), .ref g]))] ++ ck Z a v) sz)) 0 0 (va_A ([(h, .inr (7, [.ref (a 0), .ref (cd 0), .ref s1, .ref s2, .ref (d 0), .ref g]))] ++ ck Z a v) sz) := by
  obtain ⟨st, off, car, fa, wr, tr, ho, ra, ti⟩ := v
  refine Met.ofW (cc := cX7_bestWeights) (maxL := 7) (ret := (some .int)) (by decide) rfl ?_
  intro p e s m args below meth c s₁ B hml hv
  have hx := B.exec
  have hb := B.bytes
  have hr := B.returns
  have hts := atoms_spec (ws := wsX7_bestWeights) B.pre
  have hown : s.vm.findClass RX7 = some m.cls := findClass_of_methodNamed B.named
  have hlocks := B.notSynchronized
  obtain ⟨rfl, hsz, hP, hK, hD, hA, hS, hSW⟩ := zEnter hv
  subst hsz
  generalize va_A ([(h, .inr (7, [.ref (a 0), .ref (cd 0), .ref s1, .ref s2, .ref (d 0), .ref g]))] ++ ck Z a (st, off, car, fa, wr, tr, ho, ra, ti)) s.heap.size = A at hD hA hS hSW ⊢
  have k_10 := hts (.fieldLink RX7 10 "WarmRods" "clock" "LWarmRods$Clock;") (List.mem_of_getElem? (i := 1) rfl)
  have iX7 : ∀ w ∈ u_ws RX7 TX7 6, w ∈ wsX7_bestWeights := fun _ h => List.mem_cons_of_mem _ (List.mem_append_left _ (List.mem_append_right _ h))
  have k_139 := hts (.constant RX7 139 (100000)) (List.mem_of_getElem? (i := 6) rfl)
  have k_162 := hts (.methodLink RX7 162 Lib.Math.abs.name) (List.mem_of_getElem? (i := 2) rfl)
  have kms_abs := hts (.static Lib.Math.abs.name) (List.mem_of_getElem? (i := 3) rfl)
  have kmi := hts (.initialized "java/lang/Math") (List.mem_of_getElem? (i := 4) rfl)
  have kmc_abs := hts (.code Lib.Math.abs.name Lib.Math.abs.code 1 (some .int)) (List.mem_of_getElem? (i := 5) rfl)
  have hP : va_P G vwCl ([(h, .inr (7, [.ref (a 0), .ref (cd 0), .ref s1, .ref s2, .ref (d 0), .ref g]))] ++ ck Z a (st, off, car, fa, wr, tr, ho, ra, ti)) s.heap := hP
  have hl := lv_entry ([.ref h, .int ht, .int ar, .int x]) (n := 7) (Nat.le_of_ble_eq_true rfl)
  rw [lg_entry_eq]
  generalize (lg_sl ([.ref h, .int ht, .int ar, .int x]) ++ List.replicate (7 - (lg_sl ([.ref h, .int ht, .int ar, .int x])).length) Slot.unset).toArray = ls at hl ⊢
  have hl : lv_has ls 7 [(0, .ref h), (1, .int ht), (2, .int ar), (3, .int x)] := hl
  refine lv_iload_n hx hb dX7_bestWeights_0 rfl (lv_at hl 1 rfl) ?_
  refine zCi (S := Unit) (ws1 := fun u => [(h, .inr (7, [.ref (a 0), .ref (cd 0), .ref s1, .ref s2, .ref (d 0), .ref g]))] ++ ck Z a (st, off, car, fa, wr, tr, ho, ra, ti)) (wr := [(h, .inr (7, [.ref (a 0), .ref (cd 0), .ref s1, .ref s2, .ref (d 0), .ref g]))] ++ ck Z a (st, off, car, fa, wr, tr, ho, ra, ti)) (va_runS (As := [.int ht]) (rest := []) ⟨hx, hb, hml, hown, hts⟩ (m_X7_isHeat l G Z _ ht) (va_cwS 1 hts gX7_bestWeights_X7_isHeat rfl rfl rfl (by decide +kernel) ⟨Nat.le_of_ble_eq_true rfl, Nat.le_of_ble_eq_true rfl⟩) (zPreS hK hP hD hS hA hSW [] rfl (by decide)) rfl rfl hl.1 rfl (lv_room (Nat.le_of_ble_eq_true rfl)) dX7_bestWeights_1 ⟨Nat.le_of_ble_eq_true rfl, Nat.le_of_ble_eq_true rfl⟩) hP hD hS hA [] [0, 1, 2, 3, 4, 5] [0, 1, 2, 3, 4, 5] rfl rfl (by decide) (by decide) (by decide) (fun _ => rfl) (fun r1 u H locs hw1 hP hD hS => ?_)
  try dsimp only at hw1
  subst hw1
  have hP : va_P G vwCl ([(h, .inr (7, [.ref (a 0), .ref (cd 0), .ref s1, .ref s2, .ref (d 0), .ref g]))] ++ ck Z a (st, off, car, fa, wr, tr, ho, ra, ti)) H := hP
  have hD : va_D A ([(h, .inr (7, [.ref (a 0), .ref (cd 0), .ref s1, .ref s2, .ref (d 0), .ref g]))] ++ ck Z a (st, off, car, fa, wr, tr, ho, ra, ti)) := hD
  refine lv_if_eq (tgt := 23) hx hb dX7_bestWeights_4 (by decide) (fun c4 => ?_) (fun c4 => ?_)
  · refine lv_bipush (v := (-2)) hx hb dX7_bestWeights_23 (by decide) ?_
    exact W.iret hx hb hr (zEi () (by
        simp only [xBest, eq_true c4, ↓reduceIte]) hP hD hS) hS.2.2 dX7_bestWeights_25
  · refine lv_iload_n hx hb dX7_bestWeights_7 rfl (lv_at hl 2 rfl) ?_
    refine zCi (S := Unit) (ws1 := fun u => [(h, .inr (7, [.ref (a 0), .ref (cd 0), .ref s1, .ref s2, .ref (d 0), .ref g]))] ++ ck Z a (st, off, car, fa, wr, tr, ho, ra, ti)) (wr := [(h, .inr (7, [.ref (a 0), .ref (cd 0), .ref s1, .ref s2, .ref (d 0), .ref g]))] ++ ck Z a (st, off, car, fa, wr, tr, ho, ra, ti)) (va_runS (As := [.int ar]) (rest := []) ⟨hx, hb, hml, hown, hts⟩ (m_X7_isAir l G Z _ ar) (va_cwS 1 hts gX7_bestWeights_X7_isAir rfl rfl rfl (by decide +kernel) ⟨Nat.le_of_ble_eq_true rfl, Nat.le_of_ble_eq_true rfl⟩) (zPreS hK hP hD hS hA hSW [] rfl (by decide)) rfl rfl hl.1 rfl (lv_room (Nat.le_of_ble_eq_true rfl)) dX7_bestWeights_8 ⟨Nat.le_of_ble_eq_true rfl, Nat.le_of_ble_eq_true rfl⟩) hP hD hS hA [] [0, 1, 2, 3, 4, 5] [0, 1, 2, 3, 4, 5] rfl rfl (by decide) (by decide) (by decide) (fun _ => rfl) (fun r8 u H locs hw8 hP hD hS => ?_)
    try dsimp only at hw8
    subst hw8
    have hP : va_P G vwCl ([(h, .inr (7, [.ref (a 0), .ref (cd 0), .ref s1, .ref s2, .ref (d 0), .ref g]))] ++ ck Z a (st, off, car, fa, wr, tr, ho, ra, ti)) H := hP
    have hD : va_D A ([(h, .inr (7, [.ref (a 0), .ref (cd 0), .ref s1, .ref s2, .ref (d 0), .ref g]))] ++ ck Z a (st, off, car, fa, wr, tr, ho, ra, ti)) := hD
    refine lv_if_eq (tgt := 23) hx hb dX7_bestWeights_11 (by decide) (fun c11 => ?_) (fun c11 => ?_)
    · refine lv_bipush (v := (-2)) hx hb dX7_bestWeights_23 (by decide) ?_
      exact W.iret hx hb hr (zEi () (by
          simp only [xBest, c4, eq_true c11, ↓reduceIte]) hP hD hS) hS.2.2 dX7_bestWeights_25
    · refine lv_iload_n hx hb dX7_bestWeights_14 rfl (lv_at hl 3 rfl) ?_
      refine lv_if_lt (tgt := 23) hx hb dX7_bestWeights_15 (by decide) (fun c15 => ?_) (fun c15 => ?_)
      · refine lv_bipush (v := (-2)) hx hb dX7_bestWeights_23 (by decide) ?_
        exact W.iret hx hb hr (zEi () (by
            simp only [xBest, c4, c11, c15, Int32.not_le.mpr c15, ↓reduceIte]) hP hD hS) hS.2.2 dX7_bestWeights_25
      · refine lv_iload_n hx hb dX7_bestWeights_18 rfl (lv_at hl 3 rfl) ?_
        refine lv_iconst (v := 1) hx hb dX7_bestWeights_19 (by decide) ?_
        refine lv_icmp_le (tgt := 26) hx hb dX7_bestWeights_20 (by decide) (fun c20 => ?_) (fun c20 => ?_)
        · refine lv_aload_n hx hb dX7_bestWeights_26 rfl (lv_at hl 0 rfl) ?_
          refine va_get (D := G) (ci := 7) (v := .ref (a 0)) (C := RX7) (T := TX7) (N := 6) hx hb hts iX7 hown hK hP 0 rfl rfl 0 (by decide) k_10 (fun _ h9 => h9) rfl dX7_bestWeights_27 ?_
          refine lv_iload_n hx hb dX7_bestWeights_30 rfl (lv_at hl 1 rfl) ?_
          refine lv_iload_n hx hb dX7_bestWeights_31 rfl (lv_at hl 2 rfl) ?_
          refine zCi (S := Unit) (ws1 := fun u => [(h, .inr (7, [.ref (a 0), .ref (cd 0), .ref s1, .ref s2, .ref (d 0), .ref g]))] ++ ck Z a (st, off, car, fa, wr, tr, ho, ra, ti)) (wr := [(h, .inr (7, [.ref (a 0), .ref (cd 0), .ref s1, .ref s2, .ref (d 0), .ref g]))]) (va_runV (As := [.int ht, .int ar]) (rest := []) ⟨hx, hb, hml, hown, hts⟩ (m_X0_bareRateIn l G Z _ a st off car fa wr tr ho ra ti ht ar) (cwV 2 hts gX7_bestWeights_X0_bareRateIn rfl rfl rfl (by decide +kernel) ⟨Nat.le_of_ble_eq_true rfl, Nat.le_of_ble_eq_true rfl⟩) (zPreV hK hP hD hS hA hSW [1, 2, 3, 4, 5] rfl (by decide) 1 (ci := 0) rfl rfl rfl) rfl rfl hl.1 rfl (lv_room (Nat.le_of_ble_eq_true rfl)) dX7_bestWeights_32 ⟨Nat.le_of_ble_eq_true rfl, Nat.le_of_ble_eq_true rfl⟩) hP hD hS hA [1, 2, 3, 4, 5] [0] [0, 1, 2, 3, 4, 5] rfl rfl (by decide) (by decide) (by decide) (fun _ => rfl) (fun r32 u H locs hw32 hP hD hS => ?_)
          try dsimp only at hw32
          subst hw32
          have hP : va_P G vwCl ([(h, .inr (7, [.ref (a 0), .ref (cd 0), .ref s1, .ref s2, .ref (d 0), .ref g]))] ++ ck Z a (st, off, car, fa, wr, tr, ho, ra, ti)) H := hP
          have hD : va_D A ([(h, .inr (7, [.ref (a 0), .ref (cd 0), .ref s1, .ref s2, .ref (d 0), .ref g]))] ++ ck Z a (st, off, car, fa, wr, tr, ho, ra, ti)) := hD
          refine lv_istore (lv' := [(4, .int (cBare st ht ar)), (0, .ref h), (1, .int ht), (2, .int ar), (3, .int x)]) hx hb dX7_bestWeights_35 hl (by decide) rfl (fun ls hl => ?_)
          refine lv_iconst (v := 0) hx hb dX7_bestWeights_37 (by decide) ?_
          refine lv_istore (lv' := [(5, .int 0), (4, .int (cBare st ht ar)), (0, .ref h), (1, .int ht), (2, .int ar), (3, .int x)]) hx hb dX7_bestWeights_38 hl (by decide) rfl (fun ls hl => ?_)
          refine lv_iconst (v := 1) hx hb dX7_bestWeights_40 (by decide) ?_
          refine lv_istore (lv' := [(6, .int 1), (5, .int 0), (4, .int (cBare st ht ar)), (0, .ref h), (1, .int ht), (2, .int ar), (3, .int x)]) hx hb dX7_bestWeights_41 hl (by decide) rfl (fun ls hl => ?_)
          refine zLoop (σ := Nat) (nL := 7) (fun zx => [(h, .inr (7, [.ref (a 0), .ref (cd 0), .ref s1, .ref s2, .ref (d 0), .ref g]))] ++ ck Z a (st, off, car, fa, wr, tr, ho, ra, ti)) (fun zx => [(6, .int (nI (zx + 1))), (5, .int (xBw (cBare st ht ar) zx)), (4, .int (cBare st ht ar)), (0, .ref h), (1, .int ht), (2, .int ar), (3, .int x)]) (fun zx => zx ≤ 255) (fun zx => 255 - zx) ?_ 0 (by
              try dsimp only
              omega) hP hD hS (lv_sub hl [0, 1, 2, 3, 4, 5, 6] rfl)
          intro zx hinv43 ih43 H locs ls hP hD hS hl
          obtain ⟨k, rfl⟩ : ∃ z, z = zx := ⟨_, rfl⟩
          try dsimp only at hinv43 ih43
          have hP : va_P G vwCl ([(h, .inr (7, [.ref (a 0), .ref (cd 0), .ref s1, .ref s2, .ref (d 0), .ref g]))] ++ ck Z a (st, off, car, fa, wr, tr, ho, ra, ti)) H := hP
          have hD : va_D A ([(h, .inr (7, [.ref (a 0), .ref (cd 0), .ref s1, .ref s2, .ref (d 0), .ref g]))] ++ ck Z a (st, off, car, fa, wr, tr, ho, ra, ti)) := hD
          have hl : lv_has ls 7 [(6, .int (nI (k + 1))), (5, .int (xBw (cBare st ht ar) k)), (4, .int (cBare st ht ar)), (0, .ref h), (1, .int ht), (2, .int ar), (3, .int x)] := hl
          refine lv_iload hx hb dX7_bestWeights_43 (lv_at hl 0 rfl) ?_
          refine lv_sipush (v := 255) hx hb dX7_bestWeights_45 (by decide) ?_
          refine lv_icmp_gt (tgt := 80) hx hb dX7_bestWeights_48 (by decide) (fun c48 => ?_) (fun c48 => ?_)
          · refine lv_iload_n hx hb dX7_bestWeights_80 rfl (lv_at hl 6 rfl) ?_
            refine lv_if_ne (tgt := 89) hx hb dX7_bestWeights_81 (by decide) (fun c81 => ?_) (fun c81 => ?_)
            · refine lv_iload hx hb dX7_bestWeights_89 (lv_at hl 2 rfl) ?_
              refine lv_iload hx hb dX7_bestWeights_91 (lv_at hl 1 rfl) ?_
              refine lv_iadd hx hb dX7_bestWeights_93 ?_
              refine lv_ldc (v := 100000) hx hb hown k_139 dX7_bestWeights_94 ?_
              refine lv_iadd hx hb dX7_bestWeights_96 ?_
              exact W.iret hx hb hr (zEi () (by
                  have hk := zLt (a := 255) c48 (by omega) (by omega)
                  obtain rfl : k = 255 := by omega
                  simp only [xBest, c4, c11, c15, Int32.not_lt.mp c15, c20, Int32.not_lt.mpr c20, c48, Int32.not_le.mpr c48, c81, ↓reduceIte]) hP hD hS) hS.2.2 dX7_bestWeights_97
            · refine lv_iload hx hb dX7_bestWeights_84 (lv_at hl 1 rfl) ?_
              refine lv_goto (tgt := 97) hx hb dX7_bestWeights_86 (by decide) ?_
              exact W.iret hx hb hr (zEi () (by
                  have hk := zLt (a := 255) c48 (by omega) (by omega)
                  obtain rfl : k = 255 := by omega
                  simp only [xBest, c4, c11, c15, Int32.not_lt.mp c15, c20, Int32.not_lt.mpr c20, c48, Int32.not_le.mpr c48, eq_true c81, ↓reduceIte]) hP hD hS) hS.2.2 dX7_bestWeights_97
          · refine lv_iload hx hb dX7_bestWeights_51 (lv_at hl 2 rfl) ?_
            refine lv_iload hx hb dX7_bestWeights_53 (lv_at hl 0 rfl) ?_
            refine lv_iadd hx hb dX7_bestWeights_55 ?_
            refine va_mabs hx hb (hml.trans hl.1.symm) hown k_162 kms_abs kmi kmc_abs (Nat.le_of_ble_eq_true rfl) (Nat.le_of_ble_eq_true rfl) (Nat.zero_le _) (Nat.zero_le _) dX7_bestWeights_56 ?_
            refine zTopI (y := zAbs ((cBare st ht ar) + (nI (k + 1)))) rfl ?_
            refine lv_iload hx hb dX7_bestWeights_59 (lv_at hl 2 rfl) ?_
            refine lv_iload hx hb dX7_bestWeights_61 (lv_at hl 1 rfl) ?_
            refine lv_iadd hx hb dX7_bestWeights_63 ?_
            refine va_mabs hx hb (hml.trans hl.1.symm) hown k_162 kms_abs kmi kmc_abs (Nat.le_of_ble_eq_true rfl) (Nat.le_of_ble_eq_true rfl) (Nat.zero_le _) (Nat.zero_le _) dX7_bestWeights_64 ?_
            refine zTopI (y := zAbs ((cBare st ht ar) + (xBw (cBare st ht ar) k))) rfl ?_
            refine lv_icmp_ge (tgt := 74) hx hb dX7_bestWeights_67 (by decide) (fun c67 => ?_) (fun c67 => ?_)
            · refine lv_iinc (v := (nI ((k + 1) + 1))) (lv' := [(6, .int (nI ((k + 1) + 1))), (5, .int (xBw (cBare st ht ar) k)), (4, .int (cBare st ht ar)), (0, .ref h), (1, .int ht), (2, .int ar), (3, .int x)]) hx hb dX7_bestWeights_74 hl (k := 0) rfl (nI_succ (k + 1)).symm (by decide) rfl (fun ls hl => ?_)
              refine lv_goto (tgt := 43) hx hb dX7_bestWeights_77 (by decide) ?_
              have e_k : xBw (cBare st ht ar) (k + 1) = (xBw (cBare st ht ar) k) := by simp only [xBw, c4, c11, c15, Int32.not_lt.mp c15, c20, Int32.not_lt.mpr c20, c48, Int32.not_lt.mp c48, c67, Int32.not_lt.mpr c67, ↓reduceIte]
              rw [← e_k] at hl
              exact ih43 (k + 1) (by
                  try dsimp only
                  have hk := zNlt (a := 255) c48 (by omega) (by omega)
                  omega) (by
                  try dsimp only
                  have hk := zNlt (a := 255) c48 (by omega) (by omega)
                  omega) _ _ _ hP hD hS (lv_sub hl [0, 1, 2, 3, 4, 5, 6] rfl)
            · refine lv_iload hx hb dX7_bestWeights_70 (lv_at hl 0 rfl) ?_
              refine lv_istore (lv' := [(5, .int (nI (k + 1))), (6, .int (nI (k + 1))), (4, .int (cBare st ht ar)), (0, .ref h), (1, .int ht), (2, .int ar), (3, .int x)]) hx hb dX7_bestWeights_72 hl (by decide) rfl (fun ls hl => ?_)
              refine lv_iinc (v := (nI ((k + 1) + 1))) (lv' := [(6, .int (nI ((k + 1) + 1))), (5, .int (nI (k + 1))), (4, .int (cBare st ht ar)), (0, .ref h), (1, .int ht), (2, .int ar), (3, .int x)]) hx hb dX7_bestWeights_74 hl (k := 1) rfl (nI_succ (k + 1)).symm (by decide) rfl (fun ls hl => ?_)
              refine lv_goto (tgt := 43) hx hb dX7_bestWeights_77 (by decide) ?_
              have e_k : xBw (cBare st ht ar) (k + 1) = (nI (k + 1)) := by simp only [xBw, c4, c11, c15, Int32.not_lt.mp c15, c20, Int32.not_lt.mpr c20, c48, Int32.not_lt.mp c48, c67, Int32.not_le.mp c67, ↓reduceIte]
              rw [← e_k] at hl
              exact ih43 (k + 1) (by
                  try dsimp only
                  have hk := zNlt (a := 255) c48 (by omega) (by omega)
                  omega) (by
                  try dsimp only
                  have hk := zNlt (a := 255) c48 (by omega) (by omega)
                  omega) _ _ _ hP hD hS (lv_sub hl [0, 1, 2, 3, 4, 5, 6] rfl)
        · refine lv_bipush (v := (-2)) hx hb dX7_bestWeights_23 (by decide) ?_
          exact W.iret hx hb hr (zEi () (by
              simp only [xBest, c4, c11, c15, Int32.not_lt.mp c15, c20, Int32.not_le.mp c20, ↓reduceIte]) hP hD hS) hS.2.2 dX7_bestWeights_25

set_option maxHeartbeats 4000000 in
set_option maxRecDepth 100000 in
theorem m_X7_offIn (l : Launch) (G : va_G) (Z : Nat → ClassId) (sz : Nat) (h : Nat) (a : Nat → Nat) (cd : Nat → Nat) (s1 : Nat) (s2 : Nat) (d : Nat → Nat) (g : Nat) (v : CV) (go : Int32) (gc : Int32) (ht : Int32) (ar : Int32)  : Met l yX7_offIn wsX7_offIn ({ frames := 3, cells := 0, slots := 0, locals := 65 }) (va_Pc [.ref h, .int ht, .int ar] (zWP G Z sz ([(h, .inr (7, [.ref (a 0), .ref (cd 0), .ref s1, .ref s2, .ref (d 0), .ref g]))] ++ (ck Z a v ++ [(g, .inr (1, [.int go, .int gc]))])))) (va_Qi (fun (r : Int32) (u : Int32 × Int32) => r = xOffIn v ht ar) (fun (u : Int32 × Int32) t => zB G (va_A ([(h, .inr (7, [.ref (a 0), .ref (cd 0), .ref s1, .ref s2, .ref (d 0), .ref g]))] ++ (ck Z a v ++ [(g, .inr (1, [.int go, .int gc]))])) sz) ([(h, .inr (7, [.ref (a 0), .ref (cd 0), .ref s1, .ref s2, .ref (d 0), .ref g]))] ++ (ck Z a v ++ [(g, .inr (1, [.int u.1, .int u.2]))])) t) (va_A ([(h, .inr (7, [.ref (a 0), .ref (cd 0), .ref s1, .ref s2, .ref (d 0), .ref g]))] ++ (ck Z a v ++ [(g, .inr (1, [.int go, .int gc]))])) sz)) 0 0 (va_A ([(h, .inr (7, [.ref (a 0), .ref (cd 0), .ref s1, .ref s2, .ref (d 0), .ref g]))] ++ (ck Z a v ++ [(g, .inr (1, [.int go, .int gc]))])) sz) := by
  obtain ⟨st, off, car, fa, wr, tr, ho, ra, ti⟩ := v
  refine Met.ofW (cc := cX7_offIn) (maxL := 6) (ret := (some .int)) (by decide) rfl ?_
  intro p e s m args below meth c s₁ B hml hv
  have hx := B.exec
  have hb := B.bytes
  have hr := B.returns
  have hts := atoms_spec (ws := wsX7_offIn) B.pre
  have hown : s.vm.findClass RX7 = some m.cls := findClass_of_methodNamed B.named
  have hlocks := B.notSynchronized
  obtain ⟨rfl, hsz, hP, hK, hD, hA, hS, hSW⟩ := zEnter hv
  subst hsz
  generalize va_A ([(h, .inr (7, [.ref (a 0), .ref (cd 0), .ref s1, .ref s2, .ref (d 0), .ref g]))] ++ (ck Z a (st, off, car, fa, wr, tr, ho, ra, ti) ++ [(g, .inr (1, [.int go, .int gc]))])) s.heap.size = A at hD hA hS hSW ⊢
  have k_10 := hts (.fieldLink RX7 10 "WarmRods" "clock" "LWarmRods$Clock;") (List.mem_of_getElem? (i := 1) rfl)
  have iX7 : ∀ w ∈ u_ws RX7 TX7 6, w ∈ wsX7_offIn := fun _ h => List.mem_cons_of_mem _ (List.mem_append_left _ (List.mem_append_left _ (List.mem_append_right _ h)))
  have k_43 := hts (.fieldLink RX7 43 "WarmRods" "scratch" "LWarmRods$Drift;") (List.mem_of_getElem? (i := 2) rfl)
  have k_72 : (Cond.fieldLinkNest RX7 72 "WarmRods$Clock" "drift" "LWarmRods$Drift;" "WarmRods").before (#[.ref h, .int ht, .int ar] : Array Value) s = true := va_Nw.use rfl (hSW.1.1 _ (List.mem_of_getElem? (i := 3) rfl))
  have iX0 : ∀ w ∈ u_ws RX0 TX0 7, w ∈ wsX7_offIn := fun _ h => List.mem_cons_of_mem _ (List.mem_append_left _ (List.mem_append_right _ h))
  have hP : va_P G vwCl ([(h, .inr (7, [.ref (a 0), .ref (cd 0), .ref s1, .ref s2, .ref (d 0), .ref g]))] ++ (ck Z a (st, off, car, fa, wr, tr, ho, ra, ti) ++ [(g, .inr (1, [.int go, .int gc]))])) s.heap := hP
  have hl := lv_entry ([.ref h, .int ht, .int ar]) (n := 6) (Nat.le_of_ble_eq_true rfl)
  rw [lg_entry_eq]
  generalize (lg_sl ([.ref h, .int ht, .int ar]) ++ List.replicate (6 - (lg_sl ([.ref h, .int ht, .int ar])).length) Slot.unset).toArray = ls at hl ⊢
  have hl : lv_has ls 6 [(0, .ref h), (1, .int ht), (2, .int ar)] := hl
  refine lv_iload_n hx hb dX7_offIn_0 rfl (lv_at hl 1 rfl) ?_
  refine zCi (S := Unit) (ws1 := fun u => [(h, .inr (7, [.ref (a 0), .ref (cd 0), .ref s1, .ref s2, .ref (d 0), .ref g]))] ++ (ck Z a (st, off, car, fa, wr, tr, ho, ra, ti) ++ [(g, .inr (1, [.int go, .int gc]))])) (wr := [(h, .inr (7, [.ref (a 0), .ref (cd 0), .ref s1, .ref s2, .ref (d 0), .ref g]))] ++ (ck Z a (st, off, car, fa, wr, tr, ho, ra, ti) ++ [(g, .inr (1, [.int go, .int gc]))])) (va_runS (As := [.int ht]) (rest := []) ⟨hx, hb, hml, hown, hts⟩ (m_X7_isHeat l G Z _ ht) (va_cwS 1 hts gX7_offIn_X7_isHeat rfl rfl rfl (by decide +kernel) ⟨Nat.le_of_ble_eq_true rfl, Nat.le_of_ble_eq_true rfl⟩) (zPreS hK hP hD hS hA hSW [] rfl (by decide)) rfl rfl hl.1 rfl (lv_room (Nat.le_of_ble_eq_true rfl)) dX7_offIn_1 ⟨Nat.le_of_ble_eq_true rfl, Nat.le_of_ble_eq_true rfl⟩) hP hD hS hA [] [0, 1, 2, 3, 4, 5, 6] [0, 1, 2, 3, 4, 5, 6] rfl rfl (by decide) (by decide) (by decide) (fun _ => rfl) (fun r1 u H locs hw1 hP hD hS => ?_)
  try dsimp only at hw1
  subst hw1
  have hP : va_P G vwCl ([(h, .inr (7, [.ref (a 0), .ref (cd 0), .ref s1, .ref s2, .ref (d 0), .ref g]))] ++ (ck Z a (st, off, car, fa, wr, tr, ho, ra, ti) ++ [(g, .inr (1, [.int go, .int gc]))])) H := hP
  have hD : va_D A ([(h, .inr (7, [.ref (a 0), .ref (cd 0), .ref s1, .ref s2, .ref (d 0), .ref g]))] ++ (ck Z a (st, off, car, fa, wr, tr, ho, ra, ti) ++ [(g, .inr (1, [.int go, .int gc]))])) := hD
  refine lv_if_eq (tgt := 14) hx hb dX7_offIn_4 (by decide) (fun c4 => ?_) (fun c4 => ?_)
  · refine lv_bipush (v := (-2)) hx hb dX7_offIn_14 (by decide) ?_
    exact W.iret hx hb hr (zEi (go, gc) (by
        simp only [xOffIn, eq_true c4, ↓reduceIte]) hP hD hS) hS.2.2 dX7_offIn_16
  · refine lv_iload_n hx hb dX7_offIn_7 rfl (lv_at hl 2 rfl) ?_
    refine zCi (S := Unit) (ws1 := fun u => [(h, .inr (7, [.ref (a 0), .ref (cd 0), .ref s1, .ref s2, .ref (d 0), .ref g]))] ++ (ck Z a (st, off, car, fa, wr, tr, ho, ra, ti) ++ [(g, .inr (1, [.int go, .int gc]))])) (wr := [(h, .inr (7, [.ref (a 0), .ref (cd 0), .ref s1, .ref s2, .ref (d 0), .ref g]))] ++ (ck Z a (st, off, car, fa, wr, tr, ho, ra, ti) ++ [(g, .inr (1, [.int go, .int gc]))])) (va_runS (As := [.int ar]) (rest := []) ⟨hx, hb, hml, hown, hts⟩ (m_X7_isAir l G Z _ ar) (va_cwS 1 hts gX7_offIn_X7_isAir rfl rfl rfl (by decide +kernel) ⟨Nat.le_of_ble_eq_true rfl, Nat.le_of_ble_eq_true rfl⟩) (zPreS hK hP hD hS hA hSW [] rfl (by decide)) rfl rfl hl.1 rfl (lv_room (Nat.le_of_ble_eq_true rfl)) dX7_offIn_8 ⟨Nat.le_of_ble_eq_true rfl, Nat.le_of_ble_eq_true rfl⟩) hP hD hS hA [] [0, 1, 2, 3, 4, 5, 6] [0, 1, 2, 3, 4, 5, 6] rfl rfl (by decide) (by decide) (by decide) (fun _ => rfl) (fun r8 u H locs hw8 hP hD hS => ?_)
    try dsimp only at hw8
    subst hw8
    have hP : va_P G vwCl ([(h, .inr (7, [.ref (a 0), .ref (cd 0), .ref s1, .ref s2, .ref (d 0), .ref g]))] ++ (ck Z a (st, off, car, fa, wr, tr, ho, ra, ti) ++ [(g, .inr (1, [.int go, .int gc]))])) H := hP
    have hD : va_D A ([(h, .inr (7, [.ref (a 0), .ref (cd 0), .ref s1, .ref s2, .ref (d 0), .ref g]))] ++ (ck Z a (st, off, car, fa, wr, tr, ho, ra, ti) ++ [(g, .inr (1, [.int go, .int gc]))])) := hD
    refine lv_if_ne (tgt := 17) hx hb dX7_offIn_11 (by decide) (fun c11 => ?_) (fun c11 => ?_)
    · refine lv_aload_n hx hb dX7_offIn_17 rfl (lv_at hl 0 rfl) ?_
      refine va_get (D := G) (ci := 7) (v := .ref (a 0)) (C := RX7) (T := TX7) (N := 6) hx hb hts iX7 hown hK hP 0 rfl rfl 0 (by decide) k_10 (fun _ h9 => h9) rfl dX7_offIn_18 ?_
      refine lv_iload_n hx hb dX7_offIn_21 rfl (lv_at hl 1 rfl) ?_
      refine lv_iload_n hx hb dX7_offIn_22 rfl (lv_at hl 2 rfl) ?_
      refine zCi (S := Unit) (ws1 := fun u => [(h, .inr (7, [.ref (a 0), .ref (cd 0), .ref s1, .ref s2, .ref (d 0), .ref g]))] ++ (ck Z a (st, off, car, fa, wr, tr, ho, ra, ti) ++ [(g, .inr (1, [.int go, .int gc]))])) (wr := [(h, .inr (7, [.ref (a 0), .ref (cd 0), .ref s1, .ref s2, .ref (d 0), .ref g])), (g, .inr (1, [.int go, .int gc]))]) (va_runV (As := [.int ht, .int ar]) (rest := []) ⟨hx, hb, hml, hown, hts⟩ (m_X0_rateIn l G Z _ a st off car fa wr tr ho ra ti ht ar) (cwV 2 hts gX7_offIn_X0_rateIn rfl rfl rfl (by decide +kernel) ⟨Nat.le_of_ble_eq_true rfl, Nat.le_of_ble_eq_true rfl⟩) (zPreV hK hP hD hS hA hSW [1, 2, 3, 4, 5] rfl (by decide) 1 (ci := 0) rfl rfl rfl) rfl rfl hl.1 rfl (lv_room (Nat.le_of_ble_eq_true rfl)) dX7_offIn_23 ⟨Nat.le_of_ble_eq_true rfl, Nat.le_of_ble_eq_true rfl⟩) hP hD hS hA [1, 2, 3, 4, 5] [0, 6] [0, 2, 3, 4, 5, 6, 1] rfl rfl (by decide) (by decide) (by decide) (fun _ => rfl) (fun r23 u H locs hw23 hP hD hS => ?_)
      try dsimp only at hw23
      subst hw23
      have hP : va_P G vwCl ([(h, .inr (7, [.ref (a 0), .ref (cd 0), .ref s1, .ref s2, .ref (d 0), .ref g]))] ++ (ck Z a (st, off, car, fa, wr, tr, ho, ra, ti) ++ [(g, .inr (1, [.int go, .int gc]))])) H := hP
      have hD : va_D A ([(h, .inr (7, [.ref (a 0), .ref (cd 0), .ref s1, .ref s2, .ref (d 0), .ref g]))] ++ (ck Z a (st, off, car, fa, wr, tr, ho, ra, ti) ++ [(g, .inr (1, [.int go, .int gc]))])) := hD
      refine lv_istore_n (lv' := [(3, .int (cBare st ht ar + tr)), (0, .ref h), (1, .int ht), (2, .int ar)]) hx hb dX7_offIn_26 rfl hl (by decide) rfl (fun ls hl => ?_)
      refine lv_aload_n hx hb dX7_offIn_27 rfl (lv_at hl 1 rfl) ?_
      refine va_get (D := G) (ci := 7) (v := .ref (a 0)) (C := RX7) (T := TX7) (N := 6) hx hb hts iX7 hown hK hP 0 rfl rfl 0 (by decide) k_10 (fun _ h9 => h9) rfl dX7_offIn_28 ?_
      refine lv_iconst (v := 3) hx hb dX7_offIn_31 (by decide) ?_
      refine zCi (S := Unit) (ws1 := fun u => [(h, .inr (7, [.ref (a 0), .ref (cd 0), .ref s1, .ref s2, .ref (d 0), .ref g]))] ++ (ck Z a (st, off, car, fa, wr, tr, ho, ra, ti) ++ [(g, .inr (1, [.int go, .int gc]))])) (wr := [(h, .inr (7, [.ref (a 0), .ref (cd 0), .ref s1, .ref s2, .ref (d 0), .ref g])), (g, .inr (1, [.int go, .int gc]))]) (va_runV (As := [.int 3]) (rest := []) ⟨hx, hb, hml, hown, hts⟩ (m_X0_setting l G Z _ a st off car fa wr tr ho ra ti 3) (cwV 1 hts gX7_offIn_X0_setting rfl rfl rfl (by decide +kernel) ⟨Nat.le_of_ble_eq_true rfl, Nat.le_of_ble_eq_true rfl⟩) (zPreV hK hP hD hS hA hSW [1, 2, 3, 4, 5] rfl (by decide) 1 (ci := 0) rfl rfl rfl) rfl rfl hl.1 rfl (lv_room (Nat.le_of_ble_eq_true rfl)) dX7_offIn_32 ⟨Nat.le_of_ble_eq_true rfl, Nat.le_of_ble_eq_true rfl⟩) hP hD hS hA [1, 2, 3, 4, 5] [0, 6] [0, 2, 3, 4, 5, 6, 1] rfl rfl (by decide) (by decide) (by decide) (fun _ => rfl) (fun r32 u H locs hw32 hP hD hS => ?_)
      try dsimp only at hw32
      subst hw32
      have hP : va_P G vwCl ([(h, .inr (7, [.ref (a 0), .ref (cd 0), .ref s1, .ref s2, .ref (d 0), .ref g]))] ++ (ck Z a (st, off, car, fa, wr, tr, ho, ra, ti) ++ [(g, .inr (1, [.int go, .int gc]))])) H := hP
      have hD : va_D A ([(h, .inr (7, [.ref (a 0), .ref (cd 0), .ref s1, .ref s2, .ref (d 0), .ref g]))] ++ (ck Z a (st, off, car, fa, wr, tr, ho, ra, ti) ++ [(g, .inr (1, [.int go, .int gc]))])) := hD
      refine lv_istore (lv' := [(4, .int (cSet st 3)), (3, .int (cBare st ht ar + tr)), (0, .ref h), (1, .int ht), (2, .int ar)]) hx hb dX7_offIn_35 hl (by decide) rfl (fun ls hl => ?_)
      refine lv_aload_n hx hb dX7_offIn_37 rfl (lv_at hl 2 rfl) ?_
      refine va_get (D := G) (ci := 7) (v := .ref g) (C := RX7) (T := TX7) (N := 6) hx hb hts iX7 hown hK hP 0 rfl rfl 5 (by decide) k_43 (fun _ h9 => h9) rfl dX7_offIn_38 ?_
      refine lv_aload_n hx hb dX7_offIn_41 rfl (lv_at hl 2 rfl) ?_
      refine va_get (D := G) (ci := 7) (v := .ref (a 0)) (C := RX7) (T := TX7) (N := 6) hx hb hts iX7 hown hK hP 0 rfl rfl 0 (by decide) k_10 (fun _ h9 => h9) rfl dX7_offIn_42 ?_
      refine va_getN (D := G) (ci := 0) (v := .ref (a 2)) (C := RX0) (T := TX0) (N := 7) hx hb hts iX0 hown hK hP 1 rfl rfl 1 (by decide) k_72 (fun _ h9 => h9) rfl dX7_offIn_45 ?_
      refine zCv (S := Unit) (ws1 := fun u => [(h, .inr (7, [.ref (a 0), .ref (cd 0), .ref s1, .ref s2, .ref (d 0), .ref g]))] ++ (ck Z a (st, off, car, fa, wr, tr, ho, ra, ti) ++ [(g, .inr (1, [.int off, .int car]))])) (wr := [(h, .inr (7, [.ref (a 0), .ref (cd 0), .ref s1, .ref s2, .ref (d 0), .ref g])), ((a 0), .inr (0, [.ref (a 1), .ref (a 2), .ref (a 3), .int tr, .int ho, .int ra, .int ti])), ((a 1), .inl (Z 0, 4, .inl st)), ((a 3), .inr (3, [.ref (a 4), .int wr])), ((a 4), .inl (Z 0, 336, .inl fa))]) (va_runV (As := [.ref (a 2)]) (rest := []) ⟨hx, hb, hml, hown, hts⟩ (m_X1_become l G Z _ g go gc (a 2) off car) (cwV 1 hts gX7_offIn_X1_become rfl rfl rfl (by decide +kernel) ⟨Nat.le_of_ble_eq_true rfl, Nat.le_of_ble_eq_true rfl⟩) (zPreV hK hP hD hS hA hSW [6, 3] rfl (by decide) 6 (ci := 1) rfl rfl rfl) rfl rfl hl.1 rfl (lv_room (Nat.le_of_ble_eq_true rfl)) dX7_offIn_48 ⟨Nat.le_of_ble_eq_true rfl, Nat.le_of_ble_eq_true rfl⟩) hP hD hS hA [6, 3] [0, 1, 2, 4, 5] [0, 1, 2, 6, 3, 4, 5] rfl rfl (by decide) (by decide) (by decide) (fun _ => rfl) (fun u H locs hw48 hP hD hS => ?_)
      try dsimp only at hw48
      have hP : va_P G vwCl ([(h, .inr (7, [.ref (a 0), .ref (cd 0), .ref s1, .ref s2, .ref (d 0), .ref g]))] ++ (ck Z a (st, off, car, fa, wr, tr, ho, ra, ti) ++ [(g, .inr (1, [.int off, .int car]))])) H := hP
      have hD : va_D A ([(h, .inr (7, [.ref (a 0), .ref (cd 0), .ref s1, .ref s2, .ref (d 0), .ref g]))] ++ (ck Z a (st, off, car, fa, wr, tr, ho, ra, ti) ++ [(g, .inr (1, [.int off, .int car]))])) := hD
      refine lv_iconst (v := 0) hx hb dX7_offIn_51 (by decide) ?_
      refine lv_istore (lv' := [(5, .int 0), (4, .int (cSet st 3)), (3, .int (cBare st ht ar + tr)), (0, .ref h), (1, .int ht), (2, .int ar)]) hx hb dX7_offIn_52 hl (by decide) rfl (fun ls hl => ?_)
      refine zLoop (σ := Nat × Int32 × Int32 × Nat) (nL := 6) (fun zx => [(h, .inr (7, [.ref (a 0), .ref (cd 0), .ref s1, .ref s2, .ref (d 0), .ref g]))] ++ (ck Z a (st, off, car, fa, wr, tr, ho, ra, ti) ++ [(g, .inr (1, [.int zx.2.1, .int zx.2.2.1]))])) (fun zx => [(5, .int (nI zx.2.2.2)), (4, .int (cSet st 3)), (3, .int (cBare st ht ar + tr)), (0, .ref h), (1, .int ht), (2, .int ar)]) (fun zx => xOf (cBare st ht ar + tr) (cSet st 3) zx.1 zx.2.1 zx.2.2.1 zx.2.2.2 = xOf (cBare st ht ar + tr) (cSet st 3) 5001 off car 0 ∧ zx.1 + zx.2.2.2 = 5001) (fun zx => zx.1) ?_ (5001, off, car, 0) (by
          try dsimp only
          exact ⟨rfl, rfl⟩) hP hD hS (lv_sub hl [0, 1, 2, 3, 4, 5] rfl)
      intro zx hinv54 ih54 H locs ls hP hD hS hl
      obtain ⟨f, o, q, nn⟩ := zx
      try dsimp only at hinv54 ih54
      have hP : va_P G vwCl ([(h, .inr (7, [.ref (a 0), .ref (cd 0), .ref s1, .ref s2, .ref (d 0), .ref g]))] ++ (ck Z a (st, off, car, fa, wr, tr, ho, ra, ti) ++ [(g, .inr (1, [.int o, .int q]))])) H := hP
      have hD : va_D A ([(h, .inr (7, [.ref (a 0), .ref (cd 0), .ref s1, .ref s2, .ref (d 0), .ref g]))] ++ (ck Z a (st, off, car, fa, wr, tr, ho, ra, ti) ++ [(g, .inr (1, [.int o, .int q]))])) := hD
      have hl : lv_has ls 6 [(5, .int (nI nn)), (4, .int (cSet st 3)), (3, .int (cBare st ht ar + tr)), (0, .ref h), (1, .int ht), (2, .int ar)] := hl
      refine lv_iload hx hb dX7_offIn_54 (lv_at hl 0 rfl) ?_
      refine lv_sipush (v := 5000) hx hb dX7_offIn_56 (by decide) ?_
      refine lv_icmp_gt (tgt := 91) hx hb dX7_offIn_59 (by decide) (fun c59 => ?_) (fun c59 => ?_)
      · refine lv_bipush (v := (-6)) hx hb dX7_offIn_91 (by decide) ?_
        exact W.iret hx hb hr (zEi (o, q) (by
            have hk := zLt (a := 5000) c59 (by omega) (by omega)
            simp only [xOffIn, show ¬ zHeat ht = 0 from c4, show ¬ zAir ar = 0 from c11, ↓reduceIte]
            rw [← hinv54.1, show f = 0 by omega]
            rfl) hP hD hS) hS.2.2 dX7_offIn_93
      · refine lv_aload_n hx hb dX7_offIn_62 rfl (lv_at hl 3 rfl) ?_
        refine va_get (D := G) (ci := 7) (v := .ref g) (C := RX7) (T := TX7) (N := 6) hx hb hts iX7 hown hK hP 0 rfl rfl 5 (by decide) k_43 (fun _ h9 => h9) rfl dX7_offIn_63 ?_
        refine lv_iload hx hb dX7_offIn_66 (lv_at hl 1 rfl) ?_
        refine zCi (S := Unit) (ws1 := fun u => [(h, .inr (7, [.ref (a 0), .ref (cd 0), .ref s1, .ref s2, .ref (d 0), .ref g]))] ++ (ck Z a (st, off, car, fa, wr, tr, ho, ra, ti) ++ [(g, .inr (1, [.int o, .int q]))])) (wr := [(h, .inr (7, [.ref (a 0), .ref (cd 0), .ref s1, .ref s2, .ref (d 0), .ref g]))] ++ ck Z a (st, off, car, fa, wr, tr, ho, ra, ti)) (va_runV (As := [.int (cSet st 3)]) (rest := []) ⟨hx, hb, hml, hown, hts⟩ (m_X1_isMoreThan l G Z _ g o q (cSet st 3)) (cwV 1 hts gX7_offIn_X1_isMoreThan rfl rfl rfl (by decide +kernel) ⟨Nat.le_of_ble_eq_true rfl, Nat.le_of_ble_eq_true rfl⟩) (zPreV hK hP hD hS hA hSW [6] rfl (by decide) 6 (ci := 1) rfl rfl rfl) rfl rfl hl.1 rfl (lv_room (Nat.le_of_ble_eq_true rfl)) dX7_offIn_68 ⟨Nat.le_of_ble_eq_true rfl, Nat.le_of_ble_eq_true rfl⟩) hP hD hS hA [6] [0, 1, 2, 3, 4, 5] [0, 1, 2, 3, 4, 5, 6] rfl rfl (by decide) (by decide) (by decide) (fun _ => rfl) (fun r68 u H locs hw68 hP hD hS => ?_)
        try dsimp only at hw68
        subst hw68
        have hP : va_P G vwCl ([(h, .inr (7, [.ref (a 0), .ref (cd 0), .ref s1, .ref s2, .ref (d 0), .ref g]))] ++ (ck Z a (st, off, car, fa, wr, tr, ho, ra, ti) ++ [(g, .inr (1, [.int o, .int q]))])) H := hP
        have hD : va_D A ([(h, .inr (7, [.ref (a 0), .ref (cd 0), .ref s1, .ref s2, .ref (d 0), .ref g]))] ++ (ck Z a (st, off, car, fa, wr, tr, ho, ra, ti) ++ [(g, .inr (1, [.int o, .int q]))])) := hD
        refine lv_if_eq (tgt := 77) hx hb dX7_offIn_71 (by decide) (fun c71 => ?_) (fun c71 => ?_)
        · refine lv_aload_n hx hb dX7_offIn_77 rfl (lv_at hl 3 rfl) ?_
          refine va_get (D := G) (ci := 7) (v := .ref g) (C := RX7) (T := TX7) (N := 6) hx hb hts iX7 hown hK hP 0 rfl rfl 5 (by decide) k_43 (fun _ h9 => h9) rfl dX7_offIn_78 ?_
          refine lv_iload_n hx hb dX7_offIn_81 rfl (lv_at hl 2 rfl) ?_
          refine zCv (S := Unit) (ws1 := fun u => [(h, .inr (7, [.ref (a 0), .ref (cd 0), .ref s1, .ref s2, .ref (d 0), .ref g]))] ++ (ck Z a (st, off, car, fa, wr, tr, ho, ra, ti) ++ [(g, .inr (1, [.int (dOff o q (cBare st ht ar + tr)), .int (dCar q (cBare st ht ar + tr))]))])) (wr := [(h, .inr (7, [.ref (a 0), .ref (cd 0), .ref s1, .ref s2, .ref (d 0), .ref g]))] ++ ck Z a (st, off, car, fa, wr, tr, ho, ra, ti)) (va_runV (As := [.int (cBare st ht ar + tr)]) (rest := []) ⟨hx, hb, hml, hown, hts⟩ (m_X1_addHour l G Z _ g o q (cBare st ht ar + tr)) (cwV 1 hts gX7_offIn_X1_addHour rfl rfl rfl (by decide +kernel) ⟨Nat.le_of_ble_eq_true rfl, Nat.le_of_ble_eq_true rfl⟩) (zPreV hK hP hD hS hA hSW [6] rfl (by decide) 6 (ci := 1) rfl rfl rfl) rfl rfl hl.1 rfl (lv_room (Nat.le_of_ble_eq_true rfl)) dX7_offIn_82 ⟨Nat.le_of_ble_eq_true rfl, Nat.le_of_ble_eq_true rfl⟩) hP hD hS hA [6] [0, 1, 2, 3, 4, 5] [0, 1, 2, 3, 4, 5, 6] rfl rfl (by decide) (by decide) (by decide) (fun _ => rfl) (fun u H locs hw82 hP hD hS => ?_)
          try dsimp only at hw82
          have hP : va_P G vwCl ([(h, .inr (7, [.ref (a 0), .ref (cd 0), .ref s1, .ref s2, .ref (d 0), .ref g]))] ++ (ck Z a (st, off, car, fa, wr, tr, ho, ra, ti) ++ [(g, .inr (1, [.int (dOff o q (cBare st ht ar + tr)), .int (dCar q (cBare st ht ar + tr))]))])) H := hP
          have hD : va_D A ([(h, .inr (7, [.ref (a 0), .ref (cd 0), .ref s1, .ref s2, .ref (d 0), .ref g]))] ++ (ck Z a (st, off, car, fa, wr, tr, ho, ra, ti) ++ [(g, .inr (1, [.int (dOff o q (cBare st ht ar + tr)), .int (dCar q (cBare st ht ar + tr))]))])) := hD
          refine lv_iinc (v := (nI (nn + 1))) (lv' := [(5, .int (nI (nn + 1))), (4, .int (cSet st 3)), (3, .int (cBare st ht ar + tr)), (0, .ref h), (1, .int ht), (2, .int ar)]) hx hb dX7_offIn_85 hl (k := 0) rfl (nI_succ nn).symm (by decide) rfl (fun ls hl => ?_)
          refine lv_goto (tgt := 54) hx hb dX7_offIn_88 (by decide) ?_
          exact ih54 ((f - 1), (dOff o q (cBare st ht ar + tr)), (dCar q (cBare st ht ar + tr)), (nn + 1)) (by
              try dsimp only
              have hk := zNlt (a := 5000) c59 (by omega) (by omega)
              obtain ⟨f, rfl⟩ : ∃ j, f = j + 1 := ⟨f - 1, by omega⟩
              rw [xOf, if_pos c71] at hinv54
              exact ⟨hinv54.1, by omega⟩) (by
              try dsimp only
              have hk := zNlt (a := 5000) c59 (by omega) (by omega)
              omega) _ _ _ hP hD hS (lv_sub hl [0, 1, 2, 3, 4, 5] rfl)
        · refine lv_iload hx hb dX7_offIn_74 (lv_at hl 0 rfl) ?_
          exact W.iret hx hb hr (zEi (o, q) (by
              have hk := zNlt (a := 5000) c59 (by omega) (by omega)
              obtain ⟨f, rfl⟩ : ∃ j, f = j + 1 := ⟨f - 1, by omega⟩
              simp only [xOffIn, show ¬ zHeat ht = 0 from c4, show ¬ zAir ar = 0 from c11, ↓reduceIte]
              rw [← hinv54.1, xOf, if_neg c71]) hP hD hS) hS.2.2 dX7_offIn_76
    · refine lv_bipush (v := (-2)) hx hb dX7_offIn_14 (by decide) ?_
      exact W.iret hx hb hr (zEi (go, gc) (by
          simp only [xOffIn, c4, eq_true c11, ↓reduceIte]) hP hD hS) hS.2.2 dX7_offIn_16

set_option maxHeartbeats 4000000 in
set_option maxRecDepth 100000 in
theorem m_X7_replay (l : Launch) (G : va_G) (Z : Nat → ClassId) (sz : Nat) (h : Nat) (a : Nat → Nat) (cd : Nat → Nat) (s1 : Nat) (s2 : Nat) (d : Nat → Nat) (g : Nat) (v : CV) (go : Int32) (gc : Int32) (n : Nat) (hn : n ≤ 48) (hw : zMin v.2.2.2.2.1 48 = nI n) : Met l yX7_replay wsX7_replay ({ frames := 3, cells := 0, slots := 0, locals := 65 }) (va_Pc [.ref h] (zWP G Z sz ([(h, .inr (7, [.ref (a 0), .ref (cd 0), .ref s1, .ref s2, .ref (d 0), .ref g]))] ++ (ck Z a v ++ [(g, .inr (1, [.int go, .int gc]))])))) (va_Qi (fun (r : Int32) (u : Int32 × Int32) => r = (xRp v.1 v.2.2.2.1 v.2.2.2.2.1 (vTr v) n (0, 0)).1 + 1000000000) (fun (u : Int32 × Int32) t => zB G (va_A ([(h, .inr (7, [.ref (a 0), .ref (cd 0), .ref s1, .ref s2, .ref (d 0), .ref g]))] ++ (ck Z a v ++ [(g, .inr (1, [.int go, .int gc]))])) sz) ([(h, .inr (7, [.ref (a 0), .ref (cd 0), .ref s1, .ref s2, .ref (d 0), .ref g]))] ++ (ck Z a v ++ [(g, .inr (1, [.int u.1, .int u.2]))])) t) (va_A ([(h, .inr (7, [.ref (a 0), .ref (cd 0), .ref s1, .ref s2, .ref (d 0), .ref g]))] ++ (ck Z a v ++ [(g, .inr (1, [.int go, .int gc]))])) sz)) 0 0 (va_A ([(h, .inr (7, [.ref (a 0), .ref (cd 0), .ref s1, .ref s2, .ref (d 0), .ref g]))] ++ (ck Z a v ++ [(g, .inr (1, [.int go, .int gc]))])) sz) := by
  obtain ⟨st, off, car, fa, wr, tr, ho, ra, ti⟩ := v
  have hw : zMin wr 48 = nI n := hw
  refine Met.ofW (cc := cX7_replay) (maxL := 2) (ret := (some .int)) (by decide) rfl ?_
  intro p e s m args below meth c s₁ B hml hv
  have hx := B.exec
  have hb := B.bytes
  have hr := B.returns
  have hts := atoms_spec (ws := wsX7_replay) B.pre
  have hown : s.vm.findClass RX7 = some m.cls := findClass_of_methodNamed B.named
  have hlocks := B.notSynchronized
  obtain ⟨rfl, hsz, hP, hK, hD, hA, hS, hSW⟩ := zEnter hv
  subst hsz
  generalize va_A ([(h, .inr (7, [.ref (a 0), .ref (cd 0), .ref s1, .ref s2, .ref (d 0), .ref g]))] ++ (ck Z a (st, off, car, fa, wr, tr, ho, ra, ti) ++ [(g, .inr (1, [.int go, .int gc]))])) s.heap.size = A at hD hA hS hSW ⊢
  have k_43 := hts (.fieldLink RX7 43 "WarmRods" "scratch" "LWarmRods$Drift;") (List.mem_of_getElem? (i := 1) rfl)
  have iX7 : ∀ w ∈ u_ws RX7 TX7 6, w ∈ wsX7_replay := fun _ h => List.mem_cons_of_mem _ (List.mem_append_left _ (List.mem_append_left _ (List.mem_append_left _ (List.mem_append_right _ h))))
  have k_10 := hts (.fieldLink RX7 10 "WarmRods" "clock" "LWarmRods$Clock;") (List.mem_of_getElem? (i := 2) rfl)
  have k_83 : (Cond.fieldLinkNest RX7 83 "WarmRods$Clock" "log" "LWarmRods$Log;" "WarmRods").before (#[.ref h] : Array Value) s = true := va_Nw.use rfl (hSW.1.1 _ (List.mem_of_getElem? (i := 4) rfl))
  have iX0 : ∀ w ∈ u_ws RX0 TX0 7, w ∈ wsX7_replay := fun _ h => List.mem_cons_of_mem _ (List.mem_append_left _ (List.mem_append_left _ (List.mem_append_right _ h)))
  have k_75 := hts (.fieldLink RX7 75 "WarmRods$Drift" "off" "I") (List.mem_of_getElem? (i := 3) rfl)
  have iX1 : ∀ w ∈ u_ws RX1 TX1 2, w ∈ wsX7_replay := fun _ h => List.mem_cons_of_mem _ (List.mem_append_left _ (List.mem_append_right _ h))
  have k_82 := hts (.constant RX7 82 (1000000000)) (List.mem_of_getElem? (i := 4) rfl)
  have hP : va_P G vwCl ([(h, .inr (7, [.ref (a 0), .ref (cd 0), .ref s1, .ref s2, .ref (d 0), .ref g]))] ++ (ck Z a (st, off, car, fa, wr, tr, ho, ra, ti) ++ [(g, .inr (1, [.int go, .int gc]))])) s.heap := hP
  have hl := lv_entry ([.ref h]) (n := 2) (Nat.le_of_ble_eq_true rfl)
  rw [lg_entry_eq]
  generalize (lg_sl ([.ref h]) ++ List.replicate (2 - (lg_sl ([.ref h])).length) Slot.unset).toArray = ls at hl ⊢
  have hl : lv_has ls 2 [(0, .ref h)] := hl
  refine lv_aload_n hx hb dX7_replay_0 rfl (lv_at hl 0 rfl) ?_
  refine va_get (D := G) (ci := 7) (v := .ref g) (C := RX7) (T := TX7) (N := 6) hx hb hts iX7 hown hK hP 0 rfl rfl 5 (by decide) k_43 (fun _ h9 => h9) rfl dX7_replay_1 ?_
  refine zCv (S := Unit) (ws1 := fun u => [(h, .inr (7, [.ref (a 0), .ref (cd 0), .ref s1, .ref s2, .ref (d 0), .ref g]))] ++ (ck Z a (st, off, car, fa, wr, tr, ho, ra, ti) ++ [(g, .inr (1, [.int 0, .int 0]))])) (wr := [(h, .inr (7, [.ref (a 0), .ref (cd 0), .ref s1, .ref s2, .ref (d 0), .ref g]))] ++ ck Z a (st, off, car, fa, wr, tr, ho, ra, ti)) (va_runV (As := []) (rest := []) ⟨hx, hb, hml, hown, hts⟩ (m_X1_clear l G Z _ g go gc) (cwV 0 hts gX7_replay_X1_clear rfl rfl rfl (by decide +kernel) ⟨Nat.le_of_ble_eq_true rfl, Nat.le_of_ble_eq_true rfl⟩) (zPreV hK hP hD hS hA hSW [6] rfl (by decide) 6 (ci := 1) rfl rfl rfl) rfl rfl hl.1 rfl (lv_room (Nat.le_of_ble_eq_true rfl)) dX7_replay_4 ⟨Nat.le_of_ble_eq_true rfl, Nat.le_of_ble_eq_true rfl⟩) hP hD hS hA [6] [0, 1, 2, 3, 4, 5] [0, 1, 2, 3, 4, 5, 6] rfl rfl (by decide) (by decide) (by decide) (fun _ => rfl) (fun u H locs hw4 hP hD hS => ?_)
  try dsimp only at hw4
  have hP : va_P G vwCl ([(h, .inr (7, [.ref (a 0), .ref (cd 0), .ref s1, .ref s2, .ref (d 0), .ref g]))] ++ (ck Z a (st, off, car, fa, wr, tr, ho, ra, ti) ++ [(g, .inr (1, [.int 0, .int 0]))])) H := hP
  have hD : va_D A ([(h, .inr (7, [.ref (a 0), .ref (cd 0), .ref s1, .ref s2, .ref (d 0), .ref g]))] ++ (ck Z a (st, off, car, fa, wr, tr, ho, ra, ti) ++ [(g, .inr (1, [.int 0, .int 0]))])) := hD
  refine lv_aload_n hx hb dX7_replay_7 rfl (lv_at hl 0 rfl) ?_
  refine va_get (D := G) (ci := 7) (v := .ref (a 0)) (C := RX7) (T := TX7) (N := 6) hx hb hts iX7 hown hK hP 0 rfl rfl 0 (by decide) k_10 (fun _ h9 => h9) rfl dX7_replay_8 ?_
  refine va_getN (D := G) (ci := 0) (v := .ref (a 3)) (C := RX0) (T := TX0) (N := 7) hx hb hts iX0 hown hK hP 1 rfl rfl 2 (by decide) k_83 (fun _ h9 => h9) rfl dX7_replay_11 ?_
  refine zCi (S := Unit) (ws1 := fun u => [(h, .inr (7, [.ref (a 0), .ref (cd 0), .ref s1, .ref s2, .ref (d 0), .ref g]))] ++ (ck Z a (st, off, car, fa, wr, tr, ho, ra, ti) ++ [(g, .inr (1, [.int 0, .int 0]))])) (wr := [(h, .inr (7, [.ref (a 0), .ref (cd 0), .ref s1, .ref s2, .ref (d 0), .ref g])), ((a 0), .inr (0, [.ref (a 1), .ref (a 2), .ref (a 3), .int tr, .int ho, .int ra, .int ti])), ((a 1), .inl (Z 0, 4, .inl st)), ((a 2), .inr (1, [.int off, .int car])), (g, .inr (1, [.int 0, .int 0]))]) (va_runV (As := []) (rest := []) ⟨hx, hb, hml, hown, hts⟩ (m_X3_length l G Z _ (a 3) (a 4) fa wr) (cwV 0 hts gX7_replay_X3_length rfl rfl rfl (by decide +kernel) ⟨Nat.le_of_ble_eq_true rfl, Nat.le_of_ble_eq_true rfl⟩) (zPreV hK hP hD hS hA hSW [4, 5] rfl (by decide) 4 (ci := 3) rfl rfl rfl) rfl rfl hl.1 rfl (lv_room (Nat.le_of_ble_eq_true rfl)) dX7_replay_14 ⟨Nat.le_of_ble_eq_true rfl, Nat.le_of_ble_eq_true rfl⟩) hP hD hS hA [4, 5] [0, 1, 2, 3, 6] [0, 1, 2, 3, 5, 6, 4] rfl rfl (by decide) (by decide) (by decide) (fun _ => rfl) (fun r14 u H locs hw14 hP hD hS => ?_)
  try dsimp only at hw14
  subst hw14
  have hP : va_P G vwCl ([(h, .inr (7, [.ref (a 0), .ref (cd 0), .ref s1, .ref s2, .ref (d 0), .ref g]))] ++ (ck Z a (st, off, car, fa, wr, tr, ho, ra, ti) ++ [(g, .inr (1, [.int 0, .int 0]))])) H := hP
  have hD : va_D A ([(h, .inr (7, [.ref (a 0), .ref (cd 0), .ref s1, .ref s2, .ref (d 0), .ref g]))] ++ (ck Z a (st, off, car, fa, wr, tr, ho, ra, ti) ++ [(g, .inr (1, [.int 0, .int 0]))])) := hD
  refine lv_iconst (v := 1) hx hb dX7_replay_17 (by decide) ?_
  refine lv_isub hx hb dX7_replay_18 ?_
  refine lv_istore_n (lv' := [(1, .int ((zMin wr 48) - 1)), (0, .ref h)]) hx hb dX7_replay_19 rfl hl (by decide) rfl (fun ls hl => ?_)
  rw [hw] at hl
  refine zLoop (σ := Nat × Int32 × Int32) (nL := 2) (fun zx => [(h, .inr (7, [.ref (a 0), .ref (cd 0), .ref s1, .ref s2, .ref (d 0), .ref g]))] ++ (ck Z a (st, off, car, fa, wr, tr, ho, ra, ti) ++ [(g, .inr (1, [.int zx.2.1, .int zx.2.2]))])) (fun zx => [(1, .int ((nI zx.1) - 1)), (0, .ref h)]) (fun zx => xRp st fa wr tr zx.1 (zx.2.1, zx.2.2) = xRp st fa wr tr n (0, 0) ∧ zx.1 ≤ n) (fun zx => zx.1) ?_ (n, 0, 0) (by
      try dsimp only
      exact ⟨rfl, Nat.le_refl _⟩) hP hD hS (lv_sub hl [0, 1] rfl)
  intro zx hinv20 ih20 H locs ls hP hD hS hl
  obtain ⟨k, o, q⟩ := zx
  try dsimp only at hinv20 ih20
  have hP : va_P G vwCl ([(h, .inr (7, [.ref (a 0), .ref (cd 0), .ref s1, .ref s2, .ref (d 0), .ref g]))] ++ (ck Z a (st, off, car, fa, wr, tr, ho, ra, ti) ++ [(g, .inr (1, [.int o, .int q]))])) H := hP
  have hD : va_D A ([(h, .inr (7, [.ref (a 0), .ref (cd 0), .ref s1, .ref s2, .ref (d 0), .ref g]))] ++ (ck Z a (st, off, car, fa, wr, tr, ho, ra, ti) ++ [(g, .inr (1, [.int o, .int q]))])) := hD
  have hl : lv_has ls 2 [(1, .int ((nI k) - 1)), (0, .ref h)] := hl
  refine lv_iload_n hx hb dX7_replay_20 rfl (lv_at hl 0 rfl) ?_
  refine lv_if_lt (tgt := 68) hx hb dX7_replay_21 (by decide) (fun c21 => ?_) (fun c21 => ?_)
  · obtain rfl : k = 0 := by
      cases k with
      | zero => rfl
      | succ j => rw [nI_pred] at c21; exact absurd c21 (nI_pos (by omega))
    refine lv_aload_n hx hb dX7_replay_68 rfl (lv_at hl 1 rfl) ?_
    refine va_get (D := G) (ci := 7) (v := .ref g) (C := RX7) (T := TX7) (N := 6) hx hb hts iX7 hown hK hP 0 rfl rfl 5 (by decide) k_43 (fun _ h9 => h9) rfl dX7_replay_69 ?_
    refine va_get (D := G) (ci := 1) (v := .int o) (C := RX1) (T := TX1) (N := 2) hx hb hts iX1 hown hK hP 6 rfl rfl 0 (by decide) k_75 (fun _ h9 => h9) rfl dX7_replay_72 ?_
    refine lv_ldc (v := 1000000000) hx hb hown k_82 dX7_replay_75 ?_
    refine lv_iadd hx hb dX7_replay_77 ?_
    exact W.iret hx hb hr (zEi (o, q) (by
        show o + 1000000000 = (xRp st fa wr tr n (0, 0)).1 + 1000000000
        rw [← hinv20.1]
        rfl) hP hD hS) hS.2.2 dX7_replay_78
  · obtain ⟨k, rfl⟩ : ∃ j, k = j + 1 := by
      cases k with
      | zero => exact absurd (by decide) c21
      | succ j => exact ⟨j, rfl⟩
    rw [nI_pred] at hl
    rw [xRp] at hinv20
    refine lv_aload_n hx hb dX7_replay_24 rfl (lv_at hl 1 rfl) ?_
    refine va_get (D := G) (ci := 7) (v := .ref g) (C := RX7) (T := TX7) (N := 6) hx hb hts iX7 hown hK hP 0 rfl rfl 5 (by decide) k_43 (fun _ h9 => h9) rfl dX7_replay_25 ?_
    refine lv_aload_n hx hb dX7_replay_28 rfl (lv_at hl 1 rfl) ?_
    refine va_get (D := G) (ci := 7) (v := .ref (a 0)) (C := RX7) (T := TX7) (N := 6) hx hb hts iX7 hown hK hP 0 rfl rfl 0 (by decide) k_10 (fun _ h9 => h9) rfl dX7_replay_29 ?_
    refine lv_aload_n hx hb dX7_replay_32 rfl (lv_at hl 1 rfl) ?_
    refine va_get (D := G) (ci := 7) (v := .ref (a 0)) (C := RX7) (T := TX7) (N := 6) hx hb hts iX7 hown hK hP 0 rfl rfl 0 (by decide) k_10 (fun _ h9 => h9) rfl dX7_replay_33 ?_
    refine va_getN (D := G) (ci := 0) (v := .ref (a 3)) (C := RX0) (T := TX0) (N := 7) hx hb hts iX0 hown hK hP 1 rfl rfl 2 (by decide) k_83 (fun _ h9 => h9) rfl dX7_replay_36 ?_
    refine lv_iload_n hx hb dX7_replay_39 rfl (lv_at hl 0 rfl) ?_
    refine lv_iconst (v := 0) hx hb dX7_replay_40 (by decide) ?_
    refine zCi (S := Unit) (ws1 := fun u => [(h, .inr (7, [.ref (a 0), .ref (cd 0), .ref s1, .ref s2, .ref (d 0), .ref g]))] ++ (ck Z a (st, off, car, fa, wr, tr, ho, ra, ti) ++ [(g, .inr (1, [.int o, .int q]))])) (wr := [(h, .inr (7, [.ref (a 0), .ref (cd 0), .ref s1, .ref s2, .ref (d 0), .ref g])), ((a 0), .inr (0, [.ref (a 1), .ref (a 2), .ref (a 3), .int tr, .int ho, .int ra, .int ti])), ((a 1), .inl (Z 0, 4, .inl st)), ((a 2), .inr (1, [.int off, .int car])), (g, .inr (1, [.int o, .int q]))]) (va_runV (As := [.int (nI k), .int 0]) (rest := [.ref (a 0), .ref g]) ⟨hx, hb, hml, hown, hts⟩ (m_X3_fact l G Z _ (a 3) (a 4) fa wr (nI k) 0) (cwV 2 hts gX7_replay_X3_fact rfl rfl rfl (by decide +kernel) ⟨Nat.le_of_ble_eq_true rfl, Nat.le_of_ble_eq_true rfl⟩) (zPreV hK hP hD hS hA hSW [4, 5] rfl (by decide) 4 (ci := 3) rfl rfl rfl) rfl rfl hl.1 rfl (lv_room (Nat.le_of_ble_eq_true rfl)) dX7_replay_41 ⟨Nat.le_of_ble_eq_true rfl, Nat.le_of_ble_eq_true rfl⟩) hP hD hS hA [4, 5] [0, 1, 2, 3, 6] [0, 1, 2, 3, 5, 6, 4] rfl rfl (by decide) (by decide) (by decide) (fun _ => rfl) (fun r41 u H locs hw41 hP hD hS => ?_)
    try dsimp only at hw41
    subst hw41
    have hP : va_P G vwCl ([(h, .inr (7, [.ref (a 0), .ref (cd 0), .ref s1, .ref s2, .ref (d 0), .ref g]))] ++ (ck Z a (st, off, car, fa, wr, tr, ho, ra, ti) ++ [(g, .inr (1, [.int o, .int q]))])) H := hP
    have hD : va_D A ([(h, .inr (7, [.ref (a 0), .ref (cd 0), .ref s1, .ref s2, .ref (d 0), .ref g]))] ++ (ck Z a (st, off, car, fa, wr, tr, ho, ra, ti) ++ [(g, .inr (1, [.int o, .int q]))])) := hD
    refine lv_aload_n hx hb dX7_replay_44 rfl (lv_at hl 1 rfl) ?_
    refine va_get (D := G) (ci := 7) (v := .ref (a 0)) (C := RX7) (T := TX7) (N := 6) hx hb hts iX7 hown hK hP 0 rfl rfl 0 (by decide) k_10 (fun _ h9 => h9) rfl dX7_replay_45 ?_
    refine va_getN (D := G) (ci := 0) (v := .ref (a 3)) (C := RX0) (T := TX0) (N := 7) hx hb hts iX0 hown hK hP 1 rfl rfl 2 (by decide) k_83 (fun _ h9 => h9) rfl dX7_replay_48 ?_
    refine lv_iload_n hx hb dX7_replay_51 rfl (lv_at hl 0 rfl) ?_
    refine lv_iconst (v := 1) hx hb dX7_replay_52 (by decide) ?_
    refine zCi (S := Unit) (ws1 := fun u => [(h, .inr (7, [.ref (a 0), .ref (cd 0), .ref s1, .ref s2, .ref (d 0), .ref g]))] ++ (ck Z a (st, off, car, fa, wr, tr, ho, ra, ti) ++ [(g, .inr (1, [.int o, .int q]))])) (wr := [(h, .inr (7, [.ref (a 0), .ref (cd 0), .ref s1, .ref s2, .ref (d 0), .ref g])), ((a 0), .inr (0, [.ref (a 1), .ref (a 2), .ref (a 3), .int tr, .int ho, .int ra, .int ti])), ((a 1), .inl (Z 0, 4, .inl st)), ((a 2), .inr (1, [.int off, .int car])), (g, .inr (1, [.int o, .int q]))]) (va_runV (As := [.int (nI k), .int 1]) (rest := [.int (lFact fa wr (nI k) 0), .ref (a 0), .ref g]) ⟨hx, hb, hml, hown, hts⟩ (m_X3_fact l G Z _ (a 3) (a 4) fa wr (nI k) 1) (cwV 2 hts gX7_replay_X3_fact rfl rfl rfl (by decide +kernel) ⟨Nat.le_of_ble_eq_true rfl, Nat.le_of_ble_eq_true rfl⟩) (zPreV hK hP hD hS hA hSW [4, 5] rfl (by decide) 4 (ci := 3) rfl rfl rfl) rfl rfl hl.1 rfl (lv_room (Nat.le_of_ble_eq_true rfl)) dX7_replay_53 ⟨Nat.le_of_ble_eq_true rfl, Nat.le_of_ble_eq_true rfl⟩) hP hD hS hA [4, 5] [0, 1, 2, 3, 6] [0, 1, 2, 3, 5, 6, 4] rfl rfl (by decide) (by decide) (by decide) (fun _ => rfl) (fun r53 u H locs hw53 hP hD hS => ?_)
    try dsimp only at hw53
    subst hw53
    have hP : va_P G vwCl ([(h, .inr (7, [.ref (a 0), .ref (cd 0), .ref s1, .ref s2, .ref (d 0), .ref g]))] ++ (ck Z a (st, off, car, fa, wr, tr, ho, ra, ti) ++ [(g, .inr (1, [.int o, .int q]))])) H := hP
    have hD : va_D A ([(h, .inr (7, [.ref (a 0), .ref (cd 0), .ref s1, .ref s2, .ref (d 0), .ref g]))] ++ (ck Z a (st, off, car, fa, wr, tr, ho, ra, ti) ++ [(g, .inr (1, [.int o, .int q]))])) := hD
    refine zCi (S := Unit) (ws1 := fun u => [(h, .inr (7, [.ref (a 0), .ref (cd 0), .ref s1, .ref s2, .ref (d 0), .ref g]))] ++ (ck Z a (st, off, car, fa, wr, tr, ho, ra, ti) ++ [(g, .inr (1, [.int o, .int q]))])) (wr := [(h, .inr (7, [.ref (a 0), .ref (cd 0), .ref s1, .ref s2, .ref (d 0), .ref g])), (g, .inr (1, [.int o, .int q]))]) (va_runV (As := [.int (lFact fa wr (nI k) 0), .int (lFact fa wr (nI k) 1)]) (rest := [.ref g]) ⟨hx, hb, hml, hown, hts⟩ (m_X0_rateIn l G Z _ a st off car fa wr tr ho ra ti (lFact fa wr (nI k) 0) (lFact fa wr (nI k) 1)) (cwV 2 hts gX7_replay_X0_rateIn rfl rfl rfl (by decide +kernel) ⟨Nat.le_of_ble_eq_true rfl, Nat.le_of_ble_eq_true rfl⟩) (zPreV hK hP hD hS hA hSW [1, 2, 3, 4, 5] rfl (by decide) 1 (ci := 0) rfl rfl rfl) rfl rfl hl.1 rfl (lv_room (Nat.le_of_ble_eq_true rfl)) dX7_replay_56 ⟨Nat.le_of_ble_eq_true rfl, Nat.le_of_ble_eq_true rfl⟩) hP hD hS hA [1, 2, 3, 4, 5] [0, 6] [0, 2, 3, 4, 5, 6, 1] rfl rfl (by decide) (by decide) (by decide) (fun _ => rfl) (fun r56 u H locs hw56 hP hD hS => ?_)
    try dsimp only at hw56
    subst hw56
    have hP : va_P G vwCl ([(h, .inr (7, [.ref (a 0), .ref (cd 0), .ref s1, .ref s2, .ref (d 0), .ref g]))] ++ (ck Z a (st, off, car, fa, wr, tr, ho, ra, ti) ++ [(g, .inr (1, [.int o, .int q]))])) H := hP
    have hD : va_D A ([(h, .inr (7, [.ref (a 0), .ref (cd 0), .ref s1, .ref s2, .ref (d 0), .ref g]))] ++ (ck Z a (st, off, car, fa, wr, tr, ho, ra, ti) ++ [(g, .inr (1, [.int o, .int q]))])) := hD
    refine zCv (S := Unit) (ws1 := fun u => [(h, .inr (7, [.ref (a 0), .ref (cd 0), .ref s1, .ref s2, .ref (d 0), .ref g]))] ++ (ck Z a (st, off, car, fa, wr, tr, ho, ra, ti) ++ [(g, .inr (1, [.int (dOff o q (cBare st (lFact fa wr (nI k) 0) (lFact fa wr (nI k) 1) + tr)), .int (dCar q (cBare st (lFact fa wr (nI k) 0) (lFact fa wr (nI k) 1) + tr))]))])) (wr := [(h, .inr (7, [.ref (a 0), .ref (cd 0), .ref s1, .ref s2, .ref (d 0), .ref g]))] ++ ck Z a (st, off, car, fa, wr, tr, ho, ra, ti)) (va_runV (As := [.int (cBare st (lFact fa wr (nI k) 0) (lFact fa wr (nI k) 1) + tr)]) (rest := []) ⟨hx, hb, hml, hown, hts⟩ (m_X1_addHour l G Z _ g o q (cBare st (lFact fa wr (nI k) 0) (lFact fa wr (nI k) 1) + tr)) (cwV 1 hts gX7_replay_X1_addHour rfl rfl rfl (by decide +kernel) ⟨Nat.le_of_ble_eq_true rfl, Nat.le_of_ble_eq_true rfl⟩) (zPreV hK hP hD hS hA hSW [6] rfl (by decide) 6 (ci := 1) rfl rfl rfl) rfl rfl hl.1 rfl (lv_room (Nat.le_of_ble_eq_true rfl)) dX7_replay_59 ⟨Nat.le_of_ble_eq_true rfl, Nat.le_of_ble_eq_true rfl⟩) hP hD hS hA [6] [0, 1, 2, 3, 4, 5] [0, 1, 2, 3, 4, 5, 6] rfl rfl (by decide) (by decide) (by decide) (fun _ => rfl) (fun u H locs hw59 hP hD hS => ?_)
    try dsimp only at hw59
    have hP : va_P G vwCl ([(h, .inr (7, [.ref (a 0), .ref (cd 0), .ref s1, .ref s2, .ref (d 0), .ref g]))] ++ (ck Z a (st, off, car, fa, wr, tr, ho, ra, ti) ++ [(g, .inr (1, [.int (dOff o q (cBare st (lFact fa wr (nI k) 0) (lFact fa wr (nI k) 1) + tr)), .int (dCar q (cBare st (lFact fa wr (nI k) 0) (lFact fa wr (nI k) 1) + tr))]))])) H := hP
    have hD : va_D A ([(h, .inr (7, [.ref (a 0), .ref (cd 0), .ref s1, .ref s2, .ref (d 0), .ref g]))] ++ (ck Z a (st, off, car, fa, wr, tr, ho, ra, ti) ++ [(g, .inr (1, [.int (dOff o q (cBare st (lFact fa wr (nI k) 0) (lFact fa wr (nI k) 1) + tr)), .int (dCar q (cBare st (lFact fa wr (nI k) 0) (lFact fa wr (nI k) 1) + tr))]))])) := hD
    refine lv_iinc (v := ((nI k) + (-1))) (lv' := [(1, .int ((nI k) + (-1))), (0, .ref h)]) hx hb dX7_replay_62 hl (k := 0) rfl rfl (by decide) rfl (fun ls hl => ?_)
    refine lv_goto (tgt := 20) hx hb dX7_replay_65 (by decide) ?_
    rw [show nI k + (-1) = nI k - 1 from (Int32.sub_eq_add_neg _ _).symm] at hl
    exact ih20 (k, (dOff o q (cBare st (lFact fa wr (nI k) 0) (lFact fa wr (nI k) 1) + tr)), (dCar q (cBare st (lFact fa wr (nI k) 0) (lFact fa wr (nI k) 1) + tr))) (by
        try dsimp only
        exact ⟨hinv20.1, by omega⟩) (by
        try dsimp only
        omega) _ _ _ hP hD hS (lv_sub hl [0, 1] rfl)

set_option maxHeartbeats 4000000 in
set_option maxRecDepth 100000 in
theorem m_X7_coolest (l : Launch) (G : va_G) (Z : Nat → ClassId) (sz : Nat) (h : Nat) (a : Nat → Nat) (cd : Nat → Nat) (s1 : Nat) (s2 : Nat) (d : Nat → Nat) (g : Nat) (v : CV) (ar : Int32)  : Met l yX7_coolest wsX7_coolest ({ frames := 3, cells := 0, slots := 0, locals := 65 }) (va_Pc [.ref h, .int ar] (zWP G Z sz ([(h, .inr (7, [.ref (a 0), .ref (cd 0), .ref s1, .ref s2, .ref (d 0), .ref g]))] ++ ck Z a v))) (va_Qi (fun (r : Int32) (u : Unit) => r = xCool v ar) (fun (u : Unit) t => zB G (va_A ([(h, .inr (7, [.ref (a 0), .ref (cd 0), .ref s1, .ref s2, .ref (d 0), .ref g]))] ++ ck Z a v) sz) ([(h, .inr (7, [.ref (a 0), .ref (cd 0), .ref s1, .ref s2, .ref (d 0), .ref g]))] ++ ck Z a v) t) (va_A ([(h, .inr (7, [.ref (a 0), .ref (cd 0), .ref s1, .ref s2, .ref (d 0), .ref g]))] ++ ck Z a v) sz)) 0 0 (va_A ([(h, .inr (7, [.ref (a 0), .ref (cd 0), .ref s1, .ref s2, .ref (d 0), .ref g]))] ++ ck Z a v) sz) := by
  obtain ⟨st, off, car, fa, wr, tr, ho, ra, ti⟩ := v
  refine Met.ofW (cc := cX7_coolest) (maxL := 3) (ret := (some .int)) (by decide) rfl ?_
  intro p e s m args below meth c s₁ B hml hv
  have hx := B.exec
  have hb := B.bytes
  have hr := B.returns
  have hts := atoms_spec (ws := wsX7_coolest) B.pre
  have hown : s.vm.findClass RX7 = some m.cls := findClass_of_methodNamed B.named
  have hlocks := B.notSynchronized
  obtain ⟨rfl, hsz, hP, hK, hD, hA, hS, hSW⟩ := zEnter hv
  subst hsz
  generalize va_A ([(h, .inr (7, [.ref (a 0), .ref (cd 0), .ref s1, .ref s2, .ref (d 0), .ref g]))] ++ ck Z a (st, off, car, fa, wr, tr, ho, ra, ti)) s.heap.size = A at hD hA hS hSW ⊢
  have k_10 := hts (.fieldLink RX7 10 "WarmRods" "clock" "LWarmRods$Clock;") (List.mem_of_getElem? (i := 1) rfl)
  have iX7 : ∀ w ∈ u_ws RX7 TX7 6, w ∈ wsX7_coolest := fun _ h => List.mem_cons_of_mem _ (List.mem_append_left _ (List.mem_append_right _ h))
  have hP : va_P G vwCl ([(h, .inr (7, [.ref (a 0), .ref (cd 0), .ref s1, .ref s2, .ref (d 0), .ref g]))] ++ ck Z a (st, off, car, fa, wr, tr, ho, ra, ti)) s.heap := hP
  have hl := lv_entry ([.ref h, .int ar]) (n := 3) (Nat.le_of_ble_eq_true rfl)
  rw [lg_entry_eq]
  generalize (lg_sl ([.ref h, .int ar]) ++ List.replicate (3 - (lg_sl ([.ref h, .int ar])).length) Slot.unset).toArray = ls at hl ⊢
  have hl : lv_has ls 3 [(0, .ref h), (1, .int ar)] := hl
  refine lv_iload_n hx hb dX7_coolest_0 rfl (lv_at hl 1 rfl) ?_
  refine zCi (S := Unit) (ws1 := fun u => [(h, .inr (7, [.ref (a 0), .ref (cd 0), .ref s1, .ref s2, .ref (d 0), .ref g]))] ++ ck Z a (st, off, car, fa, wr, tr, ho, ra, ti)) (wr := [(h, .inr (7, [.ref (a 0), .ref (cd 0), .ref s1, .ref s2, .ref (d 0), .ref g]))] ++ ck Z a (st, off, car, fa, wr, tr, ho, ra, ti)) (va_runS (As := [.int ar]) (rest := []) ⟨hx, hb, hml, hown, hts⟩ (m_X7_isAir l G Z _ ar) (va_cwS 1 hts gX7_coolest_X7_isAir rfl rfl rfl (by decide +kernel) ⟨Nat.le_of_ble_eq_true rfl, Nat.le_of_ble_eq_true rfl⟩) (zPreS hK hP hD hS hA hSW [] rfl (by decide)) rfl rfl hl.1 rfl (lv_room (Nat.le_of_ble_eq_true rfl)) dX7_coolest_1 ⟨Nat.le_of_ble_eq_true rfl, Nat.le_of_ble_eq_true rfl⟩) hP hD hS hA [] [0, 1, 2, 3, 4, 5] [0, 1, 2, 3, 4, 5] rfl rfl (by decide) (by decide) (by decide) (fun _ => rfl) (fun r1 u H locs hw1 hP hD hS => ?_)
  try dsimp only at hw1
  subst hw1
  have hP : va_P G vwCl ([(h, .inr (7, [.ref (a 0), .ref (cd 0), .ref s1, .ref s2, .ref (d 0), .ref g]))] ++ ck Z a (st, off, car, fa, wr, tr, ho, ra, ti)) H := hP
  have hD : va_D A ([(h, .inr (7, [.ref (a 0), .ref (cd 0), .ref s1, .ref s2, .ref (d 0), .ref g]))] ++ ck Z a (st, off, car, fa, wr, tr, ho, ra, ti)) := hD
  refine lv_if_ne (tgt := 10) hx hb dX7_coolest_4 (by decide) (fun c4 => ?_) (fun c4 => ?_)
  · refine lv_bipush (v := (-20)) hx hb dX7_coolest_10 (by decide) ?_
    refine lv_istore_n (lv' := [(2, .int (-20)), (0, .ref h), (1, .int ar)]) hx hb dX7_coolest_12 rfl hl (by decide) rfl (fun ls hl => ?_)
    refine zLoop (σ := Nat × Int32) (nL := 3) (fun zx => [(h, .inr (7, [.ref (a 0), .ref (cd 0), .ref s1, .ref s2, .ref (d 0), .ref g]))] ++ ck Z a (st, off, car, fa, wr, tr, ho, ra, ti)) (fun zx => [(2, .int zx.2), (0, .ref h), (1, .int ar)]) (fun zx => mCo (fun h => cBare st h ar + tr) zx.1 zx.2 = mCo (fun h => cBare st h ar + tr) 71 (-20) ∧ (zx.2).toInt + (zx.1 : Nat) = 51 ∧ zx.1 ≤ 71) (fun zx => zx.1) ?_ (71, (-20)) (by
        try dsimp only
        exact ⟨rfl, by decide, by decide⟩) hP hD hS (lv_sub hl [0, 1, 2] rfl)
    intro zx hinv13 ih13 H locs ls hP hD hS hl
    obtain ⟨f, hh⟩ := zx
    try dsimp only at hinv13 ih13
    have hP : va_P G vwCl ([(h, .inr (7, [.ref (a 0), .ref (cd 0), .ref s1, .ref s2, .ref (d 0), .ref g]))] ++ ck Z a (st, off, car, fa, wr, tr, ho, ra, ti)) H := hP
    have hD : va_D A ([(h, .inr (7, [.ref (a 0), .ref (cd 0), .ref s1, .ref s2, .ref (d 0), .ref g]))] ++ ck Z a (st, off, car, fa, wr, tr, ho, ra, ti)) := hD
    have hl : lv_has ls 3 [(2, .int hh), (0, .ref h), (1, .int ar)] := hl
    refine lv_iload_n hx hb dX7_coolest_13 rfl (lv_at hl 0 rfl) ?_
    refine lv_bipush (v := 50) hx hb dX7_coolest_14 (by decide) ?_
    refine lv_icmp_gt (tgt := 42) hx hb dX7_coolest_16 (by decide) (fun c16 => ?_) (fun c16 => ?_)
    · refine lv_bipush (v := (-6)) hx hb dX7_coolest_42 (by decide) ?_
      exact W.iret hx hb hr (zEi () (by
          rw [xCool, if_neg c4, ← hinv13.1, (zNot50 hinv13.2.1).mp c16]
          rfl) hP hD hS) hS.2.2 dX7_coolest_44
    · refine lv_aload_n hx hb dX7_coolest_19 rfl (lv_at hl 1 rfl) ?_
      refine va_get (D := G) (ci := 7) (v := .ref (a 0)) (C := RX7) (T := TX7) (N := 6) hx hb hts iX7 hown hK hP 0 rfl rfl 0 (by decide) k_10 (fun _ h9 => h9) rfl dX7_coolest_20 ?_
      refine lv_iload_n hx hb dX7_coolest_23 rfl (lv_at hl 0 rfl) ?_
      refine lv_iload_n hx hb dX7_coolest_24 rfl (lv_at hl 2 rfl) ?_
      refine zCi (S := Unit) (ws1 := fun u => [(h, .inr (7, [.ref (a 0), .ref (cd 0), .ref s1, .ref s2, .ref (d 0), .ref g]))] ++ ck Z a (st, off, car, fa, wr, tr, ho, ra, ti)) (wr := [(h, .inr (7, [.ref (a 0), .ref (cd 0), .ref s1, .ref s2, .ref (d 0), .ref g]))]) (va_runV (As := [.int hh, .int ar]) (rest := []) ⟨hx, hb, hml, hown, hts⟩ (m_X0_rateIn l G Z _ a st off car fa wr tr ho ra ti hh ar) (cwV 2 hts gX7_coolest_X0_rateIn rfl rfl rfl (by decide +kernel) ⟨Nat.le_of_ble_eq_true rfl, Nat.le_of_ble_eq_true rfl⟩) (zPreV hK hP hD hS hA hSW [1, 2, 3, 4, 5] rfl (by decide) 1 (ci := 0) rfl rfl rfl) rfl rfl hl.1 rfl (lv_room (Nat.le_of_ble_eq_true rfl)) dX7_coolest_25 ⟨Nat.le_of_ble_eq_true rfl, Nat.le_of_ble_eq_true rfl⟩) hP hD hS hA [1, 2, 3, 4, 5] [0] [0, 1, 2, 3, 4, 5] rfl rfl (by decide) (by decide) (by decide) (fun _ => rfl) (fun r25 u H locs hw25 hP hD hS => ?_)
      try dsimp only at hw25
      subst hw25
      have hP : va_P G vwCl ([(h, .inr (7, [.ref (a 0), .ref (cd 0), .ref s1, .ref s2, .ref (d 0), .ref g]))] ++ ck Z a (st, off, car, fa, wr, tr, ho, ra, ti)) H := hP
      have hD : va_D A ([(h, .inr (7, [.ref (a 0), .ref (cd 0), .ref s1, .ref s2, .ref (d 0), .ref g]))] ++ ck Z a (st, off, car, fa, wr, tr, ho, ra, ti)) := hD
      refine lv_if_gt (tgt := 36) hx hb dX7_coolest_28 (by decide) (fun c28 => ?_) (fun c28 => ?_)
      · refine lv_iinc (v := (hh + 1)) (lv' := [(2, .int (hh + 1)), (0, .ref h), (1, .int ar)]) hx hb dX7_coolest_36 hl (k := 0) rfl rfl (by decide) rfl (fun ls hl => ?_)
        refine lv_goto (tgt := 13) hx hb dX7_coolest_39 (by decide) ?_
        exact ih13 ((f - 1), (hh + 1)) (by
            try dsimp only
            obtain ⟨f, rfl⟩ : ∃ j, f = j + 1 := ⟨f - 1, by have := mt (zNot50 hinv13.2.1).mpr c16; omega⟩
            rw [mCo, if_neg (Int32.not_le.mpr c28)] at hinv13
            exact ⟨hinv13.1, zInc hinv13.2.1 (by omega), by omega⟩) (by
            try dsimp only
            have := mt (zNot50 hinv13.2.1).mpr c16
            omega) _ _ _ hP hD hS (lv_sub hl [0, 1, 2] rfl)
      · refine lv_iload_n hx hb dX7_coolest_31 rfl (lv_at hl 0 rfl) ?_
        refine lv_bipush (v := 100) hx hb dX7_coolest_32 (by decide) ?_
        refine lv_iadd hx hb dX7_coolest_34 ?_
        exact W.iret hx hb hr (zEi () (by
            obtain ⟨f, rfl⟩ : ∃ j, f = j + 1 := ⟨f - 1, by have := mt (zNot50 hinv13.2.1).mpr c16; omega⟩
            rw [xCool, if_neg c4, ← hinv13.1, mCo, if_pos (Int32.not_lt.mp c28)]) hP hD hS) hS.2.2 dX7_coolest_35
  · refine lv_bipush (v := (-2)) hx hb dX7_coolest_7 (by decide) ?_
    exact W.iret hx hb hr (zEi () (by
        rw [xCool, if_pos c4]) hP hD hS) hS.2.2 dX7_coolest_9



