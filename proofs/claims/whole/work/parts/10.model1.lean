set_option maxHeartbeats 4000000 in
set_option maxRecDepth 100000 in
theorem m_X8_in (l : Launch) (G : va_G) (Z : Nat → ClassId) (sz : Nat) (x : Int64) (lo : Int64) (hi : Int64)  : Met l yX8_in wsX8_in ({ frames := 0, cells := 0, slots := 0, locals := 0 }) (va_Pc [.long x, .long lo, .long hi] (zWP G Z sz ([]))) (va_Qi (fun (r : Int32) (u : Unit) => r = mIn x lo hi) (fun (u : Unit) t => zB G (va_A ([]) sz) ([]) t) (va_A ([]) sz)) 0 0 (va_A ([]) sz) := by
  refine Met.ofW (cc := cX8_in) (maxL := 6) (ret := (some .boolean)) (by decide) rfl ?_
  intro p e s m args below meth c s₁ B hml hv
  have hx := B.exec
  have hb := B.bytes
  have hr := B.returns
  have hts := atoms_spec (ws := wsX8_in) B.pre
  have hown : s.vm.findClass RX8 = some m.cls := findClass_of_methodNamed B.named
  have hlocks := B.notSynchronized
  obtain ⟨rfl, hsz, hP, hK, hD, hA, hS, hSW⟩ := zEnter hv
  subst hsz
  generalize va_A ([]) s.heap.size = A at hD hA hS hSW ⊢
  have hP : va_P G vwCl ([]) s.heap := hP
  have hl := lv_entry ([.long x, .long lo, .long hi]) (n := 6) (Nat.le_of_ble_eq_true rfl)
  rw [lg_entry_eq]
  generalize (lg_sl ([.long x, .long lo, .long hi]) ++ List.replicate (6 - (lg_sl ([.long x, .long lo, .long hi])).length) Slot.unset).toArray = ls at hl ⊢
  have hl : lv_has ls 6 [(0, .long x), (2, .long lo), (4, .long hi)] := hl
  refine lv_lload_n hx hb dX8_in_0 rfl (lv_at hl 0 rfl) ?_
  refine lv_lload_n hx hb dX8_in_1 rfl (lv_at hl 1 rfl) ?_
  refine W.lcmp hx hb dX8_in_2 ?_
  refine lv_if_lt (tgt := 17) hx hb dX8_in_3 (by decide) (fun c3 => ?_) (fun c3 => ?_)
  · refine lv_iconst (v := 0) hx hb dX8_in_17 (by decide) ?_
    exact W.zret hx hb hr (rfl) (zEi () (by
        simp only [mIn, (lg_cmp_lt _ _).mp c3, ↓reduceIte]) hP hD hS) hS.2.2 dX8_in_18
  · refine lv_lload_n hx hb dX8_in_6 rfl (lv_at hl 0 rfl) ?_
    refine lv_lload hx hb dX8_in_7 (lv_at hl 2 rfl) ?_
    refine W.lcmp hx hb dX8_in_9 ?_
    refine lv_if_gt (tgt := 17) hx hb dX8_in_10 (by decide) (fun c10 => ?_) (fun c10 => ?_)
    · refine lv_iconst (v := 0) hx hb dX8_in_17 (by decide) ?_
      exact W.zret hx hb hr (rfl) (zEi () (by
          simp only [mIn, show ¬ x < lo from fun q => c3 ((lg_cmp_lt _ _).mpr q), (lg_cmp_gt _ _).mp c10, ↓reduceIte]) hP hD hS) hS.2.2 dX8_in_18
    · refine lv_iconst (v := 1) hx hb dX8_in_13 (by decide) ?_
      refine lv_goto (tgt := 18) hx hb dX8_in_14 (by decide) ?_
      exact W.zret hx hb hr (rfl) (zEi () (by
          simp only [mIn, show ¬ x < lo from fun q => c3 ((lg_cmp_lt _ _).mpr q), show ¬ hi < x from fun q => c10 ((lg_cmp_gt _ _).mpr q), ↓reduceIte]) hP hD hS) hS.2.2 dX8_in_18

set_option maxHeartbeats 4000000 in
set_option maxRecDepth 100000 in
theorem m_X8_isHeat (l : Launch) (G : va_G) (Z : Nat → ClassId) (sz : Nat) (x : Int32)  : Met l yX8_isHeat wsX8_isHeat ({ frames := 1, cells := 0, slots := 0, locals := 25 }) (va_Pc [.int x] (zWP G Z sz ([]))) (va_Qi (fun (r : Int32) (u : Unit) => r = zHeat x) (fun (u : Unit) t => zB G (va_A ([]) sz) ([]) t) (va_A ([]) sz)) 0 0 (va_A ([]) sz) := by
  refine Met.ofW (cc := cX8_isHeat) (maxL := 1) (ret := (some .boolean)) (by decide) rfl ?_
  intro p e s m args below meth c s₁ B hml hv
  have hx := B.exec
  have hb := B.bytes
  have hr := B.returns
  have hts := atoms_spec (ws := wsX8_isHeat) B.pre
  have hown : s.vm.findClass RX8 = some m.cls := findClass_of_methodNamed B.named
  have hlocks := B.notSynchronized
  obtain ⟨rfl, hsz, hP, hK, hD, hA, hS, hSW⟩ := zEnter hv
  subst hsz
  generalize va_A ([]) s.heap.size = A at hD hA hS hSW ⊢
  have k_32 := hts (.constantLong RX8 32 (-20)) (List.mem_of_getElem? (i := 1) rfl)
  have k_34 := hts (.constantLong RX8 34 (50)) (List.mem_of_getElem? (i := 2) rfl)
  have hP : va_P G vwCl ([]) s.heap := hP
  have hl := lv_entry ([.int x]) (n := 1) (Nat.le_of_ble_eq_true rfl)
  rw [lg_entry_eq]
  generalize (lg_sl ([.int x]) ++ List.replicate (1 - (lg_sl ([.int x])).length) Slot.unset).toArray = ls at hl ⊢
  have hl : lv_has ls 1 [(0, .int x)] := hl
  refine lv_iload_n hx hb dX8_isHeat_0 rfl (lv_at hl 0 rfl) ?_
  refine lv_i2l (v := x.toInt64) hx hb dX8_isHeat_1 rfl ?_
  refine lv_ldc2 (v := (-20)) hx hb hown k_32 dX8_isHeat_2 ?_
  refine lv_ldc2 (v := 50) hx hb hown k_34 dX8_isHeat_5 ?_
  refine zCi (S := Unit) (ws1 := fun u => []) (wr := []) (va_runS (As := [.long x.toInt64, .long (-20), .long 50]) (rest := []) ⟨hx, hb, hml, hown, hts⟩ (m_X8_in l G Z _ x.toInt64 (-20) 50) (va_cwS 3 hts gX8_isHeat_X8_in rfl rfl rfl (by decide +kernel) ⟨Nat.le_of_ble_eq_true rfl, Nat.le_of_ble_eq_true rfl⟩) (zPreS hK hP hD hS hA hSW [] rfl (by decide)) rfl rfl hl.1 rfl (lv_room (Nat.le_of_ble_eq_true rfl)) dX8_isHeat_8 ⟨Nat.le_of_ble_eq_true rfl, Nat.le_of_ble_eq_true rfl⟩) hP hD hS hA [] [] [] rfl rfl (by decide) (by decide) (by decide) (fun _ => rfl) (fun r8 u H locs hw8 hP hD hS => ?_)
  try dsimp only at hw8
  subst hw8
  have hP : va_P G vwCl ([]) H := hP
  have hD : va_D A ([]) := hD
  exact W.zret hx hb hr (zNarB (mIn_b _ _ _)) (zEi () (by
      exact mIn_w x (-20) 50) hP hD hS) hS.2.2 dX8_isHeat_11

set_option maxHeartbeats 4000000 in
set_option maxRecDepth 100000 in
theorem m_X8_isAir (l : Launch) (G : va_G) (Z : Nat → ClassId) (sz : Nat) (x : Int32)  : Met l yX8_isAir wsX8_isAir ({ frames := 1, cells := 0, slots := 0, locals := 25 }) (va_Pc [.int x] (zWP G Z sz ([]))) (va_Qi (fun (r : Int32) (u : Unit) => r = zAir x) (fun (u : Unit) t => zB G (va_A ([]) sz) ([]) t) (va_A ([]) sz)) 0 0 (va_A ([]) sz) := by
  refine Met.ofW (cc := cX8_isAir) (maxL := 1) (ret := (some .boolean)) (by decide) rfl ?_
  intro p e s m args below meth c s₁ B hml hv
  have hx := B.exec
  have hb := B.bytes
  have hr := B.returns
  have hts := atoms_spec (ws := wsX8_isAir) B.pre
  have hown : s.vm.findClass RX8 = some m.cls := findClass_of_methodNamed B.named
  have hlocks := B.notSynchronized
  obtain ⟨rfl, hsz, hP, hK, hD, hA, hS, hSW⟩ := zEnter hv
  subst hsz
  generalize va_A ([]) s.heap.size = A at hD hA hS hSW ⊢
  have k_40 := hts (.constantLong RX8 40 (800)) (List.mem_of_getElem? (i := 1) rfl)
  have k_42 := hts (.constantLong RX8 42 (1200)) (List.mem_of_getElem? (i := 2) rfl)
  have hP : va_P G vwCl ([]) s.heap := hP
  have hl := lv_entry ([.int x]) (n := 1) (Nat.le_of_ble_eq_true rfl)
  rw [lg_entry_eq]
  generalize (lg_sl ([.int x]) ++ List.replicate (1 - (lg_sl ([.int x])).length) Slot.unset).toArray = ls at hl ⊢
  have hl : lv_has ls 1 [(0, .int x)] := hl
  refine lv_iload_n hx hb dX8_isAir_0 rfl (lv_at hl 0 rfl) ?_
  refine lv_i2l (v := x.toInt64) hx hb dX8_isAir_1 rfl ?_
  refine lv_ldc2 (v := 800) hx hb hown k_40 dX8_isAir_2 ?_
  refine lv_ldc2 (v := 1200) hx hb hown k_42 dX8_isAir_5 ?_
  refine zCi (S := Unit) (ws1 := fun u => []) (wr := []) (va_runS (As := [.long x.toInt64, .long 800, .long 1200]) (rest := []) ⟨hx, hb, hml, hown, hts⟩ (m_X8_in l G Z _ x.toInt64 800 1200) (va_cwS 3 hts gX8_isAir_X8_in rfl rfl rfl (by decide +kernel) ⟨Nat.le_of_ble_eq_true rfl, Nat.le_of_ble_eq_true rfl⟩) (zPreS hK hP hD hS hA hSW [] rfl (by decide)) rfl rfl hl.1 rfl (lv_room (Nat.le_of_ble_eq_true rfl)) dX8_isAir_8 ⟨Nat.le_of_ble_eq_true rfl, Nat.le_of_ble_eq_true rfl⟩) hP hD hS hA [] [] [] rfl rfl (by decide) (by decide) (by decide) (fun _ => rfl) (fun r8 u H locs hw8 hP hD hS => ?_)
  try dsimp only at hw8
  subst hw8
  have hP : va_P G vwCl ([]) H := hP
  have hD : va_D A ([]) := hD
  exact W.zret hx hb hr (zNarB (mIn_b _ _ _)) (zEi () (by
      exact mIn_w x 800 1200) hP hD hS) hS.2.2 dX8_isAir_11

set_option maxHeartbeats 4000000 in
set_option maxRecDepth 100000 in
theorem m_X8_isSetting (l : Launch) (G : va_G) (Z : Nat → ClassId) (sz : Nat) (k : Int32) (x : Int32)  : Met l yX8_isSetting wsX8_isSetting ({ frames := 1, cells := 0, slots := 0, locals := 25 }) (va_Pc [.int k, .int x] (zWP G Z sz ([]))) (va_Qi (fun (r : Int32) (u : Unit) => r = mIsS k x) (fun (u : Unit) t => zB G (va_A ([]) sz) ([]) t) (va_A ([]) sz)) 0 0 (va_A ([]) sz) := by
  refine Met.ofW (cc := cX8_isSetting) (maxL := 2) (ret := (some .boolean)) (by decide) rfl ?_
  intro p e s m args below meth c s₁ B hml hv
  have hx := B.exec
  have hb := B.bytes
  have hr := B.returns
  have hts := atoms_spec (ws := wsX8_isSetting) B.pre
  have hown : s.vm.findClass RX8 = some m.cls := findClass_of_methodNamed B.named
  have hlocks := B.notSynchronized
  obtain ⟨rfl, hsz, hP, hK, hD, hA, hS, hSW⟩ := zEnter hv
  subst hsz
  generalize va_A ([]) s.heap.size = A at hD hA hS hSW ⊢
  have k_73 := hts (.constantLong RX8 73 (99)) (List.mem_of_getElem? (i := 1) rfl)
  have k_75 := hts (.constantLong RX8 75 (-500)) (List.mem_of_getElem? (i := 2) rfl)
  have k_77 := hts (.constantLong RX8 77 (500)) (List.mem_of_getElem? (i := 3) rfl)
  have k_79 := hts (.constantLong RX8 79 (5000)) (List.mem_of_getElem? (i := 4) rfl)
  have hP : va_P G vwCl ([]) s.heap := hP
  have hl := lv_entry ([.int k, .int x]) (n := 2) (Nat.le_of_ble_eq_true rfl)
  rw [lg_entry_eq]
  generalize (lg_sl ([.int k, .int x]) ++ List.replicate (2 - (lg_sl ([.int k, .int x])).length) Slot.unset).toArray = ls at hl ⊢
  have hl : lv_has ls 2 [(0, .int k), (1, .int x)] := hl
  refine lv_iload_n hx hb dX8_isSetting_0 rfl (lv_at hl 0 rfl) ?_
  by_cases c1_0 : k = 0
  · refine lv_tableIn (off := 27) (tgt := 28) hx hb dX8_isSetting_1 (zTin1 c1_0 (by decide)) (zTin2 c1_0 (by decide)) (zTin3 c1_0 (by decide)) (by decide) ?_
    refine lv_iload_n hx hb dX8_isSetting_28 rfl (lv_at hl 1 rfl) ?_
    refine lv_i2l (v := x.toInt64) hx hb dX8_isSetting_29 rfl ?_
    refine lv_lconst (v := 0) hx hb dX8_isSetting_30 (by decide) ?_
    refine lv_ldc2 (v := 99) hx hb hown k_73 dX8_isSetting_31 ?_
    refine zCi (S := Unit) (ws1 := fun u => []) (wr := []) (va_runS (As := [.long x.toInt64, .long 0, .long 99]) (rest := []) ⟨hx, hb, hml, hown, hts⟩ (m_X8_in l G Z _ x.toInt64 0 99) (va_cwS 3 hts gX8_isSetting_X8_in rfl rfl rfl (by decide +kernel) ⟨Nat.le_of_ble_eq_true rfl, Nat.le_of_ble_eq_true rfl⟩) (zPreS hK hP hD hS hA hSW [] rfl (by decide)) rfl rfl hl.1 rfl (lv_room (Nat.le_of_ble_eq_true rfl)) dX8_isSetting_34 ⟨Nat.le_of_ble_eq_true rfl, Nat.le_of_ble_eq_true rfl⟩) hP hD hS hA [] [] [] rfl rfl (by decide) (by decide) (by decide) (fun _ => rfl) (fun r34 u H locs hw34 hP hD hS => ?_)
    try dsimp only at hw34
    subst hw34
    have hP : va_P G vwCl ([]) H := hP
    have hD : va_D A ([]) := hD
    exact W.zret hx hb hr (zNarB (mIn_b _ _ _)) (zEi () (by
        have h0 : k = 0 := c1_0
        subst h0
        exact mIn_w x 0 99) hP hD hS) hS.2.2 dX8_isSetting_37
  by_cases c1_1 : k = 1
  · refine lv_tableIn (off := 27) (tgt := 28) hx hb dX8_isSetting_1 (zTin1 c1_1 (by decide)) (zTin2 c1_1 (by decide)) (zTin3 c1_1 (by decide)) (by decide) ?_
    refine lv_iload_n hx hb dX8_isSetting_28 rfl (lv_at hl 1 rfl) ?_
    refine lv_i2l (v := x.toInt64) hx hb dX8_isSetting_29 rfl ?_
    refine lv_lconst (v := 0) hx hb dX8_isSetting_30 (by decide) ?_
    refine lv_ldc2 (v := 99) hx hb hown k_73 dX8_isSetting_31 ?_
    refine zCi (S := Unit) (ws1 := fun u => []) (wr := []) (va_runS (As := [.long x.toInt64, .long 0, .long 99]) (rest := []) ⟨hx, hb, hml, hown, hts⟩ (m_X8_in l G Z _ x.toInt64 0 99) (va_cwS 3 hts gX8_isSetting_X8_in rfl rfl rfl (by decide +kernel) ⟨Nat.le_of_ble_eq_true rfl, Nat.le_of_ble_eq_true rfl⟩) (zPreS hK hP hD hS hA hSW [] rfl (by decide)) rfl rfl hl.1 rfl (lv_room (Nat.le_of_ble_eq_true rfl)) dX8_isSetting_34 ⟨Nat.le_of_ble_eq_true rfl, Nat.le_of_ble_eq_true rfl⟩) hP hD hS hA [] [] [] rfl rfl (by decide) (by decide) (by decide) (fun _ => rfl) (fun r34_2 u H locs hw34_2 hP hD hS => ?_)
    try dsimp only at hw34_2
    subst hw34_2
    have hP : va_P G vwCl ([]) H := hP
    have hD : va_D A ([]) := hD
    exact W.zret hx hb hr (zNarB (mIn_b _ _ _)) (zEi () (by
        have h0 : k = 1 := c1_1
        subst h0
        exact mIn_w x 0 99) hP hD hS) hS.2.2 dX8_isSetting_37
  by_cases c1_2 : k = 2
  · refine lv_tableIn (off := 37) (tgt := 38) hx hb dX8_isSetting_1 (zTin1 c1_2 (by decide)) (zTin2 c1_2 (by decide)) (zTin3 c1_2 (by decide)) (by decide) ?_
    refine lv_iload_n hx hb dX8_isSetting_38 rfl (lv_at hl 1 rfl) ?_
    refine lv_i2l (v := x.toInt64) hx hb dX8_isSetting_39 rfl ?_
    refine lv_ldc2 (v := (-500)) hx hb hown k_75 dX8_isSetting_40 ?_
    refine lv_ldc2 (v := 500) hx hb hown k_77 dX8_isSetting_43 ?_
    refine zCi (S := Unit) (ws1 := fun u => []) (wr := []) (va_runS (As := [.long x.toInt64, .long (-500), .long 500]) (rest := []) ⟨hx, hb, hml, hown, hts⟩ (m_X8_in l G Z _ x.toInt64 (-500) 500) (va_cwS 3 hts gX8_isSetting_X8_in rfl rfl rfl (by decide +kernel) ⟨Nat.le_of_ble_eq_true rfl, Nat.le_of_ble_eq_true rfl⟩) (zPreS hK hP hD hS hA hSW [] rfl (by decide)) rfl rfl hl.1 rfl (lv_room (Nat.le_of_ble_eq_true rfl)) dX8_isSetting_46 ⟨Nat.le_of_ble_eq_true rfl, Nat.le_of_ble_eq_true rfl⟩) hP hD hS hA [] [] [] rfl rfl (by decide) (by decide) (by decide) (fun _ => rfl) (fun r46 u H locs hw46 hP hD hS => ?_)
    try dsimp only at hw46
    subst hw46
    have hP : va_P G vwCl ([]) H := hP
    have hD : va_D A ([]) := hD
    exact W.zret hx hb hr (zNarB (mIn_b _ _ _)) (zEi () (by
        have h0 : k = 2 := c1_2
        subst h0
        exact mIn_w x (-500) 500) hP hD hS) hS.2.2 dX8_isSetting_49
  refine lv_tableOut (tgt := 50) hx hb dX8_isSetting_1 (by have hh := @Int32.toInt_inj; have w_0 : ¬ (k).toInt = 0 := fun q => c1_0 (Int32.toInt_inj.mp q); have w_1 : ¬ (k).toInt = 1 := fun q => c1_1 (Int32.toInt_inj.mp q); have w_2 : ¬ (k).toInt = 2 := fun q => c1_2 (Int32.toInt_inj.mp q); omega) (by decide) ?_
  refine lv_iload_n hx hb dX8_isSetting_50 rfl (lv_at hl 0 rfl) ?_
  refine lv_iconst (v := 3) hx hb dX8_isSetting_51 (by decide) ?_
  refine lv_icmp_ne (tgt := 71) hx hb dX8_isSetting_52 (by decide) (fun c52 => ?_) (fun c52 => ?_)
  · refine lv_iconst (v := 0) hx hb dX8_isSetting_71 (by decide) ?_
    exact W.zret hx hb hr (rfl) (zEi () (by
        rw [mIsS, if_neg c1_0, if_neg c1_1, if_neg c1_2, if_neg c52]) hP hD hS) hS.2.2 dX8_isSetting_72
  · refine lv_iload_n hx hb dX8_isSetting_55 rfl (lv_at hl 1 rfl) ?_
    refine lv_i2l (v := x.toInt64) hx hb dX8_isSetting_56 rfl ?_
    refine lv_lconst (v := 1) hx hb dX8_isSetting_57 (by decide) ?_
    refine lv_ldc2 (v := 5000) hx hb hown k_79 dX8_isSetting_58 ?_
    refine zCi (S := Unit) (ws1 := fun u => []) (wr := []) (va_runS (As := [.long x.toInt64, .long 1, .long 5000]) (rest := []) ⟨hx, hb, hml, hown, hts⟩ (m_X8_in l G Z _ x.toInt64 1 5000) (va_cwS 3 hts gX8_isSetting_X8_in rfl rfl rfl (by decide +kernel) ⟨Nat.le_of_ble_eq_true rfl, Nat.le_of_ble_eq_true rfl⟩) (zPreS hK hP hD hS hA hSW [] rfl (by decide)) rfl rfl hl.1 rfl (lv_room (Nat.le_of_ble_eq_true rfl)) dX8_isSetting_61 ⟨Nat.le_of_ble_eq_true rfl, Nat.le_of_ble_eq_true rfl⟩) hP hD hS hA [] [] [] rfl rfl (by decide) (by decide) (by decide) (fun _ => rfl) (fun r61 u H locs hw61 hP hD hS => ?_)
    try dsimp only at hw61
    subst hw61
    have hP : va_P G vwCl ([]) H := hP
    have hD : va_D A ([]) := hD
    refine lv_if_eq (tgt := 71) hx hb dX8_isSetting_64 (by decide) (fun c64 => ?_) (fun c64 => ?_)
    · refine lv_iconst (v := 0) hx hb dX8_isSetting_71 (by decide) ?_
      exact W.zret hx hb hr (rfl) (zEi () (by
          rw [show mIn x.toInt64 1 5000 = mRng x 1 5000 from mIn_w x 1 5000] at c64
          rw [mIsS, if_neg c1_0, if_neg c1_1, if_neg c1_2, if_pos c52, if_pos c64]) hP hD hS) hS.2.2 dX8_isSetting_72
    · refine lv_iconst (v := 1) hx hb dX8_isSetting_67 (by decide) ?_
      refine lv_goto (tgt := 72) hx hb dX8_isSetting_68 (by decide) ?_
      exact W.zret hx hb hr (rfl) (zEi () (by
          rw [show mIn x.toInt64 1 5000 = mRng x 1 5000 from mIn_w x 1 5000] at c64
          rw [mIsS, if_neg c1_0, if_neg c1_1, if_neg c1_2, if_pos c52, if_neg c64]) hP hD hS) hS.2.2 dX8_isSetting_72

set_option maxHeartbeats 4000000 in
set_option maxRecDepth 100000 in
theorem m_X8_size (l : Launch) (G : va_G) (Z : Nat → ClassId) (sz : Nat) (x : Int32)  : Met l yX8_size wsX8_size ({ frames := 0, cells := 0, slots := 0, locals := 0 }) (va_Pc [.int x] (zWP G Z sz ([]))) (va_Qi (fun (r : Int32) (u : Unit) => r = mSize x) (fun (u : Unit) t => zB G (va_A ([]) sz) ([]) t) (va_A ([]) sz)) 0 0 (va_A ([]) sz) := by
  refine Met.ofW (cc := cX8_size) (maxL := 1) (ret := (some .int)) (by decide) rfl ?_
  intro p e s m args below meth c s₁ B hml hv
  have hx := B.exec
  have hb := B.bytes
  have hr := B.returns
  have hts := atoms_spec (ws := wsX8_size) B.pre
  have hown : s.vm.findClass RX8 = some m.cls := findClass_of_methodNamed B.named
  have hlocks := B.notSynchronized
  obtain ⟨rfl, hsz, hP, hK, hD, hA, hS, hSW⟩ := zEnter hv
  subst hsz
  generalize va_A ([]) s.heap.size = A at hD hA hS hSW ⊢
  have hP : va_P G vwCl ([]) s.heap := hP
  have hl := lv_entry ([.int x]) (n := 1) (Nat.le_of_ble_eq_true rfl)
  rw [lg_entry_eq]
  generalize (lg_sl ([.int x]) ++ List.replicate (1 - (lg_sl ([.int x])).length) Slot.unset).toArray = ls at hl ⊢
  have hl : lv_has ls 1 [(0, .int x)] := hl
  refine lv_iload_n hx hb dX8_size_0 rfl (lv_at hl 0 rfl) ?_
  refine lv_if_ge (tgt := 9) hx hb dX8_size_1 (by decide) (fun c1 => ?_) (fun c1 => ?_)
  · refine lv_iload_n hx hb dX8_size_9 rfl (lv_at hl 0 rfl) ?_
    exact W.iret hx hb hr (zEi () (by
        simp only [mSize, c1, Int32.not_lt.mpr c1, ↓reduceIte]) hP hD hS) hS.2.2 dX8_size_10
  · refine lv_iload_n hx hb dX8_size_4 rfl (lv_at hl 0 rfl) ?_
    refine lv_ineg hx hb dX8_size_5 ?_
    refine lv_goto (tgt := 10) hx hb dX8_size_6 (by decide) ?_
    exact W.iret hx hb hr (zEi () (by
        simp only [mSize, c1, Int32.not_le.mp c1, ↓reduceIte]) hP hD hS) hS.2.2 dX8_size_10

set_option maxHeartbeats 4000000 in
set_option maxRecDepth 100000 in
theorem m_X8_keep (l : Launch) (G : va_G) (Z : Nat → ClassId) (sz : Nat) (b : Nat → Nat) (al : Nat → Int32) (ke : Nat → Int32) (hs : Nat → Int32) (hq : Nat) (sl : Nat → Int32) (sa : Nat → Int32) (off : Int32) (car : Int32) (pa : Nat → Int32) (pq : Nat) (sp : Nat) (nu : Int32) (dn : Int32) (er : Int32)  : Met l yX8_keep wsX8_keep ({ frames := 0, cells := 0, slots := 0, locals := 0 }) (va_Pc [.ref (b 0)] (zWP G Z sz (mk Z b (al, ke, hs, hq, sl, sa, off, car, pa, pq, sp, nu, dn, er)))) (va_Qv (fun (u : Unit) => True) (fun (u : Unit) t => zB G (va_A (mk Z b (al, ke, hs, hq, sl, sa, off, car, pa, pq, sp, nu, dn, er)) sz) (mk Z b (al, (mCp al ke 347), hs, hq, sl, sa, off, car, pa, pq, sp, nu, dn, er)) t) (va_A (mk Z b (al, ke, hs, hq, sl, sa, off, car, pa, pq, sp, nu, dn, er)) sz)) 0 0 (va_A (mk Z b (al, ke, hs, hq, sl, sa, off, car, pa, pq, sp, nu, dn, er)) sz) := by
  refine Met.ofW (cc := cX8_keep) (maxL := 2) (ret := none) (by decide) rfl ?_
  intro p e s m args below meth c s₁ B hml hv
  have hx := B.exec
  have hb := B.bytes
  have hr := B.returns
  have hts := atoms_spec (ws := wsX8_keep) B.pre
  have hown : s.vm.findClass RX8 = some m.cls := findClass_of_methodNamed B.named
  have hlocks := B.notSynchronized
  obtain ⟨rfl, hsz, hP, hK, hD, hA, hS, hSW⟩ := zEnter hv
  subst hsz
  generalize va_A (mk Z b (al, ke, hs, hq, sl, sa, off, car, pa, pq, sp, nu, dn, er)) s.heap.size = A at hD hA hS hSW ⊢
  have k_13 := hts (.fieldLink RX8 13 "WarmRodsModel" "kept" "[I") (List.mem_of_getElem? (i := 1) rfl)
  have iX8 : ∀ w ∈ u_ws RX8 TX8 14, w ∈ wsX8_keep := fun _ h => List.mem_cons_of_mem _ (List.mem_append_right _ h)
  have k_7 := hts (.fieldLink RX8 7 "WarmRodsModel" "all" "[I") (List.mem_of_getElem? (i := 2) rfl)
  have hP : va_P G vwCl (mk Z b (al, ke, hs, hq, sl, sa, off, car, pa, pq, sp, nu, dn, er)) s.heap := hP
  have hl := lv_entry ([.ref (b 0)]) (n := 2) (Nat.le_of_ble_eq_true rfl)
  rw [lg_entry_eq]
  generalize (lg_sl ([.ref (b 0)]) ++ List.replicate (2 - (lg_sl ([.ref (b 0)])).length) Slot.unset).toArray = ls at hl ⊢
  have hl : lv_has ls 2 [(0, .ref (b 0))] := hl
  refine lv_iconst (v := 0) hx hb dX8_keep_0 (by decide) ?_
  refine lv_istore_n (lv' := [(1, .int 0), (0, .ref (b 0))]) hx hb dX8_keep_1 rfl hl (by decide) rfl (fun ls hl => ?_)
  rw [← mCp_0 al ke] at hP hD
  refine zLoop (σ := Nat) (nL := 2) (fun x => mk Z b (al, (mCp al ke x), hs, hq, sl, sa, off, car, pa, pq, sp, nu, dn, er)) (fun x => [(1, .int (nI x)), (0, .ref (b 0))]) (fun x => x ≤ 347) (fun x => 347 - x) ?_ 0 (by
      try dsimp only
      omega) hP hD hS (lv_sub hl [0, 1] rfl)
  intro x hinv2 ih2 H locs ls hP hD hS hl
  obtain ⟨k, rfl⟩ : ∃ z, z = x := ⟨_, rfl⟩
  try dsimp only at hinv2 ih2
  have hP : va_P G vwCl (mk Z b (al, (mCp al ke k), hs, hq, sl, sa, off, car, pa, pq, sp, nu, dn, er)) H := hP
  have hD : va_D A (mk Z b (al, (mCp al ke k), hs, hq, sl, sa, off, car, pa, pq, sp, nu, dn, er)) := hD
  have hl : lv_has ls 2 [(1, .int (nI k)), (0, .ref (b 0))] := hl
  refine lv_iload_n hx hb dX8_keep_2 rfl (lv_at hl 0 rfl) ?_
  refine lv_sipush (v := 347) hx hb dX8_keep_3 (by decide) ?_
  refine lv_icmp_ge (tgt := 27) hx hb dX8_keep_6 (by decide) (fun c6 => ?_) (fun c6 => ?_)
  · have hk := zLe (a := 347) c6 (by omega) (by omega)
    obtain rfl : k = 347 := by omega
    exact W.vret hx hb hr (zEv () (by
        trivial) hP hD hS) hS.2.2 dX8_keep_27
  · refine lv_aload_n hx hb dX8_keep_9 rfl (lv_at hl 1 rfl) ?_
    refine va_get (D := G) (ci := 8) (v := .ref (b 2)) (C := RX8) (T := TX8) (N := 14) hx hb hts iX8 hown hK hP 0 rfl rfl 1 (by decide) k_13 (fun _ h9 => h9) rfl dX8_keep_10 ?_
    refine lv_iload_n hx hb dX8_keep_13 rfl (lv_at hl 0 rfl) ?_
    refine lv_aload_n hx hb dX8_keep_14 rfl (lv_at hl 1 rfl) ?_
    refine va_get (D := G) (ci := 8) (v := .ref (b 1)) (C := RX8) (T := TX8) (N := 14) hx hb hts iX8 hown hK hP 0 rfl rfl 0 (by decide) k_7 (fun _ h9 => h9) rfl dX8_keep_15 ?_
    refine lv_iload_n hx hb dX8_keep_18 rfl (lv_at hl 0 rfl) ?_
    refine zIald hx hb hK hP 1 0 rfl rfl k (rfl) (by have := zNle (a := 347) c6 (by omega) (by omega); omega) (by decide) dX8_keep_19 ?_
    refine zIast hx hb hK hP hD hS 2 0 rfl rfl k (rfl) (by have := zNle (a := 347) c6 (by omega) (by omega); omega) (by decide) dX8_keep_20 (fun H locs hP hD hS => ?_)
    have hP : va_P G vwCl (mk Z b (al, (upd (mCp al ke k) k (al k)), hs, hq, sl, sa, off, car, pa, pq, sp, nu, dn, er)) H := hP
    have hD : va_D A (mk Z b (al, (upd (mCp al ke k) k (al k)), hs, hq, sl, sa, off, car, pa, pq, sp, nu, dn, er)) := hD
    refine lv_iinc (v := (nI (k + 1))) (lv' := [(1, .int (nI (k + 1))), (0, .ref (b 0))]) hx hb dX8_keep_21 hl (k := 0) rfl (nI_succ k).symm (by decide) rfl (fun ls hl => ?_)
    refine lv_goto (tgt := 2) hx hb dX8_keep_24 (by decide) ?_
    rw [mCp_s] at hP hD
    exact ih2 (k + 1) (by
        try dsimp only
        have hk := zNle (a := 347) c6 (by omega) (by omega)
        omega) (by
        try dsimp only
        have hk := zNle (a := 347) c6 (by omega) (by omega)
        omega) _ _ _ hP hD hS (lv_sub hl [0, 1] rfl)
