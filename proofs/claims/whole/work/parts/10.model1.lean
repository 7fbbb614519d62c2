set_option maxHeartbeats 4000000 in
set_option maxRecDepth 100000 in
theorem m_X8_in (l : Launch) (G : va_G) (Z : Nat → ClassId) (sz : Nat) (x : Int64) (lo : Int64) (hi : Int64)  : Met l yX8_in wsX8_in ({ frames := 0, cells := 0, slots := 0, locals := 0 }) (va_Pc [.long x, .long lo, .long hi] (zWP G Z sz ([]))) (va_Qi (fun (r : Int32) (u : Unit) => r = mIn x lo hi) (fun (u : Unit) t => zB G (va_A ([]) sz) ([]) t) (va_A ([]) sz)) 0 0 (va_A ([]) sz) := by
  refine Met.ofW (cc := cX8_in) (maxL := 6) (ret := (some .boolean)) (by decide) rfl ?_
  intro p e s m args below meth c s₁ B hml hv
  have hx := B.exec
  have hb := B.bytes
  have hr := B.returns
  have hts := atoms_spec (ws := wsX8_in) B.pre
  have hown : s.vm.findClass RX8 = some m.cls := findClass_of_methodNamed B.named
  have hlocks := B.notSynchronized
  obtain ⟨rfl, hsz, hP, hK, hD, hA, hS, hSW⟩ := zEnter hv
  subst hsz
  generalize va_A ([]) s.heap.size = A at hD hA hS hSW ⊢
  have hP : va_P G vwCl ([]) s.heap := hP
  have hl := lv_entry ([.long x, .long lo, .long hi]) (n := 6) (Nat.le_of_ble_eq_true rfl)
  rw [lg_entry_eq]
  generalize (lg_sl ([.long x, .long lo, .long hi]) ++ List.replicate (6 - (lg_sl ([.long x, .long lo, .long hi])).length) Slot.unset).toArray = ls at hl ⊢
  have hl : lv_has ls 6 [(0, .long x), (2, .long lo), (4, .long hi)] := hl
  refine lv_lload_n hx hb dX8_in_0 rfl (lv_at hl 0 rfl) ?_
  refine lv_lload_n hx hb dX8_in_1 rfl (lv_at hl 1 rfl) ?_
  refine W.lcmp hx hb dX8_in_2 ?_
  refine lv_if_lt (tgt := 17) hx hb dX8_in_3 (by decide) (fun c3 => ?_) (fun c3 => ?_)
  · refine lv_iconst (v := 0) hx hb dX8_in_17 (by decide) ?_
    exact W.zret hx hb hr (rfl) (zEi () (by
        simp only [mIn, (lg_cmp_lt _ _).mp c3, ↓reduceIte]) hP hD hS) hS.2.2 dX8_in_18
  · refine lv_lload_n hx hb dX8_in_6 rfl (lv_at hl 0 rfl) ?_
    refine lv_lload hx hb dX8_in_7 (lv_at hl 2 rfl) ?_
    refine W.lcmp hx hb dX8_in_9 ?_
    refine lv_if_gt (tgt := 17) hx hb dX8_in_10 (by decide) (fun c10 => ?_) (fun c10 => ?_)
    · refine lv_iconst (v := 0) hx hb dX8_in_17 (by decide) ?_
      exact W.zret hx hb hr (rfl) (zEi () (by
          simp only [mIn, show ¬ x < lo from fun q => c3 ((lg_cmp_lt _ _).mpr q), (lg_cmp_gt _ _).mp c10, ↓reduceIte]) hP hD hS) hS.2.2 dX8_in_18
    · refine lv_iconst (v := 1) hx hb dX8_in_13 (by decide) ?_
      refine lv_goto (tgt := 18) hx hb dX8_in_14 (by decide) ?_
      exact W.zret hx hb hr (rfl) (zEi () (by
          simp only [mIn, show ¬ x < lo from fun q => c3 ((lg_cmp_lt _ _).mpr q), show ¬ hi < x from fun q => c10 ((lg_cmp_gt _ _).mpr q), ↓reduceIte]) hP hD hS) hS.2.2 dX8_in_18

set_option maxHeartbeats 4000000 in
set_option maxRecDepth 100000 in
theorem m_X8_isHeat (l : Launch) (G : va_G) (Z : Nat → ClassId) (sz : Nat) (x : Int32)  : Met l yX8_isHeat wsX8_isHeat ({ frames := 1, cells := 0, slots := 0, locals := 25 }) (va_Pc [.int x] (zWP G Z sz ([]))) (va_Qi (fun (r : Int32) (u : Unit) => r = zHeat x) (fun (u : Unit) t => zB G (va_A ([]) sz) ([]) t) (va_A ([]) sz)) 0 0 (va_A ([]) sz) := by
  refine Met.ofW (cc := cX8_isHeat) (maxL := 1) (ret := (some .boolean)) (by decide) rfl ?_
  intro p e s m args below meth c s₁ B hml hv
  have hx := B.exec
  have hb := B.bytes
  have hr := B.returns
  have hts := atoms_spec (ws := wsX8_isHeat) B.pre
  have hown : s.vm.findClass RX8 = some m.cls := findClass_of_methodNamed B.named
  have hlocks := B.notSynchronized
  obtain ⟨rfl, hsz, hP, hK, hD, hA, hS, hSW⟩ := zEnter hv
  subst hsz
  generalize va_A ([]) s.heap.size = A at hD hA hS hSW ⊢
  have k_32 := hts (.constantLong RX8 32 (-20)) (List.mem_of_getElem? (i := 1) rfl)
  have k_34 := hts (.constantLong RX8 34 (50)) (List.mem_of_getElem? (i := 2) rfl)
  have hP : va_P G vwCl ([]) s.heap := hP
  have hl := lv_entry ([.int x]) (n := 1) (Nat.le_of_ble_eq_true rfl)
  rw [lg_entry_eq]
  generalize (lg_sl ([.int x]) ++ List.replicate (1 - (lg_sl ([.int x])).length) Slot.unset).toArray = ls at hl ⊢
  have hl : lv_has ls 1 [(0, .int x)] := hl
  refine lv_iload_n hx hb dX8_isHeat_0 rfl (lv_at hl 0 rfl) ?_
  refine lv_i2l (v := x.toInt64) hx hb dX8_isHeat_1 rfl ?_
  refine lv_ldc2 (v := (-20)) hx hb hown k_32 dX8_isHeat_2 ?_
  refine lv_ldc2 (v := 50) hx hb hown k_34 dX8_isHeat_5 ?_
  refine zCi (S := Unit) (ws1 := fun u => []) (wr := []) (va_runS (As := [.long x.toInt64, .long (-20), .long 50]) (rest := []) ⟨hx, hb, hml, hown, hts⟩ (m_X8_in l G Z _ x.toInt64 (-20) 50) (va_cwS 3 hts gX8_isHeat_X8_in rfl rfl rfl (by decide +kernel) ⟨Nat.le_of_ble_eq_true rfl, Nat.le_of_ble_eq_true rfl⟩) (zPreS hK hP hD hS hA hSW [] rfl (by decide)) rfl rfl hl.1 rfl (lv_room (Nat.le_of_ble_eq_true rfl)) dX8_isHeat_8 ⟨Nat.le_of_ble_eq_true rfl, Nat.le_of_ble_eq_true rfl⟩) hP hD hS hA [] [] [] rfl rfl (by decide) (by decide) (by decide) (fun _ => rfl) (fun r8 u H locs hw8 hP hD hS => ?_)
  try dsimp only at hw8
  subst hw8
  have hP : va_P G vwCl ([]) H := hP
  have hD : va_D A ([]) := hD
  exact W.zret hx hb hr (zNarB (mIn_b _ _ _)) (zEi () (by
      exact mIn_w x (-20) 50) hP hD hS) hS.2.2 dX8_isHeat_11

set_option maxHeartbeats 4000000 in
set_option maxRecDepth 100000 in
theorem m_X8_isAir (l : Launch) (G : va_G) (Z : Nat → ClassId) (sz : Nat) (x : Int32)  : Met l yX8_isAir wsX8_isAir ({ frames := 1, cells := 0, slots := 0, locals := 25 }) (va_Pc [.int x] (zWP G Z sz ([]))) (va_Qi (fun (r : Int32) (u : Unit) => r = zAir x) (fun (u : Unit) t => zB G (va_A ([]) sz) ([]) t) (va_A ([]) sz)) 0 0 (va_A ([]) sz) := by
  refine Met.ofW (cc := cX8_isAir) (maxL := 1) (ret := (some .boolean)) (by decide) rfl ?_
  intro p e s m args below meth c s₁ B hml hv
  have hx := B.exec
  have hb := B.bytes
  have hr := B.returns
  have hts := atoms_spec (ws := wsX8_isAir) B.pre
  have hown : s.vm.findClass RX8 = some m.cls := findClass_of_methodNamed B.named
  have hlocks := B.notSynchronized
  obtain ⟨rfl, hsz, hP, hK, hD, hA, hS, hSW⟩ := zEnter hv
  subst hsz
  generalize va_A ([]) s.heap.size = A at hD hA hS hSW ⊢
  have k_40 := hts (.constantLong RX8 40 (800)) (List.mem_of_getElem? (i := 1) rfl)
  have k_42 := hts (.constantLong RX8 42 (1200)) (List.mem_of_getElem? (i := 2) rfl)
  have hP : va_P G vwCl ([]) s.heap := hP
  have hl := lv_entry ([.int x]) (n := 1) (Nat.le_of_ble_eq_true rfl)
  rw [lg_entry_eq]
  generalize (lg_sl ([.int x]) ++ List.replicate (1 - (lg_sl ([.int x])).length) Slot.unset).toArray = ls at hl ⊢
  have hl : lv_has ls 1 [(0, .int x)] := hl
  refine lv_iload_n hx hb dX8_isAir_0 rfl (lv_at hl 0 rfl) ?_
  refine lv_i2l (v := x.toInt64) hx hb dX8_isAir_1 rfl ?_
  refine lv_ldc2 (v := 800) hx hb hown k_40 dX8_isAir_2 ?_
  refine lv_ldc2 (v := 1200) hx hb hown k_42 dX8_isAir_5 ?_
  refine zCi (S := Unit) (ws1 := fun u => []) (wr := []) (va_runS (As := [.long x.toInt64, .long 800, .long 1200]) (rest := []) ⟨hx, hb, hml, hown, hts⟩ (m_X8_in l G Z _ x.toInt64 800 1200) (va_cwS 3 hts gX8_isAir_X8_in rfl rfl rfl (by decide +kernel) ⟨Nat.le_of_ble_eq_true rfl, Nat.le_of_ble_eq_true rfl⟩) (zPreS hK hP hD hS hA hSW [] rfl (by decide)) rfl rfl hl.1 rfl (lv_room (Nat.le_of_ble_eq_true rfl)) dX8_isAir_8 ⟨Nat.le_of_ble_eq_true rfl, Nat.le_of_ble_eq_true rfl⟩) hP hD hS hA [] [] [] rfl rfl (by decide) (by decide) (by decide) (fun _ => rfl) (fun r8 u H locs hw8 hP hD hS => ?_)
  try dsimp only at hw8
  subst hw8
  have hP : va_P G vwCl ([]) H := hP
  have hD : va_D A ([]) := hD
  exact W.zret hx hb hr (zNarB (mIn_b _ _ _)) (zEi () (by
      exact mIn_w x 800 1200) hP hD hS) hS.2.2 dX8_isAir_11

set_option maxHeartbeats 4000000 in
set_option maxRecDepth 100000 in
theorem m_X8_isSetting (l : Launch) (G : va_G) (Z : Nat → ClassId) (sz : Nat) (k : Int32) (x : Int32)  : Met l yX8_isSetting wsX8_isSetting ({ frames := 1, cells := 0, slots := 0, locals := 25 }) (va_Pc [.int k, .int x] (zWP G Z sz ([]))) (va_Qi (fun (r : Int32) (u : Unit) => r = mIsS k x) (fun (u : Unit) t => zB G (va_A ([]) sz) ([]) t) (va_A ([]) sz)) 0 0 (va_A ([]) sz) := by
  refine Met.ofW (cc := cX8_isSetting) (maxL := 2) (ret := (some .boolean)) (by decide) rfl ?_
  intro p e s m args below meth c s₁ B hml hv
  have hx := B.exec
  have hb := B.bytes
  have hr := B.returns
  have hts := atoms_spec (ws := wsX8_isSetting) B.pre
  have hown : s.vm.findClass RX8 = some m.cls := findClass_of_methodNamed B.named
  have hlocks := B.notSynchronized
  obtain ⟨rfl, hsz, hP, hK, hD, hA, hS, hSW⟩ := zEnter hv
  subst hsz
  generalize va_A ([]) s.heap.size = A at hD hA hS hSW ⊢
  have k_73 := hts (.constantLong RX8 73 (99)) (List.mem_of_getElem? (i := 1) rfl)
  have k_75 := hts (.constantLong RX8 75 (-500)) (List.mem_of_getElem? (i := 2) rfl)
  have k_77 := hts (.constantLong RX8 77 (500)) (List.mem_of_getElem? (i := 3) rfl)
  have k_79 := hts (.constantLong RX8 79 (5000)) (List.mem_of_getElem? (i := 4) rfl)
  have hP : va_P G vwCl ([]) s.heap := hP
  have hl := lv_entry ([.int k, .int x]) (n := 2) (Nat.le_of_ble_eq_true rfl)
  rw [lg_entry_eq]
  generalize (lg_sl ([.int k, .int x]) ++ List.replicate (2 - (lg_sl ([.int k, .int x])).length) Slot.unset).toArray = ls at hl ⊢
  have hl : lv_has ls 2 [(0, .int k), (1, .int x)] := hl
  refine lv_iload_n hx hb dX8_isSetting_0 rfl (lv_at hl 0 rfl) ?_
  by_cases c1_0 : k = 0
  · refine lv_tableIn (off := 27) (tgt := 28) hx hb dX8_isSetting_1 (zTin1 c1_0 (by decide)) (zTin2 c1_0 (by decide)) (zTin3 c1_0 (by decide)) (by decide) ?_
    refine lv_iload_n hx hb dX8_isSetting_28 rfl (lv_at hl 1 rfl) ?_
    refine lv_i2l (v := x.toInt64) hx hb dX8_isSetting_29 rfl ?_
    refine lv_lconst (v := 0) hx hb dX8_isSetting_30 (by decide) ?_
    refine lv_ldc2 (v := 99) hx hb hown k_73 dX8_isSetting_31 ?_
    refine zCi (S := Unit) (ws1 := fun u => []) (wr := []) (va_runS (As := [.long x.toInt64, .long 0, .long 99]) (rest := []) ⟨hx, hb, hml, hown, hts⟩ (m_X8_in l G Z _ x.toInt64 0 99) (va_cwS 3 hts gX8_isSetting_X8_in rfl rfl rfl (by decide +kernel) ⟨Nat.le_of_ble_eq_true rfl, Nat.le_of_ble_eq_true rfl⟩) (zPreS hK hP hD hS hA hSW [] rfl (by decide)) rfl rfl hl.1 rfl (lv_room (Nat.le_of_ble_eq_true rfl)) dX8_isSetting_34 ⟨Nat.le_of_ble_eq_true rfl, Nat.le_of_ble_eq_true rfl⟩) hP hD hS hA [] [] [] rfl rfl (by decide) (by decide) (by decide) (fun _ => rfl) (fun r34 u H locs hw34 hP hD hS => ?_)
    try dsimp only at hw34
    subst hw34
    have hP : va_P G vwCl ([]) H := hP
    have hD : va_D A ([]) := hD
    exact W.zret hx hb hr (zNarB (mIn_b _ _ _)) (zEi () (by
        have h0 : k = 0 := c1_0
        subst h0
        exact mIn_w x 0 99) hP hD hS) hS.2.2 dX8_isSetting_37
  by_cases c1_1 : k = 1
  · refine lv_tableIn (off := 27) (tgt := 28) hx hb dX8_isSetting_1 (zTin1 c1_1 (by decide)) (zTin2 c1_1 (by decide)) (zTin3 c1_1 (by decide)) (by decide) ?_
    refine lv_iload_n hx hb dX8_isSetting_28 rfl (lv_at hl 1 rfl) ?_
    refine lv_i2l (v := x.toInt64) hx hb dX8_isSetting_29 rfl ?_
    refine lv_lconst (v := 0) hx hb dX8_isSetting_30 (by decide) ?_
    refine lv_ldc2 (v := 99) hx hb hown k_73 dX8_isSetting_31 ?_
    refine zCi (S := Unit) (ws1 := fun u => []) (wr := []) (va_runS (As := [.long x.toInt64, .long 0, .long 99]) (rest := []) ⟨hx, hb, hml, hown, hts⟩ (m_X8_in l G Z _ x.toInt64 0 99) (va_cwS 3 hts gX8_isSetting_X8_in rfl rfl rfl (by decide +kernel) ⟨Nat.le_of_ble_eq_true rfl, Nat.le_of_ble_eq_true rfl⟩) (zPreS hK hP hD hS hA hSW [] rfl (by decide)) rfl rfl hl.1 rfl (lv_room (Nat.le_of_ble_eq_true rfl)) dX8_isSetting_34 ⟨Nat.le_of_ble_eq_true rfl, Nat.le_of_ble_eq_true rfl⟩) hP hD hS hA [] [] [] rfl rfl (by decide) (by decide) (by decide) (fun _ => rfl) (fun r34_2 u H locs hw34_2 hP hD hS => ?_)
    try dsimp only at hw34_2
    subst hw34_2
    have hP : va_P G vwCl ([]) H := hP
    have hD : va_D A ([]) := hD
    exact W.zret hx hb hr (zNarB (mIn_b _ _ _)) (zEi () (by
        have h0 : k = 1 := c1_1
        subst h0
        exact mIn_w x 0 99) hP hD hS) hS.2.2 dX8_isSetting_37
  by_cases c1_2 : k = 2
  · refine lv_tableIn (off := 37) (tgt := 38) hx hb dX8_isSetting_1 (zTin1 c1_2 (by decide)) (zTin2 c1_2 (by decide)) (zTin3 c1_2 (by decide)) (by decide) ?_
    refine lv_iload_n hx hb dX8_isSetting_38 rfl (lv_at hl 1 rfl) ?_
    refine lv_i2l (v := x.toInt64) hx hb dX8_isSetting_39 rfl ?_
    refine lv_ldc2 (v := (-500)) hx hb hown k_75 dX8_isSetting_40 ?_
    refine lv_ldc2 (v := 500) hx hb hown k_77 dX8_isSetting_43 ?_
    refine zCi (S := Unit) (ws1 := fun u => []) (wr := []) (va_runS (As := [.long x.toInt64, .long (-500), .long 500]) (rest := []) ⟨hx, hb, hml, hown, hts⟩ (m_X8_in l G Z _ x.toInt64 (-500) 500) (va_cwS 3 hts gX8_isSetting_X8_in rfl rfl rfl (by decide +kernel) ⟨Nat.le_of_ble_eq_true rfl, Nat.le_of_ble_eq_true rfl⟩) (zPreS hK hP hD hS hA hSW [] rfl (by decide)) rfl rfl hl.1 rfl (lv_room (Nat.le_of_ble_eq_true rfl)) dX8_isSetting_46 ⟨Nat.le_of_ble_eq_true rfl, Nat.le_of_ble_eq_true rfl⟩) hP hD hS hA [] [] [] rfl rfl (by decide) (by decide) (by decide) (fun _ => rfl) (fun r46 u H locs hw46 hP hD hS => ?_)
    try dsimp only at hw46
    subst hw46
    have hP : va_P G vwCl ([]) H := hP
    have hD : va_D A ([]) := hD
    exact W.zret hx hb hr (zNarB (mIn_b _ _ _)) (zEi () (by
        have h0 : k = 2 := c1_2
        subst h0
        exact mIn_w x (-500) 500) hP hD hS) hS.2.2 dX8_isSetting_49
  refine lv_tableOut (tgt := 50) hx hb dX8_isSetting_1 (by have hh := @Int32.toInt_inj; have w_0 : ¬ (k).toInt = 0 := fun q => c1_0 (Int32.toInt_inj.mp q); have w_1 : ¬ (k).toInt = 1 := fun q => c1_1 (Int32.toInt_inj.mp q); have w_2 : ¬ (k).toInt = 2 := fun q => c1_2 (Int32.toInt_inj.mp q); omega) (by decide) ?_
  refine lv_iload_n hx hb dX8_isSetting_50 rfl (lv_at hl 0 rfl) ?_
  refine lv_iconst (v := 3) hx hb dX8_isSetting_51 (by decide) ?_
  refine lv_icmp_ne (tgt := 71) hx hb dX8_isSetting_52 (by decide) (fun c52 => ?_) (fun c52 => ?_)
  · refine lv_iconst (v := 0) hx hb dX8_isSetting_71 (by decide) ?_
    exact W.zret hx hb hr (rfl) (zEi () (by
        rw [mIsS, if_neg c1_0, if_neg c1_1, if_neg c1_2, if_neg c52]) hP hD hS) hS.2.2 dX8_isSetting_72
  · refine lv_iload_n hx hb dX8_isSetting_55 rfl (lv_at hl 1 rfl) ?_
    refine lv_i2l (v := x.toInt64) hx hb dX8_isSetting_56 rfl ?_
    refine lv_lconst (v := 1) hx hb dX8_isSetting_57 (by decide) ?_
    refine lv_ldc2 (v := 5000) hx hb hown k_79 dX8_isSetting_58 ?_
    refine zCi (S := Unit) (ws1 := fun u => []) (wr := []) (va_runS (As := [.long x.toInt64, .long 1, .long 5000]) (rest := []) ⟨hx, hb, hml, hown, hts⟩ (m_X8_in l G Z _ x.toInt64 1 5000) (va_cwS 3 hts gX8_isSetting_X8_in rfl rfl rfl (by decide +kernel) ⟨Nat.le_of_ble_eq_true rfl, Nat.le_of_ble_eq_true rfl⟩) (zPreS hK hP hD hS hA hSW [] rfl (by decide)) rfl rfl hl.1 rfl (lv_room (Nat.le_of_ble_eq_true rfl)) dX8_isSetting_61 ⟨Nat.le_of_ble_eq_true rfl, Nat.le_of_ble_eq_true rfl⟩) hP hD hS hA [] [] [] rfl rfl (by decide) (by decide) (by decide) (fun _ => rfl) (fun r61 u H locs hw61 hP hD hS => ?_)
    try dsimp only at hw61
    subst hw61
    have hP : va_P G vwCl ([]) H := hP
    have hD : va_D A ([]) := hD
    refine lv_if_eq (tgt := 71) hx hb dX8_isSetting_64 (by decide) (fun c64 => ?_) (fun c64 => ?_)
    · refine lv_iconst (v := 0) hx hb dX8_isSetting_71 (by decide) ?_
      exact W.zret hx hb hr (rfl) (zEi () (by
          rw [show mIn x.toInt64 1 5000 = mRng x 1 5000 from mIn_w x 1 5000] at c64
          rw [mIsS, if_neg c1_0, if_neg c1_1, if_neg c1_2, if_pos c52, if_pos c64]) hP hD hS) hS.2.2 dX8_isSetting_72
    · refine lv_iconst (v := 1) hx hb dX8_isSetting_67 (by decide) ?_
      refine lv_goto (tgt := 72) hx hb dX8_isSetting_68 (by decide) ?_
      exact W.zret hx hb hr (rfl) (zEi () (by
          rw [show mIn x.toInt64 1 5000 = mRng x 1 5000 from mIn_w x 1 5000] at c64
          rw [mIsS, if_neg c1_0, if_neg c1_1, if_neg c1_2, if_pos c52, if_neg c64]) hP hD hS) hS.2.2 dX8_isSetting_72

set_option maxHeartbeats 4000000 in
set_option maxRecDepth 100000 in
theorem m_X8_size (l : Launch) (G : va_G) (Z : Nat → ClassId) (sz : Nat) (x : Int32)  : Met l yX8_size wsX8_size ({ frames := 0, cells := 0, slots := 0, locals := 0 }) (va_Pc [.int x] (zWP G Z sz ([]))) (va_Qi (fun (r : Int32) (u : Unit) => r = mSize x) (fun (u : Unit) t => zB G (va_A ([]) sz) ([]) t) (va_A ([]) sz)) 0 0 (va_A ([]) sz) := by
  refine Met.ofW (cc := cX8_size) (maxL := 1) (ret := (some .int)) (by decide) rfl ?_
  intro p e s m args below meth c s₁ B hml hv
  have hx := B.exec
  have hb := B.bytes
  have hr := B.returns
  have hts := atoms_spec (ws := wsX8_size) B.pre
  have hown : s.vm.findClass RX8 = some m.cls := findClass_of_methodNamed B.named
  have hlocks := B.notSynchronized
  obtain ⟨rfl, hsz, hP, hK, hD, hA, hS, hSW⟩ := zEnter hv
  subst hsz
  generalize va_A ([]) s.heap.size = A at hD hA hS hSW ⊢
  have hP : va_P G vwCl ([]) s.heap := hP
  have hl := lv_entry ([.int x]) (n := 1) (Nat.le_of_ble_eq_true rfl)
  rw [lg_entry_eq]
  generalize (lg_sl ([.int x]) ++ List.replicate (1 - (lg_sl ([.int x])).length) Slot.unset).toArray = ls at hl ⊢
  have hl : lv_has ls 1 [(0, .int x)] := hl
  refine lv_iload_n hx hb dX8_size_0 rfl (lv_at hl 0 rfl) ?_
  refine lv_if_ge (tgt := 9) hx hb dX8_size_1 (by decide) (fun c1 => ?_) (fun c1 => ?_)
  · refine lv_iload_n hx hb dX8_size_9 rfl (lv_at hl 0 rfl) ?_
    exact W.iret hx hb hr (zEi () (by
        simp only [mSize, c1, Int32.not_lt.mpr c1, ↓reduceIte]) hP hD hS) hS.2.2 dX8_size_10
  · refine lv_iload_n hx hb dX8_size_4 rfl (lv_at hl 0 rfl) ?_
    refine lv_ineg hx hb dX8_size_5 ?_
    refine lv_goto (tgt := 10) hx hb dX8_size_6 (by decide) ?_
    exact W.iret hx hb hr (zEi () (by
        simp only [mSize, c1, Int32.not_le.mp c1, ↓reduceIte]) hP hD hS) hS.2.2 dX8_size_10

set_option maxHeartbeats 4000000 in
set_option maxRecDepth 100000 in
theorem m_X8_keep (l : Launch) (G : va_G) (Z : Nat → ClassId) (sz : Nat) (b : Nat → Nat) (al : Nat → Int32) (ke : Nat → Int32) (hs : Nat → Int32) (hq : Nat) (sl : Nat → Int32) (sa : Nat → Int32) (off : Int32) (car : Int32) (pa : Nat → Int32) (pq : Nat) (sp : Nat) (nu : Int32) (dn : Int32) (er : Int32)  : Met l yX8_keep wsX8_keep ({ frames := 0, cells := 0, slots := 0, locals := 0 }) (va_Pc [.ref (b 0)] (zWP G Z sz (mk Z b (al, ke, hs, hq, sl, sa, off, car, pa, pq, sp, nu, dn, er)))) (va_Qv (fun (u : Unit) => True) (fun (u : Unit) t => zB G (va_A (mk Z b (al, ke, hs, hq, sl, sa, off, car, pa, pq, sp, nu, dn, er)) sz) (mk Z b (al, (mCp al ke 347), hs, hq, sl, sa, off, car, pa, pq, sp, nu, dn, er)) t) (va_A (mk Z b (al, ke, hs, hq, sl, sa, off, car, pa, pq, sp, nu, dn, er)) sz)) 0 0 (va_A (mk Z b (al, ke, hs, hq, sl, sa, off, car, pa, pq, sp, nu, dn, er)) sz) := by
  refine Met.ofW (cc := cX8_keep) (maxL := 2) (ret := none) (by decide) rfl ?_
  intro p e s m args below meth c s₁ B hml hv
  have hx := B.exec
  have hb := B.bytes
  have hr := B.returns
  have hts := atoms_spec (ws := wsX8_keep) B.pre
  have hown : s.vm.findClass RX8 = some m.cls := findClass_of_methodNamed B.named
  have hlocks := B.notSynchronized
  obtain ⟨rfl, hsz, hP, hK, hD, hA, hS, hSW⟩ := zEnter hv
  subst hsz
  generalize va_A (mk Z b (al, ke, hs, hq, sl, sa, off, car, pa, pq, sp, nu, dn, er)) s.heap.size = A at hD hA hS hSW ⊢
  have k_13 := hts (.fieldLink RX8 13 "WarmRodsModel" "kept" "[I") (List.mem_of_getElem? (i := 1) rfl)
  have iX8 : ∀ w ∈ u_ws RX8 TX8 14, w ∈ wsX8_keep := fun _ h => List.mem_cons_of_mem _ (List.mem_append_right _ h)
  have k_7 := hts (.fieldLink RX8 7 "WarmRodsModel" "all" "[I") (List.mem_of_getElem? (i := 2) rfl)
  have hP : va_P G vwCl (mk Z b (al, ke, hs, hq, sl, sa, off, car, pa, pq, sp, nu, dn, er)) s.heap := hP
  have hl := lv_entry ([.ref (b 0)]) (n := 2) (Nat.le_of_ble_eq_true rfl)
  rw [lg_entry_eq]
  generalize (lg_sl ([.ref (b 0)]) ++ List.replicate (2 - (lg_sl ([.ref (b 0)])).length) Slot.unset).toArray = ls at hl ⊢
  have hl : lv_has ls 2 [(0, .ref (b 0))] := hl
  refine lv_iconst (v := 0) hx hb dX8_keep_0 (by decide) ?_
  refine lv_istore_n (lv' := [(1, .int 0), (0, .ref (b 0))]) hx hb dX8_keep_1 rfl hl (by decide) rfl (fun ls hl => ?_)
  rw [← mCp_0 al ke] at hP hD
  refine zLoop (σ := Nat) (nL := 2) (fun zx => mk Z b (al, (mCp al ke zx), hs, hq, sl, sa, off, car, pa, pq, sp, nu, dn, er)) (fun zx => [(1, .int (nI zx)), (0, .ref (b 0))]) (fun zx => zx ≤ 347) (fun zx => 347 - zx) ?_ 0 (by
      try dsimp only
      omega) hP hD hS (lv_sub hl [0, 1] rfl)
  intro zx hinv2 ih2 H locs ls hP hD hS hl
  obtain ⟨k, rfl⟩ : ∃ z, z = zx := ⟨_, rfl⟩
  try dsimp only at hinv2 ih2
  have hP : va_P G vwCl (mk Z b (al, (mCp al ke k), hs, hq, sl, sa, off, car, pa, pq, sp, nu, dn, er)) H := hP
  have hD : va_D A (mk Z b (al, (mCp al ke k), hs, hq, sl, sa, off, car, pa, pq, sp, nu, dn, er)) := hD
  have hl : lv_has ls 2 [(1, .int (nI k)), (0, .ref (b 0))] := hl
  refine lv_iload_n hx hb dX8_keep_2 rfl (lv_at hl 0 rfl) ?_
  refine lv_sipush (v := 347) hx hb dX8_keep_3 (by decide) ?_
  refine lv_icmp_ge (tgt := 27) hx hb dX8_keep_6 (by decide) (fun c6 => ?_) (fun c6 => ?_)
  · have hk := zLe (a := 347) c6 (by omega) (by omega)
    obtain rfl : k = 347 := by omega
    exact W.vret hx hb hr (zEv () (by
        trivial) hP hD hS) hS.2.2 dX8_keep_27
  · refine lv_aload_n hx hb dX8_keep_9 rfl (lv_at hl 1 rfl) ?_
    refine va_get (D := G) (ci := 8) (v := .ref (b 2)) (C := RX8) (T := TX8) (N := 14) hx hb hts iX8 hown hK hP 0 rfl rfl 1 (by decide) k_13 (fun _ h9 => h9) rfl dX8_keep_10 ?_
    refine lv_iload_n hx hb dX8_keep_13 rfl (lv_at hl 0 rfl) ?_
    refine lv_aload_n hx hb dX8_keep_14 rfl (lv_at hl 1 rfl) ?_
    refine va_get (D := G) (ci := 8) (v := .ref (b 1)) (C := RX8) (T := TX8) (N := 14) hx hb hts iX8 hown hK hP 0 rfl rfl 0 (by decide) k_7 (fun _ h9 => h9) rfl dX8_keep_15 ?_
    refine lv_iload_n hx hb dX8_keep_18 rfl (lv_at hl 0 rfl) ?_
    refine zIald (f := al) hx hb hK hP 1 0 rfl rfl k (rfl) (by have := zNle (a := 347) c6 (by omega) (by omega); omega) (by decide) dX8_keep_19 ?_
    refine zIast (f := (mCp al ke k)) hx hb hK hP hD hS 2 0 rfl rfl k (rfl) (by have := zNle (a := 347) c6 (by omega) (by omega); omega) (by decide) dX8_keep_20 (fun H locs hP hD hS => ?_)
    have hP : va_P G vwCl (mk Z b (al, (upd (mCp al ke k) k (al k)), hs, hq, sl, sa, off, car, pa, pq, sp, nu, dn, er)) H := hP
    have hD : va_D A (mk Z b (al, (upd (mCp al ke k) k (al k)), hs, hq, sl, sa, off, car, pa, pq, sp, nu, dn, er)) := hD
    refine lv_iinc (v := (nI (k + 1))) (lv' := [(1, .int (nI (k + 1))), (0, .ref (b 0))]) hx hb dX8_keep_21 hl (k := 0) rfl (nI_succ k).symm (by decide) rfl (fun ls hl => ?_)
    refine lv_goto (tgt := 2) hx hb dX8_keep_24 (by decide) ?_
    rw [mCp_s] at hP hD
    exact ih2 (k + 1) (by
        try dsimp only
        have hk := zNle (a := 347) c6 (by omega) (by omega)
        omega) (by
        try dsimp only
        have hk := zNle (a := 347) c6 (by omega) (by omega)
        omega) _ _ _ hP hD hS (lv_sub hl [0, 1] rfl)

set_option maxHeartbeats 4000000 in
set_option maxRecDepth 100000 in
theorem m_X8_changed (l : Launch) (G : va_G) (Z : Nat → ClassId) (sz : Nat) (b : Nat → Nat) (al : Nat → Int32) (ke : Nat → Int32) (hs : Nat → Int32) (hq : Nat) (sl : Nat → Int32) (sa : Nat → Int32) (off : Int32) (car : Int32) (pa : Nat → Int32) (pq : Nat) (sp : Nat) (nu : Int32) (dn : Int32) (er : Int32) (x : Int32) (hhq : hq ≤ 6) : Met l yX8_changed wsX8_changed ({ frames := 0, cells := 0, slots := 0, locals := 0 }) (va_Pc [.ref (b 0), .int x] (zWP G Z sz (mk Z b (al, ke, hs, hq, sl, sa, off, car, pa, pq, sp, nu, dn, er)))) (va_Qi (fun (r : Int32) (u : (Nat → Int32) × Nat) => r = x ∧ u.1 = mHs hs ke hq ∧ u.2 = mHq hq) (fun (u : (Nat → Int32) × Nat) t => zB G (va_A (mk Z b (al, ke, hs, hq, sl, sa, off, car, pa, pq, sp, nu, dn, er)) sz) (mk Z b (al, ke, u.1, u.2, sl, sa, off, car, pa, pq, sp, nu, dn, er)) t) (va_A (mk Z b (al, ke, hs, hq, sl, sa, off, car, pa, pq, sp, nu, dn, er)) sz)) 0 0 (va_A (mk Z b (al, ke, hs, hq, sl, sa, off, car, pa, pq, sp, nu, dn, er)) sz) := by
  refine Met.ofW (cc := cX8_changed) (maxL := 3) (ret := (some .int)) (by decide) rfl ?_
  intro p e s m args below meth c s₁ B hml hv
  have hx := B.exec
  have hb := B.bytes
  have hr := B.returns
  have hts := atoms_spec (ws := wsX8_changed) B.pre
  have hown : s.vm.findClass RX8 = some m.cls := findClass_of_methodNamed B.named
  have hlocks := B.notSynchronized
  obtain ⟨rfl, hsz, hP, hK, hD, hA, hS, hSW⟩ := zEnter hv
  subst hsz
  generalize va_A (mk Z b (al, ke, hs, hq, sl, sa, off, car, pa, pq, sp, nu, dn, er)) s.heap.size = A at hD hA hS hSW ⊢
  have k_28 := hts (.fieldLink RX8 28 "WarmRodsModel" "historyLong" "I") (List.mem_of_getElem? (i := 1) rfl)
  have iX8 : ∀ w ∈ u_ws RX8 TX8 14, w ∈ wsX8_changed := fun _ h => List.mem_cons_of_mem _ (List.mem_append_right _ h)
  have k_16 := hts (.fieldLink RX8 16 "WarmRodsModel" "history" "[I") (List.mem_of_getElem? (i := 2) rfl)
  have k_13 := hts (.fieldLink RX8 13 "WarmRodsModel" "kept" "[I") (List.mem_of_getElem? (i := 3) rfl)
  have hP : va_P G vwCl (mk Z b (al, ke, hs, hq, sl, sa, off, car, pa, pq, sp, nu, dn, er)) s.heap := hP
  have hl := lv_entry ([.ref (b 0), .int x]) (n := 3) (Nat.le_of_ble_eq_true rfl)
  rw [lg_entry_eq]
  generalize (lg_sl ([.ref (b 0), .int x]) ++ List.replicate (3 - (lg_sl ([.ref (b 0), .int x])).length) Slot.unset).toArray = ls at hl ⊢
  have hl : lv_has ls 3 [(0, .ref (b 0)), (1, .int x)] := hl
  refine lv_aload_n hx hb dX8_changed_0 rfl (lv_at hl 0 rfl) ?_
  refine va_get (D := G) (ci := 8) (v := .int (nI hq)) (C := RX8) (T := TX8) (N := 14) hx hb hts iX8 hown hK hP 0 rfl rfl 3 (by decide) k_28 (fun _ h9 => h9) rfl dX8_changed_1 ?_
  refine lv_bipush (v := 6) hx hb dX8_changed_4 (by decide) ?_
  refine lv_icmp_ne (tgt := 50) hx hb dX8_changed_6 (by decide) (fun c6 => ?_) (fun c6 => ?_)
  · refine lv_iconst (v := 0) hx hb dX8_changed_50 (by decide) ?_
    refine lv_istore_n (lv' := [(2, .int 0), (0, .ref (b 0)), (1, .int x)]) hx hb dX8_changed_51 rfl hl (by decide) rfl (fun ls hl => ?_)
    rw [← mPut_0 ke hs (347 * hq)] at hP hD
    refine zLoop (σ := Nat) (nL := 3) (fun zx => mk Z b (al, ke, (mPut ke hs (347 * hq) zx), hq, sl, sa, off, car, pa, pq, sp, nu, dn, er)) (fun zx => [(2, .int (nI zx)), (0, .ref (b 0)), (1, .int x)]) (fun zx => zx ≤ 347) (fun zx => 347 - zx) ?_ 0 (by
        try dsimp only
        omega) hP hD hS (lv_sub hl [0, 1, 2] rfl)
    intro zx hinv52 ih52 H locs ls hP hD hS hl
    obtain ⟨k, rfl⟩ : ∃ z, z = zx := ⟨_, rfl⟩
    try dsimp only at hinv52 ih52
    have hP : va_P G vwCl (mk Z b (al, ke, (mPut ke hs (347 * hq) k), hq, sl, sa, off, car, pa, pq, sp, nu, dn, er)) H := hP
    have hD : va_D A (mk Z b (al, ke, (mPut ke hs (347 * hq) k), hq, sl, sa, off, car, pa, pq, sp, nu, dn, er)) := hD
    have hl : lv_has ls 3 [(2, .int (nI k)), (0, .ref (b 0)), (1, .int x)] := hl
    refine lv_iload_n hx hb dX8_changed_52 rfl (lv_at hl 0 rfl) ?_
    refine lv_sipush (v := 347) hx hb dX8_changed_53 (by decide) ?_
    refine lv_icmp_ge (tgt := 86) hx hb dX8_changed_56 (by decide) (fun c56 => ?_) (fun c56 => ?_)
    · refine lv_aload_n hx hb dX8_changed_86 rfl (lv_at hl 1 rfl) ?_
      refine lv_dup hx hb dX8_changed_87 rfl ?_
      refine va_get (D := G) (ci := 8) (v := .int (nI hq)) (C := RX8) (T := TX8) (N := 14) hx hb hts iX8 hown hK hP 0 rfl rfl 3 (by decide) k_28 (fun _ h9 => h9) rfl dX8_changed_88 ?_
      refine lv_iconst (v := 1) hx hb dX8_changed_91 (by decide) ?_
      refine lv_iadd hx hb dX8_changed_92 ?_
      refine zTopI (y := (nI (hq + 1))) (nI_succ hq).symm ?_
      refine va_put (D := G) (ci := 8) (v := .int (nI (hq + 1))) (ty := .int) (C := RX8) (T := TX8) (N := 14) hx hb hts iX8 tyX8 tyX8_ok nmX8 hown hK hP hD hS 0 rfl rfl 3 (by decide) k_28 (fun _ h9 => h9) rfl (by decide +kernel) rfl rfl (Nat.le_of_ble_eq_true rfl) dX8_changed_93 (fun H locs hP hD hS => ?_)
      have hP : va_P G vwCl (mk Z b (al, ke, (mPut ke hs (347 * hq) k), (hq + 1), sl, sa, off, car, pa, pq, sp, nu, dn, er)) H := hP
      have hD : va_D A (mk Z b (al, ke, (mPut ke hs (347 * hq) k), (hq + 1), sl, sa, off, car, pa, pq, sp, nu, dn, er)) := hD
      refine lv_iload_n hx hb dX8_changed_96 rfl (lv_at hl 2 rfl) ?_
      exact W.iret hx hb hr (zEi ((mPut ke hs (347 * hq) k), (hq + 1)) (by
          have hk := zLe (a := 347) c56 (by omega) (by omega)
          obtain rfl : k = 347 := by omega
          have h6 : ¬ hq = 6 := fun q => c6 (by rw [q]; rfl)
          exact ⟨rfl, (if_neg h6).symm, (if_neg h6).symm⟩) hP hD hS) hS.2.2 dX8_changed_97
    · refine lv_aload_n hx hb dX8_changed_59 rfl (lv_at hl 1 rfl) ?_
      refine va_get (D := G) (ci := 8) (v := .ref (b 3)) (C := RX8) (T := TX8) (N := 14) hx hb hts iX8 hown hK hP 0 rfl rfl 2 (by decide) k_16 (fun _ h9 => h9) rfl dX8_changed_60 ?_
      refine lv_sipush (v := 347) hx hb dX8_changed_63 (by decide) ?_
      refine lv_aload_n hx hb dX8_changed_66 rfl (lv_at hl 1 rfl) ?_
      refine va_get (D := G) (ci := 8) (v := .int (nI hq)) (C := RX8) (T := TX8) (N := 14) hx hb hts iX8 hown hK hP 0 rfl rfl 3 (by decide) k_28 (fun _ h9 => h9) rfl dX8_changed_67 ?_
      refine lv_imul hx hb dX8_changed_70 ?_
      refine lv_iload_n hx hb dX8_changed_71 rfl (lv_at hl 0 rfl) ?_
      refine lv_iadd hx hb dX8_changed_72 ?_
      refine lv_aload_n hx hb dX8_changed_73 rfl (lv_at hl 1 rfl) ?_
      refine va_get (D := G) (ci := 8) (v := .ref (b 2)) (C := RX8) (T := TX8) (N := 14) hx hb hts iX8 hown hK hP 0 rfl rfl 1 (by decide) k_13 (fun _ h9 => h9) rfl dX8_changed_74 ?_
      refine lv_iload_n hx hb dX8_changed_77 rfl (lv_at hl 0 rfl) ?_
      refine zIald (f := ke) hx hb hK hP 2 0 rfl rfl k (rfl) (by have hk := zNle (a := 347) c56 (by omega) (by omega); omega) (by decide) dX8_changed_78 ?_
      refine zIast (f := (mPut ke hs (347 * hq) k)) hx hb hK hP hD hS 3 0 rfl rfl (347 * hq + k) (by rw [show (347 : Int32) = nI 347 from rfl, pk_mul, nI_add]) (by have hk := zNle (a := 347) c56 (by omega) (by omega); have h6 : ¬ hq = 6 := fun q => c6 (by rw [q]; rfl); omega) (by decide) dX8_changed_79 (fun H locs hP hD hS => ?_)
      have hP : va_P G vwCl (mk Z b (al, ke, (upd (mPut ke hs (347 * hq) k) (347 * hq + k) (ke k)), hq, sl, sa, off, car, pa, pq, sp, nu, dn, er)) H := hP
      have hD : va_D A (mk Z b (al, ke, (upd (mPut ke hs (347 * hq) k) (347 * hq + k) (ke k)), hq, sl, sa, off, car, pa, pq, sp, nu, dn, er)) := hD
      refine lv_iinc (v := (nI (k + 1))) (lv' := [(2, .int (nI (k + 1))), (0, .ref (b 0)), (1, .int x)]) hx hb dX8_changed_80 hl (k := 0) rfl (nI_succ k).symm (by decide) rfl (fun ls hl => ?_)
      refine lv_goto (tgt := 52) hx hb dX8_changed_83 (by decide) ?_
      rw [mPut_s] at hP hD
      exact ih52 (k + 1) (by
          try dsimp only
          have hk := zNle (a := 347) c56 (by omega) (by omega)
          omega) (by
          try dsimp only
          have hk := zNle (a := 347) c56 (by omega) (by omega)
          omega) _ _ _ hP hD hS (lv_sub hl [0, 1, 2] rfl)
  · have h6 : hq = 6 := (nI_eq (by omega) (by decide)).mp c6
    subst h6
    refine lv_iconst (v := 0) hx hb dX8_changed_9 (by decide) ?_
    refine lv_istore_n (lv' := [(2, .int 0), (0, .ref (b 0)), (1, .int x)]) hx hb dX8_changed_10 rfl hl (by decide) rfl (fun ls hl => ?_)
    rw [← mDrop_0 hs] at hP hD
    refine zLoop (σ := Nat) (nL := 3) (fun zx => mk Z b (al, ke, (mDrop hs zx), 6, sl, sa, off, car, pa, pq, sp, nu, dn, er)) (fun zx => [(2, .int (nI zx)), (0, .ref (b 0)), (1, .int x)]) (fun zx => zx ≤ 1735) (fun zx => 1735 - zx) ?_ 0 (by
        try dsimp only
        omega) hP hD hS (lv_sub hl [0, 1, 2] rfl)
    intro zx hinv11 ih11 H locs ls hP hD hS hl
    obtain ⟨k, rfl⟩ : ∃ z, z = zx := ⟨_, rfl⟩
    try dsimp only at hinv11 ih11
    have hP : va_P G vwCl (mk Z b (al, ke, (mDrop hs k), 6, sl, sa, off, car, pa, pq, sp, nu, dn, er)) H := hP
    have hD : va_D A (mk Z b (al, ke, (mDrop hs k), 6, sl, sa, off, car, pa, pq, sp, nu, dn, er)) := hD
    have hl : lv_has ls 3 [(2, .int (nI k)), (0, .ref (b 0)), (1, .int x)] := hl
    refine lv_iload_n hx hb dX8_changed_11 rfl (lv_at hl 0 rfl) ?_
    refine lv_sipush (v := 1735) hx hb dX8_changed_12 (by decide) ?_
    refine lv_icmp_ge (tgt := 40) hx hb dX8_changed_15 (by decide) (fun c15 => ?_) (fun c15 => ?_)
    · have hk := zLe (a := 1735) c15 (by omega) (by omega)
      obtain rfl : k = 1735 := by omega
      refine lv_aload_n hx hb dX8_changed_40 rfl (lv_at hl 1 rfl) ?_
      refine lv_dup hx hb dX8_changed_41 rfl ?_
      refine va_get (D := G) (ci := 8) (v := .int (nI 6)) (C := RX8) (T := TX8) (N := 14) hx hb hts iX8 hown hK hP 0 rfl rfl 3 (by decide) k_28 (fun _ h9 => h9) rfl dX8_changed_42 ?_
      refine lv_iconst (v := 1) hx hb dX8_changed_45 (by decide) ?_
      refine lv_isub hx hb dX8_changed_46 ?_
      refine zTopI (y := (nI 5)) (by decide) ?_
      refine va_put (D := G) (ci := 8) (v := .int (nI 5)) (ty := .int) (C := RX8) (T := TX8) (N := 14) hx hb hts iX8 tyX8 tyX8_ok nmX8 hown hK hP hD hS 0 rfl rfl 3 (by decide) k_28 (fun _ h9 => h9) rfl (by decide +kernel) rfl rfl (Nat.le_of_ble_eq_true rfl) dX8_changed_47 (fun H locs hP hD hS => ?_)
      have hP : va_P G vwCl (mk Z b (al, ke, (mDrop hs 1735), 5, sl, sa, off, car, pa, pq, sp, nu, dn, er)) H := hP
      have hD : va_D A (mk Z b (al, ke, (mDrop hs 1735), 5, sl, sa, off, car, pa, pq, sp, nu, dn, er)) := hD
      refine lv_iconst (v := 0) hx hb dX8_changed_50 (by decide) ?_
      refine lv_istore_n (lv' := [(2, .int 0), (0, .ref (b 0)), (1, .int x)]) hx hb dX8_changed_51 rfl hl (by decide) rfl (fun ls hl => ?_)
      rw [← mPut_0 ke (mDrop hs 1735) (347 * 5)] at hP hD
      refine zLoop (σ := Nat) (nL := 3) (fun zx => mk Z b (al, ke, (mPut ke (mDrop hs 1735) (347 * 5) zx), 5, sl, sa, off, car, pa, pq, sp, nu, dn, er)) (fun zx => [(2, .int (nI zx)), (0, .ref (b 0)), (1, .int x)]) (fun zx => zx ≤ 347) (fun zx => 347 - zx) ?_ 0 (by
          try dsimp only
          omega) hP hD hS (lv_sub hl [0, 1, 2] rfl)
      intro zx hinv52 ih52 H locs ls hP hD hS hl
      obtain ⟨k, rfl⟩ : ∃ z, z = zx := ⟨_, rfl⟩
      try dsimp only at hinv52 ih52
      have hP : va_P G vwCl (mk Z b (al, ke, (mPut ke (mDrop hs 1735) (347 * 5) k), 5, sl, sa, off, car, pa, pq, sp, nu, dn, er)) H := hP
      have hD : va_D A (mk Z b (al, ke, (mPut ke (mDrop hs 1735) (347 * 5) k), 5, sl, sa, off, car, pa, pq, sp, nu, dn, er)) := hD
      have hl : lv_has ls 3 [(2, .int (nI k)), (0, .ref (b 0)), (1, .int x)] := hl
      refine lv_iload_n hx hb dX8_changed_52 rfl (lv_at hl 0 rfl) ?_
      refine lv_sipush (v := 347) hx hb dX8_changed_53 (by decide) ?_
      refine lv_icmp_ge (tgt := 86) hx hb dX8_changed_56 (by decide) (fun c56 => ?_) (fun c56 => ?_)
      · refine lv_aload_n hx hb dX8_changed_86 rfl (lv_at hl 1 rfl) ?_
        refine lv_dup hx hb dX8_changed_87 rfl ?_
        refine va_get (D := G) (ci := 8) (v := .int (nI 5)) (C := RX8) (T := TX8) (N := 14) hx hb hts iX8 hown hK hP 0 rfl rfl 3 (by decide) k_28 (fun _ h9 => h9) rfl dX8_changed_88 ?_
        refine lv_iconst (v := 1) hx hb dX8_changed_91 (by decide) ?_
        refine lv_iadd hx hb dX8_changed_92 ?_
        refine zTopI (y := (nI (5 + 1))) (nI_succ 5).symm ?_
        refine va_put (D := G) (ci := 8) (v := .int (nI (5 + 1))) (ty := .int) (C := RX8) (T := TX8) (N := 14) hx hb hts iX8 tyX8 tyX8_ok nmX8 hown hK hP hD hS 0 rfl rfl 3 (by decide) k_28 (fun _ h9 => h9) rfl (by decide +kernel) rfl rfl (Nat.le_of_ble_eq_true rfl) dX8_changed_93 (fun H locs hP hD hS => ?_)
        have hP : va_P G vwCl (mk Z b (al, ke, (mPut ke (mDrop hs 1735) (347 * 5) k), (5 + 1), sl, sa, off, car, pa, pq, sp, nu, dn, er)) H := hP
        have hD : va_D A (mk Z b (al, ke, (mPut ke (mDrop hs 1735) (347 * 5) k), (5 + 1), sl, sa, off, car, pa, pq, sp, nu, dn, er)) := hD
        refine lv_iload_n hx hb dX8_changed_96 rfl (lv_at hl 2 rfl) ?_
        exact W.iret hx hb hr (zEi ((mPut ke (mDrop hs 1735) (347 * 5) k), (5 + 1)) (by
            have hk := zLe (a := 347) c56 (by omega) (by omega)
            obtain rfl : k = 347 := by omega
            exact ⟨rfl, rfl, rfl⟩) hP hD hS) hS.2.2 dX8_changed_97
      · refine lv_aload_n hx hb dX8_changed_59 rfl (lv_at hl 1 rfl) ?_
        refine va_get (D := G) (ci := 8) (v := .ref (b 3)) (C := RX8) (T := TX8) (N := 14) hx hb hts iX8 hown hK hP 0 rfl rfl 2 (by decide) k_16 (fun _ h9 => h9) rfl dX8_changed_60 ?_
        refine lv_sipush (v := 347) hx hb dX8_changed_63 (by decide) ?_
        refine lv_aload_n hx hb dX8_changed_66 rfl (lv_at hl 1 rfl) ?_
        refine va_get (D := G) (ci := 8) (v := .int (nI 5)) (C := RX8) (T := TX8) (N := 14) hx hb hts iX8 hown hK hP 0 rfl rfl 3 (by decide) k_28 (fun _ h9 => h9) rfl dX8_changed_67 ?_
        refine lv_imul hx hb dX8_changed_70 ?_
        refine lv_iload_n hx hb dX8_changed_71 rfl (lv_at hl 0 rfl) ?_
        refine lv_iadd hx hb dX8_changed_72 ?_
        refine lv_aload_n hx hb dX8_changed_73 rfl (lv_at hl 1 rfl) ?_
        refine va_get (D := G) (ci := 8) (v := .ref (b 2)) (C := RX8) (T := TX8) (N := 14) hx hb hts iX8 hown hK hP 0 rfl rfl 1 (by decide) k_13 (fun _ h9 => h9) rfl dX8_changed_74 ?_
        refine lv_iload_n hx hb dX8_changed_77 rfl (lv_at hl 0 rfl) ?_
        refine zIald (f := ke) hx hb hK hP 2 0 rfl rfl k (rfl) (by have hk := zNle (a := 347) c56 (by omega) (by omega); omega) (by decide) dX8_changed_78 ?_
        refine zIast (f := (mPut ke (mDrop hs 1735) (347 * 5) k)) hx hb hK hP hD hS 3 0 rfl rfl (347 * 5 + k) (by rw [show (347 : Int32) = nI 347 from rfl, pk_mul, nI_add]) (by have hk := zNle (a := 347) c56 (by omega) (by omega); omega) (by decide) dX8_changed_79 (fun H locs hP hD hS => ?_)
        have hP : va_P G vwCl (mk Z b (al, ke, (upd (mPut ke (mDrop hs 1735) (347 * 5) k) (347 * 5 + k) (ke k)), 5, sl, sa, off, car, pa, pq, sp, nu, dn, er)) H := hP
        have hD : va_D A (mk Z b (al, ke, (upd (mPut ke (mDrop hs 1735) (347 * 5) k) (347 * 5 + k) (ke k)), 5, sl, sa, off, car, pa, pq, sp, nu, dn, er)) := hD
        refine lv_iinc (v := (nI (k + 1))) (lv' := [(2, .int (nI (k + 1))), (0, .ref (b 0)), (1, .int x)]) hx hb dX8_changed_80 hl (k := 0) rfl (nI_succ k).symm (by decide) rfl (fun ls hl => ?_)
        refine lv_goto (tgt := 52) hx hb dX8_changed_83 (by decide) ?_
        rw [mPut_s] at hP hD
        exact ih52 (k + 1) (by
            try dsimp only
            have hk := zNle (a := 347) c56 (by omega) (by omega)
            omega) (by
            try dsimp only
            have hk := zNle (a := 347) c56 (by omega) (by omega)
            omega) _ _ _ hP hD hS (lv_sub hl [0, 1, 2] rfl)
    · refine lv_aload_n hx hb dX8_changed_18 rfl (lv_at hl 1 rfl) ?_
      refine va_get (D := G) (ci := 8) (v := .ref (b 3)) (C := RX8) (T := TX8) (N := 14) hx hb hts iX8 hown hK hP 0 rfl rfl 2 (by decide) k_16 (fun _ h9 => h9) rfl dX8_changed_19 ?_
      refine lv_iload_n hx hb dX8_changed_22 rfl (lv_at hl 0 rfl) ?_
      refine lv_aload_n hx hb dX8_changed_23 rfl (lv_at hl 1 rfl) ?_
      refine va_get (D := G) (ci := 8) (v := .ref (b 3)) (C := RX8) (T := TX8) (N := 14) hx hb hts iX8 hown hK hP 0 rfl rfl 2 (by decide) k_16 (fun _ h9 => h9) rfl dX8_changed_24 ?_
      refine lv_iload_n hx hb dX8_changed_27 rfl (lv_at hl 0 rfl) ?_
      refine lv_sipush (v := 347) hx hb dX8_changed_28 (by decide) ?_
      refine lv_iadd hx hb dX8_changed_31 ?_
      refine zIald (f := (mDrop hs k)) hx hb hK hP 3 0 rfl rfl (k + 347) (by rw [show (347 : Int32) = nI 347 from rfl, nI_add]) (by have hk := zNle (a := 1735) c15 (by omega) (by omega); omega) (by decide) dX8_changed_32 ?_
      refine zIast (f := (mDrop hs k)) hx hb hK hP hD hS 3 0 rfl rfl k (rfl) (by have hk := zNle (a := 1735) c15 (by omega) (by omega); omega) (by decide) dX8_changed_33 (fun H locs hP hD hS => ?_)
      have hP : va_P G vwCl (mk Z b (al, ke, (upd (mDrop hs k) k ((mDrop hs k) (k + 347))), 6, sl, sa, off, car, pa, pq, sp, nu, dn, er)) H := hP
      have hD : va_D A (mk Z b (al, ke, (upd (mDrop hs k) k ((mDrop hs k) (k + 347))), 6, sl, sa, off, car, pa, pq, sp, nu, dn, er)) := hD
      refine lv_iinc (v := (nI (k + 1))) (lv' := [(2, .int (nI (k + 1))), (0, .ref (b 0)), (1, .int x)]) hx hb dX8_changed_34 hl (k := 0) rfl (nI_succ k).symm (by decide) rfl (fun ls hl => ?_)
      refine lv_goto (tgt := 11) hx hb dX8_changed_37 (by decide) ?_
      rw [mDrop_s] at hP hD
      exact ih11 (k + 1) (by
          try dsimp only
          have hk := zNle (a := 1735) c15 (by omega) (by omega)
          omega) (by
          try dsimp only
          have hk := zNle (a := 1735) c15 (by omega) (by omega)
          omega) _ _ _ hP hD hS (lv_sub hl [0, 1, 2] rfl)

set_option maxHeartbeats 4000000 in
set_option maxRecDepth 100000 in
theorem m_X8_rateWith (l : Launch) (G : va_G) (Z : Nat → ClassId) (sz : Nat) (b : Nat → Nat) (al : Nat → Int32) (ke : Nat → Int32) (hs : Nat → Int32) (hq : Nat) (sl : Nat → Int32) (sa : Nat → Int32) (off : Int32) (car : Int32) (pa : Nat → Int32) (pq : Nat) (sp : Nat) (nu : Int32) (dn : Int32) (er : Int32) (ht : Int32) (ar : Int32) (x : Int32)  : Met l yX8_rateWith wsX8_rateWith ({ frames := 0, cells := 0, slots := 0, locals := 0 }) (va_Pc [.ref (b 0), .int ht, .int ar, .int x] (zWP G Z sz (mk Z b (al, ke, hs, hq, sl, sa, off, car, pa, pq, sp, nu, dn, er)))) (va_Qi (fun (r : Int32) (u : Unit) => r = cBare al ht ar + x) (fun (u : Unit) t => zB G (va_A (mk Z b (al, ke, hs, hq, sl, sa, off, car, pa, pq, sp, nu, dn, er)) sz) (mk Z b (al, ke, hs, hq, sl, sa, off, car, pa, pq, sp, nu, dn, er)) t) (va_A (mk Z b (al, ke, hs, hq, sl, sa, off, car, pa, pq, sp, nu, dn, er)) sz)) 0 0 (va_A (mk Z b (al, ke, hs, hq, sl, sa, off, car, pa, pq, sp, nu, dn, er)) sz) := by
  refine Met.ofW (cc := cX8_rateWith) (maxL := 4) (ret := (some .int)) (by decide) rfl ?_
  intro p e s m args below meth c s₁ B hml hv
  have hx := B.exec
  have hb := B.bytes
  have hr := B.returns
  have hts := atoms_spec (ws := wsX8_rateWith) B.pre
  have hown : s.vm.findClass RX8 = some m.cls := findClass_of_methodNamed B.named
  have hlocks := B.notSynchronized
  obtain ⟨rfl, hsz, hP, hK, hD, hA, hS, hSW⟩ := zEnter hv
  subst hsz
  generalize va_A (mk Z b (al, ke, hs, hq, sl, sa, off, car, pa, pq, sp, nu, dn, er)) s.heap.size = A at hD hA hS hSW ⊢
  have k_7 := hts (.fieldLink RX8 7 "WarmRodsModel" "all" "[I") (List.mem_of_getElem? (i := 1) rfl)
  have iX8 : ∀ w ∈ u_ws RX8 TX8 14, w ∈ wsX8_rateWith := fun _ h => List.mem_cons_of_mem _ (List.mem_append_right _ h)
  have hP : va_P G vwCl (mk Z b (al, ke, hs, hq, sl, sa, off, car, pa, pq, sp, nu, dn, er)) s.heap := hP
  have hl := lv_entry ([.ref (b 0), .int ht, .int ar, .int x]) (n := 4) (Nat.le_of_ble_eq_true rfl)
  rw [lg_entry_eq]
  generalize (lg_sl ([.ref (b 0), .int ht, .int ar, .int x]) ++ List.replicate (4 - (lg_sl ([.ref (b 0), .int ht, .int ar, .int x])).length) Slot.unset).toArray = ls at hl ⊢
  have hl : lv_has ls 4 [(0, .ref (b 0)), (1, .int ht), (2, .int ar), (3, .int x)] := hl
  refine lv_aload_n hx hb dX8_rateWith_0 rfl (lv_at hl 0 rfl) ?_
  refine va_get (D := G) (ci := 8) (v := .ref (b 1)) (C := RX8) (T := TX8) (N := 14) hx hb hts iX8 hown hK hP 0 rfl rfl 0 (by decide) k_7 (fun _ h9 => h9) rfl dX8_rateWith_1 ?_
  refine lv_iconst (v := 2) hx hb dX8_rateWith_4 (by decide) ?_
  refine zIald (f := al) hx hb hK hP 1 0 rfl rfl 2 (by decide) (by decide) (by decide) dX8_rateWith_5 ?_
  refine lv_aload_n hx hb dX8_rateWith_6 rfl (lv_at hl 0 rfl) ?_
  refine va_get (D := G) (ci := 8) (v := .ref (b 1)) (C := RX8) (T := TX8) (N := 14) hx hb hts iX8 hown hK hP 0 rfl rfl 0 (by decide) k_7 (fun _ h9 => h9) rfl dX8_rateWith_7 ?_
  refine lv_iconst (v := 0) hx hb dX8_rateWith_10 (by decide) ?_
  refine zIald (f := al) hx hb hK hP 1 0 rfl rfl 0 (by decide) (by decide) (by decide) dX8_rateWith_11 ?_
  refine lv_iload_n hx hb dX8_rateWith_12 rfl (lv_at hl 1 rfl) ?_
  refine lv_bipush (v := 20) hx hb dX8_rateWith_13 (by decide) ?_
  refine lv_isub hx hb dX8_rateWith_15 ?_
  refine lv_imul hx hb dX8_rateWith_16 ?_
  refine lv_isub hx hb dX8_rateWith_17 ?_
  refine lv_aload_n hx hb dX8_rateWith_18 rfl (lv_at hl 0 rfl) ?_
  refine va_get (D := G) (ci := 8) (v := .ref (b 1)) (C := RX8) (T := TX8) (N := 14) hx hb hts iX8 hown hK hP 0 rfl rfl 0 (by decide) k_7 (fun _ h9 => h9) rfl dX8_rateWith_19 ?_
  refine lv_iconst (v := 1) hx hb dX8_rateWith_22 (by decide) ?_
  refine zIald (f := al) hx hb hK hP 1 0 rfl rfl 1 (by decide) (by decide) (by decide) dX8_rateWith_23 ?_
  refine lv_iload_n hx hb dX8_rateWith_24 rfl (lv_at hl 2 rfl) ?_
  refine lv_sipush (v := 1000) hx hb dX8_rateWith_25 (by decide) ?_
  refine lv_isub hx hb dX8_rateWith_28 ?_
  refine lv_imul hx hb dX8_rateWith_29 ?_
  refine lv_bipush (v := 10) hx hb dX8_rateWith_30 (by decide) ?_
  refine lv_idiv hx hb dX8_rateWith_32 (by decide) ?_
  refine lv_isub hx hb dX8_rateWith_33 ?_
  refine lv_iload_n hx hb dX8_rateWith_34 rfl (lv_at hl 3 rfl) ?_
  refine lv_iadd hx hb dX8_rateWith_35 ?_
  exact W.iret hx hb hr (zEi () (by
      rfl) hP hD hS) hS.2.2 dX8_rateWith_36

set_option maxHeartbeats 4000000 in
set_option maxRecDepth 100000 in
theorem m_X8_rateNow (l : Launch) (G : va_G) (Z : Nat → ClassId) (sz : Nat) (b : Nat → Nat) (al : Nat → Int32) (ke : Nat → Int32) (hs : Nat → Int32) (hq : Nat) (sl : Nat → Int32) (sa : Nat → Int32) (off : Int32) (car : Int32) (pa : Nat → Int32) (pq : Nat) (sp : Nat) (nu : Int32) (dn : Int32) (er : Int32) (ht : Int32) (ar : Int32)  : Met l yX8_rateNow wsX8_rateNow ({ frames := 1, cells := 0, slots := 0, locals := 23 }) (va_Pc [.ref (b 0), .int ht, .int ar] (zWP G Z sz (mk Z b (al, ke, hs, hq, sl, sa, off, car, pa, pq, sp, nu, dn, er)))) (va_Qi (fun (r : Int32) (u : Unit) => r = cBare al ht ar + al 7) (fun (u : Unit) t => zB G (va_A (mk Z b (al, ke, hs, hq, sl, sa, off, car, pa, pq, sp, nu, dn, er)) sz) (mk Z b (al, ke, hs, hq, sl, sa, off, car, pa, pq, sp, nu, dn, er)) t) (va_A (mk Z b (al, ke, hs, hq, sl, sa, off, car, pa, pq, sp, nu, dn, er)) sz)) 0 0 (va_A (mk Z b (al, ke, hs, hq, sl, sa, off, car, pa, pq, sp, nu, dn, er)) sz) := by
  refine Met.ofW (cc := cX8_rateNow) (maxL := 3) (ret := (some .int)) (by decide) rfl ?_
  intro p e s m args below meth c s₁ B hml hv
  have hx := B.exec
  have hb := B.bytes
  have hr := B.returns
  have hts := atoms_spec (ws := wsX8_rateNow) B.pre
  have hown : s.vm.findClass RX8 = some m.cls := findClass_of_methodNamed B.named
  have hlocks := B.notSynchronized
  obtain ⟨rfl, hsz, hP, hK, hD, hA, hS, hSW⟩ := zEnter hv
  subst hsz
  generalize va_A (mk Z b (al, ke, hs, hq, sl, sa, off, car, pa, pq, sp, nu, dn, er)) s.heap.size = A at hD hA hS hSW ⊢
  have k_7 := hts (.fieldLink RX8 7 "WarmRodsModel" "all" "[I") (List.mem_of_getElem? (i := 1) rfl)
  have iX8 : ∀ w ∈ u_ws RX8 TX8 14, w ∈ wsX8_rateNow := fun _ h => List.mem_cons_of_mem _ (List.mem_append_right _ h)
  have hP : va_P G vwCl (mk Z b (al, ke, hs, hq, sl, sa, off, car, pa, pq, sp, nu, dn, er)) s.heap := hP
  have hl := lv_entry ([.ref (b 0), .int ht, .int ar]) (n := 3) (Nat.le_of_ble_eq_true rfl)
  rw [lg_entry_eq]
  generalize (lg_sl ([.ref (b 0), .int ht, .int ar]) ++ List.replicate (3 - (lg_sl ([.ref (b 0), .int ht, .int ar])).length) Slot.unset).toArray = ls at hl ⊢
  have hl : lv_has ls 3 [(0, .ref (b 0)), (1, .int ht), (2, .int ar)] := hl
  refine lv_aload_n hx hb dX8_rateNow_0 rfl (lv_at hl 0 rfl) ?_
  refine lv_iload_n hx hb dX8_rateNow_1 rfl (lv_at hl 1 rfl) ?_
  refine lv_iload_n hx hb dX8_rateNow_2 rfl (lv_at hl 2 rfl) ?_
  refine lv_aload_n hx hb dX8_rateNow_3 rfl (lv_at hl 0 rfl) ?_
  refine va_get (D := G) (ci := 8) (v := .ref (b 1)) (C := RX8) (T := TX8) (N := 14) hx hb hts iX8 hown hK hP 0 rfl rfl 0 (by decide) k_7 (fun _ h9 => h9) rfl dX8_rateNow_4 ?_
  refine lv_bipush (v := 7) hx hb dX8_rateNow_7 (by decide) ?_
  refine zIald (f := al) hx hb hK hP 1 0 rfl rfl 7 (by decide) (by decide) (by decide) dX8_rateNow_9 ?_
  refine zCi (S := Unit) (ws1 := fun u => mk Z b (al, ke, hs, hq, sl, sa, off, car, pa, pq, sp, nu, dn, er)) (wr := []) (va_runV (As := [.int ht, .int ar, .int (al 7)]) (rest := []) ⟨hx, hb, hml, hown, hts⟩ (m_X8_rateWith l G Z _ b al ke hs hq sl sa off car pa pq sp nu dn er ht ar (al 7)) (cwV 3 hts gX8_rateNow_X8_rateWith rfl rfl rfl (by decide +kernel) ⟨Nat.le_of_ble_eq_true rfl, Nat.le_of_ble_eq_true rfl⟩) (zPreV hK hP hD hS hA hSW [0, 1, 2, 3, 4, 5, 6] rfl (by decide) 0 (ci := 8) rfl rfl rfl) rfl rfl hl.1 rfl (lv_room (Nat.le_of_ble_eq_true rfl)) dX8_rateNow_10 ⟨Nat.le_of_ble_eq_true rfl, Nat.le_of_ble_eq_true rfl⟩) hP hD hS hA [0, 1, 2, 3, 4, 5, 6] [] [0, 1, 2, 3, 4, 5, 6] rfl rfl (by decide) (by decide) (by decide) (fun _ => rfl) (fun r10 u H locs hw10 hP hD hS => ?_)
  try dsimp only at hw10
  subst hw10
  have hP : va_P G vwCl (mk Z b (al, ke, hs, hq, sl, sa, off, car, pa, pq, sp, nu, dn, er)) H := hP
  have hD : va_D A (mk Z b (al, ke, hs, hq, sl, sa, off, car, pa, pq, sp, nu, dn, er)) := hD
  exact W.iret hx hb hr (zEi () (by
      rfl) hP hD hS) hS.2.2 dX8_rateNow_13

set_option maxHeartbeats 4000000 in
set_option maxRecDepth 100000 in
theorem m_X8_goes (l : Launch) (G : va_G) (Z : Nat → ClassId) (sz : Nat) (b : Nat → Nat) (al : Nat → Int32) (ke : Nat → Int32) (hs : Nat → Int32) (hq : Nat) (sl : Nat → Int32) (sa : Nat → Int32) (off : Int32) (car : Int32) (pa : Nat → Int32) (pq : Nat) (sp : Nat) (nu : Int32) (dn : Int32) (er : Int32) (rate : Int32)  : Met l yX8_goes wsX8_goes ({ frames := 0, cells := 0, slots := 0, locals := 0 }) (va_Pc [.ref (b 0), .int rate] (zWP G Z sz (mk Z b (al, ke, hs, hq, sl, sa, off, car, pa, pq, sp, nu, dn, er)))) (va_Qv (fun (u : Int32 × Int32) => u.1 = dOff off car rate ∧ u.2 = dCar car rate) (fun (u : Int32 × Int32) t => zB G (va_A (mk Z b (al, ke, hs, hq, sl, sa, off, car, pa, pq, sp, nu, dn, er)) sz) (mk Z b (al, ke, hs, hq, sl, sa, u.1, u.2, pa, pq, sp, nu, dn, er)) t) (va_A (mk Z b (al, ke, hs, hq, sl, sa, off, car, pa, pq, sp, nu, dn, er)) sz)) 0 0 (va_A (mk Z b (al, ke, hs, hq, sl, sa, off, car, pa, pq, sp, nu, dn, er)) sz) := by
  refine Met.ofW (cc := cX8_goes) (maxL := 3) (ret := none) (by decide) rfl ?_
  intro p e s m args below meth c s₁ B hml hv
  have hx := B.exec
  have hb := B.bytes
  have hr := B.returns
  have hts := atoms_spec (ws := wsX8_goes) B.pre
  have hown : s.vm.findClass RX8 = some m.cls := findClass_of_methodNamed B.named
  have hlocks := B.notSynchronized
  obtain ⟨rfl, hsz, hP, hK, hD, hA, hS, hSW⟩ := zEnter hv
  subst hsz
  generalize va_A (mk Z b (al, ke, hs, hq, sl, sa, off, car, pa, pq, sp, nu, dn, er)) s.heap.size = A at hD hA hS hSW ⊢
  have k_48 := hts (.fieldLink RX8 48 "WarmRodsModel" "carried" "I") (List.mem_of_getElem? (i := 1) rfl)
  have iX8 : ∀ w ∈ u_ws RX8 TX8 14, w ∈ wsX8_goes := fun _ h => List.mem_cons_of_mem _ (List.mem_append_right _ h)
  have k_51 := hts (.fieldLink RX8 51 "WarmRodsModel" "off" "I") (List.mem_of_getElem? (i := 2) rfl)
  have hP : va_P G vwCl (mk Z b (al, ke, hs, hq, sl, sa, off, car, pa, pq, sp, nu, dn, er)) s.heap := hP
  have hl := lv_entry ([.ref (b 0), .int rate]) (n := 3) (Nat.le_of_ble_eq_true rfl)
  rw [lg_entry_eq]
  generalize (lg_sl ([.ref (b 0), .int rate]) ++ List.replicate (3 - (lg_sl ([.ref (b 0), .int rate])).length) Slot.unset).toArray = ls at hl ⊢
  have hl : lv_has ls 3 [(0, .ref (b 0)), (1, .int rate)] := hl
  refine lv_iload_n hx hb dX8_goes_0 rfl (lv_at hl 1 rfl) ?_
  refine lv_sipush (v := 3600) hx hb dX8_goes_1 (by decide) ?_
  refine lv_imul hx hb dX8_goes_4 ?_
  refine lv_aload_n hx hb dX8_goes_5 rfl (lv_at hl 0 rfl) ?_
  refine va_get (D := G) (ci := 8) (v := .int car) (C := RX8) (T := TX8) (N := 14) hx hb hts iX8 hown hK hP 0 rfl rfl 7 (by decide) k_48 (fun _ h9 => h9) rfl dX8_goes_6 ?_
  refine lv_iadd hx hb dX8_goes_9 ?_
  refine lv_istore_n (lv' := [(2, .int ((rate * 3600) + car)), (0, .ref (b 0)), (1, .int rate)]) hx hb dX8_goes_10 rfl hl (by decide) rfl (fun ls hl => ?_)
  refine lv_aload_n hx hb dX8_goes_11 rfl (lv_at hl 1 rfl) ?_
  refine lv_dup hx hb dX8_goes_12 rfl ?_
  refine va_get (D := G) (ci := 8) (v := .int off) (C := RX8) (T := TX8) (N := 14) hx hb hts iX8 hown hK hP 0 rfl rfl 6 (by decide) k_51 (fun _ h9 => h9) rfl dX8_goes_13 ?_
  refine lv_iload_n hx hb dX8_goes_16 rfl (lv_at hl 0 rfl) ?_
  refine lv_sipush (v := 1000) hx hb dX8_goes_17 (by decide) ?_
  refine lv_idiv hx hb dX8_goes_20 (by decide) ?_
  refine lv_iadd hx hb dX8_goes_21 ?_
  refine va_put (D := G) (ci := 8) (v := .int (off + (((rate * 3600) + car) / 1000))) (ty := .int) (C := RX8) (T := TX8) (N := 14) hx hb hts iX8 tyX8 tyX8_ok nmX8 hown hK hP hD hS 0 rfl rfl 6 (by decide) k_51 (fun _ h9 => h9) rfl (by decide +kernel) rfl rfl (Nat.le_of_ble_eq_true rfl) dX8_goes_22 (fun H locs hP hD hS => ?_)
  have hP : va_P G vwCl (mk Z b (al, ke, hs, hq, sl, sa, (off + (((rate * 3600) + car) / 1000)), car, pa, pq, sp, nu, dn, er)) H := hP
  have hD : va_D A (mk Z b (al, ke, hs, hq, sl, sa, (off + (((rate * 3600) + car) / 1000)), car, pa, pq, sp, nu, dn, er)) := hD
  refine lv_aload_n hx hb dX8_goes_25 rfl (lv_at hl 1 rfl) ?_
  refine lv_iload_n hx hb dX8_goes_26 rfl (lv_at hl 0 rfl) ?_
  refine lv_sipush (v := 1000) hx hb dX8_goes_27 (by decide) ?_
  refine lv_irem hx hb dX8_goes_30 (by decide) ?_
  refine va_put (D := G) (ci := 8) (v := .int (((rate * 3600) + car) - ((rate * 3600) + car) / 1000 * 1000)) (ty := .int) (C := RX8) (T := TX8) (N := 14) hx hb hts iX8 tyX8 tyX8_ok nmX8 hown hK hP hD hS 0 rfl rfl 7 (by decide) k_48 (fun _ h9 => h9) rfl (by decide +kernel) rfl rfl (Nat.le_of_ble_eq_true rfl) dX8_goes_31 (fun H locs hP hD hS => ?_)
  have hP : va_P G vwCl (mk Z b (al, ke, hs, hq, sl, sa, (off + (((rate * 3600) + car) / 1000)), (((rate * 3600) + car) - ((rate * 3600) + car) / 1000 * 1000), pa, pq, sp, nu, dn, er)) H := hP
  have hD : va_D A (mk Z b (al, ke, hs, hq, sl, sa, (off + (((rate * 3600) + car) / 1000)), (((rate * 3600) + car) - ((rate * 3600) + car) / 1000 * 1000), pa, pq, sp, nu, dn, er)) := hD
  exact W.vret hx hb hr (zEv ((off + (((rate * 3600) + car) / 1000)), (((rate * 3600) + car) - ((rate * 3600) + car) / 1000 * 1000)) (by
      rw [dOff, dCar, Int32.add_comm car]
      exact ⟨rfl, rfl⟩) hP hD hS) hS.2.2 dX8_goes_34

set_option maxHeartbeats 4000000 in
set_option maxRecDepth 100000 in
theorem m_X8_isTooFar (l : Launch) (G : va_G) (Z : Nat → ClassId) (sz : Nat) (b : Nat → Nat) (al : Nat → Int32) (ke : Nat → Int32) (hs : Nat → Int32) (hq : Nat) (sl : Nat → Int32) (sa : Nat → Int32) (off : Int32) (car : Int32) (pa : Nat → Int32) (pq : Nat) (sp : Nat) (nu : Int32) (dn : Int32) (er : Int32)  : Met l yX8_isTooFar wsX8_isTooFar ({ frames := 0, cells := 0, slots := 0, locals := 0 }) (va_Pc [.ref (b 0)] (zWP G Z sz (mk Z b (al, ke, hs, hq, sl, sa, off, car, pa, pq, sp, nu, dn, er)))) (va_Qi (fun (r : Int32) (u : Unit) => r = mFar off (al 3)) (fun (u : Unit) t => zB G (va_A (mk Z b (al, ke, hs, hq, sl, sa, off, car, pa, pq, sp, nu, dn, er)) sz) (mk Z b (al, ke, hs, hq, sl, sa, off, car, pa, pq, sp, nu, dn, er)) t) (va_A (mk Z b (al, ke, hs, hq, sl, sa, off, car, pa, pq, sp, nu, dn, er)) sz)) 0 0 (va_A (mk Z b (al, ke, hs, hq, sl, sa, off, car, pa, pq, sp, nu, dn, er)) sz) := by
  refine Met.ofW (cc := cX8_isTooFar) (maxL := 1) (ret := (some .boolean)) (by decide) rfl ?_
  intro p e s m args below meth c s₁ B hml hv
  have hx := B.exec
  have hb := B.bytes
  have hr := B.returns
  have hts := atoms_spec (ws := wsX8_isTooFar) B.pre
  have hown : s.vm.findClass RX8 = some m.cls := findClass_of_methodNamed B.named
  have hlocks := B.notSynchronized
  obtain ⟨rfl, hsz, hP, hK, hD, hA, hS, hSW⟩ := zEnter hv
  subst hsz
  generalize va_A (mk Z b (al, ke, hs, hq, sl, sa, off, car, pa, pq, sp, nu, dn, er)) s.heap.size = A at hD hA hS hSW ⊢
  have k_51 := hts (.fieldLink RX8 51 "WarmRodsModel" "off" "I") (List.mem_of_getElem? (i := 1) rfl)
  have iX8 : ∀ w ∈ u_ws RX8 TX8 14, w ∈ wsX8_isTooFar := fun _ h => List.mem_cons_of_mem _ (List.mem_append_right _ h)
  have k_7 := hts (.fieldLink RX8 7 "WarmRodsModel" "all" "[I") (List.mem_of_getElem? (i := 2) rfl)
  have hP : va_P G vwCl (mk Z b (al, ke, hs, hq, sl, sa, off, car, pa, pq, sp, nu, dn, er)) s.heap := hP
  have hl := lv_entry ([.ref (b 0)]) (n := 1) (Nat.le_of_ble_eq_true rfl)
  rw [lg_entry_eq]
  generalize (lg_sl ([.ref (b 0)]) ++ List.replicate (1 - (lg_sl ([.ref (b 0)])).length) Slot.unset).toArray = ls at hl ⊢
  have hl : lv_has ls 1 [(0, .ref (b 0))] := hl
  refine lv_aload_n hx hb dX8_isTooFar_0 rfl (lv_at hl 0 rfl) ?_
  refine va_get (D := G) (ci := 8) (v := .int off) (C := RX8) (T := TX8) (N := 14) hx hb hts iX8 hown hK hP 0 rfl rfl 6 (by decide) k_51 (fun _ h9 => h9) rfl dX8_isTooFar_1 ?_
  refine lv_aload_n hx hb dX8_isTooFar_4 rfl (lv_at hl 0 rfl) ?_
  refine va_get (D := G) (ci := 8) (v := .ref (b 1)) (C := RX8) (T := TX8) (N := 14) hx hb hts iX8 hown hK hP 0 rfl rfl 0 (by decide) k_7 (fun _ h9 => h9) rfl dX8_isTooFar_5 ?_
  refine lv_iconst (v := 3) hx hb dX8_isTooFar_8 (by decide) ?_
  refine zIald (f := al) hx hb hK hP 1 0 rfl rfl 3 (by decide) (by decide) (by decide) dX8_isTooFar_9 ?_
  refine lv_icmp_gt (tgt := 27) hx hb dX8_isTooFar_10 (by decide) (fun c10 => ?_) (fun c10 => ?_)
  · refine lv_iconst (v := 1) hx hb dX8_isTooFar_27 (by decide) ?_
    refine lv_goto (tgt := 32) hx hb dX8_isTooFar_28 (by decide) ?_
    exact W.zret hx hb hr (rfl) (zEi () (by
        simp only [mFar, c10, Int32.not_le.mpr c10, ↓reduceIte]) hP hD hS) hS.2.2 dX8_isTooFar_32
  · refine lv_aload_n hx hb dX8_isTooFar_13 rfl (lv_at hl 0 rfl) ?_
    refine va_get (D := G) (ci := 8) (v := .int off) (C := RX8) (T := TX8) (N := 14) hx hb hts iX8 hown hK hP 0 rfl rfl 6 (by decide) k_51 (fun _ h9 => h9) rfl dX8_isTooFar_14 ?_
    refine lv_ineg hx hb dX8_isTooFar_17 ?_
    refine lv_aload_n hx hb dX8_isTooFar_18 rfl (lv_at hl 0 rfl) ?_
    refine va_get (D := G) (ci := 8) (v := .ref (b 1)) (C := RX8) (T := TX8) (N := 14) hx hb hts iX8 hown hK hP 0 rfl rfl 0 (by decide) k_7 (fun _ h9 => h9) rfl dX8_isTooFar_19 ?_
    refine lv_iconst (v := 3) hx hb dX8_isTooFar_22 (by decide) ?_
    refine zIald (f := al) hx hb hK hP 1 0 rfl rfl 3 (by decide) (by decide) (by decide) dX8_isTooFar_23 ?_
    refine lv_icmp_le (tgt := 31) hx hb dX8_isTooFar_24 (by decide) (fun c24 => ?_) (fun c24 => ?_)
    · refine lv_iconst (v := 0) hx hb dX8_isTooFar_31 (by decide) ?_
      exact W.zret hx hb hr (rfl) (zEi () (by
          simp only [mFar, c10, Int32.not_lt.mp c10, c24, Int32.not_lt.mpr c24, ↓reduceIte]) hP hD hS) hS.2.2 dX8_isTooFar_32
    · refine lv_iconst (v := 1) hx hb dX8_isTooFar_27 (by decide) ?_
      refine lv_goto (tgt := 32) hx hb dX8_isTooFar_28 (by decide) ?_
      exact W.zret hx hb hr (rfl) (zEi () (by
          simp only [mFar, c10, Int32.not_lt.mp c10, c24, Int32.not_le.mp c24, ↓reduceIte]) hP hD hS) hS.2.2 dX8_isTooFar_32

set_option maxHeartbeats 4000000 in
set_option maxRecDepth 100000 in
theorem m_X8_lightest (l : Launch) (G : va_G) (Z : Nat → ClassId) (sz : Nat) (b : Nat → Nat) (al : Nat → Int32) (ke : Nat → Int32) (hs : Nat → Int32) (hq : Nat) (sl : Nat → Int32) (sa : Nat → Int32) (off : Int32) (car : Int32) (pa : Nat → Int32) (pq : Nat) (sp : Nat) (nu : Int32) (dn : Int32) (er : Int32) (x : Int32)  : Met l yX8_lightest wsX8_lightest ({ frames := 0, cells := 0, slots := 0, locals := 0 }) (va_Pc [.ref (b 0), .int x] (zWP G Z sz (mk Z b (al, ke, hs, hq, sl, sa, off, car, pa, pq, sp, nu, dn, er)))) (va_Qi (fun (r : Int32) (u : Unit) => r = mLt (al 7) x) (fun (u : Unit) t => zB G (va_A (mk Z b (al, ke, hs, hq, sl, sa, off, car, pa, pq, sp, nu, dn, er)) sz) (mk Z b (al, ke, hs, hq, sl, sa, off, car, pa, pq, sp, nu, dn, er)) t) (va_A (mk Z b (al, ke, hs, hq, sl, sa, off, car, pa, pq, sp, nu, dn, er)) sz)) 0 0 (va_A (mk Z b (al, ke, hs, hq, sl, sa, off, car, pa, pq, sp, nu, dn, er)) sz) := by
  refine Met.ofW (cc := cX8_lightest) (maxL := 3) (ret := (some .int)) (by decide) rfl ?_
  intro p e s m args below meth c s₁ B hml hv
  have hx := B.exec
  have hb := B.bytes
  have hr := B.returns
  have hts := atoms_spec (ws := wsX8_lightest) B.pre
  have hown : s.vm.findClass RX8 = some m.cls := findClass_of_methodNamed B.named
  have hlocks := B.notSynchronized
  obtain ⟨rfl, hsz, hP, hK, hD, hA, hS, hSW⟩ := zEnter hv
  subst hsz
  generalize va_A (mk Z b (al, ke, hs, hq, sl, sa, off, car, pa, pq, sp, nu, dn, er)) s.heap.size = A at hD hA hS hSW ⊢
  have k_7 := hts (.fieldLink RX8 7 "WarmRodsModel" "all" "[I") (List.mem_of_getElem? (i := 1) rfl)
  have iX8 : ∀ w ∈ u_ws RX8 TX8 14, w ∈ wsX8_lightest := fun _ h => List.mem_cons_of_mem _ (List.mem_append_right _ h)
  have hP : va_P G vwCl (mk Z b (al, ke, hs, hq, sl, sa, off, car, pa, pq, sp, nu, dn, er)) s.heap := hP
  have hl := lv_entry ([.ref (b 0), .int x]) (n := 3) (Nat.le_of_ble_eq_true rfl)
  rw [lg_entry_eq]
  generalize (lg_sl ([.ref (b 0), .int x]) ++ List.replicate (3 - (lg_sl ([.ref (b 0), .int x])).length) Slot.unset).toArray = ls at hl ⊢
  have hl : lv_has ls 3 [(0, .ref (b 0)), (1, .int x)] := hl
  refine lv_iconst (v := 0) hx hb dX8_lightest_0 (by decide) ?_
  refine lv_istore_n (lv' := [(2, .int 0), (0, .ref (b 0)), (1, .int x)]) hx hb dX8_lightest_1 rfl hl (by decide) rfl (fun ls hl => ?_)
  refine lv_iload_n hx hb dX8_lightest_2 rfl (lv_at hl 0 rfl) ?_
  refine lv_bipush (v := 8) hx hb dX8_lightest_3 (by decide) ?_
  refine lv_icmp_ge (tgt := 31) hx hb dX8_lightest_5 (by decide) (fun c5 => absurd c5 (by decide)) (fun _ => ?_)
  refine lv_aload_n hx hb dX8_lightest_8 rfl (lv_at hl 1 rfl) ?_
  refine va_get (D := G) (ci := 8) (v := .ref (b 1)) (C := RX8) (T := TX8) (N := 14) hx hb hts iX8 hown hK hP 0 rfl rfl 0 (by decide) k_7 (fun _ h9 => h9) rfl dX8_lightest_9 ?_
  refine lv_bipush (v := 7) hx hb dX8_lightest_12 (by decide) ?_
  refine zIald (f := al) hx hb hK hP 1 0 rfl rfl 7 (by decide) (by decide) (by decide) dX8_lightest_14 ?_
  refine lv_iload_n hx hb dX8_lightest_15 rfl (lv_at hl 0 rfl) ?_
  refine lv_ishr hx hb dX8_lightest_16 ?_
  refine lv_iconst (v := 1) hx hb dX8_lightest_17 (by decide) ?_
  refine lv_iand hx hb dX8_lightest_18 ?_
  refine lv_iload_n hx hb dX8_lightest_19 rfl (lv_at hl 2 rfl) ?_
  refine lv_icmp_ne (tgt := 25) hx hb dX8_lightest_20 (by decide) (fun c20 => ?_) (fun c20 => ?_)
  · refine lv_iinc (v := 1) (lv' := [(2, .int 1), (0, .ref (b 0)), (1, .int x)]) hx hb dX8_lightest_25 hl (k := 0) rfl (by decide) (by decide) rfl (fun ls hl => ?_)
    refine lv_goto (tgt := 2) hx hb dX8_lightest_28 (by decide) ?_
    refine lv_iload_n hx hb dX8_lightest_2 rfl (lv_at hl 0 rfl) ?_
    refine lv_bipush (v := 8) hx hb dX8_lightest_3 (by decide) ?_
    refine lv_icmp_ge (tgt := 31) hx hb dX8_lightest_5 (by decide) (fun c5u1 => absurd c5u1 (by decide)) (fun _ => ?_)
    refine lv_aload_n hx hb dX8_lightest_8 rfl (lv_at hl 1 rfl) ?_
    refine va_get (D := G) (ci := 8) (v := .ref (b 1)) (C := RX8) (T := TX8) (N := 14) hx hb hts iX8 hown hK hP 0 rfl rfl 0 (by decide) k_7 (fun _ h9 => h9) rfl dX8_lightest_9 ?_
    refine lv_bipush (v := 7) hx hb dX8_lightest_12 (by decide) ?_
    refine zIald (f := al) hx hb hK hP 1 0 rfl rfl 7 (by decide) (by decide) (by decide) dX8_lightest_14 ?_
    refine lv_iload_n hx hb dX8_lightest_15 rfl (lv_at hl 0 rfl) ?_
    refine lv_ishr hx hb dX8_lightest_16 ?_
    refine lv_iconst (v := 1) hx hb dX8_lightest_17 (by decide) ?_
    refine lv_iand hx hb dX8_lightest_18 ?_
    refine lv_iload_n hx hb dX8_lightest_19 rfl (lv_at hl 2 rfl) ?_
    refine lv_icmp_ne (tgt := 25) hx hb dX8_lightest_20 (by decide) (fun c20u1 => ?_) (fun c20u1 => ?_)
    · refine lv_iinc (v := 2) (lv' := [(2, .int 2), (0, .ref (b 0)), (1, .int x)]) hx hb dX8_lightest_25 hl (k := 0) rfl (by decide) (by decide) rfl (fun ls hl => ?_)
      refine lv_goto (tgt := 2) hx hb dX8_lightest_28 (by decide) ?_
      refine lv_iload_n hx hb dX8_lightest_2 rfl (lv_at hl 0 rfl) ?_
      refine lv_bipush (v := 8) hx hb dX8_lightest_3 (by decide) ?_
      refine lv_icmp_ge (tgt := 31) hx hb dX8_lightest_5 (by decide) (fun c5u2 => absurd c5u2 (by decide)) (fun _ => ?_)
      refine lv_aload_n hx hb dX8_lightest_8 rfl (lv_at hl 1 rfl) ?_
      refine va_get (D := G) (ci := 8) (v := .ref (b 1)) (C := RX8) (T := TX8) (N := 14) hx hb hts iX8 hown hK hP 0 rfl rfl 0 (by decide) k_7 (fun _ h9 => h9) rfl dX8_lightest_9 ?_
      refine lv_bipush (v := 7) hx hb dX8_lightest_12 (by decide) ?_
      refine zIald (f := al) hx hb hK hP 1 0 rfl rfl 7 (by decide) (by decide) (by decide) dX8_lightest_14 ?_
      refine lv_iload_n hx hb dX8_lightest_15 rfl (lv_at hl 0 rfl) ?_
      refine lv_ishr hx hb dX8_lightest_16 ?_
      refine lv_iconst (v := 1) hx hb dX8_lightest_17 (by decide) ?_
      refine lv_iand hx hb dX8_lightest_18 ?_
      refine lv_iload_n hx hb dX8_lightest_19 rfl (lv_at hl 2 rfl) ?_
      refine lv_icmp_ne (tgt := 25) hx hb dX8_lightest_20 (by decide) (fun c20u2 => ?_) (fun c20u2 => ?_)
      · refine lv_iinc (v := 3) (lv' := [(2, .int 3), (0, .ref (b 0)), (1, .int x)]) hx hb dX8_lightest_25 hl (k := 0) rfl (by decide) (by decide) rfl (fun ls hl => ?_)
        refine lv_goto (tgt := 2) hx hb dX8_lightest_28 (by decide) ?_
        refine lv_iload_n hx hb dX8_lightest_2 rfl (lv_at hl 0 rfl) ?_
        refine lv_bipush (v := 8) hx hb dX8_lightest_3 (by decide) ?_
        refine lv_icmp_ge (tgt := 31) hx hb dX8_lightest_5 (by decide) (fun c5u3 => absurd c5u3 (by decide)) (fun _ => ?_)
        refine lv_aload_n hx hb dX8_lightest_8 rfl (lv_at hl 1 rfl) ?_
        refine va_get (D := G) (ci := 8) (v := .ref (b 1)) (C := RX8) (T := TX8) (N := 14) hx hb hts iX8 hown hK hP 0 rfl rfl 0 (by decide) k_7 (fun _ h9 => h9) rfl dX8_lightest_9 ?_
        refine lv_bipush (v := 7) hx hb dX8_lightest_12 (by decide) ?_
        refine zIald (f := al) hx hb hK hP 1 0 rfl rfl 7 (by decide) (by decide) (by decide) dX8_lightest_14 ?_
        refine lv_iload_n hx hb dX8_lightest_15 rfl (lv_at hl 0 rfl) ?_
        refine lv_ishr hx hb dX8_lightest_16 ?_
        refine lv_iconst (v := 1) hx hb dX8_lightest_17 (by decide) ?_
        refine lv_iand hx hb dX8_lightest_18 ?_
        refine lv_iload_n hx hb dX8_lightest_19 rfl (lv_at hl 2 rfl) ?_
        refine lv_icmp_ne (tgt := 25) hx hb dX8_lightest_20 (by decide) (fun c20u3 => ?_) (fun c20u3 => ?_)
        · refine lv_iinc (v := 4) (lv' := [(2, .int 4), (0, .ref (b 0)), (1, .int x)]) hx hb dX8_lightest_25 hl (k := 0) rfl (by decide) (by decide) rfl (fun ls hl => ?_)
          refine lv_goto (tgt := 2) hx hb dX8_lightest_28 (by decide) ?_
          refine lv_iload_n hx hb dX8_lightest_2 rfl (lv_at hl 0 rfl) ?_
          refine lv_bipush (v := 8) hx hb dX8_lightest_3 (by decide) ?_
          refine lv_icmp_ge (tgt := 31) hx hb dX8_lightest_5 (by decide) (fun c5u4 => absurd c5u4 (by decide)) (fun _ => ?_)
          refine lv_aload_n hx hb dX8_lightest_8 rfl (lv_at hl 1 rfl) ?_
          refine va_get (D := G) (ci := 8) (v := .ref (b 1)) (C := RX8) (T := TX8) (N := 14) hx hb hts iX8 hown hK hP 0 rfl rfl 0 (by decide) k_7 (fun _ h9 => h9) rfl dX8_lightest_9 ?_
          refine lv_bipush (v := 7) hx hb dX8_lightest_12 (by decide) ?_
          refine zIald (f := al) hx hb hK hP 1 0 rfl rfl 7 (by decide) (by decide) (by decide) dX8_lightest_14 ?_
          refine lv_iload_n hx hb dX8_lightest_15 rfl (lv_at hl 0 rfl) ?_
          refine lv_ishr hx hb dX8_lightest_16 ?_
          refine lv_iconst (v := 1) hx hb dX8_lightest_17 (by decide) ?_
          refine lv_iand hx hb dX8_lightest_18 ?_
          refine lv_iload_n hx hb dX8_lightest_19 rfl (lv_at hl 2 rfl) ?_
          refine lv_icmp_ne (tgt := 25) hx hb dX8_lightest_20 (by decide) (fun c20u4 => ?_) (fun c20u4 => ?_)
          · refine lv_iinc (v := 5) (lv' := [(2, .int 5), (0, .ref (b 0)), (1, .int x)]) hx hb dX8_lightest_25 hl (k := 0) rfl (by decide) (by decide) rfl (fun ls hl => ?_)
            refine lv_goto (tgt := 2) hx hb dX8_lightest_28 (by decide) ?_
            refine lv_iload_n hx hb dX8_lightest_2 rfl (lv_at hl 0 rfl) ?_
            refine lv_bipush (v := 8) hx hb dX8_lightest_3 (by decide) ?_
            refine lv_icmp_ge (tgt := 31) hx hb dX8_lightest_5 (by decide) (fun c5u5 => absurd c5u5 (by decide)) (fun _ => ?_)
            refine lv_aload_n hx hb dX8_lightest_8 rfl (lv_at hl 1 rfl) ?_
            refine va_get (D := G) (ci := 8) (v := .ref (b 1)) (C := RX8) (T := TX8) (N := 14) hx hb hts iX8 hown hK hP 0 rfl rfl 0 (by decide) k_7 (fun _ h9 => h9) rfl dX8_lightest_9 ?_
            refine lv_bipush (v := 7) hx hb dX8_lightest_12 (by decide) ?_
            refine zIald (f := al) hx hb hK hP 1 0 rfl rfl 7 (by decide) (by decide) (by decide) dX8_lightest_14 ?_
            refine lv_iload_n hx hb dX8_lightest_15 rfl (lv_at hl 0 rfl) ?_
            refine lv_ishr hx hb dX8_lightest_16 ?_
            refine lv_iconst (v := 1) hx hb dX8_lightest_17 (by decide) ?_
            refine lv_iand hx hb dX8_lightest_18 ?_
            refine lv_iload_n hx hb dX8_lightest_19 rfl (lv_at hl 2 rfl) ?_
            refine lv_icmp_ne (tgt := 25) hx hb dX8_lightest_20 (by decide) (fun c20u5 => ?_) (fun c20u5 => ?_)
            · refine lv_iinc (v := 6) (lv' := [(2, .int 6), (0, .ref (b 0)), (1, .int x)]) hx hb dX8_lightest_25 hl (k := 0) rfl (by decide) (by decide) rfl (fun ls hl => ?_)
              refine lv_goto (tgt := 2) hx hb dX8_lightest_28 (by decide) ?_
              refine lv_iload_n hx hb dX8_lightest_2 rfl (lv_at hl 0 rfl) ?_
              refine lv_bipush (v := 8) hx hb dX8_lightest_3 (by decide) ?_
              refine lv_icmp_ge (tgt := 31) hx hb dX8_lightest_5 (by decide) (fun c5u6 => absurd c5u6 (by decide)) (fun _ => ?_)
              refine lv_aload_n hx hb dX8_lightest_8 rfl (lv_at hl 1 rfl) ?_
              refine va_get (D := G) (ci := 8) (v := .ref (b 1)) (C := RX8) (T := TX8) (N := 14) hx hb hts iX8 hown hK hP 0 rfl rfl 0 (by decide) k_7 (fun _ h9 => h9) rfl dX8_lightest_9 ?_
              refine lv_bipush (v := 7) hx hb dX8_lightest_12 (by decide) ?_
              refine zIald (f := al) hx hb hK hP 1 0 rfl rfl 7 (by decide) (by decide) (by decide) dX8_lightest_14 ?_
              refine lv_iload_n hx hb dX8_lightest_15 rfl (lv_at hl 0 rfl) ?_
              refine lv_ishr hx hb dX8_lightest_16 ?_
              refine lv_iconst (v := 1) hx hb dX8_lightest_17 (by decide) ?_
              refine lv_iand hx hb dX8_lightest_18 ?_
              refine lv_iload_n hx hb dX8_lightest_19 rfl (lv_at hl 2 rfl) ?_
              refine lv_icmp_ne (tgt := 25) hx hb dX8_lightest_20 (by decide) (fun c20u6 => ?_) (fun c20u6 => ?_)
              · refine lv_iinc (v := 7) (lv' := [(2, .int 7), (0, .ref (b 0)), (1, .int x)]) hx hb dX8_lightest_25 hl (k := 0) rfl (by decide) (by decide) rfl (fun ls hl => ?_)
                refine lv_goto (tgt := 2) hx hb dX8_lightest_28 (by decide) ?_
                refine lv_iload_n hx hb dX8_lightest_2 rfl (lv_at hl 0 rfl) ?_
                refine lv_bipush (v := 8) hx hb dX8_lightest_3 (by decide) ?_
                refine lv_icmp_ge (tgt := 31) hx hb dX8_lightest_5 (by decide) (fun c5u7 => absurd c5u7 (by decide)) (fun _ => ?_)
                refine lv_aload_n hx hb dX8_lightest_8 rfl (lv_at hl 1 rfl) ?_
                refine va_get (D := G) (ci := 8) (v := .ref (b 1)) (C := RX8) (T := TX8) (N := 14) hx hb hts iX8 hown hK hP 0 rfl rfl 0 (by decide) k_7 (fun _ h9 => h9) rfl dX8_lightest_9 ?_
                refine lv_bipush (v := 7) hx hb dX8_lightest_12 (by decide) ?_
                refine zIald (f := al) hx hb hK hP 1 0 rfl rfl 7 (by decide) (by decide) (by decide) dX8_lightest_14 ?_
                refine lv_iload_n hx hb dX8_lightest_15 rfl (lv_at hl 0 rfl) ?_
                refine lv_ishr hx hb dX8_lightest_16 ?_
                refine lv_iconst (v := 1) hx hb dX8_lightest_17 (by decide) ?_
                refine lv_iand hx hb dX8_lightest_18 ?_
                refine lv_iload_n hx hb dX8_lightest_19 rfl (lv_at hl 2 rfl) ?_
                refine lv_icmp_ne (tgt := 25) hx hb dX8_lightest_20 (by decide) (fun c20u7 => ?_) (fun c20u7 => ?_)
                · refine lv_iinc (v := 8) (lv' := [(2, .int 8), (0, .ref (b 0)), (1, .int x)]) hx hb dX8_lightest_25 hl (k := 0) rfl (by decide) (by decide) rfl (fun ls hl => ?_)
                  refine lv_goto (tgt := 2) hx hb dX8_lightest_28 (by decide) ?_
                  refine lv_iload_n hx hb dX8_lightest_2 rfl (lv_at hl 0 rfl) ?_
                  refine lv_bipush (v := 8) hx hb dX8_lightest_3 (by decide) ?_
                  refine lv_icmp_ge (tgt := 31) hx hb dX8_lightest_5 (by decide) (fun _ => ?_) (fun c5u8 => absurd (by decide) c5u8)
                  refine lv_bipush (v := (-6)) hx hb dX8_lightest_31 (by decide) ?_
                  exact W.iret hx hb hr (zEi () (by
                      simp only [mLt, c20, c20u1, c20u2, c20u3, c20u4, c20u5, c20u6, c20u7, ↓reduceIte]) hP hD hS) hS.2.2 dX8_lightest_33
                · refine lv_iload_n hx hb dX8_lightest_23 rfl (lv_at hl 0 rfl) ?_
                  exact W.iret hx hb hr (zEi () (by
                      simp only [mLt, c20, c20u1, c20u2, c20u3, c20u4, c20u5, c20u6, eq_true c20u7, ↓reduceIte]) hP hD hS) hS.2.2 dX8_lightest_24
              · refine lv_iload_n hx hb dX8_lightest_23 rfl (lv_at hl 0 rfl) ?_
                exact W.iret hx hb hr (zEi () (by
                    simp only [mLt, c20, c20u1, c20u2, c20u3, c20u4, c20u5, eq_true c20u6, ↓reduceIte]) hP hD hS) hS.2.2 dX8_lightest_24
            · refine lv_iload_n hx hb dX8_lightest_23 rfl (lv_at hl 0 rfl) ?_
              exact W.iret hx hb hr (zEi () (by
                  simp only [mLt, c20, c20u1, c20u2, c20u3, c20u4, eq_true c20u5, ↓reduceIte]) hP hD hS) hS.2.2 dX8_lightest_24
          · refine lv_iload_n hx hb dX8_lightest_23 rfl (lv_at hl 0 rfl) ?_
            exact W.iret hx hb hr (zEi () (by
                simp only [mLt, c20, c20u1, c20u2, c20u3, eq_true c20u4, ↓reduceIte]) hP hD hS) hS.2.2 dX8_lightest_24
        · refine lv_iload_n hx hb dX8_lightest_23 rfl (lv_at hl 0 rfl) ?_
          exact W.iret hx hb hr (zEi () (by
              simp only [mLt, c20, c20u1, c20u2, eq_true c20u3, ↓reduceIte]) hP hD hS) hS.2.2 dX8_lightest_24
      · refine lv_iload_n hx hb dX8_lightest_23 rfl (lv_at hl 0 rfl) ?_
        exact W.iret hx hb hr (zEi () (by
            simp only [mLt, c20, c20u1, eq_true c20u2, ↓reduceIte]) hP hD hS) hS.2.2 dX8_lightest_24
    · refine lv_iload_n hx hb dX8_lightest_23 rfl (lv_at hl 0 rfl) ?_
      exact W.iret hx hb hr (zEi () (by
          simp only [mLt, c20, eq_true c20u1, ↓reduceIte]) hP hD hS) hS.2.2 dX8_lightest_24
  · refine lv_iload_n hx hb dX8_lightest_23 rfl (lv_at hl 0 rfl) ?_
    exact W.iret hx hb hr (zEi () (by
        simp only [mLt, eq_true c20, ↓reduceIte]) hP hD hS) hS.2.2 dX8_lightest_24

set_option maxHeartbeats 4000000 in
set_option maxRecDepth 100000 in
theorem m_X8_corrects (l : Launch) (G : va_G) (Z : Nat → ClassId) (sz : Nat) (b : Nat → Nat) (al : Nat → Int32) (ke : Nat → Int32) (hs : Nat → Int32) (hq : Nat) (sl : Nat → Int32) (sa : Nat → Int32) (off : Int32) (car : Int32) (pa : Nat → Int32) (pq : Nat) (sp : Nat) (nu : Int32) (dn : Int32) (er : Int32)  : Met l yX8_corrects wsX8_corrects ({ frames := 1, cells := 0, slots := 0, locals := 22 }) (va_Pc [.ref (b 0)] (zWP G Z sz (mk Z b (al, ke, hs, hq, sl, sa, off, car, pa, pq, sp, nu, dn, er)))) (va_Qv (fun (u : (Nat → Int32)) => u = mCor al off) (fun (u : (Nat → Int32)) t => zB G (va_A (mk Z b (al, ke, hs, hq, sl, sa, off, car, pa, pq, sp, nu, dn, er)) sz) (mk Z b (u, ke, hs, hq, sl, sa, 0, 0, pa, pq, sp, nu, dn, er)) t) (va_A (mk Z b (al, ke, hs, hq, sl, sa, off, car, pa, pq, sp, nu, dn, er)) sz)) 0 0 (va_A (mk Z b (al, ke, hs, hq, sl, sa, off, car, pa, pq, sp, nu, dn, er)) sz) := by
  refine Met.ofW (cc := cX8_corrects) (maxL := 2) (ret := none) (by decide) rfl ?_
  intro p e s m args below meth c s₁ B hml hv
  have hx := B.exec
  have hb := B.bytes
  have hr := B.returns
  have hts := atoms_spec (ws := wsX8_corrects) B.pre
  have hown : s.vm.findClass RX8 = some m.cls := findClass_of_methodNamed B.named
  have hlocks := B.notSynchronized
  obtain ⟨rfl, hsz, hP, hK, hD, hA, hS, hSW⟩ := zEnter hv
  subst hsz
  generalize va_A (mk Z b (al, ke, hs, hq, sl, sa, off, car, pa, pq, sp, nu, dn, er)) s.heap.size = A at hD hA hS hSW ⊢
  have k_51 := hts (.fieldLink RX8 51 "WarmRodsModel" "off" "I") (List.mem_of_getElem? (i := 1) rfl)
  have iX8 : ∀ w ∈ u_ws RX8 TX8 14, w ∈ wsX8_corrects := fun _ h => List.mem_cons_of_mem _ (List.mem_append_right _ h)
  have k_7 := hts (.fieldLink RX8 7 "WarmRodsModel" "all" "[I") (List.mem_of_getElem? (i := 2) rfl)
  have k_48 := hts (.fieldLink RX8 48 "WarmRodsModel" "carried" "I") (List.mem_of_getElem? (i := 3) rfl)
  have hP : va_P G vwCl (mk Z b (al, ke, hs, hq, sl, sa, off, car, pa, pq, sp, nu, dn, er)) s.heap := hP
  have hl := lv_entry ([.ref (b 0)]) (n := 2) (Nat.le_of_ble_eq_true rfl)
  rw [lg_entry_eq]
  generalize (lg_sl ([.ref (b 0)]) ++ List.replicate (2 - (lg_sl ([.ref (b 0)])).length) Slot.unset).toArray = ls at hl ⊢
  have hl : lv_has ls 2 [(0, .ref (b 0))] := hl
  refine lv_aload_n hx hb dX8_corrects_0 rfl (lv_at hl 0 rfl) ?_
  refine lv_aload_n hx hb dX8_corrects_1 rfl (lv_at hl 0 rfl) ?_
  refine va_get (D := G) (ci := 8) (v := .int off) (C := RX8) (T := TX8) (N := 14) hx hb hts iX8 hown hK hP 0 rfl rfl 6 (by decide) k_51 (fun _ h9 => h9) rfl dX8_corrects_2 ?_
  refine lv_if_le (tgt := 12) hx hb dX8_corrects_5 (by decide) (fun c5 => ?_) (fun c5 => ?_)
  · refine lv_iconst (v := 0) hx hb dX8_corrects_12 (by decide) ?_
    refine zCi (S := Unit) (ws1 := fun u => mk Z b (al, ke, hs, hq, sl, sa, off, car, pa, pq, sp, nu, dn, er)) (wr := []) (va_runV (As := [.int 0]) (rest := []) ⟨hx, hb, hml, hown, hts⟩ (m_X8_lightest l G Z _ b al ke hs hq sl sa off car pa pq sp nu dn er 0) (cwV 1 hts gX8_corrects_X8_lightest rfl rfl rfl (by decide +kernel) ⟨Nat.le_of_ble_eq_true rfl, Nat.le_of_ble_eq_true rfl⟩) (zPreV hK hP hD hS hA hSW [0, 1, 2, 3, 4, 5, 6] rfl (by decide) 0 (ci := 8) rfl rfl rfl) rfl rfl hl.1 rfl (lv_room (Nat.le_of_ble_eq_true rfl)) dX8_corrects_13 ⟨Nat.le_of_ble_eq_true rfl, Nat.le_of_ble_eq_true rfl⟩) hP hD hS hA [0, 1, 2, 3, 4, 5, 6] [] [0, 1, 2, 3, 4, 5, 6] rfl rfl (by decide) (by decide) (by decide) (fun _ => rfl) (fun r13 u H locs hw13 hP hD hS => ?_)
    try dsimp only at hw13
    subst hw13
    have hP : va_P G vwCl (mk Z b (al, ke, hs, hq, sl, sa, off, car, pa, pq, sp, nu, dn, er)) H := hP
    have hD : va_D A (mk Z b (al, ke, hs, hq, sl, sa, off, car, pa, pq, sp, nu, dn, er)) := hD
    refine lv_istore_n (lv' := [(1, .int (mLt (al 7) 0)), (0, .ref (b 0))]) hx hb dX8_corrects_16 rfl hl (by decide) rfl (fun ls hl => ?_)
    refine lv_aload_n hx hb dX8_corrects_17 rfl (lv_at hl 1 rfl) ?_
    refine va_get (D := G) (ci := 8) (v := .ref (b 1)) (C := RX8) (T := TX8) (N := 14) hx hb hts iX8 hown hK hP 0 rfl rfl 0 (by decide) k_7 (fun _ h9 => h9) rfl dX8_corrects_18 ?_
    refine lv_bipush (v := 7) hx hb dX8_corrects_21 (by decide) ?_
    refine lv_dup2_11 hx hb dX8_corrects_23 rfl rfl ?_
    refine zIald (f := al) hx hb hK hP 1 0 rfl rfl 7 (by decide) (by decide) (by decide) dX8_corrects_24 ?_
    refine lv_iload_n hx hb dX8_corrects_25 rfl (lv_at hl 0 rfl) ?_
    refine lv_bipush (v := (-6)) hx hb dX8_corrects_26 (by decide) ?_
    refine lv_icmp_ne (tgt := 35) hx hb dX8_corrects_28 (by decide) (fun c28 => ?_) (fun c28 => ?_)
    · refine lv_iconst (v := 1) hx hb dX8_corrects_35 (by decide) ?_
      refine lv_iload_n hx hb dX8_corrects_36 rfl (lv_at hl 0 rfl) ?_
      refine lv_ishl hx hb dX8_corrects_37 ?_
      refine lv_ixor hx hb dX8_corrects_38 ?_
      refine zIast (f := al) hx hb hK hP hD hS 1 0 rfl rfl 7 (by decide) (by decide) (by decide) dX8_corrects_39 (fun H locs hP hD hS => ?_)
      have hP : va_P G vwCl (mk Z b ((upd al 7 ((al 7) ^^^ (1 <<< ((mLt (al 7) 0) &&& 31)))), ke, hs, hq, sl, sa, off, car, pa, pq, sp, nu, dn, er)) H := hP
      have hD : va_D A (mk Z b ((upd al 7 ((al 7) ^^^ (1 <<< ((mLt (al 7) 0) &&& 31)))), ke, hs, hq, sl, sa, off, car, pa, pq, sp, nu, dn, er)) := hD
      refine lv_aload_n hx hb dX8_corrects_40 rfl (lv_at hl 1 rfl) ?_
      refine lv_iconst (v := 0) hx hb dX8_corrects_41 (by decide) ?_
      refine va_put (D := G) (ci := 8) (v := .int 0) (ty := .int) (C := RX8) (T := TX8) (N := 14) hx hb hts iX8 tyX8 tyX8_ok nmX8 hown hK hP hD hS 0 rfl rfl 6 (by decide) k_51 (fun _ h9 => h9) rfl (by decide +kernel) rfl rfl (Nat.le_of_ble_eq_true rfl) dX8_corrects_42 (fun H locs hP hD hS => ?_)
      have hP : va_P G vwCl (mk Z b ((upd al 7 ((al 7) ^^^ (1 <<< ((mLt (al 7) 0) &&& 31)))), ke, hs, hq, sl, sa, 0, car, pa, pq, sp, nu, dn, er)) H := hP
      have hD : va_D A (mk Z b ((upd al 7 ((al 7) ^^^ (1 <<< ((mLt (al 7) 0) &&& 31)))), ke, hs, hq, sl, sa, 0, car, pa, pq, sp, nu, dn, er)) := hD
      refine lv_aload_n hx hb dX8_corrects_45 rfl (lv_at hl 1 rfl) ?_
      refine lv_iconst (v := 0) hx hb dX8_corrects_46 (by decide) ?_
      refine va_put (D := G) (ci := 8) (v := .int 0) (ty := .int) (C := RX8) (T := TX8) (N := 14) hx hb hts iX8 tyX8 tyX8_ok nmX8 hown hK hP hD hS 0 rfl rfl 7 (by decide) k_48 (fun _ h9 => h9) rfl (by decide +kernel) rfl rfl (Nat.le_of_ble_eq_true rfl) dX8_corrects_47 (fun H locs hP hD hS => ?_)
      have hP : va_P G vwCl (mk Z b ((upd al 7 ((al 7) ^^^ (1 <<< ((mLt (al 7) 0) &&& 31)))), ke, hs, hq, sl, sa, 0, 0, pa, pq, sp, nu, dn, er)) H := hP
      have hD : va_D A (mk Z b ((upd al 7 ((al 7) ^^^ (1 <<< ((mLt (al 7) 0) &&& 31)))), ke, hs, hq, sl, sa, 0, 0, pa, pq, sp, nu, dn, er)) := hD
      refine lv_aload_n hx hb dX8_corrects_50 rfl (lv_at hl 1 rfl) ?_
      refine va_get (D := G) (ci := 8) (v := .ref (b 1)) (C := RX8) (T := TX8) (N := 14) hx hb hts iX8 hown hK hP 0 rfl rfl 0 (by decide) k_7 (fun _ h9 => h9) rfl dX8_corrects_51 ?_
      refine lv_bipush (v := 8) hx hb dX8_corrects_54 (by decide) ?_
      refine lv_dup2_11 hx hb dX8_corrects_56 rfl rfl ?_
      refine zIald (f := (upd al 7 ((al 7) ^^^ (1 <<< ((mLt (al 7) 0) &&& 31))))) hx hb hK hP 1 0 rfl rfl 8 (by decide) (by decide) (by decide) dX8_corrects_57 ?_
      refine lv_iconst (v := 1) hx hb dX8_corrects_58 (by decide) ?_
      refine lv_iadd hx hb dX8_corrects_59 ?_
      refine zIast (f := (upd al 7 ((al 7) ^^^ (1 <<< ((mLt (al 7) 0) &&& 31))))) hx hb hK hP hD hS 1 0 rfl rfl 8 (by decide) (by decide) (by decide) dX8_corrects_60 (fun H locs hP hD hS => ?_)
      have hP : va_P G vwCl (mk Z b ((upd (upd al 7 ((al 7) ^^^ (1 <<< ((mLt (al 7) 0) &&& 31)))) 8 (((upd al 7 ((al 7) ^^^ (1 <<< ((mLt (al 7) 0) &&& 31)))) 8) + 1)), ke, hs, hq, sl, sa, 0, 0, pa, pq, sp, nu, dn, er)) H := hP
      have hD : va_D A (mk Z b ((upd (upd al 7 ((al 7) ^^^ (1 <<< ((mLt (al 7) 0) &&& 31)))) 8 (((upd al 7 ((al 7) ^^^ (1 <<< ((mLt (al 7) 0) &&& 31)))) 8) + 1)), ke, hs, hq, sl, sa, 0, 0, pa, pq, sp, nu, dn, er)) := hD
      exact W.vret hx hb hr (zEv (upd (upd al 7 ((al 7) ^^^ (1 <<< ((mLt (al 7) 0) &&& 31)))) 8 (((upd al 7 ((al 7) ^^^ (1 <<< ((mLt (al 7) 0) &&& 31)))) 8) + 1)) (by
          simp only [mCor, mCorT, c5, Int32.not_lt.mpr c5, c28, ↓reduceIte]) hP hD hS) hS.2.2 dX8_corrects_61
    · refine lv_iconst (v := 0) hx hb dX8_corrects_31 (by decide) ?_
      refine lv_goto (tgt := 38) hx hb dX8_corrects_32 (by decide) ?_
      refine lv_ixor hx hb dX8_corrects_38 ?_
      refine zIast (f := al) hx hb hK hP hD hS 1 0 rfl rfl 7 (by decide) (by decide) (by decide) dX8_corrects_39 (fun H locs hP hD hS => ?_)
      have hP : va_P G vwCl (mk Z b ((upd al 7 ((al 7) ^^^ 0)), ke, hs, hq, sl, sa, off, car, pa, pq, sp, nu, dn, er)) H := hP
      have hD : va_D A (mk Z b ((upd al 7 ((al 7) ^^^ 0)), ke, hs, hq, sl, sa, off, car, pa, pq, sp, nu, dn, er)) := hD
      refine lv_aload_n hx hb dX8_corrects_40 rfl (lv_at hl 1 rfl) ?_
      refine lv_iconst (v := 0) hx hb dX8_corrects_41 (by decide) ?_
      refine va_put (D := G) (ci := 8) (v := .int 0) (ty := .int) (C := RX8) (T := TX8) (N := 14) hx hb hts iX8 tyX8 tyX8_ok nmX8 hown hK hP hD hS 0 rfl rfl 6 (by decide) k_51 (fun _ h9 => h9) rfl (by decide +kernel) rfl rfl (Nat.le_of_ble_eq_true rfl) dX8_corrects_42 (fun H locs hP hD hS => ?_)
      have hP : va_P G vwCl (mk Z b ((upd al 7 ((al 7) ^^^ 0)), ke, hs, hq, sl, sa, 0, car, pa, pq, sp, nu, dn, er)) H := hP
      have hD : va_D A (mk Z b ((upd al 7 ((al 7) ^^^ 0)), ke, hs, hq, sl, sa, 0, car, pa, pq, sp, nu, dn, er)) := hD
      refine lv_aload_n hx hb dX8_corrects_45 rfl (lv_at hl 1 rfl) ?_
      refine lv_iconst (v := 0) hx hb dX8_corrects_46 (by decide) ?_
      refine va_put (D := G) (ci := 8) (v := .int 0) (ty := .int) (C := RX8) (T := TX8) (N := 14) hx hb hts iX8 tyX8 tyX8_ok nmX8 hown hK hP hD hS 0 rfl rfl 7 (by decide) k_48 (fun _ h9 => h9) rfl (by decide +kernel) rfl rfl (Nat.le_of_ble_eq_true rfl) dX8_corrects_47 (fun H locs hP hD hS => ?_)
      have hP : va_P G vwCl (mk Z b ((upd al 7 ((al 7) ^^^ 0)), ke, hs, hq, sl, sa, 0, 0, pa, pq, sp, nu, dn, er)) H := hP
      have hD : va_D A (mk Z b ((upd al 7 ((al 7) ^^^ 0)), ke, hs, hq, sl, sa, 0, 0, pa, pq, sp, nu, dn, er)) := hD
      refine lv_aload_n hx hb dX8_corrects_50 rfl (lv_at hl 1 rfl) ?_
      refine va_get (D := G) (ci := 8) (v := .ref (b 1)) (C := RX8) (T := TX8) (N := 14) hx hb hts iX8 hown hK hP 0 rfl rfl 0 (by decide) k_7 (fun _ h9 => h9) rfl dX8_corrects_51 ?_
      refine lv_bipush (v := 8) hx hb dX8_corrects_54 (by decide) ?_
      refine lv_dup2_11 hx hb dX8_corrects_56 rfl rfl ?_
      refine zIald (f := (upd al 7 ((al 7) ^^^ 0))) hx hb hK hP 1 0 rfl rfl 8 (by decide) (by decide) (by decide) dX8_corrects_57 ?_
      refine lv_iconst (v := 1) hx hb dX8_corrects_58 (by decide) ?_
      refine lv_iadd hx hb dX8_corrects_59 ?_
      refine zIast (f := (upd al 7 ((al 7) ^^^ 0))) hx hb hK hP hD hS 1 0 rfl rfl 8 (by decide) (by decide) (by decide) dX8_corrects_60 (fun H locs hP hD hS => ?_)
      have hP : va_P G vwCl (mk Z b ((upd (upd al 7 ((al 7) ^^^ 0)) 8 (((upd al 7 ((al 7) ^^^ 0)) 8) + 1)), ke, hs, hq, sl, sa, 0, 0, pa, pq, sp, nu, dn, er)) H := hP
      have hD : va_D A (mk Z b ((upd (upd al 7 ((al 7) ^^^ 0)) 8 (((upd al 7 ((al 7) ^^^ 0)) 8) + 1)), ke, hs, hq, sl, sa, 0, 0, pa, pq, sp, nu, dn, er)) := hD
      exact W.vret hx hb hr (zEv (upd (upd al 7 ((al 7) ^^^ 0)) 8 (((upd al 7 ((al 7) ^^^ 0)) 8) + 1)) (by
          simp only [mCor, mCorT, c5, Int32.not_lt.mpr c5, eq_true c28, ↓reduceIte]) hP hD hS) hS.2.2 dX8_corrects_61
  · refine lv_iconst (v := 1) hx hb dX8_corrects_8 (by decide) ?_
    refine lv_goto (tgt := 13) hx hb dX8_corrects_9 (by decide) ?_
    refine zCi (S := Unit) (ws1 := fun u => mk Z b (al, ke, hs, hq, sl, sa, off, car, pa, pq, sp, nu, dn, er)) (wr := []) (va_runV (As := [.int 1]) (rest := []) ⟨hx, hb, hml, hown, hts⟩ (m_X8_lightest l G Z _ b al ke hs hq sl sa off car pa pq sp nu dn er 1) (cwV 1 hts gX8_corrects_X8_lightest rfl rfl rfl (by decide +kernel) ⟨Nat.le_of_ble_eq_true rfl, Nat.le_of_ble_eq_true rfl⟩) (zPreV hK hP hD hS hA hSW [0, 1, 2, 3, 4, 5, 6] rfl (by decide) 0 (ci := 8) rfl rfl rfl) rfl rfl hl.1 rfl (lv_room (Nat.le_of_ble_eq_true rfl)) dX8_corrects_13 ⟨Nat.le_of_ble_eq_true rfl, Nat.le_of_ble_eq_true rfl⟩) hP hD hS hA [0, 1, 2, 3, 4, 5, 6] [] [0, 1, 2, 3, 4, 5, 6] rfl rfl (by decide) (by decide) (by decide) (fun _ => rfl) (fun r13_2 u H locs hw13_2 hP hD hS => ?_)
    try dsimp only at hw13_2
    subst hw13_2
    have hP : va_P G vwCl (mk Z b (al, ke, hs, hq, sl, sa, off, car, pa, pq, sp, nu, dn, er)) H := hP
    have hD : va_D A (mk Z b (al, ke, hs, hq, sl, sa, off, car, pa, pq, sp, nu, dn, er)) := hD
    refine lv_istore_n (lv' := [(1, .int (mLt (al 7) 1)), (0, .ref (b 0))]) hx hb dX8_corrects_16 rfl hl (by decide) rfl (fun ls hl => ?_)
    refine lv_aload_n hx hb dX8_corrects_17 rfl (lv_at hl 1 rfl) ?_
    refine va_get (D := G) (ci := 8) (v := .ref (b 1)) (C := RX8) (T := TX8) (N := 14) hx hb hts iX8 hown hK hP 0 rfl rfl 0 (by decide) k_7 (fun _ h9 => h9) rfl dX8_corrects_18 ?_
    refine lv_bipush (v := 7) hx hb dX8_corrects_21 (by decide) ?_
    refine lv_dup2_11 hx hb dX8_corrects_23 rfl rfl ?_
    refine zIald (f := al) hx hb hK hP 1 0 rfl rfl 7 (by decide) (by decide) (by decide) dX8_corrects_24 ?_
    refine lv_iload_n hx hb dX8_corrects_25 rfl (lv_at hl 0 rfl) ?_
    refine lv_bipush (v := (-6)) hx hb dX8_corrects_26 (by decide) ?_
    refine lv_icmp_ne (tgt := 35) hx hb dX8_corrects_28 (by decide) (fun c28 => ?_) (fun c28 => ?_)
    · refine lv_iconst (v := 1) hx hb dX8_corrects_35 (by decide) ?_
      refine lv_iload_n hx hb dX8_corrects_36 rfl (lv_at hl 0 rfl) ?_
      refine lv_ishl hx hb dX8_corrects_37 ?_
      refine lv_ixor hx hb dX8_corrects_38 ?_
      refine zIast (f := al) hx hb hK hP hD hS 1 0 rfl rfl 7 (by decide) (by decide) (by decide) dX8_corrects_39 (fun H locs hP hD hS => ?_)
      have hP : va_P G vwCl (mk Z b ((upd al 7 ((al 7) ^^^ (1 <<< ((mLt (al 7) 1) &&& 31)))), ke, hs, hq, sl, sa, off, car, pa, pq, sp, nu, dn, er)) H := hP
      have hD : va_D A (mk Z b ((upd al 7 ((al 7) ^^^ (1 <<< ((mLt (al 7) 1) &&& 31)))), ke, hs, hq, sl, sa, off, car, pa, pq, sp, nu, dn, er)) := hD
      refine lv_aload_n hx hb dX8_corrects_40 rfl (lv_at hl 1 rfl) ?_
      refine lv_iconst (v := 0) hx hb dX8_corrects_41 (by decide) ?_
      refine va_put (D := G) (ci := 8) (v := .int 0) (ty := .int) (C := RX8) (T := TX8) (N := 14) hx hb hts iX8 tyX8 tyX8_ok nmX8 hown hK hP hD hS 0 rfl rfl 6 (by decide) k_51 (fun _ h9 => h9) rfl (by decide +kernel) rfl rfl (Nat.le_of_ble_eq_true rfl) dX8_corrects_42 (fun H locs hP hD hS => ?_)
      have hP : va_P G vwCl (mk Z b ((upd al 7 ((al 7) ^^^ (1 <<< ((mLt (al 7) 1) &&& 31)))), ke, hs, hq, sl, sa, 0, car, pa, pq, sp, nu, dn, er)) H := hP
      have hD : va_D A (mk Z b ((upd al 7 ((al 7) ^^^ (1 <<< ((mLt (al 7) 1) &&& 31)))), ke, hs, hq, sl, sa, 0, car, pa, pq, sp, nu, dn, er)) := hD
      refine lv_aload_n hx hb dX8_corrects_45 rfl (lv_at hl 1 rfl) ?_
      refine lv_iconst (v := 0) hx hb dX8_corrects_46 (by decide) ?_
      refine va_put (D := G) (ci := 8) (v := .int 0) (ty := .int) (C := RX8) (T := TX8) (N := 14) hx hb hts iX8 tyX8 tyX8_ok nmX8 hown hK hP hD hS 0 rfl rfl 7 (by decide) k_48 (fun _ h9 => h9) rfl (by decide +kernel) rfl rfl (Nat.le_of_ble_eq_true rfl) dX8_corrects_47 (fun H locs hP hD hS => ?_)
      have hP : va_P G vwCl (mk Z b ((upd al 7 ((al 7) ^^^ (1 <<< ((mLt (al 7) 1) &&& 31)))), ke, hs, hq, sl, sa, 0, 0, pa, pq, sp, nu, dn, er)) H := hP
      have hD : va_D A (mk Z b ((upd al 7 ((al 7) ^^^ (1 <<< ((mLt (al 7) 1) &&& 31)))), ke, hs, hq, sl, sa, 0, 0, pa, pq, sp, nu, dn, er)) := hD
      refine lv_aload_n hx hb dX8_corrects_50 rfl (lv_at hl 1 rfl) ?_
      refine va_get (D := G) (ci := 8) (v := .ref (b 1)) (C := RX8) (T := TX8) (N := 14) hx hb hts iX8 hown hK hP 0 rfl rfl 0 (by decide) k_7 (fun _ h9 => h9) rfl dX8_corrects_51 ?_
      refine lv_bipush (v := 8) hx hb dX8_corrects_54 (by decide) ?_
      refine lv_dup2_11 hx hb dX8_corrects_56 rfl rfl ?_
      refine zIald (f := (upd al 7 ((al 7) ^^^ (1 <<< ((mLt (al 7) 1) &&& 31))))) hx hb hK hP 1 0 rfl rfl 8 (by decide) (by decide) (by decide) dX8_corrects_57 ?_
      refine lv_iconst (v := 1) hx hb dX8_corrects_58 (by decide) ?_
      refine lv_iadd hx hb dX8_corrects_59 ?_
      refine zIast (f := (upd al 7 ((al 7) ^^^ (1 <<< ((mLt (al 7) 1) &&& 31))))) hx hb hK hP hD hS 1 0 rfl rfl 8 (by decide) (by decide) (by decide) dX8_corrects_60 (fun H locs hP hD hS => ?_)
      have hP : va_P G vwCl (mk Z b ((upd (upd al 7 ((al 7) ^^^ (1 <<< ((mLt (al 7) 1) &&& 31)))) 8 (((upd al 7 ((al 7) ^^^ (1 <<< ((mLt (al 7) 1) &&& 31)))) 8) + 1)), ke, hs, hq, sl, sa, 0, 0, pa, pq, sp, nu, dn, er)) H := hP
      have hD : va_D A (mk Z b ((upd (upd al 7 ((al 7) ^^^ (1 <<< ((mLt (al 7) 1) &&& 31)))) 8 (((upd al 7 ((al 7) ^^^ (1 <<< ((mLt (al 7) 1) &&& 31)))) 8) + 1)), ke, hs, hq, sl, sa, 0, 0, pa, pq, sp, nu, dn, er)) := hD
      exact W.vret hx hb hr (zEv (upd (upd al 7 ((al 7) ^^^ (1 <<< ((mLt (al 7) 1) &&& 31)))) 8 (((upd al 7 ((al 7) ^^^ (1 <<< ((mLt (al 7) 1) &&& 31)))) 8) + 1)) (by
          simp only [mCor, mCorT, c5, Int32.not_le.mp c5, c28, ↓reduceIte]) hP hD hS) hS.2.2 dX8_corrects_61
    · refine lv_iconst (v := 0) hx hb dX8_corrects_31 (by decide) ?_
      refine lv_goto (tgt := 38) hx hb dX8_corrects_32 (by decide) ?_
      refine lv_ixor hx hb dX8_corrects_38 ?_
      refine zIast (f := al) hx hb hK hP hD hS 1 0 rfl rfl 7 (by decide) (by decide) (by decide) dX8_corrects_39 (fun H locs hP hD hS => ?_)
      have hP : va_P G vwCl (mk Z b ((upd al 7 ((al 7) ^^^ 0)), ke, hs, hq, sl, sa, off, car, pa, pq, sp, nu, dn, er)) H := hP
      have hD : va_D A (mk Z b ((upd al 7 ((al 7) ^^^ 0)), ke, hs, hq, sl, sa, off, car, pa, pq, sp, nu, dn, er)) := hD
      refine lv_aload_n hx hb dX8_corrects_40 rfl (lv_at hl 1 rfl) ?_
      refine lv_iconst (v := 0) hx hb dX8_corrects_41 (by decide) ?_
      refine va_put (D := G) (ci := 8) (v := .int 0) (ty := .int) (C := RX8) (T := TX8) (N := 14) hx hb hts iX8 tyX8 tyX8_ok nmX8 hown hK hP hD hS 0 rfl rfl 6 (by decide) k_51 (fun _ h9 => h9) rfl (by decide +kernel) rfl rfl (Nat.le_of_ble_eq_true rfl) dX8_corrects_42 (fun H locs hP hD hS => ?_)
      have hP : va_P G vwCl (mk Z b ((upd al 7 ((al 7) ^^^ 0)), ke, hs, hq, sl, sa, 0, car, pa, pq, sp, nu, dn, er)) H := hP
      have hD : va_D A (mk Z b ((upd al 7 ((al 7) ^^^ 0)), ke, hs, hq, sl, sa, 0, car, pa, pq, sp, nu, dn, er)) := hD
      refine lv_aload_n hx hb dX8_corrects_45 rfl (lv_at hl 1 rfl) ?_
      refine lv_iconst (v := 0) hx hb dX8_corrects_46 (by decide) ?_
      refine va_put (D := G) (ci := 8) (v := .int 0) (ty := .int) (C := RX8) (T := TX8) (N := 14) hx hb hts iX8 tyX8 tyX8_ok nmX8 hown hK hP hD hS 0 rfl rfl 7 (by decide) k_48 (fun _ h9 => h9) rfl (by decide +kernel) rfl rfl (Nat.le_of_ble_eq_true rfl) dX8_corrects_47 (fun H locs hP hD hS => ?_)
      have hP : va_P G vwCl (mk Z b ((upd al 7 ((al 7) ^^^ 0)), ke, hs, hq, sl, sa, 0, 0, pa, pq, sp, nu, dn, er)) H := hP
      have hD : va_D A (mk Z b ((upd al 7 ((al 7) ^^^ 0)), ke, hs, hq, sl, sa, 0, 0, pa, pq, sp, nu, dn, er)) := hD
      refine lv_aload_n hx hb dX8_corrects_50 rfl (lv_at hl 1 rfl) ?_
      refine va_get (D := G) (ci := 8) (v := .ref (b 1)) (C := RX8) (T := TX8) (N := 14) hx hb hts iX8 hown hK hP 0 rfl rfl 0 (by decide) k_7 (fun _ h9 => h9) rfl dX8_corrects_51 ?_
      refine lv_bipush (v := 8) hx hb dX8_corrects_54 (by decide) ?_
      refine lv_dup2_11 hx hb dX8_corrects_56 rfl rfl ?_
      refine zIald (f := (upd al 7 ((al 7) ^^^ 0))) hx hb hK hP 1 0 rfl rfl 8 (by decide) (by decide) (by decide) dX8_corrects_57 ?_
      refine lv_iconst (v := 1) hx hb dX8_corrects_58 (by decide) ?_
      refine lv_iadd hx hb dX8_corrects_59 ?_
      refine zIast (f := (upd al 7 ((al 7) ^^^ 0))) hx hb hK hP hD hS 1 0 rfl rfl 8 (by decide) (by decide) (by decide) dX8_corrects_60 (fun H locs hP hD hS => ?_)
      have hP : va_P G vwCl (mk Z b ((upd (upd al 7 ((al 7) ^^^ 0)) 8 (((upd al 7 ((al 7) ^^^ 0)) 8) + 1)), ke, hs, hq, sl, sa, 0, 0, pa, pq, sp, nu, dn, er)) H := hP
      have hD : va_D A (mk Z b ((upd (upd al 7 ((al 7) ^^^ 0)) 8 (((upd al 7 ((al 7) ^^^ 0)) 8) + 1)), ke, hs, hq, sl, sa, 0, 0, pa, pq, sp, nu, dn, er)) := hD
      exact W.vret hx hb hr (zEv (upd (upd al 7 ((al 7) ^^^ 0)) 8 (((upd al 7 ((al 7) ^^^ 0)) 8) + 1)) (by
          simp only [mCor, mCorT, c5, Int32.not_le.mp c5, eq_true c28, ↓reduceIte]) hP hD hS) hS.2.2 dX8_corrects_61
