set_option maxHeartbeats 4000000 in
set_option maxRecDepth 100000 in
theorem m_X7_isHeat (l : Launch) (G : va_G) (Z : Nat → ClassId) (sz : Nat) (x : Int32)  : Met l yX7_isHeat wsX7_isHeat ({ frames := 0, cells := 0, slots := 0, locals := 0 }) (va_Pc [.int x] (zWP G Z sz ([]))) (va_Qi (fun (r : Int32) (u : Unit) => r = zHeat x) (fun (u : Unit) t => zB G (va_A ([]) sz) ([]) t) (va_A ([]) sz)) 0 0 (va_A ([]) sz) := by
  refine Met.ofW (cc := cX7_isHeat) (maxL := 1) (ret := (some .boolean)) (by decide) rfl ?_
  intro p e s m args below meth c s₁ B hml hv
  have hx := B.exec
  have hb := B.bytes
  have hr := B.returns
  have hts := atoms_spec (ws := wsX7_isHeat) B.pre
  have hown : s.vm.findClass RX7 = some m.cls := findClass_of_methodNamed B.named
  have hlocks := B.notSynchronized
  obtain ⟨rfl, hsz, hP, hK, hD, hA, hS, hSW⟩ := zEnter hv
  subst hsz
  generalize va_A ([]) s.heap.size = A at hD hA hS hSW ⊢
  have hP : va_P G vwCl ([]) s.heap := hP
  have hl := lv_entry ([.int x]) (n := 1) (Nat.le_of_ble_eq_true rfl)
  rw [lg_entry_eq]
  generalize (lg_sl ([.int x]) ++ List.replicate (1 - (lg_sl ([.int x])).length) Slot.unset).toArray = ls at hl ⊢
  have hl : lv_has ls 1 [(0, .int x)] := hl
  refine lv_iload_n hx hb dX7_isHeat_0 rfl (lv_at hl 0 rfl) ?_
  refine lv_bipush (v := (-20)) hx hb dX7_isHeat_1 (by decide) ?_
  refine lv_icmp_lt (tgt := 16) hx hb dX7_isHeat_3 (by decide) (fun c3 => ?_) (fun c3 => ?_)
  · refine lv_iconst (v := 0) hx hb dX7_isHeat_16 (by decide) ?_
    exact W.zret hx hb hr (rfl) (zEi () (by
        simp only [zHeat, c3, Int32.not_le.mpr c3, ↓reduceIte]) hP hD hS) hS.2.2 dX7_isHeat_17
  · refine lv_iload_n hx hb dX7_isHeat_6 rfl (lv_at hl 0 rfl) ?_
    refine lv_bipush (v := 50) hx hb dX7_isHeat_7 (by decide) ?_
    refine lv_icmp_gt (tgt := 16) hx hb dX7_isHeat_9 (by decide) (fun c9 => ?_) (fun c9 => ?_)
    · refine lv_iconst (v := 0) hx hb dX7_isHeat_16 (by decide) ?_
      exact W.zret hx hb hr (rfl) (zEi () (by
          simp only [zHeat, c3, Int32.not_lt.mp c3, c9, Int32.not_le.mpr c9, ↓reduceIte]) hP hD hS) hS.2.2 dX7_isHeat_17
    · refine lv_iconst (v := 1) hx hb dX7_isHeat_12 (by decide) ?_
      refine lv_goto (tgt := 17) hx hb dX7_isHeat_13 (by decide) ?_
      exact W.zret hx hb hr (rfl) (zEi () (by
          simp only [zHeat, c3, Int32.not_lt.mp c3, c9, Int32.not_lt.mp c9, ↓reduceIte]) hP hD hS) hS.2.2 dX7_isHeat_17

set_option maxHeartbeats 4000000 in
set_option maxRecDepth 100000 in
theorem m_X7_isAir (l : Launch) (G : va_G) (Z : Nat → ClassId) (sz : Nat) (x : Int32)  : Met l yX7_isAir wsX7_isAir ({ frames := 0, cells := 0, slots := 0, locals := 0 }) (va_Pc [.int x] (zWP G Z sz ([]))) (va_Qi (fun (r : Int32) (u : Unit) => r = zAir x) (fun (u : Unit) t => zB G (va_A ([]) sz) ([]) t) (va_A ([]) sz)) 0 0 (va_A ([]) sz) := by
  refine Met.ofW (cc := cX7_isAir) (maxL := 1) (ret := (some .boolean)) (by decide) rfl ?_
  intro p e s m args below meth c s₁ B hml hv
  have hx := B.exec
  have hb := B.bytes
  have hr := B.returns
  have hts := atoms_spec (ws := wsX7_isAir) B.pre
  have hown : s.vm.findClass RX7 = some m.cls := findClass_of_methodNamed B.named
  have hlocks := B.notSynchronized
  obtain ⟨rfl, hsz, hP, hK, hD, hA, hS, hSW⟩ := zEnter hv
  subst hsz
  generalize va_A ([]) s.heap.size = A at hD hA hS hSW ⊢
  have hP : va_P G vwCl ([]) s.heap := hP
  have hl := lv_entry ([.int x]) (n := 1) (Nat.le_of_ble_eq_true rfl)
  rw [lg_entry_eq]
  generalize (lg_sl ([.int x]) ++ List.replicate (1 - (lg_sl ([.int x])).length) Slot.unset).toArray = ls at hl ⊢
  have hl : lv_has ls 1 [(0, .int x)] := hl
  refine lv_iload_n hx hb dX7_isAir_0 rfl (lv_at hl 0 rfl) ?_
  refine lv_sipush (v := 800) hx hb dX7_isAir_1 (by decide) ?_
  refine lv_icmp_lt (tgt := 18) hx hb dX7_isAir_4 (by decide) (fun c4 => ?_) (fun c4 => ?_)
  · refine lv_iconst (v := 0) hx hb dX7_isAir_18 (by decide) ?_
    exact W.zret hx hb hr (rfl) (zEi () (by
        simp only [zAir, c4, Int32.not_le.mpr c4, ↓reduceIte]) hP hD hS) hS.2.2 dX7_isAir_19
  · refine lv_iload_n hx hb dX7_isAir_7 rfl (lv_at hl 0 rfl) ?_
    refine lv_sipush (v := 1200) hx hb dX7_isAir_8 (by decide) ?_
    refine lv_icmp_gt (tgt := 18) hx hb dX7_isAir_11 (by decide) (fun c11 => ?_) (fun c11 => ?_)
    · refine lv_iconst (v := 0) hx hb dX7_isAir_18 (by decide) ?_
      exact W.zret hx hb hr (rfl) (zEi () (by
          simp only [zAir, c4, Int32.not_lt.mp c4, c11, Int32.not_le.mpr c11, ↓reduceIte]) hP hD hS) hS.2.2 dX7_isAir_19
    · refine lv_iconst (v := 1) hx hb dX7_isAir_14 (by decide) ?_
      refine lv_goto (tgt := 19) hx hb dX7_isAir_15 (by decide) ?_
      exact W.zret hx hb hr (rfl) (zEi () (by
          simp only [zAir, c4, Int32.not_lt.mp c4, c11, Int32.not_lt.mp c11, ↓reduceIte]) hP hD hS) hS.2.2 dX7_isAir_19

set_option maxHeartbeats 4000000 in
set_option maxRecDepth 100000 in
theorem m_X0_setting (l : Launch) (G : va_G) (Z : Nat → ClassId) (sz : Nat) (a : Nat → Nat) (st : Nat → Int32) (off : Int32) (car : Int32) (fa : Nat → Int32) (wr : Int32) (tr : Int32) (ho : Int32) (ra : Int32) (ti : Int32) (k : Int32)  : Met l yX0_setting wsX0_setting ({ frames := 0, cells := 0, slots := 0, locals := 0 }) (va_Pc [.ref (a 0), .int k] (zWP G Z sz (ck Z a (st, off, car, fa, wr, tr, ho, ra, ti)))) (va_Qi (fun (r : Int32) (u : Unit) => r = cSet st k) (fun (u : Unit) t => zB G (va_A (ck Z a (st, off, car, fa, wr, tr, ho, ra, ti)) sz) (ck Z a (st, off, car, fa, wr, tr, ho, ra, ti)) t) (va_A (ck Z a (st, off, car, fa, wr, tr, ho, ra, ti)) sz)) 0 0 (va_A (ck Z a (st, off, car, fa, wr, tr, ho, ra, ti)) sz) := by
  refine Met.ofW (cc := cX0_setting) (maxL := 2) (ret := (some .int)) (by decide) rfl ?_
  intro p e s m args below meth c s₁ B hml hv
  have hx := B.exec
  have hb := B.bytes
  have hr := B.returns
  have hts := atoms_spec (ws := wsX0_setting) B.pre
  have hown : s.vm.findClass RX0 = some m.cls := findClass_of_methodNamed B.named
  have hlocks := B.notSynchronized
  obtain ⟨rfl, hsz, hP, hK, hD, hA, hS, hSW⟩ := zEnter hv
  subst hsz
  generalize va_A (ck Z a (st, off, car, fa, wr, tr, ho, ra, ti)) s.heap.size = A at hD hA hS hSW ⊢
  have k_9 := hts (.fieldLink RX0 9 "WarmRods$Clock" "settings" "[I") (List.mem_of_getElem? (i := 1) rfl)
  have iX0 : ∀ w ∈ u_ws RX0 TX0 7, w ∈ wsX0_setting := fun _ h => List.mem_cons_of_mem _ (List.mem_append_right _ h)
  have hP : va_P G vwCl (ck Z a (st, off, car, fa, wr, tr, ho, ra, ti)) s.heap := hP
  have hl := lv_entry ([.ref (a 0), .int k]) (n := 2) (Nat.le_of_ble_eq_true rfl)
  rw [lg_entry_eq]
  generalize (lg_sl ([.ref (a 0), .int k]) ++ List.replicate (2 - (lg_sl ([.ref (a 0), .int k])).length) Slot.unset).toArray = ls at hl ⊢
  have hl : lv_has ls 2 [(0, .ref (a 0)), (1, .int k)] := hl
  refine lv_iload_n hx hb dX0_setting_0 rfl (lv_at hl 1 rfl) ?_
  refine lv_if_lt (tgt := 22) hx hb dX0_setting_1 (by decide) (fun c1 => ?_) (fun c1 => ?_)
  · refine lv_iconst (v := 0) hx hb dX0_setting_22 (by decide) ?_
    exact W.iret hx hb hr (zEi () (by
        simp only [cSet, c1, Int32.not_le.mpr c1, ↓reduceIte]) hP hD hS) hS.2.2 dX0_setting_23
  · refine lv_iload_n hx hb dX0_setting_4 rfl (lv_at hl 1 rfl) ?_
    refine lv_aload_n hx hb dX0_setting_5 rfl (lv_at hl 0 rfl) ?_
    refine va_get (D := G) (ci := 0) (v := .ref (a 1)) (C := RX0) (T := TX0) (N := 7) hx hb hts iX0 hown hK hP 0 rfl rfl 0 (by decide) k_9 (fun _ h9 => h9) rfl dX0_setting_6 ?_
    refine va_alen (v := 4) hx hb hK hP 1 0 rfl rfl rfl dX0_setting_9 ?_
    refine lv_icmp_ge (tgt := 22) hx hb dX0_setting_10 (by decide) (fun c10 => ?_) (fun c10 => ?_)
    · refine lv_iconst (v := 0) hx hb dX0_setting_22 (by decide) ?_
      exact W.iret hx hb hr (zEi () (by
          simp only [cSet, c1, Int32.not_lt.mp c1, c10, Int32.not_lt.mpr c10, ↓reduceIte]) hP hD hS) hS.2.2 dX0_setting_23
    · refine lv_aload_n hx hb dX0_setting_13 rfl (lv_at hl 0 rfl) ?_
      refine va_get (D := G) (ci := 0) (v := .ref (a 1)) (C := RX0) (T := TX0) (N := 7) hx hb hts iX0 hown hK hP 0 rfl rfl 0 (by decide) k_9 (fun _ h9 => h9) rfl dX0_setting_14 ?_
      refine lv_iload_n hx hb dX0_setting_17 rfl (lv_at hl 1 rfl) ?_
      refine zIald (f := st) hx hb hK hP 1 0 rfl rfl k.toNatClampNeg ((zNC c1 c10 (by decide)).1) ((zNC c1 c10 (by decide)).2) (by decide) dX0_setting_18 ?_
      refine lv_goto (tgt := 23) hx hb dX0_setting_19 (by decide) ?_
      exact W.iret hx hb hr (zEi () (by
          simp only [cSet, c1, Int32.not_lt.mp c1, c10, Int32.not_le.mp c10, ↓reduceIte]) hP hD hS) hS.2.2 dX0_setting_23

set_option maxHeartbeats 4000000 in
set_option maxRecDepth 100000 in
theorem m_X0_errorOfSetting (l : Launch) (G : va_G) (Z : Nat → ClassId) (sz : Nat) (a : Nat → Nat) (st : Nat → Int32) (off : Int32) (car : Int32) (fa : Nat → Int32) (wr : Int32) (tr : Int32) (ho : Int32) (ra : Int32) (ti : Int32) (k : Int32) (x : Int32)  : Met l yX0_errorOfSetting wsX0_errorOfSetting ({ frames := 0, cells := 0, slots := 0, locals := 0 }) (va_Pc [.ref (a 0), .int k, .int x] (zWP G Z sz (ck Z a (st, off, car, fa, wr, tr, ho, ra, ti)))) (va_Qi (fun (r : Int32) (u : Unit) => r = cErrS k x) (fun (u : Unit) t => zB G (va_A (ck Z a (st, off, car, fa, wr, tr, ho, ra, ti)) sz) (ck Z a (st, off, car, fa, wr, tr, ho, ra, ti)) t) (va_A (ck Z a (st, off, car, fa, wr, tr, ho, ra, ti)) sz)) 0 0 (va_A (ck Z a (st, off, car, fa, wr, tr, ho, ra, ti)) sz) := by
  refine Met.ofW (cc := cX0_errorOfSetting) (maxL := 3) (ret := (some .int)) (by decide) rfl ?_
  intro p e s m args below meth c s₁ B hml hv
  have hx := B.exec
  have hb := B.bytes
  have hr := B.returns
  have hts := atoms_spec (ws := wsX0_errorOfSetting) B.pre
  have hown : s.vm.findClass RX0 = some m.cls := findClass_of_methodNamed B.named
  have hlocks := B.notSynchronized
  obtain ⟨rfl, hsz, hP, hK, hD, hA, hS, hSW⟩ := zEnter hv
  subst hsz
  generalize va_A (ck Z a (st, off, car, fa, wr, tr, ho, ra, ti)) s.heap.size = A at hD hA hS hSW ⊢
  have k_55 : (Cond.fieldLinkNest RX0 55 "WarmRods" "LEAST_VALUES" "[I" "WarmRods").before (#[.ref (a 0), .int k, .int x] : Array Value) s = true := va_Nw.use rfl (hSW.1.1 _ (List.mem_of_getElem? (i := 18) rfl))
  have k_58 : (Cond.fieldLinkNest RX0 58 "WarmRods" "GREATEST_VALUES" "[I" "WarmRods").before (#[.ref (a 0), .int k, .int x] : Array Value) s = true := va_Nw.use rfl (hSW.1.1 _ (List.mem_of_getElem? (i := 19) rfl))
  have hP : va_P G vwCl (ck Z a (st, off, car, fa, wr, tr, ho, ra, ti)) s.heap := hP
  have hl := lv_entry ([.ref (a 0), .int k, .int x]) (n := 3) (Nat.le_of_ble_eq_true rfl)
  rw [lg_entry_eq]
  generalize (lg_sl ([.ref (a 0), .int k, .int x]) ++ List.replicate (3 - (lg_sl ([.ref (a 0), .int k, .int x])).length) Slot.unset).toArray = ls at hl ⊢
  have hl : lv_has ls 3 [(0, .ref (a 0)), (1, .int k), (2, .int x)] := hl
  refine lv_iload_n hx hb dX0_errorOfSetting_0 rfl (lv_at hl 1 rfl) ?_
  refine lv_if_lt (tgt := 9) hx hb dX0_errorOfSetting_1 (by decide) (fun c1 => ?_) (fun c1 => ?_)
  · refine lv_bipush (v := (-2)) hx hb dX0_errorOfSetting_9 (by decide) ?_
    exact W.iret hx hb hr (zEi () (by
        simp only [cErrS, c1, Int32.not_le.mpr c1, ↓reduceIte]) hP hD hS) hS.2.2 dX0_errorOfSetting_11
  · refine lv_iload_n hx hb dX0_errorOfSetting_4 rfl (lv_at hl 1 rfl) ?_
    refine lv_iconst (v := 4) hx hb dX0_errorOfSetting_5 (by decide) ?_
    refine lv_icmp_lt (tgt := 12) hx hb dX0_errorOfSetting_6 (by decide) (fun c6 => ?_) (fun c6 => ?_)
    · refine lv_iload_n hx hb dX0_errorOfSetting_12 rfl (lv_at hl 2 rfl) ?_
      obtain ⟨tLEAST_VALUES, hLEAST_VALUES_Z, hLEAST_VALUES_T⟩ := hSW.2.1
      refine va_getsN hx hb hLEAST_VALUES_Z hS hown k_55 (fun _ h9 => h9) dX0_errorOfSetting_13 ?_
      refine lv_iload_n hx hb dX0_errorOfSetting_16 rfl (lv_at hl 1 rfl) ?_
      refine zTald hx hb hLEAST_VALUES_T hS k.toNatClampNeg ((zNC c1 (Int32.not_le.mpr c6) (by decide)).1) ((zNC c1 (Int32.not_le.mpr c6) (by decide)).2) (by decide) dX0_errorOfSetting_17 ?_
      refine lv_icmp_lt (tgt := 30) hx hb dX0_errorOfSetting_18 (by decide) (fun c18 => ?_) (fun c18 => ?_)
      · refine lv_bipush (v := (-2)) hx hb dX0_errorOfSetting_30 (by decide) ?_
        refine lv_goto (tgt := 36) hx hb dX0_errorOfSetting_32 (by decide) ?_
        exact W.iret hx hb hr (zEi () (by
            simp only [cErrS, c1, Int32.not_lt.mp c1, c6, Int32.not_le.mpr c6, c18, Int32.not_le.mpr c18, ↓reduceIte]) hP hD hS) hS.2.2 dX0_errorOfSetting_36
      · refine lv_iload_n hx hb dX0_errorOfSetting_21 rfl (lv_at hl 2 rfl) ?_
        obtain ⟨tGREATEST_VALUES, hGREATEST_VALUES_Z, hGREATEST_VALUES_T⟩ := hSW.2.2.1
        refine va_getsN hx hb hGREATEST_VALUES_Z hS hown k_58 (fun _ h9 => h9) dX0_errorOfSetting_22 ?_
        refine lv_iload_n hx hb dX0_errorOfSetting_25 rfl (lv_at hl 1 rfl) ?_
        refine zTald hx hb hGREATEST_VALUES_T hS k.toNatClampNeg ((zNC c1 (Int32.not_le.mpr c6) (by decide)).1) ((zNC c1 (Int32.not_le.mpr c6) (by decide)).2) (by decide) dX0_errorOfSetting_26 ?_
        refine lv_icmp_le (tgt := 35) hx hb dX0_errorOfSetting_27 (by decide) (fun c27 => ?_) (fun c27 => ?_)
        · refine lv_iconst (v := 0) hx hb dX0_errorOfSetting_35 (by decide) ?_
          exact W.iret hx hb hr (zEi () (by
              simp only [cErrS, c1, Int32.not_lt.mp c1, c6, Int32.not_le.mpr c6, c18, Int32.not_lt.mp c18, c27, Int32.not_lt.mpr c27, ↓reduceIte]) hP hD hS) hS.2.2 dX0_errorOfSetting_36
        · refine lv_bipush (v := (-2)) hx hb dX0_errorOfSetting_30 (by decide) ?_
          refine lv_goto (tgt := 36) hx hb dX0_errorOfSetting_32 (by decide) ?_
          exact W.iret hx hb hr (zEi () (by
              simp only [cErrS, c1, Int32.not_lt.mp c1, c6, Int32.not_le.mpr c6, c18, Int32.not_lt.mp c18, c27, Int32.not_le.mp c27, ↓reduceIte]) hP hD hS) hS.2.2 dX0_errorOfSetting_36
    · refine lv_bipush (v := (-2)) hx hb dX0_errorOfSetting_9 (by decide) ?_
      exact W.iret hx hb hr (zEi () (by
          simp only [cErrS, c1, Int32.not_lt.mp c1, c6, Int32.not_lt.mp c6, ↓reduceIte]) hP hD hS) hS.2.2 dX0_errorOfSetting_11

set_option maxHeartbeats 4000000 in
set_option maxRecDepth 100000 in
theorem m_X0_changeSetting (l : Launch) (G : va_G) (Z : Nat → ClassId) (sz : Nat) (a : Nat → Nat) (st : Nat → Int32) (off : Int32) (car : Int32) (fa : Nat → Int32) (wr : Int32) (tr : Int32) (ho : Int32) (ra : Int32) (ti : Int32) (k : Int32) (x : Int32)  : Met l yX0_changeSetting wsX0_changeSetting ({ frames := 1, cells := 0, slots := 0, locals := 21 }) (va_Pc [.ref (a 0), .int k, .int x] (zWP G Z sz (ck Z a (st, off, car, fa, wr, tr, ho, ra, ti)))) (va_Qi (fun (r : Int32) (u : (Nat → Int32)) => r = cSet st k ∧ u = cChg st k x) (fun (u : (Nat → Int32)) t => zB G (va_A (ck Z a (st, off, car, fa, wr, tr, ho, ra, ti)) sz) (ck Z a (u, off, car, fa, wr, tr, ho, ra, ti)) t) (va_A (ck Z a (st, off, car, fa, wr, tr, ho, ra, ti)) sz)) 0 0 (va_A (ck Z a (st, off, car, fa, wr, tr, ho, ra, ti)) sz) := by
  refine Met.ofW (cc := cX0_changeSetting) (maxL := 4) (ret := (some .int)) (by decide) rfl ?_
  intro p e s m args below meth c s₁ B hml hv
  have hx := B.exec
  have hb := B.bytes
  have hr := B.returns
  have hts := atoms_spec (ws := wsX0_changeSetting) B.pre
  have hown : s.vm.findClass RX0 = some m.cls := findClass_of_methodNamed B.named
  have hlocks := B.notSynchronized
  obtain ⟨rfl, hsz, hP, hK, hD, hA, hS, hSW⟩ := zEnter hv
  subst hsz
  generalize va_A (ck Z a (st, off, car, fa, wr, tr, ho, ra, ti)) s.heap.size = A at hD hA hS hSW ⊢
  have k_9 := hts (.fieldLink RX0 9 "WarmRods$Clock" "settings" "[I") (List.mem_of_getElem? (i := 1) rfl)
  have iX0 : ∀ w ∈ u_ws RX0 TX0 7, w ∈ wsX0_changeSetting := fun _ h => List.mem_cons_of_mem _ (List.mem_append_right _ h)
  have hP : va_P G vwCl (ck Z a (st, off, car, fa, wr, tr, ho, ra, ti)) s.heap := hP
  have hl := lv_entry ([.ref (a 0), .int k, .int x]) (n := 4) (Nat.le_of_ble_eq_true rfl)
  rw [lg_entry_eq]
  generalize (lg_sl ([.ref (a 0), .int k, .int x]) ++ List.replicate (4 - (lg_sl ([.ref (a 0), .int k, .int x])).length) Slot.unset).toArray = ls at hl ⊢
  have hl : lv_has ls 4 [(0, .ref (a 0)), (1, .int k), (2, .int x)] := hl
  refine lv_aload_n hx hb dX0_changeSetting_0 rfl (lv_at hl 0 rfl) ?_
  refine lv_iload_n hx hb dX0_changeSetting_1 rfl (lv_at hl 1 rfl) ?_
  refine zCi (S := Unit) (ws1 := fun u => ck Z a (st, off, car, fa, wr, tr, ho, ra, ti)) (wr := []) (va_runV (As := [.int k]) (rest := []) ⟨hx, hb, hml, hown, hts⟩ (m_X0_setting l G Z _ a st off car fa wr tr ho ra ti k) (cwV 1 hts gX0_changeSetting_X0_setting rfl rfl rfl (by decide +kernel) ⟨Nat.le_of_ble_eq_true rfl, Nat.le_of_ble_eq_true rfl⟩) (zPreV hK hP hD hS hA hSW [0, 1, 2, 3, 4] rfl (by decide) 0 (ci := 0) rfl rfl rfl) rfl rfl hl.1 rfl (lv_room (Nat.le_of_ble_eq_true rfl)) dX0_changeSetting_2 ⟨Nat.le_of_ble_eq_true rfl, Nat.le_of_ble_eq_true rfl⟩) hP hD hS hA [0, 1, 2, 3, 4] [] [0, 1, 2, 3, 4] rfl rfl (by decide) (by decide) (by decide) (fun _ => rfl) (fun r2 u H locs hw2 hP hD hS => ?_)
  try dsimp only at hw2
  subst hw2
  have hP : va_P G vwCl (ck Z a (st, off, car, fa, wr, tr, ho, ra, ti)) H := hP
  have hD : va_D A (ck Z a (st, off, car, fa, wr, tr, ho, ra, ti)) := hD
  refine lv_istore_n (lv' := [(3, .int (cSet st k)), (0, .ref (a 0)), (1, .int k), (2, .int x)]) hx hb dX0_changeSetting_5 rfl hl (by decide) rfl (fun ls hl => ?_)
  refine lv_iload_n hx hb dX0_changeSetting_6 rfl (lv_at hl 2 rfl) ?_
  refine lv_if_lt (tgt := 26) hx hb dX0_changeSetting_7 (by decide) (fun c7 => ?_) (fun c7 => ?_)
  · refine lv_iload_n hx hb dX0_changeSetting_26 rfl (lv_at hl 0 rfl) ?_
    exact W.iret hx hb hr (zEi st (by
        refine ⟨rfl, ?_⟩
        simp only [cChg, c7, Int32.not_le.mpr c7, ↓reduceIte]) hP hD hS) hS.2.2 dX0_changeSetting_27
  · refine lv_iload_n hx hb dX0_changeSetting_10 rfl (lv_at hl 2 rfl) ?_
    refine lv_aload_n hx hb dX0_changeSetting_11 rfl (lv_at hl 1 rfl) ?_
    refine va_get (D := G) (ci := 0) (v := .ref (a 1)) (C := RX0) (T := TX0) (N := 7) hx hb hts iX0 hown hK hP 0 rfl rfl 0 (by decide) k_9 (fun _ h9 => h9) rfl dX0_changeSetting_12 ?_
    refine va_alen (v := 4) hx hb hK hP 1 0 rfl rfl rfl dX0_changeSetting_15 ?_
    refine lv_icmp_ge (tgt := 26) hx hb dX0_changeSetting_16 (by decide) (fun c16 => ?_) (fun c16 => ?_)
    · refine lv_iload_n hx hb dX0_changeSetting_26 rfl (lv_at hl 0 rfl) ?_
      exact W.iret hx hb hr (zEi st (by
          refine ⟨rfl, ?_⟩
          simp only [cChg, c7, Int32.not_lt.mp c7, c16, Int32.not_lt.mpr c16, ↓reduceIte]) hP hD hS) hS.2.2 dX0_changeSetting_27
    · refine lv_aload_n hx hb dX0_changeSetting_19 rfl (lv_at hl 1 rfl) ?_
      refine va_get (D := G) (ci := 0) (v := .ref (a 1)) (C := RX0) (T := TX0) (N := 7) hx hb hts iX0 hown hK hP 0 rfl rfl 0 (by decide) k_9 (fun _ h9 => h9) rfl dX0_changeSetting_20 ?_
      refine lv_iload_n hx hb dX0_changeSetting_23 rfl (lv_at hl 2 rfl) ?_
      refine lv_iload_n hx hb dX0_changeSetting_24 rfl (lv_at hl 3 rfl) ?_
      refine zIast (f := st) hx hb hK hP hD hS 1 0 rfl rfl k.toNatClampNeg ((zNC c7 c16 (by decide)).1) ((zNC c7 c16 (by decide)).2) (by decide) dX0_changeSetting_25 (fun H locs hP hD hS => ?_)
      have hP : va_P G vwCl (ck Z a ((upd st k.toNatClampNeg x), off, car, fa, wr, tr, ho, ra, ti)) H := hP
      have hD : va_D A (ck Z a ((upd st k.toNatClampNeg x), off, car, fa, wr, tr, ho, ra, ti)) := hD
      refine lv_iload_n hx hb dX0_changeSetting_26 rfl (lv_at hl 0 rfl) ?_
      exact W.iret hx hb hr (zEi (upd st k.toNatClampNeg x) (by
          refine ⟨rfl, ?_⟩
          simp only [cChg, c7, Int32.not_lt.mp c7, c16, Int32.not_le.mp c16, ↓reduceIte]) hP hD hS) hS.2.2 dX0_changeSetting_27

set_option maxHeartbeats 4000000 in
set_option maxRecDepth 100000 in
theorem m_X0_errorOfWeight (l : Launch) (G : va_G) (Z : Nat → ClassId) (sz : Nat) (a : Nat → Nat) (st : Nat → Int32) (off : Int32) (car : Int32) (fa : Nat → Int32) (wr : Int32) (tr : Int32) (ho : Int32) (ra : Int32) (ti : Int32) (k : Int32)  : Met l yX0_errorOfWeight wsX0_errorOfWeight ({ frames := 0, cells := 0, slots := 0, locals := 0 }) (va_Pc [.ref (a 0), .int k] (zWP G Z sz (ck Z a (st, off, car, fa, wr, tr, ho, ra, ti)))) (va_Qi (fun (r : Int32) (u : Unit) => r = cErrW k) (fun (u : Unit) t => zB G (va_A (ck Z a (st, off, car, fa, wr, tr, ho, ra, ti)) sz) (ck Z a (st, off, car, fa, wr, tr, ho, ra, ti)) t) (va_A (ck Z a (st, off, car, fa, wr, tr, ho, ra, ti)) sz)) 0 0 (va_A (ck Z a (st, off, car, fa, wr, tr, ho, ra, ti)) sz) := by
  refine Met.ofW (cc := cX0_errorOfWeight) (maxL := 2) (ret := (some .int)) (by decide) rfl ?_
  intro p e s m args below meth c s₁ B hml hv
  have hx := B.exec
  have hb := B.bytes
  have hr := B.returns
  have hts := atoms_spec (ws := wsX0_errorOfWeight) B.pre
  have hown : s.vm.findClass RX0 = some m.cls := findClass_of_methodNamed B.named
  have hlocks := B.notSynchronized
  obtain ⟨rfl, hsz, hP, hK, hD, hA, hS, hSW⟩ := zEnter hv
  subst hsz
  generalize va_A (ck Z a (st, off, car, fa, wr, tr, ho, ra, ti)) s.heap.size = A at hD hA hS hSW ⊢
  have hP : va_P G vwCl (ck Z a (st, off, car, fa, wr, tr, ho, ra, ti)) s.heap := hP
  have hl := lv_entry ([.ref (a 0), .int k]) (n := 2) (Nat.le_of_ble_eq_true rfl)
  rw [lg_entry_eq]
  generalize (lg_sl ([.ref (a 0), .int k]) ++ List.replicate (2 - (lg_sl ([.ref (a 0), .int k])).length) Slot.unset).toArray = ls at hl ⊢
  have hl : lv_has ls 2 [(0, .ref (a 0)), (1, .int k)] := hl
  refine lv_iload_n hx hb dX0_errorOfWeight_0 rfl (lv_at hl 1 rfl) ?_
  refine lv_if_lt (tgt := 10) hx hb dX0_errorOfWeight_1 (by decide) (fun c1 => ?_) (fun c1 => ?_)
  · refine lv_iconst (v := (-1)) hx hb dX0_errorOfWeight_10 (by decide) ?_
    refine lv_goto (tgt := 15) hx hb dX0_errorOfWeight_11 (by decide) ?_
    exact W.iret hx hb hr (zEi () (by
        simp only [cErrW, c1, Int32.not_le.mpr c1, ↓reduceIte]) hP hD hS) hS.2.2 dX0_errorOfWeight_15
  · refine lv_iload_n hx hb dX0_errorOfWeight_4 rfl (lv_at hl 1 rfl) ?_
    refine lv_bipush (v := 8) hx hb dX0_errorOfWeight_5 (by decide) ?_
    refine lv_icmp_lt (tgt := 14) hx hb dX0_errorOfWeight_7 (by decide) (fun c7 => ?_) (fun c7 => ?_)
    · refine lv_iconst (v := 0) hx hb dX0_errorOfWeight_14 (by decide) ?_
      exact W.iret hx hb hr (zEi () (by
          simp only [cErrW, c1, Int32.not_lt.mp c1, c7, Int32.not_le.mpr c7, ↓reduceIte]) hP hD hS) hS.2.2 dX0_errorOfWeight_15
    · refine lv_iconst (v := (-1)) hx hb dX0_errorOfWeight_10 (by decide) ?_
      refine lv_goto (tgt := 15) hx hb dX0_errorOfWeight_11 (by decide) ?_
      exact W.iret hx hb hr (zEi () (by
          simp only [cErrW, c1, Int32.not_lt.mp c1, c7, Int32.not_lt.mp c7, ↓reduceIte]) hP hD hS) hS.2.2 dX0_errorOfWeight_15

set_option maxHeartbeats 4000000 in
set_option maxRecDepth 100000 in
theorem m_X0_moveWeight (l : Launch) (G : va_G) (Z : Nat → ClassId) (sz : Nat) (a : Nat → Nat) (st : Nat → Int32) (off : Int32) (car : Int32) (fa : Nat → Int32) (wr : Int32) (tr : Int32) (ho : Int32) (ra : Int32) (ti : Int32) (k : Int32)  : Met l yX0_moveWeight wsX0_moveWeight ({ frames := 0, cells := 0, slots := 0, locals := 0 }) (va_Pc [.ref (a 0), .int k] (zWP G Z sz (ck Z a (st, off, car, fa, wr, tr, ho, ra, ti)))) (va_Qi (fun (r : Int32) (u : Unit) => r = cMvR tr k) (fun (u : Unit) t => zB G (va_A (ck Z a (st, off, car, fa, wr, tr, ho, ra, ti)) sz) (ck Z a (st, off, car, fa, wr, (cMvT tr k), ho, ra, ti)) t) (va_A (ck Z a (st, off, car, fa, wr, tr, ho, ra, ti)) sz)) 0 0 (va_A (ck Z a (st, off, car, fa, wr, tr, ho, ra, ti)) sz) := by
  refine Met.ofW (cc := cX0_moveWeight) (maxL := 2) (ret := (some .int)) (by decide) rfl ?_
  intro p e s m args below meth c s₁ B hml hv
  have hx := B.exec
  have hb := B.bytes
  have hr := B.returns
  have hts := atoms_spec (ws := wsX0_moveWeight) B.pre
  have hown : s.vm.findClass RX0 = some m.cls := findClass_of_methodNamed B.named
  have hlocks := B.notSynchronized
  obtain ⟨rfl, hsz, hP, hK, hD, hA, hS, hSW⟩ := zEnter hv
  subst hsz
  generalize va_A (ck Z a (st, off, car, fa, wr, tr, ho, ra, ti)) s.heap.size = A at hD hA hS hSW ⊢
  have k_42 := hts (.fieldLink RX0 42 "WarmRods$Clock" "tray" "I") (List.mem_of_getElem? (i := 1) rfl)
  have iX0 : ∀ w ∈ u_ws RX0 TX0 7, w ∈ wsX0_moveWeight := fun _ h => List.mem_cons_of_mem _ (List.mem_append_right _ h)
  have hP : va_P G vwCl (ck Z a (st, off, car, fa, wr, tr, ho, ra, ti)) s.heap := hP
  have hl := lv_entry ([.ref (a 0), .int k]) (n := 2) (Nat.le_of_ble_eq_true rfl)
  rw [lg_entry_eq]
  generalize (lg_sl ([.ref (a 0), .int k]) ++ List.replicate (2 - (lg_sl ([.ref (a 0), .int k])).length) Slot.unset).toArray = ls at hl ⊢
  have hl : lv_has ls 2 [(0, .ref (a 0)), (1, .int k)] := hl
  refine lv_aload_n hx hb dX0_moveWeight_0 rfl (lv_at hl 0 rfl) ?_
  refine lv_dup hx hb dX0_moveWeight_1 rfl ?_
  refine va_get (D := G) (ci := 0) (v := .int tr) (C := RX0) (T := TX0) (N := 7) hx hb hts iX0 hown hK hP 0 rfl rfl 3 (by decide) k_42 (fun _ h9 => h9) rfl dX0_moveWeight_2 ?_
  refine lv_iconst (v := 1) hx hb dX0_moveWeight_5 (by decide) ?_
  refine lv_iload_n hx hb dX0_moveWeight_6 rfl (lv_at hl 1 rfl) ?_
  refine lv_ishl hx hb dX0_moveWeight_7 ?_
  refine lv_ixor hx hb dX0_moveWeight_8 ?_
  refine va_put (D := G) (ci := 0) (v := .int (tr ^^^ (1 <<< (k &&& 31)))) (ty := .int) (C := RX0) (T := TX0) (N := 7) hx hb hts iX0 tyX0 tyX0_ok nmX0 hown hK hP hD hS 0 rfl rfl 3 (by decide) k_42 (fun _ h9 => h9) rfl (by decide +kernel) rfl rfl (Nat.le_of_ble_eq_true rfl) dX0_moveWeight_9 (fun H locs hP hD hS => ?_)
  have hP : va_P G vwCl (ck Z a (st, off, car, fa, wr, (tr ^^^ (1 <<< (k &&& 31))), ho, ra, ti)) H := hP
  have hD : va_D A (ck Z a (st, off, car, fa, wr, (tr ^^^ (1 <<< (k &&& 31))), ho, ra, ti)) := hD
  refine lv_aload_n hx hb dX0_moveWeight_12 rfl (lv_at hl 0 rfl) ?_
  refine va_get (D := G) (ci := 0) (v := .int (tr ^^^ (1 <<< (k &&& 31)))) (C := RX0) (T := TX0) (N := 7) hx hb hts iX0 hown hK hP 0 rfl rfl 3 (by decide) k_42 (fun _ h9 => h9) rfl dX0_moveWeight_13 ?_
  refine lv_iload_n hx hb dX0_moveWeight_16 rfl (lv_at hl 1 rfl) ?_
  refine lv_ishr hx hb dX0_moveWeight_17 ?_
  refine lv_iconst (v := 1) hx hb dX0_moveWeight_18 (by decide) ?_
  refine lv_iand hx hb dX0_moveWeight_19 ?_
  exact W.iret hx hb hr (zEi () (by
      rfl) hP hD hS) hS.2.2 dX0_moveWeight_20

set_option maxHeartbeats 4000000 in
set_option maxRecDepth 100000 in
theorem m_X0_bareRateIn (l : Launch) (G : va_G) (Z : Nat → ClassId) (sz : Nat) (a : Nat → Nat) (st : Nat → Int32) (off : Int32) (car : Int32) (fa : Nat → Int32) (wr : Int32) (tr : Int32) (ho : Int32) (ra : Int32) (ti : Int32) (ht : Int32) (ar : Int32)  : Met l yX0_bareRateIn wsX0_bareRateIn ({ frames := 1, cells := 0, slots := 0, locals := 21 }) (va_Pc [.ref (a 0), .int ht, .int ar] (zWP G Z sz (ck Z a (st, off, car, fa, wr, tr, ho, ra, ti)))) (va_Qi (fun (r : Int32) (u : Unit) => r = cBare st ht ar) (fun (u : Unit) t => zB G (va_A (ck Z a (st, off, car, fa, wr, tr, ho, ra, ti)) sz) (ck Z a (st, off, car, fa, wr, tr, ho, ra, ti)) t) (va_A (ck Z a (st, off, car, fa, wr, tr, ho, ra, ti)) sz)) 0 0 (va_A (ck Z a (st, off, car, fa, wr, tr, ho, ra, ti)) sz) := by
  refine Met.ofW (cc := cX0_bareRateIn) (maxL := 3) (ret := (some .int)) (by decide) rfl ?_
  intro p e s m args below meth c s₁ B hml hv
  have hx := B.exec
  have hb := B.bytes
  have hr := B.returns
  have hts := atoms_spec (ws := wsX0_bareRateIn) B.pre
  have hown : s.vm.findClass RX0 = some m.cls := findClass_of_methodNamed B.named
  have hlocks := B.notSynchronized
  obtain ⟨rfl, hsz, hP, hK, hD, hA, hS, hSW⟩ := zEnter hv
  subst hsz
  generalize va_A (ck Z a (st, off, car, fa, wr, tr, ho, ra, ti)) s.heap.size = A at hD hA hS hSW ⊢
  have hP : va_P G vwCl (ck Z a (st, off, car, fa, wr, tr, ho, ra, ti)) s.heap := hP
  have hl := lv_entry ([.ref (a 0), .int ht, .int ar]) (n := 3) (Nat.le_of_ble_eq_true rfl)
  rw [lg_entry_eq]
  generalize (lg_sl ([.ref (a 0), .int ht, .int ar]) ++ List.replicate (3 - (lg_sl ([.ref (a 0), .int ht, .int ar])).length) Slot.unset).toArray = ls at hl ⊢
  have hl : lv_has ls 3 [(0, .ref (a 0)), (1, .int ht), (2, .int ar)] := hl
  refine lv_aload_n hx hb dX0_bareRateIn_0 rfl (lv_at hl 0 rfl) ?_
  refine lv_iconst (v := 2) hx hb dX0_bareRateIn_1 (by decide) ?_
  refine zCi (S := Unit) (ws1 := fun u => ck Z a (st, off, car, fa, wr, tr, ho, ra, ti)) (wr := []) (va_runV (As := [.int 2]) (rest := []) ⟨hx, hb, hml, hown, hts⟩ (m_X0_setting l G Z _ a st off car fa wr tr ho ra ti 2) (cwV 1 hts gX0_bareRateIn_X0_setting rfl rfl rfl (by decide +kernel) ⟨Nat.le_of_ble_eq_true rfl, Nat.le_of_ble_eq_true rfl⟩) (zPreV hK hP hD hS hA hSW [0, 1, 2, 3, 4] rfl (by decide) 0 (ci := 0) rfl rfl rfl) rfl rfl hl.1 rfl (lv_room (Nat.le_of_ble_eq_true rfl)) dX0_bareRateIn_2 ⟨Nat.le_of_ble_eq_true rfl, Nat.le_of_ble_eq_true rfl⟩) hP hD hS hA [0, 1, 2, 3, 4] [] [0, 1, 2, 3, 4] rfl rfl (by decide) (by decide) (by decide) (fun _ => rfl) (fun r2 u H locs hw2 hP hD hS => ?_)
  try dsimp only at hw2
  subst hw2
  have hP : va_P G vwCl (ck Z a (st, off, car, fa, wr, tr, ho, ra, ti)) H := hP
  have hD : va_D A (ck Z a (st, off, car, fa, wr, tr, ho, ra, ti)) := hD
  refine lv_aload_n hx hb dX0_bareRateIn_5 rfl (lv_at hl 0 rfl) ?_
  refine lv_iconst (v := 0) hx hb dX0_bareRateIn_6 (by decide) ?_
  refine zCi (S := Unit) (ws1 := fun u => ck Z a (st, off, car, fa, wr, tr, ho, ra, ti)) (wr := []) (va_runV (As := [.int 0]) (rest := [.int (cSet st 2)]) ⟨hx, hb, hml, hown, hts⟩ (m_X0_setting l G Z _ a st off car fa wr tr ho ra ti 0) (cwV 1 hts gX0_bareRateIn_X0_setting rfl rfl rfl (by decide +kernel) ⟨Nat.le_of_ble_eq_true rfl, Nat.le_of_ble_eq_true rfl⟩) (zPreV hK hP hD hS hA hSW [0, 1, 2, 3, 4] rfl (by decide) 0 (ci := 0) rfl rfl rfl) rfl rfl hl.1 rfl (lv_room (Nat.le_of_ble_eq_true rfl)) dX0_bareRateIn_7 ⟨Nat.le_of_ble_eq_true rfl, Nat.le_of_ble_eq_true rfl⟩) hP hD hS hA [0, 1, 2, 3, 4] [] [0, 1, 2, 3, 4] rfl rfl (by decide) (by decide) (by decide) (fun _ => rfl) (fun r7 u H locs hw7 hP hD hS => ?_)
  try dsimp only at hw7
  subst hw7
  have hP : va_P G vwCl (ck Z a (st, off, car, fa, wr, tr, ho, ra, ti)) H := hP
  have hD : va_D A (ck Z a (st, off, car, fa, wr, tr, ho, ra, ti)) := hD
  refine lv_iload_n hx hb dX0_bareRateIn_10 rfl (lv_at hl 1 rfl) ?_
  refine lv_bipush (v := 20) hx hb dX0_bareRateIn_11 (by decide) ?_
  refine lv_isub hx hb dX0_bareRateIn_13 ?_
  refine lv_imul hx hb dX0_bareRateIn_14 ?_
  refine lv_isub hx hb dX0_bareRateIn_15 ?_
  refine lv_aload_n hx hb dX0_bareRateIn_16 rfl (lv_at hl 0 rfl) ?_
  refine lv_iconst (v := 1) hx hb dX0_bareRateIn_17 (by decide) ?_
  refine zCi (S := Unit) (ws1 := fun u => ck Z a (st, off, car, fa, wr, tr, ho, ra, ti)) (wr := []) (va_runV (As := [.int 1]) (rest := [.int ((cSet st 2) - ((cSet st 0) * (ht - 20)))]) ⟨hx, hb, hml, hown, hts⟩ (m_X0_setting l G Z _ a st off car fa wr tr ho ra ti 1) (cwV 1 hts gX0_bareRateIn_X0_setting rfl rfl rfl (by decide +kernel) ⟨Nat.le_of_ble_eq_true rfl, Nat.le_of_ble_eq_true rfl⟩) (zPreV hK hP hD hS hA hSW [0, 1, 2, 3, 4] rfl (by decide) 0 (ci := 0) rfl rfl rfl) rfl rfl hl.1 rfl (lv_room (Nat.le_of_ble_eq_true rfl)) dX0_bareRateIn_18 ⟨Nat.le_of_ble_eq_true rfl, Nat.le_of_ble_eq_true rfl⟩) hP hD hS hA [0, 1, 2, 3, 4] [] [0, 1, 2, 3, 4] rfl rfl (by decide) (by decide) (by decide) (fun _ => rfl) (fun r18 u H locs hw18 hP hD hS => ?_)
  try dsimp only at hw18
  subst hw18
  have hP : va_P G vwCl (ck Z a (st, off, car, fa, wr, tr, ho, ra, ti)) H := hP
  have hD : va_D A (ck Z a (st, off, car, fa, wr, tr, ho, ra, ti)) := hD
  refine lv_iload_n hx hb dX0_bareRateIn_21 rfl (lv_at hl 2 rfl) ?_
  refine lv_sipush (v := 1000) hx hb dX0_bareRateIn_22 (by decide) ?_
  refine lv_isub hx hb dX0_bareRateIn_25 ?_
  refine lv_imul hx hb dX0_bareRateIn_26 ?_
  refine lv_bipush (v := 10) hx hb dX0_bareRateIn_27 (by decide) ?_
  refine lv_idiv hx hb dX0_bareRateIn_29 (by decide) ?_
  refine lv_isub hx hb dX0_bareRateIn_30 ?_
  exact W.iret hx hb hr (zEi () (by
      rfl) hP hD hS) hS.2.2 dX0_bareRateIn_31

set_option maxHeartbeats 4000000 in
set_option maxRecDepth 100000 in
theorem m_X0_rateIn (l : Launch) (G : va_G) (Z : Nat → ClassId) (sz : Nat) (a : Nat → Nat) (st : Nat → Int32) (off : Int32) (car : Int32) (fa : Nat → Int32) (wr : Int32) (tr : Int32) (ho : Int32) (ra : Int32) (ti : Int32) (ht : Int32) (ar : Int32)  : Met l yX0_rateIn wsX0_rateIn ({ frames := 2, cells := 0, slots := 0, locals := 43 }) (va_Pc [.ref (a 0), .int ht, .int ar] (zWP G Z sz (ck Z a (st, off, car, fa, wr, tr, ho, ra, ti)))) (va_Qi (fun (r : Int32) (u : Unit) => r = cBare st ht ar + tr) (fun (u : Unit) t => zB G (va_A (ck Z a (st, off, car, fa, wr, tr, ho, ra, ti)) sz) (ck Z a (st, off, car, fa, wr, tr, ho, ra, ti)) t) (va_A (ck Z a (st, off, car, fa, wr, tr, ho, ra, ti)) sz)) 0 0 (va_A (ck Z a (st, off, car, fa, wr, tr, ho, ra, ti)) sz) := by
  refine Met.ofW (cc := cX0_rateIn) (maxL := 3) (ret := (some .int)) (by decide) rfl ?_
  intro p e s m args below meth c s₁ B hml hv
  have hx := B.exec
  have hb := B.bytes
  have hr := B.returns
  have hts := atoms_spec (ws := wsX0_rateIn) B.pre
  have hown : s.vm.findClass RX0 = some m.cls := findClass_of_methodNamed B.named
  have hlocks := B.notSynchronized
  obtain ⟨rfl, hsz, hP, hK, hD, hA, hS, hSW⟩ := zEnter hv
  subst hsz
  generalize va_A (ck Z a (st, off, car, fa, wr, tr, ho, ra, ti)) s.heap.size = A at hD hA hS hSW ⊢
  have k_42 := hts (.fieldLink RX0 42 "WarmRods$Clock" "tray" "I") (List.mem_of_getElem? (i := 1) rfl)
  have iX0 : ∀ w ∈ u_ws RX0 TX0 7, w ∈ wsX0_rateIn := fun _ h => List.mem_cons_of_mem _ (List.mem_append_right _ h)
  have hP : va_P G vwCl (ck Z a (st, off, car, fa, wr, tr, ho, ra, ti)) s.heap := hP
  have hl := lv_entry ([.ref (a 0), .int ht, .int ar]) (n := 3) (Nat.le_of_ble_eq_true rfl)
  rw [lg_entry_eq]
  generalize (lg_sl ([.ref (a 0), .int ht, .int ar]) ++ List.replicate (3 - (lg_sl ([.ref (a 0), .int ht, .int ar])).length) Slot.unset).toArray = ls at hl ⊢
  have hl : lv_has ls 3 [(0, .ref (a 0)), (1, .int ht), (2, .int ar)] := hl
  refine lv_aload_n hx hb dX0_rateIn_0 rfl (lv_at hl 0 rfl) ?_
  refine lv_iload_n hx hb dX0_rateIn_1 rfl (lv_at hl 1 rfl) ?_
  refine lv_iload_n hx hb dX0_rateIn_2 rfl (lv_at hl 2 rfl) ?_
  refine zCi (S := Unit) (ws1 := fun u => ck Z a (st, off, car, fa, wr, tr, ho, ra, ti)) (wr := []) (va_runV (As := [.int ht, .int ar]) (rest := []) ⟨hx, hb, hml, hown, hts⟩ (m_X0_bareRateIn l G Z _ a st off car fa wr tr ho ra ti ht ar) (cwV 2 hts gX0_rateIn_X0_bareRateIn rfl rfl rfl (by decide +kernel) ⟨Nat.le_of_ble_eq_true rfl, Nat.le_of_ble_eq_true rfl⟩) (zPreV hK hP hD hS hA hSW [0, 1, 2, 3, 4] rfl (by decide) 0 (ci := 0) rfl rfl rfl) rfl rfl hl.1 rfl (lv_room (Nat.le_of_ble_eq_true rfl)) dX0_rateIn_3 ⟨Nat.le_of_ble_eq_true rfl, Nat.le_of_ble_eq_true rfl⟩) hP hD hS hA [0, 1, 2, 3, 4] [] [0, 1, 2, 3, 4] rfl rfl (by decide) (by decide) (by decide) (fun _ => rfl) (fun r3 u H locs hw3 hP hD hS => ?_)
  try dsimp only at hw3
  subst hw3
  have hP : va_P G vwCl (ck Z a (st, off, car, fa, wr, tr, ho, ra, ti)) H := hP
  have hD : va_D A (ck Z a (st, off, car, fa, wr, tr, ho, ra, ti)) := hD
  refine lv_aload_n hx hb dX0_rateIn_6 rfl (lv_at hl 0 rfl) ?_
  refine va_get (D := G) (ci := 0) (v := .int tr) (C := RX0) (T := TX0) (N := 7) hx hb hts iX0 hown hK hP 0 rfl rfl 3 (by decide) k_42 (fun _ h9 => h9) rfl dX0_rateIn_7 ?_
  refine lv_iadd hx hb dX0_rateIn_10 ?_
  exact W.iret hx hb hr (zEi () (by
      rfl) hP hD hS) hS.2.2 dX0_rateIn_11

set_option maxHeartbeats 4000000 in
set_option maxRecDepth 100000 in
theorem m_X0_errorOfHours (l : Launch) (G : va_G) (Z : Nat → ClassId) (sz : Nat) (a : Nat → Nat) (st : Nat → Int32) (off : Int32) (car : Int32) (fa : Nat → Int32) (wr : Int32) (tr : Int32) (ho : Int32) (ra : Int32) (ti : Int32) (ht : Int32) (ar : Int32) (rd : Int32) (mo : Int32)  : Met l yX0_errorOfHours wsX0_errorOfHours ({ frames := 1, cells := 0, slots := 0, locals := 20 }) (va_Pc [.ref (a 0), .int ht, .int ar, .int rd, .int mo] (zWP G Z sz (ck Z a (st, off, car, fa, wr, tr, ho, ra, ti)))) (va_Qi (fun (r : Int32) (u : Unit) => r = cErrH ho ht ar rd mo) (fun (u : Unit) t => zB G (va_A (ck Z a (st, off, car, fa, wr, tr, ho, ra, ti)) sz) (ck Z a (st, off, car, fa, wr, tr, ho, ra, ti)) t) (va_A (ck Z a (st, off, car, fa, wr, tr, ho, ra, ti)) sz)) 0 0 (va_A (ck Z a (st, off, car, fa, wr, tr, ho, ra, ti)) sz) := by
  refine Met.ofW (cc := cX0_errorOfHours) (maxL := 5) (ret := (some .int)) (by decide) rfl ?_
  intro p e s m args below meth c s₁ B hml hv
  have hx := B.exec
  have hb := B.bytes
  have hr := B.returns
  have hts := atoms_spec (ws := wsX0_errorOfHours) B.pre
  have hown : s.vm.findClass RX0 = some m.cls := findClass_of_methodNamed B.named
  have hlocks := B.notSynchronized
  obtain ⟨rfl, hsz, hP, hK, hD, hA, hS, hSW⟩ := zEnter hv
  subst hsz
  generalize va_A (ck Z a (st, off, car, fa, wr, tr, ho, ra, ti)) s.heap.size = A at hD hA hS hSW ⊢
  have kini_X7_isHeat := hts (.initialized RX7) (List.mem_of_getElem? (i := 3) rfl)
  have ksta_X7_isHeat := hts (.static yX7_isHeat) (List.mem_of_getElem? (i := 2) rfl)
  have kini_X7_isAir := hts (.initialized RX7) (List.mem_of_getElem? (i := 3) rfl)
  have ksta_X7_isAir := hts (.static yX7_isAir) (List.mem_of_getElem? (i := 5) rfl)
  have k_46 := hts (.fieldLink RX0 46 "WarmRods$Clock" "hours" "I") (List.mem_of_getElem? (i := 1) rfl)
  have iX0 : ∀ w ∈ u_ws RX0 TX0 7, w ∈ wsX0_errorOfHours := fun _ h => List.mem_cons_of_mem _ (List.mem_append_right _ h)
  have hP : va_P G vwCl (ck Z a (st, off, car, fa, wr, tr, ho, ra, ti)) s.heap := hP
  have hl := lv_entry ([.ref (a 0), .int ht, .int ar, .int rd, .int mo]) (n := 5) (Nat.le_of_ble_eq_true rfl)
  rw [lg_entry_eq]
  generalize (lg_sl ([.ref (a 0), .int ht, .int ar, .int rd, .int mo]) ++ List.replicate (5 - (lg_sl ([.ref (a 0), .int ht, .int ar, .int rd, .int mo])).length) Slot.unset).toArray = ls at hl ⊢
  have hl : lv_has ls 5 [(0, .ref (a 0)), (1, .int ht), (2, .int ar), (3, .int rd), (4, .int mo)] := hl
  refine lv_iload_n hx hb dX0_errorOfHours_0 rfl (lv_at hl 1 rfl) ?_
  refine zCi (S := Unit) (ws1 := fun u => ck Z a (st, off, car, fa, wr, tr, ho, ra, ti)) (wr := ck Z a (st, off, car, fa, wr, tr, ho, ra, ti)) (va_runSN (As := [.int ht]) (rest := []) ⟨hx, hb, hml, hown, hts⟩ (m_X7_isHeat l G Z _ ht) (⟨va_cnB 1 hts ggX0_errorOfHours_X7_isHeat rfl rfl rfl (hSW.1.1 (.methodLinkNest RX0 69 yX7_isHeat "WarmRods") (List.mem_of_getElem? (i := 20) rfl)) kini_X7_isHeat (by decide +kernel) ⟨Nat.le_of_ble_eq_true rfl, Nat.le_of_ble_eq_true rfl⟩, ksta_X7_isHeat, trivial⟩) (zPreS hK hP hD hS hA hSW [] rfl (by decide)) rfl rfl hl.1 rfl (lv_room (Nat.le_of_ble_eq_true rfl)) dX0_errorOfHours_1 ⟨Nat.le_of_ble_eq_true rfl, Nat.le_of_ble_eq_true rfl⟩) hP hD hS hA [] [0, 1, 2, 3, 4] [0, 1, 2, 3, 4] rfl rfl (by decide) (by decide) (by decide) (fun _ => rfl) (fun r1 u H locs hw1 hP hD hS => ?_)
  try dsimp only at hw1
  subst hw1
  have hP : va_P G vwCl (ck Z a (st, off, car, fa, wr, tr, ho, ra, ti)) H := hP
  have hD : va_D A (ck Z a (st, off, car, fa, wr, tr, ho, ra, ti)) := hD
  refine lv_if_eq (tgt := 23) hx hb dX0_errorOfHours_4 (by decide) (fun c4 => ?_) (fun c4 => ?_)
  · refine lv_bipush (v := (-2)) hx hb dX0_errorOfHours_23 (by decide) ?_
    exact W.iret hx hb hr (zEi () (by
        simp only [cErrH, eq_true c4, ↓reduceIte]) hP hD hS) hS.2.2 dX0_errorOfHours_25
  · refine lv_iload_n hx hb dX0_errorOfHours_7 rfl (lv_at hl 2 rfl) ?_
    refine zCi (S := Unit) (ws1 := fun u => ck Z a (st, off, car, fa, wr, tr, ho, ra, ti)) (wr := ck Z a (st, off, car, fa, wr, tr, ho, ra, ti)) (va_runSN (As := [.int ar]) (rest := []) ⟨hx, hb, hml, hown, hts⟩ (m_X7_isAir l G Z _ ar) (⟨va_cnB 1 hts ggX0_errorOfHours_X7_isAir rfl rfl rfl (hSW.1.1 (.methodLinkNest RX0 73 yX7_isAir "WarmRods") (List.mem_of_getElem? (i := 21) rfl)) kini_X7_isAir (by decide +kernel) ⟨Nat.le_of_ble_eq_true rfl, Nat.le_of_ble_eq_true rfl⟩, ksta_X7_isAir, trivial⟩) (zPreS hK hP hD hS hA hSW [] rfl (by decide)) rfl rfl hl.1 rfl (lv_room (Nat.le_of_ble_eq_true rfl)) dX0_errorOfHours_8 ⟨Nat.le_of_ble_eq_true rfl, Nat.le_of_ble_eq_true rfl⟩) hP hD hS hA [] [0, 1, 2, 3, 4] [0, 1, 2, 3, 4] rfl rfl (by decide) (by decide) (by decide) (fun _ => rfl) (fun r8 u H locs hw8 hP hD hS => ?_)
    try dsimp only at hw8
    subst hw8
    have hP : va_P G vwCl (ck Z a (st, off, car, fa, wr, tr, ho, ra, ti)) H := hP
    have hD : va_D A (ck Z a (st, off, car, fa, wr, tr, ho, ra, ti)) := hD
    refine lv_if_eq (tgt := 23) hx hb dX0_errorOfHours_11 (by decide) (fun c11 => ?_) (fun c11 => ?_)
    · refine lv_bipush (v := (-2)) hx hb dX0_errorOfHours_23 (by decide) ?_
      exact W.iret hx hb hr (zEi () (by
          simp only [cErrH, c4, eq_true c11, ↓reduceIte]) hP hD hS) hS.2.2 dX0_errorOfHours_25
    · refine lv_iload_n hx hb dX0_errorOfHours_14 rfl (lv_at hl 3 rfl) ?_
      refine lv_if_lt (tgt := 23) hx hb dX0_errorOfHours_15 (by decide) (fun c15 => ?_) (fun c15 => ?_)
      · refine lv_bipush (v := (-2)) hx hb dX0_errorOfHours_23 (by decide) ?_
        exact W.iret hx hb hr (zEi () (by
            simp only [cErrH, c4, c11, c15, Int32.not_le.mpr c15, ↓reduceIte]) hP hD hS) hS.2.2 dX0_errorOfHours_25
      · refine lv_iload_n hx hb dX0_errorOfHours_18 rfl (lv_at hl 3 rfl) ?_
        refine lv_iconst (v := 1) hx hb dX0_errorOfHours_19 (by decide) ?_
        refine lv_icmp_le (tgt := 26) hx hb dX0_errorOfHours_20 (by decide) (fun c20 => ?_) (fun c20 => ?_)
        · refine lv_iload hx hb dX0_errorOfHours_26 (lv_at hl 4 rfl) ?_
          refine lv_iconst (v := 1) hx hb dX0_errorOfHours_28 (by decide) ?_
          refine lv_icmp_lt (tgt := 39) hx hb dX0_errorOfHours_29 (by decide) (fun c29 => ?_) (fun c29 => ?_)
          · refine lv_bipush (v := (-2)) hx hb dX0_errorOfHours_39 (by decide) ?_
            exact W.iret hx hb hr (zEi () (by
                simp only [cErrH, c4, c11, c15, Int32.not_lt.mp c15, c20, Int32.not_lt.mpr c20, c29, Int32.not_le.mpr c29, ↓reduceIte]) hP hD hS) hS.2.2 dX0_errorOfHours_41
          · refine lv_iload hx hb dX0_errorOfHours_32 (lv_at hl 4 rfl) ?_
            refine lv_bipush (v := 99) hx hb dX0_errorOfHours_34 (by decide) ?_
            refine lv_icmp_le (tgt := 42) hx hb dX0_errorOfHours_36 (by decide) (fun c36 => ?_) (fun c36 => ?_)
            · refine lv_aload_n hx hb dX0_errorOfHours_42 rfl (lv_at hl 0 rfl) ?_
              refine va_get (D := G) (ci := 0) (v := .int ho) (C := RX0) (T := TX0) (N := 7) hx hb hts iX0 hown hK hP 0 rfl rfl 4 (by decide) k_46 (fun _ h9 => h9) rfl dX0_errorOfHours_43 ?_
              refine lv_iload hx hb dX0_errorOfHours_46 (lv_at hl 4 rfl) ?_
              refine lv_iadd hx hb dX0_errorOfHours_48 ?_
              refine lv_sipush (v := 9999) hx hb dX0_errorOfHours_49 (by decide) ?_
              refine lv_icmp_le (tgt := 60) hx hb dX0_errorOfHours_52 (by decide) (fun c52 => ?_) (fun c52 => ?_)
              · refine lv_iconst (v := 0) hx hb dX0_errorOfHours_60 (by decide) ?_
                exact W.iret hx hb hr (zEi () (by
                    simp only [cErrH, c4, c11, c15, Int32.not_lt.mp c15, c20, Int32.not_lt.mpr c20, c29, Int32.not_lt.mp c29, c36, Int32.not_lt.mpr c36, c52, Int32.not_lt.mpr c52, ↓reduceIte]) hP hD hS) hS.2.2 dX0_errorOfHours_61
              · refine lv_bipush (v := (-5)) hx hb dX0_errorOfHours_55 (by decide) ?_
                refine lv_goto (tgt := 61) hx hb dX0_errorOfHours_57 (by decide) ?_
                exact W.iret hx hb hr (zEi () (by
                    simp only [cErrH, c4, c11, c15, Int32.not_lt.mp c15, c20, Int32.not_lt.mpr c20, c29, Int32.not_lt.mp c29, c36, Int32.not_lt.mpr c36, c52, Int32.not_le.mp c52, ↓reduceIte]) hP hD hS) hS.2.2 dX0_errorOfHours_61
            · refine lv_bipush (v := (-2)) hx hb dX0_errorOfHours_39 (by decide) ?_
              exact W.iret hx hb hr (zEi () (by
                  simp only [cErrH, c4, c11, c15, Int32.not_lt.mp c15, c20, Int32.not_lt.mpr c20, c29, Int32.not_lt.mp c29, c36, Int32.not_le.mp c36, ↓reduceIte]) hP hD hS) hS.2.2 dX0_errorOfHours_41
        · refine lv_bipush (v := (-2)) hx hb dX0_errorOfHours_23 (by decide) ?_
          exact W.iret hx hb hr (zEi () (by
              simp only [cErrH, c4, c11, c15, Int32.not_lt.mp c15, c20, Int32.not_le.mp c20, ↓reduceIte]) hP hD hS) hS.2.2 dX0_errorOfHours_25

set_option maxHeartbeats 4000000 in
set_option maxRecDepth 100000 in
theorem m_X0_correct (l : Launch) (G : va_G) (Z : Nat → ClassId) (sz : Nat) (a : Nat → Nat) (st : Nat → Int32) (off : Int32) (car : Int32) (fa : Nat → Int32) (wr : Int32) (tr : Int32) (ho : Int32) (ra : Int32) (ti : Int32)  : Met l yX0_correct wsX0_correct ({ frames := 1, cells := 0, slots := 0, locals := 20 }) (va_Pc [.ref (a 0)] (zWP G Z sz (ck Z a (st, off, car, fa, wr, tr, ho, ra, ti)))) (va_Qv (fun (u : Int32) => u = cCorT off tr) (fun (u : Int32) t => zB G (va_A (ck Z a (st, off, car, fa, wr, tr, ho, ra, ti)) sz) (ck Z a (st, 0, 0, fa, wr, u, ho, ra, (ti + 1))) t) (va_A (ck Z a (st, off, car, fa, wr, tr, ho, ra, ti)) sz)) 0 0 (va_A (ck Z a (st, off, car, fa, wr, tr, ho, ra, ti)) sz) := by
  refine Met.ofW (cc := cX0_correct) (maxL := 1) (ret := none) (by decide) rfl ?_
  intro p e s m args below meth c s₁ B hml hv
  have hx := B.exec
  have hb := B.bytes
  have hr := B.returns
  have hts := atoms_spec (ws := wsX0_correct) B.pre
  have hown : s.vm.findClass RX0 = some m.cls := findClass_of_methodNamed B.named
  have hlocks := B.notSynchronized
  obtain ⟨rfl, hsz, hP, hK, hD, hA, hS, hSW⟩ := zEnter hv
  subst hsz
  generalize va_A (ck Z a (st, off, car, fa, wr, tr, ho, ra, ti)) s.heap.size = A at hD hA hS hSW ⊢
  have k_18 := hts (.fieldLink RX0 18 "WarmRods$Clock" "drift" "LWarmRods$Drift;") (List.mem_of_getElem? (i := 1) rfl)
  have iX0 : ∀ w ∈ u_ws RX0 TX0 7, w ∈ wsX0_correct := fun _ h => List.mem_cons_of_mem _ (List.mem_append_left _ (List.mem_append_right _ h))
  have k_97 := hts (.fieldLink RX0 97 "WarmRods$Drift" "off" "I") (List.mem_of_getElem? (i := 2) rfl)
  have iX1 : ∀ w ∈ u_ws RX1 TX1 2, w ∈ wsX0_correct := fun _ h => List.mem_cons_of_mem _ (List.mem_append_right _ h)
  have k_42 := hts (.fieldLink RX0 42 "WarmRods$Clock" "tray" "I") (List.mem_of_getElem? (i := 3) rfl)
  have k_52 := hts (.fieldLink RX0 52 "WarmRods$Clock" "timesSet" "I") (List.mem_of_getElem? (i := 4) rfl)
  have hP : va_P G vwCl (ck Z a (st, off, car, fa, wr, tr, ho, ra, ti)) s.heap := hP
  have hl := lv_entry ([.ref (a 0)]) (n := 1) (Nat.le_of_ble_eq_true rfl)
  rw [lg_entry_eq]
  generalize (lg_sl ([.ref (a 0)]) ++ List.replicate (1 - (lg_sl ([.ref (a 0)])).length) Slot.unset).toArray = ls at hl ⊢
  have hl : lv_has ls 1 [(0, .ref (a 0))] := hl
  refine lv_aload_n hx hb dX0_correct_0 rfl (lv_at hl 0 rfl) ?_
  refine va_get (D := G) (ci := 0) (v := .ref (a 2)) (C := RX0) (T := TX0) (N := 7) hx hb hts iX0 hown hK hP 0 rfl rfl 1 (by decide) k_18 (fun _ h9 => h9) rfl dX0_correct_1 ?_
  refine va_get (D := G) (ci := 1) (v := .int off) (C := RX1) (T := TX1) (N := 2) hx hb hts iX1 hown hK hP 2 rfl rfl 0 (by decide) k_97 (fun _ h9 => h9) rfl dX0_correct_4 ?_
  refine lv_if_le (tgt := 28) hx hb dX0_correct_7 (by decide) (fun c7 => ?_) (fun c7 => ?_)
  · refine lv_aload_n hx hb dX0_correct_28 rfl (lv_at hl 0 rfl) ?_
    refine lv_aload_n hx hb dX0_correct_29 rfl (lv_at hl 0 rfl) ?_
    refine va_get (D := G) (ci := 0) (v := .int tr) (C := RX0) (T := TX0) (N := 7) hx hb hts iX0 hown hK hP 0 rfl rfl 3 (by decide) k_42 (fun _ h9 => h9) rfl dX0_correct_30 ?_
    refine lv_aload_n hx hb dX0_correct_33 rfl (lv_at hl 0 rfl) ?_
    refine va_get (D := G) (ci := 0) (v := .int tr) (C := RX0) (T := TX0) (N := 7) hx hb hts iX0 hown hK hP 0 rfl rfl 3 (by decide) k_42 (fun _ h9 => h9) rfl dX0_correct_34 ?_
    refine lv_iconst (v := 1) hx hb dX0_correct_37 (by decide) ?_
    refine lv_iadd hx hb dX0_correct_38 ?_
    refine lv_ior hx hb dX0_correct_39 ?_
    refine lv_sipush (v := 255) hx hb dX0_correct_40 (by decide) ?_
    refine lv_iand hx hb dX0_correct_43 ?_
    refine va_put (D := G) (ci := 0) (v := .int ((tr ||| (tr + 1)) &&& 255)) (ty := .int) (C := RX0) (T := TX0) (N := 7) hx hb hts iX0 tyX0 tyX0_ok nmX0 hown hK hP hD hS 0 rfl rfl 3 (by decide) k_42 (fun _ h9 => h9) rfl (by decide +kernel) rfl rfl (Nat.le_of_ble_eq_true rfl) dX0_correct_44 (fun H locs hP hD hS => ?_)
    have hP : va_P G vwCl (ck Z a (st, off, car, fa, wr, ((tr ||| (tr + 1)) &&& 255), ho, ra, ti)) H := hP
    have hD : va_D A (ck Z a (st, off, car, fa, wr, ((tr ||| (tr + 1)) &&& 255), ho, ra, ti)) := hD
    refine lv_aload_n hx hb dX0_correct_47 rfl (lv_at hl 0 rfl) ?_
    refine va_get (D := G) (ci := 0) (v := .ref (a 2)) (C := RX0) (T := TX0) (N := 7) hx hb hts iX0 hown hK hP 0 rfl rfl 1 (by decide) k_18 (fun _ h9 => h9) rfl dX0_correct_48 ?_
    refine zCv (S := Unit) (ws1 := fun u => ck Z a (st, 0, 0, fa, wr, ((tr ||| (tr + 1)) &&& 255), ho, ra, ti)) (wr := [((a 0), .inr (0, [.ref (a 1), .ref (a 2), .ref (a 3), .int ((tr ||| (tr + 1)) &&& 255), .int ho, .int ra, .int ti])), ((a 1), .inl (Z 0, 4, .inl st)), ((a 3), .inr (3, [.ref (a 4), .int wr])), ((a 4), .inl (Z 0, 336, .inl fa))]) (va_runV (As := []) (rest := []) ⟨hx, hb, hml, hown, hts⟩ (m_X1_clear l G Z _ (a 2) off car) (cwV 0 hts gX0_correct_X1_clear rfl rfl rfl (by decide +kernel) ⟨Nat.le_of_ble_eq_true rfl, Nat.le_of_ble_eq_true rfl⟩) (zPreV hK hP hD hS hA hSW [2] rfl (by decide) 2 (ci := 1) rfl rfl rfl) rfl rfl hl.1 rfl (lv_room (Nat.le_of_ble_eq_true rfl)) dX0_correct_51 ⟨Nat.le_of_ble_eq_true rfl, Nat.le_of_ble_eq_true rfl⟩) hP hD hS hA [2] [0, 1, 3, 4] [0, 1, 4, 2, 3] rfl rfl (by decide) (by decide) (by decide) (fun _ => rfl) (fun u H locs hw51 hP hD hS => ?_)
    try dsimp only at hw51
    have hP : va_P G vwCl (ck Z a (st, 0, 0, fa, wr, ((tr ||| (tr + 1)) &&& 255), ho, ra, ti)) H := hP
    have hD : va_D A (ck Z a (st, 0, 0, fa, wr, ((tr ||| (tr + 1)) &&& 255), ho, ra, ti)) := hD
    refine lv_aload_n hx hb dX0_correct_54 rfl (lv_at hl 0 rfl) ?_
    refine lv_dup hx hb dX0_correct_55 rfl ?_
    refine va_get (D := G) (ci := 0) (v := .int ti) (C := RX0) (T := TX0) (N := 7) hx hb hts iX0 hown hK hP 0 rfl rfl 6 (by decide) k_52 (fun _ h9 => h9) rfl dX0_correct_56 ?_
    refine lv_iconst (v := 1) hx hb dX0_correct_59 (by decide) ?_
    refine lv_iadd hx hb dX0_correct_60 ?_
    refine va_put (D := G) (ci := 0) (v := .int (ti + 1)) (ty := .int) (C := RX0) (T := TX0) (N := 7) hx hb hts iX0 tyX0 tyX0_ok nmX0 hown hK hP hD hS 0 rfl rfl 6 (by decide) k_52 (fun _ h9 => h9) rfl (by decide +kernel) rfl rfl (Nat.le_of_ble_eq_true rfl) dX0_correct_61 (fun H locs hP hD hS => ?_)
    have hP : va_P G vwCl (ck Z a (st, 0, 0, fa, wr, ((tr ||| (tr + 1)) &&& 255), ho, ra, (ti + 1))) H := hP
    have hD : va_D A (ck Z a (st, 0, 0, fa, wr, ((tr ||| (tr + 1)) &&& 255), ho, ra, (ti + 1))) := hD
    exact W.vret hx hb hr (zEv ((tr ||| (tr + 1)) &&& 255) (by
        simp only [cCorT, c7, Int32.not_lt.mpr c7, ↓reduceIte]) hP hD hS) hS.2.2 dX0_correct_64
  · refine lv_aload_n hx hb dX0_correct_10 rfl (lv_at hl 0 rfl) ?_
    refine lv_dup hx hb dX0_correct_11 rfl ?_
    refine va_get (D := G) (ci := 0) (v := .int tr) (C := RX0) (T := TX0) (N := 7) hx hb hts iX0 hown hK hP 0 rfl rfl 3 (by decide) k_42 (fun _ h9 => h9) rfl dX0_correct_12 ?_
    refine lv_aload_n hx hb dX0_correct_15 rfl (lv_at hl 0 rfl) ?_
    refine va_get (D := G) (ci := 0) (v := .int tr) (C := RX0) (T := TX0) (N := 7) hx hb hts iX0 hown hK hP 0 rfl rfl 3 (by decide) k_42 (fun _ h9 => h9) rfl dX0_correct_16 ?_
    refine lv_iconst (v := 1) hx hb dX0_correct_19 (by decide) ?_
    refine lv_isub hx hb dX0_correct_20 ?_
    refine lv_iand hx hb dX0_correct_21 ?_
    refine va_put (D := G) (ci := 0) (v := .int (tr &&& (tr - 1))) (ty := .int) (C := RX0) (T := TX0) (N := 7) hx hb hts iX0 tyX0 tyX0_ok nmX0 hown hK hP hD hS 0 rfl rfl 3 (by decide) k_42 (fun _ h9 => h9) rfl (by decide +kernel) rfl rfl (Nat.le_of_ble_eq_true rfl) dX0_correct_22 (fun H locs hP hD hS => ?_)
    have hP : va_P G vwCl (ck Z a (st, off, car, fa, wr, (tr &&& (tr - 1)), ho, ra, ti)) H := hP
    have hD : va_D A (ck Z a (st, off, car, fa, wr, (tr &&& (tr - 1)), ho, ra, ti)) := hD
    refine lv_goto (tgt := 47) hx hb dX0_correct_25 (by decide) ?_
    refine lv_aload_n hx hb dX0_correct_47 rfl (lv_at hl 0 rfl) ?_
    refine va_get (D := G) (ci := 0) (v := .ref (a 2)) (C := RX0) (T := TX0) (N := 7) hx hb hts iX0 hown hK hP 0 rfl rfl 1 (by decide) k_18 (fun _ h9 => h9) rfl dX0_correct_48 ?_
    refine zCv (S := Unit) (ws1 := fun u => ck Z a (st, 0, 0, fa, wr, (tr &&& (tr - 1)), ho, ra, ti)) (wr := [((a 0), .inr (0, [.ref (a 1), .ref (a 2), .ref (a 3), .int (tr &&& (tr - 1)), .int ho, .int ra, .int ti])), ((a 1), .inl (Z 0, 4, .inl st)), ((a 3), .inr (3, [.ref (a 4), .int wr])), ((a 4), .inl (Z 0, 336, .inl fa))]) (va_runV (As := []) (rest := []) ⟨hx, hb, hml, hown, hts⟩ (m_X1_clear l G Z _ (a 2) off car) (cwV 0 hts gX0_correct_X1_clear rfl rfl rfl (by decide +kernel) ⟨Nat.le_of_ble_eq_true rfl, Nat.le_of_ble_eq_true rfl⟩) (zPreV hK hP hD hS hA hSW [2] rfl (by decide) 2 (ci := 1) rfl rfl rfl) rfl rfl hl.1 rfl (lv_room (Nat.le_of_ble_eq_true rfl)) dX0_correct_51 ⟨Nat.le_of_ble_eq_true rfl, Nat.le_of_ble_eq_true rfl⟩) hP hD hS hA [2] [0, 1, 3, 4] [0, 1, 4, 2, 3] rfl rfl (by decide) (by decide) (by decide) (fun _ => rfl) (fun u H locs hw51_2 hP hD hS => ?_)
    try dsimp only at hw51_2
    have hP : va_P G vwCl (ck Z a (st, 0, 0, fa, wr, (tr &&& (tr - 1)), ho, ra, ti)) H := hP
    have hD : va_D A (ck Z a (st, 0, 0, fa, wr, (tr &&& (tr - 1)), ho, ra, ti)) := hD
    refine lv_aload_n hx hb dX0_correct_54 rfl (lv_at hl 0 rfl) ?_
    refine lv_dup hx hb dX0_correct_55 rfl ?_
    refine va_get (D := G) (ci := 0) (v := .int ti) (C := RX0) (T := TX0) (N := 7) hx hb hts iX0 hown hK hP 0 rfl rfl 6 (by decide) k_52 (fun _ h9 => h9) rfl dX0_correct_56 ?_
    refine lv_iconst (v := 1) hx hb dX0_correct_59 (by decide) ?_
    refine lv_iadd hx hb dX0_correct_60 ?_
    refine va_put (D := G) (ci := 0) (v := .int (ti + 1)) (ty := .int) (C := RX0) (T := TX0) (N := 7) hx hb hts iX0 tyX0 tyX0_ok nmX0 hown hK hP hD hS 0 rfl rfl 6 (by decide) k_52 (fun _ h9 => h9) rfl (by decide +kernel) rfl rfl (Nat.le_of_ble_eq_true rfl) dX0_correct_61 (fun H locs hP hD hS => ?_)
    have hP : va_P G vwCl (ck Z a (st, 0, 0, fa, wr, (tr &&& (tr - 1)), ho, ra, (ti + 1))) H := hP
    have hD : va_D A (ck Z a (st, 0, 0, fa, wr, (tr &&& (tr - 1)), ho, ra, (ti + 1))) := hD
    exact W.vret hx hb hr (zEv (tr &&& (tr - 1)) (by
        simp only [cCorT, c7, Int32.not_le.mp c7, ↓reduceIte]) hP hD hS) hS.2.2 dX0_correct_64

set_option maxHeartbeats 4000000 in
set_option maxRecDepth 100000 in
theorem m_X0_goHour (l : Launch) (G : va_G) (Z : Nat → ClassId) (sz : Nat) (a : Nat → Nat) (v : CV) (ht : Int32) (ar : Int32) (rd : Int32)  : Met l yX0_goHour wsX0_goHour ({ frames := 3, cells := 0, slots := 0, locals := 65 }) (va_Pc [.ref (a 0), .int ht, .int ar, .int rd] (zWP G Z sz (ck Z a v))) (va_Qv (fun (u : CV) => u = cGo v ht ar rd) (fun (u : CV) t => zB G (va_A (ck Z a v) sz) (ck Z a u) t) (va_A (ck Z a v) sz)) 0 0 (va_A (ck Z a v) sz) := by
  obtain ⟨st, off, car, fa, wr, tr, ho, ra, ti⟩ := v
  refine Met.ofW (cc := cX0_goHour) (maxL := 6) (ret := none) (by decide) rfl ?_
  intro p e s m args below meth c s₁ B hml hv
  have hx := B.exec
  have hb := B.bytes
  have hr := B.returns
  have hts := atoms_spec (ws := wsX0_goHour) B.pre
  have hown : s.vm.findClass RX0 = some m.cls := findClass_of_methodNamed B.named
  have hlocks := B.notSynchronized
  obtain ⟨rfl, hsz, hP, hK, hD, hA, hS, hSW⟩ := zEnter hv
  subst hsz
  generalize va_A (ck Z a (st, off, car, fa, wr, tr, ho, ra, ti)) s.heap.size = A at hD hA hS hSW ⊢
  have k_18 := hts (.fieldLink RX0 18 "WarmRods$Clock" "drift" "LWarmRods$Drift;") (List.mem_of_getElem? (i := 1) rfl)
  have iX0 : ∀ w ∈ u_ws RX0 TX0 7, w ∈ wsX0_goHour := fun _ h => List.mem_cons_of_mem _ (List.mem_append_left _ (List.mem_append_left _ (List.mem_append_right _ h)))
  have k_25 := hts (.fieldLink RX0 25 "WarmRods$Clock" "log" "LWarmRods$Log;") (List.mem_of_getElem? (i := 2) rfl)
  have k_97 := hts (.fieldLink RX0 97 "WarmRods$Drift" "off" "I") (List.mem_of_getElem? (i := 3) rfl)
  have iX1 : ∀ w ∈ u_ws RX1 TX1 2, w ∈ wsX0_goHour := fun _ h => List.mem_cons_of_mem _ (List.mem_append_left _ (List.mem_append_right _ h))
  have k_42 := hts (.fieldLink RX0 42 "WarmRods$Clock" "tray" "I") (List.mem_of_getElem? (i := 4) rfl)
  have k_46 := hts (.fieldLink RX0 46 "WarmRods$Clock" "hours" "I") (List.mem_of_getElem? (i := 5) rfl)
  have k_49 := hts (.fieldLink RX0 49 "WarmRods$Clock" "radioHours" "I") (List.mem_of_getElem? (i := 6) rfl)
  have hP : va_P G vwCl (ck Z a (st, off, car, fa, wr, tr, ho, ra, ti)) s.heap := hP
  have hl := lv_entry ([.ref (a 0), .int ht, .int ar, .int rd]) (n := 6) (Nat.le_of_ble_eq_true rfl)
  rw [lg_entry_eq]
  generalize (lg_sl ([.ref (a 0), .int ht, .int ar, .int rd]) ++ List.replicate (6 - (lg_sl ([.ref (a 0), .int ht, .int ar, .int rd])).length) Slot.unset).toArray = ls at hl ⊢
  have hl : lv_has ls 6 [(0, .ref (a 0)), (1, .int ht), (2, .int ar), (3, .int rd)] := hl
  refine lv_aload_n hx hb dX0_goHour_0 rfl (lv_at hl 0 rfl) ?_
  refine lv_iload_n hx hb dX0_goHour_1 rfl (lv_at hl 1 rfl) ?_
  refine lv_iload_n hx hb dX0_goHour_2 rfl (lv_at hl 2 rfl) ?_
  refine zCi (S := Unit) (ws1 := fun u => ck Z a (st, off, car, fa, wr, tr, ho, ra, ti)) (wr := []) (va_runV (As := [.int ht, .int ar]) (rest := []) ⟨hx, hb, hml, hown, hts⟩ (m_X0_rateIn l G Z _ a st off car fa wr tr ho ra ti ht ar) (cwV 2 hts gX0_goHour_X0_rateIn rfl rfl rfl (by decide +kernel) ⟨Nat.le_of_ble_eq_true rfl, Nat.le_of_ble_eq_true rfl⟩) (zPreV hK hP hD hS hA hSW [0, 1, 2, 3, 4] rfl (by decide) 0 (ci := 0) rfl rfl rfl) rfl rfl hl.1 rfl (lv_room (Nat.le_of_ble_eq_true rfl)) dX0_goHour_3 ⟨Nat.le_of_ble_eq_true rfl, Nat.le_of_ble_eq_true rfl⟩) hP hD hS hA [0, 1, 2, 3, 4] [] [0, 1, 2, 3, 4] rfl rfl (by decide) (by decide) (by decide) (fun _ => rfl) (fun r3 u H locs hw3 hP hD hS => ?_)
  try dsimp only at hw3
  subst hw3
  have hP : va_P G vwCl (ck Z a (st, off, car, fa, wr, tr, ho, ra, ti)) H := hP
  have hD : va_D A (ck Z a (st, off, car, fa, wr, tr, ho, ra, ti)) := hD
  refine lv_istore (lv' := [(4, .int (cBare st ht ar + tr)), (0, .ref (a 0)), (1, .int ht), (2, .int ar), (3, .int rd)]) hx hb dX0_goHour_6 hl (by decide) rfl (fun ls hl => ?_)
  refine lv_aload_n hx hb dX0_goHour_8 rfl (lv_at hl 1 rfl) ?_
  refine va_get (D := G) (ci := 0) (v := .ref (a 2)) (C := RX0) (T := TX0) (N := 7) hx hb hts iX0 hown hK hP 0 rfl rfl 1 (by decide) k_18 (fun _ h9 => h9) rfl dX0_goHour_9 ?_
  refine lv_iload hx hb dX0_goHour_12 (lv_at hl 0 rfl) ?_
  refine zCv (S := Unit) (ws1 := fun u => ck Z a (st, (dOff off car (cBare st ht ar + tr)), (dCar car (cBare st ht ar + tr)), fa, wr, tr, ho, ra, ti)) (wr := [((a 0), .inr (0, [.ref (a 1), .ref (a 2), .ref (a 3), .int tr, .int ho, .int ra, .int ti])), ((a 1), .inl (Z 0, 4, .inl st)), ((a 3), .inr (3, [.ref (a 4), .int wr])), ((a 4), .inl (Z 0, 336, .inl fa))]) (va_runV (As := [.int (cBare st ht ar + tr)]) (rest := []) ⟨hx, hb, hml, hown, hts⟩ (m_X1_addHour l G Z _ (a 2) off car (cBare st ht ar + tr)) (cwV 1 hts gX0_goHour_X1_addHour rfl rfl rfl (by decide +kernel) ⟨Nat.le_of_ble_eq_true rfl, Nat.le_of_ble_eq_true rfl⟩) (zPreV hK hP hD hS hA hSW [2] rfl (by decide) 2 (ci := 1) rfl rfl rfl) rfl rfl hl.1 rfl (lv_room (Nat.le_of_ble_eq_true rfl)) dX0_goHour_14 ⟨Nat.le_of_ble_eq_true rfl, Nat.le_of_ble_eq_true rfl⟩) hP hD hS hA [2] [0, 1, 3, 4] [0, 1, 4, 2, 3] rfl rfl (by decide) (by decide) (by decide) (fun _ => rfl) (fun u H locs hw14 hP hD hS => ?_)
  try dsimp only at hw14
  have hP : va_P G vwCl (ck Z a (st, (dOff off car (cBare st ht ar + tr)), (dCar car (cBare st ht ar + tr)), fa, wr, tr, ho, ra, ti)) H := hP
  have hD : va_D A (ck Z a (st, (dOff off car (cBare st ht ar + tr)), (dCar car (cBare st ht ar + tr)), fa, wr, tr, ho, ra, ti)) := hD
  refine lv_iload_n hx hb dX0_goHour_17 rfl (lv_at hl 4 rfl) ?_
  refine lv_iconst (v := 1) hx hb dX0_goHour_18 (by decide) ?_
  refine lv_icmp_ne (tgt := 41) hx hb dX0_goHour_19 (by decide) (fun c19 => ?_) (fun c19 => ?_)
  · refine lv_iconst (v := 0) hx hb dX0_goHour_41 (by decide) ?_
    refine lv_istore (lv' := [(5, .int 0), (4, .int (cBare st ht ar + tr)), (0, .ref (a 0)), (1, .int ht), (2, .int ar), (3, .int rd)]) hx hb dX0_goHour_42 hl (by decide) rfl (fun ls hl => ?_)
    refine lv_aload_n hx hb dX0_goHour_44 rfl (lv_at hl 2 rfl) ?_
    refine va_get (D := G) (ci := 0) (v := .ref (a 3)) (C := RX0) (T := TX0) (N := 7) hx hb hts iX0 hown hK hP 0 rfl rfl 2 (by decide) k_25 (fun _ h9 => h9) rfl dX0_goHour_45 ?_
    refine zCv (S := Unit) (ws1 := fun u => ck Z a (st, (dOff off car (cBare st ht ar + tr)), (dCar car (cBare st ht ar + tr)), fa, (wr + 1), tr, ho, ra, ti)) (wr := [((a 0), .inr (0, [.ref (a 1), .ref (a 2), .ref (a 3), .int tr, .int ho, .int ra, .int ti])), ((a 1), .inl (Z 0, 4, .inl st)), ((a 2), .inr (1, [.int (dOff off car (cBare st ht ar + tr)), .int (dCar car (cBare st ht ar + tr))]))]) (va_runV (As := []) (rest := []) ⟨hx, hb, hml, hown, hts⟩ (m_X3_open l G Z _ (a 3) (a 4) fa wr) (cwV 0 hts gX0_goHour_X3_open rfl rfl rfl (by decide +kernel) ⟨Nat.le_of_ble_eq_true rfl, Nat.le_of_ble_eq_true rfl⟩) (zPreV hK hP hD hS hA hSW [3, 4] rfl (by decide) 3 (ci := 3) rfl rfl rfl) rfl rfl hl.1 rfl (lv_room (Nat.le_of_ble_eq_true rfl)) dX0_goHour_48 ⟨Nat.le_of_ble_eq_true rfl, Nat.le_of_ble_eq_true rfl⟩) hP hD hS hA [3, 4] [0, 1, 2] [0, 1, 2, 3, 4] rfl rfl (by decide) (by decide) (by decide) (fun _ => rfl) (fun u H locs hw48 hP hD hS => ?_)
    try dsimp only at hw48
    have hP : va_P G vwCl (ck Z a (st, (dOff off car (cBare st ht ar + tr)), (dCar car (cBare st ht ar + tr)), fa, (wr + 1), tr, ho, ra, ti)) H := hP
    have hD : va_D A (ck Z a (st, (dOff off car (cBare st ht ar + tr)), (dCar car (cBare st ht ar + tr)), fa, (wr + 1), tr, ho, ra, ti)) := hD
    refine lv_aload_n hx hb dX0_goHour_51 rfl (lv_at hl 2 rfl) ?_
    refine va_get (D := G) (ci := 0) (v := .ref (a 3)) (C := RX0) (T := TX0) (N := 7) hx hb hts iX0 hown hK hP 0 rfl rfl 2 (by decide) k_25 (fun _ h9 => h9) rfl dX0_goHour_52 ?_
    refine lv_iconst (v := 0) hx hb dX0_goHour_55 (by decide) ?_
    refine lv_iload_n hx hb dX0_goHour_56 rfl (lv_at hl 3 rfl) ?_
    refine zCv (S := (Nat → Int32)) (ws1 := fun u => ck Z a (st, (dOff off car (cBare st ht ar + tr)), (dCar car (cBare st ht ar + tr)), u, (wr + 1), tr, ho, ra, ti)) (wr := [((a 0), .inr (0, [.ref (a 1), .ref (a 2), .ref (a 3), .int tr, .int ho, .int ra, .int ti])), ((a 1), .inl (Z 0, 4, .inl st)), ((a 2), .inr (1, [.int (dOff off car (cBare st ht ar + tr)), .int (dCar car (cBare st ht ar + tr))]))]) (va_runV (As := [.int 0, .int ht]) (rest := []) ⟨hx, hb, hml, hown, hts⟩ (m_X3_write l G Z _ (a 3) (a 4) fa (wr + 1) 0 ht) (cwV 2 hts gX0_goHour_X3_write rfl rfl rfl (by decide +kernel) ⟨Nat.le_of_ble_eq_true rfl, Nat.le_of_ble_eq_true rfl⟩) (zPreV hK hP hD hS hA hSW [3, 4] rfl (by decide) 3 (ci := 3) rfl rfl rfl) rfl rfl hl.1 rfl (lv_room (Nat.le_of_ble_eq_true rfl)) dX0_goHour_57 ⟨Nat.le_of_ble_eq_true rfl, Nat.le_of_ble_eq_true rfl⟩) hP hD hS hA [3, 4] [0, 1, 2] [0, 1, 2, 3, 4] rfl rfl (by decide) (by decide) (by decide) (fun _ => rfl) (fun u H locs hw57 hP hD hS => ?_)
    obtain ⟨fa1_57, rfl⟩ : ∃ z, z = u := ⟨_, rfl⟩
    try dsimp only at hw57
    subst hw57
    have hP : va_P G vwCl (ck Z a (st, (dOff off car (cBare st ht ar + tr)), (dCar car (cBare st ht ar + tr)), (lWr fa (wr + 1) 0 ht), (wr + 1), tr, ho, ra, ti)) H := hP
    have hD : va_D A (ck Z a (st, (dOff off car (cBare st ht ar + tr)), (dCar car (cBare st ht ar + tr)), (lWr fa (wr + 1) 0 ht), (wr + 1), tr, ho, ra, ti)) := hD
    refine lv_aload_n hx hb dX0_goHour_60 rfl (lv_at hl 2 rfl) ?_
    refine va_get (D := G) (ci := 0) (v := .ref (a 3)) (C := RX0) (T := TX0) (N := 7) hx hb hts iX0 hown hK hP 0 rfl rfl 2 (by decide) k_25 (fun _ h9 => h9) rfl dX0_goHour_61 ?_
    refine lv_iconst (v := 1) hx hb dX0_goHour_64 (by decide) ?_
    refine lv_iload_n hx hb dX0_goHour_65 rfl (lv_at hl 4 rfl) ?_
    refine zCv (S := (Nat → Int32)) (ws1 := fun u => ck Z a (st, (dOff off car (cBare st ht ar + tr)), (dCar car (cBare st ht ar + tr)), u, (wr + 1), tr, ho, ra, ti)) (wr := [((a 0), .inr (0, [.ref (a 1), .ref (a 2), .ref (a 3), .int tr, .int ho, .int ra, .int ti])), ((a 1), .inl (Z 0, 4, .inl st)), ((a 2), .inr (1, [.int (dOff off car (cBare st ht ar + tr)), .int (dCar car (cBare st ht ar + tr))]))]) (va_runV (As := [.int 1, .int ar]) (rest := []) ⟨hx, hb, hml, hown, hts⟩ (m_X3_write l G Z _ (a 3) (a 4) (lWr fa (wr + 1) 0 ht) (wr + 1) 1 ar) (cwV 2 hts gX0_goHour_X3_write rfl rfl rfl (by decide +kernel) ⟨Nat.le_of_ble_eq_true rfl, Nat.le_of_ble_eq_true rfl⟩) (zPreV hK hP hD hS hA hSW [3, 4] rfl (by decide) 3 (ci := 3) rfl rfl rfl) rfl rfl hl.1 rfl (lv_room (Nat.le_of_ble_eq_true rfl)) dX0_goHour_66 ⟨Nat.le_of_ble_eq_true rfl, Nat.le_of_ble_eq_true rfl⟩) hP hD hS hA [3, 4] [0, 1, 2] [0, 1, 2, 3, 4] rfl rfl (by decide) (by decide) (by decide) (fun _ => rfl) (fun u H locs hw66 hP hD hS => ?_)
    obtain ⟨fa1_66, rfl⟩ : ∃ z, z = u := ⟨_, rfl⟩
    try dsimp only at hw66
    subst hw66
    have hP : va_P G vwCl (ck Z a (st, (dOff off car (cBare st ht ar + tr)), (dCar car (cBare st ht ar + tr)), (lWr (lWr fa (wr + 1) 0 ht) (wr + 1) 1 ar), (wr + 1), tr, ho, ra, ti)) H := hP
    have hD : va_D A (ck Z a (st, (dOff off car (cBare st ht ar + tr)), (dCar car (cBare st ht ar + tr)), (lWr (lWr fa (wr + 1) 0 ht) (wr + 1) 1 ar), (wr + 1), tr, ho, ra, ti)) := hD
    refine lv_aload_n hx hb dX0_goHour_69 rfl (lv_at hl 2 rfl) ?_
    refine va_get (D := G) (ci := 0) (v := .ref (a 3)) (C := RX0) (T := TX0) (N := 7) hx hb hts iX0 hown hK hP 0 rfl rfl 2 (by decide) k_25 (fun _ h9 => h9) rfl dX0_goHour_70 ?_
    refine lv_iconst (v := 2) hx hb dX0_goHour_73 (by decide) ?_
    refine lv_iload_n hx hb dX0_goHour_74 rfl (lv_at hl 5 rfl) ?_
    refine zCv (S := (Nat → Int32)) (ws1 := fun u => ck Z a (st, (dOff off car (cBare st ht ar + tr)), (dCar car (cBare st ht ar + tr)), u, (wr + 1), tr, ho, ra, ti)) (wr := [((a 0), .inr (0, [.ref (a 1), .ref (a 2), .ref (a 3), .int tr, .int ho, .int ra, .int ti])), ((a 1), .inl (Z 0, 4, .inl st)), ((a 2), .inr (1, [.int (dOff off car (cBare st ht ar + tr)), .int (dCar car (cBare st ht ar + tr))]))]) (va_runV (As := [.int 2, .int rd]) (rest := []) ⟨hx, hb, hml, hown, hts⟩ (m_X3_write l G Z _ (a 3) (a 4) (lWr (lWr fa (wr + 1) 0 ht) (wr + 1) 1 ar) (wr + 1) 2 rd) (cwV 2 hts gX0_goHour_X3_write rfl rfl rfl (by decide +kernel) ⟨Nat.le_of_ble_eq_true rfl, Nat.le_of_ble_eq_true rfl⟩) (zPreV hK hP hD hS hA hSW [3, 4] rfl (by decide) 3 (ci := 3) rfl rfl rfl) rfl rfl hl.1 rfl (lv_room (Nat.le_of_ble_eq_true rfl)) dX0_goHour_75 ⟨Nat.le_of_ble_eq_true rfl, Nat.le_of_ble_eq_true rfl⟩) hP hD hS hA [3, 4] [0, 1, 2] [0, 1, 2, 3, 4] rfl rfl (by decide) (by decide) (by decide) (fun _ => rfl) (fun u H locs hw75 hP hD hS => ?_)
    obtain ⟨fa1_75, rfl⟩ : ∃ z, z = u := ⟨_, rfl⟩
    try dsimp only at hw75
    subst hw75
    have hP : va_P G vwCl (ck Z a (st, (dOff off car (cBare st ht ar + tr)), (dCar car (cBare st ht ar + tr)), (lWr (lWr (lWr fa (wr + 1) 0 ht) (wr + 1) 1 ar) (wr + 1) 2 rd), (wr + 1), tr, ho, ra, ti)) H := hP
    have hD : va_D A (ck Z a (st, (dOff off car (cBare st ht ar + tr)), (dCar car (cBare st ht ar + tr)), (lWr (lWr (lWr fa (wr + 1) 0 ht) (wr + 1) 1 ar) (wr + 1) 2 rd), (wr + 1), tr, ho, ra, ti)) := hD
    refine lv_aload_n hx hb dX0_goHour_78 rfl (lv_at hl 2 rfl) ?_
    refine va_get (D := G) (ci := 0) (v := .ref (a 3)) (C := RX0) (T := TX0) (N := 7) hx hb hts iX0 hown hK hP 0 rfl rfl 2 (by decide) k_25 (fun _ h9 => h9) rfl dX0_goHour_79 ?_
    refine lv_iconst (v := 3) hx hb dX0_goHour_82 (by decide) ?_
    refine lv_iload hx hb dX0_goHour_83 (lv_at hl 1 rfl) ?_
    refine zCv (S := (Nat → Int32)) (ws1 := fun u => ck Z a (st, (dOff off car (cBare st ht ar + tr)), (dCar car (cBare st ht ar + tr)), u, (wr + 1), tr, ho, ra, ti)) (wr := [((a 0), .inr (0, [.ref (a 1), .ref (a 2), .ref (a 3), .int tr, .int ho, .int ra, .int ti])), ((a 1), .inl (Z 0, 4, .inl st)), ((a 2), .inr (1, [.int (dOff off car (cBare st ht ar + tr)), .int (dCar car (cBare st ht ar + tr))]))]) (va_runV (As := [.int 3, .int (cBare st ht ar + tr)]) (rest := []) ⟨hx, hb, hml, hown, hts⟩ (m_X3_write l G Z _ (a 3) (a 4) (lWr (lWr (lWr fa (wr + 1) 0 ht) (wr + 1) 1 ar) (wr + 1) 2 rd) (wr + 1) 3 (cBare st ht ar + tr)) (cwV 2 hts gX0_goHour_X3_write rfl rfl rfl (by decide +kernel) ⟨Nat.le_of_ble_eq_true rfl, Nat.le_of_ble_eq_true rfl⟩) (zPreV hK hP hD hS hA hSW [3, 4] rfl (by decide) 3 (ci := 3) rfl rfl rfl) rfl rfl hl.1 rfl (lv_room (Nat.le_of_ble_eq_true rfl)) dX0_goHour_85 ⟨Nat.le_of_ble_eq_true rfl, Nat.le_of_ble_eq_true rfl⟩) hP hD hS hA [3, 4] [0, 1, 2] [0, 1, 2, 3, 4] rfl rfl (by decide) (by decide) (by decide) (fun _ => rfl) (fun u H locs hw85 hP hD hS => ?_)
    obtain ⟨fa1_85, rfl⟩ : ∃ z, z = u := ⟨_, rfl⟩
    try dsimp only at hw85
    subst hw85
    have hP : va_P G vwCl (ck Z a (st, (dOff off car (cBare st ht ar + tr)), (dCar car (cBare st ht ar + tr)), (lWr (lWr (lWr (lWr fa (wr + 1) 0 ht) (wr + 1) 1 ar) (wr + 1) 2 rd) (wr + 1) 3 (cBare st ht ar + tr)), (wr + 1), tr, ho, ra, ti)) H := hP
    have hD : va_D A (ck Z a (st, (dOff off car (cBare st ht ar + tr)), (dCar car (cBare st ht ar + tr)), (lWr (lWr (lWr (lWr fa (wr + 1) 0 ht) (wr + 1) 1 ar) (wr + 1) 2 rd) (wr + 1) 3 (cBare st ht ar + tr)), (wr + 1), tr, ho, ra, ti)) := hD
    refine lv_aload_n hx hb dX0_goHour_88 rfl (lv_at hl 2 rfl) ?_
    refine va_get (D := G) (ci := 0) (v := .ref (a 3)) (C := RX0) (T := TX0) (N := 7) hx hb hts iX0 hown hK hP 0 rfl rfl 2 (by decide) k_25 (fun _ h9 => h9) rfl dX0_goHour_89 ?_
    refine lv_iconst (v := 4) hx hb dX0_goHour_92 (by decide) ?_
    refine lv_aload_n hx hb dX0_goHour_93 rfl (lv_at hl 2 rfl) ?_
    refine va_get (D := G) (ci := 0) (v := .ref (a 2)) (C := RX0) (T := TX0) (N := 7) hx hb hts iX0 hown hK hP 0 rfl rfl 1 (by decide) k_18 (fun _ h9 => h9) rfl dX0_goHour_94 ?_
    refine va_get (D := G) (ci := 1) (v := .int (dOff off car (cBare st ht ar + tr))) (C := RX1) (T := TX1) (N := 2) hx hb hts iX1 hown hK hP 2 rfl rfl 0 (by decide) k_97 (fun _ h9 => h9) rfl dX0_goHour_97 ?_
    refine zCv (S := (Nat → Int32)) (ws1 := fun u => ck Z a (st, (dOff off car (cBare st ht ar + tr)), (dCar car (cBare st ht ar + tr)), u, (wr + 1), tr, ho, ra, ti)) (wr := [((a 0), .inr (0, [.ref (a 1), .ref (a 2), .ref (a 3), .int tr, .int ho, .int ra, .int ti])), ((a 1), .inl (Z 0, 4, .inl st)), ((a 2), .inr (1, [.int (dOff off car (cBare st ht ar + tr)), .int (dCar car (cBare st ht ar + tr))]))]) (va_runV (As := [.int 4, .int (dOff off car (cBare st ht ar + tr))]) (rest := []) ⟨hx, hb, hml, hown, hts⟩ (m_X3_write l G Z _ (a 3) (a 4) (lWr (lWr (lWr (lWr fa (wr + 1) 0 ht) (wr + 1) 1 ar) (wr + 1) 2 rd) (wr + 1) 3 (cBare st ht ar + tr)) (wr + 1) 4 (dOff off car (cBare st ht ar + tr))) (cwV 2 hts gX0_goHour_X3_write rfl rfl rfl (by decide +kernel) ⟨Nat.le_of_ble_eq_true rfl, Nat.le_of_ble_eq_true rfl⟩) (zPreV hK hP hD hS hA hSW [3, 4] rfl (by decide) 3 (ci := 3) rfl rfl rfl) rfl rfl hl.1 rfl (lv_room (Nat.le_of_ble_eq_true rfl)) dX0_goHour_100 ⟨Nat.le_of_ble_eq_true rfl, Nat.le_of_ble_eq_true rfl⟩) hP hD hS hA [3, 4] [0, 1, 2] [0, 1, 2, 3, 4] rfl rfl (by decide) (by decide) (by decide) (fun _ => rfl) (fun u H locs hw100 hP hD hS => ?_)
    obtain ⟨fa1_100, rfl⟩ : ∃ z, z = u := ⟨_, rfl⟩
    try dsimp only at hw100
    subst hw100
    have hP : va_P G vwCl (ck Z a (st, (dOff off car (cBare st ht ar + tr)), (dCar car (cBare st ht ar + tr)), (lWr (lWr (lWr (lWr (lWr fa (wr + 1) 0 ht) (wr + 1) 1 ar) (wr + 1) 2 rd) (wr + 1) 3 (cBare st ht ar + tr)) (wr + 1) 4 (dOff off car (cBare st ht ar + tr))), (wr + 1), tr, ho, ra, ti)) H := hP
    have hD : va_D A (ck Z a (st, (dOff off car (cBare st ht ar + tr)), (dCar car (cBare st ht ar + tr)), (lWr (lWr (lWr (lWr (lWr fa (wr + 1) 0 ht) (wr + 1) 1 ar) (wr + 1) 2 rd) (wr + 1) 3 (cBare st ht ar + tr)) (wr + 1) 4 (dOff off car (cBare st ht ar + tr))), (wr + 1), tr, ho, ra, ti)) := hD
    refine lv_aload_n hx hb dX0_goHour_103 rfl (lv_at hl 2 rfl) ?_
    refine va_get (D := G) (ci := 0) (v := .ref (a 3)) (C := RX0) (T := TX0) (N := 7) hx hb hts iX0 hown hK hP 0 rfl rfl 2 (by decide) k_25 (fun _ h9 => h9) rfl dX0_goHour_104 ?_
    refine lv_iconst (v := 5) hx hb dX0_goHour_107 (by decide) ?_
    refine lv_iload hx hb dX0_goHour_108 (lv_at hl 0 rfl) ?_
    refine lv_if_eq (tgt := 117) hx hb dX0_goHour_110 (by decide) (fun _ => ?_) (fun c110 => absurd (by decide) c110)
    refine lv_iconst (v := 0) hx hb dX0_goHour_117 (by decide) ?_
    refine zCv (S := (Nat → Int32)) (ws1 := fun u => ck Z a (st, (dOff off car (cBare st ht ar + tr)), (dCar car (cBare st ht ar + tr)), u, (wr + 1), tr, ho, ra, ti)) (wr := [((a 0), .inr (0, [.ref (a 1), .ref (a 2), .ref (a 3), .int tr, .int ho, .int ra, .int ti])), ((a 1), .inl (Z 0, 4, .inl st)), ((a 2), .inr (1, [.int (dOff off car (cBare st ht ar + tr)), .int (dCar car (cBare st ht ar + tr))]))]) (va_runV (As := [.int 5, .int 0]) (rest := []) ⟨hx, hb, hml, hown, hts⟩ (m_X3_write l G Z _ (a 3) (a 4) (lWr (lWr (lWr (lWr (lWr fa (wr + 1) 0 ht) (wr + 1) 1 ar) (wr + 1) 2 rd) (wr + 1) 3 (cBare st ht ar + tr)) (wr + 1) 4 (dOff off car (cBare st ht ar + tr))) (wr + 1) 5 0) (cwV 2 hts gX0_goHour_X3_write rfl rfl rfl (by decide +kernel) ⟨Nat.le_of_ble_eq_true rfl, Nat.le_of_ble_eq_true rfl⟩) (zPreV hK hP hD hS hA hSW [3, 4] rfl (by decide) 3 (ci := 3) rfl rfl rfl) rfl rfl hl.1 rfl (lv_room (Nat.le_of_ble_eq_true rfl)) dX0_goHour_118 ⟨Nat.le_of_ble_eq_true rfl, Nat.le_of_ble_eq_true rfl⟩) hP hD hS hA [3, 4] [0, 1, 2] [0, 1, 2, 3, 4] rfl rfl (by decide) (by decide) (by decide) (fun _ => rfl) (fun u H locs hw118 hP hD hS => ?_)
    obtain ⟨fa1_118, rfl⟩ : ∃ z, z = u := ⟨_, rfl⟩
    try dsimp only at hw118
    subst hw118
    have hP : va_P G vwCl (ck Z a (st, (dOff off car (cBare st ht ar + tr)), (dCar car (cBare st ht ar + tr)), (lWr (lWr (lWr (lWr (lWr (lWr fa (wr + 1) 0 ht) (wr + 1) 1 ar) (wr + 1) 2 rd) (wr + 1) 3 (cBare st ht ar + tr)) (wr + 1) 4 (dOff off car (cBare st ht ar + tr))) (wr + 1) 5 0), (wr + 1), tr, ho, ra, ti)) H := hP
    have hD : va_D A (ck Z a (st, (dOff off car (cBare st ht ar + tr)), (dCar car (cBare st ht ar + tr)), (lWr (lWr (lWr (lWr (lWr (lWr fa (wr + 1) 0 ht) (wr + 1) 1 ar) (wr + 1) 2 rd) (wr + 1) 3 (cBare st ht ar + tr)) (wr + 1) 4 (dOff off car (cBare st ht ar + tr))) (wr + 1) 5 0), (wr + 1), tr, ho, ra, ti)) := hD
    refine lv_aload_n hx hb dX0_goHour_121 rfl (lv_at hl 2 rfl) ?_
    refine va_get (D := G) (ci := 0) (v := .ref (a 3)) (C := RX0) (T := TX0) (N := 7) hx hb hts iX0 hown hK hP 0 rfl rfl 2 (by decide) k_25 (fun _ h9 => h9) rfl dX0_goHour_122 ?_
    refine lv_bipush (v := 6) hx hb dX0_goHour_125 (by decide) ?_
    refine lv_aload_n hx hb dX0_goHour_127 rfl (lv_at hl 2 rfl) ?_
    refine va_get (D := G) (ci := 0) (v := .int tr) (C := RX0) (T := TX0) (N := 7) hx hb hts iX0 hown hK hP 0 rfl rfl 3 (by decide) k_42 (fun _ h9 => h9) rfl dX0_goHour_128 ?_
    refine zCv (S := (Nat → Int32)) (ws1 := fun u => ck Z a (st, (dOff off car (cBare st ht ar + tr)), (dCar car (cBare st ht ar + tr)), u, (wr + 1), tr, ho, ra, ti)) (wr := [((a 0), .inr (0, [.ref (a 1), .ref (a 2), .ref (a 3), .int tr, .int ho, .int ra, .int ti])), ((a 1), .inl (Z 0, 4, .inl st)), ((a 2), .inr (1, [.int (dOff off car (cBare st ht ar + tr)), .int (dCar car (cBare st ht ar + tr))]))]) (va_runV (As := [.int 6, .int tr]) (rest := []) ⟨hx, hb, hml, hown, hts⟩ (m_X3_write l G Z _ (a 3) (a 4) (lWr (lWr (lWr (lWr (lWr (lWr fa (wr + 1) 0 ht) (wr + 1) 1 ar) (wr + 1) 2 rd) (wr + 1) 3 (cBare st ht ar + tr)) (wr + 1) 4 (dOff off car (cBare st ht ar + tr))) (wr + 1) 5 0) (wr + 1) 6 tr) (cwV 2 hts gX0_goHour_X3_write rfl rfl rfl (by decide +kernel) ⟨Nat.le_of_ble_eq_true rfl, Nat.le_of_ble_eq_true rfl⟩) (zPreV hK hP hD hS hA hSW [3, 4] rfl (by decide) 3 (ci := 3) rfl rfl rfl) rfl rfl hl.1 rfl (lv_room (Nat.le_of_ble_eq_true rfl)) dX0_goHour_131 ⟨Nat.le_of_ble_eq_true rfl, Nat.le_of_ble_eq_true rfl⟩) hP hD hS hA [3, 4] [0, 1, 2] [0, 1, 2, 3, 4] rfl rfl (by decide) (by decide) (by decide) (fun _ => rfl) (fun u H locs hw131 hP hD hS => ?_)
    obtain ⟨fa1_131, rfl⟩ : ∃ z, z = u := ⟨_, rfl⟩
    try dsimp only at hw131
    subst hw131
    have hP : va_P G vwCl (ck Z a (st, (dOff off car (cBare st ht ar + tr)), (dCar car (cBare st ht ar + tr)), (lWr (lWr (lWr (lWr (lWr (lWr (lWr fa (wr + 1) 0 ht) (wr + 1) 1 ar) (wr + 1) 2 rd) (wr + 1) 3 (cBare st ht ar + tr)) (wr + 1) 4 (dOff off car (cBare st ht ar + tr))) (wr + 1) 5 0) (wr + 1) 6 tr), (wr + 1), tr, ho, ra, ti)) H := hP
    have hD : va_D A (ck Z a (st, (dOff off car (cBare st ht ar + tr)), (dCar car (cBare st ht ar + tr)), (lWr (lWr (lWr (lWr (lWr (lWr (lWr fa (wr + 1) 0 ht) (wr + 1) 1 ar) (wr + 1) 2 rd) (wr + 1) 3 (cBare st ht ar + tr)) (wr + 1) 4 (dOff off car (cBare st ht ar + tr))) (wr + 1) 5 0) (wr + 1) 6 tr), (wr + 1), tr, ho, ra, ti)) := hD
    refine lv_aload_n hx hb dX0_goHour_134 rfl (lv_at hl 2 rfl) ?_
    refine lv_dup hx hb dX0_goHour_135 rfl ?_
    refine va_get (D := G) (ci := 0) (v := .int ho) (C := RX0) (T := TX0) (N := 7) hx hb hts iX0 hown hK hP 0 rfl rfl 4 (by decide) k_46 (fun _ h9 => h9) rfl dX0_goHour_136 ?_
    refine lv_iconst (v := 1) hx hb dX0_goHour_139 (by decide) ?_
    refine lv_iadd hx hb dX0_goHour_140 ?_
    refine va_put (D := G) (ci := 0) (v := .int (ho + 1)) (ty := .int) (C := RX0) (T := TX0) (N := 7) hx hb hts iX0 tyX0 tyX0_ok nmX0 hown hK hP hD hS 0 rfl rfl 4 (by decide) k_46 (fun _ h9 => h9) rfl (by decide +kernel) rfl rfl (Nat.le_of_ble_eq_true rfl) dX0_goHour_141 (fun H locs hP hD hS => ?_)
    have hP : va_P G vwCl (ck Z a (st, (dOff off car (cBare st ht ar + tr)), (dCar car (cBare st ht ar + tr)), (lWr (lWr (lWr (lWr (lWr (lWr (lWr fa (wr + 1) 0 ht) (wr + 1) 1 ar) (wr + 1) 2 rd) (wr + 1) 3 (cBare st ht ar + tr)) (wr + 1) 4 (dOff off car (cBare st ht ar + tr))) (wr + 1) 5 0) (wr + 1) 6 tr), (wr + 1), tr, (ho + 1), ra, ti)) H := hP
    have hD : va_D A (ck Z a (st, (dOff off car (cBare st ht ar + tr)), (dCar car (cBare st ht ar + tr)), (lWr (lWr (lWr (lWr (lWr (lWr (lWr fa (wr + 1) 0 ht) (wr + 1) 1 ar) (wr + 1) 2 rd) (wr + 1) 3 (cBare st ht ar + tr)) (wr + 1) 4 (dOff off car (cBare st ht ar + tr))) (wr + 1) 5 0) (wr + 1) 6 tr), (wr + 1), tr, (ho + 1), ra, ti)) := hD
    refine lv_aload_n hx hb dX0_goHour_144 rfl (lv_at hl 2 rfl) ?_
    refine lv_dup hx hb dX0_goHour_145 rfl ?_
    refine va_get (D := G) (ci := 0) (v := .int ra) (C := RX0) (T := TX0) (N := 7) hx hb hts iX0 hown hK hP 0 rfl rfl 5 (by decide) k_49 (fun _ h9 => h9) rfl dX0_goHour_146 ?_
    refine lv_iload_n hx hb dX0_goHour_149 rfl (lv_at hl 5 rfl) ?_
    refine lv_iadd hx hb dX0_goHour_150 ?_
    refine va_put (D := G) (ci := 0) (v := .int (ra + rd)) (ty := .int) (C := RX0) (T := TX0) (N := 7) hx hb hts iX0 tyX0 tyX0_ok nmX0 hown hK hP hD hS 0 rfl rfl 5 (by decide) k_49 (fun _ h9 => h9) rfl (by decide +kernel) rfl rfl (Nat.le_of_ble_eq_true rfl) dX0_goHour_151 (fun H locs hP hD hS => ?_)
    have hP : va_P G vwCl (ck Z a (st, (dOff off car (cBare st ht ar + tr)), (dCar car (cBare st ht ar + tr)), (lWr (lWr (lWr (lWr (lWr (lWr (lWr fa (wr + 1) 0 ht) (wr + 1) 1 ar) (wr + 1) 2 rd) (wr + 1) 3 (cBare st ht ar + tr)) (wr + 1) 4 (dOff off car (cBare st ht ar + tr))) (wr + 1) 5 0) (wr + 1) 6 tr), (wr + 1), tr, (ho + 1), (ra + rd), ti)) H := hP
    have hD : va_D A (ck Z a (st, (dOff off car (cBare st ht ar + tr)), (dCar car (cBare st ht ar + tr)), (lWr (lWr (lWr (lWr (lWr (lWr (lWr fa (wr + 1) 0 ht) (wr + 1) 1 ar) (wr + 1) 2 rd) (wr + 1) 3 (cBare st ht ar + tr)) (wr + 1) 4 (dOff off car (cBare st ht ar + tr))) (wr + 1) 5 0) (wr + 1) 6 tr), (wr + 1), tr, (ho + 1), (ra + rd), ti)) := hD
    refine lv_iload hx hb dX0_goHour_154 (lv_at hl 0 rfl) ?_
    refine lv_if_eq (tgt := 163) hx hb dX0_goHour_156 (by decide) (fun _ => ?_) (fun c156 => absurd (by decide) c156)
    exact W.vret hx hb hr (zEv (st, (dOff off car (cBare st ht ar + tr)), (dCar car (cBare st ht ar + tr)), (lWr (lWr (lWr (lWr (lWr (lWr (lWr fa (wr + 1) 0 ht) (wr + 1) 1 ar) (wr + 1) 2 rd) (wr + 1) 3 (cBare st ht ar + tr)) (wr + 1) 4 (dOff off car (cBare st ht ar + tr))) (wr + 1) 5 0) (wr + 1) 6 tr), (wr + 1), tr, (ho + 1), (ra + rd), ti) (by
        simp only [cGo, lHour, c19, ↓reduceIte]) hP hD hS) hS.2.2 dX0_goHour_163
  · refine lv_aload_n hx hb dX0_goHour_22 rfl (lv_at hl 1 rfl) ?_
    refine va_get (D := G) (ci := 0) (v := .ref (a 2)) (C := RX0) (T := TX0) (N := 7) hx hb hts iX0 hown hK hP 0 rfl rfl 1 (by decide) k_18 (fun _ h9 => h9) rfl dX0_goHour_23 ?_
    refine lv_aload_n hx hb dX0_goHour_26 rfl (lv_at hl 1 rfl) ?_
    refine lv_iconst (v := 3) hx hb dX0_goHour_27 (by decide) ?_
    refine zCi (S := Unit) (ws1 := fun u => ck Z a (st, (dOff off car (cBare st ht ar + tr)), (dCar car (cBare st ht ar + tr)), fa, wr, tr, ho, ra, ti)) (wr := []) (va_runV (As := [.int 3]) (rest := [.ref (a 2)]) ⟨hx, hb, hml, hown, hts⟩ (m_X0_setting l G Z _ a st (dOff off car (cBare st ht ar + tr)) (dCar car (cBare st ht ar + tr)) fa wr tr ho ra ti 3) (cwV 1 hts gX0_goHour_X0_setting rfl rfl rfl (by decide +kernel) ⟨Nat.le_of_ble_eq_true rfl, Nat.le_of_ble_eq_true rfl⟩) (zPreV hK hP hD hS hA hSW [0, 1, 2, 3, 4] rfl (by decide) 0 (ci := 0) rfl rfl rfl) rfl rfl hl.1 rfl (lv_room (Nat.le_of_ble_eq_true rfl)) dX0_goHour_28 ⟨Nat.le_of_ble_eq_true rfl, Nat.le_of_ble_eq_true rfl⟩) hP hD hS hA [0, 1, 2, 3, 4] [] [0, 1, 2, 3, 4] rfl rfl (by decide) (by decide) (by decide) (fun _ => rfl) (fun r28 u H locs hw28 hP hD hS => ?_)
    try dsimp only at hw28
    subst hw28
    have hP : va_P G vwCl (ck Z a (st, (dOff off car (cBare st ht ar + tr)), (dCar car (cBare st ht ar + tr)), fa, wr, tr, ho, ra, ti)) H := hP
    have hD : va_D A (ck Z a (st, (dOff off car (cBare st ht ar + tr)), (dCar car (cBare st ht ar + tr)), fa, wr, tr, ho, ra, ti)) := hD
    refine zCi (S := Unit) (ws1 := fun u => ck Z a (st, (dOff off car (cBare st ht ar + tr)), (dCar car (cBare st ht ar + tr)), fa, wr, tr, ho, ra, ti)) (wr := [((a 0), .inr (0, [.ref (a 1), .ref (a 2), .ref (a 3), .int tr, .int ho, .int ra, .int ti])), ((a 1), .inl (Z 0, 4, .inl st)), ((a 3), .inr (3, [.ref (a 4), .int wr])), ((a 4), .inl (Z 0, 336, .inl fa))]) (va_runV (As := [.int (cSet st 3)]) (rest := []) ⟨hx, hb, hml, hown, hts⟩ (m_X1_isMoreThan l G Z _ (a 2) (dOff off car (cBare st ht ar + tr)) (dCar car (cBare st ht ar + tr)) (cSet st 3)) (cwV 1 hts gX0_goHour_X1_isMoreThan rfl rfl rfl (by decide +kernel) ⟨Nat.le_of_ble_eq_true rfl, Nat.le_of_ble_eq_true rfl⟩) (zPreV hK hP hD hS hA hSW [2] rfl (by decide) 2 (ci := 1) rfl rfl rfl) rfl rfl hl.1 rfl (lv_room (Nat.le_of_ble_eq_true rfl)) dX0_goHour_31 ⟨Nat.le_of_ble_eq_true rfl, Nat.le_of_ble_eq_true rfl⟩) hP hD hS hA [2] [0, 1, 3, 4] [0, 1, 4, 2, 3] rfl rfl (by decide) (by decide) (by decide) (fun _ => rfl) (fun r31 u H locs hw31 hP hD hS => ?_)
    try dsimp only at hw31
    subst hw31
    have hP : va_P G vwCl (ck Z a (st, (dOff off car (cBare st ht ar + tr)), (dCar car (cBare st ht ar + tr)), fa, wr, tr, ho, ra, ti)) H := hP
    have hD : va_D A (ck Z a (st, (dOff off car (cBare st ht ar + tr)), (dCar car (cBare st ht ar + tr)), fa, wr, tr, ho, ra, ti)) := hD
    refine lv_if_eq (tgt := 41) hx hb dX0_goHour_34 (by decide) (fun c34 => ?_) (fun c34 => ?_)
    · refine lv_iconst (v := 0) hx hb dX0_goHour_41 (by decide) ?_
      refine lv_istore (lv' := [(5, .int 0), (4, .int (cBare st ht ar + tr)), (0, .ref (a 0)), (1, .int ht), (2, .int ar), (3, .int rd)]) hx hb dX0_goHour_42 hl (by decide) rfl (fun ls hl => ?_)
      refine lv_aload_n hx hb dX0_goHour_44 rfl (lv_at hl 2 rfl) ?_
      refine va_get (D := G) (ci := 0) (v := .ref (a 3)) (C := RX0) (T := TX0) (N := 7) hx hb hts iX0 hown hK hP 0 rfl rfl 2 (by decide) k_25 (fun _ h9 => h9) rfl dX0_goHour_45 ?_
      refine zCv (S := Unit) (ws1 := fun u => ck Z a (st, (dOff off car (cBare st ht ar + tr)), (dCar car (cBare st ht ar + tr)), fa, (wr + 1), tr, ho, ra, ti)) (wr := [((a 0), .inr (0, [.ref (a 1), .ref (a 2), .ref (a 3), .int tr, .int ho, .int ra, .int ti])), ((a 1), .inl (Z 0, 4, .inl st)), ((a 2), .inr (1, [.int (dOff off car (cBare st ht ar + tr)), .int (dCar car (cBare st ht ar + tr))]))]) (va_runV (As := []) (rest := []) ⟨hx, hb, hml, hown, hts⟩ (m_X3_open l G Z _ (a 3) (a 4) fa wr) (cwV 0 hts gX0_goHour_X3_open rfl rfl rfl (by decide +kernel) ⟨Nat.le_of_ble_eq_true rfl, Nat.le_of_ble_eq_true rfl⟩) (zPreV hK hP hD hS hA hSW [3, 4] rfl (by decide) 3 (ci := 3) rfl rfl rfl) rfl rfl hl.1 rfl (lv_room (Nat.le_of_ble_eq_true rfl)) dX0_goHour_48 ⟨Nat.le_of_ble_eq_true rfl, Nat.le_of_ble_eq_true rfl⟩) hP hD hS hA [3, 4] [0, 1, 2] [0, 1, 2, 3, 4] rfl rfl (by decide) (by decide) (by decide) (fun _ => rfl) (fun u H locs hw48_2 hP hD hS => ?_)
      try dsimp only at hw48_2
      have hP : va_P G vwCl (ck Z a (st, (dOff off car (cBare st ht ar + tr)), (dCar car (cBare st ht ar + tr)), fa, (wr + 1), tr, ho, ra, ti)) H := hP
      have hD : va_D A (ck Z a (st, (dOff off car (cBare st ht ar + tr)), (dCar car (cBare st ht ar + tr)), fa, (wr + 1), tr, ho, ra, ti)) := hD
      refine lv_aload_n hx hb dX0_goHour_51 rfl (lv_at hl 2 rfl) ?_
      refine va_get (D := G) (ci := 0) (v := .ref (a 3)) (C := RX0) (T := TX0) (N := 7) hx hb hts iX0 hown hK hP 0 rfl rfl 2 (by decide) k_25 (fun _ h9 => h9) rfl dX0_goHour_52 ?_
      refine lv_iconst (v := 0) hx hb dX0_goHour_55 (by decide) ?_
      refine lv_iload_n hx hb dX0_goHour_56 rfl (lv_at hl 3 rfl) ?_
      refine zCv (S := (Nat → Int32)) (ws1 := fun u => ck Z a (st, (dOff off car (cBare st ht ar + tr)), (dCar car (cBare st ht ar + tr)), u, (wr + 1), tr, ho, ra, ti)) (wr := [((a 0), .inr (0, [.ref (a 1), .ref (a 2), .ref (a 3), .int tr, .int ho, .int ra, .int ti])), ((a 1), .inl (Z 0, 4, .inl st)), ((a 2), .inr (1, [.int (dOff off car (cBare st ht ar + tr)), .int (dCar car (cBare st ht ar + tr))]))]) (va_runV (As := [.int 0, .int ht]) (rest := []) ⟨hx, hb, hml, hown, hts⟩ (m_X3_write l G Z _ (a 3) (a 4) fa (wr + 1) 0 ht) (cwV 2 hts gX0_goHour_X3_write rfl rfl rfl (by decide +kernel) ⟨Nat.le_of_ble_eq_true rfl, Nat.le_of_ble_eq_true rfl⟩) (zPreV hK hP hD hS hA hSW [3, 4] rfl (by decide) 3 (ci := 3) rfl rfl rfl) rfl rfl hl.1 rfl (lv_room (Nat.le_of_ble_eq_true rfl)) dX0_goHour_57 ⟨Nat.le_of_ble_eq_true rfl, Nat.le_of_ble_eq_true rfl⟩) hP hD hS hA [3, 4] [0, 1, 2] [0, 1, 2, 3, 4] rfl rfl (by decide) (by decide) (by decide) (fun _ => rfl) (fun u H locs hw57_2 hP hD hS => ?_)
      obtain ⟨fa1_57_2, rfl⟩ : ∃ z, z = u := ⟨_, rfl⟩
      try dsimp only at hw57_2
      subst hw57_2
      have hP : va_P G vwCl (ck Z a (st, (dOff off car (cBare st ht ar + tr)), (dCar car (cBare st ht ar + tr)), (lWr fa (wr + 1) 0 ht), (wr + 1), tr, ho, ra, ti)) H := hP
      have hD : va_D A (ck Z a (st, (dOff off car (cBare st ht ar + tr)), (dCar car (cBare st ht ar + tr)), (lWr fa (wr + 1) 0 ht), (wr + 1), tr, ho, ra, ti)) := hD
      refine lv_aload_n hx hb dX0_goHour_60 rfl (lv_at hl 2 rfl) ?_
      refine va_get (D := G) (ci := 0) (v := .ref (a 3)) (C := RX0) (T := TX0) (N := 7) hx hb hts iX0 hown hK hP 0 rfl rfl 2 (by decide) k_25 (fun _ h9 => h9) rfl dX0_goHour_61 ?_
      refine lv_iconst (v := 1) hx hb dX0_goHour_64 (by decide) ?_
      refine lv_iload_n hx hb dX0_goHour_65 rfl (lv_at hl 4 rfl) ?_
      refine zCv (S := (Nat → Int32)) (ws1 := fun u => ck Z a (st, (dOff off car (cBare st ht ar + tr)), (dCar car (cBare st ht ar + tr)), u, (wr + 1), tr, ho, ra, ti)) (wr := [((a 0), .inr (0, [.ref (a 1), .ref (a 2), .ref (a 3), .int tr, .int ho, .int ra, .int ti])), ((a 1), .inl (Z 0, 4, .inl st)), ((a 2), .inr (1, [.int (dOff off car (cBare st ht ar + tr)), .int (dCar car (cBare st ht ar + tr))]))]) (va_runV (As := [.int 1, .int ar]) (rest := []) ⟨hx, hb, hml, hown, hts⟩ (m_X3_write l G Z _ (a 3) (a 4) (lWr fa (wr + 1) 0 ht) (wr + 1) 1 ar) (cwV 2 hts gX0_goHour_X3_write rfl rfl rfl (by decide +kernel) ⟨Nat.le_of_ble_eq_true rfl, Nat.le_of_ble_eq_true rfl⟩) (zPreV hK hP hD hS hA hSW [3, 4] rfl (by decide) 3 (ci := 3) rfl rfl rfl) rfl rfl hl.1 rfl (lv_room (Nat.le_of_ble_eq_true rfl)) dX0_goHour_66 ⟨Nat.le_of_ble_eq_true rfl, Nat.le_of_ble_eq_true rfl⟩) hP hD hS hA [3, 4] [0, 1, 2] [0, 1, 2, 3, 4] rfl rfl (by decide) (by decide) (by decide) (fun _ => rfl) (fun u H locs hw66_2 hP hD hS => ?_)
      obtain ⟨fa1_66_2, rfl⟩ : ∃ z, z = u := ⟨_, rfl⟩
      try dsimp only at hw66_2
      subst hw66_2
      have hP : va_P G vwCl (ck Z a (st, (dOff off car (cBare st ht ar + tr)), (dCar car (cBare st ht ar + tr)), (lWr (lWr fa (wr + 1) 0 ht) (wr + 1) 1 ar), (wr + 1), tr, ho, ra, ti)) H := hP
      have hD : va_D A (ck Z a (st, (dOff off car (cBare st ht ar + tr)), (dCar car (cBare st ht ar + tr)), (lWr (lWr fa (wr + 1) 0 ht) (wr + 1) 1 ar), (wr + 1), tr, ho, ra, ti)) := hD
      refine lv_aload_n hx hb dX0_goHour_69 rfl (lv_at hl 2 rfl) ?_
      refine va_get (D := G) (ci := 0) (v := .ref (a 3)) (C := RX0) (T := TX0) (N := 7) hx hb hts iX0 hown hK hP 0 rfl rfl 2 (by decide) k_25 (fun _ h9 => h9) rfl dX0_goHour_70 ?_
      refine lv_iconst (v := 2) hx hb dX0_goHour_73 (by decide) ?_
      refine lv_iload_n hx hb dX0_goHour_74 rfl (lv_at hl 5 rfl) ?_
      refine zCv (S := (Nat → Int32)) (ws1 := fun u => ck Z a (st, (dOff off car (cBare st ht ar + tr)), (dCar car (cBare st ht ar + tr)), u, (wr + 1), tr, ho, ra, ti)) (wr := [((a 0), .inr (0, [.ref (a 1), .ref (a 2), .ref (a 3), .int tr, .int ho, .int ra, .int ti])), ((a 1), .inl (Z 0, 4, .inl st)), ((a 2), .inr (1, [.int (dOff off car (cBare st ht ar + tr)), .int (dCar car (cBare st ht ar + tr))]))]) (va_runV (As := [.int 2, .int rd]) (rest := []) ⟨hx, hb, hml, hown, hts⟩ (m_X3_write l G Z _ (a 3) (a 4) (lWr (lWr fa (wr + 1) 0 ht) (wr + 1) 1 ar) (wr + 1) 2 rd) (cwV 2 hts gX0_goHour_X3_write rfl rfl rfl (by decide +kernel) ⟨Nat.le_of_ble_eq_true rfl, Nat.le_of_ble_eq_true rfl⟩) (zPreV hK hP hD hS hA hSW [3, 4] rfl (by decide) 3 (ci := 3) rfl rfl rfl) rfl rfl hl.1 rfl (lv_room (Nat.le_of_ble_eq_true rfl)) dX0_goHour_75 ⟨Nat.le_of_ble_eq_true rfl, Nat.le_of_ble_eq_true rfl⟩) hP hD hS hA [3, 4] [0, 1, 2] [0, 1, 2, 3, 4] rfl rfl (by decide) (by decide) (by decide) (fun _ => rfl) (fun u H locs hw75_2 hP hD hS => ?_)
      obtain ⟨fa1_75_2, rfl⟩ : ∃ z, z = u := ⟨_, rfl⟩
      try dsimp only at hw75_2
      subst hw75_2
      have hP : va_P G vwCl (ck Z a (st, (dOff off car (cBare st ht ar + tr)), (dCar car (cBare st ht ar + tr)), (lWr (lWr (lWr fa (wr + 1) 0 ht) (wr + 1) 1 ar) (wr + 1) 2 rd), (wr + 1), tr, ho, ra, ti)) H := hP
      have hD : va_D A (ck Z a (st, (dOff off car (cBare st ht ar + tr)), (dCar car (cBare st ht ar + tr)), (lWr (lWr (lWr fa (wr + 1) 0 ht) (wr + 1) 1 ar) (wr + 1) 2 rd), (wr + 1), tr, ho, ra, ti)) := hD
      refine lv_aload_n hx hb dX0_goHour_78 rfl (lv_at hl 2 rfl) ?_
      refine va_get (D := G) (ci := 0) (v := .ref (a 3)) (C := RX0) (T := TX0) (N := 7) hx hb hts iX0 hown hK hP 0 rfl rfl 2 (by decide) k_25 (fun _ h9 => h9) rfl dX0_goHour_79 ?_
      refine lv_iconst (v := 3) hx hb dX0_goHour_82 (by decide) ?_
      refine lv_iload hx hb dX0_goHour_83 (lv_at hl 1 rfl) ?_
      refine zCv (S := (Nat → Int32)) (ws1 := fun u => ck Z a (st, (dOff off car (cBare st ht ar + tr)), (dCar car (cBare st ht ar + tr)), u, (wr + 1), tr, ho, ra, ti)) (wr := [((a 0), .inr (0, [.ref (a 1), .ref (a 2), .ref (a 3), .int tr, .int ho, .int ra, .int ti])), ((a 1), .inl (Z 0, 4, .inl st)), ((a 2), .inr (1, [.int (dOff off car (cBare st ht ar + tr)), .int (dCar car (cBare st ht ar + tr))]))]) (va_runV (As := [.int 3, .int (cBare st ht ar + tr)]) (rest := []) ⟨hx, hb, hml, hown, hts⟩ (m_X3_write l G Z _ (a 3) (a 4) (lWr (lWr (lWr fa (wr + 1) 0 ht) (wr + 1) 1 ar) (wr + 1) 2 rd) (wr + 1) 3 (cBare st ht ar + tr)) (cwV 2 hts gX0_goHour_X3_write rfl rfl rfl (by decide +kernel) ⟨Nat.le_of_ble_eq_true rfl, Nat.le_of_ble_eq_true rfl⟩) (zPreV hK hP hD hS hA hSW [3, 4] rfl (by decide) 3 (ci := 3) rfl rfl rfl) rfl rfl hl.1 rfl (lv_room (Nat.le_of_ble_eq_true rfl)) dX0_goHour_85 ⟨Nat.le_of_ble_eq_true rfl, Nat.le_of_ble_eq_true rfl⟩) hP hD hS hA [3, 4] [0, 1, 2] [0, 1, 2, 3, 4] rfl rfl (by decide) (by decide) (by decide) (fun _ => rfl) (fun u H locs hw85_2 hP hD hS => ?_)
      obtain ⟨fa1_85_2, rfl⟩ : ∃ z, z = u := ⟨_, rfl⟩
      try dsimp only at hw85_2
      subst hw85_2
      have hP : va_P G vwCl (ck Z a (st, (dOff off car (cBare st ht ar + tr)), (dCar car (cBare st ht ar + tr)), (lWr (lWr (lWr (lWr fa (wr + 1) 0 ht) (wr + 1) 1 ar) (wr + 1) 2 rd) (wr + 1) 3 (cBare st ht ar + tr)), (wr + 1), tr, ho, ra, ti)) H := hP
      have hD : va_D A (ck Z a (st, (dOff off car (cBare st ht ar + tr)), (dCar car (cBare st ht ar + tr)), (lWr (lWr (lWr (lWr fa (wr + 1) 0 ht) (wr + 1) 1 ar) (wr + 1) 2 rd) (wr + 1) 3 (cBare st ht ar + tr)), (wr + 1), tr, ho, ra, ti)) := hD
      refine lv_aload_n hx hb dX0_goHour_88 rfl (lv_at hl 2 rfl) ?_
      refine va_get (D := G) (ci := 0) (v := .ref (a 3)) (C := RX0) (T := TX0) (N := 7) hx hb hts iX0 hown hK hP 0 rfl rfl 2 (by decide) k_25 (fun _ h9 => h9) rfl dX0_goHour_89 ?_
      refine lv_iconst (v := 4) hx hb dX0_goHour_92 (by decide) ?_
      refine lv_aload_n hx hb dX0_goHour_93 rfl (lv_at hl 2 rfl) ?_
      refine va_get (D := G) (ci := 0) (v := .ref (a 2)) (C := RX0) (T := TX0) (N := 7) hx hb hts iX0 hown hK hP 0 rfl rfl 1 (by decide) k_18 (fun _ h9 => h9) rfl dX0_goHour_94 ?_
      refine va_get (D := G) (ci := 1) (v := .int (dOff off car (cBare st ht ar + tr))) (C := RX1) (T := TX1) (N := 2) hx hb hts iX1 hown hK hP 2 rfl rfl 0 (by decide) k_97 (fun _ h9 => h9) rfl dX0_goHour_97 ?_
      refine zCv (S := (Nat → Int32)) (ws1 := fun u => ck Z a (st, (dOff off car (cBare st ht ar + tr)), (dCar car (cBare st ht ar + tr)), u, (wr + 1), tr, ho, ra, ti)) (wr := [((a 0), .inr (0, [.ref (a 1), .ref (a 2), .ref (a 3), .int tr, .int ho, .int ra, .int ti])), ((a 1), .inl (Z 0, 4, .inl st)), ((a 2), .inr (1, [.int (dOff off car (cBare st ht ar + tr)), .int (dCar car (cBare st ht ar + tr))]))]) (va_runV (As := [.int 4, .int (dOff off car (cBare st ht ar + tr))]) (rest := []) ⟨hx, hb, hml, hown, hts⟩ (m_X3_write l G Z _ (a 3) (a 4) (lWr (lWr (lWr (lWr fa (wr + 1) 0 ht) (wr + 1) 1 ar) (wr + 1) 2 rd) (wr + 1) 3 (cBare st ht ar + tr)) (wr + 1) 4 (dOff off car (cBare st ht ar + tr))) (cwV 2 hts gX0_goHour_X3_write rfl rfl rfl (by decide +kernel) ⟨Nat.le_of_ble_eq_true rfl, Nat.le_of_ble_eq_true rfl⟩) (zPreV hK hP hD hS hA hSW [3, 4] rfl (by decide) 3 (ci := 3) rfl rfl rfl) rfl rfl hl.1 rfl (lv_room (Nat.le_of_ble_eq_true rfl)) dX0_goHour_100 ⟨Nat.le_of_ble_eq_true rfl, Nat.le_of_ble_eq_true rfl⟩) hP hD hS hA [3, 4] [0, 1, 2] [0, 1, 2, 3, 4] rfl rfl (by decide) (by decide) (by decide) (fun _ => rfl) (fun u H locs hw100_2 hP hD hS => ?_)
      obtain ⟨fa1_100_2, rfl⟩ : ∃ z, z = u := ⟨_, rfl⟩
      try dsimp only at hw100_2
      subst hw100_2
      have hP : va_P G vwCl (ck Z a (st, (dOff off car (cBare st ht ar + tr)), (dCar car (cBare st ht ar + tr)), (lWr (lWr (lWr (lWr (lWr fa (wr + 1) 0 ht) (wr + 1) 1 ar) (wr + 1) 2 rd) (wr + 1) 3 (cBare st ht ar + tr)) (wr + 1) 4 (dOff off car (cBare st ht ar + tr))), (wr + 1), tr, ho, ra, ti)) H := hP
      have hD : va_D A (ck Z a (st, (dOff off car (cBare st ht ar + tr)), (dCar car (cBare st ht ar + tr)), (lWr (lWr (lWr (lWr (lWr fa (wr + 1) 0 ht) (wr + 1) 1 ar) (wr + 1) 2 rd) (wr + 1) 3 (cBare st ht ar + tr)) (wr + 1) 4 (dOff off car (cBare st ht ar + tr))), (wr + 1), tr, ho, ra, ti)) := hD
      refine lv_aload_n hx hb dX0_goHour_103 rfl (lv_at hl 2 rfl) ?_
      refine va_get (D := G) (ci := 0) (v := .ref (a 3)) (C := RX0) (T := TX0) (N := 7) hx hb hts iX0 hown hK hP 0 rfl rfl 2 (by decide) k_25 (fun _ h9 => h9) rfl dX0_goHour_104 ?_
      refine lv_iconst (v := 5) hx hb dX0_goHour_107 (by decide) ?_
      refine lv_iload hx hb dX0_goHour_108 (lv_at hl 0 rfl) ?_
      refine lv_if_eq (tgt := 117) hx hb dX0_goHour_110 (by decide) (fun _ => ?_) (fun c110 => absurd (by decide) c110)
      refine lv_iconst (v := 0) hx hb dX0_goHour_117 (by decide) ?_
      refine zCv (S := (Nat → Int32)) (ws1 := fun u => ck Z a (st, (dOff off car (cBare st ht ar + tr)), (dCar car (cBare st ht ar + tr)), u, (wr + 1), tr, ho, ra, ti)) (wr := [((a 0), .inr (0, [.ref (a 1), .ref (a 2), .ref (a 3), .int tr, .int ho, .int ra, .int ti])), ((a 1), .inl (Z 0, 4, .inl st)), ((a 2), .inr (1, [.int (dOff off car (cBare st ht ar + tr)), .int (dCar car (cBare st ht ar + tr))]))]) (va_runV (As := [.int 5, .int 0]) (rest := []) ⟨hx, hb, hml, hown, hts⟩ (m_X3_write l G Z _ (a 3) (a 4) (lWr (lWr (lWr (lWr (lWr fa (wr + 1) 0 ht) (wr + 1) 1 ar) (wr + 1) 2 rd) (wr + 1) 3 (cBare st ht ar + tr)) (wr + 1) 4 (dOff off car (cBare st ht ar + tr))) (wr + 1) 5 0) (cwV 2 hts gX0_goHour_X3_write rfl rfl rfl (by decide +kernel) ⟨Nat.le_of_ble_eq_true rfl, Nat.le_of_ble_eq_true rfl⟩) (zPreV hK hP hD hS hA hSW [3, 4] rfl (by decide) 3 (ci := 3) rfl rfl rfl) rfl rfl hl.1 rfl (lv_room (Nat.le_of_ble_eq_true rfl)) dX0_goHour_118 ⟨Nat.le_of_ble_eq_true rfl, Nat.le_of_ble_eq_true rfl⟩) hP hD hS hA [3, 4] [0, 1, 2] [0, 1, 2, 3, 4] rfl rfl (by decide) (by decide) (by decide) (fun _ => rfl) (fun u H locs hw118_2 hP hD hS => ?_)
      obtain ⟨fa1_118_2, rfl⟩ : ∃ z, z = u := ⟨_, rfl⟩
      try dsimp only at hw118_2
      subst hw118_2
      have hP : va_P G vwCl (ck Z a (st, (dOff off car (cBare st ht ar + tr)), (dCar car (cBare st ht ar + tr)), (lWr (lWr (lWr (lWr (lWr (lWr fa (wr + 1) 0 ht) (wr + 1) 1 ar) (wr + 1) 2 rd) (wr + 1) 3 (cBare st ht ar + tr)) (wr + 1) 4 (dOff off car (cBare st ht ar + tr))) (wr + 1) 5 0), (wr + 1), tr, ho, ra, ti)) H := hP
      have hD : va_D A (ck Z a (st, (dOff off car (cBare st ht ar + tr)), (dCar car (cBare st ht ar + tr)), (lWr (lWr (lWr (lWr (lWr (lWr fa (wr + 1) 0 ht) (wr + 1) 1 ar) (wr + 1) 2 rd) (wr + 1) 3 (cBare st ht ar + tr)) (wr + 1) 4 (dOff off car (cBare st ht ar + tr))) (wr + 1) 5 0), (wr + 1), tr, ho, ra, ti)) := hD
      refine lv_aload_n hx hb dX0_goHour_121 rfl (lv_at hl 2 rfl) ?_
      refine va_get (D := G) (ci := 0) (v := .ref (a 3)) (C := RX0) (T := TX0) (N := 7) hx hb hts iX0 hown hK hP 0 rfl rfl 2 (by decide) k_25 (fun _ h9 => h9) rfl dX0_goHour_122 ?_
      refine lv_bipush (v := 6) hx hb dX0_goHour_125 (by decide) ?_
      refine lv_aload_n hx hb dX0_goHour_127 rfl (lv_at hl 2 rfl) ?_
      refine va_get (D := G) (ci := 0) (v := .int tr) (C := RX0) (T := TX0) (N := 7) hx hb hts iX0 hown hK hP 0 rfl rfl 3 (by decide) k_42 (fun _ h9 => h9) rfl dX0_goHour_128 ?_
      refine zCv (S := (Nat → Int32)) (ws1 := fun u => ck Z a (st, (dOff off car (cBare st ht ar + tr)), (dCar car (cBare st ht ar + tr)), u, (wr + 1), tr, ho, ra, ti)) (wr := [((a 0), .inr (0, [.ref (a 1), .ref (a 2), .ref (a 3), .int tr, .int ho, .int ra, .int ti])), ((a 1), .inl (Z 0, 4, .inl st)), ((a 2), .inr (1, [.int (dOff off car (cBare st ht ar + tr)), .int (dCar car (cBare st ht ar + tr))]))]) (va_runV (As := [.int 6, .int tr]) (rest := []) ⟨hx, hb, hml, hown, hts⟩ (m_X3_write l G Z _ (a 3) (a 4) (lWr (lWr (lWr (lWr (lWr (lWr fa (wr + 1) 0 ht) (wr + 1) 1 ar) (wr + 1) 2 rd) (wr + 1) 3 (cBare st ht ar + tr)) (wr + 1) 4 (dOff off car (cBare st ht ar + tr))) (wr + 1) 5 0) (wr + 1) 6 tr) (cwV 2 hts gX0_goHour_X3_write rfl rfl rfl (by decide +kernel) ⟨Nat.le_of_ble_eq_true rfl, Nat.le_of_ble_eq_true rfl⟩) (zPreV hK hP hD hS hA hSW [3, 4] rfl (by decide) 3 (ci := 3) rfl rfl rfl) rfl rfl hl.1 rfl (lv_room (Nat.le_of_ble_eq_true rfl)) dX0_goHour_131 ⟨Nat.le_of_ble_eq_true rfl, Nat.le_of_ble_eq_true rfl⟩) hP hD hS hA [3, 4] [0, 1, 2] [0, 1, 2, 3, 4] rfl rfl (by decide) (by decide) (by decide) (fun _ => rfl) (fun u H locs hw131_2 hP hD hS => ?_)
      obtain ⟨fa1_131_2, rfl⟩ : ∃ z, z = u := ⟨_, rfl⟩
      try dsimp only at hw131_2
      subst hw131_2
      have hP : va_P G vwCl (ck Z a (st, (dOff off car (cBare st ht ar + tr)), (dCar car (cBare st ht ar + tr)), (lWr (lWr (lWr (lWr (lWr (lWr (lWr fa (wr + 1) 0 ht) (wr + 1) 1 ar) (wr + 1) 2 rd) (wr + 1) 3 (cBare st ht ar + tr)) (wr + 1) 4 (dOff off car (cBare st ht ar + tr))) (wr + 1) 5 0) (wr + 1) 6 tr), (wr + 1), tr, ho, ra, ti)) H := hP
      have hD : va_D A (ck Z a (st, (dOff off car (cBare st ht ar + tr)), (dCar car (cBare st ht ar + tr)), (lWr (lWr (lWr (lWr (lWr (lWr (lWr fa (wr + 1) 0 ht) (wr + 1) 1 ar) (wr + 1) 2 rd) (wr + 1) 3 (cBare st ht ar + tr)) (wr + 1) 4 (dOff off car (cBare st ht ar + tr))) (wr + 1) 5 0) (wr + 1) 6 tr), (wr + 1), tr, ho, ra, ti)) := hD
      refine lv_aload_n hx hb dX0_goHour_134 rfl (lv_at hl 2 rfl) ?_
      refine lv_dup hx hb dX0_goHour_135 rfl ?_
      refine va_get (D := G) (ci := 0) (v := .int ho) (C := RX0) (T := TX0) (N := 7) hx hb hts iX0 hown hK hP 0 rfl rfl 4 (by decide) k_46 (fun _ h9 => h9) rfl dX0_goHour_136 ?_
      refine lv_iconst (v := 1) hx hb dX0_goHour_139 (by decide) ?_
      refine lv_iadd hx hb dX0_goHour_140 ?_
      refine va_put (D := G) (ci := 0) (v := .int (ho + 1)) (ty := .int) (C := RX0) (T := TX0) (N := 7) hx hb hts iX0 tyX0 tyX0_ok nmX0 hown hK hP hD hS 0 rfl rfl 4 (by decide) k_46 (fun _ h9 => h9) rfl (by decide +kernel) rfl rfl (Nat.le_of_ble_eq_true rfl) dX0_goHour_141 (fun H locs hP hD hS => ?_)
      have hP : va_P G vwCl (ck Z a (st, (dOff off car (cBare st ht ar + tr)), (dCar car (cBare st ht ar + tr)), (lWr (lWr (lWr (lWr (lWr (lWr (lWr fa (wr + 1) 0 ht) (wr + 1) 1 ar) (wr + 1) 2 rd) (wr + 1) 3 (cBare st ht ar + tr)) (wr + 1) 4 (dOff off car (cBare st ht ar + tr))) (wr + 1) 5 0) (wr + 1) 6 tr), (wr + 1), tr, (ho + 1), ra, ti)) H := hP
      have hD : va_D A (ck Z a (st, (dOff off car (cBare st ht ar + tr)), (dCar car (cBare st ht ar + tr)), (lWr (lWr (lWr (lWr (lWr (lWr (lWr fa (wr + 1) 0 ht) (wr + 1) 1 ar) (wr + 1) 2 rd) (wr + 1) 3 (cBare st ht ar + tr)) (wr + 1) 4 (dOff off car (cBare st ht ar + tr))) (wr + 1) 5 0) (wr + 1) 6 tr), (wr + 1), tr, (ho + 1), ra, ti)) := hD
      refine lv_aload_n hx hb dX0_goHour_144 rfl (lv_at hl 2 rfl) ?_
      refine lv_dup hx hb dX0_goHour_145 rfl ?_
      refine va_get (D := G) (ci := 0) (v := .int ra) (C := RX0) (T := TX0) (N := 7) hx hb hts iX0 hown hK hP 0 rfl rfl 5 (by decide) k_49 (fun _ h9 => h9) rfl dX0_goHour_146 ?_
      refine lv_iload_n hx hb dX0_goHour_149 rfl (lv_at hl 5 rfl) ?_
      refine lv_iadd hx hb dX0_goHour_150 ?_
      refine va_put (D := G) (ci := 0) (v := .int (ra + rd)) (ty := .int) (C := RX0) (T := TX0) (N := 7) hx hb hts iX0 tyX0 tyX0_ok nmX0 hown hK hP hD hS 0 rfl rfl 5 (by decide) k_49 (fun _ h9 => h9) rfl (by decide +kernel) rfl rfl (Nat.le_of_ble_eq_true rfl) dX0_goHour_151 (fun H locs hP hD hS => ?_)
      have hP : va_P G vwCl (ck Z a (st, (dOff off car (cBare st ht ar + tr)), (dCar car (cBare st ht ar + tr)), (lWr (lWr (lWr (lWr (lWr (lWr (lWr fa (wr + 1) 0 ht) (wr + 1) 1 ar) (wr + 1) 2 rd) (wr + 1) 3 (cBare st ht ar + tr)) (wr + 1) 4 (dOff off car (cBare st ht ar + tr))) (wr + 1) 5 0) (wr + 1) 6 tr), (wr + 1), tr, (ho + 1), (ra + rd), ti)) H := hP
      have hD : va_D A (ck Z a (st, (dOff off car (cBare st ht ar + tr)), (dCar car (cBare st ht ar + tr)), (lWr (lWr (lWr (lWr (lWr (lWr (lWr fa (wr + 1) 0 ht) (wr + 1) 1 ar) (wr + 1) 2 rd) (wr + 1) 3 (cBare st ht ar + tr)) (wr + 1) 4 (dOff off car (cBare st ht ar + tr))) (wr + 1) 5 0) (wr + 1) 6 tr), (wr + 1), tr, (ho + 1), (ra + rd), ti)) := hD
      refine lv_iload hx hb dX0_goHour_154 (lv_at hl 0 rfl) ?_
      refine lv_if_eq (tgt := 163) hx hb dX0_goHour_156 (by decide) (fun _ => ?_) (fun c156 => absurd (by decide) c156)
      exact W.vret hx hb hr (zEv (st, (dOff off car (cBare st ht ar + tr)), (dCar car (cBare st ht ar + tr)), (lWr (lWr (lWr (lWr (lWr (lWr (lWr fa (wr + 1) 0 ht) (wr + 1) 1 ar) (wr + 1) 2 rd) (wr + 1) 3 (cBare st ht ar + tr)) (wr + 1) 4 (dOff off car (cBare st ht ar + tr))) (wr + 1) 5 0) (wr + 1) 6 tr), (wr + 1), tr, (ho + 1), (ra + rd), ti) (by
          simp only [cGo, lHour, eq_true c19, eq_true c34, ↓reduceIte]) hP hD hS) hS.2.2 dX0_goHour_163
    · refine lv_iconst (v := 1) hx hb dX0_goHour_37 (by decide) ?_
      refine lv_goto (tgt := 42) hx hb dX0_goHour_38 (by decide) ?_
      refine lv_istore (lv' := [(5, .int 1), (4, .int (cBare st ht ar + tr)), (0, .ref (a 0)), (1, .int ht), (2, .int ar), (3, .int rd)]) hx hb dX0_goHour_42 hl (by decide) rfl (fun ls hl => ?_)
      refine lv_aload_n hx hb dX0_goHour_44 rfl (lv_at hl 2 rfl) ?_
      refine va_get (D := G) (ci := 0) (v := .ref (a 3)) (C := RX0) (T := TX0) (N := 7) hx hb hts iX0 hown hK hP 0 rfl rfl 2 (by decide) k_25 (fun _ h9 => h9) rfl dX0_goHour_45 ?_
      refine zCv (S := Unit) (ws1 := fun u => ck Z a (st, (dOff off car (cBare st ht ar + tr)), (dCar car (cBare st ht ar + tr)), fa, (wr + 1), tr, ho, ra, ti)) (wr := [((a 0), .inr (0, [.ref (a 1), .ref (a 2), .ref (a 3), .int tr, .int ho, .int ra, .int ti])), ((a 1), .inl (Z 0, 4, .inl st)), ((a 2), .inr (1, [.int (dOff off car (cBare st ht ar + tr)), .int (dCar car (cBare st ht ar + tr))]))]) (va_runV (As := []) (rest := []) ⟨hx, hb, hml, hown, hts⟩ (m_X3_open l G Z _ (a 3) (a 4) fa wr) (cwV 0 hts gX0_goHour_X3_open rfl rfl rfl (by decide +kernel) ⟨Nat.le_of_ble_eq_true rfl, Nat.le_of_ble_eq_true rfl⟩) (zPreV hK hP hD hS hA hSW [3, 4] rfl (by decide) 3 (ci := 3) rfl rfl rfl) rfl rfl hl.1 rfl (lv_room (Nat.le_of_ble_eq_true rfl)) dX0_goHour_48 ⟨Nat.le_of_ble_eq_true rfl, Nat.le_of_ble_eq_true rfl⟩) hP hD hS hA [3, 4] [0, 1, 2] [0, 1, 2, 3, 4] rfl rfl (by decide) (by decide) (by decide) (fun _ => rfl) (fun u H locs hw48_3 hP hD hS => ?_)
      try dsimp only at hw48_3
      have hP : va_P G vwCl (ck Z a (st, (dOff off car (cBare st ht ar + tr)), (dCar car (cBare st ht ar + tr)), fa, (wr + 1), tr, ho, ra, ti)) H := hP
      have hD : va_D A (ck Z a (st, (dOff off car (cBare st ht ar + tr)), (dCar car (cBare st ht ar + tr)), fa, (wr + 1), tr, ho, ra, ti)) := hD
      refine lv_aload_n hx hb dX0_goHour_51 rfl (lv_at hl 2 rfl) ?_
      refine va_get (D := G) (ci := 0) (v := .ref (a 3)) (C := RX0) (T := TX0) (N := 7) hx hb hts iX0 hown hK hP 0 rfl rfl 2 (by decide) k_25 (fun _ h9 => h9) rfl dX0_goHour_52 ?_
      refine lv_iconst (v := 0) hx hb dX0_goHour_55 (by decide) ?_
      refine lv_iload_n hx hb dX0_goHour_56 rfl (lv_at hl 3 rfl) ?_
      refine zCv (S := (Nat → Int32)) (ws1 := fun u => ck Z a (st, (dOff off car (cBare st ht ar + tr)), (dCar car (cBare st ht ar + tr)), u, (wr + 1), tr, ho, ra, ti)) (wr := [((a 0), .inr (0, [.ref (a 1), .ref (a 2), .ref (a 3), .int tr, .int ho, .int ra, .int ti])), ((a 1), .inl (Z 0, 4, .inl st)), ((a 2), .inr (1, [.int (dOff off car (cBare st ht ar + tr)), .int (dCar car (cBare st ht ar + tr))]))]) (va_runV (As := [.int 0, .int ht]) (rest := []) ⟨hx, hb, hml, hown, hts⟩ (m_X3_write l G Z _ (a 3) (a 4) fa (wr + 1) 0 ht) (cwV 2 hts gX0_goHour_X3_write rfl rfl rfl (by decide +kernel) ⟨Nat.le_of_ble_eq_true rfl, Nat.le_of_ble_eq_true rfl⟩) (zPreV hK hP hD hS hA hSW [3, 4] rfl (by decide) 3 (ci := 3) rfl rfl rfl) rfl rfl hl.1 rfl (lv_room (Nat.le_of_ble_eq_true rfl)) dX0_goHour_57 ⟨Nat.le_of_ble_eq_true rfl, Nat.le_of_ble_eq_true rfl⟩) hP hD hS hA [3, 4] [0, 1, 2] [0, 1, 2, 3, 4] rfl rfl (by decide) (by decide) (by decide) (fun _ => rfl) (fun u H locs hw57_3 hP hD hS => ?_)
      obtain ⟨fa1_57_3, rfl⟩ : ∃ z, z = u := ⟨_, rfl⟩
      try dsimp only at hw57_3
      subst hw57_3
      have hP : va_P G vwCl (ck Z a (st, (dOff off car (cBare st ht ar + tr)), (dCar car (cBare st ht ar + tr)), (lWr fa (wr + 1) 0 ht), (wr + 1), tr, ho, ra, ti)) H := hP
      have hD : va_D A (ck Z a (st, (dOff off car (cBare st ht ar + tr)), (dCar car (cBare st ht ar + tr)), (lWr fa (wr + 1) 0 ht), (wr + 1), tr, ho, ra, ti)) := hD
      refine lv_aload_n hx hb dX0_goHour_60 rfl (lv_at hl 2 rfl) ?_
      refine va_get (D := G) (ci := 0) (v := .ref (a 3)) (C := RX0) (T := TX0) (N := 7) hx hb hts iX0 hown hK hP 0 rfl rfl 2 (by decide) k_25 (fun _ h9 => h9) rfl dX0_goHour_61 ?_
      refine lv_iconst (v := 1) hx hb dX0_goHour_64 (by decide) ?_
      refine lv_iload_n hx hb dX0_goHour_65 rfl (lv_at hl 4 rfl) ?_
      refine zCv (S := (Nat → Int32)) (ws1 := fun u => ck Z a (st, (dOff off car (cBare st ht ar + tr)), (dCar car (cBare st ht ar + tr)), u, (wr + 1), tr, ho, ra, ti)) (wr := [((a 0), .inr (0, [.ref (a 1), .ref (a 2), .ref (a 3), .int tr, .int ho, .int ra, .int ti])), ((a 1), .inl (Z 0, 4, .inl st)), ((a 2), .inr (1, [.int (dOff off car (cBare st ht ar + tr)), .int (dCar car (cBare st ht ar + tr))]))]) (va_runV (As := [.int 1, .int ar]) (rest := []) ⟨hx, hb, hml, hown, hts⟩ (m_X3_write l G Z _ (a 3) (a 4) (lWr fa (wr + 1) 0 ht) (wr + 1) 1 ar) (cwV 2 hts gX0_goHour_X3_write rfl rfl rfl (by decide +kernel) ⟨Nat.le_of_ble_eq_true rfl, Nat.le_of_ble_eq_true rfl⟩) (zPreV hK hP hD hS hA hSW [3, 4] rfl (by decide) 3 (ci := 3) rfl rfl rfl) rfl rfl hl.1 rfl (lv_room (Nat.le_of_ble_eq_true rfl)) dX0_goHour_66 ⟨Nat.le_of_ble_eq_true rfl, Nat.le_of_ble_eq_true rfl⟩) hP hD hS hA [3, 4] [0, 1, 2] [0, 1, 2, 3, 4] rfl rfl (by decide) (by decide) (by decide) (fun _ => rfl) (fun u H locs hw66_3 hP hD hS => ?_)
      obtain ⟨fa1_66_3, rfl⟩ : ∃ z, z = u := ⟨_, rfl⟩
      try dsimp only at hw66_3
      subst hw66_3
      have hP : va_P G vwCl (ck Z a (st, (dOff off car (cBare st ht ar + tr)), (dCar car (cBare st ht ar + tr)), (lWr (lWr fa (wr + 1) 0 ht) (wr + 1) 1 ar), (wr + 1), tr, ho, ra, ti)) H := hP
      have hD : va_D A (ck Z a (st, (dOff off car (cBare st ht ar + tr)), (dCar car (cBare st ht ar + tr)), (lWr (lWr fa (wr + 1) 0 ht) (wr + 1) 1 ar), (wr + 1), tr, ho, ra, ti)) := hD
      refine lv_aload_n hx hb dX0_goHour_69 rfl (lv_at hl 2 rfl) ?_
      refine va_get (D := G) (ci := 0) (v := .ref (a 3)) (C := RX0) (T := TX0) (N := 7) hx hb hts iX0 hown hK hP 0 rfl rfl 2 (by decide) k_25 (fun _ h9 => h9) rfl dX0_goHour_70 ?_
      refine lv_iconst (v := 2) hx hb dX0_goHour_73 (by decide) ?_
      refine lv_iload_n hx hb dX0_goHour_74 rfl (lv_at hl 5 rfl) ?_
      refine zCv (S := (Nat → Int32)) (ws1 := fun u => ck Z a (st, (dOff off car (cBare st ht ar + tr)), (dCar car (cBare st ht ar + tr)), u, (wr + 1), tr, ho, ra, ti)) (wr := [((a 0), .inr (0, [.ref (a 1), .ref (a 2), .ref (a 3), .int tr, .int ho, .int ra, .int ti])), ((a 1), .inl (Z 0, 4, .inl st)), ((a 2), .inr (1, [.int (dOff off car (cBare st ht ar + tr)), .int (dCar car (cBare st ht ar + tr))]))]) (va_runV (As := [.int 2, .int rd]) (rest := []) ⟨hx, hb, hml, hown, hts⟩ (m_X3_write l G Z _ (a 3) (a 4) (lWr (lWr fa (wr + 1) 0 ht) (wr + 1) 1 ar) (wr + 1) 2 rd) (cwV 2 hts gX0_goHour_X3_write rfl rfl rfl (by decide +kernel) ⟨Nat.le_of_ble_eq_true rfl, Nat.le_of_ble_eq_true rfl⟩) (zPreV hK hP hD hS hA hSW [3, 4] rfl (by decide) 3 (ci := 3) rfl rfl rfl) rfl rfl hl.1 rfl (lv_room (Nat.le_of_ble_eq_true rfl)) dX0_goHour_75 ⟨Nat.le_of_ble_eq_true rfl, Nat.le_of_ble_eq_true rfl⟩) hP hD hS hA [3, 4] [0, 1, 2] [0, 1, 2, 3, 4] rfl rfl (by decide) (by decide) (by decide) (fun _ => rfl) (fun u H locs hw75_3 hP hD hS => ?_)
      obtain ⟨fa1_75_3, rfl⟩ : ∃ z, z = u := ⟨_, rfl⟩
      try dsimp only at hw75_3
      subst hw75_3
      have hP : va_P G vwCl (ck Z a (st, (dOff off car (cBare st ht ar + tr)), (dCar car (cBare st ht ar + tr)), (lWr (lWr (lWr fa (wr + 1) 0 ht) (wr + 1) 1 ar) (wr + 1) 2 rd), (wr + 1), tr, ho, ra, ti)) H := hP
      have hD : va_D A (ck Z a (st, (dOff off car (cBare st ht ar + tr)), (dCar car (cBare st ht ar + tr)), (lWr (lWr (lWr fa (wr + 1) 0 ht) (wr + 1) 1 ar) (wr + 1) 2 rd), (wr + 1), tr, ho, ra, ti)) := hD
      refine lv_aload_n hx hb dX0_goHour_78 rfl (lv_at hl 2 rfl) ?_
      refine va_get (D := G) (ci := 0) (v := .ref (a 3)) (C := RX0) (T := TX0) (N := 7) hx hb hts iX0 hown hK hP 0 rfl rfl 2 (by decide) k_25 (fun _ h9 => h9) rfl dX0_goHour_79 ?_
      refine lv_iconst (v := 3) hx hb dX0_goHour_82 (by decide) ?_
      refine lv_iload hx hb dX0_goHour_83 (lv_at hl 1 rfl) ?_
      refine zCv (S := (Nat → Int32)) (ws1 := fun u => ck Z a (st, (dOff off car (cBare st ht ar + tr)), (dCar car (cBare st ht ar + tr)), u, (wr + 1), tr, ho, ra, ti)) (wr := [((a 0), .inr (0, [.ref (a 1), .ref (a 2), .ref (a 3), .int tr, .int ho, .int ra, .int ti])), ((a 1), .inl (Z 0, 4, .inl st)), ((a 2), .inr (1, [.int (dOff off car (cBare st ht ar + tr)), .int (dCar car (cBare st ht ar + tr))]))]) (va_runV (As := [.int 3, .int (cBare st ht ar + tr)]) (rest := []) ⟨hx, hb, hml, hown, hts⟩ (m_X3_write l G Z _ (a 3) (a 4) (lWr (lWr (lWr fa (wr + 1) 0 ht) (wr + 1) 1 ar) (wr + 1) 2 rd) (wr + 1) 3 (cBare st ht ar + tr)) (cwV 2 hts gX0_goHour_X3_write rfl rfl rfl (by decide +kernel) ⟨Nat.le_of_ble_eq_true rfl, Nat.le_of_ble_eq_true rfl⟩) (zPreV hK hP hD hS hA hSW [3, 4] rfl (by decide) 3 (ci := 3) rfl rfl rfl) rfl rfl hl.1 rfl (lv_room (Nat.le_of_ble_eq_true rfl)) dX0_goHour_85 ⟨Nat.le_of_ble_eq_true rfl, Nat.le_of_ble_eq_true rfl⟩) hP hD hS hA [3, 4] [0, 1, 2] [0, 1, 2, 3, 4] rfl rfl (by decide) (by decide) (by decide) (fun _ => rfl) (fun u H locs hw85_3 hP hD hS => ?_)
      obtain ⟨fa1_85_3, rfl⟩ : ∃ z, z = u := ⟨_, rfl⟩
      try dsimp only at hw85_3
      subst hw85_3
      have hP : va_P G vwCl (ck Z a (st, (dOff off car (cBare st ht ar + tr)), (dCar car (cBare st ht ar + tr)), (lWr (lWr (lWr (lWr fa (wr + 1) 0 ht) (wr + 1) 1 ar) (wr + 1) 2 rd) (wr + 1) 3 (cBare st ht ar + tr)), (wr + 1), tr, ho, ra, ti)) H := hP
      have hD : va_D A (ck Z a (st, (dOff off car (cBare st ht ar + tr)), (dCar car (cBare st ht ar + tr)), (lWr (lWr (lWr (lWr fa (wr + 1) 0 ht) (wr + 1) 1 ar) (wr + 1) 2 rd) (wr + 1) 3 (cBare st ht ar + tr)), (wr + 1), tr, ho, ra, ti)) := hD
      refine lv_aload_n hx hb dX0_goHour_88 rfl (lv_at hl 2 rfl) ?_
      refine va_get (D := G) (ci := 0) (v := .ref (a 3)) (C := RX0) (T := TX0) (N := 7) hx hb hts iX0 hown hK hP 0 rfl rfl 2 (by decide) k_25 (fun _ h9 => h9) rfl dX0_goHour_89 ?_
      refine lv_iconst (v := 4) hx hb dX0_goHour_92 (by decide) ?_
      refine lv_aload_n hx hb dX0_goHour_93 rfl (lv_at hl 2 rfl) ?_
      refine va_get (D := G) (ci := 0) (v := .ref (a 2)) (C := RX0) (T := TX0) (N := 7) hx hb hts iX0 hown hK hP 0 rfl rfl 1 (by decide) k_18 (fun _ h9 => h9) rfl dX0_goHour_94 ?_
      refine va_get (D := G) (ci := 1) (v := .int (dOff off car (cBare st ht ar + tr))) (C := RX1) (T := TX1) (N := 2) hx hb hts iX1 hown hK hP 2 rfl rfl 0 (by decide) k_97 (fun _ h9 => h9) rfl dX0_goHour_97 ?_
      refine zCv (S := (Nat → Int32)) (ws1 := fun u => ck Z a (st, (dOff off car (cBare st ht ar + tr)), (dCar car (cBare st ht ar + tr)), u, (wr + 1), tr, ho, ra, ti)) (wr := [((a 0), .inr (0, [.ref (a 1), .ref (a 2), .ref (a 3), .int tr, .int ho, .int ra, .int ti])), ((a 1), .inl (Z 0, 4, .inl st)), ((a 2), .inr (1, [.int (dOff off car (cBare st ht ar + tr)), .int (dCar car (cBare st ht ar + tr))]))]) (va_runV (As := [.int 4, .int (dOff off car (cBare st ht ar + tr))]) (rest := []) ⟨hx, hb, hml, hown, hts⟩ (m_X3_write l G Z _ (a 3) (a 4) (lWr (lWr (lWr (lWr fa (wr + 1) 0 ht) (wr + 1) 1 ar) (wr + 1) 2 rd) (wr + 1) 3 (cBare st ht ar + tr)) (wr + 1) 4 (dOff off car (cBare st ht ar + tr))) (cwV 2 hts gX0_goHour_X3_write rfl rfl rfl (by decide +kernel) ⟨Nat.le_of_ble_eq_true rfl, Nat.le_of_ble_eq_true rfl⟩) (zPreV hK hP hD hS hA hSW [3, 4] rfl (by decide) 3 (ci := 3) rfl rfl rfl) rfl rfl hl.1 rfl (lv_room (Nat.le_of_ble_eq_true rfl)) dX0_goHour_100 ⟨Nat.le_of_ble_eq_true rfl, Nat.le_of_ble_eq_true rfl⟩) hP hD hS hA [3, 4] [0, 1, 2] [0, 1, 2, 3, 4] rfl rfl (by decide) (by decide) (by decide) (fun _ => rfl) (fun u H locs hw100_3 hP hD hS => ?_)
      obtain ⟨fa1_100_3, rfl⟩ : ∃ z, z = u := ⟨_, rfl⟩
      try dsimp only at hw100_3
      subst hw100_3
      have hP : va_P G vwCl (ck Z a (st, (dOff off car (cBare st ht ar + tr)), (dCar car (cBare st ht ar + tr)), (lWr (lWr (lWr (lWr (lWr fa (wr + 1) 0 ht) (wr + 1) 1 ar) (wr + 1) 2 rd) (wr + 1) 3 (cBare st ht ar + tr)) (wr + 1) 4 (dOff off car (cBare st ht ar + tr))), (wr + 1), tr, ho, ra, ti)) H := hP
      have hD : va_D A (ck Z a (st, (dOff off car (cBare st ht ar + tr)), (dCar car (cBare st ht ar + tr)), (lWr (lWr (lWr (lWr (lWr fa (wr + 1) 0 ht) (wr + 1) 1 ar) (wr + 1) 2 rd) (wr + 1) 3 (cBare st ht ar + tr)) (wr + 1) 4 (dOff off car (cBare st ht ar + tr))), (wr + 1), tr, ho, ra, ti)) := hD
      refine lv_aload_n hx hb dX0_goHour_103 rfl (lv_at hl 2 rfl) ?_
      refine va_get (D := G) (ci := 0) (v := .ref (a 3)) (C := RX0) (T := TX0) (N := 7) hx hb hts iX0 hown hK hP 0 rfl rfl 2 (by decide) k_25 (fun _ h9 => h9) rfl dX0_goHour_104 ?_
      refine lv_iconst (v := 5) hx hb dX0_goHour_107 (by decide) ?_
      refine lv_iload hx hb dX0_goHour_108 (lv_at hl 0 rfl) ?_
      refine lv_if_eq (tgt := 117) hx hb dX0_goHour_110 (by decide) (fun c110 => absurd c110 (by decide)) (fun _ => ?_)
      refine lv_iconst (v := 1) hx hb dX0_goHour_113 (by decide) ?_
      refine lv_goto (tgt := 118) hx hb dX0_goHour_114 (by decide) ?_
      refine zCv (S := (Nat → Int32)) (ws1 := fun u => ck Z a (st, (dOff off car (cBare st ht ar + tr)), (dCar car (cBare st ht ar + tr)), u, (wr + 1), tr, ho, ra, ti)) (wr := [((a 0), .inr (0, [.ref (a 1), .ref (a 2), .ref (a 3), .int tr, .int ho, .int ra, .int ti])), ((a 1), .inl (Z 0, 4, .inl st)), ((a 2), .inr (1, [.int (dOff off car (cBare st ht ar + tr)), .int (dCar car (cBare st ht ar + tr))]))]) (va_runV (As := [.int 5, .int 1]) (rest := []) ⟨hx, hb, hml, hown, hts⟩ (m_X3_write l G Z _ (a 3) (a 4) (lWr (lWr (lWr (lWr (lWr fa (wr + 1) 0 ht) (wr + 1) 1 ar) (wr + 1) 2 rd) (wr + 1) 3 (cBare st ht ar + tr)) (wr + 1) 4 (dOff off car (cBare st ht ar + tr))) (wr + 1) 5 1) (cwV 2 hts gX0_goHour_X3_write rfl rfl rfl (by decide +kernel) ⟨Nat.le_of_ble_eq_true rfl, Nat.le_of_ble_eq_true rfl⟩) (zPreV hK hP hD hS hA hSW [3, 4] rfl (by decide) 3 (ci := 3) rfl rfl rfl) rfl rfl hl.1 rfl (lv_room (Nat.le_of_ble_eq_true rfl)) dX0_goHour_118 ⟨Nat.le_of_ble_eq_true rfl, Nat.le_of_ble_eq_true rfl⟩) hP hD hS hA [3, 4] [0, 1, 2] [0, 1, 2, 3, 4] rfl rfl (by decide) (by decide) (by decide) (fun _ => rfl) (fun u H locs hw118_3 hP hD hS => ?_)
      obtain ⟨fa1_118_3, rfl⟩ : ∃ z, z = u := ⟨_, rfl⟩
      try dsimp only at hw118_3
      subst hw118_3
      have hP : va_P G vwCl (ck Z a (st, (dOff off car (cBare st ht ar + tr)), (dCar car (cBare st ht ar + tr)), (lWr (lWr (lWr (lWr (lWr (lWr fa (wr + 1) 0 ht) (wr + 1) 1 ar) (wr + 1) 2 rd) (wr + 1) 3 (cBare st ht ar + tr)) (wr + 1) 4 (dOff off car (cBare st ht ar + tr))) (wr + 1) 5 1), (wr + 1), tr, ho, ra, ti)) H := hP
      have hD : va_D A (ck Z a (st, (dOff off car (cBare st ht ar + tr)), (dCar car (cBare st ht ar + tr)), (lWr (lWr (lWr (lWr (lWr (lWr fa (wr + 1) 0 ht) (wr + 1) 1 ar) (wr + 1) 2 rd) (wr + 1) 3 (cBare st ht ar + tr)) (wr + 1) 4 (dOff off car (cBare st ht ar + tr))) (wr + 1) 5 1), (wr + 1), tr, ho, ra, ti)) := hD
      refine lv_aload_n hx hb dX0_goHour_121 rfl (lv_at hl 2 rfl) ?_
      refine va_get (D := G) (ci := 0) (v := .ref (a 3)) (C := RX0) (T := TX0) (N := 7) hx hb hts iX0 hown hK hP 0 rfl rfl 2 (by decide) k_25 (fun _ h9 => h9) rfl dX0_goHour_122 ?_
      refine lv_bipush (v := 6) hx hb dX0_goHour_125 (by decide) ?_
      refine lv_aload_n hx hb dX0_goHour_127 rfl (lv_at hl 2 rfl) ?_
      refine va_get (D := G) (ci := 0) (v := .int tr) (C := RX0) (T := TX0) (N := 7) hx hb hts iX0 hown hK hP 0 rfl rfl 3 (by decide) k_42 (fun _ h9 => h9) rfl dX0_goHour_128 ?_
      refine zCv (S := (Nat → Int32)) (ws1 := fun u => ck Z a (st, (dOff off car (cBare st ht ar + tr)), (dCar car (cBare st ht ar + tr)), u, (wr + 1), tr, ho, ra, ti)) (wr := [((a 0), .inr (0, [.ref (a 1), .ref (a 2), .ref (a 3), .int tr, .int ho, .int ra, .int ti])), ((a 1), .inl (Z 0, 4, .inl st)), ((a 2), .inr (1, [.int (dOff off car (cBare st ht ar + tr)), .int (dCar car (cBare st ht ar + tr))]))]) (va_runV (As := [.int 6, .int tr]) (rest := []) ⟨hx, hb, hml, hown, hts⟩ (m_X3_write l G Z _ (a 3) (a 4) (lWr (lWr (lWr (lWr (lWr (lWr fa (wr + 1) 0 ht) (wr + 1) 1 ar) (wr + 1) 2 rd) (wr + 1) 3 (cBare st ht ar + tr)) (wr + 1) 4 (dOff off car (cBare st ht ar + tr))) (wr + 1) 5 1) (wr + 1) 6 tr) (cwV 2 hts gX0_goHour_X3_write rfl rfl rfl (by decide +kernel) ⟨Nat.le_of_ble_eq_true rfl, Nat.le_of_ble_eq_true rfl⟩) (zPreV hK hP hD hS hA hSW [3, 4] rfl (by decide) 3 (ci := 3) rfl rfl rfl) rfl rfl hl.1 rfl (lv_room (Nat.le_of_ble_eq_true rfl)) dX0_goHour_131 ⟨Nat.le_of_ble_eq_true rfl, Nat.le_of_ble_eq_true rfl⟩) hP hD hS hA [3, 4] [0, 1, 2] [0, 1, 2, 3, 4] rfl rfl (by decide) (by decide) (by decide) (fun _ => rfl) (fun u H locs hw131_3 hP hD hS => ?_)
      obtain ⟨fa1_131_3, rfl⟩ : ∃ z, z = u := ⟨_, rfl⟩
      try dsimp only at hw131_3
      subst hw131_3
      have hP : va_P G vwCl (ck Z a (st, (dOff off car (cBare st ht ar + tr)), (dCar car (cBare st ht ar + tr)), (lWr (lWr (lWr (lWr (lWr (lWr (lWr fa (wr + 1) 0 ht) (wr + 1) 1 ar) (wr + 1) 2 rd) (wr + 1) 3 (cBare st ht ar + tr)) (wr + 1) 4 (dOff off car (cBare st ht ar + tr))) (wr + 1) 5 1) (wr + 1) 6 tr), (wr + 1), tr, ho, ra, ti)) H := hP
      have hD : va_D A (ck Z a (st, (dOff off car (cBare st ht ar + tr)), (dCar car (cBare st ht ar + tr)), (lWr (lWr (lWr (lWr (lWr (lWr (lWr fa (wr + 1) 0 ht) (wr + 1) 1 ar) (wr + 1) 2 rd) (wr + 1) 3 (cBare st ht ar + tr)) (wr + 1) 4 (dOff off car (cBare st ht ar + tr))) (wr + 1) 5 1) (wr + 1) 6 tr), (wr + 1), tr, ho, ra, ti)) := hD
      refine lv_aload_n hx hb dX0_goHour_134 rfl (lv_at hl 2 rfl) ?_
      refine lv_dup hx hb dX0_goHour_135 rfl ?_
      refine va_get (D := G) (ci := 0) (v := .int ho) (C := RX0) (T := TX0) (N := 7) hx hb hts iX0 hown hK hP 0 rfl rfl 4 (by decide) k_46 (fun _ h9 => h9) rfl dX0_goHour_136 ?_
      refine lv_iconst (v := 1) hx hb dX0_goHour_139 (by decide) ?_
      refine lv_iadd hx hb dX0_goHour_140 ?_
      refine va_put (D := G) (ci := 0) (v := .int (ho + 1)) (ty := .int) (C := RX0) (T := TX0) (N := 7) hx hb hts iX0 tyX0 tyX0_ok nmX0 hown hK hP hD hS 0 rfl rfl 4 (by decide) k_46 (fun _ h9 => h9) rfl (by decide +kernel) rfl rfl (Nat.le_of_ble_eq_true rfl) dX0_goHour_141 (fun H locs hP hD hS => ?_)
      have hP : va_P G vwCl (ck Z a (st, (dOff off car (cBare st ht ar + tr)), (dCar car (cBare st ht ar + tr)), (lWr (lWr (lWr (lWr (lWr (lWr (lWr fa (wr + 1) 0 ht) (wr + 1) 1 ar) (wr + 1) 2 rd) (wr + 1) 3 (cBare st ht ar + tr)) (wr + 1) 4 (dOff off car (cBare st ht ar + tr))) (wr + 1) 5 1) (wr + 1) 6 tr), (wr + 1), tr, (ho + 1), ra, ti)) H := hP
      have hD : va_D A (ck Z a (st, (dOff off car (cBare st ht ar + tr)), (dCar car (cBare st ht ar + tr)), (lWr (lWr (lWr (lWr (lWr (lWr (lWr fa (wr + 1) 0 ht) (wr + 1) 1 ar) (wr + 1) 2 rd) (wr + 1) 3 (cBare st ht ar + tr)) (wr + 1) 4 (dOff off car (cBare st ht ar + tr))) (wr + 1) 5 1) (wr + 1) 6 tr), (wr + 1), tr, (ho + 1), ra, ti)) := hD
      refine lv_aload_n hx hb dX0_goHour_144 rfl (lv_at hl 2 rfl) ?_
      refine lv_dup hx hb dX0_goHour_145 rfl ?_
      refine va_get (D := G) (ci := 0) (v := .int ra) (C := RX0) (T := TX0) (N := 7) hx hb hts iX0 hown hK hP 0 rfl rfl 5 (by decide) k_49 (fun _ h9 => h9) rfl dX0_goHour_146 ?_
      refine lv_iload_n hx hb dX0_goHour_149 rfl (lv_at hl 5 rfl) ?_
      refine lv_iadd hx hb dX0_goHour_150 ?_
      refine va_put (D := G) (ci := 0) (v := .int (ra + rd)) (ty := .int) (C := RX0) (T := TX0) (N := 7) hx hb hts iX0 tyX0 tyX0_ok nmX0 hown hK hP hD hS 0 rfl rfl 5 (by decide) k_49 (fun _ h9 => h9) rfl (by decide +kernel) rfl rfl (Nat.le_of_ble_eq_true rfl) dX0_goHour_151 (fun H locs hP hD hS => ?_)
      have hP : va_P G vwCl (ck Z a (st, (dOff off car (cBare st ht ar + tr)), (dCar car (cBare st ht ar + tr)), (lWr (lWr (lWr (lWr (lWr (lWr (lWr fa (wr + 1) 0 ht) (wr + 1) 1 ar) (wr + 1) 2 rd) (wr + 1) 3 (cBare st ht ar + tr)) (wr + 1) 4 (dOff off car (cBare st ht ar + tr))) (wr + 1) 5 1) (wr + 1) 6 tr), (wr + 1), tr, (ho + 1), (ra + rd), ti)) H := hP
      have hD : va_D A (ck Z a (st, (dOff off car (cBare st ht ar + tr)), (dCar car (cBare st ht ar + tr)), (lWr (lWr (lWr (lWr (lWr (lWr (lWr fa (wr + 1) 0 ht) (wr + 1) 1 ar) (wr + 1) 2 rd) (wr + 1) 3 (cBare st ht ar + tr)) (wr + 1) 4 (dOff off car (cBare st ht ar + tr))) (wr + 1) 5 1) (wr + 1) 6 tr), (wr + 1), tr, (ho + 1), (ra + rd), ti)) := hD
      refine lv_iload hx hb dX0_goHour_154 (lv_at hl 0 rfl) ?_
      refine lv_if_eq (tgt := 163) hx hb dX0_goHour_156 (by decide) (fun c156 => absurd c156 (by decide)) (fun _ => ?_)
      refine lv_aload_n hx hb dX0_goHour_159 rfl (lv_at hl 2 rfl) ?_
      refine zCv (S := Int32) (ws1 := fun u => ck Z a (st, 0, 0, (lWr (lWr (lWr (lWr (lWr (lWr (lWr fa (wr + 1) 0 ht) (wr + 1) 1 ar) (wr + 1) 2 rd) (wr + 1) 3 (cBare st ht ar + tr)) (wr + 1) 4 (dOff off car (cBare st ht ar + tr))) (wr + 1) 5 1) (wr + 1) 6 tr), (wr + 1), u, (ho + 1), (ra + rd), (ti + 1))) (wr := []) (va_runV (As := []) (rest := []) ⟨hx, hb, hml, hown, hts⟩ (m_X0_correct l G Z _ a st (dOff off car (cBare st ht ar + tr)) (dCar car (cBare st ht ar + tr)) (lWr (lWr (lWr (lWr (lWr (lWr (lWr fa (wr + 1) 0 ht) (wr + 1) 1 ar) (wr + 1) 2 rd) (wr + 1) 3 (cBare st ht ar + tr)) (wr + 1) 4 (dOff off car (cBare st ht ar + tr))) (wr + 1) 5 1) (wr + 1) 6 tr) (wr + 1) tr (ho + 1) (ra + rd) ti) (cwV 0 hts gX0_goHour_X0_correct rfl rfl rfl (by decide +kernel) ⟨Nat.le_of_ble_eq_true rfl, Nat.le_of_ble_eq_true rfl⟩) (zPreV hK hP hD hS hA hSW [0, 1, 2, 3, 4] rfl (by decide) 0 (ci := 0) rfl rfl rfl) rfl rfl hl.1 rfl (lv_room (Nat.le_of_ble_eq_true rfl)) dX0_goHour_160 ⟨Nat.le_of_ble_eq_true rfl, Nat.le_of_ble_eq_true rfl⟩) hP hD hS hA [0, 1, 2, 3, 4] [] [0, 1, 2, 3, 4] rfl rfl (by decide) (by decide) (by decide) (fun _ => rfl) (fun u H locs hw160 hP hD hS => ?_)
      obtain ⟨tr1_160, rfl⟩ : ∃ z, z = u := ⟨_, rfl⟩
      try dsimp only at hw160
      subst hw160
      have hP : va_P G vwCl (ck Z a (st, 0, 0, (lWr (lWr (lWr (lWr (lWr (lWr (lWr fa (wr + 1) 0 ht) (wr + 1) 1 ar) (wr + 1) 2 rd) (wr + 1) 3 (cBare st ht ar + tr)) (wr + 1) 4 (dOff off car (cBare st ht ar + tr))) (wr + 1) 5 1) (wr + 1) 6 tr), (wr + 1), (cCorT (dOff off car (cBare st ht ar + tr)) tr), (ho + 1), (ra + rd), (ti + 1))) H := hP
      have hD : va_D A (ck Z a (st, 0, 0, (lWr (lWr (lWr (lWr (lWr (lWr (lWr fa (wr + 1) 0 ht) (wr + 1) 1 ar) (wr + 1) 2 rd) (wr + 1) 3 (cBare st ht ar + tr)) (wr + 1) 4 (dOff off car (cBare st ht ar + tr))) (wr + 1) 5 1) (wr + 1) 6 tr), (wr + 1), (cCorT (dOff off car (cBare st ht ar + tr)) tr), (ho + 1), (ra + rd), (ti + 1))) := hD
      exact W.vret hx hb hr (zEv (st, 0, 0, (lWr (lWr (lWr (lWr (lWr (lWr (lWr fa (wr + 1) 0 ht) (wr + 1) 1 ar) (wr + 1) 2 rd) (wr + 1) 3 (cBare st ht ar + tr)) (wr + 1) 4 (dOff off car (cBare st ht ar + tr))) (wr + 1) 5 1) (wr + 1) 6 tr), (wr + 1), (cCorT (dOff off car (cBare st ht ar + tr)) tr), (ho + 1), (ra + rd), (ti + 1)) (by
          simp only [cGo, lHour, eq_true c19, c34, ↓reduceIte]) hP hD hS) hS.2.2 dX0_goHour_163

set_option maxHeartbeats 4000000 in
set_option maxRecDepth 100000 in
theorem m_X0_goHours (l : Launch) (G : va_G) (Z : Nat → ClassId) (sz : Nat) (a : Nat → Nat) (v : CV) (ht : Int32) (ar : Int32) (rd : Int32) (mo : Int32) (n : Nat) (hmo : mo = nI n) (hn : n < 1000) : Met l yX0_goHours wsX0_goHours ({ frames := 4, cells := 0, slots := 0, locals := 90 }) (va_Pc [.ref (a 0), .int ht, .int ar, .int rd, .int mo] (zWP G Z sz (ck Z a v))) (va_Qi (fun (r : Int32) (u : Unit) => r = vTi (cGoN v ht ar rd n) - vTi v) (fun (u : Unit) t => zB G (va_A (ck Z a v) sz) (ck Z a (cGoN v ht ar rd n)) t) (va_A (ck Z a v) sz)) 0 0 (va_A (ck Z a v) sz) := by
  refine Met.ofW (cc := cX0_goHours) (maxL := 7) (ret := (some .int)) (by decide) rfl ?_
  intro p e s m args below meth c s₁ B hml hv
  have hx := B.exec
  have hb := B.bytes
  have hr := B.returns
  have hts := atoms_spec (ws := wsX0_goHours) B.pre
  have hown : s.vm.findClass RX0 = some m.cls := findClass_of_methodNamed B.named
  have hlocks := B.notSynchronized
  obtain ⟨rfl, hsz, hP, hK, hD, hA, hS, hSW⟩ := zEnter hv
  subst hsz
  generalize va_A (ck Z a v) s.heap.size = A at hD hA hS hSW ⊢
  have k_52 := hts (.fieldLink RX0 52 "WarmRods$Clock" "timesSet" "I") (List.mem_of_getElem? (i := 1) rfl)
  have iX0 : ∀ w ∈ u_ws RX0 TX0 7, w ∈ wsX0_goHours := fun _ h => List.mem_cons_of_mem _ (List.mem_append_left _ (List.mem_append_left _ (List.mem_append_right _ h)))
  have hP : va_P G vwCl (ck Z a v) s.heap := hP
  have hl := lv_entry ([.ref (a 0), .int ht, .int ar, .int rd, .int mo]) (n := 7) (Nat.le_of_ble_eq_true rfl)
  rw [lg_entry_eq]
  generalize (lg_sl ([.ref (a 0), .int ht, .int ar, .int rd, .int mo]) ++ List.replicate (7 - (lg_sl ([.ref (a 0), .int ht, .int ar, .int rd, .int mo])).length) Slot.unset).toArray = ls at hl ⊢
  have hl : lv_has ls 7 [(0, .ref (a 0)), (1, .int ht), (2, .int ar), (3, .int rd), (4, .int mo)] := hl
  refine lv_aload_n hx hb dX0_goHours_0 rfl (lv_at hl 0 rfl) ?_
  refine va_get (D := G) (ci := 0) (v := .int v.2.2.2.2.2.2.2.2) (C := RX0) (T := TX0) (N := 7) hx hb hts iX0 hown hK hP 0 rfl rfl 6 (by decide) k_52 (fun _ h9 => h9) rfl dX0_goHours_1 ?_
  refine lv_istore (lv' := [(5, .int v.2.2.2.2.2.2.2.2), (0, .ref (a 0)), (1, .int ht), (2, .int ar), (3, .int rd), (4, .int mo)]) hx hb dX0_goHours_4 hl (by decide) rfl (fun ls hl => ?_)
  refine lv_iconst (v := 0) hx hb dX0_goHours_6 (by decide) ?_
  refine lv_istore (lv' := [(6, .int 0), (5, .int v.2.2.2.2.2.2.2.2), (0, .ref (a 0)), (1, .int ht), (2, .int ar), (3, .int rd), (4, .int mo)]) hx hb dX0_goHours_7 hl (by decide) rfl (fun ls hl => ?_)
  refine zLoop (σ := Nat) (nL := 7) (fun zx => ck Z a (cGoN v ht ar rd zx)) (fun zx => [(6, .int (nI zx)), (5, .int v.2.2.2.2.2.2.2.2), (0, .ref (a 0)), (1, .int ht), (2, .int ar), (3, .int rd), (4, .int mo)]) (fun zx => zx ≤ n) (fun zx => n - zx) ?_ 0 (by
      try dsimp only
      omega) hP hD hS (lv_sub hl [0, 1, 2, 3, 4, 5, 6] rfl)
  intro zx hinv9 ih9 H locs ls hP hD hS hl
  obtain ⟨k, rfl⟩ : ∃ z, z = zx := ⟨_, rfl⟩
  try dsimp only at hinv9 ih9
  have hP : va_P G vwCl (ck Z a (cGoN v ht ar rd k)) H := hP
  have hD : va_D A (ck Z a (cGoN v ht ar rd k)) := hD
  have hl : lv_has ls 7 [(6, .int (nI k)), (5, .int v.2.2.2.2.2.2.2.2), (0, .ref (a 0)), (1, .int ht), (2, .int ar), (3, .int rd), (4, .int mo)] := hl
  refine lv_iload hx hb dX0_goHours_9 (lv_at hl 0 rfl) ?_
  refine lv_iload hx hb dX0_goHours_11 (lv_at hl 6 rfl) ?_
  refine lv_icmp_ge (tgt := 29) hx hb dX0_goHours_13 (by decide) (fun c13 => ?_) (fun c13 => ?_)
  · have e_k : k = n := by
      rw [hmo] at c13
      have := zLe c13 (by omega) (by omega)
      omega
    subst e_k
    refine lv_aload_n hx hb dX0_goHours_29 rfl (lv_at hl 2 rfl) ?_
    refine va_get (D := G) (ci := 0) (v := .int ((cGoN v ht ar rd k).2.2.2.2.2.2.2.2)) (C := RX0) (T := TX0) (N := 7) hx hb hts iX0 hown hK hP 0 rfl rfl 6 (by decide) k_52 (fun _ h9 => h9) rfl dX0_goHours_30 ?_
    refine lv_iload hx hb dX0_goHours_33 (lv_at hl 1 rfl) ?_
    refine lv_isub hx hb dX0_goHours_35 ?_
    exact W.iret hx hb hr (zEi () (by
        rfl) hP hD hS) hS.2.2 dX0_goHours_36
  · refine lv_aload_n hx hb dX0_goHours_16 rfl (lv_at hl 2 rfl) ?_
    refine lv_iload_n hx hb dX0_goHours_17 rfl (lv_at hl 3 rfl) ?_
    refine lv_iload_n hx hb dX0_goHours_18 rfl (lv_at hl 4 rfl) ?_
    refine lv_iload_n hx hb dX0_goHours_19 rfl (lv_at hl 5 rfl) ?_
    refine zCv (S := CV) (ws1 := fun u => ck Z a u) (wr := []) (va_runV (As := [.int ht, .int ar, .int rd]) (rest := []) ⟨hx, hb, hml, hown, hts⟩ (m_X0_goHour l G Z _ a (cGoN v ht ar rd k) ht ar rd) (cwV 3 hts gX0_goHours_X0_goHour rfl rfl rfl (by decide +kernel) ⟨Nat.le_of_ble_eq_true rfl, Nat.le_of_ble_eq_true rfl⟩) (zPreV hK hP hD hS hA hSW [0, 1, 2, 3, 4] rfl (by decide) 0 (ci := 0) rfl rfl rfl) rfl rfl hl.1 rfl (lv_room (Nat.le_of_ble_eq_true rfl)) dX0_goHours_20 ⟨Nat.le_of_ble_eq_true rfl, Nat.le_of_ble_eq_true rfl⟩) hP hD hS hA [0, 1, 2, 3, 4] [] [0, 1, 2, 3, 4] rfl rfl (by decide) (by decide) (by decide) (fun _ => rfl) (fun u H locs hw20 hP hD hS => ?_)
    obtain ⟨v1_20, rfl⟩ : ∃ z, z = u := ⟨_, rfl⟩
    try dsimp only at hw20
    subst hw20
    have hP : va_P G vwCl (ck Z a (cGo (cGoN v ht ar rd k) ht ar rd)) H := hP
    have hD : va_D A (ck Z a (cGo (cGoN v ht ar rd k) ht ar rd)) := hD
    refine lv_iinc (v := (nI (k + 1))) (lv' := [(6, .int (nI (k + 1))), (5, .int v.2.2.2.2.2.2.2.2), (0, .ref (a 0)), (1, .int ht), (2, .int ar), (3, .int rd), (4, .int mo)]) hx hb dX0_goHours_23 hl (k := 0) rfl (nI_succ k).symm (by decide) rfl (fun ls hl => ?_)
    refine lv_goto (tgt := 9) hx hb dX0_goHours_26 (by decide) ?_
    exact ih9 (k + 1) (by
        try dsimp only
        rw [hmo] at c13
        have := zNle c13 (by omega) (by omega)
        omega) (by
        try dsimp only
        rw [hmo] at c13
        have := zNle c13 (by omega) (by omega)
        omega) _ _ _ hP hD hS (lv_sub hl [0, 1, 2, 3, 4, 5, 6] rfl)

set_option maxHeartbeats 4000000 in
set_option maxRecDepth 100000 in
theorem m_X0_become (l : Launch) (G : va_G) (Z : Nat → ClassId) (sz : Nat) (a : Nat → Nat) (st : Nat → Int32) (off : Int32) (car : Int32) (fa : Nat → Int32) (wr : Int32) (tr : Int32) (ho : Int32) (ra : Int32) (ti : Int32) (a2 : Nat → Nat) (st2 : Nat → Int32) (off2 : Int32) (car2 : Int32) (fa2 : Nat → Int32) (wr2 : Int32) (tr2 : Int32) (ho2 : Int32) (ra2 : Int32) (ti2 : Int32)  : Met l yX0_become wsX0_become ({ frames := 2, cells := 0, slots := 0, locals := 39 }) (va_Pc [.ref (a 0), .ref (a2 0)] (zWP G Z sz (ck Z a (st, off, car, fa, wr, tr, ho, ra, ti) ++ ck Z a2 (st2, off2, car2, fa2, wr2, tr2, ho2, ra2, ti2)))) (va_Qv (fun (u : Unit) => True) (fun (u : Unit) t => zB G (va_A (ck Z a (st, off, car, fa, wr, tr, ho, ra, ti) ++ ck Z a2 (st2, off2, car2, fa2, wr2, tr2, ho2, ra2, ti2)) sz) (ck Z a ((va_cpy st2 st 0 0 4), off2, car2, (va_cpy fa2 fa 0 0 336), wr2, tr2, ho2, ra2, ti2) ++ ck Z a2 (st2, off2, car2, fa2, wr2, tr2, ho2, ra2, ti2)) t) (va_A (ck Z a (st, off, car, fa, wr, tr, ho, ra, ti) ++ ck Z a2 (st2, off2, car2, fa2, wr2, tr2, ho2, ra2, ti2)) sz)) 0 0 (va_A (ck Z a (st, off, car, fa, wr, tr, ho, ra, ti) ++ ck Z a2 (st2, off2, car2, fa2, wr2, tr2, ho2, ra2, ti2)) sz) := by
  refine Met.ofW (cc := cX0_become) (maxL := 2) (ret := none) (by decide) rfl ?_
  intro p e s m args below meth c s₁ B hml hv
  have hx := B.exec
  have hb := B.bytes
  have hr := B.returns
  have hts := atoms_spec (ws := wsX0_become) B.pre
  have hown : s.vm.findClass RX0 = some m.cls := findClass_of_methodNamed B.named
  have hlocks := B.notSynchronized
  obtain ⟨rfl, hsz, hP, hK, hD, hA, hS, hSW⟩ := zEnter hv
  subst hsz
  generalize va_A (ck Z a (st, off, car, fa, wr, tr, ho, ra, ti) ++ ck Z a2 (st2, off2, car2, fa2, wr2, tr2, ho2, ra2, ti2)) s.heap.size = A at hD hA hS hSW ⊢
  have k_9 := hts (.fieldLink RX0 9 "WarmRods$Clock" "settings" "[I") (List.mem_of_getElem? (i := 1) rfl)
  have iX0 : ∀ w ∈ u_ws RX0 TX0 7, w ∈ wsX0_become := fun _ h => List.mem_cons_of_mem _ (List.mem_append_left _ (List.mem_append_left _ (List.mem_append_right _ h)))
  have k_29 := hts (.methodLink RX0 29 arraycopyName) (List.mem_of_getElem? (i := 2) rfl)
  have kacn := hts (.native arraycopyName) (List.mem_of_getElem? (i := 3) rfl)
  have kacs := hts (.static arraycopyName) (List.mem_of_getElem? (i := 4) rfl)
  have kaci := hts (.initialized "java/lang/System") (List.mem_of_getElem? (i := 5) rfl)
  have k_18 := hts (.fieldLink RX0 18 "WarmRods$Clock" "drift" "LWarmRods$Drift;") (List.mem_of_getElem? (i := 6) rfl)
  have k_25 := hts (.fieldLink RX0 25 "WarmRods$Clock" "log" "LWarmRods$Log;") (List.mem_of_getElem? (i := 7) rfl)
  have k_42 := hts (.fieldLink RX0 42 "WarmRods$Clock" "tray" "I") (List.mem_of_getElem? (i := 8) rfl)
  have k_46 := hts (.fieldLink RX0 46 "WarmRods$Clock" "hours" "I") (List.mem_of_getElem? (i := 9) rfl)
  have k_49 := hts (.fieldLink RX0 49 "WarmRods$Clock" "radioHours" "I") (List.mem_of_getElem? (i := 10) rfl)
  have k_52 := hts (.fieldLink RX0 52 "WarmRods$Clock" "timesSet" "I") (List.mem_of_getElem? (i := 11) rfl)
  have hP : va_P G vwCl (ck Z a (st, off, car, fa, wr, tr, ho, ra, ti) ++ ck Z a2 (st2, off2, car2, fa2, wr2, tr2, ho2, ra2, ti2)) s.heap := hP
  have hl := lv_entry ([.ref (a 0), .ref (a2 0)]) (n := 2) (Nat.le_of_ble_eq_true rfl)
  rw [lg_entry_eq]
  generalize (lg_sl ([.ref (a 0), .ref (a2 0)]) ++ List.replicate (2 - (lg_sl ([.ref (a 0), .ref (a2 0)])).length) Slot.unset).toArray = ls at hl ⊢
  have hl : lv_has ls 2 [(0, .ref (a 0)), (1, .ref (a2 0))] := hl
  refine lv_aload_n hx hb dX0_become_0 rfl (lv_at hl 1 rfl) ?_
  refine va_get (D := G) (ci := 0) (v := .ref (a2 1)) (C := RX0) (T := TX0) (N := 7) hx hb hts iX0 hown hK hP 5 rfl rfl 0 (by decide) k_9 (fun _ h9 => h9) rfl dX0_become_1 ?_
  refine lv_iconst (v := 0) hx hb dX0_become_4 (by decide) ?_
  refine lv_aload_n hx hb dX0_become_5 rfl (lv_at hl 0 rfl) ?_
  refine va_get (D := G) (ci := 0) (v := .ref (a 1)) (C := RX0) (T := TX0) (N := 7) hx hb hts iX0 hown hK hP 0 rfl rfl 0 (by decide) k_9 (fun _ h9 => h9) rfl dX0_become_6 ?_
  refine lv_iconst (v := 0) hx hb dX0_become_9 (by decide) ?_
  refine lv_aload_n hx hb dX0_become_10 rfl (lv_at hl 0 rfl) ?_
  refine va_get (D := G) (ci := 0) (v := .ref (a 1)) (C := RX0) (T := TX0) (N := 7) hx hb hts iX0 hown hK hP 0 rfl rfl 0 (by decide) k_9 (fun _ h9 => h9) rfl dX0_become_11 ?_
  refine va_alen (v := 4) hx hb hK hP 1 0 rfl rfl rfl dX0_become_14 ?_
  refine zCopy 4 hx hb (hml.trans hl.1.symm) hown k_29 kacn kacs kaci hK hP hD hS 6 1 0 0 rfl rfl rfl rfl (by decide) (by decide) (by decide) (by decide) ⟨Nat.le_of_ble_eq_true rfl, Nat.le_of_ble_eq_true rfl⟩ trivial dX0_become_15 (fun H locs hP hD hS => ?_)
  have hP : va_P G vwCl (ck Z a ((va_cpy st2 st 0 0 4), off, car, fa, wr, tr, ho, ra, ti) ++ ck Z a2 (st2, off2, car2, fa2, wr2, tr2, ho2, ra2, ti2)) H := hP
  have hD : va_D A (ck Z a ((va_cpy st2 st 0 0 4), off, car, fa, wr, tr, ho, ra, ti) ++ ck Z a2 (st2, off2, car2, fa2, wr2, tr2, ho2, ra2, ti2)) := hD
  refine lv_aload_n hx hb dX0_become_18 rfl (lv_at hl 0 rfl) ?_
  refine va_get (D := G) (ci := 0) (v := .ref (a 2)) (C := RX0) (T := TX0) (N := 7) hx hb hts iX0 hown hK hP 0 rfl rfl 1 (by decide) k_18 (fun _ h9 => h9) rfl dX0_become_19 ?_
  refine lv_aload_n hx hb dX0_become_22 rfl (lv_at hl 1 rfl) ?_
  refine va_get (D := G) (ci := 0) (v := .ref (a2 2)) (C := RX0) (T := TX0) (N := 7) hx hb hts iX0 hown hK hP 5 rfl rfl 1 (by decide) k_18 (fun _ h9 => h9) rfl dX0_become_23 ?_
  refine zCv (S := Unit) (ws1 := fun u => ck Z a ((va_cpy st2 st 0 0 4), off2, car2, fa, wr, tr, ho, ra, ti) ++ ck Z a2 (st2, off2, car2, fa2, wr2, tr2, ho2, ra2, ti2)) (wr := [((a 0), .inr (0, [.ref (a 1), .ref (a 2), .ref (a 3), .int tr, .int ho, .int ra, .int ti])), ((a 1), .inl (Z 0, 4, .inl (va_cpy st2 st 0 0 4))), ((a 3), .inr (3, [.ref (a 4), .int wr])), ((a 4), .inl (Z 0, 336, .inl fa)), ((a2 0), .inr (0, [.ref (a2 1), .ref (a2 2), .ref (a2 3), .int tr2, .int ho2, .int ra2, .int ti2])), ((a2 1), .inl (Z 0, 4, .inl st2)), ((a2 3), .inr (3, [.ref (a2 4), .int wr2])), ((a2 4), .inl (Z 0, 336, .inl fa2))]) (va_runV (As := [.ref (a2 2)]) (rest := []) ⟨hx, hb, hml, hown, hts⟩ (m_X1_become l G Z _ (a 2) off car (a2 2) off2 car2) (cwV 1 hts gX0_become_X1_become rfl rfl rfl (by decide +kernel) ⟨Nat.le_of_ble_eq_true rfl, Nat.le_of_ble_eq_true rfl⟩) (zPreV hK hP hD hS hA hSW [2, 7] rfl (by decide) 2 (ci := 1) rfl rfl rfl) rfl rfl hl.1 rfl (lv_room (Nat.le_of_ble_eq_true rfl)) dX0_become_26 ⟨Nat.le_of_ble_eq_true rfl, Nat.le_of_ble_eq_true rfl⟩) hP hD hS hA [2, 7] [0, 1, 3, 4, 5, 6, 8, 9] [0, 1, 8, 2, 3, 4, 5, 9, 6, 7] rfl rfl (by decide) (by decide) (by decide) (fun _ => rfl) (fun u H locs hw26 hP hD hS => ?_)
  try dsimp only at hw26
  have hP : va_P G vwCl (ck Z a ((va_cpy st2 st 0 0 4), off2, car2, fa, wr, tr, ho, ra, ti) ++ ck Z a2 (st2, off2, car2, fa2, wr2, tr2, ho2, ra2, ti2)) H := hP
  have hD : va_D A (ck Z a ((va_cpy st2 st 0 0 4), off2, car2, fa, wr, tr, ho, ra, ti) ++ ck Z a2 (st2, off2, car2, fa2, wr2, tr2, ho2, ra2, ti2)) := hD
  refine lv_aload_n hx hb dX0_become_29 rfl (lv_at hl 0 rfl) ?_
  refine va_get (D := G) (ci := 0) (v := .ref (a 3)) (C := RX0) (T := TX0) (N := 7) hx hb hts iX0 hown hK hP 0 rfl rfl 2 (by decide) k_25 (fun _ h9 => h9) rfl dX0_become_30 ?_
  refine lv_aload_n hx hb dX0_become_33 rfl (lv_at hl 1 rfl) ?_
  refine va_get (D := G) (ci := 0) (v := .ref (a2 3)) (C := RX0) (T := TX0) (N := 7) hx hb hts iX0 hown hK hP 5 rfl rfl 2 (by decide) k_25 (fun _ h9 => h9) rfl dX0_become_34 ?_
  refine zCv (S := Unit) (ws1 := fun u => ck Z a ((va_cpy st2 st 0 0 4), off2, car2, (va_cpy fa2 fa 0 0 336), wr2, tr, ho, ra, ti) ++ ck Z a2 (st2, off2, car2, fa2, wr2, tr2, ho2, ra2, ti2)) (wr := [((a 0), .inr (0, [.ref (a 1), .ref (a 2), .ref (a 3), .int tr, .int ho, .int ra, .int ti])), ((a 1), .inl (Z 0, 4, .inl (va_cpy st2 st 0 0 4))), ((a 2), .inr (1, [.int off2, .int car2])), ((a2 0), .inr (0, [.ref (a2 1), .ref (a2 2), .ref (a2 3), .int tr2, .int ho2, .int ra2, .int ti2])), ((a2 1), .inl (Z 0, 4, .inl st2)), ((a2 2), .inr (1, [.int off2, .int car2]))]) (va_runV (As := [.ref (a2 3)]) (rest := []) ⟨hx, hb, hml, hown, hts⟩ (m_X3_become l G Z _ (a 3) (a 4) fa wr (a2 3) (a2 4) fa2 wr2) (cwV 1 hts gX0_become_X3_become rfl rfl rfl (by decide +kernel) ⟨Nat.le_of_ble_eq_true rfl, Nat.le_of_ble_eq_true rfl⟩) (zPreV hK hP hD hS hA hSW [3, 4, 8, 9] rfl (by decide) 3 (ci := 3) rfl rfl rfl) rfl rfl hl.1 rfl (lv_room (Nat.le_of_ble_eq_true rfl)) dX0_become_37 ⟨Nat.le_of_ble_eq_true rfl, Nat.le_of_ble_eq_true rfl⟩) hP hD hS hA [3, 4, 8, 9] [0, 1, 2, 5, 6, 7] [0, 1, 2, 6, 7, 3, 4, 5, 8, 9] rfl rfl (by decide) (by decide) (by decide) (fun _ => rfl) (fun u H locs hw37 hP hD hS => ?_)
  try dsimp only at hw37
  have hP : va_P G vwCl (ck Z a ((va_cpy st2 st 0 0 4), off2, car2, (va_cpy fa2 fa 0 0 336), wr2, tr, ho, ra, ti) ++ ck Z a2 (st2, off2, car2, fa2, wr2, tr2, ho2, ra2, ti2)) H := hP
  have hD : va_D A (ck Z a ((va_cpy st2 st 0 0 4), off2, car2, (va_cpy fa2 fa 0 0 336), wr2, tr, ho, ra, ti) ++ ck Z a2 (st2, off2, car2, fa2, wr2, tr2, ho2, ra2, ti2)) := hD
  refine lv_aload_n hx hb dX0_become_40 rfl (lv_at hl 0 rfl) ?_
  refine lv_aload_n hx hb dX0_become_41 rfl (lv_at hl 1 rfl) ?_
  refine va_get (D := G) (ci := 0) (v := .int tr2) (C := RX0) (T := TX0) (N := 7) hx hb hts iX0 hown hK hP 5 rfl rfl 3 (by decide) k_42 (fun _ h9 => h9) rfl dX0_become_42 ?_
  refine va_put (D := G) (ci := 0) (v := .int tr2) (ty := .int) (C := RX0) (T := TX0) (N := 7) hx hb hts iX0 tyX0 tyX0_ok nmX0 hown hK hP hD hS 0 rfl rfl 3 (by decide) k_42 (fun _ h9 => h9) rfl (by decide +kernel) rfl rfl (Nat.le_of_ble_eq_true rfl) dX0_become_45 (fun H locs hP hD hS => ?_)
  have hP : va_P G vwCl (ck Z a ((va_cpy st2 st 0 0 4), off2, car2, (va_cpy fa2 fa 0 0 336), wr2, tr2, ho, ra, ti) ++ ck Z a2 (st2, off2, car2, fa2, wr2, tr2, ho2, ra2, ti2)) H := hP
  have hD : va_D A (ck Z a ((va_cpy st2 st 0 0 4), off2, car2, (va_cpy fa2 fa 0 0 336), wr2, tr2, ho, ra, ti) ++ ck Z a2 (st2, off2, car2, fa2, wr2, tr2, ho2, ra2, ti2)) := hD
  refine lv_aload_n hx hb dX0_become_48 rfl (lv_at hl 0 rfl) ?_
  refine lv_aload_n hx hb dX0_become_49 rfl (lv_at hl 1 rfl) ?_
  refine va_get (D := G) (ci := 0) (v := .int ho2) (C := RX0) (T := TX0) (N := 7) hx hb hts iX0 hown hK hP 5 rfl rfl 4 (by decide) k_46 (fun _ h9 => h9) rfl dX0_become_50 ?_
  refine va_put (D := G) (ci := 0) (v := .int ho2) (ty := .int) (C := RX0) (T := TX0) (N := 7) hx hb hts iX0 tyX0 tyX0_ok nmX0 hown hK hP hD hS 0 rfl rfl 4 (by decide) k_46 (fun _ h9 => h9) rfl (by decide +kernel) rfl rfl (Nat.le_of_ble_eq_true rfl) dX0_become_53 (fun H locs hP hD hS => ?_)
  have hP : va_P G vwCl (ck Z a ((va_cpy st2 st 0 0 4), off2, car2, (va_cpy fa2 fa 0 0 336), wr2, tr2, ho2, ra, ti) ++ ck Z a2 (st2, off2, car2, fa2, wr2, tr2, ho2, ra2, ti2)) H := hP
  have hD : va_D A (ck Z a ((va_cpy st2 st 0 0 4), off2, car2, (va_cpy fa2 fa 0 0 336), wr2, tr2, ho2, ra, ti) ++ ck Z a2 (st2, off2, car2, fa2, wr2, tr2, ho2, ra2, ti2)) := hD
  refine lv_aload_n hx hb dX0_become_56 rfl (lv_at hl 0 rfl) ?_
  refine lv_aload_n hx hb dX0_become_57 rfl (lv_at hl 1 rfl) ?_
  refine va_get (D := G) (ci := 0) (v := .int ra2) (C := RX0) (T := TX0) (N := 7) hx hb hts iX0 hown hK hP 5 rfl rfl 5 (by decide) k_49 (fun _ h9 => h9) rfl dX0_become_58 ?_
  refine va_put (D := G) (ci := 0) (v := .int ra2) (ty := .int) (C := RX0) (T := TX0) (N := 7) hx hb hts iX0 tyX0 tyX0_ok nmX0 hown hK hP hD hS 0 rfl rfl 5 (by decide) k_49 (fun _ h9 => h9) rfl (by decide +kernel) rfl rfl (Nat.le_of_ble_eq_true rfl) dX0_become_61 (fun H locs hP hD hS => ?_)
  have hP : va_P G vwCl (ck Z a ((va_cpy st2 st 0 0 4), off2, car2, (va_cpy fa2 fa 0 0 336), wr2, tr2, ho2, ra2, ti) ++ ck Z a2 (st2, off2, car2, fa2, wr2, tr2, ho2, ra2, ti2)) H := hP
  have hD : va_D A (ck Z a ((va_cpy st2 st 0 0 4), off2, car2, (va_cpy fa2 fa 0 0 336), wr2, tr2, ho2, ra2, ti) ++ ck Z a2 (st2, off2, car2, fa2, wr2, tr2, ho2, ra2, ti2)) := hD
  refine lv_aload_n hx hb dX0_become_64 rfl (lv_at hl 0 rfl) ?_
  refine lv_aload_n hx hb dX0_become_65 rfl (lv_at hl 1 rfl) ?_
  refine va_get (D := G) (ci := 0) (v := .int ti2) (C := RX0) (T := TX0) (N := 7) hx hb hts iX0 hown hK hP 5 rfl rfl 6 (by decide) k_52 (fun _ h9 => h9) rfl dX0_become_66 ?_
  refine va_put (D := G) (ci := 0) (v := .int ti2) (ty := .int) (C := RX0) (T := TX0) (N := 7) hx hb hts iX0 tyX0 tyX0_ok nmX0 hown hK hP hD hS 0 rfl rfl 6 (by decide) k_52 (fun _ h9 => h9) rfl (by decide +kernel) rfl rfl (Nat.le_of_ble_eq_true rfl) dX0_become_69 (fun H locs hP hD hS => ?_)
  have hP : va_P G vwCl (ck Z a ((va_cpy st2 st 0 0 4), off2, car2, (va_cpy fa2 fa 0 0 336), wr2, tr2, ho2, ra2, ti2) ++ ck Z a2 (st2, off2, car2, fa2, wr2, tr2, ho2, ra2, ti2)) H := hP
  have hD : va_D A (ck Z a ((va_cpy st2 st 0 0 4), off2, car2, (va_cpy fa2 fa 0 0 336), wr2, tr2, ho2, ra2, ti2) ++ ck Z a2 (st2, off2, car2, fa2, wr2, tr2, ho2, ra2, ti2)) := hD
  exact W.vret hx hb hr (zEv () (by
      trivial) hP hD hS) hS.2.2 dX0_become_72

set_option maxHeartbeats 4000000 in
set_option maxRecDepth 100000 in
theorem m_X0_init (l : Launch) (G : va_G) (Z : Nat → ClassId) (sz : Nat) (h : Nat) (tr : Int32) (ho : Int32) (ra : Int32) (ti : Int32)  : Met l yX0_init wsX0_init ({ frames := 2, cells := 4, slots := 344, locals := 32 }) (va_Pc [.ref h] (zWP G Z sz ([(h, .inr (0, [.null, .null, .null, .int tr, .int ho, .int ra, .int ti]))]))) (va_Qv (fun (u : (Nat → Nat) × (Nat → Int32)) => u.1 0 = h ∧ u.2 = cSt0) (fun (u : (Nat → Nat) × (Nat → Int32)) t => zB G (va_A ([(h, .inr (0, [.null, .null, .null, .int tr, .int ho, .int ra, .int ti]))]) sz) (ck Z u.1 (u.2, 0, 0, (fun _ => 0), 0, tr, ho, ra, ti)) t) (va_A ([(h, .inr (0, [.null, .null, .null, .int tr, .int ho, .int ra, .int ti]))]) sz)) 4 344 (va_A ([(h, .inr (0, [.null, .null, .null, .int tr, .int ho, .int ra, .int ti]))]) sz) := by
  refine Met.ofW (cc := cX0_init) (maxL := 1) (ret := none) (by decide) rfl ?_
  intro p e s m args below meth c s₁ B hml hv
  have hx := B.exec
  have hb := B.bytes
  have hr := B.returns
  have hts := atoms_spec (ws := wsX0_init) B.pre
  have hown : s.vm.findClass RX0 = some m.cls := findClass_of_methodNamed B.named
  have hlocks := B.notSynchronized
  have hin : meth.name = "<init>" := (name_of_methodNamed B.named B.method).1
  obtain ⟨rfl, hsz, hP, hK, hD, hA, hS, hSW⟩ := zEnter hv
  subst hsz
  generalize va_A ([(h, .inr (0, [.null, .null, .null, .int tr, .int ho, .int ra, .int ti]))]) s.heap.size = A at hD hA hS hSW ⊢
  have k_3 := hts (.methodLink RX0 3 objectInit) (List.mem_of_getElem? (i := 1) rfl)
  have kio := hts (.instanceMethod objectInit) (List.mem_of_getElem? (i := 2) rfl)
  have kco := hts (.code objectInit ⟨#[0xb1]⟩ 1 none) (List.mem_of_getElem? (i := 3) rfl)
  have karr_int := hts (.arrayClass .int) (List.mem_of_getElem? (i := 4) rfl)
  have k_9 := hts (.fieldLink RX0 9 "WarmRods$Clock" "settings" "[I") (List.mem_of_getElem? (i := 5) rfl)
  have iX0 : ∀ w ∈ u_ws RX0 TX0 7, w ∈ wsX0_init := fun _ h => List.mem_cons_of_mem _ (List.mem_append_left _ (List.mem_append_left _ (List.mem_append_right _ h)))
  have k_15 := hts (.classLink RX0 15 RX1) (List.mem_of_getElem? (i := 6) rfl)
  have kin_X1 := hts (.instantiable RX1 2) (List.mem_of_getElem? (i := 7) rfl)
  have kini_X1 := hts (.initialized RX1) (List.mem_of_getElem? (i := 8) rfl)
  have iX1 : ∀ w ∈ u_ws RX1 TX1 2, w ∈ wsX0_init := fun _ h => List.mem_cons_of_mem _ (List.mem_append_left _ (List.mem_append_right _ h))
  have kins_X1_init := hts (.instanceMethod yX1_init) (List.mem_of_getElem? (i := 14) rfl)
  have k_18 := hts (.fieldLink RX0 18 "WarmRods$Clock" "drift" "LWarmRods$Drift;") (List.mem_of_getElem? (i := 9) rfl)
  have k_22 := hts (.classLink RX0 22 RX3) (List.mem_of_getElem? (i := 10) rfl)
  have kin_X3 := hts (.instantiable RX3 2) (List.mem_of_getElem? (i := 11) rfl)
  have kini_X3 := hts (.initialized RX3) (List.mem_of_getElem? (i := 12) rfl)
  have iX3 : ∀ w ∈ u_ws RX3 TX3 2, w ∈ wsX0_init := fun _ h => List.mem_cons_of_mem _ (List.mem_append_right _ h)
  have kins_X3_init := hts (.instanceMethod yX3_init) (List.mem_of_getElem? (i := 17) rfl)
  have k_25 := hts (.fieldLink RX0 25 "WarmRods$Clock" "log" "LWarmRods$Log;") (List.mem_of_getElem? (i := 13) rfl)
  have hP : va_P G vwCl ([(h, .inr (0, [.null, .null, .null, .int tr, .int ho, .int ra, .int ti]))]) s.heap := hP
  have hl := lv_entry ([.ref h]) (n := 1) (Nat.le_of_ble_eq_true rfl)
  rw [lg_entry_eq]
  generalize (lg_sl ([.ref h]) ++ List.replicate (1 - (lg_sl ([.ref h])).length) Slot.unset).toArray = ls at hl ⊢
  have hl : lv_has ls 1 [(0, .ref h)] := hl
  refine lv_aload_n hx hb dX0_init_0 rfl (lv_at hl 0 rfl) ?_
  refine W.objInit hx hb hown k_3 kio kco rfl (by rw [hml]; exact hl.1) rfl dX0_init_1 (Nat.le_of_ble_eq_true rfl) (Nat.le_of_ble_eq_true rfl) ?_
  refine W.eq (g2 := F0 m 4 ls []) rfl ?_
  refine lv_aload_n hx hb dX0_init_4 rfl (lv_at hl 0 rfl) ?_
  refine lv_iconst (v := 4) hx hb dX0_init_5 (by decide) ?_
  refine zNewa (t0 := 0) (atype := .int) (ty := .int) (N' := 4) hx hb karr_int rfl hK rfl hP hD hS hA (fun _ => rfl) (by decide) (by decide) (Nat.le_of_ble_eq_true rfl) (Nat.le_of_ble_eq_true rfl) (Nat.le_of_ble_eq_true rfl) dX0_init_6 (fun q6 H hP hD hS => ?_)
  have hP : va_P G vwCl ([(h, .inr (0, [.null, .null, .null, .int tr, .int ho, .int ra, .int ti])), (q6, .inl (Z 0, 4, .inl (fun _ => 0)))]) H := hP
  have hD : va_D A ([(h, .inr (0, [.null, .null, .null, .int tr, .int ho, .int ra, .int ti])), (q6, .inl (Z 0, 4, .inl (fun _ => 0)))]) := hD
  refine lv_dup hx hb dX0_init_8 rfl ?_
  refine lv_iconst (v := 0) hx hb dX0_init_9 (by decide) ?_
  refine lv_bipush (v := 12) hx hb dX0_init_10 (by decide) ?_
  refine zIast (f := (fun _ => 0)) hx hb hK hP hD hS 1 0 rfl rfl 0 (by decide) (by decide) (by decide) dX0_init_12 (fun H locs hP hD hS => ?_)
  have hP : va_P G vwCl ([(h, .inr (0, [.null, .null, .null, .int tr, .int ho, .int ra, .int ti])), (q6, .inl (Z 0, 4, .inl (upd (fun _ => 0) 0 12)))]) H := hP
  have hD : va_D A ([(h, .inr (0, [.null, .null, .null, .int tr, .int ho, .int ra, .int ti])), (q6, .inl (Z 0, 4, .inl (upd (fun _ => 0) 0 12)))]) := hD
  refine lv_dup hx hb dX0_init_13 rfl ?_
  refine lv_iconst (v := 1) hx hb dX0_init_14 (by decide) ?_
  refine lv_bipush (v := 15) hx hb dX0_init_15 (by decide) ?_
  refine zIast (f := (upd (fun _ => 0) 0 12)) hx hb hK hP hD hS 1 0 rfl rfl 1 (by decide) (by decide) (by decide) dX0_init_17 (fun H locs hP hD hS => ?_)
  have hP : va_P G vwCl ([(h, .inr (0, [.null, .null, .null, .int tr, .int ho, .int ra, .int ti])), (q6, .inl (Z 0, 4, .inl (upd (upd (fun _ => 0) 0 12) 1 15)))]) H := hP
  have hD : va_D A ([(h, .inr (0, [.null, .null, .null, .int tr, .int ho, .int ra, .int ti])), (q6, .inl (Z 0, 4, .inl (upd (upd (fun _ => 0) 0 12) 1 15)))]) := hD
  refine lv_dup hx hb dX0_init_18 rfl ?_
  refine lv_iconst (v := 2) hx hb dX0_init_19 (by decide) ?_
  refine lv_iconst (v := 0) hx hb dX0_init_20 (by decide) ?_
  refine zIast (f := (upd (upd (fun _ => 0) 0 12) 1 15)) hx hb hK hP hD hS 1 0 rfl rfl 2 (by decide) (by decide) (by decide) dX0_init_21 (fun H locs hP hD hS => ?_)
  have hP : va_P G vwCl ([(h, .inr (0, [.null, .null, .null, .int tr, .int ho, .int ra, .int ti])), (q6, .inl (Z 0, 4, .inl (upd (upd (upd (fun _ => 0) 0 12) 1 15) 2 0)))]) H := hP
  have hD : va_D A ([(h, .inr (0, [.null, .null, .null, .int tr, .int ho, .int ra, .int ti])), (q6, .inl (Z 0, 4, .inl (upd (upd (upd (fun _ => 0) 0 12) 1 15) 2 0)))]) := hD
  refine lv_dup hx hb dX0_init_22 rfl ?_
  refine lv_iconst (v := 3) hx hb dX0_init_23 (by decide) ?_
  refine lv_sipush (v := 500) hx hb dX0_init_24 (by decide) ?_
  refine zIast (f := (upd (upd (upd (fun _ => 0) 0 12) 1 15) 2 0)) hx hb hK hP hD hS 1 0 rfl rfl 3 (by decide) (by decide) (by decide) dX0_init_27 (fun H locs hP hD hS => ?_)
  have hP : va_P G vwCl ([(h, .inr (0, [.null, .null, .null, .int tr, .int ho, .int ra, .int ti])), (q6, .inl (Z 0, 4, .inl (upd (upd (upd (upd (fun _ => 0) 0 12) 1 15) 2 0) 3 500)))]) H := hP
  have hD : va_D A ([(h, .inr (0, [.null, .null, .null, .int tr, .int ho, .int ra, .int ti])), (q6, .inl (Z 0, 4, .inl (upd (upd (upd (upd (fun _ => 0) 0 12) 1 15) 2 0) 3 500)))]) := hD
  refine va_putF (D := G) (ci := 0) (v := .ref q6) (ty := .array .int) (C := RX0) (T := TX0) (N := 7) hx hb hts iX0 tyX0 tyX0_ok nmX0 hown hK hP hD hS 0 rfl rfl 0 (by decide) k_9 (fun _ h9 => h9) rfl hin rfl (by decide +kernel) rfl rfl (Nat.le_of_ble_eq_true rfl) dX0_init_28 (fun H locs hP hD hS => ?_)
  have hP : va_P G vwCl ([(h, .inr (0, [.ref q6, .null, .null, .int tr, .int ho, .int ra, .int ti])), (q6, .inl (Z 0, 4, .inl (upd (upd (upd (upd (fun _ => 0) 0 12) 1 15) 2 0) 3 500)))]) H := hP
  have hD : va_D A ([(h, .inr (0, [.ref q6, .null, .null, .int tr, .int ho, .int ra, .int ti])), (q6, .inl (Z 0, 4, .inl (upd (upd (upd (upd (fun _ => 0) 0 12) 1 15) 2 0) 3 500)))]) := hD
  refine lv_aload_n hx hb dX0_init_31 rfl (lv_at hl 0 rfl) ?_
  refine va_new (ci := 1) (fs := [.int 0, .int 0]) (C := RX1) (T := TX1) (N := 2) hx hb hts iX1 tyX1 tyX1_ok hown k_15 kin_X1 kini_X1 hK hP hD hS hA rfl (fun j hj => by rcases (show j = 0 ∨ j = 1 by omega) with rfl | rfl <;> rfl) (Nat.le_of_ble_eq_true rfl) (Nat.le_of_ble_eq_true rfl) dX0_init_32 (fun q32 H hP hD hS => ?_)
  have hP : va_P G vwCl ([(h, .inr (0, [.ref q6, .null, .null, .int tr, .int ho, .int ra, .int ti])), (q6, .inl (Z 0, 4, .inl (upd (upd (upd (upd (fun _ => 0) 0 12) 1 15) 2 0) 3 500))), (q32, .inr (1, [.int 0, .int 0]))]) H := hP
  have hD : va_D A ([(h, .inr (0, [.ref q6, .null, .null, .int tr, .int ho, .int ra, .int ti])), (q6, .inl (Z 0, 4, .inl (upd (upd (upd (upd (fun _ => 0) 0 12) 1 15) 2 0) 3 500))), (q32, .inr (1, [.int 0, .int 0]))]) := hD
  refine lv_dup hx hb dX0_init_35 rfl ?_
  refine zCv (S := Unit) (ws1 := fun u => [(h, .inr (0, [.ref q6, .null, .null, .int tr, .int ho, .int ra, .int ti])), (q6, .inl (Z 0, 4, .inl (upd (upd (upd (upd (fun _ => 0) 0 12) 1 15) 2 0) 3 500))), (q32, .inr (1, [.int 0, .int 0]))]) (wr := [(h, .inr (0, [.ref q6, .null, .null, .int tr, .int ho, .int ra, .int ti])), (q6, .inl (Z 0, 4, .inl (upd (upd (upd (upd (fun _ => 0) 0 12) 1 15) 2 0) 3 500)))]) (va_runIN (As := []) (rest := [.ref q32, .ref h]) ⟨hx, hb, hml, hown, hts⟩ (m_X1_init l G Z _ q32 0 0) (⟨va_cnB 0 hts ggX0_init_X1_init rfl rfl rfl (hSW.1.1 (.methodLinkNest RX0 17 yX1_init "WarmRods") (List.mem_of_getElem? (i := 1) rfl)) kini_X1 (by decide +kernel) ⟨Nat.le_of_ble_eq_true rfl, Nat.le_of_ble_eq_true rfl⟩, rfl, kins_X1_init⟩) (zPreS hK hP hD hS hA hSW [2] rfl (by decide)) rfl rfl hl.1 rfl (lv_room (Nat.le_of_ble_eq_true rfl)) dX0_init_36 ⟨Nat.le_of_ble_eq_true rfl, Nat.le_of_ble_eq_true rfl⟩) hP hD hS hA [2] [0, 1] [0, 1, 2] rfl rfl (by decide) (by decide) (by decide) (fun _ => rfl) (fun u H locs hw36 hP hD hS => ?_)
  try dsimp only at hw36
  have hP : va_P G vwCl ([(h, .inr (0, [.ref q6, .null, .null, .int tr, .int ho, .int ra, .int ti])), (q6, .inl (Z 0, 4, .inl (upd (upd (upd (upd (fun _ => 0) 0 12) 1 15) 2 0) 3 500))), (q32, .inr (1, [.int 0, .int 0]))]) H := hP
  have hD : va_D A ([(h, .inr (0, [.ref q6, .null, .null, .int tr, .int ho, .int ra, .int ti])), (q6, .inl (Z 0, 4, .inl (upd (upd (upd (upd (fun _ => 0) 0 12) 1 15) 2 0) 3 500))), (q32, .inr (1, [.int 0, .int 0]))]) := hD
  refine va_putF (D := G) (ci := 0) (v := .ref q32) (ty := .object "WarmRods$Drift") (C := RX0) (T := TX0) (N := 7) hx hb hts iX0 tyX0 tyX0_ok nmX0 hown hK hP hD hS 0 rfl rfl 1 (by decide) k_18 (fun _ h9 => h9) rfl hin rfl (by decide +kernel) rfl rfl (Nat.le_of_ble_eq_true rfl) dX0_init_39 (fun H locs hP hD hS => ?_)
  have hP : va_P G vwCl ([(h, .inr (0, [.ref q6, .ref q32, .null, .int tr, .int ho, .int ra, .int ti])), (q6, .inl (Z 0, 4, .inl (upd (upd (upd (upd (fun _ => 0) 0 12) 1 15) 2 0) 3 500))), (q32, .inr (1, [.int 0, .int 0]))]) H := hP
  have hD : va_D A ([(h, .inr (0, [.ref q6, .ref q32, .null, .int tr, .int ho, .int ra, .int ti])), (q6, .inl (Z 0, 4, .inl (upd (upd (upd (upd (fun _ => 0) 0 12) 1 15) 2 0) 3 500))), (q32, .inr (1, [.int 0, .int 0]))]) := hD
  refine lv_aload_n hx hb dX0_init_42 rfl (lv_at hl 0 rfl) ?_
  refine va_new (ci := 3) (fs := [.null, .int 0]) (C := RX3) (T := TX3) (N := 2) hx hb hts iX3 tyX3 tyX3_ok hown k_22 kin_X3 kini_X3 hK hP hD hS hA rfl (fun j hj => by rcases (show j = 0 ∨ j = 1 by omega) with rfl | rfl <;> rfl) (Nat.le_of_ble_eq_true rfl) (Nat.le_of_ble_eq_true rfl) dX0_init_43 (fun q43 H hP hD hS => ?_)
  have hP : va_P G vwCl ([(h, .inr (0, [.ref q6, .ref q32, .null, .int tr, .int ho, .int ra, .int ti])), (q6, .inl (Z 0, 4, .inl (upd (upd (upd (upd (fun _ => 0) 0 12) 1 15) 2 0) 3 500))), (q32, .inr (1, [.int 0, .int 0])), (q43, .inr (3, [.null, .int 0]))]) H := hP
  have hD : va_D A ([(h, .inr (0, [.ref q6, .ref q32, .null, .int tr, .int ho, .int ra, .int ti])), (q6, .inl (Z 0, 4, .inl (upd (upd (upd (upd (fun _ => 0) 0 12) 1 15) 2 0) 3 500))), (q32, .inr (1, [.int 0, .int 0])), (q43, .inr (3, [.null, .int 0]))]) := hD
  refine lv_dup hx hb dX0_init_46 rfl ?_
  refine zCv (S := Nat) (ws1 := fun u => [(h, .inr (0, [.ref q6, .ref q32, .null, .int tr, .int ho, .int ra, .int ti])), (q6, .inl (Z 0, 4, .inl (upd (upd (upd (upd (fun _ => 0) 0 12) 1 15) 2 0) 3 500))), (q32, .inr (1, [.int 0, .int 0])), (q43, .inr (3, [.ref u, .int 0])), (u, .inl (Z 0, 336, .inl (fun _ => 0)))]) (wr := [(h, .inr (0, [.ref q6, .ref q32, .null, .int tr, .int ho, .int ra, .int ti])), (q6, .inl (Z 0, 4, .inl (upd (upd (upd (upd (fun _ => 0) 0 12) 1 15) 2 0) 3 500))), (q32, .inr (1, [.int 0, .int 0]))]) (va_runIN (As := []) (rest := [.ref q43, .ref h]) ⟨hx, hb, hml, hown, hts⟩ (m_X3_init l G Z _ q43 0) (⟨va_cnB 0 hts ggX0_init_X3_init rfl rfl rfl (hSW.1.1 (.methodLinkNest RX0 24 yX3_init "WarmRods") (List.mem_of_getElem? (i := 2) rfl)) kini_X3 (by decide +kernel) ⟨Nat.le_of_ble_eq_true rfl, Nat.le_of_ble_eq_true rfl⟩, rfl, kins_X3_init⟩) (zPreS hK hP hD hS hA hSW [3] rfl (by decide)) rfl rfl hl.1 rfl (lv_room (Nat.le_of_ble_eq_true rfl)) dX0_init_47 ⟨Nat.le_of_ble_eq_true rfl, Nat.le_of_ble_eq_true rfl⟩) hP hD hS hA [3] [0, 1, 2] [0, 1, 2, 3, 4] rfl rfl (by decide) (by decide) (by decide) (fun _ => rfl) (fun u H locs hw47 hP hD hS => ?_)
  obtain ⟨q_47, rfl⟩ : ∃ z, z = u := ⟨_, rfl⟩
  try dsimp only at hw47
  have hP : va_P G vwCl ([(h, .inr (0, [.ref q6, .ref q32, .null, .int tr, .int ho, .int ra, .int ti])), (q6, .inl (Z 0, 4, .inl (upd (upd (upd (upd (fun _ => 0) 0 12) 1 15) 2 0) 3 500))), (q32, .inr (1, [.int 0, .int 0])), (q43, .inr (3, [.ref q_47, .int 0])), (q_47, .inl (Z 0, 336, .inl (fun _ => 0)))]) H := hP
  have hD : va_D A ([(h, .inr (0, [.ref q6, .ref q32, .null, .int tr, .int ho, .int ra, .int ti])), (q6, .inl (Z 0, 4, .inl (upd (upd (upd (upd (fun _ => 0) 0 12) 1 15) 2 0) 3 500))), (q32, .inr (1, [.int 0, .int 0])), (q43, .inr (3, [.ref q_47, .int 0])), (q_47, .inl (Z 0, 336, .inl (fun _ => 0)))]) := hD
  refine va_putF (D := G) (ci := 0) (v := .ref q43) (ty := .object "WarmRods$Log") (C := RX0) (T := TX0) (N := 7) hx hb hts iX0 tyX0 tyX0_ok nmX0 hown hK hP hD hS 0 rfl rfl 2 (by decide) k_25 (fun _ h9 => h9) rfl hin rfl (by decide +kernel) rfl rfl (Nat.le_of_ble_eq_true rfl) dX0_init_50 (fun H locs hP hD hS => ?_)
  have hP : va_P G vwCl ([(h, .inr (0, [.ref q6, .ref q32, .ref q43, .int tr, .int ho, .int ra, .int ti])), (q6, .inl (Z 0, 4, .inl (upd (upd (upd (upd (fun _ => 0) 0 12) 1 15) 2 0) 3 500))), (q32, .inr (1, [.int 0, .int 0])), (q43, .inr (3, [.ref q_47, .int 0])), (q_47, .inl (Z 0, 336, .inl (fun _ => 0)))]) H := hP
  have hD : va_D A ([(h, .inr (0, [.ref q6, .ref q32, .ref q43, .int tr, .int ho, .int ra, .int ti])), (q6, .inl (Z 0, 4, .inl (upd (upd (upd (upd (fun _ => 0) 0 12) 1 15) 2 0) 3 500))), (q32, .inr (1, [.int 0, .int 0])), (q43, .inr (3, [.ref q_47, .int 0])), (q_47, .inl (Z 0, 336, .inl (fun _ => 0)))]) := hD
  refine W.widen (k := 4) (n := 344) (by omega) (by omega) ?_
  exact W.vret hx hb hr (zEv ((fun k => match k with | 0 => h | 1 => q6 | 2 => q32 | 3 => q43 | _ => q_47), (upd (upd (upd (upd (fun _ => 0) 0 12) 1 15) 2 0) 3 500)) (by
      refine ⟨rfl, ?_⟩
      funext k
      match k with
      | 0 => rfl
      | 1 => rfl
      | 2 => rfl
      | 3 => rfl
      | k + 4 => rfl) hP hD hS) hS.2.2 dX0_init_53
