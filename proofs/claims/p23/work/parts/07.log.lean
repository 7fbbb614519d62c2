set_option maxHeartbeats 4000000 in
set_option maxRecDepth 100000 in
theorem m_X3_init (l : Launch) (G : va_G) (Z : Nat → ClassId) (sz : Nat) (h : Nat) (wr : Int32)  : Met l yX3_init wsX3_init ({ frames := 1, cells := 1, slots := 336, locals := 12 }) (va_Pc [.ref h] (zWP G Z sz ([(h, .inr (3, [.null, .int wr]))]))) (va_Qv (fun (u : Nat) => True) (fun (u : Nat) t => zB G (va_A ([(h, .inr (3, [.null, .int wr]))]) sz) ([(h, .inr (3, [.ref u, .int wr])), (u, .inl (Z 0, 336, .inl (fun _ => 0)))]) t) (va_A ([(h, .inr (3, [.null, .int wr]))]) sz)) 1 336 (va_A ([(h, .inr (3, [.null, .int wr]))]) sz) := by
  refine Met.ofW (cc := cX3_init) (maxL := 1) (ret := none) (by decide) rfl ?_
  intro p e s m args below meth c s₁ B hml hv
  have hx := B.exec
  have hb := B.bytes
  have hr := B.returns
  have hts := atoms_spec (ws := wsX3_init) B.pre
  have hown : s.vm.findClass RX3 = some m.cls := findClass_of_methodNamed B.named
  have hlocks := B.notSynchronized
  have hin : meth.name = "<init>" := (name_of_methodNamed B.named B.method).1
  obtain ⟨rfl, hsz, hP, hK, hD, hA, hS, hSW⟩ := zEnter hv
  subst hsz
  generalize va_A ([(h, .inr (3, [.null, .int wr]))]) s.heap.size = A at hD hA hS hSW ⊢
  have k_3 := hts (.methodLink RX3 3 objectInit) (List.mem_of_getElem? (i := 1) rfl)
  have kio := hts (.instanceMethod objectInit) (List.mem_of_getElem? (i := 2) rfl)
  have kco := hts (.code objectInit ⟨#[0xb1]⟩ 1 none) (List.mem_of_getElem? (i := 3) rfl)
  have karr_int := hts (.arrayClass .int) (List.mem_of_getElem? (i := 4) rfl)
  have k_9 := hts (.fieldLink RX3 9 "WarmRods$Log" "facts" "[I") (List.mem_of_getElem? (i := 5) rfl)
  have iX3 : ∀ w ∈ u_ws RX3 TX3 2, w ∈ wsX3_init := fun _ h => List.mem_cons_of_mem _ (List.mem_append_right _ h)
  have hP : va_P G vwCl ([(h, .inr (3, [.null, .int wr]))]) s.heap := hP
  have hl := lv_entry ([.ref h]) (n := 1) (Nat.le_of_ble_eq_true rfl)
  rw [lg_entry_eq]
  generalize (lg_sl ([.ref h]) ++ List.replicate (1 - (lg_sl ([.ref h])).length) Slot.unset).toArray = ls at hl ⊢
  have hl : lv_has ls 1 [(0, .ref h)] := hl
  refine lv_aload_n hx hb dX3_init_0 rfl (lv_at hl 0 rfl) ?_
  refine W.objInit hx hb hown k_3 kio kco rfl (by rw [hml]; exact hl.1) rfl dX3_init_1 (Nat.le_of_ble_eq_true rfl) (Nat.le_of_ble_eq_true rfl) ?_
  refine W.eq (g2 := F0 m 4 ls []) rfl ?_
  refine lv_aload_n hx hb dX3_init_4 rfl (lv_at hl 0 rfl) ?_
  refine lv_sipush (v := 336) hx hb dX3_init_5 (by decide) ?_
  refine zNewa (t0 := 0) (atype := .int) (ty := .int) (N' := 336) hx hb karr_int rfl hK rfl hP hD hS hA (fun _ => rfl) (by decide) (by decide) (Nat.le_of_ble_eq_true rfl) (Nat.le_of_ble_eq_true rfl) (Nat.le_of_ble_eq_true rfl) dX3_init_8 (fun q8 H hP hD hS => ?_)
  have hP : va_P G vwCl ([(h, .inr (3, [.null, .int wr])), (q8, .inl (Z 0, 336, .inl (fun _ => 0)))]) H := hP
  have hD : va_D A ([(h, .inr (3, [.null, .int wr])), (q8, .inl (Z 0, 336, .inl (fun _ => 0)))]) := hD
  refine va_putF (D := G) (ci := 3) (v := .ref q8) (ty := .array .int) (C := RX3) (T := TX3) (N := 2) hx hb hts iX3 tyX3 tyX3_ok nmX3 hown hK hP hD hS 0 rfl rfl 0 (by decide) k_9 (fun _ h9 => h9) rfl hin rfl (by decide +kernel) rfl rfl (Nat.le_of_ble_eq_true rfl) dX3_init_10 (fun H locs hP hD hS => ?_)
  have hP : va_P G vwCl ([(h, .inr (3, [.ref q8, .int wr])), (q8, .inl (Z 0, 336, .inl (fun _ => 0)))]) H := hP
  have hD : va_D A ([(h, .inr (3, [.ref q8, .int wr])), (q8, .inl (Z 0, 336, .inl (fun _ => 0)))]) := hD
  refine W.widen (k := 1) (n := 336) (by omega) (by omega) ?_
  exact W.vret hx hb hr (zEv q8 (by
      trivial) hP hD hS) hS.2.2 dX3_init_13

set_option maxHeartbeats 4000000 in
set_option maxRecDepth 100000 in
theorem m_X3_length (l : Launch) (G : va_G) (Z : Nat → ClassId) (sz : Nat) (h : Nat) (f : Nat) (fa : Nat → Int32) (wr : Int32)  : Met l yX3_length wsX3_length ({ frames := 1, cells := 0, slots := 0, locals := 13 }) (va_Pc [.ref h] (zWP G Z sz ([(h, .inr (3, [.ref f, .int wr])), (f, .inl (Z 0, 336, .inl fa))]))) (va_Qi (fun (r : Int32) (u : Unit) => r = zMin wr 48) (fun (u : Unit) t => zB G (va_A ([(h, .inr (3, [.ref f, .int wr])), (f, .inl (Z 0, 336, .inl fa))]) sz) ([(h, .inr (3, [.ref f, .int wr])), (f, .inl (Z 0, 336, .inl fa))]) t) (va_A ([(h, .inr (3, [.ref f, .int wr])), (f, .inl (Z 0, 336, .inl fa))]) sz)) 0 0 (va_A ([(h, .inr (3, [.ref f, .int wr])), (f, .inl (Z 0, 336, .inl fa))]) sz) := by
  refine Met.ofW (cc := cX3_length) (maxL := 1) (ret := (some .int)) (by decide) rfl ?_
  intro p e s m args below meth c s₁ B hml hv
  have hx := B.exec
  have hb := B.bytes
  have hr := B.returns
  have hts := atoms_spec (ws := wsX3_length) B.pre
  have hown : s.vm.findClass RX3 = some m.cls := findClass_of_methodNamed B.named
  have hlocks := B.notSynchronized
  obtain ⟨rfl, hsz, hP, hK, hD, hA, hS, hSW⟩ := zEnter hv
  subst hsz
  generalize va_A ([(h, .inr (3, [.ref f, .int wr])), (f, .inl (Z 0, 336, .inl fa))]) s.heap.size = A at hD hA hS hSW ⊢
  have k_15 := hts (.fieldLink RX3 15 "WarmRods$Log" "written" "I") (List.mem_of_getElem? (i := 1) rfl)
  have iX3 : ∀ w ∈ u_ws RX3 TX3 2, w ∈ wsX3_length := fun _ h => List.mem_cons_of_mem _ (List.mem_append_right _ h)
  have k_19 := hts (.methodLink RX3 19 Lib.Math.min.name) (List.mem_of_getElem? (i := 2) rfl)
  have kms_min := hts (.static Lib.Math.min.name) (List.mem_of_getElem? (i := 3) rfl)
  have kmi := hts (.initialized "java/lang/Math") (List.mem_of_getElem? (i := 4) rfl)
  have kmc_min := hts (.code Lib.Math.min.name Lib.Math.min.code 2 (some .int)) (List.mem_of_getElem? (i := 5) rfl)
  have hP : va_P G vwCl ([(h, .inr (3, [.ref f, .int wr])), (f, .inl (Z 0, 336, .inl fa))]) s.heap := hP
  have hl := lv_entry ([.ref h]) (n := 1) (Nat.le_of_ble_eq_true rfl)
  rw [lg_entry_eq]
  generalize (lg_sl ([.ref h]) ++ List.replicate (1 - (lg_sl ([.ref h])).length) Slot.unset).toArray = ls at hl ⊢
  have hl : lv_has ls 1 [(0, .ref h)] := hl
  refine lv_aload_n hx hb dX3_length_0 rfl (lv_at hl 0 rfl) ?_
  refine va_get (D := G) (ci := 3) (v := .int wr) (C := RX3) (T := TX3) (N := 2) hx hb hts iX3 hown hK hP 0 rfl rfl 1 (by decide) k_15 (fun _ h9 => h9) rfl dX3_length_1 ?_
  refine lv_bipush (v := 48) hx hb dX3_length_4 (by decide) ?_
  refine va_mmin hx hb (hml.trans hl.1.symm) hown k_19 kms_min kmi kmc_min (Nat.le_of_ble_eq_true rfl) (Nat.le_of_ble_eq_true rfl) (Nat.zero_le _) (Nat.zero_le _) dX3_length_6 ?_
  refine zTopI (y := zMin wr 48) rfl ?_
  exact W.iret hx hb hr (zEi () (by
      rfl) hP hD hS) hS.2.2 dX3_length_9

set_option maxHeartbeats 4000000 in
set_option maxRecDepth 100000 in
theorem m_X3_become (l : Launch) (G : va_G) (Z : Nat → ClassId) (sz : Nat) (h : Nat) (f : Nat) (fa : Nat → Int32) (wr : Int32) (h2 : Nat) (f2 : Nat) (fa2 : Nat → Int32) (wr2 : Int32)  : Met l yX3_become wsX3_become ({ frames := 1, cells := 0, slots := 0, locals := 18 }) (va_Pc [.ref h, .ref h2] (zWP G Z sz ([(h, .inr (3, [.ref f, .int wr])), (f, .inl (Z 0, 336, .inl fa)), (h2, .inr (3, [.ref f2, .int wr2])), (f2, .inl (Z 0, 336, .inl fa2))]))) (va_Qv (fun (u : Unit) => True) (fun (u : Unit) t => zB G (va_A ([(h, .inr (3, [.ref f, .int wr])), (f, .inl (Z 0, 336, .inl fa)), (h2, .inr (3, [.ref f2, .int wr2])), (f2, .inl (Z 0, 336, .inl fa2))]) sz) ([(h, .inr (3, [.ref f, .int wr2])), (f, .inl (Z 0, 336, .inl (va_cpy fa2 fa 0 0 336))), (h2, .inr (3, [.ref f2, .int wr2])), (f2, .inl (Z 0, 336, .inl fa2))]) t) (va_A ([(h, .inr (3, [.ref f, .int wr])), (f, .inl (Z 0, 336, .inl fa)), (h2, .inr (3, [.ref f2, .int wr2])), (f2, .inl (Z 0, 336, .inl fa2))]) sz)) 0 0 (va_A ([(h, .inr (3, [.ref f, .int wr])), (f, .inl (Z 0, 336, .inl fa)), (h2, .inr (3, [.ref f2, .int wr2])), (f2, .inl (Z 0, 336, .inl fa2))]) sz) := by
  refine Met.ofW (cc := cX3_become) (maxL := 2) (ret := none) (by decide) rfl ?_
  intro p e s m args below meth c s₁ B hml hv
  have hx := B.exec
  have hb := B.bytes
  have hr := B.returns
  have hts := atoms_spec (ws := wsX3_become) B.pre
  have hown : s.vm.findClass RX3 = some m.cls := findClass_of_methodNamed B.named
  have hlocks := B.notSynchronized
  obtain ⟨rfl, hsz, hP, hK, hD, hA, hS, hSW⟩ := zEnter hv
  subst hsz
  generalize va_A ([(h, .inr (3, [.ref f, .int wr])), (f, .inl (Z 0, 336, .inl fa)), (h2, .inr (3, [.ref f2, .int wr2])), (f2, .inl (Z 0, 336, .inl fa2))]) s.heap.size = A at hD hA hS hSW ⊢
  have k_9 := hts (.fieldLink RX3 9 "WarmRods$Log" "facts" "[I") (List.mem_of_getElem? (i := 1) rfl)
  have iX3 : ∀ w ∈ u_ws RX3 TX3 2, w ∈ wsX3_become := fun _ h => List.mem_cons_of_mem _ (List.mem_append_right _ h)
  have k_25 := hts (.methodLink RX3 25 arraycopyName) (List.mem_of_getElem? (i := 2) rfl)
  have kacn := hts (.native arraycopyName) (List.mem_of_getElem? (i := 3) rfl)
  have kacs := hts (.static arraycopyName) (List.mem_of_getElem? (i := 4) rfl)
  have kaci := hts (.initialized "java/lang/System") (List.mem_of_getElem? (i := 5) rfl)
  have k_15 := hts (.fieldLink RX3 15 "WarmRods$Log" "written" "I") (List.mem_of_getElem? (i := 6) rfl)
  have hP : va_P G vwCl ([(h, .inr (3, [.ref f, .int wr])), (f, .inl (Z 0, 336, .inl fa)), (h2, .inr (3, [.ref f2, .int wr2])), (f2, .inl (Z 0, 336, .inl fa2))]) s.heap := hP
  have hl := lv_entry ([.ref h, .ref h2]) (n := 2) (Nat.le_of_ble_eq_true rfl)
  rw [lg_entry_eq]
  generalize (lg_sl ([.ref h, .ref h2]) ++ List.replicate (2 - (lg_sl ([.ref h, .ref h2])).length) Slot.unset).toArray = ls at hl ⊢
  have hl : lv_has ls 2 [(0, .ref h), (1, .ref h2)] := hl
  refine lv_aload_n hx hb dX3_become_0 rfl (lv_at hl 1 rfl) ?_
  refine va_get (D := G) (ci := 3) (v := .ref f2) (C := RX3) (T := TX3) (N := 2) hx hb hts iX3 hown hK hP 2 rfl rfl 0 (by decide) k_9 (fun _ h9 => h9) rfl dX3_become_1 ?_
  refine lv_iconst (v := 0) hx hb dX3_become_4 (by decide) ?_
  refine lv_aload_n hx hb dX3_become_5 rfl (lv_at hl 0 rfl) ?_
  refine va_get (D := G) (ci := 3) (v := .ref f) (C := RX3) (T := TX3) (N := 2) hx hb hts iX3 hown hK hP 0 rfl rfl 0 (by decide) k_9 (fun _ h9 => h9) rfl dX3_become_6 ?_
  refine lv_iconst (v := 0) hx hb dX3_become_9 (by decide) ?_
  refine lv_aload_n hx hb dX3_become_10 rfl (lv_at hl 0 rfl) ?_
  refine va_get (D := G) (ci := 3) (v := .ref f) (C := RX3) (T := TX3) (N := 2) hx hb hts iX3 hown hK hP 0 rfl rfl 0 (by decide) k_9 (fun _ h9 => h9) rfl dX3_become_11 ?_
  refine va_alen (v := 336) hx hb hK hP 1 0 rfl rfl rfl dX3_become_14 ?_
  refine zCopy 336 hx hb (hml.trans hl.1.symm) hown k_25 kacn kacs kaci hK hP hD hS 3 1 0 0 rfl rfl rfl rfl (by decide) (by decide) (by decide) (by decide) ⟨Nat.le_of_ble_eq_true rfl, Nat.le_of_ble_eq_true rfl⟩ trivial dX3_become_15 (fun H locs hP hD hS => ?_)
  have hP : va_P G vwCl ([(h, .inr (3, [.ref f, .int wr])), (f, .inl (Z 0, 336, .inl (va_cpy fa2 fa 0 0 336))), (h2, .inr (3, [.ref f2, .int wr2])), (f2, .inl (Z 0, 336, .inl fa2))]) H := hP
  have hD : va_D A ([(h, .inr (3, [.ref f, .int wr])), (f, .inl (Z 0, 336, .inl (va_cpy fa2 fa 0 0 336))), (h2, .inr (3, [.ref f2, .int wr2])), (f2, .inl (Z 0, 336, .inl fa2))]) := hD
  refine lv_aload_n hx hb dX3_become_18 rfl (lv_at hl 0 rfl) ?_
  refine lv_aload_n hx hb dX3_become_19 rfl (lv_at hl 1 rfl) ?_
  refine va_get (D := G) (ci := 3) (v := .int wr2) (C := RX3) (T := TX3) (N := 2) hx hb hts iX3 hown hK hP 2 rfl rfl 1 (by decide) k_15 (fun _ h9 => h9) rfl dX3_become_20 ?_
  refine va_put (D := G) (ci := 3) (v := .int wr2) (ty := .int) (C := RX3) (T := TX3) (N := 2) hx hb hts iX3 tyX3 tyX3_ok nmX3 hown hK hP hD hS 0 rfl rfl 1 (by decide) k_15 (fun _ h9 => h9) rfl (by decide +kernel) rfl rfl (Nat.le_of_ble_eq_true rfl) dX3_become_23 (fun H locs hP hD hS => ?_)
  have hP : va_P G vwCl ([(h, .inr (3, [.ref f, .int wr2])), (f, .inl (Z 0, 336, .inl (va_cpy fa2 fa 0 0 336))), (h2, .inr (3, [.ref f2, .int wr2])), (f2, .inl (Z 0, 336, .inl fa2))]) H := hP
  have hD : va_D A ([(h, .inr (3, [.ref f, .int wr2])), (f, .inl (Z 0, 336, .inl (va_cpy fa2 fa 0 0 336))), (h2, .inr (3, [.ref f2, .int wr2])), (f2, .inl (Z 0, 336, .inl fa2))]) := hD
  exact W.vret hx hb hr (zEv () (by
      trivial) hP hD hS) hS.2.2 dX3_become_26

set_option maxHeartbeats 4000000 in
set_option maxRecDepth 100000 in
theorem m_X3_open (l : Launch) (G : va_G) (Z : Nat → ClassId) (sz : Nat) (h : Nat) (f : Nat) (fa : Nat → Int32) (wr : Int32)  : Met l yX3_open wsX3_open ({ frames := 0, cells := 0, slots := 0, locals := 0 }) (va_Pc [.ref h] (zWP G Z sz ([(h, .inr (3, [.ref f, .int wr])), (f, .inl (Z 0, 336, .inl fa))]))) (va_Qv (fun (u : Unit) => True) (fun (u : Unit) t => zB G (va_A ([(h, .inr (3, [.ref f, .int wr])), (f, .inl (Z 0, 336, .inl fa))]) sz) ([(h, .inr (3, [.ref f, .int (wr + 1)])), (f, .inl (Z 0, 336, .inl fa))]) t) (va_A ([(h, .inr (3, [.ref f, .int wr])), (f, .inl (Z 0, 336, .inl fa))]) sz)) 0 0 (va_A ([(h, .inr (3, [.ref f, .int wr])), (f, .inl (Z 0, 336, .inl fa))]) sz) := by
  refine Met.ofW (cc := cX3_open) (maxL := 1) (ret := none) (by decide) rfl ?_
  intro p e s m args below meth c s₁ B hml hv
  have hx := B.exec
  have hb := B.bytes
  have hr := B.returns
  have hts := atoms_spec (ws := wsX3_open) B.pre
  have hown : s.vm.findClass RX3 = some m.cls := findClass_of_methodNamed B.named
  have hlocks := B.notSynchronized
  obtain ⟨rfl, hsz, hP, hK, hD, hA, hS, hSW⟩ := zEnter hv
  subst hsz
  generalize va_A ([(h, .inr (3, [.ref f, .int wr])), (f, .inl (Z 0, 336, .inl fa))]) s.heap.size = A at hD hA hS hSW ⊢
  have k_15 := hts (.fieldLink RX3 15 "WarmRods$Log" "written" "I") (List.mem_of_getElem? (i := 1) rfl)
  have iX3 : ∀ w ∈ u_ws RX3 TX3 2, w ∈ wsX3_open := fun _ h => List.mem_cons_of_mem _ (List.mem_append_right _ h)
  have hP : va_P G vwCl ([(h, .inr (3, [.ref f, .int wr])), (f, .inl (Z 0, 336, .inl fa))]) s.heap := hP
  have hl := lv_entry ([.ref h]) (n := 1) (Nat.le_of_ble_eq_true rfl)
  rw [lg_entry_eq]
  generalize (lg_sl ([.ref h]) ++ List.replicate (1 - (lg_sl ([.ref h])).length) Slot.unset).toArray = ls at hl ⊢
  have hl : lv_has ls 1 [(0, .ref h)] := hl
  refine lv_aload_n hx hb dX3_open_0 rfl (lv_at hl 0 rfl) ?_
  refine lv_dup hx hb dX3_open_1 rfl ?_
  refine va_get (D := G) (ci := 3) (v := .int wr) (C := RX3) (T := TX3) (N := 2) hx hb hts iX3 hown hK hP 0 rfl rfl 1 (by decide) k_15 (fun _ h9 => h9) rfl dX3_open_2 ?_
  refine lv_iconst (v := 1) hx hb dX3_open_5 (by decide) ?_
  refine lv_iadd hx hb dX3_open_6 ?_
  refine va_put (D := G) (ci := 3) (v := .int (wr + 1)) (ty := .int) (C := RX3) (T := TX3) (N := 2) hx hb hts iX3 tyX3 tyX3_ok nmX3 hown hK hP hD hS 0 rfl rfl 1 (by decide) k_15 (fun _ h9 => h9) rfl (by decide +kernel) rfl rfl (Nat.le_of_ble_eq_true rfl) dX3_open_7 (fun H locs hP hD hS => ?_)
  have hP : va_P G vwCl ([(h, .inr (3, [.ref f, .int (wr + 1)])), (f, .inl (Z 0, 336, .inl fa))]) H := hP
  have hD : va_D A ([(h, .inr (3, [.ref f, .int (wr + 1)])), (f, .inl (Z 0, 336, .inl fa))]) := hD
  exact W.vret hx hb hr (zEv () (by
      trivial) hP hD hS) hS.2.2 dX3_open_10

set_option maxHeartbeats 4000000 in
set_option maxRecDepth 100000 in
theorem m_X3_placeOf (l : Launch) (G : va_G) (Z : Nat → ClassId) (sz : Nat) (h : Nat) (f : Nat) (fa : Nat → Int32) (wr : Int32) (ago : Int32) (what : Int32)  : Met l yX3_placeOf wsX3_placeOf ({ frames := 0, cells := 0, slots := 0, locals := 0 }) (va_Pc [.ref h, .int ago, .int what] (zWP G Z sz ([(h, .inr (3, [.ref f, .int wr])), (f, .inl (Z 0, 336, .inl fa))]))) (va_Qi (fun (r : Int32) (u : Unit) => r = lPl wr ago what) (fun (u : Unit) t => zB G (va_A ([(h, .inr (3, [.ref f, .int wr])), (f, .inl (Z 0, 336, .inl fa))]) sz) ([(h, .inr (3, [.ref f, .int wr])), (f, .inl (Z 0, 336, .inl fa))]) t) (va_A ([(h, .inr (3, [.ref f, .int wr])), (f, .inl (Z 0, 336, .inl fa))]) sz)) 0 0 (va_A ([(h, .inr (3, [.ref f, .int wr])), (f, .inl (Z 0, 336, .inl fa))]) sz) := by
  refine Met.ofW (cc := cX3_placeOf) (maxL := 3) (ret := (some .int)) (by decide) rfl ?_
  intro p e s m args below meth c s₁ B hml hv
  have hx := B.exec
  have hb := B.bytes
  have hr := B.returns
  have hts := atoms_spec (ws := wsX3_placeOf) B.pre
  have hown : s.vm.findClass RX3 = some m.cls := findClass_of_methodNamed B.named
  have hlocks := B.notSynchronized
  obtain ⟨rfl, hsz, hP, hK, hD, hA, hS, hSW⟩ := zEnter hv
  subst hsz
  generalize va_A ([(h, .inr (3, [.ref f, .int wr])), (f, .inl (Z 0, 336, .inl fa))]) s.heap.size = A at hD hA hS hSW ⊢
  have k_15 := hts (.fieldLink RX3 15 "WarmRods$Log" "written" "I") (List.mem_of_getElem? (i := 1) rfl)
  have iX3 : ∀ w ∈ u_ws RX3 TX3 2, w ∈ wsX3_placeOf := fun _ h => List.mem_cons_of_mem _ (List.mem_append_right _ h)
  have hP : va_P G vwCl ([(h, .inr (3, [.ref f, .int wr])), (f, .inl (Z 0, 336, .inl fa))]) s.heap := hP
  have hl := lv_entry ([.ref h, .int ago, .int what]) (n := 3) (Nat.le_of_ble_eq_true rfl)
  rw [lg_entry_eq]
  generalize (lg_sl ([.ref h, .int ago, .int what]) ++ List.replicate (3 - (lg_sl ([.ref h, .int ago, .int what])).length) Slot.unset).toArray = ls at hl ⊢
  have hl : lv_has ls 3 [(0, .ref h), (1, .int ago), (2, .int what)] := hl
  refine lv_aload_n hx hb dX3_placeOf_0 rfl (lv_at hl 0 rfl) ?_
  refine va_get (D := G) (ci := 3) (v := .int wr) (C := RX3) (T := TX3) (N := 2) hx hb hts iX3 hown hK hP 0 rfl rfl 1 (by decide) k_15 (fun _ h9 => h9) rfl dX3_placeOf_1 ?_
  refine lv_iconst (v := 1) hx hb dX3_placeOf_4 (by decide) ?_
  refine lv_isub hx hb dX3_placeOf_5 ?_
  refine lv_iload_n hx hb dX3_placeOf_6 rfl (lv_at hl 1 rfl) ?_
  refine lv_isub hx hb dX3_placeOf_7 ?_
  refine lv_bipush (v := 48) hx hb dX3_placeOf_8 (by decide) ?_
  refine lv_irem hx hb dX3_placeOf_10 (by decide) ?_
  refine lv_bipush (v := 7) hx hb dX3_placeOf_11 (by decide) ?_
  refine lv_imul hx hb dX3_placeOf_13 ?_
  refine lv_iload_n hx hb dX3_placeOf_14 rfl (lv_at hl 2 rfl) ?_
  refine lv_iadd hx hb dX3_placeOf_15 ?_
  exact W.iret hx hb hr (zEi () (by
      rfl) hP hD hS) hS.2.2 dX3_placeOf_16

set_option maxHeartbeats 4000000 in
set_option maxRecDepth 100000 in
theorem m_X3_write (l : Launch) (G : va_G) (Z : Nat → ClassId) (sz : Nat) (h : Nat) (f : Nat) (fa : Nat → Int32) (wr : Int32) (what : Int32) (nm : Int32)  : Met l yX3_write wsX3_write ({ frames := 1, cells := 0, slots := 0, locals := 22 }) (va_Pc [.ref h, .int what, .int nm] (zWP G Z sz ([(h, .inr (3, [.ref f, .int wr])), (f, .inl (Z 0, 336, .inl fa))]))) (va_Qv (fun (u : (Nat → Int32)) => u = lWr fa wr what nm) (fun (u : (Nat → Int32)) t => zB G (va_A ([(h, .inr (3, [.ref f, .int wr])), (f, .inl (Z 0, 336, .inl fa))]) sz) ([(h, .inr (3, [.ref f, .int wr])), (f, .inl (Z 0, 336, .inl u))]) t) (va_A ([(h, .inr (3, [.ref f, .int wr])), (f, .inl (Z 0, 336, .inl fa))]) sz)) 0 0 (va_A ([(h, .inr (3, [.ref f, .int wr])), (f, .inl (Z 0, 336, .inl fa))]) sz) := by
  refine Met.ofW (cc := cX3_write) (maxL := 4) (ret := none) (by decide) rfl ?_
  intro p e s m args below meth c s₁ B hml hv
  have hx := B.exec
  have hb := B.bytes
  have hr := B.returns
  have hts := atoms_spec (ws := wsX3_write) B.pre
  have hown : s.vm.findClass RX3 = some m.cls := findClass_of_methodNamed B.named
  have hlocks := B.notSynchronized
  obtain ⟨rfl, hsz, hP, hK, hD, hA, hS, hSW⟩ := zEnter hv
  subst hsz
  generalize va_A ([(h, .inr (3, [.ref f, .int wr])), (f, .inl (Z 0, 336, .inl fa))]) s.heap.size = A at hD hA hS hSW ⊢
  have k_9 := hts (.fieldLink RX3 9 "WarmRods$Log" "facts" "[I") (List.mem_of_getElem? (i := 1) rfl)
  have iX3 : ∀ w ∈ u_ws RX3 TX3 2, w ∈ wsX3_write := fun _ h => List.mem_cons_of_mem _ (List.mem_append_right _ h)
  have hP : va_P G vwCl ([(h, .inr (3, [.ref f, .int wr])), (f, .inl (Z 0, 336, .inl fa))]) s.heap := hP
  have hl := lv_entry ([.ref h, .int what, .int nm]) (n := 4) (Nat.le_of_ble_eq_true rfl)
  rw [lg_entry_eq]
  generalize (lg_sl ([.ref h, .int what, .int nm]) ++ List.replicate (4 - (lg_sl ([.ref h, .int what, .int nm])).length) Slot.unset).toArray = ls at hl ⊢
  have hl : lv_has ls 4 [(0, .ref h), (1, .int what), (2, .int nm)] := hl
  refine lv_aload_n hx hb dX3_write_0 rfl (lv_at hl 0 rfl) ?_
  refine lv_iconst (v := 0) hx hb dX3_write_1 (by decide) ?_
  refine lv_iload_n hx hb dX3_write_2 rfl (lv_at hl 1 rfl) ?_
  refine zCi (S := Unit) (ws1 := fun u => [(h, .inr (3, [.ref f, .int wr])), (f, .inl (Z 0, 336, .inl fa))]) (wr := []) (va_runV (As := [.int 0, .int what]) (rest := []) ⟨hx, hb, hml, hown, hts⟩ (m_X3_placeOf l G Z _ h f fa wr 0 what) (cwV 2 hts gX3_write_X3_placeOf rfl rfl rfl (by decide +kernel) ⟨Nat.le_of_ble_eq_true rfl, Nat.le_of_ble_eq_true rfl⟩) (zPreV hK hP hD hS hA hSW [0, 1] rfl (by decide) 0 (ci := 3) rfl rfl rfl) rfl rfl hl.1 rfl (lv_room (Nat.le_of_ble_eq_true rfl)) dX3_write_3 ⟨Nat.le_of_ble_eq_true rfl, Nat.le_of_ble_eq_true rfl⟩) hP hD hS hA [0, 1] [] [0, 1] rfl rfl (by decide) (by decide) (by decide) (fun _ => rfl) (fun r3 u H locs hw3 hP hD hS => ?_)
  try dsimp only at hw3
  subst hw3
  have hP : va_P G vwCl ([(h, .inr (3, [.ref f, .int wr])), (f, .inl (Z 0, 336, .inl fa))]) H := hP
  have hD : va_D A ([(h, .inr (3, [.ref f, .int wr])), (f, .inl (Z 0, 336, .inl fa))]) := hD
  refine lv_istore_n (lv' := [(3, .int (lPl wr 0 what)), (0, .ref h), (1, .int what), (2, .int nm)]) hx hb dX3_write_6 rfl hl (by decide) rfl (fun ls hl => ?_)
  refine lv_iload_n hx hb dX3_write_7 rfl (lv_at hl 0 rfl) ?_
  refine lv_if_lt (tgt := 27) hx hb dX3_write_8 (by decide) (fun c8 => ?_) (fun c8 => ?_)
  · exact W.vret hx hb hr (zEv fa (by
        simp only [lWr, c8, Int32.not_le.mpr c8, ↓reduceIte]) hP hD hS) hS.2.2 dX3_write_27
  · refine lv_iload_n hx hb dX3_write_11 rfl (lv_at hl 0 rfl) ?_
    refine lv_aload_n hx hb dX3_write_12 rfl (lv_at hl 1 rfl) ?_
    refine va_get (D := G) (ci := 3) (v := .ref f) (C := RX3) (T := TX3) (N := 2) hx hb hts iX3 hown hK hP 0 rfl rfl 0 (by decide) k_9 (fun _ h9 => h9) rfl dX3_write_13 ?_
    refine va_alen (v := 336) hx hb hK hP 1 0 rfl rfl rfl dX3_write_16 ?_
    refine lv_icmp_ge (tgt := 27) hx hb dX3_write_17 (by decide) (fun c17 => ?_) (fun c17 => ?_)
    · exact W.vret hx hb hr (zEv fa (by
          simp only [lWr, c8, Int32.not_lt.mp c8, c17, Int32.not_lt.mpr c17, ↓reduceIte]) hP hD hS) hS.2.2 dX3_write_27
    · refine lv_aload_n hx hb dX3_write_20 rfl (lv_at hl 1 rfl) ?_
      refine va_get (D := G) (ci := 3) (v := .ref f) (C := RX3) (T := TX3) (N := 2) hx hb hts iX3 hown hK hP 0 rfl rfl 0 (by decide) k_9 (fun _ h9 => h9) rfl dX3_write_21 ?_
      refine lv_iload_n hx hb dX3_write_24 rfl (lv_at hl 0 rfl) ?_
      refine lv_iload_n hx hb dX3_write_25 rfl (lv_at hl 3 rfl) ?_
      refine zIast (f := fa) hx hb hK hP hD hS 1 0 rfl rfl ((lPl wr 0 what).toNatClampNeg) ((zNC c8 c17 (by decide)).1) ((zNC c8 c17 (by decide)).2) (by decide) dX3_write_26 (fun H locs hP hD hS => ?_)
      have hP : va_P G vwCl ([(h, .inr (3, [.ref f, .int wr])), (f, .inl (Z 0, 336, .inl (upd fa ((lPl wr 0 what).toNatClampNeg) nm)))]) H := hP
      have hD : va_D A ([(h, .inr (3, [.ref f, .int wr])), (f, .inl (Z 0, 336, .inl (upd fa ((lPl wr 0 what).toNatClampNeg) nm)))]) := hD
      exact W.vret hx hb hr (zEv (upd fa ((lPl wr 0 what).toNatClampNeg) nm) (by
          simp only [lWr, c8, Int32.not_lt.mp c8, c17, Int32.not_le.mp c17, ↓reduceIte]) hP hD hS) hS.2.2 dX3_write_27

set_option maxHeartbeats 4000000 in
set_option maxRecDepth 100000 in
theorem m_X3_fact (l : Launch) (G : va_G) (Z : Nat → ClassId) (sz : Nat) (h : Nat) (f : Nat) (fa : Nat → Int32) (wr : Int32) (ago : Int32) (what : Int32)  : Met l yX3_fact wsX3_fact ({ frames := 1, cells := 0, slots := 0, locals := 22 }) (va_Pc [.ref h, .int ago, .int what] (zWP G Z sz ([(h, .inr (3, [.ref f, .int wr])), (f, .inl (Z 0, 336, .inl fa))]))) (va_Qi (fun (r : Int32) (u : Unit) => r = lFact fa wr ago what) (fun (u : Unit) t => zB G (va_A ([(h, .inr (3, [.ref f, .int wr])), (f, .inl (Z 0, 336, .inl fa))]) sz) ([(h, .inr (3, [.ref f, .int wr])), (f, .inl (Z 0, 336, .inl fa))]) t) (va_A ([(h, .inr (3, [.ref f, .int wr])), (f, .inl (Z 0, 336, .inl fa))]) sz)) 0 0 (va_A ([(h, .inr (3, [.ref f, .int wr])), (f, .inl (Z 0, 336, .inl fa))]) sz) := by
  refine Met.ofW (cc := cX3_fact) (maxL := 4) (ret := (some .int)) (by decide) rfl ?_
  intro p e s m args below meth c s₁ B hml hv
  have hx := B.exec
  have hb := B.bytes
  have hr := B.returns
  have hts := atoms_spec (ws := wsX3_fact) B.pre
  have hown : s.vm.findClass RX3 = some m.cls := findClass_of_methodNamed B.named
  have hlocks := B.notSynchronized
  obtain ⟨rfl, hsz, hP, hK, hD, hA, hS, hSW⟩ := zEnter hv
  subst hsz
  generalize va_A ([(h, .inr (3, [.ref f, .int wr])), (f, .inl (Z 0, 336, .inl fa))]) s.heap.size = A at hD hA hS hSW ⊢
  have k_9 := hts (.fieldLink RX3 9 "WarmRods$Log" "facts" "[I") (List.mem_of_getElem? (i := 1) rfl)
  have iX3 : ∀ w ∈ u_ws RX3 TX3 2, w ∈ wsX3_fact := fun _ h => List.mem_cons_of_mem _ (List.mem_append_right _ h)
  have hP : va_P G vwCl ([(h, .inr (3, [.ref f, .int wr])), (f, .inl (Z 0, 336, .inl fa))]) s.heap := hP
  have hl := lv_entry ([.ref h, .int ago, .int what]) (n := 4) (Nat.le_of_ble_eq_true rfl)
  rw [lg_entry_eq]
  generalize (lg_sl ([.ref h, .int ago, .int what]) ++ List.replicate (4 - (lg_sl ([.ref h, .int ago, .int what])).length) Slot.unset).toArray = ls at hl ⊢
  have hl : lv_has ls 4 [(0, .ref h), (1, .int ago), (2, .int what)] := hl
  refine lv_aload_n hx hb dX3_fact_0 rfl (lv_at hl 0 rfl) ?_
  refine lv_iload_n hx hb dX3_fact_1 rfl (lv_at hl 1 rfl) ?_
  refine lv_iload_n hx hb dX3_fact_2 rfl (lv_at hl 2 rfl) ?_
  refine zCi (S := Unit) (ws1 := fun u => [(h, .inr (3, [.ref f, .int wr])), (f, .inl (Z 0, 336, .inl fa))]) (wr := []) (va_runV (As := [.int ago, .int what]) (rest := []) ⟨hx, hb, hml, hown, hts⟩ (m_X3_placeOf l G Z _ h f fa wr ago what) (cwV 2 hts gX3_fact_X3_placeOf rfl rfl rfl (by decide +kernel) ⟨Nat.le_of_ble_eq_true rfl, Nat.le_of_ble_eq_true rfl⟩) (zPreV hK hP hD hS hA hSW [0, 1] rfl (by decide) 0 (ci := 3) rfl rfl rfl) rfl rfl hl.1 rfl (lv_room (Nat.le_of_ble_eq_true rfl)) dX3_fact_3 ⟨Nat.le_of_ble_eq_true rfl, Nat.le_of_ble_eq_true rfl⟩) hP hD hS hA [0, 1] [] [0, 1] rfl rfl (by decide) (by decide) (by decide) (fun _ => rfl) (fun r3 u H locs hw3 hP hD hS => ?_)
  try dsimp only at hw3
  subst hw3
  have hP : va_P G vwCl ([(h, .inr (3, [.ref f, .int wr])), (f, .inl (Z 0, 336, .inl fa))]) H := hP
  have hD : va_D A ([(h, .inr (3, [.ref f, .int wr])), (f, .inl (Z 0, 336, .inl fa))]) := hD
  refine lv_istore_n (lv' := [(3, .int (lPl wr ago what)), (0, .ref h), (1, .int ago), (2, .int what)]) hx hb dX3_fact_6 rfl hl (by decide) rfl (fun ls hl => ?_)
  refine lv_iload_n hx hb dX3_fact_7 rfl (lv_at hl 0 rfl) ?_
  refine lv_if_lt (tgt := 29) hx hb dX3_fact_8 (by decide) (fun c8 => ?_) (fun c8 => ?_)
  · refine lv_iconst (v := 0) hx hb dX3_fact_29 (by decide) ?_
    exact W.iret hx hb hr (zEi () (by
        simp only [lFact, c8, Int32.not_le.mpr c8, ↓reduceIte]) hP hD hS) hS.2.2 dX3_fact_30
  · refine lv_iload_n hx hb dX3_fact_11 rfl (lv_at hl 0 rfl) ?_
    refine lv_aload_n hx hb dX3_fact_12 rfl (lv_at hl 1 rfl) ?_
    refine va_get (D := G) (ci := 3) (v := .ref f) (C := RX3) (T := TX3) (N := 2) hx hb hts iX3 hown hK hP 0 rfl rfl 0 (by decide) k_9 (fun _ h9 => h9) rfl dX3_fact_13 ?_
    refine va_alen (v := 336) hx hb hK hP 1 0 rfl rfl rfl dX3_fact_16 ?_
    refine lv_icmp_ge (tgt := 29) hx hb dX3_fact_17 (by decide) (fun c17 => ?_) (fun c17 => ?_)
    · refine lv_iconst (v := 0) hx hb dX3_fact_29 (by decide) ?_
      exact W.iret hx hb hr (zEi () (by
          simp only [lFact, c8, Int32.not_lt.mp c8, c17, Int32.not_lt.mpr c17, ↓reduceIte]) hP hD hS) hS.2.2 dX3_fact_30
    · refine lv_aload_n hx hb dX3_fact_20 rfl (lv_at hl 1 rfl) ?_
      refine va_get (D := G) (ci := 3) (v := .ref f) (C := RX3) (T := TX3) (N := 2) hx hb hts iX3 hown hK hP 0 rfl rfl 0 (by decide) k_9 (fun _ h9 => h9) rfl dX3_fact_21 ?_
      refine lv_iload_n hx hb dX3_fact_24 rfl (lv_at hl 0 rfl) ?_
      refine zIald (f := fa) hx hb hK hP 1 0 rfl rfl ((lPl wr ago what).toNatClampNeg) ((zNC c8 c17 (by decide)).1) ((zNC c8 c17 (by decide)).2) (by decide) dX3_fact_25 ?_
      refine lv_goto (tgt := 30) hx hb dX3_fact_26 (by decide) ?_
      exact W.iret hx hb hr (zEi () (by
          simp only [lFact, c8, Int32.not_lt.mp c8, c17, Int32.not_le.mp c17, ↓reduceIte]) hP hD hS) hS.2.2 dX3_fact_30

set_option maxHeartbeats 4000000 in
set_option maxRecDepth 100000 in
theorem m_X3_sumOfRates (l : Launch) (G : va_G) (Z : Nat → ClassId) (sz : Nat) (h : Nat) (f : Nat) (fa : Nat → Int32) (wr : Int32) (n : Nat) (hn : n ≤ 48) (hw : zMin wr 48 = nI n) : Met l yX3_sumOfRates wsX3_sumOfRates ({ frames := 2, cells := 0, slots := 0, locals := 45 }) (va_Pc [.ref h] (zWP G Z sz ([(h, .inr (3, [.ref f, .int wr])), (f, .inl (Z 0, 336, .inl fa))]))) (va_Qi (fun (r : Int32) (u : Unit) => r = lSum fa wr n) (fun (u : Unit) t => zB G (va_A ([(h, .inr (3, [.ref f, .int wr])), (f, .inl (Z 0, 336, .inl fa))]) sz) ([(h, .inr (3, [.ref f, .int wr])), (f, .inl (Z 0, 336, .inl fa))]) t) (va_A ([(h, .inr (3, [.ref f, .int wr])), (f, .inl (Z 0, 336, .inl fa))]) sz)) 0 0 (va_A ([(h, .inr (3, [.ref f, .int wr])), (f, .inl (Z 0, 336, .inl fa))]) sz) := by
  refine Met.ofW (cc := cX3_sumOfRates) (maxL := 3) (ret := (some .int)) (by decide) rfl ?_
  intro p e s m args below meth c s₁ B hml hv
  have hx := B.exec
  have hb := B.bytes
  have hr := B.returns
  have hts := atoms_spec (ws := wsX3_sumOfRates) B.pre
  have hown : s.vm.findClass RX3 = some m.cls := findClass_of_methodNamed B.named
  have hlocks := B.notSynchronized
  obtain ⟨rfl, hsz, hP, hK, hD, hA, hS, hSW⟩ := zEnter hv
  subst hsz
  generalize va_A ([(h, .inr (3, [.ref f, .int wr])), (f, .inl (Z 0, 336, .inl fa))]) s.heap.size = A at hD hA hS hSW ⊢
  have hP : va_P G vwCl ([(h, .inr (3, [.ref f, .int wr])), (f, .inl (Z 0, 336, .inl fa))]) s.heap := hP
  have hl := lv_entry ([.ref h]) (n := 3) (Nat.le_of_ble_eq_true rfl)
  rw [lg_entry_eq]
  generalize (lg_sl ([.ref h]) ++ List.replicate (3 - (lg_sl ([.ref h])).length) Slot.unset).toArray = ls at hl ⊢
  have hl : lv_has ls 3 [(0, .ref h)] := hl
  refine lv_iconst (v := 0) hx hb dX3_sumOfRates_0 (by decide) ?_
  refine lv_istore_n (lv' := [(1, .int 0), (0, .ref h)]) hx hb dX3_sumOfRates_1 rfl hl (by decide) rfl (fun ls hl => ?_)
  refine lv_iconst (v := 0) hx hb dX3_sumOfRates_2 (by decide) ?_
  refine lv_istore_n (lv' := [(2, .int 0), (1, .int 0), (0, .ref h)]) hx hb dX3_sumOfRates_3 rfl hl (by decide) rfl (fun ls hl => ?_)
  refine zLoop (σ := Nat) (nL := 3) (fun zx => [(h, .inr (3, [.ref f, .int wr])), (f, .inl (Z 0, 336, .inl fa))]) (fun zx => [(2, .int (nI zx)), (1, .int (lSum fa wr zx)), (0, .ref h)]) (fun zx => zx ≤ n) (fun zx => n - zx) ?_ 0 (by
      try dsimp only
      omega) hP hD hS (lv_sub hl [0, 1, 2] rfl)
  intro zx hinv4 ih4 H locs ls hP hD hS hl
  obtain ⟨k, rfl⟩ : ∃ z, z = zx := ⟨_, rfl⟩
  try dsimp only at hinv4 ih4
  have hP : va_P G vwCl ([(h, .inr (3, [.ref f, .int wr])), (f, .inl (Z 0, 336, .inl fa))]) H := hP
  have hD : va_D A ([(h, .inr (3, [.ref f, .int wr])), (f, .inl (Z 0, 336, .inl fa))]) := hD
  have hl : lv_has ls 3 [(2, .int (nI k)), (1, .int (lSum fa wr k)), (0, .ref h)] := hl
  refine lv_iload_n hx hb dX3_sumOfRates_4 rfl (lv_at hl 0 rfl) ?_
  refine lv_aload_n hx hb dX3_sumOfRates_5 rfl (lv_at hl 2 rfl) ?_
  refine zCi (S := Unit) (ws1 := fun u => [(h, .inr (3, [.ref f, .int wr])), (f, .inl (Z 0, 336, .inl fa))]) (wr := []) (va_runV (As := []) (rest := [.int (nI k)]) ⟨hx, hb, hml, hown, hts⟩ (m_X3_length l G Z _ h f fa wr) (cwV 0 hts gX3_sumOfRates_X3_length rfl rfl rfl (by decide +kernel) ⟨Nat.le_of_ble_eq_true rfl, Nat.le_of_ble_eq_true rfl⟩) (zPreV hK hP hD hS hA hSW [0, 1] rfl (by decide) 0 (ci := 3) rfl rfl rfl) rfl rfl hl.1 rfl (lv_room (Nat.le_of_ble_eq_true rfl)) dX3_sumOfRates_6 ⟨Nat.le_of_ble_eq_true rfl, Nat.le_of_ble_eq_true rfl⟩) hP hD hS hA [0, 1] [] [0, 1] rfl rfl (by decide) (by decide) (by decide) (fun _ => rfl) (fun r6 u H locs hw6 hP hD hS => ?_)
  try dsimp only at hw6
  subst hw6
  have hP : va_P G vwCl ([(h, .inr (3, [.ref f, .int wr])), (f, .inl (Z 0, 336, .inl fa))]) H := hP
  have hD : va_D A ([(h, .inr (3, [.ref f, .int wr])), (f, .inl (Z 0, 336, .inl fa))]) := hD
  refine lv_icmp_ge (tgt := 27) hx hb dX3_sumOfRates_9 (by decide) (fun c9 => ?_) (fun c9 => ?_)
  · refine lv_iload_n hx hb dX3_sumOfRates_27 rfl (lv_at hl 1 rfl) ?_
    exact W.iret hx hb hr (zEi () (by
        rw [hw] at c9
        have := zLe c9 (by omega) (by omega)
        rw [show n = k by omega]) hP hD hS) hS.2.2 dX3_sumOfRates_28
  · refine lv_iload_n hx hb dX3_sumOfRates_12 rfl (lv_at hl 1 rfl) ?_
    refine lv_aload_n hx hb dX3_sumOfRates_13 rfl (lv_at hl 2 rfl) ?_
    refine lv_iload_n hx hb dX3_sumOfRates_14 rfl (lv_at hl 0 rfl) ?_
    refine lv_iconst (v := 3) hx hb dX3_sumOfRates_15 (by decide) ?_
    refine zCi (S := Unit) (ws1 := fun u => [(h, .inr (3, [.ref f, .int wr])), (f, .inl (Z 0, 336, .inl fa))]) (wr := []) (va_runV (As := [.int (nI k), .int 3]) (rest := [.int (lSum fa wr k)]) ⟨hx, hb, hml, hown, hts⟩ (m_X3_fact l G Z _ h f fa wr (nI k) 3) (cwV 2 hts gX3_sumOfRates_X3_fact rfl rfl rfl (by decide +kernel) ⟨Nat.le_of_ble_eq_true rfl, Nat.le_of_ble_eq_true rfl⟩) (zPreV hK hP hD hS hA hSW [0, 1] rfl (by decide) 0 (ci := 3) rfl rfl rfl) rfl rfl hl.1 rfl (lv_room (Nat.le_of_ble_eq_true rfl)) dX3_sumOfRates_16 ⟨Nat.le_of_ble_eq_true rfl, Nat.le_of_ble_eq_true rfl⟩) hP hD hS hA [0, 1] [] [0, 1] rfl rfl (by decide) (by decide) (by decide) (fun _ => rfl) (fun r16 u H locs hw16 hP hD hS => ?_)
    try dsimp only at hw16
    subst hw16
    have hP : va_P G vwCl ([(h, .inr (3, [.ref f, .int wr])), (f, .inl (Z 0, 336, .inl fa))]) H := hP
    have hD : va_D A ([(h, .inr (3, [.ref f, .int wr])), (f, .inl (Z 0, 336, .inl fa))]) := hD
    refine lv_iadd hx hb dX3_sumOfRates_19 ?_
    refine lv_istore_n (lv' := [(1, .int ((lSum fa wr k) + (lFact fa wr (nI k) 3))), (2, .int (nI k)), (0, .ref h)]) hx hb dX3_sumOfRates_20 rfl hl (by decide) rfl (fun ls hl => ?_)
    refine lv_iinc (v := (nI (k + 1))) (lv' := [(2, .int (nI (k + 1))), (1, .int ((lSum fa wr k) + (lFact fa wr (nI k) 3))), (0, .ref h)]) hx hb dX3_sumOfRates_21 hl (k := 1) rfl (nI_succ k).symm (by decide) rfl (fun ls hl => ?_)
    refine lv_goto (tgt := 4) hx hb dX3_sumOfRates_24 (by decide) ?_
    exact ih4 (k + 1) (by
        try dsimp only
        rw [hw] at c9
        have := zNle c9 (by omega) (by omega)
        omega) (by
        try dsimp only
        rw [hw] at c9
        have := zNle c9 (by omega) (by omega)
        omega) _ _ _ hP hD hS (lv_sub hl [0, 1, 2] rfl)

set_option maxHeartbeats 4000000 in
set_option maxRecDepth 100000 in
theorem m_X3_greatestRate (l : Launch) (G : va_G) (Z : Nat → ClassId) (sz : Nat) (h : Nat) (f : Nat) (fa : Nat → Int32) (wr : Int32) (n : Nat) (hn : n ≤ 48) (hw : zMin wr 48 = nI n) : Met l yX3_greatestRate wsX3_greatestRate ({ frames := 2, cells := 0, slots := 0, locals := 45 }) (va_Pc [.ref h] (zWP G Z sz ([(h, .inr (3, [.ref f, .int wr])), (f, .inl (Z 0, 336, .inl fa))]))) (va_Qi (fun (r : Int32) (u : Unit) => r = lMax fa wr (n - 1)) (fun (u : Unit) t => zB G (va_A ([(h, .inr (3, [.ref f, .int wr])), (f, .inl (Z 0, 336, .inl fa))]) sz) ([(h, .inr (3, [.ref f, .int wr])), (f, .inl (Z 0, 336, .inl fa))]) t) (va_A ([(h, .inr (3, [.ref f, .int wr])), (f, .inl (Z 0, 336, .inl fa))]) sz)) 0 0 (va_A ([(h, .inr (3, [.ref f, .int wr])), (f, .inl (Z 0, 336, .inl fa))]) sz) := by
  refine Met.ofW (cc := cX3_greatestRate) (maxL := 3) (ret := (some .int)) (by decide) rfl ?_
  intro p e s m args below meth c s₁ B hml hv
  have hx := B.exec
  have hb := B.bytes
  have hr := B.returns
  have hts := atoms_spec (ws := wsX3_greatestRate) B.pre
  have hown : s.vm.findClass RX3 = some m.cls := findClass_of_methodNamed B.named
  have hlocks := B.notSynchronized
  obtain ⟨rfl, hsz, hP, hK, hD, hA, hS, hSW⟩ := zEnter hv
  subst hsz
  generalize va_A ([(h, .inr (3, [.ref f, .int wr])), (f, .inl (Z 0, 336, .inl fa))]) s.heap.size = A at hD hA hS hSW ⊢
  have k_41 := hts (.methodLink RX3 41 Lib.Math.max.name) (List.mem_of_getElem? (i := 1) rfl)
  have kms_max := hts (.static Lib.Math.max.name) (List.mem_of_getElem? (i := 2) rfl)
  have kmi := hts (.initialized "java/lang/Math") (List.mem_of_getElem? (i := 3) rfl)
  have kmc_max := hts (.code Lib.Math.max.name Lib.Math.max.code 2 (some .int)) (List.mem_of_getElem? (i := 4) rfl)
  have hP : va_P G vwCl ([(h, .inr (3, [.ref f, .int wr])), (f, .inl (Z 0, 336, .inl fa))]) s.heap := hP
  have hl := lv_entry ([.ref h]) (n := 3) (Nat.le_of_ble_eq_true rfl)
  rw [lg_entry_eq]
  generalize (lg_sl ([.ref h]) ++ List.replicate (3 - (lg_sl ([.ref h])).length) Slot.unset).toArray = ls at hl ⊢
  have hl : lv_has ls 3 [(0, .ref h)] := hl
  refine lv_aload_n hx hb dX3_greatestRate_0 rfl (lv_at hl 0 rfl) ?_
  refine lv_iconst (v := 0) hx hb dX3_greatestRate_1 (by decide) ?_
  refine lv_iconst (v := 3) hx hb dX3_greatestRate_2 (by decide) ?_
  refine zCi (S := Unit) (ws1 := fun u => [(h, .inr (3, [.ref f, .int wr])), (f, .inl (Z 0, 336, .inl fa))]) (wr := []) (va_runV (As := [.int 0, .int 3]) (rest := []) ⟨hx, hb, hml, hown, hts⟩ (m_X3_fact l G Z _ h f fa wr 0 3) (cwV 2 hts gX3_greatestRate_X3_fact rfl rfl rfl (by decide +kernel) ⟨Nat.le_of_ble_eq_true rfl, Nat.le_of_ble_eq_true rfl⟩) (zPreV hK hP hD hS hA hSW [0, 1] rfl (by decide) 0 (ci := 3) rfl rfl rfl) rfl rfl hl.1 rfl (lv_room (Nat.le_of_ble_eq_true rfl)) dX3_greatestRate_3 ⟨Nat.le_of_ble_eq_true rfl, Nat.le_of_ble_eq_true rfl⟩) hP hD hS hA [0, 1] [] [0, 1] rfl rfl (by decide) (by decide) (by decide) (fun _ => rfl) (fun r3 u H locs hw3 hP hD hS => ?_)
  try dsimp only at hw3
  subst hw3
  have hP : va_P G vwCl ([(h, .inr (3, [.ref f, .int wr])), (f, .inl (Z 0, 336, .inl fa))]) H := hP
  have hD : va_D A ([(h, .inr (3, [.ref f, .int wr])), (f, .inl (Z 0, 336, .inl fa))]) := hD
  refine lv_istore_n (lv' := [(1, .int (lFact fa wr 0 3)), (0, .ref h)]) hx hb dX3_greatestRate_6 rfl hl (by decide) rfl (fun ls hl => ?_)
  refine lv_iconst (v := 1) hx hb dX3_greatestRate_7 (by decide) ?_
  refine lv_istore_n (lv' := [(2, .int 1), (1, .int (lFact fa wr 0 3)), (0, .ref h)]) hx hb dX3_greatestRate_8 rfl hl (by decide) rfl (fun ls hl => ?_)
  refine zLoop (σ := Nat) (nL := 3) (fun zx => [(h, .inr (3, [.ref f, .int wr])), (f, .inl (Z 0, 336, .inl fa))]) (fun zx => [(2, .int (nI (zx + 1))), (1, .int (lMax fa wr zx)), (0, .ref h)]) (fun zx => zx ≤ (n - 1)) (fun zx => (n - 1) - zx) ?_ (0 ) (by
      try dsimp only
      omega) hP hD hS (lv_sub hl [0, 1, 2] rfl)
  intro zx hinv9 ih9 H locs ls hP hD hS hl
  obtain ⟨k, rfl⟩ : ∃ z, z = zx := ⟨_, rfl⟩
  try dsimp only at hinv9 ih9
  have hP : va_P G vwCl ([(h, .inr (3, [.ref f, .int wr])), (f, .inl (Z 0, 336, .inl fa))]) H := hP
  have hD : va_D A ([(h, .inr (3, [.ref f, .int wr])), (f, .inl (Z 0, 336, .inl fa))]) := hD
  have hl : lv_has ls 3 [(2, .int (nI (k + 1))), (1, .int (lMax fa wr k)), (0, .ref h)] := hl
  refine lv_iload_n hx hb dX3_greatestRate_9 rfl (lv_at hl 0 rfl) ?_
  refine lv_aload_n hx hb dX3_greatestRate_10 rfl (lv_at hl 2 rfl) ?_
  refine zCi (S := Unit) (ws1 := fun u => [(h, .inr (3, [.ref f, .int wr])), (f, .inl (Z 0, 336, .inl fa))]) (wr := []) (va_runV (As := []) (rest := [.int (nI (k + 1))]) ⟨hx, hb, hml, hown, hts⟩ (m_X3_length l G Z _ h f fa wr) (cwV 0 hts gX3_greatestRate_X3_length rfl rfl rfl (by decide +kernel) ⟨Nat.le_of_ble_eq_true rfl, Nat.le_of_ble_eq_true rfl⟩) (zPreV hK hP hD hS hA hSW [0, 1] rfl (by decide) 0 (ci := 3) rfl rfl rfl) rfl rfl hl.1 rfl (lv_room (Nat.le_of_ble_eq_true rfl)) dX3_greatestRate_11 ⟨Nat.le_of_ble_eq_true rfl, Nat.le_of_ble_eq_true rfl⟩) hP hD hS hA [0, 1] [] [0, 1] rfl rfl (by decide) (by decide) (by decide) (fun _ => rfl) (fun r11 u H locs hw11 hP hD hS => ?_)
  try dsimp only at hw11
  subst hw11
  have hP : va_P G vwCl ([(h, .inr (3, [.ref f, .int wr])), (f, .inl (Z 0, 336, .inl fa))]) H := hP
  have hD : va_D A ([(h, .inr (3, [.ref f, .int wr])), (f, .inl (Z 0, 336, .inl fa))]) := hD
  refine lv_icmp_ge (tgt := 34) hx hb dX3_greatestRate_14 (by decide) (fun c14 => ?_) (fun c14 => ?_)
  · refine lv_iload_n hx hb dX3_greatestRate_34 rfl (lv_at hl 1 rfl) ?_
    exact W.iret hx hb hr (zEi () (by
        rw [hw] at c14
        have := zLe c14 (by omega) (by omega)
        rw [show n - 1 = k by omega]) hP hD hS) hS.2.2 dX3_greatestRate_35
  · refine lv_iload_n hx hb dX3_greatestRate_17 rfl (lv_at hl 1 rfl) ?_
    refine lv_aload_n hx hb dX3_greatestRate_18 rfl (lv_at hl 2 rfl) ?_
    refine lv_iload_n hx hb dX3_greatestRate_19 rfl (lv_at hl 0 rfl) ?_
    refine lv_iconst (v := 3) hx hb dX3_greatestRate_20 (by decide) ?_
    refine zCi (S := Unit) (ws1 := fun u => [(h, .inr (3, [.ref f, .int wr])), (f, .inl (Z 0, 336, .inl fa))]) (wr := []) (va_runV (As := [.int (nI (k + 1)), .int 3]) (rest := [.int (lMax fa wr k)]) ⟨hx, hb, hml, hown, hts⟩ (m_X3_fact l G Z _ h f fa wr (nI (k + 1)) 3) (cwV 2 hts gX3_greatestRate_X3_fact rfl rfl rfl (by decide +kernel) ⟨Nat.le_of_ble_eq_true rfl, Nat.le_of_ble_eq_true rfl⟩) (zPreV hK hP hD hS hA hSW [0, 1] rfl (by decide) 0 (ci := 3) rfl rfl rfl) rfl rfl hl.1 rfl (lv_room (Nat.le_of_ble_eq_true rfl)) dX3_greatestRate_21 ⟨Nat.le_of_ble_eq_true rfl, Nat.le_of_ble_eq_true rfl⟩) hP hD hS hA [0, 1] [] [0, 1] rfl rfl (by decide) (by decide) (by decide) (fun _ => rfl) (fun r21 u H locs hw21 hP hD hS => ?_)
    try dsimp only at hw21
    subst hw21
    have hP : va_P G vwCl ([(h, .inr (3, [.ref f, .int wr])), (f, .inl (Z 0, 336, .inl fa))]) H := hP
    have hD : va_D A ([(h, .inr (3, [.ref f, .int wr])), (f, .inl (Z 0, 336, .inl fa))]) := hD
    refine va_mmax hx hb (hml.trans hl.1.symm) hown k_41 kms_max kmi kmc_max (Nat.le_of_ble_eq_true rfl) (Nat.le_of_ble_eq_true rfl) (Nat.zero_le _) (Nat.zero_le _) dX3_greatestRate_24 ?_
    refine zTopI (y := zMax (lMax fa wr k) (lFact fa wr (nI (k + 1)) 3)) rfl ?_
    refine lv_istore_n (lv' := [(1, .int (zMax (lMax fa wr k) (lFact fa wr (nI (k + 1)) 3))), (2, .int (nI (k + 1))), (0, .ref h)]) hx hb dX3_greatestRate_27 rfl hl (by decide) rfl (fun ls hl => ?_)
    refine lv_iinc (v := (nI ((k + 1) + 1))) (lv' := [(2, .int (nI ((k + 1) + 1))), (1, .int (zMax (lMax fa wr k) (lFact fa wr (nI (k + 1)) 3))), (0, .ref h)]) hx hb dX3_greatestRate_28 hl (k := 1) rfl (nI_succ (k + 1)).symm (by decide) rfl (fun ls hl => ?_)
    refine lv_goto (tgt := 9) hx hb dX3_greatestRate_31 (by decide) ?_
    exact ih9 (k + 1) (by
        try dsimp only
        rw [hw] at c14
        have := zNle c14 (by omega) (by omega)
        omega) (by
        try dsimp only
        rw [hw] at c14
        have := zNle c14 (by omega) (by omega)
        omega) _ _ _ hP hD hS (lv_sub hl [0, 1, 2] rfl)

set_option maxHeartbeats 4000000 in
set_option maxRecDepth 100000 in
theorem m_X3_leastRate (l : Launch) (G : va_G) (Z : Nat → ClassId) (sz : Nat) (h : Nat) (f : Nat) (fa : Nat → Int32) (wr : Int32) (n : Nat) (hn : n ≤ 48) (hw : zMin wr 48 = nI n) : Met l yX3_leastRate wsX3_leastRate ({ frames := 2, cells := 0, slots := 0, locals := 45 }) (va_Pc [.ref h] (zWP G Z sz ([(h, .inr (3, [.ref f, .int wr])), (f, .inl (Z 0, 336, .inl fa))]))) (va_Qi (fun (r : Int32) (u : Unit) => r = lMin fa wr (n - 1)) (fun (u : Unit) t => zB G (va_A ([(h, .inr (3, [.ref f, .int wr])), (f, .inl (Z 0, 336, .inl fa))]) sz) ([(h, .inr (3, [.ref f, .int wr])), (f, .inl (Z 0, 336, .inl fa))]) t) (va_A ([(h, .inr (3, [.ref f, .int wr])), (f, .inl (Z 0, 336, .inl fa))]) sz)) 0 0 (va_A ([(h, .inr (3, [.ref f, .int wr])), (f, .inl (Z 0, 336, .inl fa))]) sz) := by
  refine Met.ofW (cc := cX3_leastRate) (maxL := 3) (ret := (some .int)) (by decide) rfl ?_
  intro p e s m args below meth c s₁ B hml hv
  have hx := B.exec
  have hb := B.bytes
  have hr := B.returns
  have hts := atoms_spec (ws := wsX3_leastRate) B.pre
  have hown : s.vm.findClass RX3 = some m.cls := findClass_of_methodNamed B.named
  have hlocks := B.notSynchronized
  obtain ⟨rfl, hsz, hP, hK, hD, hA, hS, hSW⟩ := zEnter hv
  subst hsz
  generalize va_A ([(h, .inr (3, [.ref f, .int wr])), (f, .inl (Z 0, 336, .inl fa))]) s.heap.size = A at hD hA hS hSW ⊢
  have k_19 := hts (.methodLink RX3 19 Lib.Math.min.name) (List.mem_of_getElem? (i := 1) rfl)
  have kms_min := hts (.static Lib.Math.min.name) (List.mem_of_getElem? (i := 2) rfl)
  have kmi := hts (.initialized "java/lang/Math") (List.mem_of_getElem? (i := 3) rfl)
  have kmc_min := hts (.code Lib.Math.min.name Lib.Math.min.code 2 (some .int)) (List.mem_of_getElem? (i := 4) rfl)
  have hP : va_P G vwCl ([(h, .inr (3, [.ref f, .int wr])), (f, .inl (Z 0, 336, .inl fa))]) s.heap := hP
  have hl := lv_entry ([.ref h]) (n := 3) (Nat.le_of_ble_eq_true rfl)
  rw [lg_entry_eq]
  generalize (lg_sl ([.ref h]) ++ List.replicate (3 - (lg_sl ([.ref h])).length) Slot.unset).toArray = ls at hl ⊢
  have hl : lv_has ls 3 [(0, .ref h)] := hl
  refine lv_aload_n hx hb dX3_leastRate_0 rfl (lv_at hl 0 rfl) ?_
  refine lv_iconst (v := 0) hx hb dX3_leastRate_1 (by decide) ?_
  refine lv_iconst (v := 3) hx hb dX3_leastRate_2 (by decide) ?_
  refine zCi (S := Unit) (ws1 := fun u => [(h, .inr (3, [.ref f, .int wr])), (f, .inl (Z 0, 336, .inl fa))]) (wr := []) (va_runV (As := [.int 0, .int 3]) (rest := []) ⟨hx, hb, hml, hown, hts⟩ (m_X3_fact l G Z _ h f fa wr 0 3) (cwV 2 hts gX3_leastRate_X3_fact rfl rfl rfl (by decide +kernel) ⟨Nat.le_of_ble_eq_true rfl, Nat.le_of_ble_eq_true rfl⟩) (zPreV hK hP hD hS hA hSW [0, 1] rfl (by decide) 0 (ci := 3) rfl rfl rfl) rfl rfl hl.1 rfl (lv_room (Nat.le_of_ble_eq_true rfl)) dX3_leastRate_3 ⟨Nat.le_of_ble_eq_true rfl, Nat.le_of_ble_eq_true rfl⟩) hP hD hS hA [0, 1] [] [0, 1] rfl rfl (by decide) (by decide) (by decide) (fun _ => rfl) (fun r3 u H locs hw3 hP hD hS => ?_)
  try dsimp only at hw3
  subst hw3
  have hP : va_P G vwCl ([(h, .inr (3, [.ref f, .int wr])), (f, .inl (Z 0, 336, .inl fa))]) H := hP
  have hD : va_D A ([(h, .inr (3, [.ref f, .int wr])), (f, .inl (Z 0, 336, .inl fa))]) := hD
  refine lv_istore_n (lv' := [(1, .int (lFact fa wr 0 3)), (0, .ref h)]) hx hb dX3_leastRate_6 rfl hl (by decide) rfl (fun ls hl => ?_)
  refine lv_iconst (v := 1) hx hb dX3_leastRate_7 (by decide) ?_
  refine lv_istore_n (lv' := [(2, .int 1), (1, .int (lFact fa wr 0 3)), (0, .ref h)]) hx hb dX3_leastRate_8 rfl hl (by decide) rfl (fun ls hl => ?_)
  refine zLoop (σ := Nat) (nL := 3) (fun zx => [(h, .inr (3, [.ref f, .int wr])), (f, .inl (Z 0, 336, .inl fa))]) (fun zx => [(2, .int (nI (zx + 1))), (1, .int (lMin fa wr zx)), (0, .ref h)]) (fun zx => zx ≤ (n - 1)) (fun zx => (n - 1) - zx) ?_ (0 ) (by
      try dsimp only
      omega) hP hD hS (lv_sub hl [0, 1, 2] rfl)
  intro zx hinv9 ih9 H locs ls hP hD hS hl
  obtain ⟨k, rfl⟩ : ∃ z, z = zx := ⟨_, rfl⟩
  try dsimp only at hinv9 ih9
  have hP : va_P G vwCl ([(h, .inr (3, [.ref f, .int wr])), (f, .inl (Z 0, 336, .inl fa))]) H := hP
  have hD : va_D A ([(h, .inr (3, [.ref f, .int wr])), (f, .inl (Z 0, 336, .inl fa))]) := hD
  have hl : lv_has ls 3 [(2, .int (nI (k + 1))), (1, .int (lMin fa wr k)), (0, .ref h)] := hl
  refine lv_iload_n hx hb dX3_leastRate_9 rfl (lv_at hl 0 rfl) ?_
  refine lv_aload_n hx hb dX3_leastRate_10 rfl (lv_at hl 2 rfl) ?_
  refine zCi (S := Unit) (ws1 := fun u => [(h, .inr (3, [.ref f, .int wr])), (f, .inl (Z 0, 336, .inl fa))]) (wr := []) (va_runV (As := []) (rest := [.int (nI (k + 1))]) ⟨hx, hb, hml, hown, hts⟩ (m_X3_length l G Z _ h f fa wr) (cwV 0 hts gX3_leastRate_X3_length rfl rfl rfl (by decide +kernel) ⟨Nat.le_of_ble_eq_true rfl, Nat.le_of_ble_eq_true rfl⟩) (zPreV hK hP hD hS hA hSW [0, 1] rfl (by decide) 0 (ci := 3) rfl rfl rfl) rfl rfl hl.1 rfl (lv_room (Nat.le_of_ble_eq_true rfl)) dX3_leastRate_11 ⟨Nat.le_of_ble_eq_true rfl, Nat.le_of_ble_eq_true rfl⟩) hP hD hS hA [0, 1] [] [0, 1] rfl rfl (by decide) (by decide) (by decide) (fun _ => rfl) (fun r11 u H locs hw11 hP hD hS => ?_)
  try dsimp only at hw11
  subst hw11
  have hP : va_P G vwCl ([(h, .inr (3, [.ref f, .int wr])), (f, .inl (Z 0, 336, .inl fa))]) H := hP
  have hD : va_D A ([(h, .inr (3, [.ref f, .int wr])), (f, .inl (Z 0, 336, .inl fa))]) := hD
  refine lv_icmp_ge (tgt := 34) hx hb dX3_leastRate_14 (by decide) (fun c14 => ?_) (fun c14 => ?_)
  · refine lv_iload_n hx hb dX3_leastRate_34 rfl (lv_at hl 1 rfl) ?_
    exact W.iret hx hb hr (zEi () (by
        rw [hw] at c14
        have := zLe c14 (by omega) (by omega)
        rw [show n - 1 = k by omega]) hP hD hS) hS.2.2 dX3_leastRate_35
  · refine lv_iload_n hx hb dX3_leastRate_17 rfl (lv_at hl 1 rfl) ?_
    refine lv_aload_n hx hb dX3_leastRate_18 rfl (lv_at hl 2 rfl) ?_
    refine lv_iload_n hx hb dX3_leastRate_19 rfl (lv_at hl 0 rfl) ?_
    refine lv_iconst (v := 3) hx hb dX3_leastRate_20 (by decide) ?_
    refine zCi (S := Unit) (ws1 := fun u => [(h, .inr (3, [.ref f, .int wr])), (f, .inl (Z 0, 336, .inl fa))]) (wr := []) (va_runV (As := [.int (nI (k + 1)), .int 3]) (rest := [.int (lMin fa wr k)]) ⟨hx, hb, hml, hown, hts⟩ (m_X3_fact l G Z _ h f fa wr (nI (k + 1)) 3) (cwV 2 hts gX3_leastRate_X3_fact rfl rfl rfl (by decide +kernel) ⟨Nat.le_of_ble_eq_true rfl, Nat.le_of_ble_eq_true rfl⟩) (zPreV hK hP hD hS hA hSW [0, 1] rfl (by decide) 0 (ci := 3) rfl rfl rfl) rfl rfl hl.1 rfl (lv_room (Nat.le_of_ble_eq_true rfl)) dX3_leastRate_21 ⟨Nat.le_of_ble_eq_true rfl, Nat.le_of_ble_eq_true rfl⟩) hP hD hS hA [0, 1] [] [0, 1] rfl rfl (by decide) (by decide) (by decide) (fun _ => rfl) (fun r21 u H locs hw21 hP hD hS => ?_)
    try dsimp only at hw21
    subst hw21
    have hP : va_P G vwCl ([(h, .inr (3, [.ref f, .int wr])), (f, .inl (Z 0, 336, .inl fa))]) H := hP
    have hD : va_D A ([(h, .inr (3, [.ref f, .int wr])), (f, .inl (Z 0, 336, .inl fa))]) := hD
    refine va_mmin hx hb (hml.trans hl.1.symm) hown k_19 kms_min kmi kmc_min (Nat.le_of_ble_eq_true rfl) (Nat.le_of_ble_eq_true rfl) (Nat.zero_le _) (Nat.zero_le _) dX3_leastRate_24 ?_
    refine zTopI (y := zMin (lMin fa wr k) (lFact fa wr (nI (k + 1)) 3)) rfl ?_
    refine lv_istore_n (lv' := [(1, .int (zMin (lMin fa wr k) (lFact fa wr (nI (k + 1)) 3))), (2, .int (nI (k + 1))), (0, .ref h)]) hx hb dX3_leastRate_27 rfl hl (by decide) rfl (fun ls hl => ?_)
    refine lv_iinc (v := (nI ((k + 1) + 1))) (lv' := [(2, .int (nI ((k + 1) + 1))), (1, .int (zMin (lMin fa wr k) (lFact fa wr (nI (k + 1)) 3))), (0, .ref h)]) hx hb dX3_leastRate_28 hl (k := 1) rfl (nI_succ (k + 1)).symm (by decide) rfl (fun ls hl => ?_)
    refine lv_goto (tgt := 9) hx hb dX3_leastRate_31 (by decide) ?_
    exact ih9 (k + 1) (by
        try dsimp only
        rw [hw] at c14
        have := zNle c14 (by omega) (by omega)
        omega) (by
        try dsimp only
        rw [hw] at c14
        have := zNle c14 (by omega) (by omega)
        omega) _ _ _ hP hD hS (lv_sub hl [0, 1, 2] rfl)

set_option maxHeartbeats 4000000 in
set_option maxRecDepth 100000 in
theorem m_X3_countAboveZero (l : Launch) (G : va_G) (Z : Nat → ClassId) (sz : Nat) (h : Nat) (f : Nat) (fa : Nat → Int32) (wr : Int32) (what : Int32) (n : Nat) (hn : n ≤ 48) (hw : zMin wr 48 = nI n) : Met l yX3_countAboveZero wsX3_countAboveZero ({ frames := 2, cells := 0, slots := 0, locals := 45 }) (va_Pc [.ref h, .int what] (zWP G Z sz ([(h, .inr (3, [.ref f, .int wr])), (f, .inl (Z 0, 336, .inl fa))]))) (va_Qi (fun (r : Int32) (u : Unit) => r = lCnt fa wr what n) (fun (u : Unit) t => zB G (va_A ([(h, .inr (3, [.ref f, .int wr])), (f, .inl (Z 0, 336, .inl fa))]) sz) ([(h, .inr (3, [.ref f, .int wr])), (f, .inl (Z 0, 336, .inl fa))]) t) (va_A ([(h, .inr (3, [.ref f, .int wr])), (f, .inl (Z 0, 336, .inl fa))]) sz)) 0 0 (va_A ([(h, .inr (3, [.ref f, .int wr])), (f, .inl (Z 0, 336, .inl fa))]) sz) := by
  refine Met.ofW (cc := cX3_countAboveZero) (maxL := 4) (ret := (some .int)) (by decide) rfl ?_
  intro p e s m args below meth c s₁ B hml hv
  have hx := B.exec
  have hb := B.bytes
  have hr := B.returns
  have hts := atoms_spec (ws := wsX3_countAboveZero) B.pre
  have hown : s.vm.findClass RX3 = some m.cls := findClass_of_methodNamed B.named
  have hlocks := B.notSynchronized
  obtain ⟨rfl, hsz, hP, hK, hD, hA, hS, hSW⟩ := zEnter hv
  subst hsz
  generalize va_A ([(h, .inr (3, [.ref f, .int wr])), (f, .inl (Z 0, 336, .inl fa))]) s.heap.size = A at hD hA hS hSW ⊢
  have hP : va_P G vwCl ([(h, .inr (3, [.ref f, .int wr])), (f, .inl (Z 0, 336, .inl fa))]) s.heap := hP
  have hl := lv_entry ([.ref h, .int what]) (n := 4) (Nat.le_of_ble_eq_true rfl)
  rw [lg_entry_eq]
  generalize (lg_sl ([.ref h, .int what]) ++ List.replicate (4 - (lg_sl ([.ref h, .int what])).length) Slot.unset).toArray = ls at hl ⊢
  have hl : lv_has ls 4 [(0, .ref h), (1, .int what)] := hl
  refine lv_iconst (v := 0) hx hb dX3_countAboveZero_0 (by decide) ?_
  refine lv_istore_n (lv' := [(2, .int 0), (0, .ref h), (1, .int what)]) hx hb dX3_countAboveZero_1 rfl hl (by decide) rfl (fun ls hl => ?_)
  refine lv_iconst (v := 0) hx hb dX3_countAboveZero_2 (by decide) ?_
  refine lv_istore_n (lv' := [(3, .int 0), (2, .int 0), (0, .ref h), (1, .int what)]) hx hb dX3_countAboveZero_3 rfl hl (by decide) rfl (fun ls hl => ?_)
  refine zLoop (σ := Nat) (nL := 4) (fun zx => [(h, .inr (3, [.ref f, .int wr])), (f, .inl (Z 0, 336, .inl fa))]) (fun zx => [(3, .int (nI zx)), (2, .int (lCnt fa wr what zx)), (0, .ref h), (1, .int what)]) (fun zx => zx ≤ n) (fun zx => n - zx) ?_ 0 (by
      try dsimp only
      omega) hP hD hS (lv_sub hl [0, 1, 2, 3] rfl)
  intro zx hinv4 ih4 H locs ls hP hD hS hl
  obtain ⟨k, rfl⟩ : ∃ z, z = zx := ⟨_, rfl⟩
  try dsimp only at hinv4 ih4
  have hP : va_P G vwCl ([(h, .inr (3, [.ref f, .int wr])), (f, .inl (Z 0, 336, .inl fa))]) H := hP
  have hD : va_D A ([(h, .inr (3, [.ref f, .int wr])), (f, .inl (Z 0, 336, .inl fa))]) := hD
  have hl : lv_has ls 4 [(3, .int (nI k)), (2, .int (lCnt fa wr what k)), (0, .ref h), (1, .int what)] := hl
  refine lv_iload_n hx hb dX3_countAboveZero_4 rfl (lv_at hl 0 rfl) ?_
  refine lv_aload_n hx hb dX3_countAboveZero_5 rfl (lv_at hl 2 rfl) ?_
  refine zCi (S := Unit) (ws1 := fun u => [(h, .inr (3, [.ref f, .int wr])), (f, .inl (Z 0, 336, .inl fa))]) (wr := []) (va_runV (As := []) (rest := [.int (nI k)]) ⟨hx, hb, hml, hown, hts⟩ (m_X3_length l G Z _ h f fa wr) (cwV 0 hts gX3_countAboveZero_X3_length rfl rfl rfl (by decide +kernel) ⟨Nat.le_of_ble_eq_true rfl, Nat.le_of_ble_eq_true rfl⟩) (zPreV hK hP hD hS hA hSW [0, 1] rfl (by decide) 0 (ci := 3) rfl rfl rfl) rfl rfl hl.1 rfl (lv_room (Nat.le_of_ble_eq_true rfl)) dX3_countAboveZero_6 ⟨Nat.le_of_ble_eq_true rfl, Nat.le_of_ble_eq_true rfl⟩) hP hD hS hA [0, 1] [] [0, 1] rfl rfl (by decide) (by decide) (by decide) (fun _ => rfl) (fun r6 u H locs hw6 hP hD hS => ?_)
  try dsimp only at hw6
  subst hw6
  have hP : va_P G vwCl ([(h, .inr (3, [.ref f, .int wr])), (f, .inl (Z 0, 336, .inl fa))]) H := hP
  have hD : va_D A ([(h, .inr (3, [.ref f, .int wr])), (f, .inl (Z 0, 336, .inl fa))]) := hD
  refine lv_icmp_ge (tgt := 30) hx hb dX3_countAboveZero_9 (by decide) (fun c9 => ?_) (fun c9 => ?_)
  · refine lv_iload_n hx hb dX3_countAboveZero_30 rfl (lv_at hl 1 rfl) ?_
    exact W.iret hx hb hr (zEi () (by
        rw [hw] at c9
        have := zLe c9 (by omega) (by omega)
        rw [show n = k by omega]) hP hD hS) hS.2.2 dX3_countAboveZero_31
  · refine lv_aload_n hx hb dX3_countAboveZero_12 rfl (lv_at hl 2 rfl) ?_
    refine lv_iload_n hx hb dX3_countAboveZero_13 rfl (lv_at hl 0 rfl) ?_
    refine lv_iload_n hx hb dX3_countAboveZero_14 rfl (lv_at hl 3 rfl) ?_
    refine zCi (S := Unit) (ws1 := fun u => [(h, .inr (3, [.ref f, .int wr])), (f, .inl (Z 0, 336, .inl fa))]) (wr := []) (va_runV (As := [.int (nI k), .int what]) (rest := []) ⟨hx, hb, hml, hown, hts⟩ (m_X3_fact l G Z _ h f fa wr (nI k) what) (cwV 2 hts gX3_countAboveZero_X3_fact rfl rfl rfl (by decide +kernel) ⟨Nat.le_of_ble_eq_true rfl, Nat.le_of_ble_eq_true rfl⟩) (zPreV hK hP hD hS hA hSW [0, 1] rfl (by decide) 0 (ci := 3) rfl rfl rfl) rfl rfl hl.1 rfl (lv_room (Nat.le_of_ble_eq_true rfl)) dX3_countAboveZero_15 ⟨Nat.le_of_ble_eq_true rfl, Nat.le_of_ble_eq_true rfl⟩) hP hD hS hA [0, 1] [] [0, 1] rfl rfl (by decide) (by decide) (by decide) (fun _ => rfl) (fun r15 u H locs hw15 hP hD hS => ?_)
    try dsimp only at hw15
    subst hw15
    have hP : va_P G vwCl ([(h, .inr (3, [.ref f, .int wr])), (f, .inl (Z 0, 336, .inl fa))]) H := hP
    have hD : va_D A ([(h, .inr (3, [.ref f, .int wr])), (f, .inl (Z 0, 336, .inl fa))]) := hD
    refine lv_if_le (tgt := 24) hx hb dX3_countAboveZero_18 (by decide) (fun c18 => ?_) (fun c18 => ?_)
    · refine lv_iinc (v := (nI (k + 1))) (lv' := [(3, .int (nI (k + 1))), (2, .int (lCnt fa wr what k)), (0, .ref h), (1, .int what)]) hx hb dX3_countAboveZero_24 hl (k := 0) rfl (nI_succ k).symm (by decide) rfl (fun ls hl => ?_)
      refine lv_goto (tgt := 4) hx hb dX3_countAboveZero_27 (by decide) ?_
      have e_k : lCnt fa wr what (k + 1) = lCnt fa wr what k := by simp only [lCnt, c18, ↓reduceIte, Int32.add_zero]
      rw [← e_k] at hl
      exact ih4 (k + 1) (by
          try dsimp only
          rw [hw] at c9
          have := zNle c9 (by omega) (by omega)
          omega) (by
          try dsimp only
          rw [hw] at c9
          have := zNle c9 (by omega) (by omega)
          omega) _ _ _ hP hD hS (lv_sub hl [0, 1, 2, 3] rfl)
    · refine lv_iinc (v := ((lCnt fa wr what k) + 1)) (lv' := [(2, .int ((lCnt fa wr what k) + 1)), (3, .int (nI k)), (0, .ref h), (1, .int what)]) hx hb dX3_countAboveZero_21 hl (k := 1) rfl rfl (by decide) rfl (fun ls hl => ?_)
      refine lv_iinc (v := (nI (k + 1))) (lv' := [(3, .int (nI (k + 1))), (2, .int ((lCnt fa wr what k) + 1)), (0, .ref h), (1, .int what)]) hx hb dX3_countAboveZero_24 hl (k := 1) rfl (nI_succ k).symm (by decide) rfl (fun ls hl => ?_)
      refine lv_goto (tgt := 4) hx hb dX3_countAboveZero_27 (by decide) ?_
      have e_k : lCnt fa wr what (k + 1) = lCnt fa wr what k + 1 := by simp only [lCnt, c18, ↓reduceIte, Int32.add_zero]
      rw [← e_k] at hl
      exact ih4 (k + 1) (by
          try dsimp only
          rw [hw] at c9
          have := zNle c9 (by omega) (by omega)
          omega) (by
          try dsimp only
          rw [hw] at c9
          have := zNle c9 (by omega) (by omega)
          omega) _ _ _ hP hD hS (lv_sub hl [0, 1, 2, 3] rfl)

set_option maxHeartbeats 4000000 in
set_option maxRecDepth 100000 in
theorem m_X3_countOtherTrays (l : Launch) (G : va_G) (Z : Nat → ClassId) (sz : Nat) (h : Nat) (f : Nat) (fa : Nat → Int32) (wr : Int32) (n : Nat) (hn : n ≤ 48) (hw : zMin wr 48 = nI n) : Met l yX3_countOtherTrays wsX3_countOtherTrays ({ frames := 2, cells := 0, slots := 0, locals := 45 }) (va_Pc [.ref h] (zWP G Z sz ([(h, .inr (3, [.ref f, .int wr])), (f, .inl (Z 0, 336, .inl fa))]))) (va_Qi (fun (r : Int32) (u : Unit) => r = lOth fa wr (n - 1)) (fun (u : Unit) t => zB G (va_A ([(h, .inr (3, [.ref f, .int wr])), (f, .inl (Z 0, 336, .inl fa))]) sz) ([(h, .inr (3, [.ref f, .int wr])), (f, .inl (Z 0, 336, .inl fa))]) t) (va_A ([(h, .inr (3, [.ref f, .int wr])), (f, .inl (Z 0, 336, .inl fa))]) sz)) 0 0 (va_A ([(h, .inr (3, [.ref f, .int wr])), (f, .inl (Z 0, 336, .inl fa))]) sz) := by
  refine Met.ofW (cc := cX3_countOtherTrays) (maxL := 3) (ret := (some .int)) (by decide) rfl ?_
  intro p e s m args below meth c s₁ B hml hv
  have hx := B.exec
  have hb := B.bytes
  have hr := B.returns
  have hts := atoms_spec (ws := wsX3_countOtherTrays) B.pre
  have hown : s.vm.findClass RX3 = some m.cls := findClass_of_methodNamed B.named
  have hlocks := B.notSynchronized
  obtain ⟨rfl, hsz, hP, hK, hD, hA, hS, hSW⟩ := zEnter hv
  subst hsz
  generalize va_A ([(h, .inr (3, [.ref f, .int wr])), (f, .inl (Z 0, 336, .inl fa))]) s.heap.size = A at hD hA hS hSW ⊢
  have hP : va_P G vwCl ([(h, .inr (3, [.ref f, .int wr])), (f, .inl (Z 0, 336, .inl fa))]) s.heap := hP
  have hl := lv_entry ([.ref h]) (n := 3) (Nat.le_of_ble_eq_true rfl)
  rw [lg_entry_eq]
  generalize (lg_sl ([.ref h]) ++ List.replicate (3 - (lg_sl ([.ref h])).length) Slot.unset).toArray = ls at hl ⊢
  have hl : lv_has ls 3 [(0, .ref h)] := hl
  refine lv_iconst (v := 0) hx hb dX3_countOtherTrays_0 (by decide) ?_
  refine lv_istore_n (lv' := [(1, .int 0), (0, .ref h)]) hx hb dX3_countOtherTrays_1 rfl hl (by decide) rfl (fun ls hl => ?_)
  refine lv_iconst (v := 0) hx hb dX3_countOtherTrays_2 (by decide) ?_
  refine lv_istore_n (lv' := [(2, .int 0), (1, .int 0), (0, .ref h)]) hx hb dX3_countOtherTrays_3 rfl hl (by decide) rfl (fun ls hl => ?_)
  refine zLoop (σ := Nat) (nL := 3) (fun zx => [(h, .inr (3, [.ref f, .int wr])), (f, .inl (Z 0, 336, .inl fa))]) (fun zx => [(2, .int (nI zx)), (1, .int (lOth fa wr zx)), (0, .ref h)]) (fun zx => zx ≤ (n - 1)) (fun zx => (n - 1) - zx) ?_ 0 (by
      try dsimp only
      omega) hP hD hS (lv_sub hl [0, 1, 2] rfl)
  intro zx hinv4 ih4 H locs ls hP hD hS hl
  obtain ⟨k, rfl⟩ : ∃ z, z = zx := ⟨_, rfl⟩
  try dsimp only at hinv4 ih4
  have hP : va_P G vwCl ([(h, .inr (3, [.ref f, .int wr])), (f, .inl (Z 0, 336, .inl fa))]) H := hP
  have hD : va_D A ([(h, .inr (3, [.ref f, .int wr])), (f, .inl (Z 0, 336, .inl fa))]) := hD
  have hl : lv_has ls 3 [(2, .int (nI k)), (1, .int (lOth fa wr k)), (0, .ref h)] := hl
  refine lv_iload_n hx hb dX3_countOtherTrays_4 rfl (lv_at hl 0 rfl) ?_
  refine lv_aload_n hx hb dX3_countOtherTrays_5 rfl (lv_at hl 2 rfl) ?_
  refine zCi (S := Unit) (ws1 := fun u => [(h, .inr (3, [.ref f, .int wr])), (f, .inl (Z 0, 336, .inl fa))]) (wr := []) (va_runV (As := []) (rest := [.int (nI k)]) ⟨hx, hb, hml, hown, hts⟩ (m_X3_length l G Z _ h f fa wr) (cwV 0 hts gX3_countOtherTrays_X3_length rfl rfl rfl (by decide +kernel) ⟨Nat.le_of_ble_eq_true rfl, Nat.le_of_ble_eq_true rfl⟩) (zPreV hK hP hD hS hA hSW [0, 1] rfl (by decide) 0 (ci := 3) rfl rfl rfl) rfl rfl hl.1 rfl (lv_room (Nat.le_of_ble_eq_true rfl)) dX3_countOtherTrays_6 ⟨Nat.le_of_ble_eq_true rfl, Nat.le_of_ble_eq_true rfl⟩) hP hD hS hA [0, 1] [] [0, 1] rfl rfl (by decide) (by decide) (by decide) (fun _ => rfl) (fun r6 u H locs hw6 hP hD hS => ?_)
  try dsimp only at hw6
  subst hw6
  have hP : va_P G vwCl ([(h, .inr (3, [.ref f, .int wr])), (f, .inl (Z 0, 336, .inl fa))]) H := hP
  have hD : va_D A ([(h, .inr (3, [.ref f, .int wr])), (f, .inl (Z 0, 336, .inl fa))]) := hD
  refine lv_iconst (v := 1) hx hb dX3_countOtherTrays_9 (by decide) ?_
  refine lv_isub hx hb dX3_countOtherTrays_10 ?_
  refine lv_icmp_ge (tgt := 42) hx hb dX3_countOtherTrays_11 (by decide) (fun c11 => ?_) (fun c11 => ?_)
  · refine lv_iload_n hx hb dX3_countOtherTrays_42 rfl (lv_at hl 1 rfl) ?_
    exact W.iret hx hb hr (zEi () (by
        rw [hw] at c11
        have := zLe1 c11 (by omega) (by omega)
        rw [show n - 1 = k by omega]) hP hD hS) hS.2.2 dX3_countOtherTrays_43
  · refine lv_aload_n hx hb dX3_countOtherTrays_14 rfl (lv_at hl 2 rfl) ?_
    refine lv_iload_n hx hb dX3_countOtherTrays_15 rfl (lv_at hl 0 rfl) ?_
    refine lv_bipush (v := 6) hx hb dX3_countOtherTrays_16 (by decide) ?_
    refine zCi (S := Unit) (ws1 := fun u => [(h, .inr (3, [.ref f, .int wr])), (f, .inl (Z 0, 336, .inl fa))]) (wr := []) (va_runV (As := [.int (nI k), .int 6]) (rest := []) ⟨hx, hb, hml, hown, hts⟩ (m_X3_fact l G Z _ h f fa wr (nI k) 6) (cwV 2 hts gX3_countOtherTrays_X3_fact rfl rfl rfl (by decide +kernel) ⟨Nat.le_of_ble_eq_true rfl, Nat.le_of_ble_eq_true rfl⟩) (zPreV hK hP hD hS hA hSW [0, 1] rfl (by decide) 0 (ci := 3) rfl rfl rfl) rfl rfl hl.1 rfl (lv_room (Nat.le_of_ble_eq_true rfl)) dX3_countOtherTrays_18 ⟨Nat.le_of_ble_eq_true rfl, Nat.le_of_ble_eq_true rfl⟩) hP hD hS hA [0, 1] [] [0, 1] rfl rfl (by decide) (by decide) (by decide) (fun _ => rfl) (fun r18 u H locs hw18 hP hD hS => ?_)
    try dsimp only at hw18
    subst hw18
    have hP : va_P G vwCl ([(h, .inr (3, [.ref f, .int wr])), (f, .inl (Z 0, 336, .inl fa))]) H := hP
    have hD : va_D A ([(h, .inr (3, [.ref f, .int wr])), (f, .inl (Z 0, 336, .inl fa))]) := hD
    refine lv_aload_n hx hb dX3_countOtherTrays_21 rfl (lv_at hl 2 rfl) ?_
    refine lv_iload_n hx hb dX3_countOtherTrays_22 rfl (lv_at hl 0 rfl) ?_
    refine lv_iconst (v := 1) hx hb dX3_countOtherTrays_23 (by decide) ?_
    refine lv_iadd hx hb dX3_countOtherTrays_24 ?_
    refine zTopI (y := (nI (k + 1))) (nI_succ k).symm ?_
    refine lv_bipush (v := 6) hx hb dX3_countOtherTrays_25 (by decide) ?_
    refine zCi (S := Unit) (ws1 := fun u => [(h, .inr (3, [.ref f, .int wr])), (f, .inl (Z 0, 336, .inl fa))]) (wr := []) (va_runV (As := [.int (nI (k + 1)), .int 6]) (rest := [.int (lFact fa wr (nI k) 6)]) ⟨hx, hb, hml, hown, hts⟩ (m_X3_fact l G Z _ h f fa wr (nI (k + 1)) 6) (cwV 2 hts gX3_countOtherTrays_X3_fact rfl rfl rfl (by decide +kernel) ⟨Nat.le_of_ble_eq_true rfl, Nat.le_of_ble_eq_true rfl⟩) (zPreV hK hP hD hS hA hSW [0, 1] rfl (by decide) 0 (ci := 3) rfl rfl rfl) rfl rfl hl.1 rfl (lv_room (Nat.le_of_ble_eq_true rfl)) dX3_countOtherTrays_27 ⟨Nat.le_of_ble_eq_true rfl, Nat.le_of_ble_eq_true rfl⟩) hP hD hS hA [0, 1] [] [0, 1] rfl rfl (by decide) (by decide) (by decide) (fun _ => rfl) (fun r27 u H locs hw27 hP hD hS => ?_)
    try dsimp only at hw27
    subst hw27
    have hP : va_P G vwCl ([(h, .inr (3, [.ref f, .int wr])), (f, .inl (Z 0, 336, .inl fa))]) H := hP
    have hD : va_D A ([(h, .inr (3, [.ref f, .int wr])), (f, .inl (Z 0, 336, .inl fa))]) := hD
    refine lv_icmp_eq (tgt := 36) hx hb dX3_countOtherTrays_30 (by decide) (fun c30 => ?_) (fun c30 => ?_)
    · refine lv_iinc (v := (nI (k + 1))) (lv' := [(2, .int (nI (k + 1))), (1, .int (lOth fa wr k)), (0, .ref h)]) hx hb dX3_countOtherTrays_36 hl (k := 0) rfl (nI_succ k).symm (by decide) rfl (fun ls hl => ?_)
      refine lv_goto (tgt := 4) hx hb dX3_countOtherTrays_39 (by decide) ?_
      have e_k : lOth fa wr (k + 1) = lOth fa wr k := by simp only [lOth, c30, ↓reduceIte, Int32.add_zero]
      rw [← e_k] at hl
      exact ih4 (k + 1) (by
          try dsimp only
          rw [hw] at c11
          have := zNle1 c11 (by omega) (by omega)
          omega) (by
          try dsimp only
          rw [hw] at c11
          have := zNle1 c11 (by omega) (by omega)
          omega) _ _ _ hP hD hS (lv_sub hl [0, 1, 2] rfl)
    · refine lv_iinc (v := ((lOth fa wr k) + 1)) (lv' := [(1, .int ((lOth fa wr k) + 1)), (2, .int (nI k)), (0, .ref h)]) hx hb dX3_countOtherTrays_33 hl (k := 1) rfl rfl (by decide) rfl (fun ls hl => ?_)
      refine lv_iinc (v := (nI (k + 1))) (lv' := [(2, .int (nI (k + 1))), (1, .int ((lOth fa wr k) + 1)), (0, .ref h)]) hx hb dX3_countOtherTrays_36 hl (k := 1) rfl (nI_succ k).symm (by decide) rfl (fun ls hl => ?_)
      refine lv_goto (tgt := 4) hx hb dX3_countOtherTrays_39 (by decide) ?_
      have e_k : lOth fa wr (k + 1) = lOth fa wr k + 1 := by simp only [lOth, c30, ↓reduceIte, Int32.add_zero]
      rw [← e_k] at hl
      exact ih4 (k + 1) (by
          try dsimp only
          rw [hw] at c11
          have := zNle1 c11 (by omega) (by omega)
          omega) (by
          try dsimp only
          rw [hw] at c11
          have := zNle1 c11 (by omega) (by omega)
          omega) _ _ _ hP hD hS (lv_sub hl [0, 1, 2] rfl)
