set_option maxHeartbeats 4000000 in
set_option maxRecDepth 100000 in
theorem m_X1_init (l : Launch) (G : va_G) (Z : Nat → ClassId) (sz : Nat) (h : Nat) (off : Int32) (car : Int32)  : Met l yX1_init wsX1_init ({ frames := 1, cells := 0, slots := 0, locals := 12 }) (va_Pc [.ref h] (zWP G Z sz ([(h, .inr (1, [.int off, .int car]))]))) (va_Qv (fun (u : Unit) => True) (fun (u : Unit) t => zB G (va_A ([(h, .inr (1, [.int off, .int car]))]) sz) ([(h, .inr (1, [.int off, .int car]))]) t) (va_A ([(h, .inr (1, [.int off, .int car]))]) sz)) 0 0 (va_A ([(h, .inr (1, [.int off, .int car]))]) sz) := by
  refine Met.ofW (cc := cX1_init) (maxL := 1) (ret := none) (by decide) rfl ?_
  intro p e s m args below meth c s₁ B hml hv
  have hx := B.exec
  have hb := B.bytes
  have hr := B.returns
  have hts := atoms_spec (ws := wsX1_init) B.pre
  have hown : s.vm.findClass RX1 = some m.cls := findClass_of_methodNamed B.named
  have hlocks := B.notSynchronized
  have hin : meth.name = "<init>" := (name_of_methodNamed B.named B.method).1
  obtain ⟨rfl, hsz, hP, hK, hD, hA, hS, hSW⟩ := zEnter hv
  subst hsz
  generalize va_A ([(h, .inr (1, [.int off, .int car]))]) s.heap.size = A at hD hA hS hSW ⊢
  have k_1 := hts (.methodLink RX1 1 objectInit) (List.mem_of_getElem? (i := 1) rfl)
  have kio := hts (.instanceMethod objectInit) (List.mem_of_getElem? (i := 2) rfl)
  have kco := hts (.code objectInit ⟨#[0xb1]⟩ 1 none) (List.mem_of_getElem? (i := 3) rfl)
  have hP : va_P G vwCl ([(h, .inr (1, [.int off, .int car]))]) s.heap := hP
  have hl := lv_entry ([.ref h]) (n := 1) (Nat.le_of_ble_eq_true rfl)
  rw [lg_entry_eq]
  generalize (lg_sl ([.ref h]) ++ List.replicate (1 - (lg_sl ([.ref h])).length) Slot.unset).toArray = ls at hl ⊢
  have hl : lv_has ls 1 [(0, .ref h)] := hl
  refine lv_aload_n hx hb dX1_init_0 rfl (lv_at hl 0 rfl) ?_
  refine W.objInit hx hb hown k_1 kio kco rfl (by rw [hml]; exact hl.1) rfl dX1_init_1 (Nat.le_of_ble_eq_true rfl) (Nat.le_of_ble_eq_true rfl) ?_
  refine W.eq (g2 := F0 m 4 ls []) rfl ?_
  exact W.vret hx hb hr (zEv () (by
      trivial) hP hD hS) hS.2.2 dX1_init_4

set_option maxHeartbeats 4000000 in
set_option maxRecDepth 100000 in
theorem m_X1_clear (l : Launch) (G : va_G) (Z : Nat → ClassId) (sz : Nat) (h : Nat) (off : Int32) (car : Int32)  : Met l yX1_clear wsX1_clear ({ frames := 0, cells := 0, slots := 0, locals := 0 }) (va_Pc [.ref h] (zWP G Z sz ([(h, .inr (1, [.int off, .int car]))]))) (va_Qv (fun (u : Unit) => True) (fun (u : Unit) t => zB G (va_A ([(h, .inr (1, [.int off, .int car]))]) sz) ([(h, .inr (1, [.int 0, .int 0]))]) t) (va_A ([(h, .inr (1, [.int off, .int car]))]) sz)) 0 0 (va_A ([(h, .inr (1, [.int off, .int car]))]) sz) := by
  refine Met.ofW (cc := cX1_clear) (maxL := 1) (ret := none) (by decide) rfl ?_
  intro p e s m args below meth c s₁ B hml hv
  have hx := B.exec
  have hb := B.bytes
  have hr := B.returns
  have hts := atoms_spec (ws := wsX1_clear) B.pre
  have hown : s.vm.findClass RX1 = some m.cls := findClass_of_methodNamed B.named
  have hlocks := B.notSynchronized
  obtain ⟨rfl, hsz, hP, hK, hD, hA, hS, hSW⟩ := zEnter hv
  subst hsz
  generalize va_A ([(h, .inr (1, [.int off, .int car]))]) s.heap.size = A at hD hA hS hSW ⊢
  have k_7 := hts (.fieldLink RX1 7 "WarmRods$Drift" "off" "I") (List.mem_of_getElem? (i := 1) rfl)
  have iX1 : ∀ w ∈ u_ws RX1 TX1 2, w ∈ wsX1_clear := fun _ h => List.mem_cons_of_mem _ (List.mem_append_right _ h)
  have k_13 := hts (.fieldLink RX1 13 "WarmRods$Drift" "carried" "I") (List.mem_of_getElem? (i := 2) rfl)
  have hP : va_P G vwCl ([(h, .inr (1, [.int off, .int car]))]) s.heap := hP
  have hl := lv_entry ([.ref h]) (n := 1) (Nat.le_of_ble_eq_true rfl)
  rw [lg_entry_eq]
  generalize (lg_sl ([.ref h]) ++ List.replicate (1 - (lg_sl ([.ref h])).length) Slot.unset).toArray = ls at hl ⊢
  have hl : lv_has ls 1 [(0, .ref h)] := hl
  refine lv_aload_n hx hb dX1_clear_0 rfl (lv_at hl 0 rfl) ?_
  refine lv_iconst (v := 0) hx hb dX1_clear_1 (by decide) ?_
  refine va_put (D := G) (ci := 1) (v := .int 0) (ty := .int) (C := RX1) (T := TX1) (N := 2) hx hb hts iX1 tyX1 tyX1_ok nmX1 hown hK hP hD hS 0 rfl rfl 0 (by decide) k_7 (fun _ h9 => h9) rfl (by decide +kernel) rfl rfl (Nat.le_of_ble_eq_true rfl) dX1_clear_2 (fun H locs hP hD hS => ?_)
  have hP : va_P G vwCl ([(h, .inr (1, [.int 0, .int car]))]) H := hP
  have hD : va_D A ([(h, .inr (1, [.int 0, .int car]))]) := hD
  refine lv_aload_n hx hb dX1_clear_5 rfl (lv_at hl 0 rfl) ?_
  refine lv_iconst (v := 0) hx hb dX1_clear_6 (by decide) ?_
  refine va_put (D := G) (ci := 1) (v := .int 0) (ty := .int) (C := RX1) (T := TX1) (N := 2) hx hb hts iX1 tyX1 tyX1_ok nmX1 hown hK hP hD hS 0 rfl rfl 1 (by decide) k_13 (fun _ h9 => h9) rfl (by decide +kernel) rfl rfl (Nat.le_of_ble_eq_true rfl) dX1_clear_7 (fun H locs hP hD hS => ?_)
  have hP : va_P G vwCl ([(h, .inr (1, [.int 0, .int 0]))]) H := hP
  have hD : va_D A ([(h, .inr (1, [.int 0, .int 0]))]) := hD
  exact W.vret hx hb hr (zEv () (by
      trivial) hP hD hS) hS.2.2 dX1_clear_10

set_option maxHeartbeats 4000000 in
set_option maxRecDepth 100000 in
theorem m_X1_become (l : Launch) (G : va_G) (Z : Nat → ClassId) (sz : Nat) (h : Nat) (off : Int32) (car : Int32) (h2 : Nat) (off2 : Int32) (car2 : Int32)  : Met l yX1_become wsX1_become ({ frames := 0, cells := 0, slots := 0, locals := 0 }) (va_Pc [.ref h, .ref h2] (zWP G Z sz ([(h, .inr (1, [.int off, .int car])), (h2, .inr (1, [.int off2, .int car2]))]))) (va_Qv (fun (u : Unit) => True) (fun (u : Unit) t => zB G (va_A ([(h, .inr (1, [.int off, .int car])), (h2, .inr (1, [.int off2, .int car2]))]) sz) ([(h, .inr (1, [.int off2, .int car2])), (h2, .inr (1, [.int off2, .int car2]))]) t) (va_A ([(h, .inr (1, [.int off, .int car])), (h2, .inr (1, [.int off2, .int car2]))]) sz)) 0 0 (va_A ([(h, .inr (1, [.int off, .int car])), (h2, .inr (1, [.int off2, .int car2]))]) sz) := by
  refine Met.ofW (cc := cX1_become) (maxL := 2) (ret := none) (by decide) rfl ?_
  intro p e s m args below meth c s₁ B hml hv
  have hx := B.exec
  have hb := B.bytes
  have hr := B.returns
  have hts := atoms_spec (ws := wsX1_become) B.pre
  have hown : s.vm.findClass RX1 = some m.cls := findClass_of_methodNamed B.named
  have hlocks := B.notSynchronized
  obtain ⟨rfl, hsz, hP, hK, hD, hA, hS, hSW⟩ := zEnter hv
  subst hsz
  generalize va_A ([(h, .inr (1, [.int off, .int car])), (h2, .inr (1, [.int off2, .int car2]))]) s.heap.size = A at hD hA hS hSW ⊢
  have k_7 := hts (.fieldLink RX1 7 "WarmRods$Drift" "off" "I") (List.mem_of_getElem? (i := 1) rfl)
  have iX1 : ∀ w ∈ u_ws RX1 TX1 2, w ∈ wsX1_become := fun _ h => List.mem_cons_of_mem _ (List.mem_append_right _ h)
  have k_13 := hts (.fieldLink RX1 13 "WarmRods$Drift" "carried" "I") (List.mem_of_getElem? (i := 2) rfl)
  have hP : va_P G vwCl ([(h, .inr (1, [.int off, .int car])), (h2, .inr (1, [.int off2, .int car2]))]) s.heap := hP
  have hl := lv_entry ([.ref h, .ref h2]) (n := 2) (Nat.le_of_ble_eq_true rfl)
  rw [lg_entry_eq]
  generalize (lg_sl ([.ref h, .ref h2]) ++ List.replicate (2 - (lg_sl ([.ref h, .ref h2])).length) Slot.unset).toArray = ls at hl ⊢
  have hl : lv_has ls 2 [(0, .ref h), (1, .ref h2)] := hl
  refine lv_aload_n hx hb dX1_become_0 rfl (lv_at hl 0 rfl) ?_
  refine lv_aload_n hx hb dX1_become_1 rfl (lv_at hl 1 rfl) ?_
  refine va_get (D := G) (ci := 1) (v := .int off2) (C := RX1) (T := TX1) (N := 2) hx hb hts iX1 hown hK hP 1 rfl rfl 0 (by decide) k_7 (fun _ h9 => h9) rfl dX1_become_2 ?_
  refine va_put (D := G) (ci := 1) (v := .int off2) (ty := .int) (C := RX1) (T := TX1) (N := 2) hx hb hts iX1 tyX1 tyX1_ok nmX1 hown hK hP hD hS 0 rfl rfl 0 (by decide) k_7 (fun _ h9 => h9) rfl (by decide +kernel) rfl rfl (Nat.le_of_ble_eq_true rfl) dX1_become_5 (fun H locs hP hD hS => ?_)
  have hP : va_P G vwCl ([(h, .inr (1, [.int off2, .int car])), (h2, .inr (1, [.int off2, .int car2]))]) H := hP
  have hD : va_D A ([(h, .inr (1, [.int off2, .int car])), (h2, .inr (1, [.int off2, .int car2]))]) := hD
  refine lv_aload_n hx hb dX1_become_8 rfl (lv_at hl 0 rfl) ?_
  refine lv_aload_n hx hb dX1_become_9 rfl (lv_at hl 1 rfl) ?_
  refine va_get (D := G) (ci := 1) (v := .int car2) (C := RX1) (T := TX1) (N := 2) hx hb hts iX1 hown hK hP 1 rfl rfl 1 (by decide) k_13 (fun _ h9 => h9) rfl dX1_become_10 ?_
  refine va_put (D := G) (ci := 1) (v := .int car2) (ty := .int) (C := RX1) (T := TX1) (N := 2) hx hb hts iX1 tyX1 tyX1_ok nmX1 hown hK hP hD hS 0 rfl rfl 1 (by decide) k_13 (fun _ h9 => h9) rfl (by decide +kernel) rfl rfl (Nat.le_of_ble_eq_true rfl) dX1_become_13 (fun H locs hP hD hS => ?_)
  have hP : va_P G vwCl ([(h, .inr (1, [.int off2, .int car2])), (h2, .inr (1, [.int off2, .int car2]))]) H := hP
  have hD : va_D A ([(h, .inr (1, [.int off2, .int car2])), (h2, .inr (1, [.int off2, .int car2]))]) := hD
  exact W.vret hx hb hr (zEv () (by
      trivial) hP hD hS) hS.2.2 dX1_become_16

set_option maxHeartbeats 4000000 in
set_option maxRecDepth 100000 in
theorem m_X1_addHour (l : Launch) (G : va_G) (Z : Nat → ClassId) (sz : Nat) (h : Nat) (off : Int32) (car : Int32) (rate : Int32)  : Met l yX1_addHour wsX1_addHour ({ frames := 0, cells := 0, slots := 0, locals := 0 }) (va_Pc [.ref h, .int rate] (zWP G Z sz ([(h, .inr (1, [.int off, .int car]))]))) (va_Qv (fun (u : Unit) => True) (fun (u : Unit) t => zB G (va_A ([(h, .inr (1, [.int off, .int car]))]) sz) ([(h, .inr (1, [.int (dOff off car rate), .int (dCar car rate)]))]) t) (va_A ([(h, .inr (1, [.int off, .int car]))]) sz)) 0 0 (va_A ([(h, .inr (1, [.int off, .int car]))]) sz) := by
  refine Met.ofW (cc := cX1_addHour) (maxL := 3) (ret := none) (by decide) rfl ?_
  intro p e s m args below meth c s₁ B hml hv
  have hx := B.exec
  have hb := B.bytes
  have hr := B.returns
  have hts := atoms_spec (ws := wsX1_addHour) B.pre
  have hown : s.vm.findClass RX1 = some m.cls := findClass_of_methodNamed B.named
  have hlocks := B.notSynchronized
  obtain ⟨rfl, hsz, hP, hK, hD, hA, hS, hSW⟩ := zEnter hv
  subst hsz
  generalize va_A ([(h, .inr (1, [.int off, .int car]))]) s.heap.size = A at hD hA hS hSW ⊢
  have k_13 := hts (.fieldLink RX1 13 "WarmRods$Drift" "carried" "I") (List.mem_of_getElem? (i := 1) rfl)
  have iX1 : ∀ w ∈ u_ws RX1 TX1 2, w ∈ wsX1_addHour := fun _ h => List.mem_cons_of_mem _ (List.mem_append_right _ h)
  have k_7 := hts (.fieldLink RX1 7 "WarmRods$Drift" "off" "I") (List.mem_of_getElem? (i := 2) rfl)
  have hP : va_P G vwCl ([(h, .inr (1, [.int off, .int car]))]) s.heap := hP
  have hl := lv_entry ([.ref h, .int rate]) (n := 3) (Nat.le_of_ble_eq_true rfl)
  rw [lg_entry_eq]
  generalize (lg_sl ([.ref h, .int rate]) ++ List.replicate (3 - (lg_sl ([.ref h, .int rate])).length) Slot.unset).toArray = ls at hl ⊢
  have hl : lv_has ls 3 [(0, .ref h), (1, .int rate)] := hl
  refine lv_aload_n hx hb dX1_addHour_0 rfl (lv_at hl 0 rfl) ?_
  refine va_get (D := G) (ci := 1) (v := .int car) (C := RX1) (T := TX1) (N := 2) hx hb hts iX1 hown hK hP 0 rfl rfl 1 (by decide) k_13 (fun _ h9 => h9) rfl dX1_addHour_1 ?_
  refine lv_iload_n hx hb dX1_addHour_4 rfl (lv_at hl 1 rfl) ?_
  refine lv_sipush (v := 3600) hx hb dX1_addHour_5 (by decide) ?_
  refine lv_imul hx hb dX1_addHour_8 ?_
  refine lv_iadd hx hb dX1_addHour_9 ?_
  refine lv_istore_n (lv' := [(2, .int (car + (rate * 3600))), (0, .ref h), (1, .int rate)]) hx hb dX1_addHour_10 rfl hl (by decide) rfl (fun ls hl => ?_)
  refine lv_aload_n hx hb dX1_addHour_11 rfl (lv_at hl 1 rfl) ?_
  refine lv_dup hx hb dX1_addHour_12 rfl ?_
  refine va_get (D := G) (ci := 1) (v := .int off) (C := RX1) (T := TX1) (N := 2) hx hb hts iX1 hown hK hP 0 rfl rfl 0 (by decide) k_7 (fun _ h9 => h9) rfl dX1_addHour_13 ?_
  refine lv_iload_n hx hb dX1_addHour_16 rfl (lv_at hl 0 rfl) ?_
  refine lv_sipush (v := 1000) hx hb dX1_addHour_17 (by decide) ?_
  refine lv_idiv hx hb dX1_addHour_20 (by decide) ?_
  refine lv_iadd hx hb dX1_addHour_21 ?_
  refine va_put (D := G) (ci := 1) (v := .int (off + ((car + (rate * 3600)) / 1000))) (ty := .int) (C := RX1) (T := TX1) (N := 2) hx hb hts iX1 tyX1 tyX1_ok nmX1 hown hK hP hD hS 0 rfl rfl 0 (by decide) k_7 (fun _ h9 => h9) rfl (by decide +kernel) rfl rfl (Nat.le_of_ble_eq_true rfl) dX1_addHour_22 (fun H locs hP hD hS => ?_)
  have hP : va_P G vwCl ([(h, .inr (1, [.int (off + ((car + (rate * 3600)) / 1000)), .int car]))]) H := hP
  have hD : va_D A ([(h, .inr (1, [.int (off + ((car + (rate * 3600)) / 1000)), .int car]))]) := hD
  refine lv_aload_n hx hb dX1_addHour_25 rfl (lv_at hl 1 rfl) ?_
  refine lv_iload_n hx hb dX1_addHour_26 rfl (lv_at hl 0 rfl) ?_
  refine lv_sipush (v := 1000) hx hb dX1_addHour_27 (by decide) ?_
  refine lv_irem hx hb dX1_addHour_30 (by decide) ?_
  refine va_put (D := G) (ci := 1) (v := .int ((car + (rate * 3600)) - (car + (rate * 3600)) / 1000 * 1000)) (ty := .int) (C := RX1) (T := TX1) (N := 2) hx hb hts iX1 tyX1 tyX1_ok nmX1 hown hK hP hD hS 0 rfl rfl 1 (by decide) k_13 (fun _ h9 => h9) rfl (by decide +kernel) rfl rfl (Nat.le_of_ble_eq_true rfl) dX1_addHour_31 (fun H locs hP hD hS => ?_)
  have hP : va_P G vwCl ([(h, .inr (1, [.int (off + ((car + (rate * 3600)) / 1000)), .int ((car + (rate * 3600)) - (car + (rate * 3600)) / 1000 * 1000)]))]) H := hP
  have hD : va_D A ([(h, .inr (1, [.int (off + ((car + (rate * 3600)) / 1000)), .int ((car + (rate * 3600)) - (car + (rate * 3600)) / 1000 * 1000)]))]) := hD
  exact W.vret hx hb hr (zEv () (by
      trivial) hP hD hS) hS.2.2 dX1_addHour_34

set_option maxHeartbeats 4000000 in
set_option maxRecDepth 100000 in
theorem m_X1_isMoreThan (l : Launch) (G : va_G) (Z : Nat → ClassId) (sz : Nat) (h : Nat) (off : Int32) (car : Int32) (lim : Int32)  : Met l yX1_isMoreThan wsX1_isMoreThan ({ frames := 0, cells := 0, slots := 0, locals := 0 }) (va_Pc [.ref h, .int lim] (zWP G Z sz ([(h, .inr (1, [.int off, .int car]))]))) (va_Qi (fun (r : Int32) (u : Unit) => r = dMore off lim) (fun (u : Unit) t => zB G (va_A ([(h, .inr (1, [.int off, .int car]))]) sz) ([(h, .inr (1, [.int off, .int car]))]) t) (va_A ([(h, .inr (1, [.int off, .int car]))]) sz)) 0 0 (va_A ([(h, .inr (1, [.int off, .int car]))]) sz) := by
  refine Met.ofW (cc := cX1_isMoreThan) (maxL := 2) (ret := (some .boolean)) (by decide) rfl ?_
  intro p e s m args below meth c s₁ B hml hv
  have hx := B.exec
  have hb := B.bytes
  have hr := B.returns
  have hts := atoms_spec (ws := wsX1_isMoreThan) B.pre
  have hown : s.vm.findClass RX1 = some m.cls := findClass_of_methodNamed B.named
  have hlocks := B.notSynchronized
  obtain ⟨rfl, hsz, hP, hK, hD, hA, hS, hSW⟩ := zEnter hv
  subst hsz
  generalize va_A ([(h, .inr (1, [.int off, .int car]))]) s.heap.size = A at hD hA hS hSW ⊢
  have k_7 := hts (.fieldLink RX1 7 "WarmRods$Drift" "off" "I") (List.mem_of_getElem? (i := 1) rfl)
  have iX1 : ∀ w ∈ u_ws RX1 TX1 2, w ∈ wsX1_isMoreThan := fun _ h => List.mem_cons_of_mem _ (List.mem_append_right _ h)
  have hP : va_P G vwCl ([(h, .inr (1, [.int off, .int car]))]) s.heap := hP
  have hl := lv_entry ([.ref h, .int lim]) (n := 2) (Nat.le_of_ble_eq_true rfl)
  rw [lg_entry_eq]
  generalize (lg_sl ([.ref h, .int lim]) ++ List.replicate (2 - (lg_sl ([.ref h, .int lim])).length) Slot.unset).toArray = ls at hl ⊢
  have hl : lv_has ls 2 [(0, .ref h), (1, .int lim)] := hl
  refine lv_aload_n hx hb dX1_isMoreThan_0 rfl (lv_at hl 0 rfl) ?_
  refine va_get (D := G) (ci := 1) (v := .int off) (C := RX1) (T := TX1) (N := 2) hx hb hts iX1 hown hK hP 0 rfl rfl 0 (by decide) k_7 (fun _ h9 => h9) rfl dX1_isMoreThan_1 ?_
  refine lv_iload_n hx hb dX1_isMoreThan_4 rfl (lv_at hl 1 rfl) ?_
  refine lv_icmp_gt (tgt := 17) hx hb dX1_isMoreThan_5 (by decide) (fun c5 => ?_) (fun c5 => ?_)
  · refine lv_iconst (v := 1) hx hb dX1_isMoreThan_17 (by decide) ?_
    refine lv_goto (tgt := 22) hx hb dX1_isMoreThan_18 (by decide) ?_
    exact W.zret hx hb hr (rfl) (zEi () (by
        simp only [dMore, c5, Int32.not_le.mpr c5, ↓reduceIte]) hP hD hS) hS.2.2 dX1_isMoreThan_22
  · refine lv_aload_n hx hb dX1_isMoreThan_8 rfl (lv_at hl 0 rfl) ?_
    refine va_get (D := G) (ci := 1) (v := .int off) (C := RX1) (T := TX1) (N := 2) hx hb hts iX1 hown hK hP 0 rfl rfl 0 (by decide) k_7 (fun _ h9 => h9) rfl dX1_isMoreThan_9 ?_
    refine lv_iload_n hx hb dX1_isMoreThan_12 rfl (lv_at hl 1 rfl) ?_
    refine lv_ineg hx hb dX1_isMoreThan_13 ?_
    refine lv_icmp_ge (tgt := 21) hx hb dX1_isMoreThan_14 (by decide) (fun c14 => ?_) (fun c14 => ?_)
    · refine lv_iconst (v := 0) hx hb dX1_isMoreThan_21 (by decide) ?_
      exact W.zret hx hb hr (rfl) (zEi () (by
          simp only [dMore, c5, Int32.not_lt.mp c5, c14, Int32.not_lt.mpr c14, ↓reduceIte]) hP hD hS) hS.2.2 dX1_isMoreThan_22
    · refine lv_iconst (v := 1) hx hb dX1_isMoreThan_17 (by decide) ?_
      refine lv_goto (tgt := 22) hx hb dX1_isMoreThan_18 (by decide) ?_
      exact W.zret hx hb hr (rfl) (zEi () (by
          simp only [dMore, c5, Int32.not_lt.mp c5, c14, Int32.not_le.mp c14, ↓reduceIte]) hP hD hS) hS.2.2 dX1_isMoreThan_22
