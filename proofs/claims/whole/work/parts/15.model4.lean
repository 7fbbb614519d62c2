set_option maxHeartbeats 4000000 in
set_option maxRecDepth 100000 in
theorem m_X8_init (l : Launch) (G : va_G) (Z : Nat → ClassId) (sz : Nat) (h : Nat) (o : Int32) (c0 : Int32) (nu : Int32) (dn : Int32) (er : Int32)  : Met l yX8_init wsX8_init ({ frames := 1, cells := 6, slots := 3552, locals := 12 }) (va_Pc [.ref h] (zWP G Z sz ([(h, .inr (8, [.null, .null, .null, .int 0, .null, .null, .int o, .int c0, .null, .int 0, .int 0, .int nu, .int dn, .int er]))]))) (va_Qv (fun (u : (Nat → Nat) × (Nat → Int32)) => u.1 0 = h ∧ u.2 = mAl0) (fun (u : (Nat → Nat) × (Nat → Int32)) t => zB G (va_A ([(h, .inr (8, [.null, .null, .null, .int 0, .null, .null, .int o, .int c0, .null, .int 0, .int 0, .int nu, .int dn, .int er]))]) sz) (mk Z u.1 (u.2, (fun _ => 0), (fun _ => 0), 0, (fun _ => 0), (fun _ => 0), o, c0, (fun _ => 0), 0, 0, nu, dn, er)) t) (va_A ([(h, .inr (8, [.null, .null, .null, .int 0, .null, .null, .int o, .int c0, .null, .int 0, .int 0, .int nu, .int dn, .int er]))]) sz)) 6 3552 (va_A ([(h, .inr (8, [.null, .null, .null, .int 0, .null, .null, .int o, .int c0, .null, .int 0, .int 0, .int nu, .int dn, .int er]))]) sz) := by
  refine Met.ofW (cc := cX8_init) (maxL := 1) (ret := none) (by decide) rfl ?_
  intro p e s m args below meth c s₁ B hml hv
  have hx := B.exec
  have hb := B.bytes
  have hr := B.returns
  have hts := atoms_spec (ws := wsX8_init) B.pre
  have hown : s.vm.findClass RX8 = some m.cls := findClass_of_methodNamed B.named
  have hlocks := B.notSynchronized
  have hin : meth.name = "<init>" := (name_of_methodNamed B.named B.method).1
  obtain ⟨rfl, hsz, hP, hK, hD, hA, hS, hSW⟩ := zEnter hv
  subst hsz
  generalize va_A ([(h, .inr (8, [.null, .null, .null, .int 0, .null, .null, .int o, .int c0, .null, .int 0, .int 0, .int nu, .int dn, .int er]))]) s.heap.size = A at hD hA hS hSW ⊢
  have k_1 := hts (.methodLink RX8 1 objectInit) (List.mem_of_getElem? (i := 1) rfl)
  have kio := hts (.instanceMethod objectInit) (List.mem_of_getElem? (i := 2) rfl)
  have kco := hts (.code objectInit ⟨#[0xb1]⟩ 1 none) (List.mem_of_getElem? (i := 3) rfl)
  have karr_int := hts (.arrayClass .int) (List.mem_of_getElem? (i := 4) rfl)
  have k_7 := hts (.fieldLink RX8 7 "WarmRodsModel" "all" "[I") (List.mem_of_getElem? (i := 5) rfl)
  have iX8 : ∀ w ∈ u_ws RX8 TX8 14, w ∈ wsX8_init := fun _ h => List.mem_cons_of_mem _ (List.mem_append_right _ h)
  have k_13 := hts (.fieldLink RX8 13 "WarmRodsModel" "kept" "[I") (List.mem_of_getElem? (i := 6) rfl)
  have k_16 := hts (.fieldLink RX8 16 "WarmRodsModel" "history" "[I") (List.mem_of_getElem? (i := 7) rfl)
  have k_19 := hts (.fieldLink RX8 19 "WarmRodsModel" "slots" "[I") (List.mem_of_getElem? (i := 8) rfl)
  have k_22 := hts (.fieldLink RX8 22 "WarmRodsModel" "isSaved" "[I") (List.mem_of_getElem? (i := 9) rfl)
  have k_25 := hts (.fieldLink RX8 25 "WarmRodsModel" "pad" "[I") (List.mem_of_getElem? (i := 10) rfl)
  have hP : va_P G vwCl ([(h, .inr (8, [.null, .null, .null, .int 0, .null, .null, .int o, .int c0, .null, .int 0, .int 0, .int nu, .int dn, .int er]))]) s.heap := hP
  have hl := lv_entry ([.ref h]) (n := 1) (Nat.le_of_ble_eq_true rfl)
  rw [lg_entry_eq]
  generalize (lg_sl ([.ref h]) ++ List.replicate (1 - (lg_sl ([.ref h])).length) Slot.unset).toArray = ls at hl ⊢
  have hl : lv_has ls 1 [(0, .ref h)] := hl
  refine lv_aload_n hx hb dX8_init_0 rfl (lv_at hl 0 rfl) ?_
  refine W.objInit hx hb hown k_1 kio kco rfl (by rw [hml]; exact hl.1) rfl dX8_init_1 (Nat.le_of_ble_eq_true rfl) (Nat.le_of_ble_eq_true rfl) ?_
  refine W.eq (g2 := F0 m 4 ls []) rfl ?_
  refine lv_aload_n hx hb dX8_init_4 rfl (lv_at hl 0 rfl) ?_
  refine lv_sipush (v := 347) hx hb dX8_init_5 (by decide) ?_
  refine zNewa (t0 := 0) (atype := .int) (ty := .int) (N' := 347) hx hb karr_int rfl hK rfl hP hD hS hA (fun _ => rfl) (by decide) (by decide) (Nat.le_of_ble_eq_true rfl) (Nat.le_of_ble_eq_true rfl) (Nat.le_of_ble_eq_true rfl) dX8_init_8 (fun q8 H hP hD hS => ?_)
  have hP : va_P G vwCl ([(h, .inr (8, [.null, .null, .null, .int 0, .null, .null, .int o, .int c0, .null, .int 0, .int 0, .int nu, .int dn, .int er])), (q8, .inl (Z 0, 347, .inl (fun _ => 0)))]) H := hP
  have hD : va_D A ([(h, .inr (8, [.null, .null, .null, .int 0, .null, .null, .int o, .int c0, .null, .int 0, .int 0, .int nu, .int dn, .int er])), (q8, .inl (Z 0, 347, .inl (fun _ => 0)))]) := hD
  refine va_putF (D := G) (ci := 8) (v := .ref q8) (ty := .array .int) (C := RX8) (T := TX8) (N := 14) hx hb hts iX8 tyX8 tyX8_ok nmX8 hown hK hP hD hS 0 rfl rfl 0 (by decide) k_7 (fun _ h9 => h9) rfl hin rfl (by decide +kernel) rfl rfl (Nat.le_of_ble_eq_true rfl) dX8_init_10 (fun H locs hP hD hS => ?_)
  have hP : va_P G vwCl ([(h, .inr (8, [.ref q8, .null, .null, .int 0, .null, .null, .int o, .int c0, .null, .int 0, .int 0, .int nu, .int dn, .int er])), (q8, .inl (Z 0, 347, .inl (fun _ => 0)))]) H := hP
  have hD : va_D A ([(h, .inr (8, [.ref q8, .null, .null, .int 0, .null, .null, .int o, .int c0, .null, .int 0, .int 0, .int nu, .int dn, .int er])), (q8, .inl (Z 0, 347, .inl (fun _ => 0)))]) := hD
  refine lv_aload_n hx hb dX8_init_13 rfl (lv_at hl 0 rfl) ?_
  refine lv_sipush (v := 347) hx hb dX8_init_14 (by decide) ?_
  refine zNewa (t0 := 0) (atype := .int) (ty := .int) (N' := 347) hx hb karr_int rfl hK rfl hP hD hS hA (fun _ => rfl) (by decide) (by decide) (Nat.le_of_ble_eq_true rfl) (Nat.le_of_ble_eq_true rfl) (Nat.le_of_ble_eq_true rfl) dX8_init_17 (fun q17 H hP hD hS => ?_)
  have hP : va_P G vwCl ([(h, .inr (8, [.ref q8, .null, .null, .int 0, .null, .null, .int o, .int c0, .null, .int 0, .int 0, .int nu, .int dn, .int er])), (q8, .inl (Z 0, 347, .inl (fun _ => 0))), (q17, .inl (Z 0, 347, .inl (fun _ => 0)))]) H := hP
  have hD : va_D A ([(h, .inr (8, [.ref q8, .null, .null, .int 0, .null, .null, .int o, .int c0, .null, .int 0, .int 0, .int nu, .int dn, .int er])), (q8, .inl (Z 0, 347, .inl (fun _ => 0))), (q17, .inl (Z 0, 347, .inl (fun _ => 0)))]) := hD
  refine va_putF (D := G) (ci := 8) (v := .ref q17) (ty := .array .int) (C := RX8) (T := TX8) (N := 14) hx hb hts iX8 tyX8 tyX8_ok nmX8 hown hK hP hD hS 0 rfl rfl 1 (by decide) k_13 (fun _ h9 => h9) rfl hin rfl (by decide +kernel) rfl rfl (Nat.le_of_ble_eq_true rfl) dX8_init_19 (fun H locs hP hD hS => ?_)
  have hP : va_P G vwCl ([(h, .inr (8, [.ref q8, .ref q17, .null, .int 0, .null, .null, .int o, .int c0, .null, .int 0, .int 0, .int nu, .int dn, .int er])), (q8, .inl (Z 0, 347, .inl (fun _ => 0))), (q17, .inl (Z 0, 347, .inl (fun _ => 0)))]) H := hP
  have hD : va_D A ([(h, .inr (8, [.ref q8, .ref q17, .null, .int 0, .null, .null, .int o, .int c0, .null, .int 0, .int 0, .int nu, .int dn, .int er])), (q8, .inl (Z 0, 347, .inl (fun _ => 0))), (q17, .inl (Z 0, 347, .inl (fun _ => 0)))]) := hD
  refine lv_aload_n hx hb dX8_init_22 rfl (lv_at hl 0 rfl) ?_
  refine lv_sipush (v := 2082) hx hb dX8_init_23 (by decide) ?_
  refine zNewa (t0 := 0) (atype := .int) (ty := .int) (N' := 2082) hx hb karr_int rfl hK rfl hP hD hS hA (fun _ => rfl) (by decide) (by decide) (Nat.le_of_ble_eq_true rfl) (Nat.le_of_ble_eq_true rfl) (Nat.le_of_ble_eq_true rfl) dX8_init_26 (fun q26 H hP hD hS => ?_)
  have hP : va_P G vwCl ([(h, .inr (8, [.ref q8, .ref q17, .null, .int 0, .null, .null, .int o, .int c0, .null, .int 0, .int 0, .int nu, .int dn, .int er])), (q8, .inl (Z 0, 347, .inl (fun _ => 0))), (q17, .inl (Z 0, 347, .inl (fun _ => 0))), (q26, .inl (Z 0, 2082, .inl (fun _ => 0)))]) H := hP
  have hD : va_D A ([(h, .inr (8, [.ref q8, .ref q17, .null, .int 0, .null, .null, .int o, .int c0, .null, .int 0, .int 0, .int nu, .int dn, .int er])), (q8, .inl (Z 0, 347, .inl (fun _ => 0))), (q17, .inl (Z 0, 347, .inl (fun _ => 0))), (q26, .inl (Z 0, 2082, .inl (fun _ => 0)))]) := hD
  refine va_putF (D := G) (ci := 8) (v := .ref q26) (ty := .array .int) (C := RX8) (T := TX8) (N := 14) hx hb hts iX8 tyX8 tyX8_ok nmX8 hown hK hP hD hS 0 rfl rfl 2 (by decide) k_16 (fun _ h9 => h9) rfl hin rfl (by decide +kernel) rfl rfl (Nat.le_of_ble_eq_true rfl) dX8_init_28 (fun H locs hP hD hS => ?_)
  have hP : va_P G vwCl ([(h, .inr (8, [.ref q8, .ref q17, .ref q26, .int 0, .null, .null, .int o, .int c0, .null, .int 0, .int 0, .int nu, .int dn, .int er])), (q8, .inl (Z 0, 347, .inl (fun _ => 0))), (q17, .inl (Z 0, 347, .inl (fun _ => 0))), (q26, .inl (Z 0, 2082, .inl (fun _ => 0)))]) H := hP
  have hD : va_D A ([(h, .inr (8, [.ref q8, .ref q17, .ref q26, .int 0, .null, .null, .int o, .int c0, .null, .int 0, .int 0, .int nu, .int dn, .int er])), (q8, .inl (Z 0, 347, .inl (fun _ => 0))), (q17, .inl (Z 0, 347, .inl (fun _ => 0))), (q26, .inl (Z 0, 2082, .inl (fun _ => 0)))]) := hD
  refine lv_aload_n hx hb dX8_init_31 rfl (lv_at hl 0 rfl) ?_
  refine lv_sipush (v := 694) hx hb dX8_init_32 (by decide) ?_
  refine zNewa (t0 := 0) (atype := .int) (ty := .int) (N' := 694) hx hb karr_int rfl hK rfl hP hD hS hA (fun _ => rfl) (by decide) (by decide) (Nat.le_of_ble_eq_true rfl) (Nat.le_of_ble_eq_true rfl) (Nat.le_of_ble_eq_true rfl) dX8_init_35 (fun q35 H hP hD hS => ?_)
  have hP : va_P G vwCl ([(h, .inr (8, [.ref q8, .ref q17, .ref q26, .int 0, .null, .null, .int o, .int c0, .null, .int 0, .int 0, .int nu, .int dn, .int er])), (q8, .inl (Z 0, 347, .inl (fun _ => 0))), (q17, .inl (Z 0, 347, .inl (fun _ => 0))), (q26, .inl (Z 0, 2082, .inl (fun _ => 0))), (q35, .inl (Z 0, 694, .inl (fun _ => 0)))]) H := hP
  have hD : va_D A ([(h, .inr (8, [.ref q8, .ref q17, .ref q26, .int 0, .null, .null, .int o, .int c0, .null, .int 0, .int 0, .int nu, .int dn, .int er])), (q8, .inl (Z 0, 347, .inl (fun _ => 0))), (q17, .inl (Z 0, 347, .inl (fun _ => 0))), (q26, .inl (Z 0, 2082, .inl (fun _ => 0))), (q35, .inl (Z 0, 694, .inl (fun _ => 0)))]) := hD
  refine va_putF (D := G) (ci := 8) (v := .ref q35) (ty := .array .int) (C := RX8) (T := TX8) (N := 14) hx hb hts iX8 tyX8 tyX8_ok nmX8 hown hK hP hD hS 0 rfl rfl 4 (by decide) k_19 (fun _ h9 => h9) rfl hin rfl (by decide +kernel) rfl rfl (Nat.le_of_ble_eq_true rfl) dX8_init_37 (fun H locs hP hD hS => ?_)
  have hP : va_P G vwCl ([(h, .inr (8, [.ref q8, .ref q17, .ref q26, .int 0, .ref q35, .null, .int o, .int c0, .null, .int 0, .int 0, .int nu, .int dn, .int er])), (q8, .inl (Z 0, 347, .inl (fun _ => 0))), (q17, .inl (Z 0, 347, .inl (fun _ => 0))), (q26, .inl (Z 0, 2082, .inl (fun _ => 0))), (q35, .inl (Z 0, 694, .inl (fun _ => 0)))]) H := hP
  have hD : va_D A ([(h, .inr (8, [.ref q8, .ref q17, .ref q26, .int 0, .ref q35, .null, .int o, .int c0, .null, .int 0, .int 0, .int nu, .int dn, .int er])), (q8, .inl (Z 0, 347, .inl (fun _ => 0))), (q17, .inl (Z 0, 347, .inl (fun _ => 0))), (q26, .inl (Z 0, 2082, .inl (fun _ => 0))), (q35, .inl (Z 0, 694, .inl (fun _ => 0)))]) := hD
  refine lv_aload_n hx hb dX8_init_40 rfl (lv_at hl 0 rfl) ?_
  refine lv_iconst (v := 2) hx hb dX8_init_41 (by decide) ?_
  refine zNewa (t0 := 0) (atype := .int) (ty := .int) (N' := 2) hx hb karr_int rfl hK rfl hP hD hS hA (fun _ => rfl) (by decide) (by decide) (Nat.le_of_ble_eq_true rfl) (Nat.le_of_ble_eq_true rfl) (Nat.le_of_ble_eq_true rfl) dX8_init_42 (fun q42 H hP hD hS => ?_)
  have hP : va_P G vwCl ([(h, .inr (8, [.ref q8, .ref q17, .ref q26, .int 0, .ref q35, .null, .int o, .int c0, .null, .int 0, .int 0, .int nu, .int dn, .int er])), (q8, .inl (Z 0, 347, .inl (fun _ => 0))), (q17, .inl (Z 0, 347, .inl (fun _ => 0))), (q26, .inl (Z 0, 2082, .inl (fun _ => 0))), (q35, .inl (Z 0, 694, .inl (fun _ => 0))), (q42, .inl (Z 0, 2, .inl (fun _ => 0)))]) H := hP
  have hD : va_D A ([(h, .inr (8, [.ref q8, .ref q17, .ref q26, .int 0, .ref q35, .null, .int o, .int c0, .null, .int 0, .int 0, .int nu, .int dn, .int er])), (q8, .inl (Z 0, 347, .inl (fun _ => 0))), (q17, .inl (Z 0, 347, .inl (fun _ => 0))), (q26, .inl (Z 0, 2082, .inl (fun _ => 0))), (q35, .inl (Z 0, 694, .inl (fun _ => 0))), (q42, .inl (Z 0, 2, .inl (fun _ => 0)))]) := hD
  refine va_putF (D := G) (ci := 8) (v := .ref q42) (ty := .array .int) (C := RX8) (T := TX8) (N := 14) hx hb hts iX8 tyX8 tyX8_ok nmX8 hown hK hP hD hS 0 rfl rfl 5 (by decide) k_22 (fun _ h9 => h9) rfl hin rfl (by decide +kernel) rfl rfl (Nat.le_of_ble_eq_true rfl) dX8_init_44 (fun H locs hP hD hS => ?_)
  have hP : va_P G vwCl ([(h, .inr (8, [.ref q8, .ref q17, .ref q26, .int 0, .ref q35, .ref q42, .int o, .int c0, .null, .int 0, .int 0, .int nu, .int dn, .int er])), (q8, .inl (Z 0, 347, .inl (fun _ => 0))), (q17, .inl (Z 0, 347, .inl (fun _ => 0))), (q26, .inl (Z 0, 2082, .inl (fun _ => 0))), (q35, .inl (Z 0, 694, .inl (fun _ => 0))), (q42, .inl (Z 0, 2, .inl (fun _ => 0)))]) H := hP
  have hD : va_D A ([(h, .inr (8, [.ref q8, .ref q17, .ref q26, .int 0, .ref q35, .ref q42, .int o, .int c0, .null, .int 0, .int 0, .int nu, .int dn, .int er])), (q8, .inl (Z 0, 347, .inl (fun _ => 0))), (q17, .inl (Z 0, 347, .inl (fun _ => 0))), (q26, .inl (Z 0, 2082, .inl (fun _ => 0))), (q35, .inl (Z 0, 694, .inl (fun _ => 0))), (q42, .inl (Z 0, 2, .inl (fun _ => 0)))]) := hD
  refine lv_aload_n hx hb dX8_init_47 rfl (lv_at hl 0 rfl) ?_
  refine lv_bipush (v := 80) hx hb dX8_init_48 (by decide) ?_
  refine zNewa (t0 := 0) (atype := .int) (ty := .int) (N' := 80) hx hb karr_int rfl hK rfl hP hD hS hA (fun _ => rfl) (by decide) (by decide) (Nat.le_of_ble_eq_true rfl) (Nat.le_of_ble_eq_true rfl) (Nat.le_of_ble_eq_true rfl) dX8_init_50 (fun q50 H hP hD hS => ?_)
  have hP : va_P G vwCl ([(h, .inr (8, [.ref q8, .ref q17, .ref q26, .int 0, .ref q35, .ref q42, .int o, .int c0, .null, .int 0, .int 0, .int nu, .int dn, .int er])), (q8, .inl (Z 0, 347, .inl (fun _ => 0))), (q17, .inl (Z 0, 347, .inl (fun _ => 0))), (q26, .inl (Z 0, 2082, .inl (fun _ => 0))), (q35, .inl (Z 0, 694, .inl (fun _ => 0))), (q42, .inl (Z 0, 2, .inl (fun _ => 0))), (q50, .inl (Z 0, 80, .inl (fun _ => 0)))]) H := hP
  have hD : va_D A ([(h, .inr (8, [.ref q8, .ref q17, .ref q26, .int 0, .ref q35, .ref q42, .int o, .int c0, .null, .int 0, .int 0, .int nu, .int dn, .int er])), (q8, .inl (Z 0, 347, .inl (fun _ => 0))), (q17, .inl (Z 0, 347, .inl (fun _ => 0))), (q26, .inl (Z 0, 2082, .inl (fun _ => 0))), (q35, .inl (Z 0, 694, .inl (fun _ => 0))), (q42, .inl (Z 0, 2, .inl (fun _ => 0))), (q50, .inl (Z 0, 80, .inl (fun _ => 0)))]) := hD
  refine va_putF (D := G) (ci := 8) (v := .ref q50) (ty := .array .int) (C := RX8) (T := TX8) (N := 14) hx hb hts iX8 tyX8 tyX8_ok nmX8 hown hK hP hD hS 0 rfl rfl 8 (by decide) k_25 (fun _ h9 => h9) rfl hin rfl (by decide +kernel) rfl rfl (Nat.le_of_ble_eq_true rfl) dX8_init_52 (fun H locs hP hD hS => ?_)
  have hP : va_P G vwCl ([(h, .inr (8, [.ref q8, .ref q17, .ref q26, .int 0, .ref q35, .ref q42, .int o, .int c0, .ref q50, .int 0, .int 0, .int nu, .int dn, .int er])), (q8, .inl (Z 0, 347, .inl (fun _ => 0))), (q17, .inl (Z 0, 347, .inl (fun _ => 0))), (q26, .inl (Z 0, 2082, .inl (fun _ => 0))), (q35, .inl (Z 0, 694, .inl (fun _ => 0))), (q42, .inl (Z 0, 2, .inl (fun _ => 0))), (q50, .inl (Z 0, 80, .inl (fun _ => 0)))]) H := hP
  have hD : va_D A ([(h, .inr (8, [.ref q8, .ref q17, .ref q26, .int 0, .ref q35, .ref q42, .int o, .int c0, .ref q50, .int 0, .int 0, .int nu, .int dn, .int er])), (q8, .inl (Z 0, 347, .inl (fun _ => 0))), (q17, .inl (Z 0, 347, .inl (fun _ => 0))), (q26, .inl (Z 0, 2082, .inl (fun _ => 0))), (q35, .inl (Z 0, 694, .inl (fun _ => 0))), (q42, .inl (Z 0, 2, .inl (fun _ => 0))), (q50, .inl (Z 0, 80, .inl (fun _ => 0)))]) := hD
  refine lv_aload_n hx hb dX8_init_55 rfl (lv_at hl 0 rfl) ?_
  refine va_get (D := G) (ci := 8) (v := .ref q8) (C := RX8) (T := TX8) (N := 14) hx hb hts iX8 hown hK hP 0 rfl rfl 0 (by decide) k_7 (fun _ h9 => h9) rfl dX8_init_56 ?_
  refine lv_iconst (v := 0) hx hb dX8_init_59 (by decide) ?_
  refine lv_bipush (v := 12) hx hb dX8_init_60 (by decide) ?_
  refine zIast (f := (fun _ => 0)) hx hb hK hP hD hS 1 0 rfl rfl 0 (by decide) (by decide) (by decide) dX8_init_62 (fun H locs hP hD hS => ?_)
  have hP : va_P G vwCl ([(h, .inr (8, [.ref q8, .ref q17, .ref q26, .int 0, .ref q35, .ref q42, .int o, .int c0, .ref q50, .int 0, .int 0, .int nu, .int dn, .int er])), (q8, .inl (Z 0, 347, .inl (upd (fun _ => 0) 0 12))), (q17, .inl (Z 0, 347, .inl (fun _ => 0))), (q26, .inl (Z 0, 2082, .inl (fun _ => 0))), (q35, .inl (Z 0, 694, .inl (fun _ => 0))), (q42, .inl (Z 0, 2, .inl (fun _ => 0))), (q50, .inl (Z 0, 80, .inl (fun _ => 0)))]) H := hP
  have hD : va_D A ([(h, .inr (8, [.ref q8, .ref q17, .ref q26, .int 0, .ref q35, .ref q42, .int o, .int c0, .ref q50, .int 0, .int 0, .int nu, .int dn, .int er])), (q8, .inl (Z 0, 347, .inl (upd (fun _ => 0) 0 12))), (q17, .inl (Z 0, 347, .inl (fun _ => 0))), (q26, .inl (Z 0, 2082, .inl (fun _ => 0))), (q35, .inl (Z 0, 694, .inl (fun _ => 0))), (q42, .inl (Z 0, 2, .inl (fun _ => 0))), (q50, .inl (Z 0, 80, .inl (fun _ => 0)))]) := hD
  refine lv_aload_n hx hb dX8_init_63 rfl (lv_at hl 0 rfl) ?_
  refine va_get (D := G) (ci := 8) (v := .ref q8) (C := RX8) (T := TX8) (N := 14) hx hb hts iX8 hown hK hP 0 rfl rfl 0 (by decide) k_7 (fun _ h9 => h9) rfl dX8_init_64 ?_
  refine lv_iconst (v := 1) hx hb dX8_init_67 (by decide) ?_
  refine lv_bipush (v := 15) hx hb dX8_init_68 (by decide) ?_
  refine zIast (f := (upd (fun _ => 0) 0 12)) hx hb hK hP hD hS 1 0 rfl rfl 1 (by decide) (by decide) (by decide) dX8_init_70 (fun H locs hP hD hS => ?_)
  have hP : va_P G vwCl ([(h, .inr (8, [.ref q8, .ref q17, .ref q26, .int 0, .ref q35, .ref q42, .int o, .int c0, .ref q50, .int 0, .int 0, .int nu, .int dn, .int er])), (q8, .inl (Z 0, 347, .inl (upd (upd (fun _ => 0) 0 12) 1 15))), (q17, .inl (Z 0, 347, .inl (fun _ => 0))), (q26, .inl (Z 0, 2082, .inl (fun _ => 0))), (q35, .inl (Z 0, 694, .inl (fun _ => 0))), (q42, .inl (Z 0, 2, .inl (fun _ => 0))), (q50, .inl (Z 0, 80, .inl (fun _ => 0)))]) H := hP
  have hD : va_D A ([(h, .inr (8, [.ref q8, .ref q17, .ref q26, .int 0, .ref q35, .ref q42, .int o, .int c0, .ref q50, .int 0, .int 0, .int nu, .int dn, .int er])), (q8, .inl (Z 0, 347, .inl (upd (upd (fun _ => 0) 0 12) 1 15))), (q17, .inl (Z 0, 347, .inl (fun _ => 0))), (q26, .inl (Z 0, 2082, .inl (fun _ => 0))), (q35, .inl (Z 0, 694, .inl (fun _ => 0))), (q42, .inl (Z 0, 2, .inl (fun _ => 0))), (q50, .inl (Z 0, 80, .inl (fun _ => 0)))]) := hD
  refine lv_aload_n hx hb dX8_init_71 rfl (lv_at hl 0 rfl) ?_
  refine va_get (D := G) (ci := 8) (v := .ref q8) (C := RX8) (T := TX8) (N := 14) hx hb hts iX8 hown hK hP 0 rfl rfl 0 (by decide) k_7 (fun _ h9 => h9) rfl dX8_init_72 ?_
  refine lv_iconst (v := 3) hx hb dX8_init_75 (by decide) ?_
  refine lv_sipush (v := 500) hx hb dX8_init_76 (by decide) ?_
  refine zIast (f := (upd (upd (fun _ => 0) 0 12) 1 15)) hx hb hK hP hD hS 1 0 rfl rfl 3 (by decide) (by decide) (by decide) dX8_init_79 (fun H locs hP hD hS => ?_)
  have hP : va_P G vwCl ([(h, .inr (8, [.ref q8, .ref q17, .ref q26, .int 0, .ref q35, .ref q42, .int o, .int c0, .ref q50, .int 0, .int 0, .int nu, .int dn, .int er])), (q8, .inl (Z 0, 347, .inl (upd (upd (upd (fun _ => 0) 0 12) 1 15) 3 500))), (q17, .inl (Z 0, 347, .inl (fun _ => 0))), (q26, .inl (Z 0, 2082, .inl (fun _ => 0))), (q35, .inl (Z 0, 694, .inl (fun _ => 0))), (q42, .inl (Z 0, 2, .inl (fun _ => 0))), (q50, .inl (Z 0, 80, .inl (fun _ => 0)))]) H := hP
  have hD : va_D A ([(h, .inr (8, [.ref q8, .ref q17, .ref q26, .int 0, .ref q35, .ref q42, .int o, .int c0, .ref q50, .int 0, .int 0, .int nu, .int dn, .int er])), (q8, .inl (Z 0, 347, .inl (upd (upd (upd (fun _ => 0) 0 12) 1 15) 3 500))), (q17, .inl (Z 0, 347, .inl (fun _ => 0))), (q26, .inl (Z 0, 2082, .inl (fun _ => 0))), (q35, .inl (Z 0, 694, .inl (fun _ => 0))), (q42, .inl (Z 0, 2, .inl (fun _ => 0))), (q50, .inl (Z 0, 80, .inl (fun _ => 0)))]) := hD
  refine W.widen (k := 6) (n := 3552) (by omega) (by omega) ?_
  exact W.vret hx hb hr (zEv ((fun k => match k with | 0 => h | 1 => q8 | 2 => q17 | 3 => q26 | 4 => q35 | 5 => q42 | _ => q50), (upd (upd (upd (fun _ => 0) 0 12) 1 15) 3 500)) (by
      refine ⟨rfl, ?_⟩
      funext k
      match k with
      | 0 => rfl
      | 1 => rfl
      | 2 => rfl
      | 3 => rfl
      | k + 4 => rfl) hP hD hS) hS.2.2 dX8_init_80

set_option maxHeartbeats 4000000 in
set_option maxRecDepth 100000 in
theorem m_X8_isHere (l : Launch) (G : va_G) (Z : Nat → ClassId) (sz : Nat) (b : Nat → Nat) (al : Nat → Int32) (ke : Nat → Int32) (hs : Nat → Int32) (hq : Nat) (sl : Nat → Int32) (sa : Nat → Int32) (off : Int32) (car : Int32) (pa : Nat → Int32) (pq : Nat) (sp : Nat) (nu : Int32) (dn : Int32) (er : Int32) (lo : Int32) (hh : Int32) (hsp : sp ≤ 80) (hpq : pq ≤ 80) (hlo : 0 < lo) : Met l yX8_isHere wsX8_isHere ({ frames := 1, cells := 0, slots := 0, locals := 25 }) (va_Pc [.ref (b 0), .int lo, .int hh] (zWP G Z sz (mk Z b (al, ke, hs, hq, sl, sa, off, car, pa, pq, sp, nu, dn, er)))) (va_Qi (fun (r : Int32) (u : Unit) => r = mRng (pSign pa pq sp) lo hh) (fun (u : Unit) t => zB G (va_A (mk Z b (al, ke, hs, hq, sl, sa, off, car, pa, pq, sp, nu, dn, er)) sz) (mk Z b (al, ke, hs, hq, sl, sa, off, car, pa, pq, sp, nu, dn, er)) t) (va_A (mk Z b (al, ke, hs, hq, sl, sa, off, car, pa, pq, sp, nu, dn, er)) sz)) 0 0 (va_A (mk Z b (al, ke, hs, hq, sl, sa, off, car, pa, pq, sp, nu, dn, er)) sz) := by
  refine Met.ofW (cc := cX8_isHere) (maxL := 3) (ret := (some .boolean)) (by decide) rfl ?_
  intro p e s m args below meth c s₁ B hml hv
  have hx := B.exec
  have hb := B.bytes
  have hr := B.returns
  have hts := atoms_spec (ws := wsX8_isHere) B.pre
  have hown : s.vm.findClass RX8 = some m.cls := findClass_of_methodNamed B.named
  have hlocks := B.notSynchronized
  obtain ⟨rfl, hsz, hP, hK, hD, hA, hS, hSW⟩ := zEnter hv
  subst hsz
  generalize va_A (mk Z b (al, ke, hs, hq, sl, sa, off, car, pa, pq, sp, nu, dn, er)) s.heap.size = A at hD hA hS hSW ⊢
  have k_160 := hts (.fieldLink RX8 160 "WarmRodsModel" "spot" "I") (List.mem_of_getElem? (i := 1) rfl)
  have iX8 : ∀ w ∈ u_ws RX8 TX8 14, w ∈ wsX8_isHere := fun _ h => List.mem_cons_of_mem _ (List.mem_append_right _ h)
  have k_125 := hts (.fieldLink RX8 125 "WarmRodsModel" "padLong" "I") (List.mem_of_getElem? (i := 2) rfl)
  have k_25 := hts (.fieldLink RX8 25 "WarmRodsModel" "pad" "[I") (List.mem_of_getElem? (i := 3) rfl)
  have hP : va_P G vwCl (mk Z b (al, ke, hs, hq, sl, sa, off, car, pa, pq, sp, nu, dn, er)) s.heap := hP
  have hl := lv_entry ([.ref (b 0), .int lo, .int hh]) (n := 3) (Nat.le_of_ble_eq_true rfl)
  rw [lg_entry_eq]
  generalize (lg_sl ([.ref (b 0), .int lo, .int hh]) ++ List.replicate (3 - (lg_sl ([.ref (b 0), .int lo, .int hh])).length) Slot.unset).toArray = ls at hl ⊢
  have hl : lv_has ls 3 [(0, .ref (b 0)), (1, .int lo), (2, .int hh)] := hl
  refine lv_aload_n hx hb dX8_isHere_0 rfl (lv_at hl 0 rfl) ?_
  refine va_get (D := G) (ci := 8) (v := .int (nI sp)) (C := RX8) (T := TX8) (N := 14) hx hb hts iX8 hown hK hP 0 rfl rfl 10 (by decide) k_160 (fun _ h9 => h9) rfl dX8_isHere_1 ?_
  refine lv_aload_n hx hb dX8_isHere_4 rfl (lv_at hl 0 rfl) ?_
  refine va_get (D := G) (ci := 8) (v := .int (nI pq)) (C := RX8) (T := TX8) (N := 14) hx hb hts iX8 hown hK hP 0 rfl rfl 9 (by decide) k_125 (fun _ h9 => h9) rfl dX8_isHere_5 ?_
  refine lv_icmp_ge (tgt := 35) hx hb dX8_isHere_8 (by decide) (fun c8 => ?_) (fun c8 => ?_)
  · refine lv_iconst (v := 0) hx hb dX8_isHere_35 (by decide) ?_
    exact W.zret hx hb hr (rfl) (zEi () (by
        have h0 : pSign pa pq sp = 0 := by rw [pSign, if_pos (zLe c8 (by omega) (by omega))]
        rw [h0, mRng, if_pos hlo]) hP hD hS) hS.2.2 dX8_isHere_36
  · refine lv_aload_n hx hb dX8_isHere_11 rfl (lv_at hl 0 rfl) ?_
    refine va_get (D := G) (ci := 8) (v := .ref (b 6)) (C := RX8) (T := TX8) (N := 14) hx hb hts iX8 hown hK hP 0 rfl rfl 8 (by decide) k_25 (fun _ h9 => h9) rfl dX8_isHere_12 ?_
    refine lv_aload_n hx hb dX8_isHere_15 rfl (lv_at hl 0 rfl) ?_
    refine va_get (D := G) (ci := 8) (v := .int (nI sp)) (C := RX8) (T := TX8) (N := 14) hx hb hts iX8 hown hK hP 0 rfl rfl 10 (by decide) k_160 (fun _ h9 => h9) rfl dX8_isHere_16 ?_
    refine zIald (f := pa) hx hb hK hP 6 0 rfl rfl sp (rfl) (by have := zNle c8 (by omega) (by omega); omega) (by decide) dX8_isHere_19 ?_
    refine lv_i2l (v := (pa sp).toInt64) hx hb dX8_isHere_20 rfl ?_
    refine lv_iload_n hx hb dX8_isHere_21 rfl (lv_at hl 1 rfl) ?_
    refine lv_i2l (v := lo.toInt64) hx hb dX8_isHere_22 rfl ?_
    refine lv_iload_n hx hb dX8_isHere_23 rfl (lv_at hl 2 rfl) ?_
    refine lv_i2l (v := hh.toInt64) hx hb dX8_isHere_24 rfl ?_
    refine zCi (S := Unit) (ws1 := fun u => mk Z b (al, ke, hs, hq, sl, sa, off, car, pa, pq, sp, nu, dn, er)) (wr := mk Z b (al, ke, hs, hq, sl, sa, off, car, pa, pq, sp, nu, dn, er)) (va_runS (As := [.long ((pa sp).toInt64), .long lo.toInt64, .long hh.toInt64]) (rest := []) ⟨hx, hb, hml, hown, hts⟩ (m_X8_in l G Z _ ((pa sp).toInt64) lo.toInt64 hh.toInt64) (va_cwS 3 hts gX8_isHere_X8_in rfl rfl rfl (by decide +kernel) ⟨Nat.le_of_ble_eq_true rfl, Nat.le_of_ble_eq_true rfl⟩) (zPreS hK hP hD hS hA hSW [] rfl (by decide)) rfl rfl hl.1 rfl (lv_room (Nat.le_of_ble_eq_true rfl)) dX8_isHere_25 ⟨Nat.le_of_ble_eq_true rfl, Nat.le_of_ble_eq_true rfl⟩) hP hD hS hA [] [0, 1, 2, 3, 4, 5, 6] [0, 1, 2, 3, 4, 5, 6] rfl rfl (by decide) (by decide) (by decide) (fun _ => rfl) (fun r25 u H locs hw25 hP hD hS => ?_)
    try dsimp only at hw25
    subst hw25
    have hP : va_P G vwCl (mk Z b (al, ke, hs, hq, sl, sa, off, car, pa, pq, sp, nu, dn, er)) H := hP
    have hD : va_D A (mk Z b (al, ke, hs, hq, sl, sa, off, car, pa, pq, sp, nu, dn, er)) := hD
    refine lv_if_eq (tgt := 35) hx hb dX8_isHere_28 (by decide) (fun c28 => ?_) (fun c28 => ?_)
    · refine lv_iconst (v := 0) hx hb dX8_isHere_35 (by decide) ?_
      exact W.zret hx hb hr (rfl) (zEi () (by
          have hlt := zNle c8 (by omega) (by omega)
          have h0 : pSign pa pq sp = pa sp := by rw [pSign, if_neg (by omega), if_neg (by omega)]
          rw [h0]
          rw [show mIn (pa sp).toInt64 lo.toInt64 hh.toInt64 = mRng (pa sp) lo hh from mIn_w _ _ _] at c28
          exact c28.symm) hP hD hS) hS.2.2 dX8_isHere_36
    · refine lv_iconst (v := 1) hx hb dX8_isHere_31 (by decide) ?_
      refine lv_goto (tgt := 36) hx hb dX8_isHere_32 (by decide) ?_
      exact W.zret hx hb hr (rfl) (zEi () (by
          have hlt := zNle c8 (by omega) (by omega)
          have h0 : pSign pa pq sp = pa sp := by rw [pSign, if_neg (by omega), if_neg (by omega)]
          rw [h0]
          rw [show mIn (pa sp).toInt64 lo.toInt64 hh.toInt64 = mRng (pa sp) lo hh from mIn_w _ _ _] at c28
          exact ((mRng_b _ _ _).resolve_left c28).symm) hP hD hS) hS.2.2 dX8_isHere_36

set_option maxHeartbeats 4000000 in
set_option maxRecDepth 100000 in
theorem m_X8_takes (l : Launch) (G : va_G) (Z : Nat → ClassId) (sz : Nat) (b : Nat → Nat) (al : Nat → Int32) (ke : Nat → Int32) (hs : Nat → Int32) (hq : Nat) (sl : Nat → Int32) (sa : Nat → Int32) (off : Int32) (car : Int32) (pa : Nat → Int32) (pq : Nat) (sp : Nat) (nu : Int32) (dn : Int32) (er : Int32) (ch : Int32) (hsp : sp ≤ 80) (hpq : pq ≤ 80) (hch : 0 < ch) : Met l yX8_takes wsX8_takes ({ frames := 2, cells := 0, slots := 0, locals := 47 }) (va_Pc [.ref (b 0), .int ch] (zWP G Z sz (mk Z b (al, ke, hs, hq, sl, sa, off, car, pa, pq, sp, nu, dn, er)))) (va_Qi (fun (r : Int32) (u : Nat) => r = rSgR pa pq sp ch ∧ u = rSgP pa pq sp ch) (fun (u : Nat) t => zB G (va_A (mk Z b (al, ke, hs, hq, sl, sa, off, car, pa, pq, sp, nu, dn, er)) sz) (mk Z b (al, ke, hs, hq, sl, sa, off, car, pa, pq, u, nu, dn, er)) t) (va_A (mk Z b (al, ke, hs, hq, sl, sa, off, car, pa, pq, sp, nu, dn, er)) sz)) 0 0 (va_A (mk Z b (al, ke, hs, hq, sl, sa, off, car, pa, pq, sp, nu, dn, er)) sz) := by
  refine Met.ofW (cc := cX8_takes) (maxL := 3) (ret := (some .boolean)) (by decide) rfl ?_
  intro p e s m args below meth c s₁ B hml hv
  have hx := B.exec
  have hb := B.bytes
  have hr := B.returns
  have hts := atoms_spec (ws := wsX8_takes) B.pre
  have hown : s.vm.findClass RX8 = some m.cls := findClass_of_methodNamed B.named
  have hlocks := B.notSynchronized
  obtain ⟨rfl, hsz, hP, hK, hD, hA, hS, hSW⟩ := zEnter hv
  subst hsz
  generalize va_A (mk Z b (al, ke, hs, hq, sl, sa, off, car, pa, pq, sp, nu, dn, er)) s.heap.size = A at hD hA hS hSW ⊢
  have k_160 := hts (.fieldLink RX8 160 "WarmRodsModel" "spot" "I") (List.mem_of_getElem? (i := 1) rfl)
  have iX8 : ∀ w ∈ u_ws RX8 TX8 14, w ∈ wsX8_takes := fun _ h => List.mem_cons_of_mem _ (List.mem_append_right _ h)
  have hP : va_P G vwCl (mk Z b (al, ke, hs, hq, sl, sa, off, car, pa, pq, sp, nu, dn, er)) s.heap := hP
  have hl := lv_entry ([.ref (b 0), .int ch]) (n := 3) (Nat.le_of_ble_eq_true rfl)
  rw [lg_entry_eq]
  generalize (lg_sl ([.ref (b 0), .int ch]) ++ List.replicate (3 - (lg_sl ([.ref (b 0), .int ch])).length) Slot.unset).toArray = ls at hl ⊢
  have hl : lv_has ls 3 [(0, .ref (b 0)), (1, .int ch)] := hl
  refine lv_aload_n hx hb dX8_takes_0 rfl (lv_at hl 0 rfl) ?_
  refine lv_iload_n hx hb dX8_takes_1 rfl (lv_at hl 1 rfl) ?_
  refine lv_iload_n hx hb dX8_takes_2 rfl (lv_at hl 1 rfl) ?_
  refine zCi (S := Unit) (ws1 := fun u => mk Z b (al, ke, hs, hq, sl, sa, off, car, pa, pq, sp, nu, dn, er)) (wr := []) (va_runV (As := [.int ch, .int ch]) (rest := []) ⟨hx, hb, hml, hown, hts⟩ (m_X8_isHere l G Z _ b al ke hs hq sl sa off car pa pq sp nu dn er ch ch (by
      exact hsp) (by
      exact hpq) (by
      exact hch)) (cwV 2 hts gX8_takes_X8_isHere rfl rfl rfl (by decide +kernel) ⟨Nat.le_of_ble_eq_true rfl, Nat.le_of_ble_eq_true rfl⟩) (zPreV hK hP hD hS hA hSW [0, 1, 2, 3, 4, 5, 6] rfl (by decide) 0 (ci := 8) rfl rfl rfl) rfl rfl hl.1 rfl (lv_room (Nat.le_of_ble_eq_true rfl)) dX8_takes_3 ⟨Nat.le_of_ble_eq_true rfl, Nat.le_of_ble_eq_true rfl⟩) hP hD hS hA [0, 1, 2, 3, 4, 5, 6] [] [0, 1, 2, 3, 4, 5, 6] rfl rfl (by decide) (by decide) (by decide) (fun _ => rfl) (fun r3 u H locs hw3 hP hD hS => ?_)
  try dsimp only at hw3
  subst hw3
  have hP : va_P G vwCl (mk Z b (al, ke, hs, hq, sl, sa, off, car, pa, pq, sp, nu, dn, er)) H := hP
  have hD : va_D A (mk Z b (al, ke, hs, hq, sl, sa, off, car, pa, pq, sp, nu, dn, er)) := hD
  refine lv_istore_n (lv' := [(2, .int (mRng (pSign pa pq sp) ch ch)), (0, .ref (b 0)), (1, .int ch)]) hx hb dX8_takes_6 rfl hl (by decide) rfl (fun ls hl => ?_)
  refine lv_aload_n hx hb dX8_takes_7 rfl (lv_at hl 1 rfl) ?_
  refine lv_dup hx hb dX8_takes_8 rfl ?_
  refine va_get (D := G) (ci := 8) (v := .int (nI sp)) (C := RX8) (T := TX8) (N := 14) hx hb hts iX8 hown hK hP 0 rfl rfl 10 (by decide) k_160 (fun _ h9 => h9) rfl dX8_takes_9 ?_
  refine lv_iload_n hx hb dX8_takes_12 rfl (lv_at hl 0 rfl) ?_
  refine lv_if_eq (tgt := 20) hx hb dX8_takes_13 (by decide) (fun c13 => ?_) (fun c13 => ?_)
  · refine lv_iconst (v := 0) hx hb dX8_takes_20 (by decide) ?_
    refine lv_iadd hx hb dX8_takes_21 ?_
    refine zTopI (y := nI sp) (Int32.add_zero _) ?_
    refine va_put (D := G) (ci := 8) (v := .int (nI sp)) (ty := .int) (C := RX8) (T := TX8) (N := 14) hx hb hts iX8 tyX8 tyX8_ok nmX8 hown hK hP hD hS 0 rfl rfl 10 (by decide) k_160 (fun _ h9 => h9) rfl (by decide +kernel) rfl rfl (Nat.le_of_ble_eq_true rfl) dX8_takes_22 (fun H locs hP hD hS => ?_)
    have hP : va_P G vwCl (mk Z b (al, ke, hs, hq, sl, sa, off, car, pa, pq, sp, nu, dn, er)) H := hP
    have hD : va_D A (mk Z b (al, ke, hs, hq, sl, sa, off, car, pa, pq, sp, nu, dn, er)) := hD
    refine lv_iload_n hx hb dX8_takes_25 rfl (lv_at hl 0 rfl) ?_
    exact W.zret hx hb hr (zNarB (mRng_b _ _ _)) (zEi sp (by
        rw [mRng_one] at c13
        rw [mRng_one]
        simp only [rSgR, rSgP]
        by_cases he : pSign pa pq sp = ch
        · rw [if_pos he] at c13; exact absurd c13 (by decide)
        · simp only [he, ↓reduceIte, and_self]) hP hD hS) hS.2.2 dX8_takes_26
  · refine lv_iconst (v := 1) hx hb dX8_takes_16 (by decide) ?_
    refine lv_goto (tgt := 21) hx hb dX8_takes_17 (by decide) ?_
    refine lv_iadd hx hb dX8_takes_21 ?_
    refine zTopI (y := (nI (sp + 1))) (nI_succ sp).symm ?_
    
    refine va_put (D := G) (ci := 8) (v := .int (nI (sp + 1))) (ty := .int) (C := RX8) (T := TX8) (N := 14) hx hb hts iX8 tyX8 tyX8_ok nmX8 hown hK hP hD hS 0 rfl rfl 10 (by decide) k_160 (fun _ h9 => h9) rfl (by decide +kernel) rfl rfl (Nat.le_of_ble_eq_true rfl) dX8_takes_22 (fun H locs hP hD hS => ?_)
    have hP : va_P G vwCl (mk Z b (al, ke, hs, hq, sl, sa, off, car, pa, pq, (sp + 1), nu, dn, er)) H := hP
    have hD : va_D A (mk Z b (al, ke, hs, hq, sl, sa, off, car, pa, pq, (sp + 1), nu, dn, er)) := hD
    refine lv_iload_n hx hb dX8_takes_25 rfl (lv_at hl 0 rfl) ?_
    exact W.zret hx hb hr (zNarB (mRng_b _ _ _)) (zEi (sp + 1) (by
        rw [mRng_one] at c13
        rw [mRng_one]
        simp only [rSgR, rSgP]
        by_cases he : pSign pa pq sp = ch
        · simp only [eq_true he, ↓reduceIte, and_self]
        · rw [if_neg he] at c13; exact absurd rfl c13) hP hD hS) hS.2.2 dX8_takes_26

set_option maxHeartbeats 4000000 in
set_option maxRecDepth 100000 in
theorem m_X8_readsNumber (l : Launch) (G : va_G) (Z : Nat → ClassId) (sz : Nat) (b : Nat → Nat) (al : Nat → Int32) (ke : Nat → Int32) (hs : Nat → Int32) (hq : Nat) (sl : Nat → Int32) (sa : Nat → Int32) (off : Int32) (car : Int32) (pa : Nat → Int32) (pq : Nat) (sp : Nat) (nu : Int32) (dn : Int32) (er : Int32) (hsp : sp ≤ 80) (hpq : pq ≤ 80) : Met l yX8_readsNumber wsX8_readsNumber ({ frames := 2, cells := 0, slots := 0, locals := 47 }) (va_Pc [.ref (b 0)] (zWP G Z sz (mk Z b (al, ke, hs, hq, sl, sa, off, car, pa, pq, sp, nu, dn, er)))) (va_Qi (fun (r : Int32) (u : Nat × Int32) => r = rNumR pa pq sp ∧ u.1 = rNumP pa pq sp ∧ u.2 = mNumN pa pq sp nu) (fun (u : Nat × Int32) t => zB G (va_A (mk Z b (al, ke, hs, hq, sl, sa, off, car, pa, pq, sp, nu, dn, er)) sz) (mk Z b (al, ke, hs, hq, sl, sa, off, car, pa, pq, u.1, u.2, dn, er)) t) (va_A (mk Z b (al, ke, hs, hq, sl, sa, off, car, pa, pq, sp, nu, dn, er)) sz)) 0 0 (va_A (mk Z b (al, ke, hs, hq, sl, sa, off, car, pa, pq, sp, nu, dn, er)) sz) := by
  refine Met.ofW (cc := cX8_readsNumber) (maxL := 1) (ret := (some .boolean)) (by decide) rfl ?_
  intro p e s m args below meth c s₁ B hml hv
  have hx := B.exec
  have hb := B.bytes
  have hr := B.returns
  have hts := atoms_spec (ws := wsX8_readsNumber) B.pre
  have hown : s.vm.findClass RX8 = some m.cls := findClass_of_methodNamed B.named
  have hlocks := B.notSynchronized
  obtain ⟨rfl, hsz, hP, hK, hD, hA, hS, hSW⟩ := zEnter hv
  subst hsz
  generalize va_A (mk Z b (al, ke, hs, hq, sl, sa, off, car, pa, pq, sp, nu, dn, er)) s.heap.size = A at hD hA hS hSW ⊢
  have k_25 := hts (.fieldLink RX8 25 "WarmRodsModel" "pad" "[I") (List.mem_of_getElem? (i := 1) rfl)
  have iX8 : ∀ w ∈ u_ws RX8 TX8 14, w ∈ wsX8_readsNumber := fun _ h => List.mem_cons_of_mem _ (List.mem_append_right _ h)
  have k_160 := hts (.fieldLink RX8 160 "WarmRodsModel" "spot" "I") (List.mem_of_getElem? (i := 2) rfl)
  have k_166 := hts (.fieldLink RX8 166 "WarmRodsModel" "number" "I") (List.mem_of_getElem? (i := 3) rfl)
  have hP : va_P G vwCl (mk Z b (al, ke, hs, hq, sl, sa, off, car, pa, pq, sp, nu, dn, er)) s.heap := hP
  have hl := lv_entry ([.ref (b 0)]) (n := 1) (Nat.le_of_ble_eq_true rfl)
  rw [lg_entry_eq]
  generalize (lg_sl ([.ref (b 0)]) ++ List.replicate (1 - (lg_sl ([.ref (b 0)])).length) Slot.unset).toArray = ls at hl ⊢
  have hl : lv_has ls 1 [(0, .ref (b 0))] := hl
  refine lv_aload_n hx hb dX8_readsNumber_0 rfl (lv_at hl 0 rfl) ?_
  refine lv_bipush (v := 48) hx hb dX8_readsNumber_1 (by decide) ?_
  refine lv_bipush (v := 57) hx hb dX8_readsNumber_3 (by decide) ?_
  refine zCi (S := Unit) (ws1 := fun u => mk Z b (al, ke, hs, hq, sl, sa, off, car, pa, pq, sp, nu, dn, er)) (wr := []) (va_runV (As := [.int 48, .int 57]) (rest := []) ⟨hx, hb, hml, hown, hts⟩ (m_X8_isHere l G Z _ b al ke hs hq sl sa off car pa pq sp nu dn er 48 57 (by
      exact hsp) (by
      exact hpq) (by
      decide)) (cwV 2 hts gX8_readsNumber_X8_isHere rfl rfl rfl (by decide +kernel) ⟨Nat.le_of_ble_eq_true rfl, Nat.le_of_ble_eq_true rfl⟩) (zPreV hK hP hD hS hA hSW [0, 1, 2, 3, 4, 5, 6] rfl (by decide) 0 (ci := 8) rfl rfl rfl) rfl rfl hl.1 rfl (lv_room (Nat.le_of_ble_eq_true rfl)) dX8_readsNumber_5 ⟨Nat.le_of_ble_eq_true rfl, Nat.le_of_ble_eq_true rfl⟩) hP hD hS hA [0, 1, 2, 3, 4, 5, 6] [] [0, 1, 2, 3, 4, 5, 6] rfl rfl (by decide) (by decide) (by decide) (fun _ => rfl) (fun r5 u H locs hw5 hP hD hS => ?_)
  try dsimp only at hw5
  subst hw5
  have hP : va_P G vwCl (mk Z b (al, ke, hs, hq, sl, sa, off, car, pa, pq, sp, nu, dn, er)) H := hP
  have hD : va_D A (mk Z b (al, ke, hs, hq, sl, sa, off, car, pa, pq, sp, nu, dn, er)) := hD
  refine lv_if_ne (tgt := 13) hx hb dX8_readsNumber_8 (by decide) (fun c8 => ?_) (fun c8 => ?_)
  · refine lv_aload_n hx hb dX8_readsNumber_13 rfl (lv_at hl 0 rfl) ?_
    refine lv_aload_n hx hb dX8_readsNumber_14 rfl (lv_at hl 0 rfl) ?_
    refine va_get (D := G) (ci := 8) (v := .ref (b 6)) (C := RX8) (T := TX8) (N := 14) hx hb hts iX8 hown hK hP 0 rfl rfl 8 (by decide) k_25 (fun _ h9 => h9) rfl dX8_readsNumber_15 ?_
    refine lv_aload_n hx hb dX8_readsNumber_18 rfl (lv_at hl 0 rfl) ?_
    refine va_get (D := G) (ci := 8) (v := .int (nI sp)) (C := RX8) (T := TX8) (N := 14) hx hb hts iX8 hown hK hP 0 rfl rfl 10 (by decide) k_160 (fun _ h9 => h9) rfl dX8_readsNumber_19 ?_
    refine zIald (f := pa) hx hb hK hP 6 0 rfl rfl sp (rfl) ((pSign_val c8).2.2) (by decide) dX8_readsNumber_22 ?_
    refine lv_bipush (v := 48) hx hb dX8_readsNumber_23 (by decide) ?_
    refine lv_isub hx hb dX8_readsNumber_25 ?_
    refine va_put (D := G) (ci := 8) (v := .int ((pa sp) - 48)) (ty := .int) (C := RX8) (T := TX8) (N := 14) hx hb hts iX8 tyX8 tyX8_ok nmX8 hown hK hP hD hS 0 rfl rfl 11 (by decide) k_166 (fun _ h9 => h9) rfl (by decide +kernel) rfl rfl (Nat.le_of_ble_eq_true rfl) dX8_readsNumber_26 (fun H locs hP hD hS => ?_)
    have hP : va_P G vwCl (mk Z b (al, ke, hs, hq, sl, sa, off, car, pa, pq, sp, ((pa sp) - 48), dn, er)) H := hP
    have hD : va_D A (mk Z b (al, ke, hs, hq, sl, sa, off, car, pa, pq, sp, ((pa sp) - 48), dn, er)) := hD
    refine lv_aload_n hx hb dX8_readsNumber_29 rfl (lv_at hl 0 rfl) ?_
    refine lv_dup hx hb dX8_readsNumber_30 rfl ?_
    refine va_get (D := G) (ci := 8) (v := .int (nI sp)) (C := RX8) (T := TX8) (N := 14) hx hb hts iX8 hown hK hP 0 rfl rfl 10 (by decide) k_160 (fun _ h9 => h9) rfl dX8_readsNumber_31 ?_
    refine lv_iconst (v := 1) hx hb dX8_readsNumber_34 (by decide) ?_
    refine lv_iadd hx hb dX8_readsNumber_35 ?_
    refine zTopI (y := (nI (sp + 1))) (nI_succ sp).symm ?_
    refine va_put (D := G) (ci := 8) (v := .int (nI (sp + 1))) (ty := .int) (C := RX8) (T := TX8) (N := 14) hx hb hts iX8 tyX8 tyX8_ok nmX8 hown hK hP hD hS 0 rfl rfl 10 (by decide) k_160 (fun _ h9 => h9) rfl (by decide +kernel) rfl rfl (Nat.le_of_ble_eq_true rfl) dX8_readsNumber_36 (fun H locs hP hD hS => ?_)
    have hP : va_P G vwCl (mk Z b (al, ke, hs, hq, sl, sa, off, car, pa, pq, (sp + 1), ((pa sp) - 48), dn, er)) H := hP
    have hD : va_D A (mk Z b (al, ke, hs, hq, sl, sa, off, car, pa, pq, (sp + 1), ((pa sp) - 48), dn, er)) := hD
    refine zLoop (σ := Nat × Int32 × Nat) (nL := 1) (fun zx => mk Z b (al, ke, hs, hq, sl, sa, off, car, pa, pq, zx.1, zx.2.1, dn, er)) (fun zx => [(0, .ref (b 0))]) (fun zx => ∃ N, mNI pa pq sp zx.1 zx.2.1 zx.2.2 N) (fun zx => 4 - zx.2.2) ?_ ((sp + 1), (pa sp - 48), 1) (by
        try dsimp only
        exact mNI_0 c8) hP hD hS (lv_sub hl [0] rfl)
    intro zx hinv39 ih39 H locs ls hP hD hS hl
    obtain ⟨q, n, dd⟩ := zx
    try dsimp only at hinv39 ih39
    have hP : va_P G vwCl (mk Z b (al, ke, hs, hq, sl, sa, off, car, pa, pq, q, n, dn, er)) H := hP
    have hD : va_D A (mk Z b (al, ke, hs, hq, sl, sa, off, car, pa, pq, q, n, dn, er)) := hD
    have hl : lv_has ls 1 [(0, .ref (b 0))] := hl
    refine lv_aload_n hx hb dX8_readsNumber_39 rfl (lv_at hl 0 rfl) ?_
    refine va_get (D := G) (ci := 8) (v := .int n) (C := RX8) (T := TX8) (N := 14) hx hb hts iX8 hown hK hP 0 rfl rfl 11 (by decide) k_166 (fun _ h9 => h9) rfl dX8_readsNumber_40 ?_
    refine lv_if_le (tgt := 120) hx hb dX8_readsNumber_43 (by decide) (fun c43 => ?_) (fun c43 => ?_)
    · refine lv_iconst (v := 1) hx hb dX8_readsNumber_120 (by decide) ?_
      exact W.zret hx hb hr (rfl) (zEi (q, n) (by
          obtain ⟨N, hN⟩ := hinv39
          obtain ⟨he, hd⟩ := mNI_e hN (Or.inl c43)
          have hr1 : rNumR pa pq sp = 1 := by rw [rNumR, he]; exact if_neg hd
          rw [mNumN, if_neg (by rw [hr1]; decide), hr1, rNumP, rNumN, he]
          exact ⟨rfl, rfl, rfl⟩) hP hD hS) hS.2.2 dX8_readsNumber_121
    · refine lv_aload_n hx hb dX8_readsNumber_46 rfl (lv_at hl 0 rfl) ?_
      refine lv_bipush (v := 48) hx hb dX8_readsNumber_47 (by decide) ?_
      refine lv_bipush (v := 57) hx hb dX8_readsNumber_49 (by decide) ?_
      refine zCi (S := Unit) (ws1 := fun u => mk Z b (al, ke, hs, hq, sl, sa, off, car, pa, pq, q, n, dn, er)) (wr := []) (va_runV (As := [.int 48, .int 57]) (rest := []) ⟨hx, hb, hml, hown, hts⟩ (m_X8_isHere l G Z _ b al ke hs hq sl sa off car pa pq q n dn er 48 57 (by
          obtain ⟨N, hN⟩ := hinv39
          exact hN.2.2.2.2.2.2) (by
          exact hpq) (by
          decide)) (cwV 2 hts gX8_readsNumber_X8_isHere rfl rfl rfl (by decide +kernel) ⟨Nat.le_of_ble_eq_true rfl, Nat.le_of_ble_eq_true rfl⟩) (zPreV hK hP hD hS hA hSW [0, 1, 2, 3, 4, 5, 6] rfl (by decide) 0 (ci := 8) rfl rfl rfl) rfl rfl hl.1 rfl (lv_room (Nat.le_of_ble_eq_true rfl)) dX8_readsNumber_51 ⟨Nat.le_of_ble_eq_true rfl, Nat.le_of_ble_eq_true rfl⟩) hP hD hS hA [0, 1, 2, 3, 4, 5, 6] [] [0, 1, 2, 3, 4, 5, 6] rfl rfl (by decide) (by decide) (by decide) (fun _ => rfl) (fun r51 u H locs hw51 hP hD hS => ?_)
      try dsimp only at hw51
      subst hw51
      have hP : va_P G vwCl (mk Z b (al, ke, hs, hq, sl, sa, off, car, pa, pq, q, n, dn, er)) H := hP
      have hD : va_D A (mk Z b (al, ke, hs, hq, sl, sa, off, car, pa, pq, q, n, dn, er)) := hD
      refine lv_if_eq (tgt := 120) hx hb dX8_readsNumber_54 (by decide) (fun c54 => ?_) (fun c54 => ?_)
      · refine lv_iconst (v := 1) hx hb dX8_readsNumber_120 (by decide) ?_
        exact W.zret hx hb hr (rfl) (zEi (q, n) (by
            obtain ⟨N, hN⟩ := hinv39
            obtain ⟨he, hd⟩ := mNI_e hN (Or.inr (Or.inl c54))
            have hr1 : rNumR pa pq sp = 1 := by rw [rNumR, he]; exact if_neg hd
            rw [mNumN, if_neg (by rw [hr1]; decide), hr1, rNumP, rNumN, he]
            exact ⟨rfl, rfl, rfl⟩) hP hD hS) hS.2.2 dX8_readsNumber_121
      · refine lv_bipush (v := 10) hx hb dX8_readsNumber_57 (by decide) ?_
        refine lv_aload_n hx hb dX8_readsNumber_59 rfl (lv_at hl 0 rfl) ?_
        refine va_get (D := G) (ci := 8) (v := .int n) (C := RX8) (T := TX8) (N := 14) hx hb hts iX8 hown hK hP 0 rfl rfl 11 (by decide) k_166 (fun _ h9 => h9) rfl dX8_readsNumber_60 ?_
        refine lv_imul hx hb dX8_readsNumber_63 ?_
        refine lv_aload_n hx hb dX8_readsNumber_64 rfl (lv_at hl 0 rfl) ?_
        refine va_get (D := G) (ci := 8) (v := .ref (b 6)) (C := RX8) (T := TX8) (N := 14) hx hb hts iX8 hown hK hP 0 rfl rfl 8 (by decide) k_25 (fun _ h9 => h9) rfl dX8_readsNumber_65 ?_
        refine lv_aload_n hx hb dX8_readsNumber_68 rfl (lv_at hl 0 rfl) ?_
        refine va_get (D := G) (ci := 8) (v := .int (nI q)) (C := RX8) (T := TX8) (N := 14) hx hb hts iX8 hown hK hP 0 rfl rfl 10 (by decide) k_160 (fun _ h9 => h9) rfl dX8_readsNumber_69 ?_
        refine zIald (f := pa) hx hb hK hP 6 0 rfl rfl q (rfl) ((pSign_val c54).2.2) (by decide) dX8_readsNumber_72 ?_
        refine lv_iadd hx hb dX8_readsNumber_73 ?_
        refine lv_bipush (v := 48) hx hb dX8_readsNumber_74 (by decide) ?_
        refine lv_isub hx hb dX8_readsNumber_76 ?_
        refine lv_sipush (v := 9999) hx hb dX8_readsNumber_77 (by decide) ?_
        refine lv_icmp_gt (tgt := 120) hx hb dX8_readsNumber_80 (by decide) (fun c80 => ?_) (fun c80 => ?_)
        · refine lv_iconst (v := 1) hx hb dX8_readsNumber_120 (by decide) ?_
          exact W.zret hx hb hr (rfl) (zEi (q, n) (by
              obtain ⟨N, hN⟩ := hinv39
              obtain ⟨he, hd⟩ := mNI_e hN (Or.inr (Or.inr ⟨c54, c80⟩))
              have hr1 : rNumR pa pq sp = 1 := by rw [rNumR, he]; exact if_neg hd
              rw [mNumN, if_neg (by rw [hr1]; decide), hr1, rNumP, rNumN, he]
              exact ⟨rfl, rfl, rfl⟩) hP hD hS) hS.2.2 dX8_readsNumber_121
        · refine lv_aload_n hx hb dX8_readsNumber_83 rfl (lv_at hl 0 rfl) ?_
          refine lv_bipush (v := 10) hx hb dX8_readsNumber_84 (by decide) ?_
          refine lv_aload_n hx hb dX8_readsNumber_86 rfl (lv_at hl 0 rfl) ?_
          refine va_get (D := G) (ci := 8) (v := .int n) (C := RX8) (T := TX8) (N := 14) hx hb hts iX8 hown hK hP 0 rfl rfl 11 (by decide) k_166 (fun _ h9 => h9) rfl dX8_readsNumber_87 ?_
          refine lv_imul hx hb dX8_readsNumber_90 ?_
          refine lv_aload_n hx hb dX8_readsNumber_91 rfl (lv_at hl 0 rfl) ?_
          refine va_get (D := G) (ci := 8) (v := .ref (b 6)) (C := RX8) (T := TX8) (N := 14) hx hb hts iX8 hown hK hP 0 rfl rfl 8 (by decide) k_25 (fun _ h9 => h9) rfl dX8_readsNumber_92 ?_
          refine lv_aload_n hx hb dX8_readsNumber_95 rfl (lv_at hl 0 rfl) ?_
          refine va_get (D := G) (ci := 8) (v := .int (nI q)) (C := RX8) (T := TX8) (N := 14) hx hb hts iX8 hown hK hP 0 rfl rfl 10 (by decide) k_160 (fun _ h9 => h9) rfl dX8_readsNumber_96 ?_
          refine zIald (f := pa) hx hb hK hP 6 0 rfl rfl q (rfl) ((pSign_val c54).2.2) (by decide) dX8_readsNumber_99 ?_
          refine lv_iadd hx hb dX8_readsNumber_100 ?_
          refine lv_bipush (v := 48) hx hb dX8_readsNumber_101 (by decide) ?_
          refine lv_isub hx hb dX8_readsNumber_103 ?_
          refine va_put (D := G) (ci := 8) (v := .int (((10 * n) + (pa q)) - 48)) (ty := .int) (C := RX8) (T := TX8) (N := 14) hx hb hts iX8 tyX8 tyX8_ok nmX8 hown hK hP hD hS 0 rfl rfl 11 (by decide) k_166 (fun _ h9 => h9) rfl (by decide +kernel) rfl rfl (Nat.le_of_ble_eq_true rfl) dX8_readsNumber_104 (fun H locs hP hD hS => ?_)
          have hP : va_P G vwCl (mk Z b (al, ke, hs, hq, sl, sa, off, car, pa, pq, q, (((10 * n) + (pa q)) - 48), dn, er)) H := hP
          have hD : va_D A (mk Z b (al, ke, hs, hq, sl, sa, off, car, pa, pq, q, (((10 * n) + (pa q)) - 48), dn, er)) := hD
          refine lv_aload_n hx hb dX8_readsNumber_107 rfl (lv_at hl 0 rfl) ?_
          refine lv_dup hx hb dX8_readsNumber_108 rfl ?_
          refine va_get (D := G) (ci := 8) (v := .int (nI q)) (C := RX8) (T := TX8) (N := 14) hx hb hts iX8 hown hK hP 0 rfl rfl 10 (by decide) k_160 (fun _ h9 => h9) rfl dX8_readsNumber_109 ?_
          refine lv_iconst (v := 1) hx hb dX8_readsNumber_112 (by decide) ?_
          refine lv_iadd hx hb dX8_readsNumber_113 ?_
          refine zTopI (y := (nI (q + 1))) (nI_succ q).symm ?_
          refine va_put (D := G) (ci := 8) (v := .int (nI (q + 1))) (ty := .int) (C := RX8) (T := TX8) (N := 14) hx hb hts iX8 tyX8 tyX8_ok nmX8 hown hK hP hD hS 0 rfl rfl 10 (by decide) k_160 (fun _ h9 => h9) rfl (by decide +kernel) rfl rfl (Nat.le_of_ble_eq_true rfl) dX8_readsNumber_114 (fun H locs hP hD hS => ?_)
          have hP : va_P G vwCl (mk Z b (al, ke, hs, hq, sl, sa, off, car, pa, pq, (q + 1), (((10 * n) + (pa q)) - 48), dn, er)) H := hP
          have hD : va_D A (mk Z b (al, ke, hs, hq, sl, sa, off, car, pa, pq, (q + 1), (((10 * n) + (pa q)) - 48), dn, er)) := hD
          refine lv_goto (tgt := 39) hx hb dX8_readsNumber_117 (by decide) ?_
          exact ih39 ((q + 1), (10 * n + pa q - 48), (dd + 1)) (by
              try dsimp only
              obtain ⟨N, hN⟩ := hinv39
              exact (mNI_s hN c43 c54 c80).2) (by
              try dsimp only
              obtain ⟨N, hN⟩ := hinv39
              have := (mNI_s hN c43 c54 c80).1
              omega) _ _ _ hP hD hS (lv_sub hl [0] rfl)
  · refine lv_iconst (v := 0) hx hb dX8_readsNumber_11 (by decide) ?_
    exact W.zret hx hb hr (rfl) (zEi (sp, nu) (by
        have he : rN pa pq 4 0 0 sp = (0, 0, sp) := rN_stop (Or.inr (Or.inl c8))
        have hr0 : rNumR pa pq sp = 0 := by rw [rNumR, he]; rfl
        rw [mNumN, if_pos hr0, hr0, rNumP, he]
        exact ⟨rfl, rfl, rfl⟩) hP hD hS) hS.2.2 dX8_readsNumber_12

set_option maxHeartbeats 4000000 in
set_option maxRecDepth 100000 in
theorem m_X8_readsValue (l : Launch) (G : va_G) (Z : Nat → ClassId) (sz : Nat) (b : Nat → Nat) (al : Nat → Int32) (ke : Nat → Int32) (hs : Nat → Int32) (hq : Nat) (sl : Nat → Int32) (sa : Nat → Int32) (off : Int32) (car : Int32) (pa : Nat → Int32) (pq : Nat) (sp : Nat) (nu : Int32) (dn : Int32) (er : Int32) (hsp : sp ≤ 80) (hpq : pq ≤ 80) : Met l yX8_readsValue wsX8_readsValue ({ frames := 3, cells := 0, slots := 0, locals := 69 }) (va_Pc [.ref (b 0)] (zWP G Z sz (mk Z b (al, ke, hs, hq, sl, sa, off, car, pa, pq, sp, nu, dn, er)))) (va_Qi (fun (r : Int32) (u : Nat × Int32) => r = rVaR pa pq sp ∧ u.1 = rVaP pa pq sp ∧ u.2 = mVaN pa pq sp nu) (fun (u : Nat × Int32) t => zB G (va_A (mk Z b (al, ke, hs, hq, sl, sa, off, car, pa, pq, sp, nu, dn, er)) sz) (mk Z b (al, ke, hs, hq, sl, sa, off, car, pa, pq, u.1, u.2, dn, er)) t) (va_A (mk Z b (al, ke, hs, hq, sl, sa, off, car, pa, pq, sp, nu, dn, er)) sz)) 0 0 (va_A (mk Z b (al, ke, hs, hq, sl, sa, off, car, pa, pq, sp, nu, dn, er)) sz) := by
  refine Met.ofW (cc := cX8_readsValue) (maxL := 3) (ret := (some .boolean)) (by decide) rfl ?_
  intro p e s m args below meth c s₁ B hml hv
  have hx := B.exec
  have hb := B.bytes
  have hr := B.returns
  have hts := atoms_spec (ws := wsX8_readsValue) B.pre
  have hown : s.vm.findClass RX8 = some m.cls := findClass_of_methodNamed B.named
  have hlocks := B.notSynchronized
  obtain ⟨rfl, hsz, hP, hK, hD, hA, hS, hSW⟩ := zEnter hv
  subst hsz
  generalize va_A (mk Z b (al, ke, hs, hq, sl, sa, off, car, pa, pq, sp, nu, dn, er)) s.heap.size = A at hD hA hS hSW ⊢
  have k_166 := hts (.fieldLink RX8 166 "WarmRodsModel" "number" "I") (List.mem_of_getElem? (i := 1) rfl)
  have iX8 : ∀ w ∈ u_ws RX8 TX8 14, w ∈ wsX8_readsValue := fun _ h => List.mem_cons_of_mem _ (List.mem_append_right _ h)
  have hP : va_P G vwCl (mk Z b (al, ke, hs, hq, sl, sa, off, car, pa, pq, sp, nu, dn, er)) s.heap := hP
  have hl := lv_entry ([.ref (b 0)]) (n := 3) (Nat.le_of_ble_eq_true rfl)
  rw [lg_entry_eq]
  generalize (lg_sl ([.ref (b 0)]) ++ List.replicate (3 - (lg_sl ([.ref (b 0)])).length) Slot.unset).toArray = ls at hl ⊢
  have hl : lv_has ls 3 [(0, .ref (b 0))] := hl
  refine lv_aload_n hx hb dX8_readsValue_0 rfl (lv_at hl 0 rfl) ?_
  refine lv_bipush (v := 45) hx hb dX8_readsValue_1 (by decide) ?_
  refine zCi (S := Nat) (ws1 := fun u => mk Z b (al, ke, hs, hq, sl, sa, off, car, pa, pq, u, nu, dn, er)) (wr := []) (va_runV (As := [.int 45]) (rest := []) ⟨hx, hb, hml, hown, hts⟩ (m_X8_takes l G Z _ b al ke hs hq sl sa off car pa pq sp nu dn er 45 (by
      exact hsp) (by
      exact hpq) (by
      decide)) (cwV 1 hts gX8_readsValue_X8_takes rfl rfl rfl (by decide +kernel) ⟨Nat.le_of_ble_eq_true rfl, Nat.le_of_ble_eq_true rfl⟩) (zPreV hK hP hD hS hA hSW [0, 1, 2, 3, 4, 5, 6] rfl (by decide) 0 (ci := 8) rfl rfl rfl) rfl rfl hl.1 rfl (lv_room (Nat.le_of_ble_eq_true rfl)) dX8_readsValue_3 ⟨Nat.le_of_ble_eq_true rfl, Nat.le_of_ble_eq_true rfl⟩) hP hD hS hA [0, 1, 2, 3, 4, 5, 6] [] [0, 1, 2, 3, 4, 5, 6] rfl rfl (by decide) (by decide) (by decide) (fun _ => rfl) (fun r3 u H locs hw3 hP hD hS => ?_)
  obtain ⟨sp1_3, rfl⟩ : ∃ z, z = u := ⟨_, rfl⟩
  try dsimp only at hw3
  obtain ⟨rfl, rfl⟩ := hw3
  have hP : va_P G vwCl (mk Z b (al, ke, hs, hq, sl, sa, off, car, pa, pq, (rSgP pa pq sp 45), nu, dn, er)) H := hP
  have hD : va_D A (mk Z b (al, ke, hs, hq, sl, sa, off, car, pa, pq, (rSgP pa pq sp 45), nu, dn, er)) := hD
  refine lv_istore_n (lv' := [(1, .int (rSgR pa pq sp 45)), (0, .ref (b 0))]) hx hb dX8_readsValue_6 rfl hl (by decide) rfl (fun ls hl => ?_)
  refine lv_aload_n hx hb dX8_readsValue_7 rfl (lv_at hl 1 rfl) ?_
  refine zCi (S := Nat × Int32) (ws1 := fun u => mk Z b (al, ke, hs, hq, sl, sa, off, car, pa, pq, u.1, u.2, dn, er)) (wr := []) (va_runV (As := []) (rest := []) ⟨hx, hb, hml, hown, hts⟩ (m_X8_readsNumber l G Z _ b al ke hs hq sl sa off car pa pq (rSgP pa pq sp 45) nu dn er (by
      exact rSgP_le (by decide) hsp) (by
      exact hpq)) (cwV 0 hts gX8_readsValue_X8_readsNumber rfl rfl rfl (by decide +kernel) ⟨Nat.le_of_ble_eq_true rfl, Nat.le_of_ble_eq_true rfl⟩) (zPreV hK hP hD hS hA hSW [0, 1, 2, 3, 4, 5, 6] rfl (by decide) 0 (ci := 8) rfl rfl rfl) rfl rfl hl.1 rfl (lv_room (Nat.le_of_ble_eq_true rfl)) dX8_readsValue_8 ⟨Nat.le_of_ble_eq_true rfl, Nat.le_of_ble_eq_true rfl⟩) hP hD hS hA [0, 1, 2, 3, 4, 5, 6] [] [0, 1, 2, 3, 4, 5, 6] rfl rfl (by decide) (by decide) (by decide) (fun _ => rfl) (fun r8 u H locs hw8 hP hD hS => ?_)
  obtain ⟨sp1_8, nu1_8⟩ := u
  try dsimp only at hw8
  obtain ⟨rfl, rfl, rfl⟩ := hw8
  have hP : va_P G vwCl (mk Z b (al, ke, hs, hq, sl, sa, off, car, pa, pq, (rNumP pa pq (rSgP pa pq sp 45)), (mNumN pa pq (rSgP pa pq sp 45) nu), dn, er)) H := hP
  have hD : va_D A (mk Z b (al, ke, hs, hq, sl, sa, off, car, pa, pq, (rNumP pa pq (rSgP pa pq sp 45)), (mNumN pa pq (rSgP pa pq sp 45) nu), dn, er)) := hD
  refine lv_istore_n (lv' := [(2, .int (rNumR pa pq (rSgP pa pq sp 45))), (1, .int (rSgR pa pq sp 45)), (0, .ref (b 0))]) hx hb dX8_readsValue_11 rfl hl (by decide) rfl (fun ls hl => ?_)
  refine lv_aload_n hx hb dX8_readsValue_12 rfl (lv_at hl 2 rfl) ?_
  refine lv_iload_n hx hb dX8_readsValue_13 rfl (lv_at hl 1 rfl) ?_
  refine lv_if_eq (tgt := 25) hx hb dX8_readsValue_14 (by decide) (fun c14 => ?_) (fun c14 => ?_)
  · refine lv_aload_n hx hb dX8_readsValue_25 rfl (lv_at hl 2 rfl) ?_
    refine va_get (D := G) (ci := 8) (v := .int (mNumN pa pq (rSgP pa pq sp 45) nu)) (C := RX8) (T := TX8) (N := 14) hx hb hts iX8 hown hK hP 0 rfl rfl 11 (by decide) k_166 (fun _ h9 => h9) rfl dX8_readsValue_26 ?_
    refine va_put (D := G) (ci := 8) (v := .int (mNumN pa pq (rSgP pa pq sp 45) nu)) (ty := .int) (C := RX8) (T := TX8) (N := 14) hx hb hts iX8 tyX8 tyX8_ok nmX8 hown hK hP hD hS 0 rfl rfl 11 (by decide) k_166 (fun _ h9 => h9) rfl (by decide +kernel) rfl rfl (Nat.le_of_ble_eq_true rfl) dX8_readsValue_29 (fun H locs hP hD hS => ?_)
    have hP : va_P G vwCl (mk Z b (al, ke, hs, hq, sl, sa, off, car, pa, pq, (rNumP pa pq (rSgP pa pq sp 45)), (mNumN pa pq (rSgP pa pq sp 45) nu), dn, er)) H := hP
    have hD : va_D A (mk Z b (al, ke, hs, hq, sl, sa, off, car, pa, pq, (rNumP pa pq (rSgP pa pq sp 45)), (mNumN pa pq (rSgP pa pq sp 45) nu), dn, er)) := hD
    refine lv_iload_n hx hb dX8_readsValue_32 rfl (lv_at hl 0 rfl) ?_
    exact W.zret hx hb hr (zNarB (rNumR_b _ _ _)) (zEi ((rNumP pa pq (rSgP pa pq sp 45)), (mNumN pa pq (rSgP pa pq sp 45) nu)) (by
        simp only [mVaN, eq_true c14, ↓reduceIte]
        exact ⟨rfl, rfl, True.intro⟩) hP hD hS) hS.2.2 dX8_readsValue_33
  · refine lv_aload_n hx hb dX8_readsValue_17 rfl (lv_at hl 2 rfl) ?_
    refine va_get (D := G) (ci := 8) (v := .int (mNumN pa pq (rSgP pa pq sp 45) nu)) (C := RX8) (T := TX8) (N := 14) hx hb hts iX8 hown hK hP 0 rfl rfl 11 (by decide) k_166 (fun _ h9 => h9) rfl dX8_readsValue_18 ?_
    refine lv_ineg hx hb dX8_readsValue_21 ?_
    refine lv_goto (tgt := 29) hx hb dX8_readsValue_22 (by decide) ?_
    refine va_put (D := G) (ci := 8) (v := .int (-(mNumN pa pq (rSgP pa pq sp 45) nu))) (ty := .int) (C := RX8) (T := TX8) (N := 14) hx hb hts iX8 tyX8 tyX8_ok nmX8 hown hK hP hD hS 0 rfl rfl 11 (by decide) k_166 (fun _ h9 => h9) rfl (by decide +kernel) rfl rfl (Nat.le_of_ble_eq_true rfl) dX8_readsValue_29 (fun H locs hP hD hS => ?_)
    have hP : va_P G vwCl (mk Z b (al, ke, hs, hq, sl, sa, off, car, pa, pq, (rNumP pa pq (rSgP pa pq sp 45)), (-(mNumN pa pq (rSgP pa pq sp 45) nu)), dn, er)) H := hP
    have hD : va_D A (mk Z b (al, ke, hs, hq, sl, sa, off, car, pa, pq, (rNumP pa pq (rSgP pa pq sp 45)), (-(mNumN pa pq (rSgP pa pq sp 45) nu)), dn, er)) := hD
    refine lv_iload_n hx hb dX8_readsValue_32 rfl (lv_at hl 0 rfl) ?_
    exact W.zret hx hb hr (zNarB (rNumR_b _ _ _)) (zEi ((rNumP pa pq (rSgP pa pq sp 45)), (-(mNumN pa pq (rSgP pa pq sp 45) nu))) (by
        simp only [mVaN, c14, ↓reduceIte]
        exact ⟨rfl, rfl, True.intro⟩) hP hD hS) hS.2.2 dX8_readsValue_33

set_option maxHeartbeats 4000000 in
set_option maxRecDepth 100000 in
theorem m_X8_does (l : Launch) (G : va_G) (Z : Nat → ClassId) (sz : Nat) (b : Nat → Nat) (al : Nat → Int32) (ke : Nat → Int32) (hs : Nat → Int32) (hq : Nat) (sl : Nat → Int32) (sa : Nat → Int32) (off : Int32) (car : Int32) (pa : Nat → Int32) (pq : Nat) (sp : Nat) (nu : Int32) (dn : Int32) (er : Int32) (x : Int32)  : Met l yX8_does wsX8_does ({ frames := 0, cells := 0, slots := 0, locals := 0 }) (va_Pc [.ref (b 0), .int x] (zWP G Z sz (mk Z b (al, ke, hs, hq, sl, sa, off, car, pa, pq, sp, nu, dn, er)))) (va_Qv (fun (u : Int32) => u = (if x < 0 then x else 0)) (fun (u : Int32) t => zB G (va_A (mk Z b (al, ke, hs, hq, sl, sa, off, car, pa, pq, sp, nu, dn, er)) sz) (mk Z b (al, ke, hs, hq, sl, sa, off, car, pa, pq, sp, nu, dn, u)) t) (va_A (mk Z b (al, ke, hs, hq, sl, sa, off, car, pa, pq, sp, nu, dn, er)) sz)) 0 0 (va_A (mk Z b (al, ke, hs, hq, sl, sa, off, car, pa, pq, sp, nu, dn, er)) sz) := by
  refine Met.ofW (cc := cX8_does) (maxL := 2) (ret := none) (by decide) rfl ?_
  intro p e s m args below meth c s₁ B hml hv
  have hx := B.exec
  have hb := B.bytes
  have hr := B.returns
  have hts := atoms_spec (ws := wsX8_does) B.pre
  have hown : s.vm.findClass RX8 = some m.cls := findClass_of_methodNamed B.named
  have hlocks := B.notSynchronized
  obtain ⟨rfl, hsz, hP, hK, hD, hA, hS, hSW⟩ := zEnter hv
  subst hsz
  generalize va_A (mk Z b (al, ke, hs, hq, sl, sa, off, car, pa, pq, sp, nu, dn, er)) s.heap.size = A at hD hA hS hSW ⊢
  have k_175 := hts (.fieldLink RX8 175 "WarmRodsModel" "error" "I") (List.mem_of_getElem? (i := 1) rfl)
  have iX8 : ∀ w ∈ u_ws RX8 TX8 14, w ∈ wsX8_does := fun _ h => List.mem_cons_of_mem _ (List.mem_append_right _ h)
  have hP : va_P G vwCl (mk Z b (al, ke, hs, hq, sl, sa, off, car, pa, pq, sp, nu, dn, er)) s.heap := hP
  have hl := lv_entry ([.ref (b 0), .int x]) (n := 2) (Nat.le_of_ble_eq_true rfl)
  rw [lg_entry_eq]
  generalize (lg_sl ([.ref (b 0), .int x]) ++ List.replicate (2 - (lg_sl ([.ref (b 0), .int x])).length) Slot.unset).toArray = ls at hl ⊢
  have hl : lv_has ls 2 [(0, .ref (b 0)), (1, .int x)] := hl
  refine lv_aload_n hx hb dX8_does_0 rfl (lv_at hl 0 rfl) ?_
  refine lv_iload_n hx hb dX8_does_1 rfl (lv_at hl 1 rfl) ?_
  refine lv_if_ge (tgt := 9) hx hb dX8_does_2 (by decide) (fun c2 => ?_) (fun c2 => ?_)
  · refine lv_iconst (v := 0) hx hb dX8_does_9 (by decide) ?_
    refine va_put (D := G) (ci := 8) (v := .int 0) (ty := .int) (C := RX8) (T := TX8) (N := 14) hx hb hts iX8 tyX8 tyX8_ok nmX8 hown hK hP hD hS 0 rfl rfl 13 (by decide) k_175 (fun _ h9 => h9) rfl (by decide +kernel) rfl rfl (Nat.le_of_ble_eq_true rfl) dX8_does_10 (fun H locs hP hD hS => ?_)
    have hP : va_P G vwCl (mk Z b (al, ke, hs, hq, sl, sa, off, car, pa, pq, sp, nu, dn, 0)) H := hP
    have hD : va_D A (mk Z b (al, ke, hs, hq, sl, sa, off, car, pa, pq, sp, nu, dn, 0)) := hD
    exact W.vret hx hb hr (zEv 0 (by
        simp only [c2, Int32.not_lt.mpr c2, ↓reduceIte]) hP hD hS) hS.2.2 dX8_does_13
  · refine lv_iload_n hx hb dX8_does_5 rfl (lv_at hl 1 rfl) ?_
    refine lv_goto (tgt := 10) hx hb dX8_does_6 (by decide) ?_
    refine va_put (D := G) (ci := 8) (v := .int x) (ty := .int) (C := RX8) (T := TX8) (N := 14) hx hb hts iX8 tyX8 tyX8_ok nmX8 hown hK hP hD hS 0 rfl rfl 13 (by decide) k_175 (fun _ h9 => h9) rfl (by decide +kernel) rfl rfl (Nat.le_of_ble_eq_true rfl) dX8_does_10 (fun H locs hP hD hS => ?_)
    have hP : va_P G vwCl (mk Z b (al, ke, hs, hq, sl, sa, off, car, pa, pq, sp, nu, dn, x)) H := hP
    have hD : va_D A (mk Z b (al, ke, hs, hq, sl, sa, off, car, pa, pq, sp, nu, dn, x)) := hD
    exact W.vret hx hb hr (zEv x (by
        simp only [c2, Int32.not_le.mp c2, ↓reduceIte]) hP hD hS) hS.2.2 dX8_does_13
