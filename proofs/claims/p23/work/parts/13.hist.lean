set_option maxHeartbeats 4000000 in
set_option maxRecDepth 100000 in
theorem m_X2_record (l : Launch) (G : va_G) (Z : Nat → ClassId) (sz : Nat) (cd : Nat → Nat) (kp : Nat) (Y : HV) (a : Nat → Nat) (v : CV) (hkp : kp ≤ 6) : Met l yX2_record wsX2_record ({ frames := 3, cells := 0, slots := 0, locals := 60 }) (va_Pc [.ref (cd 0), .ref (a 0)] (zWP G Z sz (hk Z cd (kp, Y) ++ ck Z a v))) (va_Qv (fun (u : Nat × HV) => u.1 = hKp kp ∧ u.2 = hRec Y v) (fun (u : Nat × HV) t => zB G (va_A (hk Z cd (kp, Y) ++ ck Z a v) sz) (hk Z cd (u.1, u.2) ++ ck Z a v) t) (va_A (hk Z cd (kp, Y) ++ ck Z a v) sz)) 0 0 (va_A (hk Z cd (kp, Y) ++ ck Z a v) sz) := by
  refine Met.ofW (cc := cX2_record) (maxL := 4) (ret := none) (by decide) rfl ?_
  intro p e s m args below meth c s₁ B hml hv
  have hx := B.exec
  have hb := B.bytes
  have hr := B.returns
  have hts := atoms_spec (ws := wsX2_record) B.pre
  have hown : s.vm.findClass RX2 = some m.cls := findClass_of_methodNamed B.named
  have hlocks := B.notSynchronized
  obtain ⟨rfl, hsz, hP, hK, hD, hA, hS, hSW⟩ := zEnter hv
  subst hsz
  generalize va_A (hk Z cd (kp, Y) ++ ck Z a v) s.heap.size = A at hD hA hS hSW ⊢
  have k_11 := hts (.fieldLink RX2 11 "WarmRods$History" "states" "[LWarmRods$Clock;") (List.mem_of_getElem? (i := 1) rfl)
  have iX2 : ∀ w ∈ u_ws RX2 TX2 2, w ∈ wsX2_record := fun _ h => List.mem_cons_of_mem _ (List.mem_append_left _ (List.mem_append_left _ (List.mem_append_left _ (List.mem_append_right _ h))))
  have k_22 := hts (.fieldLink RX2 22 "WarmRods$History" "kept" "I") (List.mem_of_getElem? (i := 2) rfl)
  have k_26 := hts (.methodLink RX2 26 Lib.Math.min.name) (List.mem_of_getElem? (i := 3) rfl)
  have kms_min := hts (.static Lib.Math.min.name) (List.mem_of_getElem? (i := 4) rfl)
  have kmi := hts (.initialized "java/lang/Math") (List.mem_of_getElem? (i := 5) rfl)
  have kmc_min := hts (.code Lib.Math.min.name Lib.Math.min.code 2 (some .int)) (List.mem_of_getElem? (i := 6) rfl)
  have hP : va_P G vwCl ([((cd 0), .inr (2, [.ref (cd 1), .int (nI kp)])), ((cd 1), .inl (Z 2, 6, .inr (.inr (.inr (.inr (zQ [some (((Y 0).1) 0), some (((Y 1).1) 0), some (((Y 2).1) 0), some (((Y 3).1) 0), some (((Y 4).1) 0), some (((Y 5).1) 0)]))))))] ++ (ck Z ((Y 0).1) ((Y 0).2) ++ (ck Z ((Y 1).1) ((Y 1).2) ++ (ck Z ((Y 2).1) ((Y 2).2) ++ (ck Z ((Y 3).1) ((Y 3).2) ++ (ck Z ((Y 4).1) ((Y 4).2) ++ (ck Z ((Y 5).1) ((Y 5).2) ++ ck Z a v))))))) s.heap := hP
  have hD : va_D A ([((cd 0), .inr (2, [.ref (cd 1), .int (nI kp)])), ((cd 1), .inl (Z 2, 6, .inr (.inr (.inr (.inr (zQ [some (((Y 0).1) 0), some (((Y 1).1) 0), some (((Y 2).1) 0), some (((Y 3).1) 0), some (((Y 4).1) 0), some (((Y 5).1) 0)]))))))] ++ (ck Z ((Y 0).1) ((Y 0).2) ++ (ck Z ((Y 1).1) ((Y 1).2) ++ (ck Z ((Y 2).1) ((Y 2).2) ++ (ck Z ((Y 3).1) ((Y 3).2) ++ (ck Z ((Y 4).1) ((Y 4).2) ++ (ck Z ((Y 5).1) ((Y 5).2) ++ ck Z a v))))))) := hD
  have hl := lv_entry ([.ref (cd 0), .ref (a 0)]) (n := 4) (Nat.le_of_ble_eq_true rfl)
  rw [lg_entry_eq]
  generalize (lg_sl ([.ref (cd 0), .ref (a 0)]) ++ List.replicate (4 - (lg_sl ([.ref (cd 0), .ref (a 0)])).length) Slot.unset).toArray = ls at hl ⊢
  have hl : lv_has ls 4 [(0, .ref (cd 0)), (1, .ref (a 0))] := hl
  refine lv_aload_n hx hb dX2_record_0 rfl (lv_at hl 0 rfl) ?_
  refine va_get (D := G) (ci := 2) (v := .ref (cd 1)) (C := RX2) (T := TX2) (N := 2) hx hb hts iX2 hown hK hP 0 rfl rfl 0 (by decide) k_11 (fun _ h9 => h9) rfl dX2_record_1 ?_
  refine lv_iconst (v := 5) hx hb dX2_record_4 (by decide) ?_
  refine zAald (q := (((Y 5).1) 0)) hx hb hK hP 1 2 rfl rfl 5 (by decide) rfl (by decide) (by decide) rfl dX2_record_5 ?_
  refine lv_astore_n (lv' := [(2, .ref (((Y 5).1) 0)), (0, .ref (cd 0)), (1, .ref (a 0))]) hx hb dX2_record_6 rfl hl (by decide) rfl (fun ls hl => ?_)
  refine lv_aload_n hx hb dX2_record_7 rfl (lv_at hl 1 rfl) ?_
  refine va_get (D := G) (ci := 2) (v := .ref (cd 1)) (C := RX2) (T := TX2) (N := 2) hx hb hts iX2 hown hK hP 0 rfl rfl 0 (by decide) k_11 (fun _ h9 => h9) rfl dX2_record_8 ?_
  refine va_alen (v := 6) hx hb hK hP 1 2 rfl rfl rfl dX2_record_11 ?_
  refine lv_iconst (v := 1) hx hb dX2_record_12 (by decide) ?_
  refine lv_isub hx hb dX2_record_13 ?_
  refine zTopI (y := 5) (by decide) ?_
  refine lv_istore_n (lv' := [(3, .int 5), (2, .ref (((Y 5).1) 0)), (0, .ref (cd 0)), (1, .ref (a 0))]) hx hb dX2_record_14 rfl hl (by decide) rfl (fun ls hl => ?_)
  refine lv_iload_n hx hb dX2_record_15 rfl (lv_at hl 0 rfl) ?_
  refine lv_if_le (tgt := 39) hx hb dX2_record_16 (by decide) (fun c16 => absurd c16 (by decide)) (fun _ => ?_)
  refine lv_aload_n hx hb dX2_record_19 rfl (lv_at hl 2 rfl) ?_
  refine va_get (D := G) (ci := 2) (v := .ref (cd 1)) (C := RX2) (T := TX2) (N := 2) hx hb hts iX2 hown hK hP 0 rfl rfl 0 (by decide) k_11 (fun _ h9 => h9) rfl dX2_record_20 ?_
  refine lv_iload_n hx hb dX2_record_23 rfl (lv_at hl 0 rfl) ?_
  refine lv_aload_n hx hb dX2_record_24 rfl (lv_at hl 2 rfl) ?_
  refine va_get (D := G) (ci := 2) (v := .ref (cd 1)) (C := RX2) (T := TX2) (N := 2) hx hb hts iX2 hown hK hP 0 rfl rfl 0 (by decide) k_11 (fun _ h9 => h9) rfl dX2_record_25 ?_
  refine lv_iload_n hx hb dX2_record_28 rfl (lv_at hl 0 rfl) ?_
  refine lv_iconst (v := 1) hx hb dX2_record_29 (by decide) ?_
  refine lv_isub hx hb dX2_record_30 ?_
  refine zTopI (y := 4) (by decide) ?_
  refine zAald (q := (((Y 4).1) 0)) hx hb hK hP 1 2 rfl rfl 4 (by decide) rfl (by decide) (by decide) rfl dX2_record_31 ?_
  refine zAast (ci := 0) hx hb hK hP hD hS 1 2 22 rfl rfl rfl rfl rfl 5 (by decide) ⟨Nat.le_of_ble_eq_true rfl, Nat.le_of_ble_eq_true rfl⟩ (by decide) dX2_record_32 (fun H locs hP hD hS => ?_)
  have hP : va_P G vwCl ([((cd 0), .inr (2, [.ref (cd 1), .int (nI kp)])), ((cd 1), .inl (Z 2, 6, .inr (.inr (.inr (.inr (zQ [some (((Y 0).1) 0), some (((Y 1).1) 0), some (((Y 2).1) 0), some (((Y 3).1) 0), some (((Y 4).1) 0), some (((Y 4).1) 0)]))))))] ++ (ck Z ((Y 0).1) ((Y 0).2) ++ (ck Z ((Y 1).1) ((Y 1).2) ++ (ck Z ((Y 2).1) ((Y 2).2) ++ (ck Z ((Y 3).1) ((Y 3).2) ++ (ck Z ((Y 4).1) ((Y 4).2) ++ (ck Z ((Y 5).1) ((Y 5).2) ++ ck Z a v))))))) H := hP
  have hD : va_D A ([((cd 0), .inr (2, [.ref (cd 1), .int (nI kp)])), ((cd 1), .inl (Z 2, 6, .inr (.inr (.inr (.inr (zQ [some (((Y 0).1) 0), some (((Y 1).1) 0), some (((Y 2).1) 0), some (((Y 3).1) 0), some (((Y 4).1) 0), some (((Y 4).1) 0)]))))))] ++ (ck Z ((Y 0).1) ((Y 0).2) ++ (ck Z ((Y 1).1) ((Y 1).2) ++ (ck Z ((Y 2).1) ((Y 2).2) ++ (ck Z ((Y 3).1) ((Y 3).2) ++ (ck Z ((Y 4).1) ((Y 4).2) ++ (ck Z ((Y 5).1) ((Y 5).2) ++ ck Z a v))))))) := hD
  refine lv_iinc (v := 4) (lv' := [(3, .int 4), (2, .ref (((Y 5).1) 0)), (0, .ref (cd 0)), (1, .ref (a 0))]) hx hb dX2_record_33 hl (k := 0) rfl (by decide) (by decide) rfl (fun ls hl => ?_)
  refine lv_goto (tgt := 15) hx hb dX2_record_36 (by decide) ?_
  refine lv_iload_n hx hb dX2_record_15 rfl (lv_at hl 0 rfl) ?_
  refine lv_if_le (tgt := 39) hx hb dX2_record_16 (by decide) (fun c16u1 => absurd c16u1 (by decide)) (fun _ => ?_)
  refine lv_aload_n hx hb dX2_record_19 rfl (lv_at hl 2 rfl) ?_
  refine va_get (D := G) (ci := 2) (v := .ref (cd 1)) (C := RX2) (T := TX2) (N := 2) hx hb hts iX2 hown hK hP 0 rfl rfl 0 (by decide) k_11 (fun _ h9 => h9) rfl dX2_record_20 ?_
  refine lv_iload_n hx hb dX2_record_23 rfl (lv_at hl 0 rfl) ?_
  refine lv_aload_n hx hb dX2_record_24 rfl (lv_at hl 2 rfl) ?_
  refine va_get (D := G) (ci := 2) (v := .ref (cd 1)) (C := RX2) (T := TX2) (N := 2) hx hb hts iX2 hown hK hP 0 rfl rfl 0 (by decide) k_11 (fun _ h9 => h9) rfl dX2_record_25 ?_
  refine lv_iload_n hx hb dX2_record_28 rfl (lv_at hl 0 rfl) ?_
  refine lv_iconst (v := 1) hx hb dX2_record_29 (by decide) ?_
  refine lv_isub hx hb dX2_record_30 ?_
  refine zTopI (y := 3) (by decide) ?_
  refine zAald (q := (((Y 3).1) 0)) hx hb hK hP 1 2 rfl rfl 3 (by decide) rfl (by decide) (by decide) rfl dX2_record_31 ?_
  refine zAast (ci := 0) hx hb hK hP hD hS 1 2 17 rfl rfl rfl rfl rfl 4 (by decide) ⟨Nat.le_of_ble_eq_true rfl, Nat.le_of_ble_eq_true rfl⟩ (by decide) dX2_record_32 (fun H locs hP hD hS => ?_)
  have hP : va_P G vwCl ([((cd 0), .inr (2, [.ref (cd 1), .int (nI kp)])), ((cd 1), .inl (Z 2, 6, .inr (.inr (.inr (.inr (zQ [some (((Y 0).1) 0), some (((Y 1).1) 0), some (((Y 2).1) 0), some (((Y 3).1) 0), some (((Y 3).1) 0), some (((Y 4).1) 0)]))))))] ++ (ck Z ((Y 0).1) ((Y 0).2) ++ (ck Z ((Y 1).1) ((Y 1).2) ++ (ck Z ((Y 2).1) ((Y 2).2) ++ (ck Z ((Y 3).1) ((Y 3).2) ++ (ck Z ((Y 4).1) ((Y 4).2) ++ (ck Z ((Y 5).1) ((Y 5).2) ++ ck Z a v))))))) H := hP
  have hD : va_D A ([((cd 0), .inr (2, [.ref (cd 1), .int (nI kp)])), ((cd 1), .inl (Z 2, 6, .inr (.inr (.inr (.inr (zQ [some (((Y 0).1) 0), some (((Y 1).1) 0), some (((Y 2).1) 0), some (((Y 3).1) 0), some (((Y 3).1) 0), some (((Y 4).1) 0)]))))))] ++ (ck Z ((Y 0).1) ((Y 0).2) ++ (ck Z ((Y 1).1) ((Y 1).2) ++ (ck Z ((Y 2).1) ((Y 2).2) ++ (ck Z ((Y 3).1) ((Y 3).2) ++ (ck Z ((Y 4).1) ((Y 4).2) ++ (ck Z ((Y 5).1) ((Y 5).2) ++ ck Z a v))))))) := hD
  refine lv_iinc (v := 3) (lv' := [(3, .int 3), (2, .ref (((Y 5).1) 0)), (0, .ref (cd 0)), (1, .ref (a 0))]) hx hb dX2_record_33 hl (k := 0) rfl (by decide) (by decide) rfl (fun ls hl => ?_)
  refine lv_goto (tgt := 15) hx hb dX2_record_36 (by decide) ?_
  refine lv_iload_n hx hb dX2_record_15 rfl (lv_at hl 0 rfl) ?_
  refine lv_if_le (tgt := 39) hx hb dX2_record_16 (by decide) (fun c16u2 => absurd c16u2 (by decide)) (fun _ => ?_)
  refine lv_aload_n hx hb dX2_record_19 rfl (lv_at hl 2 rfl) ?_
  refine va_get (D := G) (ci := 2) (v := .ref (cd 1)) (C := RX2) (T := TX2) (N := 2) hx hb hts iX2 hown hK hP 0 rfl rfl 0 (by decide) k_11 (fun _ h9 => h9) rfl dX2_record_20 ?_
  refine lv_iload_n hx hb dX2_record_23 rfl (lv_at hl 0 rfl) ?_
  refine lv_aload_n hx hb dX2_record_24 rfl (lv_at hl 2 rfl) ?_
  refine va_get (D := G) (ci := 2) (v := .ref (cd 1)) (C := RX2) (T := TX2) (N := 2) hx hb hts iX2 hown hK hP 0 rfl rfl 0 (by decide) k_11 (fun _ h9 => h9) rfl dX2_record_25 ?_
  refine lv_iload_n hx hb dX2_record_28 rfl (lv_at hl 0 rfl) ?_
  refine lv_iconst (v := 1) hx hb dX2_record_29 (by decide) ?_
  refine lv_isub hx hb dX2_record_30 ?_
  refine zTopI (y := 2) (by decide) ?_
  refine zAald (q := (((Y 2).1) 0)) hx hb hK hP 1 2 rfl rfl 2 (by decide) rfl (by decide) (by decide) rfl dX2_record_31 ?_
  refine zAast (ci := 0) hx hb hK hP hD hS 1 2 12 rfl rfl rfl rfl rfl 3 (by decide) ⟨Nat.le_of_ble_eq_true rfl, Nat.le_of_ble_eq_true rfl⟩ (by decide) dX2_record_32 (fun H locs hP hD hS => ?_)
  have hP : va_P G vwCl ([((cd 0), .inr (2, [.ref (cd 1), .int (nI kp)])), ((cd 1), .inl (Z 2, 6, .inr (.inr (.inr (.inr (zQ [some (((Y 0).1) 0), some (((Y 1).1) 0), some (((Y 2).1) 0), some (((Y 2).1) 0), some (((Y 3).1) 0), some (((Y 4).1) 0)]))))))] ++ (ck Z ((Y 0).1) ((Y 0).2) ++ (ck Z ((Y 1).1) ((Y 1).2) ++ (ck Z ((Y 2).1) ((Y 2).2) ++ (ck Z ((Y 3).1) ((Y 3).2) ++ (ck Z ((Y 4).1) ((Y 4).2) ++ (ck Z ((Y 5).1) ((Y 5).2) ++ ck Z a v))))))) H := hP
  have hD : va_D A ([((cd 0), .inr (2, [.ref (cd 1), .int (nI kp)])), ((cd 1), .inl (Z 2, 6, .inr (.inr (.inr (.inr (zQ [some (((Y 0).1) 0), some (((Y 1).1) 0), some (((Y 2).1) 0), some (((Y 2).1) 0), some (((Y 3).1) 0), some (((Y 4).1) 0)]))))))] ++ (ck Z ((Y 0).1) ((Y 0).2) ++ (ck Z ((Y 1).1) ((Y 1).2) ++ (ck Z ((Y 2).1) ((Y 2).2) ++ (ck Z ((Y 3).1) ((Y 3).2) ++ (ck Z ((Y 4).1) ((Y 4).2) ++ (ck Z ((Y 5).1) ((Y 5).2) ++ ck Z a v))))))) := hD
  refine lv_iinc (v := 2) (lv' := [(3, .int 2), (2, .ref (((Y 5).1) 0)), (0, .ref (cd 0)), (1, .ref (a 0))]) hx hb dX2_record_33 hl (k := 0) rfl (by decide) (by decide) rfl (fun ls hl => ?_)
  refine lv_goto (tgt := 15) hx hb dX2_record_36 (by decide) ?_
  refine lv_iload_n hx hb dX2_record_15 rfl (lv_at hl 0 rfl) ?_
  refine lv_if_le (tgt := 39) hx hb dX2_record_16 (by decide) (fun c16u3 => absurd c16u3 (by decide)) (fun _ => ?_)
  refine lv_aload_n hx hb dX2_record_19 rfl (lv_at hl 2 rfl) ?_
  refine va_get (D := G) (ci := 2) (v := .ref (cd 1)) (C := RX2) (T := TX2) (N := 2) hx hb hts iX2 hown hK hP 0 rfl rfl 0 (by decide) k_11 (fun _ h9 => h9) rfl dX2_record_20 ?_
  refine lv_iload_n hx hb dX2_record_23 rfl (lv_at hl 0 rfl) ?_
  refine lv_aload_n hx hb dX2_record_24 rfl (lv_at hl 2 rfl) ?_
  refine va_get (D := G) (ci := 2) (v := .ref (cd 1)) (C := RX2) (T := TX2) (N := 2) hx hb hts iX2 hown hK hP 0 rfl rfl 0 (by decide) k_11 (fun _ h9 => h9) rfl dX2_record_25 ?_
  refine lv_iload_n hx hb dX2_record_28 rfl (lv_at hl 0 rfl) ?_
  refine lv_iconst (v := 1) hx hb dX2_record_29 (by decide) ?_
  refine lv_isub hx hb dX2_record_30 ?_
  refine zTopI (y := 1) (by decide) ?_
  refine zAald (q := (((Y 1).1) 0)) hx hb hK hP 1 2 rfl rfl 1 (by decide) rfl (by decide) (by decide) rfl dX2_record_31 ?_
  refine zAast (ci := 0) hx hb hK hP hD hS 1 2 7 rfl rfl rfl rfl rfl 2 (by decide) ⟨Nat.le_of_ble_eq_true rfl, Nat.le_of_ble_eq_true rfl⟩ (by decide) dX2_record_32 (fun H locs hP hD hS => ?_)
  have hP : va_P G vwCl ([((cd 0), .inr (2, [.ref (cd 1), .int (nI kp)])), ((cd 1), .inl (Z 2, 6, .inr (.inr (.inr (.inr (zQ [some (((Y 0).1) 0), some (((Y 1).1) 0), some (((Y 1).1) 0), some (((Y 2).1) 0), some (((Y 3).1) 0), some (((Y 4).1) 0)]))))))] ++ (ck Z ((Y 0).1) ((Y 0).2) ++ (ck Z ((Y 1).1) ((Y 1).2) ++ (ck Z ((Y 2).1) ((Y 2).2) ++ (ck Z ((Y 3).1) ((Y 3).2) ++ (ck Z ((Y 4).1) ((Y 4).2) ++ (ck Z ((Y 5).1) ((Y 5).2) ++ ck Z a v))))))) H := hP
  have hD : va_D A ([((cd 0), .inr (2, [.ref (cd 1), .int (nI kp)])), ((cd 1), .inl (Z 2, 6, .inr (.inr (.inr (.inr (zQ [some (((Y 0).1) 0), some (((Y 1).1) 0), some (((Y 1).1) 0), some (((Y 2).1) 0), some (((Y 3).1) 0), some (((Y 4).1) 0)]))))))] ++ (ck Z ((Y 0).1) ((Y 0).2) ++ (ck Z ((Y 1).1) ((Y 1).2) ++ (ck Z ((Y 2).1) ((Y 2).2) ++ (ck Z ((Y 3).1) ((Y 3).2) ++ (ck Z ((Y 4).1) ((Y 4).2) ++ (ck Z ((Y 5).1) ((Y 5).2) ++ ck Z a v))))))) := hD
  refine lv_iinc (v := 1) (lv' := [(3, .int 1), (2, .ref (((Y 5).1) 0)), (0, .ref (cd 0)), (1, .ref (a 0))]) hx hb dX2_record_33 hl (k := 0) rfl (by decide) (by decide) rfl (fun ls hl => ?_)
  refine lv_goto (tgt := 15) hx hb dX2_record_36 (by decide) ?_
  refine lv_iload_n hx hb dX2_record_15 rfl (lv_at hl 0 rfl) ?_
  refine lv_if_le (tgt := 39) hx hb dX2_record_16 (by decide) (fun c16u4 => absurd c16u4 (by decide)) (fun _ => ?_)
  refine lv_aload_n hx hb dX2_record_19 rfl (lv_at hl 2 rfl) ?_
  refine va_get (D := G) (ci := 2) (v := .ref (cd 1)) (C := RX2) (T := TX2) (N := 2) hx hb hts iX2 hown hK hP 0 rfl rfl 0 (by decide) k_11 (fun _ h9 => h9) rfl dX2_record_20 ?_
  refine lv_iload_n hx hb dX2_record_23 rfl (lv_at hl 0 rfl) ?_
  refine lv_aload_n hx hb dX2_record_24 rfl (lv_at hl 2 rfl) ?_
  refine va_get (D := G) (ci := 2) (v := .ref (cd 1)) (C := RX2) (T := TX2) (N := 2) hx hb hts iX2 hown hK hP 0 rfl rfl 0 (by decide) k_11 (fun _ h9 => h9) rfl dX2_record_25 ?_
  refine lv_iload_n hx hb dX2_record_28 rfl (lv_at hl 0 rfl) ?_
  refine lv_iconst (v := 1) hx hb dX2_record_29 (by decide) ?_
  refine lv_isub hx hb dX2_record_30 ?_
  refine zTopI (y := 0) (by decide) ?_
  refine zAald (q := (((Y 0).1) 0)) hx hb hK hP 1 2 rfl rfl 0 (by decide) rfl (by decide) (by decide) rfl dX2_record_31 ?_
  refine zAast (ci := 0) hx hb hK hP hD hS 1 2 2 rfl rfl rfl rfl rfl 1 (by decide) ⟨Nat.le_of_ble_eq_true rfl, Nat.le_of_ble_eq_true rfl⟩ (by decide) dX2_record_32 (fun H locs hP hD hS => ?_)
  have hP : va_P G vwCl ([((cd 0), .inr (2, [.ref (cd 1), .int (nI kp)])), ((cd 1), .inl (Z 2, 6, .inr (.inr (.inr (.inr (zQ [some (((Y 0).1) 0), some (((Y 0).1) 0), some (((Y 1).1) 0), some (((Y 2).1) 0), some (((Y 3).1) 0), some (((Y 4).1) 0)]))))))] ++ (ck Z ((Y 0).1) ((Y 0).2) ++ (ck Z ((Y 1).1) ((Y 1).2) ++ (ck Z ((Y 2).1) ((Y 2).2) ++ (ck Z ((Y 3).1) ((Y 3).2) ++ (ck Z ((Y 4).1) ((Y 4).2) ++ (ck Z ((Y 5).1) ((Y 5).2) ++ ck Z a v))))))) H := hP
  have hD : va_D A ([((cd 0), .inr (2, [.ref (cd 1), .int (nI kp)])), ((cd 1), .inl (Z 2, 6, .inr (.inr (.inr (.inr (zQ [some (((Y 0).1) 0), some (((Y 0).1) 0), some (((Y 1).1) 0), some (((Y 2).1) 0), some (((Y 3).1) 0), some (((Y 4).1) 0)]))))))] ++ (ck Z ((Y 0).1) ((Y 0).2) ++ (ck Z ((Y 1).1) ((Y 1).2) ++ (ck Z ((Y 2).1) ((Y 2).2) ++ (ck Z ((Y 3).1) ((Y 3).2) ++ (ck Z ((Y 4).1) ((Y 4).2) ++ (ck Z ((Y 5).1) ((Y 5).2) ++ ck Z a v))))))) := hD
  refine lv_iinc (v := 0) (lv' := [(3, .int 0), (2, .ref (((Y 5).1) 0)), (0, .ref (cd 0)), (1, .ref (a 0))]) hx hb dX2_record_33 hl (k := 0) rfl (by decide) (by decide) rfl (fun ls hl => ?_)
  refine lv_goto (tgt := 15) hx hb dX2_record_36 (by decide) ?_
  refine lv_iload_n hx hb dX2_record_15 rfl (lv_at hl 0 rfl) ?_
  refine lv_if_le (tgt := 39) hx hb dX2_record_16 (by decide) (fun _ => ?_) (fun c16u5 => absurd (by decide) c16u5)
  refine lv_aload_n hx hb dX2_record_39 rfl (lv_at hl 2 rfl) ?_
  refine va_get (D := G) (ci := 2) (v := .ref (cd 1)) (C := RX2) (T := TX2) (N := 2) hx hb hts iX2 hown hK hP 0 rfl rfl 0 (by decide) k_11 (fun _ h9 => h9) rfl dX2_record_40 ?_
  refine lv_iconst (v := 0) hx hb dX2_record_43 (by decide) ?_
  refine lv_aload_n hx hb dX2_record_44 rfl (lv_at hl 1 rfl) ?_
  refine zAast (ci := 0) hx hb hK hP hD hS 1 2 27 rfl rfl rfl rfl rfl 0 (by decide) ⟨Nat.le_of_ble_eq_true rfl, Nat.le_of_ble_eq_true rfl⟩ (by decide) dX2_record_45 (fun H locs hP hD hS => ?_)
  have hP : va_P G vwCl ([((cd 0), .inr (2, [.ref (cd 1), .int (nI kp)])), ((cd 1), .inl (Z 2, 6, .inr (.inr (.inr (.inr (zQ [some (((Y 5).1) 0), some (((Y 0).1) 0), some (((Y 1).1) 0), some (((Y 2).1) 0), some (((Y 3).1) 0), some (((Y 4).1) 0)]))))))] ++ (ck Z ((Y 0).1) ((Y 0).2) ++ (ck Z ((Y 1).1) ((Y 1).2) ++ (ck Z ((Y 2).1) ((Y 2).2) ++ (ck Z ((Y 3).1) ((Y 3).2) ++ (ck Z ((Y 4).1) ((Y 4).2) ++ (ck Z ((Y 5).1) ((Y 5).2) ++ ck Z a v))))))) H := hP
  have hD : va_D A ([((cd 0), .inr (2, [.ref (cd 1), .int (nI kp)])), ((cd 1), .inl (Z 2, 6, .inr (.inr (.inr (.inr (zQ [some (((Y 5).1) 0), some (((Y 0).1) 0), some (((Y 1).1) 0), some (((Y 2).1) 0), some (((Y 3).1) 0), some (((Y 4).1) 0)]))))))] ++ (ck Z ((Y 0).1) ((Y 0).2) ++ (ck Z ((Y 1).1) ((Y 1).2) ++ (ck Z ((Y 2).1) ((Y 2).2) ++ (ck Z ((Y 3).1) ((Y 3).2) ++ (ck Z ((Y 4).1) ((Y 4).2) ++ (ck Z ((Y 5).1) ((Y 5).2) ++ ck Z a v))))))) := hD
  refine lv_aload_n hx hb dX2_record_46 rfl (lv_at hl 1 rfl) ?_
  refine lv_aload_n hx hb dX2_record_47 rfl (lv_at hl 3 rfl) ?_
  refine zCv (S := Unit) (ws1 := fun u => [((cd 0), .inr (2, [.ref (cd 1), .int (nI kp)])), ((cd 1), .inl (Z 2, 6, .inr (.inr (.inr (.inr (zQ [some (((Y 5).1) 0), some (((Y 0).1) 0), some (((Y 1).1) 0), some (((Y 2).1) 0), some (((Y 3).1) 0), some (((Y 4).1) 0)]))))))] ++ (ck Z ((Y 0).1) ((Y 0).2) ++ (ck Z ((Y 1).1) ((Y 1).2) ++ (ck Z ((Y 2).1) ((Y 2).2) ++ (ck Z ((Y 3).1) ((Y 3).2) ++ (ck Z ((Y 4).1) ((Y 4).2) ++ (ck Z ((Y 5).1) ((va_cpy v.1 (((Y 5).2).1) 0 0 4), v.2.1, v.2.2.1, (va_cpy v.2.2.2.1 (((Y 5).2).2.2.2.1) 0 0 336), v.2.2.2.2.1, v.2.2.2.2.2.1, v.2.2.2.2.2.2.1, v.2.2.2.2.2.2.2.1, v.2.2.2.2.2.2.2.2) ++ ck Z a (v.1, v.2.1, v.2.2.1, v.2.2.2.1, v.2.2.2.2.1, v.2.2.2.2.2.1, v.2.2.2.2.2.2.1, v.2.2.2.2.2.2.2.1, v.2.2.2.2.2.2.2.2)))))))) (wr := [((cd 0), .inr (2, [.ref (cd 1), .int (nI kp)])), ((cd 1), .inl (Z 2, 6, .inr (.inr (.inr (.inr (zQ [some (((Y 5).1) 0), some (((Y 0).1) 0), some (((Y 1).1) 0), some (((Y 2).1) 0), some (((Y 3).1) 0), some (((Y 4).1) 0)]))))))] ++ (ck Z ((Y 0).1) ((Y 0).2) ++ (ck Z ((Y 1).1) ((Y 1).2) ++ (ck Z ((Y 2).1) ((Y 2).2) ++ (ck Z ((Y 3).1) ((Y 3).2) ++ ck Z ((Y 4).1) ((Y 4).2)))))) (va_runV (As := [.ref (a 0)]) (rest := []) ⟨hx, hb, hml, hown, hts⟩ (m_X0_become l G Z _ ((Y 5).1) (((Y 5).2).1) (((Y 5).2).2.1) (((Y 5).2).2.2.1) (((Y 5).2).2.2.2.1) (((Y 5).2).2.2.2.2.1) (((Y 5).2).2.2.2.2.2.1) (((Y 5).2).2.2.2.2.2.2.1) (((Y 5).2).2.2.2.2.2.2.2.1) (((Y 5).2).2.2.2.2.2.2.2.2) a v.1 v.2.1 v.2.2.1 v.2.2.2.1 v.2.2.2.2.1 v.2.2.2.2.2.1 v.2.2.2.2.2.2.1 v.2.2.2.2.2.2.2.1 v.2.2.2.2.2.2.2.2) (cwV 1 hts gX2_record_X0_become rfl rfl rfl (by decide +kernel) ⟨Nat.le_of_ble_eq_true rfl, Nat.le_of_ble_eq_true rfl⟩) (zPreV hK hP hD hS hA hSW [27, 28, 29, 30, 31, 32, 33, 34, 35, 36] rfl (by decide) 27 (ci := 0) rfl rfl rfl) rfl rfl hl.1 rfl (lv_room (Nat.le_of_ble_eq_true rfl)) dX2_record_48 ⟨Nat.le_of_ble_eq_true rfl, Nat.le_of_ble_eq_true rfl⟩) hP hD hS hA [27, 28, 29, 30, 31, 32, 33, 34, 35, 36] [0, 1, 2, 3, 4, 5, 6, 7, 8, 9, 10, 11, 12, 13, 14, 15, 16, 17, 18, 19, 20, 21, 22, 23, 24, 25, 26] [0, 1, 2, 3, 4, 5, 6, 7, 8, 9, 10, 11, 12, 13, 14, 15, 16, 17, 18, 19, 20, 21, 22, 23, 24, 25, 26, 27, 28, 29, 30, 31, 32, 33, 34, 35, 36] rfl rfl (by decide) (by decide) (by decide) (fun _ => rfl) (fun u H locs hw48 hP hD hS => ?_)
  try dsimp only at hw48
  have hP : va_P G vwCl ([((cd 0), .inr (2, [.ref (cd 1), .int (nI kp)])), ((cd 1), .inl (Z 2, 6, .inr (.inr (.inr (.inr (zQ [some (((Y 5).1) 0), some (((Y 0).1) 0), some (((Y 1).1) 0), some (((Y 2).1) 0), some (((Y 3).1) 0), some (((Y 4).1) 0)]))))))] ++ (ck Z ((Y 0).1) ((Y 0).2) ++ (ck Z ((Y 1).1) ((Y 1).2) ++ (ck Z ((Y 2).1) ((Y 2).2) ++ (ck Z ((Y 3).1) ((Y 3).2) ++ (ck Z ((Y 4).1) ((Y 4).2) ++ (ck Z ((Y 5).1) ((va_cpy v.1 (((Y 5).2).1) 0 0 4), v.2.1, v.2.2.1, (va_cpy v.2.2.2.1 (((Y 5).2).2.2.2.1) 0 0 336), v.2.2.2.2.1, v.2.2.2.2.2.1, v.2.2.2.2.2.2.1, v.2.2.2.2.2.2.2.1, v.2.2.2.2.2.2.2.2) ++ ck Z a (v.1, v.2.1, v.2.2.1, v.2.2.2.1, v.2.2.2.2.1, v.2.2.2.2.2.1, v.2.2.2.2.2.2.1, v.2.2.2.2.2.2.2.1, v.2.2.2.2.2.2.2.2)))))))) H := hP
  have hD : va_D A ([((cd 0), .inr (2, [.ref (cd 1), .int (nI kp)])), ((cd 1), .inl (Z 2, 6, .inr (.inr (.inr (.inr (zQ [some (((Y 5).1) 0), some (((Y 0).1) 0), some (((Y 1).1) 0), some (((Y 2).1) 0), some (((Y 3).1) 0), some (((Y 4).1) 0)]))))))] ++ (ck Z ((Y 0).1) ((Y 0).2) ++ (ck Z ((Y 1).1) ((Y 1).2) ++ (ck Z ((Y 2).1) ((Y 2).2) ++ (ck Z ((Y 3).1) ((Y 3).2) ++ (ck Z ((Y 4).1) ((Y 4).2) ++ (ck Z ((Y 5).1) ((va_cpy v.1 (((Y 5).2).1) 0 0 4), v.2.1, v.2.2.1, (va_cpy v.2.2.2.1 (((Y 5).2).2.2.2.1) 0 0 336), v.2.2.2.2.1, v.2.2.2.2.2.1, v.2.2.2.2.2.2.1, v.2.2.2.2.2.2.2.1, v.2.2.2.2.2.2.2.2) ++ ck Z a (v.1, v.2.1, v.2.2.1, v.2.2.2.1, v.2.2.2.2.1, v.2.2.2.2.2.1, v.2.2.2.2.2.2.1, v.2.2.2.2.2.2.2.1, v.2.2.2.2.2.2.2.2)))))))) := hD
  refine lv_aload_n hx hb dX2_record_51 rfl (lv_at hl 2 rfl) ?_
  refine lv_aload_n hx hb dX2_record_52 rfl (lv_at hl 2 rfl) ?_
  refine va_get (D := G) (ci := 2) (v := .int (nI kp)) (C := RX2) (T := TX2) (N := 2) hx hb hts iX2 hown hK hP 0 rfl rfl 1 (by decide) k_22 (fun _ h9 => h9) rfl dX2_record_53 ?_
  refine lv_iconst (v := 1) hx hb dX2_record_56 (by decide) ?_
  refine lv_iadd hx hb dX2_record_57 ?_
  refine zTopI (y := (nI (kp + 1))) (nI_succ kp).symm ?_
  refine lv_bipush (v := 6) hx hb dX2_record_58 (by decide) ?_
  refine va_mmin hx hb (hml.trans hl.1.symm) hown k_26 kms_min kmi kmc_min (Nat.le_of_ble_eq_true rfl) (Nat.le_of_ble_eq_true rfl) (Nat.zero_le _) (Nat.zero_le _) dX2_record_60 ?_
  refine zTopI (y := zMin (nI (kp + 1)) 6) rfl ?_
  refine zTopI (y := nI (hKp kp)) (hKp_min hkp) ?_
  refine va_put (D := G) (ci := 2) (v := .int (nI (hKp kp))) (ty := .int) (C := RX2) (T := TX2) (N := 2) hx hb hts iX2 tyX2 tyX2_ok nmX2 hown hK hP hD hS 0 rfl rfl 1 (by decide) k_22 (fun _ h9 => h9) rfl (by decide +kernel) rfl rfl (Nat.le_of_ble_eq_true rfl) dX2_record_63 (fun H locs hP hD hS => ?_)
  have hP : va_P G vwCl ([((cd 0), .inr (2, [.ref (cd 1), .int (nI (hKp kp))])), ((cd 1), .inl (Z 2, 6, .inr (.inr (.inr (.inr (zQ [some (((Y 5).1) 0), some (((Y 0).1) 0), some (((Y 1).1) 0), some (((Y 2).1) 0), some (((Y 3).1) 0), some (((Y 4).1) 0)]))))))] ++ (ck Z ((Y 0).1) ((Y 0).2) ++ (ck Z ((Y 1).1) ((Y 1).2) ++ (ck Z ((Y 2).1) ((Y 2).2) ++ (ck Z ((Y 3).1) ((Y 3).2) ++ (ck Z ((Y 4).1) ((Y 4).2) ++ (ck Z ((Y 5).1) ((va_cpy v.1 (((Y 5).2).1) 0 0 4), v.2.1, v.2.2.1, (va_cpy v.2.2.2.1 (((Y 5).2).2.2.2.1) 0 0 336), v.2.2.2.2.1, v.2.2.2.2.2.1, v.2.2.2.2.2.2.1, v.2.2.2.2.2.2.2.1, v.2.2.2.2.2.2.2.2) ++ ck Z a (v.1, v.2.1, v.2.2.1, v.2.2.2.1, v.2.2.2.2.1, v.2.2.2.2.2.1, v.2.2.2.2.2.2.1, v.2.2.2.2.2.2.2.1, v.2.2.2.2.2.2.2.2)))))))) H := hP
  have hD : va_D A ([((cd 0), .inr (2, [.ref (cd 1), .int (nI (hKp kp))])), ((cd 1), .inl (Z 2, 6, .inr (.inr (.inr (.inr (zQ [some (((Y 5).1) 0), some (((Y 0).1) 0), some (((Y 1).1) 0), some (((Y 2).1) 0), some (((Y 3).1) 0), some (((Y 4).1) 0)]))))))] ++ (ck Z ((Y 0).1) ((Y 0).2) ++ (ck Z ((Y 1).1) ((Y 1).2) ++ (ck Z ((Y 2).1) ((Y 2).2) ++ (ck Z ((Y 3).1) ((Y 3).2) ++ (ck Z ((Y 4).1) ((Y 4).2) ++ (ck Z ((Y 5).1) ((va_cpy v.1 (((Y 5).2).1) 0 0 4), v.2.1, v.2.2.1, (va_cpy v.2.2.2.1 (((Y 5).2).2.2.2.1) 0 0 336), v.2.2.2.2.1, v.2.2.2.2.2.1, v.2.2.2.2.2.2.1, v.2.2.2.2.2.2.2.1, v.2.2.2.2.2.2.2.2) ++ ck Z a (v.1, v.2.1, v.2.2.1, v.2.2.2.1, v.2.2.2.2.1, v.2.2.2.2.2.1, v.2.2.2.2.2.2.1, v.2.2.2.2.2.2.2.1, v.2.2.2.2.2.2.2.2)))))))) := hD
  have hP : va_P G vwCl ([((cd 0), .inr (2, [.ref (cd 1), .int (nI (hKp kp))])), ((cd 1), .inl (Z 2, 6, .inr (.inr (.inr (.inr (zQ [some (((Y 5).1) 0), some (((Y 0).1) 0), some (((Y 1).1) 0), some (((Y 2).1) 0), some (((Y 3).1) 0), some (((Y 4).1) 0)]))))))] ++ (ck Z ((Y 5).1) ((va_cpy v.1 (((Y 5).2).1) 0 0 4), v.2.1, v.2.2.1, (va_cpy v.2.2.2.1 (((Y 5).2).2.2.2.1) 0 0 336), v.2.2.2.2.1, v.2.2.2.2.2.1, v.2.2.2.2.2.2.1, v.2.2.2.2.2.2.2.1, v.2.2.2.2.2.2.2.2) ++ (ck Z ((Y 0).1) ((Y 0).2) ++ (ck Z ((Y 1).1) ((Y 1).2) ++ (ck Z ((Y 2).1) ((Y 2).2) ++ (ck Z ((Y 3).1) ((Y 3).2) ++ (ck Z ((Y 4).1) ((Y 4).2) ++ ck Z a (v.1, v.2.1, v.2.2.1, v.2.2.2.1, v.2.2.2.2.1, v.2.2.2.2.2.1, v.2.2.2.2.2.2.1, v.2.2.2.2.2.2.2.1, v.2.2.2.2.2.2.2.2)))))))) H := zPsub hP (is := [0, 1, 27, 28, 29, 30, 31, 2, 3, 4, 5, 6, 7, 8, 9, 10, 11, 12, 13, 14, 15, 16, 17, 18, 19, 20, 21, 22, 23, 24, 25, 26, 32, 33, 34, 35, 36]) rfl
  have hD : va_D A ([((cd 0), .inr (2, [.ref (cd 1), .int (nI (hKp kp))])), ((cd 1), .inl (Z 2, 6, .inr (.inr (.inr (.inr (zQ [some (((Y 5).1) 0), some (((Y 0).1) 0), some (((Y 1).1) 0), some (((Y 2).1) 0), some (((Y 3).1) 0), some (((Y 4).1) 0)]))))))] ++ (ck Z ((Y 5).1) ((va_cpy v.1 (((Y 5).2).1) 0 0 4), v.2.1, v.2.2.1, (va_cpy v.2.2.2.1 (((Y 5).2).2.2.2.1) 0 0 336), v.2.2.2.2.1, v.2.2.2.2.2.1, v.2.2.2.2.2.2.1, v.2.2.2.2.2.2.2.1, v.2.2.2.2.2.2.2.2) ++ (ck Z ((Y 0).1) ((Y 0).2) ++ (ck Z ((Y 1).1) ((Y 1).2) ++ (ck Z ((Y 2).1) ((Y 2).2) ++ (ck Z ((Y 3).1) ((Y 3).2) ++ (ck Z ((Y 4).1) ((Y 4).2) ++ ck Z a (v.1, v.2.1, v.2.2.1, v.2.2.2.1, v.2.2.2.2.1, v.2.2.2.2.2.1, v.2.2.2.2.2.2.1, v.2.2.2.2.2.2.2.1, v.2.2.2.2.2.2.2.2)))))))) := hD.sub [0, 1, 27, 28, 29, 30, 31, 2, 3, 4, 5, 6, 7, 8, 9, 10, 11, 12, 13, 14, 15, 16, 17, 18, 19, 20, 21, 22, 23, 24, 25, 26, 32, 33, 34, 35, 36] (by decide) rfl
  exact W.vret hx hb hr (zEv (hKp kp, hRec Y v) (by
      exact ⟨rfl, rfl⟩) hP hD hS) hS.2.2 dX2_record_66


set_option maxHeartbeats 4000000 in
set_option maxRecDepth 100000 in
theorem m_X2_init (l : Launch) (G : va_G) (Z : Nat → ClassId) (sz : Nat) (h : Nat)  : Met l yX2_init wsX2_init ({ frames := 3, cells := 31, slots := 2112, locals := 52 }) (va_Pc [.ref h] (zWP G Z sz ([(h, .inr (2, [.null, .int 0]))]))) (va_Qv (fun (u : (Nat → Nat) × HV) => u.1 0 = h) (fun (u : (Nat → Nat) × HV) t => zB G (va_A ([(h, .inr (2, [.null, .int 0]))]) sz) (hk Z u.1 (0, u.2)) t) (va_A ([(h, .inr (2, [.null, .int 0]))]) sz)) 31 2112 (va_A ([(h, .inr (2, [.null, .int 0]))]) sz) := by
  refine Met.ofW (cc := cX2_init) (maxL := 2) (ret := none) (by decide) rfl ?_
  intro p e s m args below meth c s₁ B hml hv
  have hx := B.exec
  have hb := B.bytes
  have hr := B.returns
  have hts := atoms_spec (ws := wsX2_init) B.pre
  have hown : s.vm.findClass RX2 = some m.cls := findClass_of_methodNamed B.named
  have hlocks := B.notSynchronized
  have hin : meth.name = "<init>" := (name_of_methodNamed B.named B.method).1
  obtain ⟨rfl, hsz, hP, hK, hD, hA, hS, hSW⟩ := zEnter hv
  subst hsz
  generalize va_A ([(h, .inr (2, [.null, .int 0]))]) s.heap.size = A at hD hA hS hSW ⊢
  have k_3 := hts (.methodLink RX2 3 objectInit) (List.mem_of_getElem? (i := 1) rfl)
  have kio := hts (.instanceMethod objectInit) (List.mem_of_getElem? (i := 2) rfl)
  have kco := hts (.code objectInit ⟨#[0xb1]⟩ 1 none) (List.mem_of_getElem? (i := 3) rfl)
  have k_9 := hts (.classLink RX2 9 RX0) (List.mem_of_getElem? (i := 4) rfl)
  have k_11 := hts (.fieldLink RX2 11 "WarmRods$History" "states" "[LWarmRods$Clock;") (List.mem_of_getElem? (i := 5) rfl)
  have iX2 : ∀ w ∈ u_ws RX2 TX2 2, w ∈ wsX2_init := fun _ h => List.mem_cons_of_mem _ (List.mem_append_left _ (List.mem_append_left _ (List.mem_append_left _ (List.mem_append_right _ h))))
  have kin_X0 := hts (.instantiable RX0 7) (List.mem_of_getElem? (i := 6) rfl)
  have kini_X0 := hts (.initialized RX0) (List.mem_of_getElem? (i := 7) rfl)
  have iX0 : ∀ w ∈ u_ws RX0 TX0 7, w ∈ wsX2_init := fun _ h => List.mem_cons_of_mem _ (List.mem_append_left _ (List.mem_append_left _ (List.mem_append_right _ h)))
  have kins_X0_init := hts (.instanceMethod yX0_init) (List.mem_of_getElem? (i := 8) rfl)
  have hP : va_P G vwCl ([(h, .inr (2, [.null, .int 0]))]) s.heap := hP
  have hl := lv_entry ([.ref h]) (n := 2) (Nat.le_of_ble_eq_true rfl)
  rw [lg_entry_eq]
  generalize (lg_sl ([.ref h]) ++ List.replicate (2 - (lg_sl ([.ref h])).length) Slot.unset).toArray = ls at hl ⊢
  have hl : lv_has ls 2 [(0, .ref h)] := hl
  refine lv_aload_n hx hb dX2_init_0 rfl (lv_at hl 0 rfl) ?_
  refine W.objInit hx hb hown k_3 kio kco rfl (by rw [hml]; exact hl.1) rfl dX2_init_1 (Nat.le_of_ble_eq_true rfl) (Nat.le_of_ble_eq_true rfl) ?_
  refine W.eq (g2 := F0 m 4 ls []) rfl ?_
  refine lv_aload_n hx hb dX2_init_4 rfl (lv_at hl 0 rfl) ?_
  refine lv_bipush (v := 6) hx hb dX2_init_5 (by decide) ?_
  refine zNewq (N' := 6) hx hb hown k_9 hSW.1.2 hK 2 rfl hP hD hS hA (by decide) (by decide) (Nat.le_of_ble_eq_true rfl) (Nat.le_of_ble_eq_true rfl) (Nat.le_of_ble_eq_true rfl) dX2_init_7 (fun q7 H hP hD hS => ?_)
  have hP : va_P G vwCl ([(h, .inr (2, [.null, .int 0])), (q7, .inl (Z 2, 6, .inr (.inr (.inr (.inr (zQ [none, none, none, none, none, none]))))))]) H := hP
  have hD : va_D A ([(h, .inr (2, [.null, .int 0])), (q7, .inl (Z 2, 6, .inr (.inr (.inr (.inr (zQ [none, none, none, none, none, none]))))))]) := hD
  refine va_putF (D := G) (ci := 2) (v := .ref q7) (ty := .array (.object "WarmRods$Clock")) (C := RX2) (T := TX2) (N := 2) hx hb hts iX2 tyX2 tyX2_ok nmX2 hown hK hP hD hS 0 rfl rfl 0 (by decide) k_11 (fun _ h9 => h9) rfl hin rfl (by decide +kernel) rfl rfl (Nat.le_of_ble_eq_true rfl) dX2_init_10 (fun H locs hP hD hS => ?_)
  have hP : va_P G vwCl ([(h, .inr (2, [.ref q7, .int 0])), (q7, .inl (Z 2, 6, .inr (.inr (.inr (.inr (zQ [none, none, none, none, none, none]))))))]) H := hP
  have hD : va_D A ([(h, .inr (2, [.ref q7, .int 0])), (q7, .inl (Z 2, 6, .inr (.inr (.inr (.inr (zQ [none, none, none, none, none, none]))))))]) := hD
  refine lv_iconst (v := 0) hx hb dX2_init_13 (by decide) ?_
  refine lv_istore_n (lv' := [(1, .int 0), (0, .ref h)]) hx hb dX2_init_14 rfl hl (by decide) rfl (fun ls hl => ?_)
  refine lv_iload_n hx hb dX2_init_15 rfl (lv_at hl 0 rfl) ?_
  refine lv_aload_n hx hb dX2_init_16 rfl (lv_at hl 1 rfl) ?_
  refine va_get (D := G) (ci := 2) (v := .ref q7) (C := RX2) (T := TX2) (N := 2) hx hb hts iX2 hown hK hP 0 rfl rfl 0 (by decide) k_11 (fun _ h9 => h9) rfl dX2_init_17 ?_
  refine va_alen (v := 6) hx hb hK hP 1 2 rfl rfl rfl dX2_init_20 ?_
  refine lv_icmp_ge (tgt := 43) hx hb dX2_init_21 (by decide) (fun c21 => absurd c21 (by decide)) (fun _ => ?_)
  refine lv_aload_n hx hb dX2_init_24 rfl (lv_at hl 1 rfl) ?_
  refine va_get (D := G) (ci := 2) (v := .ref q7) (C := RX2) (T := TX2) (N := 2) hx hb hts iX2 hown hK hP 0 rfl rfl 0 (by decide) k_11 (fun _ h9 => h9) rfl dX2_init_25 ?_
  refine lv_iload_n hx hb dX2_init_28 rfl (lv_at hl 0 rfl) ?_
  refine va_new (ci := 0) (fs := [.null, .null, .null, .int 0, .int 0, .int 0, .int 0]) (C := RX0) (T := TX0) (N := 7) hx hb hts iX0 tyX0 tyX0_ok hown k_9 kin_X0 kini_X0 hK hP hD hS hA rfl (fun j hj => by rcases (show j = 0 ∨ j = 1 ∨ j = 2 ∨ j = 3 ∨ j = 4 ∨ j = 5 ∨ j = 6 by omega) with rfl | rfl | rfl | rfl | rfl | rfl | rfl <;> rfl) (Nat.le_of_ble_eq_true rfl) (Nat.le_of_ble_eq_true rfl) dX2_init_29 (fun q29 H hP hD hS => ?_)
  have hP : va_P G vwCl ([(h, .inr (2, [.ref q7, .int 0])), (q7, .inl (Z 2, 6, .inr (.inr (.inr (.inr (zQ [none, none, none, none, none, none])))))), (q29, .inr (0, [.null, .null, .null, .int 0, .int 0, .int 0, .int 0]))]) H := hP
  have hD : va_D A ([(h, .inr (2, [.ref q7, .int 0])), (q7, .inl (Z 2, 6, .inr (.inr (.inr (.inr (zQ [none, none, none, none, none, none])))))), (q29, .inr (0, [.null, .null, .null, .int 0, .int 0, .int 0, .int 0]))]) := hD
  refine lv_dup hx hb dX2_init_32 rfl ?_
  refine zCv (S := (Nat → Nat) × (Nat → Int32)) (ws1 := fun u => [(h, .inr (2, [.ref q7, .int 0])), (q7, .inl (Z 2, 6, .inr (.inr (.inr (.inr (zQ [none, none, none, none, none, none]))))))] ++ ck Z u.1 (u.2, 0, 0, (fun _ => 0), 0, 0, 0, 0, 0)) (wr := [(h, .inr (2, [.ref q7, .int 0])), (q7, .inl (Z 2, 6, .inr (.inr (.inr (.inr (zQ [none, none, none, none, none, none]))))))]) (va_runIN (As := []) (rest := [.ref q29, .int 0, .ref q7]) ⟨hx, hb, hml, hown, hts⟩ (m_X0_init l G Z _ q29 0 0 0 0) (⟨va_cnB 0 hts ggX2_init_X0_init rfl rfl rfl (hSW.1.1 (.methodLinkNest RX2 17 yX0_init "WarmRods") (List.mem_of_getElem? (i := 9) rfl)) kini_X0 (by decide +kernel) ⟨Nat.le_of_ble_eq_true rfl, Nat.le_of_ble_eq_true rfl⟩, rfl, kins_X0_init⟩) (zPreS hK hP hD hS hA hSW [2] rfl (by decide)) rfl rfl hl.1 rfl (lv_room (Nat.le_of_ble_eq_true rfl)) dX2_init_33 ⟨Nat.le_of_ble_eq_true rfl, Nat.le_of_ble_eq_true rfl⟩) hP hD hS hA [2] [0, 1] [0, 1, 2, 3, 4, 5, 6] rfl rfl (by decide) (by decide) (by decide) (fun _ => rfl) (fun u H locs hw33 hP hD hS => ?_)
  obtain ⟨a1_33, st_33⟩ := u
  try dsimp only at hw33
  obtain ⟨hA33, rfl⟩ := hw33
  have hP9 := hP
  have hD9 := hD
  subst hA33
  have hP := hP9
  have hD := hD9
  have hP : va_P G vwCl ([(h, .inr (2, [.ref q7, .int 0])), (q7, .inl (Z 2, 6, .inr (.inr (.inr (.inr (zQ [none, none, none, none, none, none]))))))] ++ ck Z a1_33 ((cSt0), 0, 0, (fun _ => 0), 0, 0, 0, 0, 0)) H := hP
  have hD : va_D A ([(h, .inr (2, [.ref q7, .int 0])), (q7, .inl (Z 2, 6, .inr (.inr (.inr (.inr (zQ [none, none, none, none, none, none]))))))] ++ ck Z a1_33 ((cSt0), 0, 0, (fun _ => 0), 0, 0, 0, 0, 0)) := hD
  refine zAast (ci := 0) hx hb hK hP hD hS 1 2 2 rfl rfl rfl rfl rfl 0 (by decide) ⟨Nat.le_of_ble_eq_true rfl, Nat.le_of_ble_eq_true rfl⟩ (by decide) dX2_init_36 (fun H locs hP hD hS => ?_)
  have hP : va_P G vwCl ([(h, .inr (2, [.ref q7, .int 0])), (q7, .inl (Z 2, 6, .inr (.inr (.inr (.inr (zQ [some (a1_33 0), none, none, none, none, none]))))))] ++ ck Z a1_33 ((cSt0), 0, 0, (fun _ => 0), 0, 0, 0, 0, 0)) H := hP
  have hD : va_D A ([(h, .inr (2, [.ref q7, .int 0])), (q7, .inl (Z 2, 6, .inr (.inr (.inr (.inr (zQ [some (a1_33 0), none, none, none, none, none]))))))] ++ ck Z a1_33 ((cSt0), 0, 0, (fun _ => 0), 0, 0, 0, 0, 0)) := hD
  refine lv_iinc (v := 1) (lv' := [(1, .int 1), (0, .ref h)]) hx hb dX2_init_37 hl (k := 0) rfl (by decide) (by decide) rfl (fun ls hl => ?_)
  refine lv_goto (tgt := 15) hx hb dX2_init_40 (by decide) ?_
  refine lv_iload_n hx hb dX2_init_15 rfl (lv_at hl 0 rfl) ?_
  refine lv_aload_n hx hb dX2_init_16 rfl (lv_at hl 1 rfl) ?_
  refine va_get (D := G) (ci := 2) (v := .ref q7) (C := RX2) (T := TX2) (N := 2) hx hb hts iX2 hown hK hP 0 rfl rfl 0 (by decide) k_11 (fun _ h9 => h9) rfl dX2_init_17 ?_
  refine va_alen (v := 6) hx hb hK hP 1 2 rfl rfl rfl dX2_init_20 ?_
  refine lv_icmp_ge (tgt := 43) hx hb dX2_init_21 (by decide) (fun c21u1 => absurd c21u1 (by decide)) (fun _ => ?_)
  refine lv_aload_n hx hb dX2_init_24 rfl (lv_at hl 1 rfl) ?_
  refine va_get (D := G) (ci := 2) (v := .ref q7) (C := RX2) (T := TX2) (N := 2) hx hb hts iX2 hown hK hP 0 rfl rfl 0 (by decide) k_11 (fun _ h9 => h9) rfl dX2_init_25 ?_
  refine lv_iload_n hx hb dX2_init_28 rfl (lv_at hl 0 rfl) ?_
  refine va_new (ci := 0) (fs := [.null, .null, .null, .int 0, .int 0, .int 0, .int 0]) (C := RX0) (T := TX0) (N := 7) hx hb hts iX0 tyX0 tyX0_ok hown k_9 kin_X0 kini_X0 hK hP hD hS hA rfl (fun j hj => by rcases (show j = 0 ∨ j = 1 ∨ j = 2 ∨ j = 3 ∨ j = 4 ∨ j = 5 ∨ j = 6 by omega) with rfl | rfl | rfl | rfl | rfl | rfl | rfl <;> rfl) (Nat.le_of_ble_eq_true rfl) (Nat.le_of_ble_eq_true rfl) dX2_init_29 (fun q29_2 H hP hD hS => ?_)
  have hP : va_P G vwCl ([(h, .inr (2, [.ref q7, .int 0])), (q7, .inl (Z 2, 6, .inr (.inr (.inr (.inr (zQ [some (a1_33 0), none, none, none, none, none]))))))] ++ (ck Z a1_33 ((cSt0), 0, 0, (fun _ => 0), 0, 0, 0, 0, 0) ++ [(q29_2, .inr (0, [.null, .null, .null, .int 0, .int 0, .int 0, .int 0]))])) H := hP
  have hD : va_D A ([(h, .inr (2, [.ref q7, .int 0])), (q7, .inl (Z 2, 6, .inr (.inr (.inr (.inr (zQ [some (a1_33 0), none, none, none, none, none]))))))] ++ (ck Z a1_33 ((cSt0), 0, 0, (fun _ => 0), 0, 0, 0, 0, 0) ++ [(q29_2, .inr (0, [.null, .null, .null, .int 0, .int 0, .int 0, .int 0]))])) := hD
  refine lv_dup hx hb dX2_init_32 rfl ?_
  refine zCv (S := (Nat → Nat) × (Nat → Int32)) (ws1 := fun u => [(h, .inr (2, [.ref q7, .int 0])), (q7, .inl (Z 2, 6, .inr (.inr (.inr (.inr (zQ [some (a1_33 0), none, none, none, none, none]))))))] ++ (ck Z a1_33 ((cSt0), 0, 0, (fun _ => 0), 0, 0, 0, 0, 0) ++ ck Z u.1 (u.2, 0, 0, (fun _ => 0), 0, 0, 0, 0, 0))) (wr := [(h, .inr (2, [.ref q7, .int 0])), (q7, .inl (Z 2, 6, .inr (.inr (.inr (.inr (zQ [some (a1_33 0), none, none, none, none, none]))))))] ++ ck Z a1_33 ((cSt0), 0, 0, (fun _ => 0), 0, 0, 0, 0, 0)) (va_runIN (As := []) (rest := [.ref q29_2, .int 1, .ref q7]) ⟨hx, hb, hml, hown, hts⟩ (m_X0_init l G Z _ q29_2 0 0 0 0) (⟨va_cnB 0 hts ggX2_init_X0_init rfl rfl rfl (hSW.1.1 (.methodLinkNest RX2 17 yX0_init "WarmRods") (List.mem_of_getElem? (i := 9) rfl)) kini_X0 (by decide +kernel) ⟨Nat.le_of_ble_eq_true rfl, Nat.le_of_ble_eq_true rfl⟩, rfl, kins_X0_init⟩) (zPreS hK hP hD hS hA hSW [7] rfl (by decide)) rfl rfl hl.1 rfl (lv_room (Nat.le_of_ble_eq_true rfl)) dX2_init_33 ⟨Nat.le_of_ble_eq_true rfl, Nat.le_of_ble_eq_true rfl⟩) hP hD hS hA [7] [0, 1, 2, 3, 4, 5, 6] [0, 1, 2, 3, 4, 5, 6, 7, 8, 9, 10, 11] rfl rfl (by decide) (by decide) (by decide) (fun _ => rfl) (fun u H locs hw33_2 hP hD hS => ?_)
  obtain ⟨a1_33_2, st_33_2⟩ := u
  try dsimp only at hw33_2
  obtain ⟨hA33, rfl⟩ := hw33_2
  have hP9 := hP
  have hD9 := hD
  subst hA33
  have hP := hP9
  have hD := hD9
  have hP : va_P G vwCl ([(h, .inr (2, [.ref q7, .int 0])), (q7, .inl (Z 2, 6, .inr (.inr (.inr (.inr (zQ [some (a1_33 0), none, none, none, none, none]))))))] ++ (ck Z a1_33 ((cSt0), 0, 0, (fun _ => 0), 0, 0, 0, 0, 0) ++ ck Z a1_33_2 ((cSt0), 0, 0, (fun _ => 0), 0, 0, 0, 0, 0))) H := hP
  have hD : va_D A ([(h, .inr (2, [.ref q7, .int 0])), (q7, .inl (Z 2, 6, .inr (.inr (.inr (.inr (zQ [some (a1_33 0), none, none, none, none, none]))))))] ++ (ck Z a1_33 ((cSt0), 0, 0, (fun _ => 0), 0, 0, 0, 0, 0) ++ ck Z a1_33_2 ((cSt0), 0, 0, (fun _ => 0), 0, 0, 0, 0, 0))) := hD
  refine zAast (ci := 0) hx hb hK hP hD hS 1 2 7 rfl rfl rfl rfl rfl 1 (by decide) ⟨Nat.le_of_ble_eq_true rfl, Nat.le_of_ble_eq_true rfl⟩ (by decide) dX2_init_36 (fun H locs hP hD hS => ?_)
  have hP : va_P G vwCl ([(h, .inr (2, [.ref q7, .int 0])), (q7, .inl (Z 2, 6, .inr (.inr (.inr (.inr (zQ [some (a1_33 0), some (a1_33_2 0), none, none, none, none]))))))] ++ (ck Z a1_33 ((cSt0), 0, 0, (fun _ => 0), 0, 0, 0, 0, 0) ++ ck Z a1_33_2 ((cSt0), 0, 0, (fun _ => 0), 0, 0, 0, 0, 0))) H := hP
  have hD : va_D A ([(h, .inr (2, [.ref q7, .int 0])), (q7, .inl (Z 2, 6, .inr (.inr (.inr (.inr (zQ [some (a1_33 0), some (a1_33_2 0), none, none, none, none]))))))] ++ (ck Z a1_33 ((cSt0), 0, 0, (fun _ => 0), 0, 0, 0, 0, 0) ++ ck Z a1_33_2 ((cSt0), 0, 0, (fun _ => 0), 0, 0, 0, 0, 0))) := hD
  refine lv_iinc (v := 2) (lv' := [(1, .int 2), (0, .ref h)]) hx hb dX2_init_37 hl (k := 0) rfl (by decide) (by decide) rfl (fun ls hl => ?_)
  refine lv_goto (tgt := 15) hx hb dX2_init_40 (by decide) ?_
  refine lv_iload_n hx hb dX2_init_15 rfl (lv_at hl 0 rfl) ?_
  refine lv_aload_n hx hb dX2_init_16 rfl (lv_at hl 1 rfl) ?_
  refine va_get (D := G) (ci := 2) (v := .ref q7) (C := RX2) (T := TX2) (N := 2) hx hb hts iX2 hown hK hP 0 rfl rfl 0 (by decide) k_11 (fun _ h9 => h9) rfl dX2_init_17 ?_
  refine va_alen (v := 6) hx hb hK hP 1 2 rfl rfl rfl dX2_init_20 ?_
  refine lv_icmp_ge (tgt := 43) hx hb dX2_init_21 (by decide) (fun c21u2 => absurd c21u2 (by decide)) (fun _ => ?_)
  refine lv_aload_n hx hb dX2_init_24 rfl (lv_at hl 1 rfl) ?_
  refine va_get (D := G) (ci := 2) (v := .ref q7) (C := RX2) (T := TX2) (N := 2) hx hb hts iX2 hown hK hP 0 rfl rfl 0 (by decide) k_11 (fun _ h9 => h9) rfl dX2_init_25 ?_
  refine lv_iload_n hx hb dX2_init_28 rfl (lv_at hl 0 rfl) ?_
  refine va_new (ci := 0) (fs := [.null, .null, .null, .int 0, .int 0, .int 0, .int 0]) (C := RX0) (T := TX0) (N := 7) hx hb hts iX0 tyX0 tyX0_ok hown k_9 kin_X0 kini_X0 hK hP hD hS hA rfl (fun j hj => by rcases (show j = 0 ∨ j = 1 ∨ j = 2 ∨ j = 3 ∨ j = 4 ∨ j = 5 ∨ j = 6 by omega) with rfl | rfl | rfl | rfl | rfl | rfl | rfl <;> rfl) (Nat.le_of_ble_eq_true rfl) (Nat.le_of_ble_eq_true rfl) dX2_init_29 (fun q29_3 H hP hD hS => ?_)
  have hP : va_P G vwCl ([(h, .inr (2, [.ref q7, .int 0])), (q7, .inl (Z 2, 6, .inr (.inr (.inr (.inr (zQ [some (a1_33 0), some (a1_33_2 0), none, none, none, none]))))))] ++ (ck Z a1_33 ((cSt0), 0, 0, (fun _ => 0), 0, 0, 0, 0, 0) ++ (ck Z a1_33_2 ((cSt0), 0, 0, (fun _ => 0), 0, 0, 0, 0, 0) ++ [(q29_3, .inr (0, [.null, .null, .null, .int 0, .int 0, .int 0, .int 0]))]))) H := hP
  have hD : va_D A ([(h, .inr (2, [.ref q7, .int 0])), (q7, .inl (Z 2, 6, .inr (.inr (.inr (.inr (zQ [some (a1_33 0), some (a1_33_2 0), none, none, none, none]))))))] ++ (ck Z a1_33 ((cSt0), 0, 0, (fun _ => 0), 0, 0, 0, 0, 0) ++ (ck Z a1_33_2 ((cSt0), 0, 0, (fun _ => 0), 0, 0, 0, 0, 0) ++ [(q29_3, .inr (0, [.null, .null, .null, .int 0, .int 0, .int 0, .int 0]))]))) := hD
  refine lv_dup hx hb dX2_init_32 rfl ?_
  refine zCv (S := (Nat → Nat) × (Nat → Int32)) (ws1 := fun u => [(h, .inr (2, [.ref q7, .int 0])), (q7, .inl (Z 2, 6, .inr (.inr (.inr (.inr (zQ [some (a1_33 0), some (a1_33_2 0), none, none, none, none]))))))] ++ (ck Z a1_33 ((cSt0), 0, 0, (fun _ => 0), 0, 0, 0, 0, 0) ++ (ck Z a1_33_2 ((cSt0), 0, 0, (fun _ => 0), 0, 0, 0, 0, 0) ++ ck Z u.1 (u.2, 0, 0, (fun _ => 0), 0, 0, 0, 0, 0)))) (wr := [(h, .inr (2, [.ref q7, .int 0])), (q7, .inl (Z 2, 6, .inr (.inr (.inr (.inr (zQ [some (a1_33 0), some (a1_33_2 0), none, none, none, none]))))))] ++ (ck Z a1_33 ((cSt0), 0, 0, (fun _ => 0), 0, 0, 0, 0, 0) ++ ck Z a1_33_2 ((cSt0), 0, 0, (fun _ => 0), 0, 0, 0, 0, 0))) (va_runIN (As := []) (rest := [.ref q29_3, .int 2, .ref q7]) ⟨hx, hb, hml, hown, hts⟩ (m_X0_init l G Z _ q29_3 0 0 0 0) (⟨va_cnB 0 hts ggX2_init_X0_init rfl rfl rfl (hSW.1.1 (.methodLinkNest RX2 17 yX0_init "WarmRods") (List.mem_of_getElem? (i := 9) rfl)) kini_X0 (by decide +kernel) ⟨Nat.le_of_ble_eq_true rfl, Nat.le_of_ble_eq_true rfl⟩, rfl, kins_X0_init⟩) (zPreS hK hP hD hS hA hSW [12] rfl (by decide)) rfl rfl hl.1 rfl (lv_room (Nat.le_of_ble_eq_true rfl)) dX2_init_33 ⟨Nat.le_of_ble_eq_true rfl, Nat.le_of_ble_eq_true rfl⟩) hP hD hS hA [12] [0, 1, 2, 3, 4, 5, 6, 7, 8, 9, 10, 11] [0, 1, 2, 3, 4, 5, 6, 7, 8, 9, 10, 11, 12, 13, 14, 15, 16] rfl rfl (by decide) (by decide) (by decide) (fun _ => rfl) (fun u H locs hw33_3 hP hD hS => ?_)
  obtain ⟨a1_33_3, st_33_3⟩ := u
  try dsimp only at hw33_3
  obtain ⟨hA33, rfl⟩ := hw33_3
  have hP9 := hP
  have hD9 := hD
  subst hA33
  have hP := hP9
  have hD := hD9
  have hP : va_P G vwCl ([(h, .inr (2, [.ref q7, .int 0])), (q7, .inl (Z 2, 6, .inr (.inr (.inr (.inr (zQ [some (a1_33 0), some (a1_33_2 0), none, none, none, none]))))))] ++ (ck Z a1_33 ((cSt0), 0, 0, (fun _ => 0), 0, 0, 0, 0, 0) ++ (ck Z a1_33_2 ((cSt0), 0, 0, (fun _ => 0), 0, 0, 0, 0, 0) ++ ck Z a1_33_3 ((cSt0), 0, 0, (fun _ => 0), 0, 0, 0, 0, 0)))) H := hP
  have hD : va_D A ([(h, .inr (2, [.ref q7, .int 0])), (q7, .inl (Z 2, 6, .inr (.inr (.inr (.inr (zQ [some (a1_33 0), some (a1_33_2 0), none, none, none, none]))))))] ++ (ck Z a1_33 ((cSt0), 0, 0, (fun _ => 0), 0, 0, 0, 0, 0) ++ (ck Z a1_33_2 ((cSt0), 0, 0, (fun _ => 0), 0, 0, 0, 0, 0) ++ ck Z a1_33_3 ((cSt0), 0, 0, (fun _ => 0), 0, 0, 0, 0, 0)))) := hD
  refine zAast (ci := 0) hx hb hK hP hD hS 1 2 12 rfl rfl rfl rfl rfl 2 (by decide) ⟨Nat.le_of_ble_eq_true rfl, Nat.le_of_ble_eq_true rfl⟩ (by decide) dX2_init_36 (fun H locs hP hD hS => ?_)
  have hP : va_P G vwCl ([(h, .inr (2, [.ref q7, .int 0])), (q7, .inl (Z 2, 6, .inr (.inr (.inr (.inr (zQ [some (a1_33 0), some (a1_33_2 0), some (a1_33_3 0), none, none, none]))))))] ++ (ck Z a1_33 ((cSt0), 0, 0, (fun _ => 0), 0, 0, 0, 0, 0) ++ (ck Z a1_33_2 ((cSt0), 0, 0, (fun _ => 0), 0, 0, 0, 0, 0) ++ ck Z a1_33_3 ((cSt0), 0, 0, (fun _ => 0), 0, 0, 0, 0, 0)))) H := hP
  have hD : va_D A ([(h, .inr (2, [.ref q7, .int 0])), (q7, .inl (Z 2, 6, .inr (.inr (.inr (.inr (zQ [some (a1_33 0), some (a1_33_2 0), some (a1_33_3 0), none, none, none]))))))] ++ (ck Z a1_33 ((cSt0), 0, 0, (fun _ => 0), 0, 0, 0, 0, 0) ++ (ck Z a1_33_2 ((cSt0), 0, 0, (fun _ => 0), 0, 0, 0, 0, 0) ++ ck Z a1_33_3 ((cSt0), 0, 0, (fun _ => 0), 0, 0, 0, 0, 0)))) := hD
  refine lv_iinc (v := 3) (lv' := [(1, .int 3), (0, .ref h)]) hx hb dX2_init_37 hl (k := 0) rfl (by decide) (by decide) rfl (fun ls hl => ?_)
  refine lv_goto (tgt := 15) hx hb dX2_init_40 (by decide) ?_
  refine lv_iload_n hx hb dX2_init_15 rfl (lv_at hl 0 rfl) ?_
  refine lv_aload_n hx hb dX2_init_16 rfl (lv_at hl 1 rfl) ?_
  refine va_get (D := G) (ci := 2) (v := .ref q7) (C := RX2) (T := TX2) (N := 2) hx hb hts iX2 hown hK hP 0 rfl rfl 0 (by decide) k_11 (fun _ h9 => h9) rfl dX2_init_17 ?_
  refine va_alen (v := 6) hx hb hK hP 1 2 rfl rfl rfl dX2_init_20 ?_
  refine lv_icmp_ge (tgt := 43) hx hb dX2_init_21 (by decide) (fun c21u3 => absurd c21u3 (by decide)) (fun _ => ?_)
  refine lv_aload_n hx hb dX2_init_24 rfl (lv_at hl 1 rfl) ?_
  refine va_get (D := G) (ci := 2) (v := .ref q7) (C := RX2) (T := TX2) (N := 2) hx hb hts iX2 hown hK hP 0 rfl rfl 0 (by decide) k_11 (fun _ h9 => h9) rfl dX2_init_25 ?_
  refine lv_iload_n hx hb dX2_init_28 rfl (lv_at hl 0 rfl) ?_
  refine va_new (ci := 0) (fs := [.null, .null, .null, .int 0, .int 0, .int 0, .int 0]) (C := RX0) (T := TX0) (N := 7) hx hb hts iX0 tyX0 tyX0_ok hown k_9 kin_X0 kini_X0 hK hP hD hS hA rfl (fun j hj => by rcases (show j = 0 ∨ j = 1 ∨ j = 2 ∨ j = 3 ∨ j = 4 ∨ j = 5 ∨ j = 6 by omega) with rfl | rfl | rfl | rfl | rfl | rfl | rfl <;> rfl) (Nat.le_of_ble_eq_true rfl) (Nat.le_of_ble_eq_true rfl) dX2_init_29 (fun q29_4 H hP hD hS => ?_)
  have hP : va_P G vwCl ([(h, .inr (2, [.ref q7, .int 0])), (q7, .inl (Z 2, 6, .inr (.inr (.inr (.inr (zQ [some (a1_33 0), some (a1_33_2 0), some (a1_33_3 0), none, none, none]))))))] ++ (ck Z a1_33 ((cSt0), 0, 0, (fun _ => 0), 0, 0, 0, 0, 0) ++ (ck Z a1_33_2 ((cSt0), 0, 0, (fun _ => 0), 0, 0, 0, 0, 0) ++ (ck Z a1_33_3 ((cSt0), 0, 0, (fun _ => 0), 0, 0, 0, 0, 0) ++ [(q29_4, .inr (0, [.null, .null, .null, .int 0, .int 0, .int 0, .int 0]))])))) H := hP
  have hD : va_D A ([(h, .inr (2, [.ref q7, .int 0])), (q7, .inl (Z 2, 6, .inr (.inr (.inr (.inr (zQ [some (a1_33 0), some (a1_33_2 0), some (a1_33_3 0), none, none, none]))))))] ++ (ck Z a1_33 ((cSt0), 0, 0, (fun _ => 0), 0, 0, 0, 0, 0) ++ (ck Z a1_33_2 ((cSt0), 0, 0, (fun _ => 0), 0, 0, 0, 0, 0) ++ (ck Z a1_33_3 ((cSt0), 0, 0, (fun _ => 0), 0, 0, 0, 0, 0) ++ [(q29_4, .inr (0, [.null, .null, .null, .int 0, .int 0, .int 0, .int 0]))])))) := hD
  refine lv_dup hx hb dX2_init_32 rfl ?_
  refine zCv (S := (Nat → Nat) × (Nat → Int32)) (ws1 := fun u => [(h, .inr (2, [.ref q7, .int 0])), (q7, .inl (Z 2, 6, .inr (.inr (.inr (.inr (zQ [some (a1_33 0), some (a1_33_2 0), some (a1_33_3 0), none, none, none]))))))] ++ (ck Z a1_33 ((cSt0), 0, 0, (fun _ => 0), 0, 0, 0, 0, 0) ++ (ck Z a1_33_2 ((cSt0), 0, 0, (fun _ => 0), 0, 0, 0, 0, 0) ++ (ck Z a1_33_3 ((cSt0), 0, 0, (fun _ => 0), 0, 0, 0, 0, 0) ++ ck Z u.1 (u.2, 0, 0, (fun _ => 0), 0, 0, 0, 0, 0))))) (wr := [(h, .inr (2, [.ref q7, .int 0])), (q7, .inl (Z 2, 6, .inr (.inr (.inr (.inr (zQ [some (a1_33 0), some (a1_33_2 0), some (a1_33_3 0), none, none, none]))))))] ++ (ck Z a1_33 ((cSt0), 0, 0, (fun _ => 0), 0, 0, 0, 0, 0) ++ (ck Z a1_33_2 ((cSt0), 0, 0, (fun _ => 0), 0, 0, 0, 0, 0) ++ ck Z a1_33_3 ((cSt0), 0, 0, (fun _ => 0), 0, 0, 0, 0, 0)))) (va_runIN (As := []) (rest := [.ref q29_4, .int 3, .ref q7]) ⟨hx, hb, hml, hown, hts⟩ (m_X0_init l G Z _ q29_4 0 0 0 0) (⟨va_cnB 0 hts ggX2_init_X0_init rfl rfl rfl (hSW.1.1 (.methodLinkNest RX2 17 yX0_init "WarmRods") (List.mem_of_getElem? (i := 9) rfl)) kini_X0 (by decide +kernel) ⟨Nat.le_of_ble_eq_true rfl, Nat.le_of_ble_eq_true rfl⟩, rfl, kins_X0_init⟩) (zPreS hK hP hD hS hA hSW [17] rfl (by decide)) rfl rfl hl.1 rfl (lv_room (Nat.le_of_ble_eq_true rfl)) dX2_init_33 ⟨Nat.le_of_ble_eq_true rfl, Nat.le_of_ble_eq_true rfl⟩) hP hD hS hA [17] [0, 1, 2, 3, 4, 5, 6, 7, 8, 9, 10, 11, 12, 13, 14, 15, 16] [0, 1, 2, 3, 4, 5, 6, 7, 8, 9, 10, 11, 12, 13, 14, 15, 16, 17, 18, 19, 20, 21] rfl rfl (by decide) (by decide) (by decide) (fun _ => rfl) (fun u H locs hw33_4 hP hD hS => ?_)
  obtain ⟨a1_33_4, st_33_4⟩ := u
  try dsimp only at hw33_4
  obtain ⟨hA33, rfl⟩ := hw33_4
  have hP9 := hP
  have hD9 := hD
  subst hA33
  have hP := hP9
  have hD := hD9
  have hP : va_P G vwCl ([(h, .inr (2, [.ref q7, .int 0])), (q7, .inl (Z 2, 6, .inr (.inr (.inr (.inr (zQ [some (a1_33 0), some (a1_33_2 0), some (a1_33_3 0), none, none, none]))))))] ++ (ck Z a1_33 ((cSt0), 0, 0, (fun _ => 0), 0, 0, 0, 0, 0) ++ (ck Z a1_33_2 ((cSt0), 0, 0, (fun _ => 0), 0, 0, 0, 0, 0) ++ (ck Z a1_33_3 ((cSt0), 0, 0, (fun _ => 0), 0, 0, 0, 0, 0) ++ ck Z a1_33_4 ((cSt0), 0, 0, (fun _ => 0), 0, 0, 0, 0, 0))))) H := hP
  have hD : va_D A ([(h, .inr (2, [.ref q7, .int 0])), (q7, .inl (Z 2, 6, .inr (.inr (.inr (.inr (zQ [some (a1_33 0), some (a1_33_2 0), some (a1_33_3 0), none, none, none]))))))] ++ (ck Z a1_33 ((cSt0), 0, 0, (fun _ => 0), 0, 0, 0, 0, 0) ++ (ck Z a1_33_2 ((cSt0), 0, 0, (fun _ => 0), 0, 0, 0, 0, 0) ++ (ck Z a1_33_3 ((cSt0), 0, 0, (fun _ => 0), 0, 0, 0, 0, 0) ++ ck Z a1_33_4 ((cSt0), 0, 0, (fun _ => 0), 0, 0, 0, 0, 0))))) := hD
  refine zAast (ci := 0) hx hb hK hP hD hS 1 2 17 rfl rfl rfl rfl rfl 3 (by decide) ⟨Nat.le_of_ble_eq_true rfl, Nat.le_of_ble_eq_true rfl⟩ (by decide) dX2_init_36 (fun H locs hP hD hS => ?_)
  have hP : va_P G vwCl ([(h, .inr (2, [.ref q7, .int 0])), (q7, .inl (Z 2, 6, .inr (.inr (.inr (.inr (zQ [some (a1_33 0), some (a1_33_2 0), some (a1_33_3 0), some (a1_33_4 0), none, none]))))))] ++ (ck Z a1_33 ((cSt0), 0, 0, (fun _ => 0), 0, 0, 0, 0, 0) ++ (ck Z a1_33_2 ((cSt0), 0, 0, (fun _ => 0), 0, 0, 0, 0, 0) ++ (ck Z a1_33_3 ((cSt0), 0, 0, (fun _ => 0), 0, 0, 0, 0, 0) ++ ck Z a1_33_4 ((cSt0), 0, 0, (fun _ => 0), 0, 0, 0, 0, 0))))) H := hP
  have hD : va_D A ([(h, .inr (2, [.ref q7, .int 0])), (q7, .inl (Z 2, 6, .inr (.inr (.inr (.inr (zQ [some (a1_33 0), some (a1_33_2 0), some (a1_33_3 0), some (a1_33_4 0), none, none]))))))] ++ (ck Z a1_33 ((cSt0), 0, 0, (fun _ => 0), 0, 0, 0, 0, 0) ++ (ck Z a1_33_2 ((cSt0), 0, 0, (fun _ => 0), 0, 0, 0, 0, 0) ++ (ck Z a1_33_3 ((cSt0), 0, 0, (fun _ => 0), 0, 0, 0, 0, 0) ++ ck Z a1_33_4 ((cSt0), 0, 0, (fun _ => 0), 0, 0, 0, 0, 0))))) := hD
  refine lv_iinc (v := 4) (lv' := [(1, .int 4), (0, .ref h)]) hx hb dX2_init_37 hl (k := 0) rfl (by decide) (by decide) rfl (fun ls hl => ?_)
  refine lv_goto (tgt := 15) hx hb dX2_init_40 (by decide) ?_
  refine lv_iload_n hx hb dX2_init_15 rfl (lv_at hl 0 rfl) ?_
  refine lv_aload_n hx hb dX2_init_16 rfl (lv_at hl 1 rfl) ?_
  refine va_get (D := G) (ci := 2) (v := .ref q7) (C := RX2) (T := TX2) (N := 2) hx hb hts iX2 hown hK hP 0 rfl rfl 0 (by decide) k_11 (fun _ h9 => h9) rfl dX2_init_17 ?_
  refine va_alen (v := 6) hx hb hK hP 1 2 rfl rfl rfl dX2_init_20 ?_
  refine lv_icmp_ge (tgt := 43) hx hb dX2_init_21 (by decide) (fun c21u4 => absurd c21u4 (by decide)) (fun _ => ?_)
  refine lv_aload_n hx hb dX2_init_24 rfl (lv_at hl 1 rfl) ?_
  refine va_get (D := G) (ci := 2) (v := .ref q7) (C := RX2) (T := TX2) (N := 2) hx hb hts iX2 hown hK hP 0 rfl rfl 0 (by decide) k_11 (fun _ h9 => h9) rfl dX2_init_25 ?_
  refine lv_iload_n hx hb dX2_init_28 rfl (lv_at hl 0 rfl) ?_
  refine va_new (ci := 0) (fs := [.null, .null, .null, .int 0, .int 0, .int 0, .int 0]) (C := RX0) (T := TX0) (N := 7) hx hb hts iX0 tyX0 tyX0_ok hown k_9 kin_X0 kini_X0 hK hP hD hS hA rfl (fun j hj => by rcases (show j = 0 ∨ j = 1 ∨ j = 2 ∨ j = 3 ∨ j = 4 ∨ j = 5 ∨ j = 6 by omega) with rfl | rfl | rfl | rfl | rfl | rfl | rfl <;> rfl) (Nat.le_of_ble_eq_true rfl) (Nat.le_of_ble_eq_true rfl) dX2_init_29 (fun q29_5 H hP hD hS => ?_)
  have hP : va_P G vwCl ([(h, .inr (2, [.ref q7, .int 0])), (q7, .inl (Z 2, 6, .inr (.inr (.inr (.inr (zQ [some (a1_33 0), some (a1_33_2 0), some (a1_33_3 0), some (a1_33_4 0), none, none]))))))] ++ (ck Z a1_33 ((cSt0), 0, 0, (fun _ => 0), 0, 0, 0, 0, 0) ++ (ck Z a1_33_2 ((cSt0), 0, 0, (fun _ => 0), 0, 0, 0, 0, 0) ++ (ck Z a1_33_3 ((cSt0), 0, 0, (fun _ => 0), 0, 0, 0, 0, 0) ++ (ck Z a1_33_4 ((cSt0), 0, 0, (fun _ => 0), 0, 0, 0, 0, 0) ++ [(q29_5, .inr (0, [.null, .null, .null, .int 0, .int 0, .int 0, .int 0]))]))))) H := hP
  have hD : va_D A ([(h, .inr (2, [.ref q7, .int 0])), (q7, .inl (Z 2, 6, .inr (.inr (.inr (.inr (zQ [some (a1_33 0), some (a1_33_2 0), some (a1_33_3 0), some (a1_33_4 0), none, none]))))))] ++ (ck Z a1_33 ((cSt0), 0, 0, (fun _ => 0), 0, 0, 0, 0, 0) ++ (ck Z a1_33_2 ((cSt0), 0, 0, (fun _ => 0), 0, 0, 0, 0, 0) ++ (ck Z a1_33_3 ((cSt0), 0, 0, (fun _ => 0), 0, 0, 0, 0, 0) ++ (ck Z a1_33_4 ((cSt0), 0, 0, (fun _ => 0), 0, 0, 0, 0, 0) ++ [(q29_5, .inr (0, [.null, .null, .null, .int 0, .int 0, .int 0, .int 0]))]))))) := hD
  refine lv_dup hx hb dX2_init_32 rfl ?_
  refine zCv (S := (Nat → Nat) × (Nat → Int32)) (ws1 := fun u => [(h, .inr (2, [.ref q7, .int 0])), (q7, .inl (Z 2, 6, .inr (.inr (.inr (.inr (zQ [some (a1_33 0), some (a1_33_2 0), some (a1_33_3 0), some (a1_33_4 0), none, none]))))))] ++ (ck Z a1_33 ((cSt0), 0, 0, (fun _ => 0), 0, 0, 0, 0, 0) ++ (ck Z a1_33_2 ((cSt0), 0, 0, (fun _ => 0), 0, 0, 0, 0, 0) ++ (ck Z a1_33_3 ((cSt0), 0, 0, (fun _ => 0), 0, 0, 0, 0, 0) ++ (ck Z a1_33_4 ((cSt0), 0, 0, (fun _ => 0), 0, 0, 0, 0, 0) ++ ck Z u.1 (u.2, 0, 0, (fun _ => 0), 0, 0, 0, 0, 0)))))) (wr := [(h, .inr (2, [.ref q7, .int 0])), (q7, .inl (Z 2, 6, .inr (.inr (.inr (.inr (zQ [some (a1_33 0), some (a1_33_2 0), some (a1_33_3 0), some (a1_33_4 0), none, none]))))))] ++ (ck Z a1_33 ((cSt0), 0, 0, (fun _ => 0), 0, 0, 0, 0, 0) ++ (ck Z a1_33_2 ((cSt0), 0, 0, (fun _ => 0), 0, 0, 0, 0, 0) ++ (ck Z a1_33_3 ((cSt0), 0, 0, (fun _ => 0), 0, 0, 0, 0, 0) ++ ck Z a1_33_4 ((cSt0), 0, 0, (fun _ => 0), 0, 0, 0, 0, 0))))) (va_runIN (As := []) (rest := [.ref q29_5, .int 4, .ref q7]) ⟨hx, hb, hml, hown, hts⟩ (m_X0_init l G Z _ q29_5 0 0 0 0) (⟨va_cnB 0 hts ggX2_init_X0_init rfl rfl rfl (hSW.1.1 (.methodLinkNest RX2 17 yX0_init "WarmRods") (List.mem_of_getElem? (i := 9) rfl)) kini_X0 (by decide +kernel) ⟨Nat.le_of_ble_eq_true rfl, Nat.le_of_ble_eq_true rfl⟩, rfl, kins_X0_init⟩) (zPreS hK hP hD hS hA hSW [22] rfl (by decide)) rfl rfl hl.1 rfl (lv_room (Nat.le_of_ble_eq_true rfl)) dX2_init_33 ⟨Nat.le_of_ble_eq_true rfl, Nat.le_of_ble_eq_true rfl⟩) hP hD hS hA [22] [0, 1, 2, 3, 4, 5, 6, 7, 8, 9, 10, 11, 12, 13, 14, 15, 16, 17, 18, 19, 20, 21] [0, 1, 2, 3, 4, 5, 6, 7, 8, 9, 10, 11, 12, 13, 14, 15, 16, 17, 18, 19, 20, 21, 22, 23, 24, 25, 26] rfl rfl (by decide) (by decide) (by decide) (fun _ => rfl) (fun u H locs hw33_5 hP hD hS => ?_)
  obtain ⟨a1_33_5, st_33_5⟩ := u
  try dsimp only at hw33_5
  obtain ⟨hA33, rfl⟩ := hw33_5
  have hP9 := hP
  have hD9 := hD
  subst hA33
  have hP := hP9
  have hD := hD9
  have hP : va_P G vwCl ([(h, .inr (2, [.ref q7, .int 0])), (q7, .inl (Z 2, 6, .inr (.inr (.inr (.inr (zQ [some (a1_33 0), some (a1_33_2 0), some (a1_33_3 0), some (a1_33_4 0), none, none]))))))] ++ (ck Z a1_33 ((cSt0), 0, 0, (fun _ => 0), 0, 0, 0, 0, 0) ++ (ck Z a1_33_2 ((cSt0), 0, 0, (fun _ => 0), 0, 0, 0, 0, 0) ++ (ck Z a1_33_3 ((cSt0), 0, 0, (fun _ => 0), 0, 0, 0, 0, 0) ++ (ck Z a1_33_4 ((cSt0), 0, 0, (fun _ => 0), 0, 0, 0, 0, 0) ++ ck Z a1_33_5 ((cSt0), 0, 0, (fun _ => 0), 0, 0, 0, 0, 0)))))) H := hP
  have hD : va_D A ([(h, .inr (2, [.ref q7, .int 0])), (q7, .inl (Z 2, 6, .inr (.inr (.inr (.inr (zQ [some (a1_33 0), some (a1_33_2 0), some (a1_33_3 0), some (a1_33_4 0), none, none]))))))] ++ (ck Z a1_33 ((cSt0), 0, 0, (fun _ => 0), 0, 0, 0, 0, 0) ++ (ck Z a1_33_2 ((cSt0), 0, 0, (fun _ => 0), 0, 0, 0, 0, 0) ++ (ck Z a1_33_3 ((cSt0), 0, 0, (fun _ => 0), 0, 0, 0, 0, 0) ++ (ck Z a1_33_4 ((cSt0), 0, 0, (fun _ => 0), 0, 0, 0, 0, 0) ++ ck Z a1_33_5 ((cSt0), 0, 0, (fun _ => 0), 0, 0, 0, 0, 0)))))) := hD
  refine zAast (ci := 0) hx hb hK hP hD hS 1 2 22 rfl rfl rfl rfl rfl 4 (by decide) ⟨Nat.le_of_ble_eq_true rfl, Nat.le_of_ble_eq_true rfl⟩ (by decide) dX2_init_36 (fun H locs hP hD hS => ?_)
  have hP : va_P G vwCl ([(h, .inr (2, [.ref q7, .int 0])), (q7, .inl (Z 2, 6, .inr (.inr (.inr (.inr (zQ [some (a1_33 0), some (a1_33_2 0), some (a1_33_3 0), some (a1_33_4 0), some (a1_33_5 0), none]))))))] ++ (ck Z a1_33 ((cSt0), 0, 0, (fun _ => 0), 0, 0, 0, 0, 0) ++ (ck Z a1_33_2 ((cSt0), 0, 0, (fun _ => 0), 0, 0, 0, 0, 0) ++ (ck Z a1_33_3 ((cSt0), 0, 0, (fun _ => 0), 0, 0, 0, 0, 0) ++ (ck Z a1_33_4 ((cSt0), 0, 0, (fun _ => 0), 0, 0, 0, 0, 0) ++ ck Z a1_33_5 ((cSt0), 0, 0, (fun _ => 0), 0, 0, 0, 0, 0)))))) H := hP
  have hD : va_D A ([(h, .inr (2, [.ref q7, .int 0])), (q7, .inl (Z 2, 6, .inr (.inr (.inr (.inr (zQ [some (a1_33 0), some (a1_33_2 0), some (a1_33_3 0), some (a1_33_4 0), some (a1_33_5 0), none]))))))] ++ (ck Z a1_33 ((cSt0), 0, 0, (fun _ => 0), 0, 0, 0, 0, 0) ++ (ck Z a1_33_2 ((cSt0), 0, 0, (fun _ => 0), 0, 0, 0, 0, 0) ++ (ck Z a1_33_3 ((cSt0), 0, 0, (fun _ => 0), 0, 0, 0, 0, 0) ++ (ck Z a1_33_4 ((cSt0), 0, 0, (fun _ => 0), 0, 0, 0, 0, 0) ++ ck Z a1_33_5 ((cSt0), 0, 0, (fun _ => 0), 0, 0, 0, 0, 0)))))) := hD
  refine lv_iinc (v := 5) (lv' := [(1, .int 5), (0, .ref h)]) hx hb dX2_init_37 hl (k := 0) rfl (by decide) (by decide) rfl (fun ls hl => ?_)
  refine lv_goto (tgt := 15) hx hb dX2_init_40 (by decide) ?_
  refine lv_iload_n hx hb dX2_init_15 rfl (lv_at hl 0 rfl) ?_
  refine lv_aload_n hx hb dX2_init_16 rfl (lv_at hl 1 rfl) ?_
  refine va_get (D := G) (ci := 2) (v := .ref q7) (C := RX2) (T := TX2) (N := 2) hx hb hts iX2 hown hK hP 0 rfl rfl 0 (by decide) k_11 (fun _ h9 => h9) rfl dX2_init_17 ?_
  refine va_alen (v := 6) hx hb hK hP 1 2 rfl rfl rfl dX2_init_20 ?_
  refine lv_icmp_ge (tgt := 43) hx hb dX2_init_21 (by decide) (fun c21u5 => absurd c21u5 (by decide)) (fun _ => ?_)
  refine lv_aload_n hx hb dX2_init_24 rfl (lv_at hl 1 rfl) ?_
  refine va_get (D := G) (ci := 2) (v := .ref q7) (C := RX2) (T := TX2) (N := 2) hx hb hts iX2 hown hK hP 0 rfl rfl 0 (by decide) k_11 (fun _ h9 => h9) rfl dX2_init_25 ?_
  refine lv_iload_n hx hb dX2_init_28 rfl (lv_at hl 0 rfl) ?_
  refine va_new (ci := 0) (fs := [.null, .null, .null, .int 0, .int 0, .int 0, .int 0]) (C := RX0) (T := TX0) (N := 7) hx hb hts iX0 tyX0 tyX0_ok hown k_9 kin_X0 kini_X0 hK hP hD hS hA rfl (fun j hj => by rcases (show j = 0 ∨ j = 1 ∨ j = 2 ∨ j = 3 ∨ j = 4 ∨ j = 5 ∨ j = 6 by omega) with rfl | rfl | rfl | rfl | rfl | rfl | rfl <;> rfl) (Nat.le_of_ble_eq_true rfl) (Nat.le_of_ble_eq_true rfl) dX2_init_29 (fun q29_6 H hP hD hS => ?_)
  have hP : va_P G vwCl ([(h, .inr (2, [.ref q7, .int 0])), (q7, .inl (Z 2, 6, .inr (.inr (.inr (.inr (zQ [some (a1_33 0), some (a1_33_2 0), some (a1_33_3 0), some (a1_33_4 0), some (a1_33_5 0), none]))))))] ++ (ck Z a1_33 ((cSt0), 0, 0, (fun _ => 0), 0, 0, 0, 0, 0) ++ (ck Z a1_33_2 ((cSt0), 0, 0, (fun _ => 0), 0, 0, 0, 0, 0) ++ (ck Z a1_33_3 ((cSt0), 0, 0, (fun _ => 0), 0, 0, 0, 0, 0) ++ (ck Z a1_33_4 ((cSt0), 0, 0, (fun _ => 0), 0, 0, 0, 0, 0) ++ (ck Z a1_33_5 ((cSt0), 0, 0, (fun _ => 0), 0, 0, 0, 0, 0) ++ [(q29_6, .inr (0, [.null, .null, .null, .int 0, .int 0, .int 0, .int 0]))])))))) H := hP
  have hD : va_D A ([(h, .inr (2, [.ref q7, .int 0])), (q7, .inl (Z 2, 6, .inr (.inr (.inr (.inr (zQ [some (a1_33 0), some (a1_33_2 0), some (a1_33_3 0), some (a1_33_4 0), some (a1_33_5 0), none]))))))] ++ (ck Z a1_33 ((cSt0), 0, 0, (fun _ => 0), 0, 0, 0, 0, 0) ++ (ck Z a1_33_2 ((cSt0), 0, 0, (fun _ => 0), 0, 0, 0, 0, 0) ++ (ck Z a1_33_3 ((cSt0), 0, 0, (fun _ => 0), 0, 0, 0, 0, 0) ++ (ck Z a1_33_4 ((cSt0), 0, 0, (fun _ => 0), 0, 0, 0, 0, 0) ++ (ck Z a1_33_5 ((cSt0), 0, 0, (fun _ => 0), 0, 0, 0, 0, 0) ++ [(q29_6, .inr (0, [.null, .null, .null, .int 0, .int 0, .int 0, .int 0]))])))))) := hD
  refine lv_dup hx hb dX2_init_32 rfl ?_
  refine zCv (S := (Nat → Nat) × (Nat → Int32)) (ws1 := fun u => [(h, .inr (2, [.ref q7, .int 0])), (q7, .inl (Z 2, 6, .inr (.inr (.inr (.inr (zQ [some (a1_33 0), some (a1_33_2 0), some (a1_33_3 0), some (a1_33_4 0), some (a1_33_5 0), none]))))))] ++ (ck Z a1_33 ((cSt0), 0, 0, (fun _ => 0), 0, 0, 0, 0, 0) ++ (ck Z a1_33_2 ((cSt0), 0, 0, (fun _ => 0), 0, 0, 0, 0, 0) ++ (ck Z a1_33_3 ((cSt0), 0, 0, (fun _ => 0), 0, 0, 0, 0, 0) ++ (ck Z a1_33_4 ((cSt0), 0, 0, (fun _ => 0), 0, 0, 0, 0, 0) ++ (ck Z a1_33_5 ((cSt0), 0, 0, (fun _ => 0), 0, 0, 0, 0, 0) ++ ck Z u.1 (u.2, 0, 0, (fun _ => 0), 0, 0, 0, 0, 0))))))) (wr := [(h, .inr (2, [.ref q7, .int 0])), (q7, .inl (Z 2, 6, .inr (.inr (.inr (.inr (zQ [some (a1_33 0), some (a1_33_2 0), some (a1_33_3 0), some (a1_33_4 0), some (a1_33_5 0), none]))))))] ++ (ck Z a1_33 ((cSt0), 0, 0, (fun _ => 0), 0, 0, 0, 0, 0) ++ (ck Z a1_33_2 ((cSt0), 0, 0, (fun _ => 0), 0, 0, 0, 0, 0) ++ (ck Z a1_33_3 ((cSt0), 0, 0, (fun _ => 0), 0, 0, 0, 0, 0) ++ (ck Z a1_33_4 ((cSt0), 0, 0, (fun _ => 0), 0, 0, 0, 0, 0) ++ ck Z a1_33_5 ((cSt0), 0, 0, (fun _ => 0), 0, 0, 0, 0, 0)))))) (va_runIN (As := []) (rest := [.ref q29_6, .int 5, .ref q7]) ⟨hx, hb, hml, hown, hts⟩ (m_X0_init l G Z _ q29_6 0 0 0 0) (⟨va_cnB 0 hts ggX2_init_X0_init rfl rfl rfl (hSW.1.1 (.methodLinkNest RX2 17 yX0_init "WarmRods") (List.mem_of_getElem? (i := 9) rfl)) kini_X0 (by decide +kernel) ⟨Nat.le_of_ble_eq_true rfl, Nat.le_of_ble_eq_true rfl⟩, rfl, kins_X0_init⟩) (zPreS hK hP hD hS hA hSW [27] rfl (by decide)) rfl rfl hl.1 rfl (lv_room (Nat.le_of_ble_eq_true rfl)) dX2_init_33 ⟨Nat.le_of_ble_eq_true rfl, Nat.le_of_ble_eq_true rfl⟩) hP hD hS hA [27] [0, 1, 2, 3, 4, 5, 6, 7, 8, 9, 10, 11, 12, 13, 14, 15, 16, 17, 18, 19, 20, 21, 22, 23, 24, 25, 26] [0, 1, 2, 3, 4, 5, 6, 7, 8, 9, 10, 11, 12, 13, 14, 15, 16, 17, 18, 19, 20, 21, 22, 23, 24, 25, 26, 27, 28, 29, 30, 31] rfl rfl (by decide) (by decide) (by decide) (fun _ => rfl) (fun u H locs hw33_6 hP hD hS => ?_)
  obtain ⟨a1_33_6, st_33_6⟩ := u
  try dsimp only at hw33_6
  obtain ⟨hA33, rfl⟩ := hw33_6
  have hP9 := hP
  have hD9 := hD
  subst hA33
  have hP := hP9
  have hD := hD9
  have hP : va_P G vwCl ([(h, .inr (2, [.ref q7, .int 0])), (q7, .inl (Z 2, 6, .inr (.inr (.inr (.inr (zQ [some (a1_33 0), some (a1_33_2 0), some (a1_33_3 0), some (a1_33_4 0), some (a1_33_5 0), none]))))))] ++ (ck Z a1_33 ((cSt0), 0, 0, (fun _ => 0), 0, 0, 0, 0, 0) ++ (ck Z a1_33_2 ((cSt0), 0, 0, (fun _ => 0), 0, 0, 0, 0, 0) ++ (ck Z a1_33_3 ((cSt0), 0, 0, (fun _ => 0), 0, 0, 0, 0, 0) ++ (ck Z a1_33_4 ((cSt0), 0, 0, (fun _ => 0), 0, 0, 0, 0, 0) ++ (ck Z a1_33_5 ((cSt0), 0, 0, (fun _ => 0), 0, 0, 0, 0, 0) ++ ck Z a1_33_6 ((cSt0), 0, 0, (fun _ => 0), 0, 0, 0, 0, 0))))))) H := hP
  have hD : va_D A ([(h, .inr (2, [.ref q7, .int 0])), (q7, .inl (Z 2, 6, .inr (.inr (.inr (.inr (zQ [some (a1_33 0), some (a1_33_2 0), some (a1_33_3 0), some (a1_33_4 0), some (a1_33_5 0), none]))))))] ++ (ck Z a1_33 ((cSt0), 0, 0, (fun _ => 0), 0, 0, 0, 0, 0) ++ (ck Z a1_33_2 ((cSt0), 0, 0, (fun _ => 0), 0, 0, 0, 0, 0) ++ (ck Z a1_33_3 ((cSt0), 0, 0, (fun _ => 0), 0, 0, 0, 0, 0) ++ (ck Z a1_33_4 ((cSt0), 0, 0, (fun _ => 0), 0, 0, 0, 0, 0) ++ (ck Z a1_33_5 ((cSt0), 0, 0, (fun _ => 0), 0, 0, 0, 0, 0) ++ ck Z a1_33_6 ((cSt0), 0, 0, (fun _ => 0), 0, 0, 0, 0, 0))))))) := hD
  refine zAast (ci := 0) hx hb hK hP hD hS 1 2 27 rfl rfl rfl rfl rfl 5 (by decide) ⟨Nat.le_of_ble_eq_true rfl, Nat.le_of_ble_eq_true rfl⟩ (by decide) dX2_init_36 (fun H locs hP hD hS => ?_)
  have hP : va_P G vwCl ([(h, .inr (2, [.ref q7, .int 0])), (q7, .inl (Z 2, 6, .inr (.inr (.inr (.inr (zQ [some (a1_33 0), some (a1_33_2 0), some (a1_33_3 0), some (a1_33_4 0), some (a1_33_5 0), some (a1_33_6 0)]))))))] ++ (ck Z a1_33 ((cSt0), 0, 0, (fun _ => 0), 0, 0, 0, 0, 0) ++ (ck Z a1_33_2 ((cSt0), 0, 0, (fun _ => 0), 0, 0, 0, 0, 0) ++ (ck Z a1_33_3 ((cSt0), 0, 0, (fun _ => 0), 0, 0, 0, 0, 0) ++ (ck Z a1_33_4 ((cSt0), 0, 0, (fun _ => 0), 0, 0, 0, 0, 0) ++ (ck Z a1_33_5 ((cSt0), 0, 0, (fun _ => 0), 0, 0, 0, 0, 0) ++ ck Z a1_33_6 ((cSt0), 0, 0, (fun _ => 0), 0, 0, 0, 0, 0))))))) H := hP
  have hD : va_D A ([(h, .inr (2, [.ref q7, .int 0])), (q7, .inl (Z 2, 6, .inr (.inr (.inr (.inr (zQ [some (a1_33 0), some (a1_33_2 0), some (a1_33_3 0), some (a1_33_4 0), some (a1_33_5 0), some (a1_33_6 0)]))))))] ++ (ck Z a1_33 ((cSt0), 0, 0, (fun _ => 0), 0, 0, 0, 0, 0) ++ (ck Z a1_33_2 ((cSt0), 0, 0, (fun _ => 0), 0, 0, 0, 0, 0) ++ (ck Z a1_33_3 ((cSt0), 0, 0, (fun _ => 0), 0, 0, 0, 0, 0) ++ (ck Z a1_33_4 ((cSt0), 0, 0, (fun _ => 0), 0, 0, 0, 0, 0) ++ (ck Z a1_33_5 ((cSt0), 0, 0, (fun _ => 0), 0, 0, 0, 0, 0) ++ ck Z a1_33_6 ((cSt0), 0, 0, (fun _ => 0), 0, 0, 0, 0, 0))))))) := hD
  refine lv_iinc (v := 6) (lv' := [(1, .int 6), (0, .ref h)]) hx hb dX2_init_37 hl (k := 0) rfl (by decide) (by decide) rfl (fun ls hl => ?_)
  refine lv_goto (tgt := 15) hx hb dX2_init_40 (by decide) ?_
  refine lv_iload_n hx hb dX2_init_15 rfl (lv_at hl 0 rfl) ?_
  refine lv_aload_n hx hb dX2_init_16 rfl (lv_at hl 1 rfl) ?_
  refine va_get (D := G) (ci := 2) (v := .ref q7) (C := RX2) (T := TX2) (N := 2) hx hb hts iX2 hown hK hP 0 rfl rfl 0 (by decide) k_11 (fun _ h9 => h9) rfl dX2_init_17 ?_
  refine va_alen (v := 6) hx hb hK hP 1 2 rfl rfl rfl dX2_init_20 ?_
  refine lv_icmp_ge (tgt := 43) hx hb dX2_init_21 (by decide) (fun _ => ?_) (fun c21u6 => absurd (by decide) c21u6)
  refine W.widen (k := 31) (n := 2112) (by omega) (by omega) ?_
  exact W.vret hx hb hr (zEv ((fun k => match k with | 0 => h | _ => q7), (fun k => match k with | 0 => (a1_33, (cSt0, 0, 0, (fun _ => 0), 0, 0, 0, 0, 0)) | 1 => (a1_33_2, (cSt0, 0, 0, (fun _ => 0), 0, 0, 0, 0, 0)) | 2 => (a1_33_3, (cSt0, 0, 0, (fun _ => 0), 0, 0, 0, 0, 0)) | 3 => (a1_33_4, (cSt0, 0, 0, (fun _ => 0), 0, 0, 0, 0, 0)) | 4 => (a1_33_5, (cSt0, 0, 0, (fun _ => 0), 0, 0, 0, 0, 0)) | _ => (a1_33_6, (cSt0, 0, 0, (fun _ => 0), 0, 0, 0, 0, 0)))) (by
      rfl) hP hD hS) hS.2.2 dX2_init_43

set_option maxHeartbeats 4000000 in
set_option maxRecDepth 100000 in
theorem m_X6_init (l : Launch) (G : va_G) (Z : Nat → ClassId) (sz : Nat) (h : Nat) (fi : Int32)  : Met l yX6_init wsX6_init ({ frames := 3, cells := 5, slots := 351, locals := 52 }) (va_Pc [.ref h] (zWP G Z sz ([(h, .inr (6, [.null, .int fi]))]))) (va_Qv (fun (u : (Nat → Nat)) => True) (fun (u : (Nat → Nat)) t => zB G (va_A ([(h, .inr (6, [.null, .int fi]))]) sz) ([(h, .inr (6, [.ref (u 0), .int fi]))] ++ ck Z u (cSt0, 0, 0, (fun _ => 0), 0, 0, 0, 0, 0)) t) (va_A ([(h, .inr (6, [.null, .int fi]))]) sz)) 5 351 (va_A ([(h, .inr (6, [.null, .int fi]))]) sz) := by
  refine Met.ofW (cc := cX6_init) (maxL := 1) (ret := none) (by decide) rfl ?_
  intro p e s m args below meth c s₁ B hml hv
  have hx := B.exec
  have hb := B.bytes
  have hr := B.returns
  have hts := atoms_spec (ws := wsX6_init) B.pre
  have hown : s.vm.findClass RX6 = some m.cls := findClass_of_methodNamed B.named
  have hlocks := B.notSynchronized
  have hin : meth.name = "<init>" := (name_of_methodNamed B.named B.method).1
  obtain ⟨rfl, hsz, hP, hK, hD, hA, hS, hSW⟩ := zEnter hv
  subst hsz
  generalize va_A ([(h, .inr (6, [.null, .int fi]))]) s.heap.size = A at hD hA hS hSW ⊢
  have k_1 := hts (.methodLink RX6 1 objectInit) (List.mem_of_getElem? (i := 1) rfl)
  have kio := hts (.instanceMethod objectInit) (List.mem_of_getElem? (i := 2) rfl)
  have kco := hts (.code objectInit ⟨#[0xb1]⟩ 1 none) (List.mem_of_getElem? (i := 3) rfl)
  have k_7 := hts (.classLink RX6 7 RX0) (List.mem_of_getElem? (i := 4) rfl)
  have kin_X0 := hts (.instantiable RX0 7) (List.mem_of_getElem? (i := 5) rfl)
  have kini_X0 := hts (.initialized RX0) (List.mem_of_getElem? (i := 6) rfl)
  have iX0 : ∀ w ∈ u_ws RX0 TX0 7, w ∈ wsX6_init := fun _ h => List.mem_cons_of_mem _ (List.mem_append_left _ (List.mem_append_left _ (List.mem_append_left _ (List.mem_append_right _ h))))
  have kins_X0_init := hts (.instanceMethod yX0_init) (List.mem_of_getElem? (i := 8) rfl)
  have k_10 := hts (.fieldLink RX6 10 "WarmRods$Slot" "saved" "LWarmRods$Clock;") (List.mem_of_getElem? (i := 7) rfl)
  have iX6 : ∀ w ∈ u_ws RX6 TX6 2, w ∈ wsX6_init := fun _ h => List.mem_cons_of_mem _ (List.mem_append_left _ (List.mem_append_left _ (List.mem_append_right _ h)))
  have hP : va_P G vwCl ([(h, .inr (6, [.null, .int fi]))]) s.heap := hP
  have hl := lv_entry ([.ref h]) (n := 1) (Nat.le_of_ble_eq_true rfl)
  rw [lg_entry_eq]
  generalize (lg_sl ([.ref h]) ++ List.replicate (1 - (lg_sl ([.ref h])).length) Slot.unset).toArray = ls at hl ⊢
  have hl : lv_has ls 1 [(0, .ref h)] := hl
  refine lv_aload_n hx hb dX6_init_0 rfl (lv_at hl 0 rfl) ?_
  refine W.objInit hx hb hown k_1 kio kco rfl (by rw [hml]; exact hl.1) rfl dX6_init_1 (Nat.le_of_ble_eq_true rfl) (Nat.le_of_ble_eq_true rfl) ?_
  refine W.eq (g2 := F0 m 4 ls []) rfl ?_
  refine lv_aload_n hx hb dX6_init_4 rfl (lv_at hl 0 rfl) ?_
  refine va_new (ci := 0) (fs := [.null, .null, .null, .int 0, .int 0, .int 0, .int 0]) (C := RX0) (T := TX0) (N := 7) hx hb hts iX0 tyX0 tyX0_ok hown k_7 kin_X0 kini_X0 hK hP hD hS hA rfl (fun j hj => by rcases (show j = 0 ∨ j = 1 ∨ j = 2 ∨ j = 3 ∨ j = 4 ∨ j = 5 ∨ j = 6 by omega) with rfl | rfl | rfl | rfl | rfl | rfl | rfl <;> rfl) (Nat.le_of_ble_eq_true rfl) (Nat.le_of_ble_eq_true rfl) dX6_init_5 (fun q5 H hP hD hS => ?_)
  have hP : va_P G vwCl ([(h, .inr (6, [.null, .int fi])), (q5, .inr (0, [.null, .null, .null, .int 0, .int 0, .int 0, .int 0]))]) H := hP
  have hD : va_D A ([(h, .inr (6, [.null, .int fi])), (q5, .inr (0, [.null, .null, .null, .int 0, .int 0, .int 0, .int 0]))]) := hD
  refine lv_dup hx hb dX6_init_8 rfl ?_
  refine zCv (S := (Nat → Nat) × (Nat → Int32)) (ws1 := fun u => [(h, .inr (6, [.null, .int fi]))] ++ ck Z u.1 (u.2, 0, 0, (fun _ => 0), 0, 0, 0, 0, 0)) (wr := [(h, .inr (6, [.null, .int fi]))]) (va_runIN (As := []) (rest := [.ref q5, .ref h]) ⟨hx, hb, hml, hown, hts⟩ (m_X0_init l G Z _ q5 0 0 0 0) (⟨va_cnB 0 hts ggX6_init_X0_init rfl rfl rfl (hSW.1.1 (.methodLinkNest RX6 9 yX0_init "WarmRods") (List.mem_of_getElem? (i := 12) rfl)) kini_X0 (by decide +kernel) ⟨Nat.le_of_ble_eq_true rfl, Nat.le_of_ble_eq_true rfl⟩, rfl, kins_X0_init⟩) (zPreS hK hP hD hS hA hSW [1] rfl (by decide)) rfl rfl hl.1 rfl (lv_room (Nat.le_of_ble_eq_true rfl)) dX6_init_9 ⟨Nat.le_of_ble_eq_true rfl, Nat.le_of_ble_eq_true rfl⟩) hP hD hS hA [1] [0] [0, 1, 2, 3, 4, 5] rfl rfl (by decide) (by decide) (by decide) (fun _ => rfl) (fun u H locs hw9 hP hD hS => ?_)
  obtain ⟨a1_9, st_9⟩ := u
  try dsimp only at hw9
  obtain ⟨hA9, rfl⟩ := hw9
  have hP9 := hP
  have hD9 := hD
  subst hA9
  have hP := hP9
  have hD := hD9
  have hP : va_P G vwCl ([(h, .inr (6, [.null, .int fi]))] ++ ck Z a1_9 ((cSt0), 0, 0, (fun _ => 0), 0, 0, 0, 0, 0)) H := hP
  have hD : va_D A ([(h, .inr (6, [.null, .int fi]))] ++ ck Z a1_9 ((cSt0), 0, 0, (fun _ => 0), 0, 0, 0, 0, 0)) := hD
  refine va_putF (D := G) (ci := 6) (v := .ref (a1_9 0)) (ty := .object "WarmRods$Clock") (C := RX6) (T := TX6) (N := 2) hx hb hts iX6 tyX6 tyX6_ok nmX6 hown hK hP hD hS 0 rfl rfl 0 (by decide) k_10 (fun _ h9 => h9) rfl hin rfl (by decide +kernel) rfl rfl (Nat.le_of_ble_eq_true rfl) dX6_init_12 (fun H locs hP hD hS => ?_)
  have hP : va_P G vwCl ([(h, .inr (6, [.ref (a1_9 0), .int fi]))] ++ ck Z a1_9 ((cSt0), 0, 0, (fun _ => 0), 0, 0, 0, 0, 0)) H := hP
  have hD : va_D A ([(h, .inr (6, [.ref (a1_9 0), .int fi]))] ++ ck Z a1_9 ((cSt0), 0, 0, (fun _ => 0), 0, 0, 0, 0, 0)) := hD
  refine W.widen (k := 5) (n := 351) (by omega) (by omega) ?_
  exact W.vret hx hb hr (zEv a1_9 (by
      trivial) hP hD hS) hS.2.2 dX6_init_15
