set_option maxHeartbeats 4000000 in
set_option maxRecDepth 100000 in
theorem m_X4_init (l : Launch) (G : va_G) (Z : Nat → ClassId) (sz : Nat) (h : Nat)  : Met l yX4_init wsX4_init ({ frames := 1, cells := 1, slots := 80, locals := 12 }) (va_Pc [.ref h] (zWP G Z sz ([(h, .inr (4, [.null, .int 0]))]))) (va_Qv (fun (u : Nat) => True) (fun (u : Nat) t => zB G (va_A ([(h, .inr (4, [.null, .int 0]))]) sz) ([(h, .inr (4, [.ref u, .int 0])), (u, .inl (Z 1, 80, .inl (fun _ => 0)))]) t) (va_A ([(h, .inr (4, [.null, .int 0]))]) sz)) 1 80 (va_A ([(h, .inr (4, [.null, .int 0]))]) sz) := by
  refine Met.ofW (cc := cX4_init) (maxL := 1) (ret := none) (by decide) rfl ?_
  intro p e s m args below meth c s₁ B hml hv
  have hx := B.exec
  have hb := B.bytes
  have hr := B.returns
  have hts := atoms_spec (ws := wsX4_init) B.pre
  have hown : s.vm.findClass RX4 = some m.cls := findClass_of_methodNamed B.named
  have hlocks := B.notSynchronized
  have hin : meth.name = "<init>" := (name_of_methodNamed B.named B.method).1
  obtain ⟨rfl, hsz, hP, hK, hD, hA, hS, hSW⟩ := zEnter hv
  subst hsz
  generalize va_A ([(h, .inr (4, [.null, .int 0]))]) s.heap.size = A at hD hA hS hSW ⊢
  have k_3 := hts (.methodLink RX4 3 objectInit) (List.mem_of_getElem? (i := 1) rfl)
  have kio := hts (.instanceMethod objectInit) (List.mem_of_getElem? (i := 2) rfl)
  have kco := hts (.code objectInit ⟨#[0xb1]⟩ 1 none) (List.mem_of_getElem? (i := 3) rfl)
  have karr_char := hts (.arrayClass .char) (List.mem_of_getElem? (i := 4) rfl)
  have k_9 := hts (.fieldLink RX4 9 "WarmRods$Pad" "signs" "[C") (List.mem_of_getElem? (i := 5) rfl)
  have iX4 : ∀ w ∈ u_ws RX4 TX4 2, w ∈ wsX4_init := fun _ h => List.mem_cons_of_mem _ (List.mem_append_right _ h)
  have hP : va_P G vwCl ([(h, .inr (4, [.null, .int 0]))]) s.heap := hP
  have hl := lv_entry ([.ref h]) (n := 1) (Nat.le_of_ble_eq_true rfl)
  rw [lg_entry_eq]
  generalize (lg_sl ([.ref h]) ++ List.replicate (1 - (lg_sl ([.ref h])).length) Slot.unset).toArray = ls at hl ⊢
  have hl : lv_has ls 1 [(0, .ref h)] := hl
  refine lv_aload_n hx hb dX4_init_0 rfl (lv_at hl 0 rfl) ?_
  refine W.objInit hx hb hown k_3 kio kco rfl (by rw [hml]; exact hl.1) rfl dX4_init_1 (Nat.le_of_ble_eq_true rfl) (Nat.le_of_ble_eq_true rfl) ?_
  refine W.eq (g2 := F0 m 4 ls []) rfl ?_
  refine lv_aload_n hx hb dX4_init_4 rfl (lv_at hl 0 rfl) ?_
  refine lv_bipush (v := 80) hx hb dX4_init_5 (by decide) ?_
  refine zNewa (t0 := 1) (atype := .char) (ty := .char) (N' := 80) hx hb karr_char rfl hK rfl hP hD hS hA (fun _ => rfl) (by decide) (by decide) (Nat.le_of_ble_eq_true rfl) (Nat.le_of_ble_eq_true rfl) (Nat.le_of_ble_eq_true rfl) dX4_init_7 (fun q7 H hP hD hS => ?_)
  have hP : va_P G vwCl ([(h, .inr (4, [.null, .int 0])), (q7, .inl (Z 1, 80, .inl (fun _ => 0)))]) H := hP
  have hD : va_D A ([(h, .inr (4, [.null, .int 0])), (q7, .inl (Z 1, 80, .inl (fun _ => 0)))]) := hD
  refine va_putF (D := G) (ci := 4) (v := .ref q7) (ty := .array .char) (C := RX4) (T := TX4) (N := 2) hx hb hts iX4 tyX4 tyX4_ok nmX4 hown hK hP hD hS 0 rfl rfl 0 (by decide) k_9 (fun _ h9 => h9) rfl hin rfl (by decide +kernel) rfl rfl (Nat.le_of_ble_eq_true rfl) dX4_init_9 (fun H locs hP hD hS => ?_)
  have hP : va_P G vwCl ([(h, .inr (4, [.ref q7, .int 0])), (q7, .inl (Z 1, 80, .inl (fun _ => 0)))]) H := hP
  have hD : va_D A ([(h, .inr (4, [.ref q7, .int 0])), (q7, .inl (Z 1, 80, .inl (fun _ => 0)))]) := hD
  refine W.widen (k := 1) (n := 80) (by omega) (by omega) ?_
  exact W.vret hx hb hr (zEv q7 (by
      trivial) hP hD hS) hS.2.2 dX4_init_12

set_option maxHeartbeats 4000000 in
set_option maxRecDepth 100000 in
theorem m_X4_append (l : Launch) (G : va_G) (Z : Nat → ClassId) (sz : Nat) (h : Nat) (f : Nat) (si : Nat → Int32) (le : Nat) (x : Int32) (hle : le < 80) : Met l yX4_append wsX4_append ({ frames := 0, cells := 0, slots := 0, locals := 0 }) (va_Pc [.ref h, .int x] (zWP G Z sz ([(h, .inr (4, [.ref f, .int (nI le)])), (f, .inl (Z 1, 80, .inl si))]))) (va_Qv (fun (u : (Nat → Int32)) => u = upd si le (vp_nar .char x)) (fun (u : (Nat → Int32)) t => zB G (va_A ([(h, .inr (4, [.ref f, .int (nI le)])), (f, .inl (Z 1, 80, .inl si))]) sz) ([(h, .inr (4, [.ref f, .int (nI (le + 1))])), (f, .inl (Z 1, 80, .inl u))]) t) (va_A ([(h, .inr (4, [.ref f, .int (nI le)])), (f, .inl (Z 1, 80, .inl si))]) sz)) 0 0 (va_A ([(h, .inr (4, [.ref f, .int (nI le)])), (f, .inl (Z 1, 80, .inl si))]) sz) := by
  refine Met.ofW (cc := cX4_append) (maxL := 2) (ret := none) (by decide) rfl ?_
  intro p e s m args below meth c s₁ B hml hv
  have hx := B.exec
  have hb := B.bytes
  have hr := B.returns
  have hts := atoms_spec (ws := wsX4_append) B.pre
  have hown : s.vm.findClass RX4 = some m.cls := findClass_of_methodNamed B.named
  have hlocks := B.notSynchronized
  obtain ⟨rfl, hsz, hP, hK, hD, hA, hS, hSW⟩ := zEnter hv
  subst hsz
  generalize va_A ([(h, .inr (4, [.ref f, .int (nI le)])), (f, .inl (Z 1, 80, .inl si))]) s.heap.size = A at hD hA hS hSW ⊢
  have k_15 := hts (.fieldLink RX4 15 "WarmRods$Pad" "length" "I") (List.mem_of_getElem? (i := 1) rfl)
  have iX4 : ∀ w ∈ u_ws RX4 TX4 2, w ∈ wsX4_append := fun _ h => List.mem_cons_of_mem _ (List.mem_append_right _ h)
  have k_9 := hts (.fieldLink RX4 9 "WarmRods$Pad" "signs" "[C") (List.mem_of_getElem? (i := 2) rfl)
  have hP : va_P G vwCl ([(h, .inr (4, [.ref f, .int (nI le)])), (f, .inl (Z 1, 80, .inl si))]) s.heap := hP
  have hl := lv_entry ([.ref h, .int x]) (n := 2) (Nat.le_of_ble_eq_true rfl)
  rw [lg_entry_eq]
  generalize (lg_sl ([.ref h, .int x]) ++ List.replicate (2 - (lg_sl ([.ref h, .int x])).length) Slot.unset).toArray = ls at hl ⊢
  have hl : lv_has ls 2 [(0, .ref h), (1, .int x)] := hl
  refine lv_aload_n hx hb dX4_append_0 rfl (lv_at hl 0 rfl) ?_
  refine va_get (D := G) (ci := 4) (v := .int (nI le)) (C := RX4) (T := TX4) (N := 2) hx hb hts iX4 hown hK hP 0 rfl rfl 1 (by decide) k_15 (fun _ h9 => h9) rfl dX4_append_1 ?_
  refine lv_if_lt (tgt := 39) hx hb dX4_append_4 (by decide) (fun c4 => (nI_pos (by omega) c4).elim) (fun c4 => ?_)
  refine lv_aload_n hx hb dX4_append_7 rfl (lv_at hl 0 rfl) ?_
  refine va_get (D := G) (ci := 4) (v := .int (nI le)) (C := RX4) (T := TX4) (N := 2) hx hb hts iX4 hown hK hP 0 rfl rfl 1 (by decide) k_15 (fun _ h9 => h9) rfl dX4_append_8 ?_
  refine lv_aload_n hx hb dX4_append_11 rfl (lv_at hl 0 rfl) ?_
  refine va_get (D := G) (ci := 4) (v := .ref f) (C := RX4) (T := TX4) (N := 2) hx hb hts iX4 hown hK hP 0 rfl rfl 0 (by decide) k_9 (fun _ h9 => h9) rfl dX4_append_12 ?_
  refine va_alen (v := 80) hx hb hK hP 1 1 rfl rfl rfl dX4_append_15 ?_
  refine lv_icmp_ge (tgt := 39) hx hb dX4_append_16 (by decide) (fun c16 => (show False from by have := zLe (a := 80) c16 (by omega) (by omega); omega).elim) (fun c16 => ?_)
  refine lv_aload_n hx hb dX4_append_19 rfl (lv_at hl 0 rfl) ?_
  refine va_get (D := G) (ci := 4) (v := .ref f) (C := RX4) (T := TX4) (N := 2) hx hb hts iX4 hown hK hP 0 rfl rfl 0 (by decide) k_9 (fun _ h9 => h9) rfl dX4_append_20 ?_
  refine lv_aload_n hx hb dX4_append_23 rfl (lv_at hl 0 rfl) ?_
  refine va_get (D := G) (ci := 4) (v := .int (nI le)) (C := RX4) (T := TX4) (N := 2) hx hb hts iX4 hown hK hP 0 rfl rfl 1 (by decide) k_15 (fun _ h9 => h9) rfl dX4_append_24 ?_
  refine lv_iload_n hx hb dX4_append_27 rfl (lv_at hl 1 rfl) ?_
  refine zCast (f := si) hx hb hK hP hD hS 1 1 rfl rfl le (rfl) (by omega) (by decide) dX4_append_28 (fun H locs hP hD hS => ?_)
  have hP : va_P G vwCl ([(h, .inr (4, [.ref f, .int (nI le)])), (f, .inl (Z 1, 80, .inl (upd si le (vp_nar .char x))))]) H := hP
  have hD : va_D A ([(h, .inr (4, [.ref f, .int (nI le)])), (f, .inl (Z 1, 80, .inl (upd si le (vp_nar .char x))))]) := hD
  refine lv_aload_n hx hb dX4_append_29 rfl (lv_at hl 0 rfl) ?_
  refine lv_dup hx hb dX4_append_30 rfl ?_
  refine va_get (D := G) (ci := 4) (v := .int (nI le)) (C := RX4) (T := TX4) (N := 2) hx hb hts iX4 hown hK hP 0 rfl rfl 1 (by decide) k_15 (fun _ h9 => h9) rfl dX4_append_31 ?_
  refine lv_iconst (v := 1) hx hb dX4_append_34 (by decide) ?_
  refine lv_iadd hx hb dX4_append_35 ?_
  refine zTopI (y := (nI (le + 1))) (nI_succ le).symm ?_
  refine va_put (D := G) (ci := 4) (v := .int (nI (le + 1))) (ty := .int) (C := RX4) (T := TX4) (N := 2) hx hb hts iX4 tyX4 tyX4_ok nmX4 hown hK hP hD hS 0 rfl rfl 1 (by decide) k_15 (fun _ h9 => h9) rfl (by decide +kernel) rfl rfl (Nat.le_of_ble_eq_true rfl) dX4_append_36 (fun H locs hP hD hS => ?_)
  have hP : va_P G vwCl ([(h, .inr (4, [.ref f, .int (nI (le + 1))])), (f, .inl (Z 1, 80, .inl (upd si le (vp_nar .char x))))]) H := hP
  have hD : va_D A ([(h, .inr (4, [.ref f, .int (nI (le + 1))])), (f, .inl (Z 1, 80, .inl (upd si le (vp_nar .char x))))]) := hD
  exact W.vret hx hb hr (zEv (upd si le (vp_nar .char x)) (by
      rfl) hP hD hS) hS.2.2 dX4_append_39

set_option maxHeartbeats 4000000 in
set_option maxRecDepth 100000 in
theorem m_X4_signAt (l : Launch) (G : va_G) (Z : Nat → ClassId) (sz : Nat) (h : Nat) (f : Nat) (si : Nat → Int32) (le : Nat) (pp : Nat) (hp : pp ≤ 80) (hle : le ≤ 80) : Met l yX4_signAt wsX4_signAt ({ frames := 0, cells := 0, slots := 0, locals := 0 }) (va_Pc [.ref h, .int (nI pp)] (zWP G Z sz ([(h, .inr (4, [.ref f, .int (nI le)])), (f, .inl (Z 1, 80, .inl si))]))) (va_Qi (fun (r : Int32) (u : Unit) => r = pSign si le pp) (fun (u : Unit) t => zB G (va_A ([(h, .inr (4, [.ref f, .int (nI le)])), (f, .inl (Z 1, 80, .inl si))]) sz) ([(h, .inr (4, [.ref f, .int (nI le)])), (f, .inl (Z 1, 80, .inl si))]) t) (va_A ([(h, .inr (4, [.ref f, .int (nI le)])), (f, .inl (Z 1, 80, .inl si))]) sz)) 0 0 (va_A ([(h, .inr (4, [.ref f, .int (nI le)])), (f, .inl (Z 1, 80, .inl si))]) sz) := by
  refine Met.ofW (cc := cX4_signAt) (maxL := 2) (ret := (some .int)) (by decide) rfl ?_
  intro p e s m args below meth c s₁ B hml hv
  have hx := B.exec
  have hb := B.bytes
  have hr := B.returns
  have hts := atoms_spec (ws := wsX4_signAt) B.pre
  have hown : s.vm.findClass RX4 = some m.cls := findClass_of_methodNamed B.named
  have hlocks := B.notSynchronized
  obtain ⟨rfl, hsz, hP, hK, hD, hA, hS, hSW⟩ := zEnter hv
  subst hsz
  generalize va_A ([(h, .inr (4, [.ref f, .int (nI le)])), (f, .inl (Z 1, 80, .inl si))]) s.heap.size = A at hD hA hS hSW ⊢
  have k_15 := hts (.fieldLink RX4 15 "WarmRods$Pad" "length" "I") (List.mem_of_getElem? (i := 1) rfl)
  have iX4 : ∀ w ∈ u_ws RX4 TX4 2, w ∈ wsX4_signAt := fun _ h => List.mem_cons_of_mem _ (List.mem_append_right _ h)
  have k_9 := hts (.fieldLink RX4 9 "WarmRods$Pad" "signs" "[C") (List.mem_of_getElem? (i := 2) rfl)
  have hP : va_P G vwCl ([(h, .inr (4, [.ref f, .int (nI le)])), (f, .inl (Z 1, 80, .inl si))]) s.heap := hP
  have hl := lv_entry ([.ref h, .int (nI pp)]) (n := 2) (Nat.le_of_ble_eq_true rfl)
  rw [lg_entry_eq]
  generalize (lg_sl ([.ref h, .int (nI pp)]) ++ List.replicate (2 - (lg_sl ([.ref h, .int (nI pp)])).length) Slot.unset).toArray = ls at hl ⊢
  have hl : lv_has ls 2 [(0, .ref h), (1, .int (nI pp))] := hl
  refine lv_iload_n hx hb dX4_signAt_0 rfl (lv_at hl 1 rfl) ?_
  refine lv_if_lt (tgt := 30) hx hb dX4_signAt_1 (by decide) (fun c1 => (nI_pos (by omega) c1).elim) (fun c1 => ?_)
  refine lv_iload_n hx hb dX4_signAt_4 rfl (lv_at hl 1 rfl) ?_
  refine lv_aload_n hx hb dX4_signAt_5 rfl (lv_at hl 0 rfl) ?_
  refine va_get (D := G) (ci := 4) (v := .int (nI le)) (C := RX4) (T := TX4) (N := 2) hx hb hts iX4 hown hK hP 0 rfl rfl 1 (by decide) k_15 (fun _ h9 => h9) rfl dX4_signAt_6 ?_
  refine lv_icmp_ge (tgt := 30) hx hb dX4_signAt_9 (by decide) (fun c9 => ?_) (fun c9 => ?_)
  · refine lv_iconst (v := 0) hx hb dX4_signAt_30 (by decide) ?_
    exact W.iret hx hb hr (zEi () (by
        rw [pSign, if_pos (zLe c9 (by omega) (by omega))]) hP hD hS) hS.2.2 dX4_signAt_31
  · refine lv_iload_n hx hb dX4_signAt_12 rfl (lv_at hl 1 rfl) ?_
    refine lv_aload_n hx hb dX4_signAt_13 rfl (lv_at hl 0 rfl) ?_
    refine va_get (D := G) (ci := 4) (v := .ref f) (C := RX4) (T := TX4) (N := 2) hx hb hts iX4 hown hK hP 0 rfl rfl 0 (by decide) k_9 (fun _ h9 => h9) rfl dX4_signAt_14 ?_
    refine va_alen (v := 80) hx hb hK hP 1 1 rfl rfl rfl dX4_signAt_17 ?_
    refine lv_icmp_ge (tgt := 30) hx hb dX4_signAt_18 (by decide) (fun c18 => ?_) (fun c18 => ?_)
    · refine lv_iconst (v := 0) hx hb dX4_signAt_30 (by decide) ?_
      exact W.iret hx hb hr (zEi () (by
          have h1 := zNle c9 (by omega) (by omega)
          rw [pSign, if_neg (by omega), if_pos (zLe (a := 80) c18 (by omega) (by omega))]) hP hD hS) hS.2.2 dX4_signAt_31
    · refine lv_aload_n hx hb dX4_signAt_21 rfl (lv_at hl 0 rfl) ?_
      refine va_get (D := G) (ci := 4) (v := .ref f) (C := RX4) (T := TX4) (N := 2) hx hb hts iX4 hown hK hP 0 rfl rfl 0 (by decide) k_9 (fun _ h9 => h9) rfl dX4_signAt_22 ?_
      refine lv_iload_n hx hb dX4_signAt_25 rfl (lv_at hl 1 rfl) ?_
      refine zCald (f := si) hx hb hK hP 1 1 rfl rfl pp (rfl) (by have := zNle (a := 80) c18 (by omega) (by omega); omega) (by decide) dX4_signAt_26 ?_
      refine lv_goto (tgt := 31) hx hb dX4_signAt_27 (by decide) ?_
      exact W.iret hx hb hr (zEi () (by
          have h1 := zNle c9 (by omega) (by omega)
          have h2 := zNle (a := 80) c18 (by omega) (by omega)
          rw [pSign, if_neg (by omega), if_neg (by omega)]) hP hD hS) hS.2.2 dX4_signAt_31

set_option maxHeartbeats 4000000 in
set_option maxRecDepth 100000 in
theorem m_X5_isDigit (l : Launch) (G : va_G) (Z : Nat → ClassId) (sz : Nat) (x : Int32)  : Met l yX5_isDigit wsX5_isDigit ({ frames := 0, cells := 0, slots := 0, locals := 0 }) (va_Pc [.int x] (zWP G Z sz ([]))) (va_Qi (fun (r : Int32) (u : Unit) => r = pDig x) (fun (u : Unit) t => zB G (va_A ([]) sz) ([]) t) (va_A ([]) sz)) 0 0 (va_A ([]) sz) := by
  refine Met.ofW (cc := cX5_isDigit) (maxL := 1) (ret := (some .boolean)) (by decide) rfl ?_
  intro p e s m args below meth c s₁ B hml hv
  have hx := B.exec
  have hb := B.bytes
  have hr := B.returns
  have hts := atoms_spec (ws := wsX5_isDigit) B.pre
  have hown : s.vm.findClass RX5 = some m.cls := findClass_of_methodNamed B.named
  have hlocks := B.notSynchronized
  obtain ⟨rfl, hsz, hP, hK, hD, hA, hS, hSW⟩ := zEnter hv
  subst hsz
  generalize va_A ([]) s.heap.size = A at hD hA hS hSW ⊢
  have hP : va_P G vwCl ([]) s.heap := hP
  have hl := lv_entry ([.int x]) (n := 1) (Nat.le_of_ble_eq_true rfl)
  rw [lg_entry_eq]
  generalize (lg_sl ([.int x]) ++ List.replicate (1 - (lg_sl ([.int x])).length) Slot.unset).toArray = ls at hl ⊢
  have hl : lv_has ls 1 [(0, .int x)] := hl
  refine lv_iload_n hx hb dX5_isDigit_0 rfl (lv_at hl 0 rfl) ?_
  refine lv_bipush (v := 48) hx hb dX5_isDigit_1 (by decide) ?_
  refine lv_icmp_lt (tgt := 16) hx hb dX5_isDigit_3 (by decide) (fun c3 => ?_) (fun c3 => ?_)
  · refine lv_iconst (v := 0) hx hb dX5_isDigit_16 (by decide) ?_
    exact W.zret hx hb hr (rfl) (zEi () (by
        simp only [pDig, c3, Int32.not_le.mpr c3, ↓reduceIte]) hP hD hS) hS.2.2 dX5_isDigit_17
  · refine lv_iload_n hx hb dX5_isDigit_6 rfl (lv_at hl 0 rfl) ?_
    refine lv_bipush (v := 57) hx hb dX5_isDigit_7 (by decide) ?_
    refine lv_icmp_gt (tgt := 16) hx hb dX5_isDigit_9 (by decide) (fun c9 => ?_) (fun c9 => ?_)
    · refine lv_iconst (v := 0) hx hb dX5_isDigit_16 (by decide) ?_
      exact W.zret hx hb hr (rfl) (zEi () (by
          simp only [pDig, c3, Int32.not_lt.mp c3, c9, Int32.not_le.mpr c9, ↓reduceIte]) hP hD hS) hS.2.2 dX5_isDigit_17
    · refine lv_iconst (v := 1) hx hb dX5_isDigit_12 (by decide) ?_
      refine lv_goto (tgt := 17) hx hb dX5_isDigit_13 (by decide) ?_
      exact W.zret hx hb hr (rfl) (zEi () (by
          simp only [pDig, c3, Int32.not_lt.mp c3, c9, Int32.not_lt.mp c9, ↓reduceIte]) hP hD hS) hS.2.2 dX5_isDigit_17

set_option maxHeartbeats 4000000 in
set_option maxRecDepth 100000 in
theorem m_X5_start (l : Launch) (G : va_G) (Z : Nat → ClassId) (sz : Nat) (a : Nat → Nat) (si : Nat → Int32) (le : Nat) (pp : Nat) (nu : Int32) (od : Int32) (va : Int32) (ai : Int32) (rd : Int32) (hh : Int32)  : Met l yX5_start wsX5_start ({ frames := 0, cells := 0, slots := 0, locals := 0 }) (va_Pc [.ref (a 0)] (zWP G Z sz (rk Z a (si, le, pp, nu, od, va, ai, rd, hh)))) (va_Qv (fun (u : Unit) => True) (fun (u : Unit) t => zB G (va_A (rk Z a (si, le, pp, nu, od, va, ai, rd, hh)) sz) (rk Z a (si, le, 0, nu, od, va, ai, rd, hh)) t) (va_A (rk Z a (si, le, pp, nu, od, va, ai, rd, hh)) sz)) 0 0 (va_A (rk Z a (si, le, pp, nu, od, va, ai, rd, hh)) sz) := by
  refine Met.ofW (cc := cX5_start) (maxL := 1) (ret := none) (by decide) rfl ?_
  intro p e s m args below meth c s₁ B hml hv
  have hx := B.exec
  have hb := B.bytes
  have hr := B.returns
  have hts := atoms_spec (ws := wsX5_start) B.pre
  have hown : s.vm.findClass RX5 = some m.cls := findClass_of_methodNamed B.named
  have hlocks := B.notSynchronized
  obtain ⟨rfl, hsz, hP, hK, hD, hA, hS, hSW⟩ := zEnter hv
  subst hsz
  generalize va_A (rk Z a (si, le, pp, nu, od, va, ai, rd, hh)) s.heap.size = A at hD hA hS hSW ⊢
  have k_18 := hts (.fieldLink RX5 18 "WarmRods$Reader" "place" "I") (List.mem_of_getElem? (i := 1) rfl)
  have iX5 : ∀ w ∈ u_ws RX5 TX5 8, w ∈ wsX5_start := fun _ h => List.mem_cons_of_mem _ (List.mem_append_right _ h)
  have hP : va_P G vwCl (rk Z a (si, le, pp, nu, od, va, ai, rd, hh)) s.heap := hP
  have hl := lv_entry ([.ref (a 0)]) (n := 1) (Nat.le_of_ble_eq_true rfl)
  rw [lg_entry_eq]
  generalize (lg_sl ([.ref (a 0)]) ++ List.replicate (1 - (lg_sl ([.ref (a 0)])).length) Slot.unset).toArray = ls at hl ⊢
  have hl : lv_has ls 1 [(0, .ref (a 0))] := hl
  refine lv_aload_n hx hb dX5_start_0 rfl (lv_at hl 0 rfl) ?_
  refine lv_iconst (v := 0) hx hb dX5_start_1 (by decide) ?_
  refine va_put (D := G) (ci := 5) (v := .int 0) (ty := .int) (C := RX5) (T := TX5) (N := 8) hx hb hts iX5 tyX5 tyX5_ok nmX5 hown hK hP hD hS 0 rfl rfl 1 (by decide) k_18 (fun _ h9 => h9) rfl (by decide +kernel) rfl rfl (Nat.le_of_ble_eq_true rfl) dX5_start_2 (fun H locs hP hD hS => ?_)
  have hP : va_P G vwCl (rk Z a (si, le, 0, nu, od, va, ai, rd, hh)) H := hP
  have hD : va_D A (rk Z a (si, le, 0, nu, od, va, ai, rd, hh)) := hD
  exact W.vret hx hb hr (zEv () (by
      trivial) hP hD hS) hS.2.2 dX5_start_5

set_option maxHeartbeats 4000000 in
set_option maxRecDepth 100000 in
theorem m_X5_readSign (l : Launch) (G : va_G) (Z : Nat → ClassId) (sz : Nat) (a : Nat → Nat) (si : Nat → Int32) (le : Nat) (pp : Nat) (nu : Int32) (od : Int32) (va : Int32) (ai : Int32) (rd : Int32) (hh : Int32) (ch : Int32) (hp : pp ≤ 80) (hle : le ≤ 80) : Met l yX5_readSign wsX5_readSign ({ frames := 1, cells := 0, slots := 0, locals := 21 }) (va_Pc [.ref (a 0), .int ch] (zWP G Z sz (rk Z a (si, le, pp, nu, od, va, ai, rd, hh)))) (va_Qi (fun (r : Int32) (u : Nat) => r = rSgR si le pp ch ∧ u = rSgP si le pp ch) (fun (u : Nat) t => zB G (va_A (rk Z a (si, le, pp, nu, od, va, ai, rd, hh)) sz) (rk Z a (si, le, u, nu, od, va, ai, rd, hh)) t) (va_A (rk Z a (si, le, pp, nu, od, va, ai, rd, hh)) sz)) 0 0 (va_A (rk Z a (si, le, pp, nu, od, va, ai, rd, hh)) sz) := by
  refine Met.ofW (cc := cX5_readSign) (maxL := 2) (ret := (some .boolean)) (by decide) rfl ?_
  intro p e s m args below meth c s₁ B hml hv
  have hx := B.exec
  have hb := B.bytes
  have hr := B.returns
  have hts := atoms_spec (ws := wsX5_readSign) B.pre
  have hown : s.vm.findClass RX5 = some m.cls := findClass_of_methodNamed B.named
  have hlocks := B.notSynchronized
  obtain ⟨rfl, hsz, hP, hK, hD, hA, hS, hSW⟩ := zEnter hv
  subst hsz
  generalize va_A (rk Z a (si, le, pp, nu, od, va, ai, rd, hh)) s.heap.size = A at hD hA hS hSW ⊢
  have k_12 := hts (.fieldLink RX5 12 "WarmRods$Reader" "pad" "LWarmRods$Pad;") (List.mem_of_getElem? (i := 1) rfl)
  have iX5 : ∀ w ∈ u_ws RX5 TX5 8, w ∈ wsX5_readSign := fun _ h => List.mem_cons_of_mem _ (List.mem_append_left _ (List.mem_append_right _ h))
  have k_18 := hts (.fieldLink RX5 18 "WarmRods$Reader" "place" "I") (List.mem_of_getElem? (i := 2) rfl)
  have hP : va_P G vwCl (rk Z a (si, le, pp, nu, od, va, ai, rd, hh)) s.heap := hP
  have hl := lv_entry ([.ref (a 0), .int ch]) (n := 2) (Nat.le_of_ble_eq_true rfl)
  rw [lg_entry_eq]
  generalize (lg_sl ([.ref (a 0), .int ch]) ++ List.replicate (2 - (lg_sl ([.ref (a 0), .int ch])).length) Slot.unset).toArray = ls at hl ⊢
  have hl : lv_has ls 2 [(0, .ref (a 0)), (1, .int ch)] := hl
  refine lv_aload_n hx hb dX5_readSign_0 rfl (lv_at hl 0 rfl) ?_
  refine va_get (D := G) (ci := 5) (v := .ref (a 1)) (C := RX5) (T := TX5) (N := 8) hx hb hts iX5 hown hK hP 0 rfl rfl 0 (by decide) k_12 (fun _ h9 => h9) rfl dX5_readSign_1 ?_
  refine lv_aload_n hx hb dX5_readSign_4 rfl (lv_at hl 0 rfl) ?_
  refine va_get (D := G) (ci := 5) (v := .int (nI pp)) (C := RX5) (T := TX5) (N := 8) hx hb hts iX5 hown hK hP 0 rfl rfl 1 (by decide) k_18 (fun _ h9 => h9) rfl dX5_readSign_5 ?_
  refine zCi (S := Unit) (ws1 := fun u => rk Z a (si, le, pp, nu, od, va, ai, rd, hh)) (wr := [((a 0), .inr (5, [.ref (a 1), .int (nI pp), .int nu, .int od, .int va, .int ai, .int rd, .int hh]))]) (va_runV (As := [.int (nI pp)]) (rest := []) ⟨hx, hb, hml, hown, hts⟩ (m_X4_signAt l G Z _ (a 1) (a 2) si le pp (by
      omega) (by
      omega)) (cwV 1 hts gX5_readSign_X4_signAt rfl rfl rfl (by decide +kernel) ⟨Nat.le_of_ble_eq_true rfl, Nat.le_of_ble_eq_true rfl⟩) (zPreV hK hP hD hS hA hSW [1, 2] rfl (by decide) 1 (ci := 4) rfl rfl rfl) rfl rfl hl.1 rfl (lv_room (Nat.le_of_ble_eq_true rfl)) dX5_readSign_8 ⟨Nat.le_of_ble_eq_true rfl, Nat.le_of_ble_eq_true rfl⟩) hP hD hS hA [1, 2] [0] [0, 1, 2] rfl rfl (by decide) (by decide) (by decide) (fun _ => rfl) (fun r8 u H locs hw8 hP hD hS => ?_)
  try dsimp only at hw8
  subst hw8
  have hP : va_P G vwCl (rk Z a (si, le, pp, nu, od, va, ai, rd, hh)) H := hP
  have hD : va_D A (rk Z a (si, le, pp, nu, od, va, ai, rd, hh)) := hD
  refine lv_iload_n hx hb dX5_readSign_11 rfl (lv_at hl 1 rfl) ?_
  refine lv_icmp_eq (tgt := 17) hx hb dX5_readSign_12 (by decide) (fun c12 => ?_) (fun c12 => ?_)
  · refine lv_aload_n hx hb dX5_readSign_17 rfl (lv_at hl 0 rfl) ?_
    refine lv_dup hx hb dX5_readSign_18 rfl ?_
    refine va_get (D := G) (ci := 5) (v := .int (nI pp)) (C := RX5) (T := TX5) (N := 8) hx hb hts iX5 hown hK hP 0 rfl rfl 1 (by decide) k_18 (fun _ h9 => h9) rfl dX5_readSign_19 ?_
    refine lv_iconst (v := 1) hx hb dX5_readSign_22 (by decide) ?_
    refine lv_iadd hx hb dX5_readSign_23 ?_
    refine zTopI (y := (nI (pp + 1))) (nI_succ pp).symm ?_
    refine va_put (D := G) (ci := 5) (v := .int (nI (pp + 1))) (ty := .int) (C := RX5) (T := TX5) (N := 8) hx hb hts iX5 tyX5 tyX5_ok nmX5 hown hK hP hD hS 0 rfl rfl 1 (by decide) k_18 (fun _ h9 => h9) rfl (by decide +kernel) rfl rfl (Nat.le_of_ble_eq_true rfl) dX5_readSign_24 (fun H locs hP hD hS => ?_)
    have hP : va_P G vwCl (rk Z a (si, le, (pp + 1), nu, od, va, ai, rd, hh)) H := hP
    have hD : va_D A (rk Z a (si, le, (pp + 1), nu, od, va, ai, rd, hh)) := hD
    refine lv_iconst (v := 1) hx hb dX5_readSign_27 (by decide) ?_
    exact W.zret hx hb hr (rfl) (zEi (pp + 1) (by
        simp only [rSgR, rSgP, eq_true c12, ↓reduceIte, and_self]) hP hD hS) hS.2.2 dX5_readSign_28
  · refine lv_iconst (v := 0) hx hb dX5_readSign_15 (by decide) ?_
    exact W.zret hx hb hr (rfl) (zEi pp (by
        simp only [rSgR, rSgP, c12, ↓reduceIte, and_self]) hP hD hS) hS.2.2 dX5_readSign_16
