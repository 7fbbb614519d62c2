set_option maxHeartbeats 4000000 in
set_option maxRecDepth 100000 in
theorem m_X4_init (l : Launch) (G : va_G) (Z : Nat → ClassId) (sz : Nat) (h : Nat)  : Met l yX4_init wsX4_init ({ frames := 1, cells := 1, slots := 80, locals := 12 }) (va_Pc [.ref h] (zWP G Z sz ([(h, .inr (4, [.null, .int 0]))]))) (va_Qv (fun (u : Nat) => True) (fun (u : Nat) t => zB G (va_A ([(h, .inr (4, [.null, .int 0]))]) sz) ([(h, .inr (4, [.ref u, .int 0])), (u, .inl (Z 1, 80, .inl (fun _ => 0)))]) t) (va_A ([(h, .inr (4, [.null, .int 0]))]) sz)) 1 80 (va_A ([(h, .inr (4, [.null, .int 0]))]) sz) := by
  refine Met.ofW (cc := cX4_init) (maxL := 1) (ret := none) (by decide) rfl ?_
  intro p e s m args below meth c s₁ B hml hv
  have hx := B.exec
  have hb := B.bytes
  have hr := B.returns
  have hts := atoms_spec (ws := wsX4_init) B.pre
  have hown : s.vm.findClass RX4 = some m.cls := findClass_of_methodNamed B.named
  have hlocks := B.notSynchronized
  have hin : meth.name = "<init>" := (name_of_methodNamed B.named B.method).1
  obtain ⟨rfl, hsz, hP, hK, hD, hA, hS, hSW⟩ := zEnter hv
  subst hsz
  generalize va_A ([(h, .inr (4, [.null, .int 0]))]) s.heap.size = A at hD hA hS hSW ⊢
  have k_3 := hts (.methodLink RX4 3 objectInit) (List.mem_of_getElem? (i := 1) rfl)
  have kio := hts (.instanceMethod objectInit) (List.mem_of_getElem? (i := 2) rfl)
  have kco := hts (.code objectInit ⟨#[0xb1]⟩ 1 none) (List.mem_of_getElem? (i := 3) rfl)
  have karr_char := hts (.arrayClass .char) (List.mem_of_getElem? (i := 4) rfl)
  have k_9 := hts (.fieldLink RX4 9 "WarmRods$Pad" "signs" "[C") (List.mem_of_getElem? (i := 5) rfl)
  have iX4 : ∀ w ∈ u_ws RX4 TX4 2, w ∈ wsX4_init := fun _ h => List.mem_cons_of_mem _ (List.mem_append_right _ h)
  have hP : va_P G vwCl ([(h, .inr (4, [.null, .int 0]))]) s.heap := hP
  have hl := lv_entry ([.ref h]) (n := 1) (Nat.le_of_ble_eq_true rfl)
  rw [lg_entry_eq]
  generalize (lg_sl ([.ref h]) ++ List.replicate (1 - (lg_sl ([.ref h])).length) Slot.unset).toArray = ls at hl ⊢
  have hl : lv_has ls 1 [(0, .ref h)] := hl
  refine lv_aload_n hx hb dX4_init_0 rfl (lv_at hl 0 rfl) ?_
  refine W.objInit hx hb hown k_3 kio kco rfl (by rw [hml]; exact hl.1) rfl dX4_init_1 (Nat.le_of_ble_eq_true rfl) (Nat.le_of_ble_eq_true rfl) ?_
  refine W.eq (g2 := F0 m 4 ls []) rfl ?_
  refine lv_aload_n hx hb dX4_init_4 rfl (lv_at hl 0 rfl) ?_
  refine lv_bipush (v := 80) hx hb dX4_init_5 (by decide) ?_
  refine zNewa (t0 := 1) (atype := .char) (ty := .char) (N' := 80) hx hb karr_char rfl hK rfl hP hD hS hA (fun _ => rfl) (by decide) (by decide) (Nat.le_of_ble_eq_true rfl) (Nat.le_of_ble_eq_true rfl) (Nat.le_of_ble_eq_true rfl) dX4_init_7 (fun q7 H hP hD hS => ?_)
  have hP : va_P G vwCl ([(h, .inr (4, [.null, .int 0])), (q7, .inl (Z 1, 80, .inl (fun _ => 0)))]) H := hP
  have hD : va_D A ([(h, .inr (4, [.null, .int 0])), (q7, .inl (Z 1, 80, .inl (fun _ => 0)))]) := hD
  refine va_putF (D := G) (ci := 4) (v := .ref q7) (ty := .array .char) (C := RX4) (T := TX4) (N := 2) hx hb hts iX4 tyX4 tyX4_ok nmX4 hown hK hP hD hS 0 rfl rfl 0 (by decide) k_9 (fun _ h9 => h9) rfl hin rfl (by decide +kernel) rfl rfl (Nat.le_of_ble_eq_true rfl) dX4_init_9 (fun H locs hP hD hS => ?_)
  have hP : va_P G vwCl ([(h, .inr (4, [.ref q7, .int 0])), (q7, .inl (Z 1, 80, .inl (fun _ => 0)))]) H := hP
  have hD : va_D A ([(h, .inr (4, [.ref q7, .int 0])), (q7, .inl (Z 1, 80, .inl (fun _ => 0)))]) := hD
  refine W.widen (k := 1) (n := 80) (by omega) (by omega) ?_
  exact W.vret hx hb hr (zEv q7 (by
      trivial) hP hD hS) hS.2.2 dX4_init_12

set_option maxHeartbeats 4000000 in
set_option maxRecDepth 100000 in
theorem m_X4_append (l : Launch) (G : va_G) (Z : Nat → ClassId) (sz : Nat) (h : Nat) (f : Nat) (si : Nat → Int32) (le : Nat) (x : Int32) (hle : le < 80) : Met l yX4_append wsX4_append ({ frames := 0, cells := 0, slots := 0, locals := 0 }) (va_Pc [.ref h, .int x] (zWP G Z sz ([(h, .inr (4, [.ref f, .int (nI le)])), (f, .inl (Z 1, 80, .inl si))]))) (va_Qv (fun (u : (Nat → Int32)) => u = upd si le (vp_nar .char x)) (fun (u : (Nat → Int32)) t => zB G (va_A ([(h, .inr (4, [.ref f, .int (nI le)])), (f, .inl (Z 1, 80, .inl si))]) sz) ([(h, .inr (4, [.ref f, .int (nI (le + 1))])), (f, .inl (Z 1, 80, .inl u))]) t) (va_A ([(h, .inr (4, [.ref f, .int (nI le)])), (f, .inl (Z 1, 80, .inl si))]) sz)) 0 0 (va_A ([(h, .inr (4, [.ref f, .int (nI le)])), (f, .inl (Z 1, 80, .inl si))]) sz) := by
  refine Met.ofW (cc := cX4_append) (maxL := 2) (ret := none) (by decide) rfl ?_
  intro p e s m args below meth c s₁ B hml hv
  have hx := B.exec
  have hb := B.bytes
  have hr := B.returns
  have hts := atoms_spec (ws := wsX4_append) B.pre
  have hown : s.vm.findClass RX4 = some m.cls := findClass_of_methodNamed B.named
  have hlocks := B.notSynchronized
  obtain ⟨rfl, hsz, hP, hK, hD, hA, hS, hSW⟩ := zEnter hv
  subst hsz
  generalize va_A ([(h, .inr (4, [.ref f, .int (nI le)])), (f, .inl (Z 1, 80, .inl si))]) s.heap.size = A at hD hA hS hSW ⊢
  have k_15 := hts (.fieldLink RX4 15 "WarmRods$Pad" "length" "I") (List.mem_of_getElem? (i := 1) rfl)
  have iX4 : ∀ w ∈ u_ws RX4 TX4 2, w ∈ wsX4_append := fun _ h => List.mem_cons_of_mem _ (List.mem_append_right _ h)
  have k_9 := hts (.fieldLink RX4 9 "WarmRods$Pad" "signs" "[C") (List.mem_of_getElem? (i := 2) rfl)
  have hP : va_P G vwCl ([(h, .inr (4, [.ref f, .int (nI le)])), (f, .inl (Z 1, 80, .inl si))]) s.heap := hP
  have hl := lv_entry ([.ref h, .int x]) (n := 2) (Nat.le_of_ble_eq_true rfl)
  rw [lg_entry_eq]
  generalize (lg_sl ([.ref h, .int x]) ++ List.replicate (2 - (lg_sl ([.ref h, .int x])).length) Slot.unset).toArray = ls at hl ⊢
  have hl : lv_has ls 2 [(0, .ref h), (1, .int x)] := hl
  refine lv_aload_n hx hb dX4_append_0 rfl (lv_at hl 0 rfl) ?_
  refine va_get (D := G) (ci := 4) (v := .int (nI le)) (C := RX4) (T := TX4) (N := 2) hx hb hts iX4 hown hK hP 0 rfl rfl 1 (by decide) k_15 (fun _ h9 => h9) rfl dX4_append_1 ?_
  refine lv_if_lt (tgt := 39) hx hb dX4_append_4 (by decide) (fun c4 => (nI_pos (by omega) c4).elim) (fun c4 => ?_)
  refine lv_aload_n hx hb dX4_append_7 rfl (lv_at hl 0 rfl) ?_
  refine va_get (D := G) (ci := 4) (v := .int (nI le)) (C := RX4) (T := TX4) (N := 2) hx hb hts iX4 hown hK hP 0 rfl rfl 1 (by decide) k_15 (fun _ h9 => h9) rfl dX4_append_8 ?_
  refine lv_aload_n hx hb dX4_append_11 rfl (lv_at hl 0 rfl) ?_
  refine va_get (D := G) (ci := 4) (v := .ref f) (C := RX4) (T := TX4) (N := 2) hx hb hts iX4 hown hK hP 0 rfl rfl 0 (by decide) k_9 (fun _ h9 => h9) rfl dX4_append_12 ?_
  refine va_alen (v := 80) hx hb hK hP 1 1 rfl rfl rfl dX4_append_15 ?_
  refine lv_icmp_ge (tgt := 39) hx hb dX4_append_16 (by decide) (fun c16 => (show False from by have := zLe (a := 80) c16 (by omega) (by omega); omega).elim) (fun c16 => ?_)
  refine lv_aload_n hx hb dX4_append_19 rfl (lv_at hl 0 rfl) ?_
  refine va_get (D := G) (ci := 4) (v := .ref f) (C := RX4) (T := TX4) (N := 2) hx hb hts iX4 hown hK hP 0 rfl rfl 0 (by decide) k_9 (fun _ h9 => h9) rfl dX4_append_20 ?_
  refine lv_aload_n hx hb dX4_append_23 rfl (lv_at hl 0 rfl) ?_
  refine va_get (D := G) (ci := 4) (v := .int (nI le)) (C := RX4) (T := TX4) (N := 2) hx hb hts iX4 hown hK hP 0 rfl rfl 1 (by decide) k_15 (fun _ h9 => h9) rfl dX4_append_24 ?_
  refine lv_iload_n hx hb dX4_append_27 rfl (lv_at hl 1 rfl) ?_
  refine zCast hx hb hK hP hD hS 1 1 rfl rfl le (rfl) (omega) (by decide) dX4_append_28 (fun H locs hP hD hS => ?_)
  have hP : va_P G vwCl ([(h, .inr (4, [.ref f, .int (nI le)])), (f, .inl (Z 1, 80, .inl (upd si le (vp_nar .char x))))]) H := hP
  have hD : va_D A ([(h, .inr (4, [.ref f, .int (nI le)])), (f, .inl (Z 1, 80, .inl (upd si le (vp_nar .char x))))]) := hD
  refine lv_aload_n hx hb dX4_append_29 rfl (lv_at hl 0 rfl) ?_
  refine lv_dup hx hb dX4_append_30 rfl ?_
  refine va_get (D := G) (ci := 4) (v := .int (nI le)) (C := RX4) (T := TX4) (N := 2) hx hb hts iX4 hown hK hP 0 rfl rfl 1 (by decide) k_15 (fun _ h9 => h9) rfl dX4_append_31 ?_
  refine lv_iconst (v := 1) hx hb dX4_append_34 (by decide) ?_
  refine lv_iadd hx hb dX4_append_35 ?_
  refine zTopI (y := (nI (le + 1))) (nI_succ le).symm ?_
  refine va_put (D := G) (ci := 4) (v := .int (nI (le + 1))) (ty := .int) (C := RX4) (T := TX4) (N := 2) hx hb hts iX4 tyX4 tyX4_ok nmX4 hown hK hP hD hS 0 rfl rfl 1 (by decide) k_15 (fun _ h9 => h9) rfl (by decide +kernel) rfl rfl (Nat.le_of_ble_eq_true rfl) dX4_append_36 (fun H locs hP hD hS => ?_)
  have hP : va_P G vwCl ([(h, .inr (4, [.ref f, .int (nI (le + 1))])), (f, .inl (Z 1, 80, .inl (upd si le (vp_nar .char x))))]) H := hP
  have hD : va_D A ([(h, .inr (4, [.ref f, .int (nI (le + 1))])), (f, .inl (Z 1, 80, .inl (upd si le (vp_nar .char x))))]) := hD
  exact W.vret hx hb hr (zEv (upd si le (vp_nar .char x)) (by
      rfl) hP hD hS) hS.2.2 dX4_append_39

set_option maxHeartbeats 4000000 in
set_option maxRecDepth 100000 in
theorem m_X4_signAt (l : Launch) (G : va_G) (Z : Nat → ClassId) (sz : Nat) (h : Nat) (f : Nat) (si : Nat → Int32) (le : Nat) (p : Nat) (hp : p ≤ 80) (hle : le ≤ 80) : Met l yX4_signAt wsX4_signAt ({ frames := 0, cells := 0, slots := 0, locals := 0 }) (va_Pc [.ref h, .int (nI p)] (zWP G Z sz ([(h, .inr (4, [.ref f, .int (nI le)])), (f, .inl (Z 1, 80, .inl si))]))) (va_Qi (fun (r : Int32) (u : Unit) => r = pSign si le p) (fun (u : Unit) t => zB G (va_A ([(h, .inr (4, [.ref f, .int (nI le)])), (f, .inl (Z 1, 80, .inl si))]) sz) ([(h, .inr (4, [.ref f, .int (nI le)])), (f, .inl (Z 1, 80, .inl si))]) t) (va_A ([(h, .inr (4, [.ref f, .int (nI le)])), (f, .inl (Z 1, 80, .inl si))]) sz)) 0 0 (va_A ([(h, .inr (4, [.ref f, .int (nI le)])), (f, .inl (Z 1, 80, .inl si))]) sz) := by
  refine Met.ofW (cc := cX4_signAt) (maxL := 2) (ret := (some .int)) (by decide) rfl ?_
  intro p e s m args below meth c s₁ B hml hv
  have hx := B.exec
  have hb := B.bytes
  have hr := B.returns
  have hts := atoms_spec (ws := wsX4_signAt) B.pre
  have hown : s.vm.findClass RX4 = some m.cls := findClass_of_methodNamed B.named
  have hlocks := B.notSynchronized
  obtain ⟨rfl, hsz, hP, hK, hD, hA, hS, hSW⟩ := zEnter hv
  subst hsz
  generalize va_A ([(h, .inr (4, [.ref f, .int (nI le)])), (f, .inl (Z 1, 80, .inl si))]) s.heap.size = A at hD hA hS hSW ⊢
  have k_15 := hts (.fieldLink RX4 15 "WarmRods$Pad" "length" "I") (List.mem_of_getElem? (i := 1) rfl)
  have iX4 : ∀ w ∈ u_ws RX4 TX4 2, w ∈ wsX4_signAt := fun _ h => List.mem_cons_of_mem _ (List.mem_append_right _ h)
  have k_9 := hts (.fieldLink RX4 9 "WarmRods$Pad" "signs" "[C") (List.mem_of_getElem? (i := 2) rfl)
  have hP : va_P G vwCl ([(h, .inr (4, [.ref f, .int (nI le)])), (f, .inl (Z 1, 80, .inl si))]) s.heap := hP
  have hl := lv_entry ([.ref h, .int (nI p)]) (n := 2) (Nat.le_of_ble_eq_true rfl)
  rw [lg_entry_eq]
  generalize (lg_sl ([.ref h, .int (nI p)]) ++ List.replicate (2 - (lg_sl ([.ref h, .int (nI p)])).length) Slot.unset).toArray = ls at hl ⊢
  have hl : lv_has ls 2 [(0, .ref h), (1, .int (nI p))] := hl
  refine lv_iload_n hx hb dX4_signAt_0 rfl (lv_at hl 1 rfl) ?_
  refine lv_if_lt (tgt := 30) hx hb dX4_signAt_1 (by decide) (fun c1 => (nI_pos (by omega) c1).elim) (fun c1 => ?_)
  refine lv_iload_n hx hb dX4_signAt_4 rfl (lv_at hl 1 rfl) ?_
  refine lv_aload_n hx hb dX4_signAt_5 rfl (lv_at hl 0 rfl) ?_
  refine va_get (D := G) (ci := 4) (v := .int (nI le)) (C := RX4) (T := TX4) (N := 2) hx hb hts iX4 hown hK hP 0 rfl rfl 1 (by decide) k_15 (fun _ h9 => h9) rfl dX4_signAt_6 ?_
  refine lv_icmp_ge (tgt := 30) hx hb dX4_signAt_9 (by decide) (fun c9 => ?_) (fun c9 => ?_)
  · refine lv_iconst (v := 0) hx hb dX4_signAt_30 (by decide) ?_
    exact W.iret hx hb hr (zEi () (by
        rw [pSign, if_pos (zLe c9 (by omega) (by omega))]) hP hD hS) hS.2.2 dX4_signAt_31
  · refine lv_iload_n hx hb dX4_signAt_12 rfl (lv_at hl 1 rfl) ?_
    refine lv_aload_n hx hb dX4_signAt_13 rfl (lv_at hl 0 rfl) ?_
    refine va_get (D := G) (ci := 4) (v := .ref f) (C := RX4) (T := TX4) (N := 2) hx hb hts iX4 hown hK hP 0 rfl rfl 0 (by decide) k_9 (fun _ h9 => h9) rfl dX4_signAt_14 ?_
    refine va_alen (v := 80) hx hb hK hP 1 1 rfl rfl rfl dX4_signAt_17 ?_
    refine lv_icmp_ge (tgt := 30) hx hb dX4_signAt_18 (by decide) (fun c18 => ?_) (fun c18 => ?_)
    · refine lv_iconst (v := 0) hx hb dX4_signAt_30 (by decide) ?_
      exact W.iret hx hb hr (zEi () (by
          have h1 := zNle c9 (by omega) (by omega)
          rw [pSign, if_neg (by omega), if_pos (zLe (a := 80) c18 (by omega) (by omega))]) hP hD hS) hS.2.2 dX4_signAt_31
    · refine lv_aload_n hx hb dX4_signAt_21 rfl (lv_at hl 0 rfl) ?_
      refine va_get (D := G) (ci := 4) (v := .ref f) (C := RX4) (T := TX4) (N := 2) hx hb hts iX4 hown hK hP 0 rfl rfl 0 (by decide) k_9 (fun _ h9 => h9) rfl dX4_signAt_22 ?_
      refine lv_iload_n hx hb dX4_signAt_25 rfl (lv_at hl 1 rfl) ?_
      refine zCald hx hb hK hP 1 1 rfl rfl p (rfl) (by have := zNle c18 (by omega) (by omega); omega) (by decide) dX4_signAt_26 ?_
      refine lv_goto (tgt := 31) hx hb dX4_signAt_27 (by decide) ?_
      exact W.iret hx hb hr (zEi () (by
          have h1 := zNle c9 (by omega) (by omega)
          have h2 := zNle (a := 80) c18 (by omega) (by omega)
          rw [pSign, if_neg (by omega), if_neg (by omega)]) hP hD hS) hS.2.2 dX4_signAt_31

set_option maxHeartbeats 4000000 in
set_option maxRecDepth 100000 in
theorem m_X5_isDigit (l : Launch) (G : va_G) (Z : Nat → ClassId) (sz : Nat) (x : Int32)  : Met l yX5_isDigit wsX5_isDigit ({ frames := 0, cells := 0, slots := 0, locals := 0 }) (va_Pc [.int x] (zWP G Z sz ([]))) (va_Qi (fun (r : Int32) (u : Unit) => r = pDig x) (fun (u : Unit) t => zB G (va_A ([]) sz) ([]) t) (va_A ([]) sz)) 0 0 (va_A ([]) sz) := by
  refine Met.ofW (cc := cX5_isDigit) (maxL := 1) (ret := (some .boolean)) (by decide) rfl ?_
  intro p e s m args below meth c s₁ B hml hv
  have hx := B.exec
  have hb := B.bytes
  have hr := B.returns
  have hts := atoms_spec (ws := wsX5_isDigit) B.pre
  have hown : s.vm.findClass RX5 = some m.cls := findClass_of_methodNamed B.named
  have hlocks := B.notSynchronized
  obtain ⟨rfl, hsz, hP, hK, hD, hA, hS, hSW⟩ := zEnter hv
  subst hsz
  generalize va_A ([]) s.heap.size = A at hD hA hS hSW ⊢
  have hP : va_P G vwCl ([]) s.heap := hP
  have hl := lv_entry ([.int x]) (n := 1) (Nat.le_of_ble_eq_true rfl)
  rw [lg_entry_eq]
  generalize (lg_sl ([.int x]) ++ List.replicate (1 - (lg_sl ([.int x])).length) Slot.unset).toArray = ls at hl ⊢
  have hl : lv_has ls 1 [(0, .int x)] := hl
  refine lv_iload_n hx hb dX5_isDigit_0 rfl (lv_at hl 0 rfl) ?_
  refine lv_bipush (v := 48) hx hb dX5_isDigit_1 (by decide) ?_
  refine lv_icmp_lt (tgt := 16) hx hb dX5_isDigit_3 (by decide) (fun c3 => ?_) (fun c3 => ?_)
  · refine lv_iconst (v := 0) hx hb dX5_isDigit_16 (by decide) ?_
    exact W.zret hx hb hr (rfl) (zEi () (by
        simp only [pDig, c3, Int32.not_le.mpr c3, ↓reduceIte]) hP hD hS) hS.2.2 dX5_isDigit_17
  · refine lv_iload_n hx hb dX5_isDigit_6 rfl (lv_at hl 0 rfl) ?_
    refine lv_bipush (v := 57) hx hb dX5_isDigit_7 (by decide) ?_
    refine lv_icmp_gt (tgt := 16) hx hb dX5_isDigit_9 (by decide) (fun c9 => ?_) (fun c9 => ?_)
    · refine lv_iconst (v := 0) hx hb dX5_isDigit_16 (by decide) ?_
      exact W.zret hx hb hr (rfl) (zEi () (by
          simp only [pDig, c3, Int32.not_lt.mp c3, c9, Int32.not_le.mpr c9, ↓reduceIte]) hP hD hS) hS.2.2 dX5_isDigit_17
    · refine lv_iconst (v := 1) hx hb dX5_isDigit_12 (by decide) ?_
      refine lv_goto (tgt := 17) hx hb dX5_isDigit_13 (by decide) ?_
      exact W.zret hx hb hr (rfl) (zEi () (by
          simp only [pDig, c3, Int32.not_lt.mp c3, c9, Int32.not_lt.mp c9, ↓reduceIte]) hP hD hS) hS.2.2 dX5_isDigit_17

set_option maxHeartbeats 4000000 in
set_option maxRecDepth 100000 in
theorem m_X5_start (l : Launch) (G : va_G) (Z : Nat → ClassId) (sz : Nat) (a : Nat → Nat) (si : Nat → Int32) (le : Nat) (pp : Nat) (nu : Int32) (od : Int32) (va : Int32) (ai : Int32) (rd : Int32) (hh : Int32)  : Met l yX5_start wsX5_start ({ frames := 0, cells := 0, slots := 0, locals := 0 }) (va_Pc [.ref (a 0)] (zWP G Z sz (rk Z a (si, le, pp, nu, od, va, ai, rd, hh)))) (va_Qv (fun (u : Unit) => True) (fun (u : Unit) t => zB G (va_A (rk Z a (si, le, pp, nu, od, va, ai, rd, hh)) sz) (rk Z a (si, le, 0, nu, od, va, ai, rd, hh)) t) (va_A (rk Z a (si, le, pp, nu, od, va, ai, rd, hh)) sz)) 0 0 (va_A (rk Z a (si, le, pp, nu, od, va, ai, rd, hh)) sz) := by
  refine Met.ofW (cc := cX5_start) (maxL := 1) (ret := none) (by decide) rfl ?_
  intro p e s m args below meth c s₁ B hml hv
  have hx := B.exec
  have hb := B.bytes
  have hr := B.returns
  have hts := atoms_spec (ws := wsX5_start) B.pre
  have hown : s.vm.findClass RX5 = some m.cls := findClass_of_methodNamed B.named
  have hlocks := B.notSynchronized
  obtain ⟨rfl, hsz, hP, hK, hD, hA, hS, hSW⟩ := zEnter hv
  subst hsz
  generalize va_A (rk Z a (si, le, pp, nu, od, va, ai, rd, hh)) s.heap.size = A at hD hA hS hSW ⊢
  have k_18 := hts (.fieldLink RX5 18 "WarmRods$Reader" "place" "I") (List.mem_of_getElem? (i := 1) rfl)
  have iX5 : ∀ w ∈ u_ws RX5 TX5 8, w ∈ wsX5_start := fun _ h => List.mem_cons_of_mem _ (List.mem_append_right _ h)
  have hP : va_P G vwCl (rk Z a (si, le, pp, nu, od, va, ai, rd, hh)) s.heap := hP
  have hl := lv_entry ([.ref (a 0)]) (n := 1) (Nat.le_of_ble_eq_true rfl)
  rw [lg_entry_eq]
  generalize (lg_sl ([.ref (a 0)]) ++ List.replicate (1 - (lg_sl ([.ref (a 0)])).length) Slot.unset).toArray = ls at hl ⊢
  have hl : lv_has ls 1 [(0, .ref (a 0))] := hl
  refine lv_aload_n hx hb dX5_start_0 rfl (lv_at hl 0 rfl) ?_
  refine lv_iconst (v := 0) hx hb dX5_start_1 (by decide) ?_
  refine va_put (D := G) (ci := 5) (v := .int 0) (ty := .int) (C := RX5) (T := TX5) (N := 8) hx hb hts iX5 tyX5 tyX5_ok nmX5 hown hK hP hD hS 0 rfl rfl 1 (by decide) k_18 (fun _ h9 => h9) rfl (by decide +kernel) rfl rfl (Nat.le_of_ble_eq_true rfl) dX5_start_2 (fun H locs hP hD hS => ?_)
  have hP : va_P G vwCl (rk Z a (si, le, 0, nu, od, va, ai, rd, hh)) H := hP
  have hD : va_D A (rk Z a (si, le, 0, nu, od, va, ai, rd, hh)) := hD
  exact W.vret hx hb hr (zEv () (by
      trivial) hP hD hS) hS.2.2 dX5_start_5

set_option maxHeartbeats 4000000 in
set_option maxRecDepth 100000 in
theorem m_X5_readSign (l : Launch) (G : va_G) (Z : Nat → ClassId) (sz : Nat) (a : Nat → Nat) (si : Nat → Int32) (le : Nat) (pp : Nat) (nu : Int32) (od : Int32) (va : Int32) (ai : Int32) (rd : Int32) (hh : Int32) (ch : Int32) (hp : pp ≤ 80) (hle : le ≤ 80) : Met l yX5_readSign wsX5_readSign ({ frames := 1, cells := 0, slots := 0, locals := 21 }) (va_Pc [.ref (a 0), .int ch] (zWP G Z sz (rk Z a (si, le, pp, nu, od, va, ai, rd, hh)))) (va_Qi (fun (r : Int32) (u : Nat) => r = rSgR si le pp ch ∧ u = rSgP si le pp ch) (fun (u : Nat) t => zB G (va_A (rk Z a (si, le, pp, nu, od, va, ai, rd, hh)) sz) (rk Z a (si, le, u, nu, od, va, ai, rd, hh)) t) (va_A (rk Z a (si, le, pp, nu, od, va, ai, rd, hh)) sz)) 0 0 (va_A (rk Z a (si, le, pp, nu, od, va, ai, rd, hh)) sz) := by
  refine Met.ofW (cc := cX5_readSign) (maxL := 2) (ret := (some .boolean)) (by decide) rfl ?_
  intro p e s m args below meth c s₁ B hml hv
  have hx := B.exec
  have hb := B.bytes
  have hr := B.returns
  have hts := atoms_spec (ws := wsX5_readSign) B.pre
  have hown : s.vm.findClass RX5 = some m.cls := findClass_of_methodNamed B.named
  have hlocks := B.notSynchronized
  obtain ⟨rfl, hsz, hP, hK, hD, hA, hS, hSW⟩ := zEnter hv
  subst hsz
  generalize va_A (rk Z a (si, le, pp, nu, od, va, ai, rd, hh)) s.heap.size = A at hD hA hS hSW ⊢
  have k_12 := hts (.fieldLink RX5 12 "WarmRods$Reader" "pad" "LWarmRods$Pad;") (List.mem_of_getElem? (i := 1) rfl)
  have iX5 : ∀ w ∈ u_ws RX5 TX5 8, w ∈ wsX5_readSign := fun _ h => List.mem_cons_of_mem _ (List.mem_append_left _ (List.mem_append_right _ h))
  have k_18 := hts (.fieldLink RX5 18 "WarmRods$Reader" "place" "I") (List.mem_of_getElem? (i := 2) rfl)
  have hP : va_P G vwCl (rk Z a (si, le, pp, nu, od, va, ai, rd, hh)) s.heap := hP
  have hl := lv_entry ([.ref (a 0), .int ch]) (n := 2) (Nat.le_of_ble_eq_true rfl)
  rw [lg_entry_eq]
  generalize (lg_sl ([.ref (a 0), .int ch]) ++ List.replicate (2 - (lg_sl ([.ref (a 0), .int ch])).length) Slot.unset).toArray = ls at hl ⊢
  have hl : lv_has ls 2 [(0, .ref (a 0)), (1, .int ch)] := hl
  refine lv_aload_n hx hb dX5_readSign_0 rfl (lv_at hl 0 rfl) ?_
  refine va_get (D := G) (ci := 5) (v := .ref (a 1)) (C := RX5) (T := TX5) (N := 8) hx hb hts iX5 hown hK hP 0 rfl rfl 0 (by decide) k_12 (fun _ h9 => h9) rfl dX5_readSign_1 ?_
  refine lv_aload_n hx hb dX5_readSign_4 rfl (lv_at hl 0 rfl) ?_
  refine va_get (D := G) (ci := 5) (v := .int (nI pp)) (C := RX5) (T := TX5) (N := 8) hx hb hts iX5 hown hK hP 0 rfl rfl 1 (by decide) k_18 (fun _ h9 => h9) rfl dX5_readSign_5 ?_
  refine zCi (S := Unit) (ws1 := fun u => rk Z a (si, le, pp, nu, od, va, ai, rd, hh)) (wr := [((a 0), .inr (5, [.ref (a 1), .int (nI pp), .int nu, .int od, .int va, .int ai, .int rd, .int hh]))]) (va_runV (As := [.int (nI pp)]) (rest := []) ⟨hx, hb, hml, hown, hts⟩ (m_X4_signAt l G Z _ (a 1) (a 2) si le pp (by
      omega) (by
      omega)) (cwV 1 hts gX5_readSign_X4_signAt rfl rfl rfl (by decide +kernel) ⟨Nat.le_of_ble_eq_true rfl, Nat.le_of_ble_eq_true rfl⟩) (zPreV hK hP hD hS hA hSW [1, 2] rfl (by decide) 1 (ci := 4) rfl rfl rfl) rfl rfl hl.1 rfl (lv_room (Nat.le_of_ble_eq_true rfl)) dX5_readSign_8 ⟨Nat.le_of_ble_eq_true rfl, Nat.le_of_ble_eq_true rfl⟩) hP hD hS hA [1, 2] [0] [0, 1, 2] rfl rfl (by decide) (by decide) (by decide) (fun _ => rfl) (fun r8 u H locs hw8 hP hD hS => ?_)
  try dsimp only at hw8
  subst hw8
  have hP : va_P G vwCl (rk Z a (si, le, pp, nu, od, va, ai, rd, hh)) H := hP
  have hD : va_D A (rk Z a (si, le, pp, nu, od, va, ai, rd, hh)) := hD
  refine lv_iload_n hx hb dX5_readSign_11 rfl (lv_at hl 1 rfl) ?_
  refine lv_icmp_eq (tgt := 17) hx hb dX5_readSign_12 (by decide) (fun c12 => ?_) (fun c12 => ?_)
  · refine lv_aload_n hx hb dX5_readSign_17 rfl (lv_at hl 0 rfl) ?_
    refine lv_dup hx hb dX5_readSign_18 rfl ?_
    refine va_get (D := G) (ci := 5) (v := .int (nI pp)) (C := RX5) (T := TX5) (N := 8) hx hb hts iX5 hown hK hP 0 rfl rfl 1 (by decide) k_18 (fun _ h9 => h9) rfl dX5_readSign_19 ?_
    refine lv_iconst (v := 1) hx hb dX5_readSign_22 (by decide) ?_
    refine lv_iadd hx hb dX5_readSign_23 ?_
    refine zTopI (y := (nI (pp + 1))) (nI_succ pp).symm ?_
    refine va_put (D := G) (ci := 5) (v := .int (nI (pp + 1))) (ty := .int) (C := RX5) (T := TX5) (N := 8) hx hb hts iX5 tyX5 tyX5_ok nmX5 hown hK hP hD hS 0 rfl rfl 1 (by decide) k_18 (fun _ h9 => h9) rfl (by decide +kernel) rfl rfl (Nat.le_of_ble_eq_true rfl) dX5_readSign_24 (fun H locs hP hD hS => ?_)
    have hP : va_P G vwCl (rk Z a (si, le, (pp + 1), nu, od, va, ai, rd, hh)) H := hP
    have hD : va_D A (rk Z a (si, le, (pp + 1), nu, od, va, ai, rd, hh)) := hD
    refine lv_iconst (v := 1) hx hb dX5_readSign_27 (by decide) ?_
    exact W.zret hx hb hr (rfl) (zEi (pp + 1) (by
        simp only [rSgR, rSgP, c12, ↓reduceIte, and_self]) hP hD hS) hS.2.2 dX5_readSign_28
  · refine lv_iconst (v := 0) hx hb dX5_readSign_15 (by decide) ?_
    exact W.zret hx hb hr (rfl) (zEi pp (by
        simp only [rSgR, rSgP, c12, ↓reduceIte, and_self]) hP hD hS) hS.2.2 dX5_readSign_16

set_option maxHeartbeats 4000000 in
set_option maxRecDepth 100000 in
theorem m_X5_readNumber (l : Launch) (G : va_G) (Z : Nat → ClassId) (sz : Nat) (a : Nat → Nat) (si : Nat → Int32) (le : Nat) (pp : Nat) (nu : Int32) (od : Int32) (va : Int32) (ai : Int32) (rd : Int32) (hh : Int32) (hp : pp ≤ 80) (hle : le ≤ 80) : Met l yX5_readNumber wsX5_readNumber ({ frames := 1, cells := 0, slots := 0, locals := 21 }) (va_Pc [.ref (a 0)] (zWP G Z sz (rk Z a (si, le, pp, nu, od, va, ai, rd, hh)))) (va_Qi (fun (r : Int32) (u : Nat × Int32) => r = rNumR si le pp ∧ u.1 = rNumP si le pp ∧ u.2 = rNumN si le pp) (fun (u : Nat × Int32) t => zB G (va_A (rk Z a (si, le, pp, nu, od, va, ai, rd, hh)) sz) (rk Z a (si, le, u.1, u.2, od, va, ai, rd, hh)) t) (va_A (rk Z a (si, le, pp, nu, od, va, ai, rd, hh)) sz)) 0 0 (va_A (rk Z a (si, le, pp, nu, od, va, ai, rd, hh)) sz) := by
  refine Met.ofW (cc := cX5_readNumber) (maxL := 2) (ret := (some .boolean)) (by decide) rfl ?_
  intro p e s m args below meth c s₁ B hml hv
  have hx := B.exec
  have hb := B.bytes
  have hr := B.returns
  have hts := atoms_spec (ws := wsX5_readNumber) B.pre
  have hown : s.vm.findClass RX5 = some m.cls := findClass_of_methodNamed B.named
  have hlocks := B.notSynchronized
  obtain ⟨rfl, hsz, hP, hK, hD, hA, hS, hSW⟩ := zEnter hv
  subst hsz
  generalize va_A (rk Z a (si, le, pp, nu, od, va, ai, rd, hh)) s.heap.size = A at hD hA hS hSW ⊢
  have k_55 := hts (.fieldLink RX5 55 "WarmRods$Reader" "number" "I") (List.mem_of_getElem? (i := 1) rfl)
  have iX5 : ∀ w ∈ u_ws RX5 TX5 8, w ∈ wsX5_readNumber := fun _ h => List.mem_cons_of_mem _ (List.mem_append_left _ (List.mem_append_right _ h))
  have k_12 := hts (.fieldLink RX5 12 "WarmRods$Reader" "pad" "LWarmRods$Pad;") (List.mem_of_getElem? (i := 2) rfl)
  have k_18 := hts (.fieldLink RX5 18 "WarmRods$Reader" "place" "I") (List.mem_of_getElem? (i := 3) rfl)
  have hP : va_P G vwCl (rk Z a (si, le, pp, nu, od, va, ai, rd, hh)) s.heap := hP
  have hl := lv_entry ([.ref (a 0)]) (n := 2) (Nat.le_of_ble_eq_true rfl)
  rw [lg_entry_eq]
  generalize (lg_sl ([.ref (a 0)]) ++ List.replicate (2 - (lg_sl ([.ref (a 0)])).length) Slot.unset).toArray = ls at hl ⊢
  have hl : lv_has ls 2 [(0, .ref (a 0))] := hl
  refine lv_iconst (v := 0) hx hb dX5_readNumber_0 (by decide) ?_
  refine lv_istore_n (lv' := [(1, .int 0), (0, .ref (a 0))]) hx hb dX5_readNumber_1 rfl hl (by decide) rfl (fun ls hl => ?_)
  refine lv_aload_n hx hb dX5_readNumber_2 rfl (lv_at hl 1 rfl) ?_
  refine lv_iconst (v := 0) hx hb dX5_readNumber_3 (by decide) ?_
  refine va_put (D := G) (ci := 5) (v := .int 0) (ty := .int) (C := RX5) (T := TX5) (N := 8) hx hb hts iX5 tyX5 tyX5_ok nmX5 hown hK hP hD hS 0 rfl rfl 2 (by decide) k_55 (fun _ h9 => h9) rfl (by decide +kernel) rfl rfl (Nat.le_of_ble_eq_true rfl) dX5_readNumber_4 (fun H locs hP hD hS => ?_)
  have hP : va_P G vwCl (rk Z a (si, le, pp, 0, od, va, ai, rd, hh)) H := hP
  have hD : va_D A (rk Z a (si, le, pp, 0, od, va, ai, rd, hh)) := hD
  refine zLoop (σ := Nat × Nat × Int32 × Nat) (nL := 2) (fun x => rk Z a (si, le, x.2.2.2, x.2.2.1, od, va, ai, rd, hh)) (fun x => [(1, .int (nI x.2.1)), (0, .ref (a 0))]) (fun x => rN si le x.1 x.2.1 x.2.2.1 x.2.2.2 = rN si le 4 0 0 pp ∧ x.2.1 + x.1 = 4 ∧ x.2.2.2 ≤ 80) (fun x => x.1) ?_ (4, 0, 0, pp) (by
      try dsimp only
      exact ⟨rfl, rfl, hp⟩) hP hD hS (lv_sub hl [0, 1] rfl)
  intro x hinv7 ih7 H locs ls hP hD hS hl
  obtain ⟨f, d, n, q⟩ := x
  try dsimp only at hinv7 ih7
  have hP : va_P G vwCl (rk Z a (si, le, q, n, od, va, ai, rd, hh)) H := hP
  have hD : va_D A (rk Z a (si, le, q, n, od, va, ai, rd, hh)) := hD
  have hl : lv_has ls 2 [(1, .int (nI d)), (0, .ref (a 0))] := hl
  refine lv_iload_n hx hb dX5_readNumber_7 rfl (lv_at hl 0 rfl) ?_
  refine lv_iconst (v := 4) hx hb dX5_readNumber_8 (by decide) ?_
  refine lv_icmp_ge (tgt := 82) hx hb dX5_readNumber_9 (by decide) (fun c9 => ?_) (fun c9 => ?_)
  · have he : rN si le 4 0 0 pp = (d, n, q) := by
      have h4 := zLe (a := 4) c9 (by omega) (by omega)
      have hf : f = 0 := by omega
      rw [← hinv7.1, hf]
      rfl
    refine lv_iload_n hx hb dX5_readNumber_82 rfl (lv_at hl 0 rfl) ?_
    refine lv_if_le (tgt := 90) hx hb dX5_readNumber_83 (by decide) (fun c83 => ?_) (fun c83 => ?_)
    · refine lv_iconst (v := 0) hx hb dX5_readNumber_90 (by decide) ?_
      exact W.zret hx hb hr (rfl) (zEi (q, n) (by
          have hd : d = 0 := by
            rcases Nat.eq_zero_or_pos d with h | h
            · exact h
            · exact absurd c83 (nI_nle h (by omega))
          simp only [rNumR, rNumP, rNumN, he, hd, ↓reduceIte, and_self]) hP hD hS) hS.2.2 dX5_readNumber_91
    · refine lv_iconst (v := 1) hx hb dX5_readNumber_86 (by decide) ?_
      refine lv_goto (tgt := 91) hx hb dX5_readNumber_87 (by decide) ?_
      exact W.zret hx hb hr (rfl) (zEi (q, n) (by
          have hd : ¬ d = 0 := fun e => c83 (by rw [e]; decide)
          simp only [rNumR, rNumP, rNumN, he, hd, ↓reduceIte, and_self]) hP hD hS) hS.2.2 dX5_readNumber_91
  · refine lv_aload_n hx hb dX5_readNumber_12 rfl (lv_at hl 1 rfl) ?_
    refine va_get (D := G) (ci := 5) (v := .ref (a 1)) (C := RX5) (T := TX5) (N := 8) hx hb hts iX5 hown hK hP 0 rfl rfl 0 (by decide) k_12 (fun _ h9 => h9) rfl dX5_readNumber_13 ?_
    refine lv_aload_n hx hb dX5_readNumber_16 rfl (lv_at hl 1 rfl) ?_
    refine va_get (D := G) (ci := 5) (v := .int (nI q)) (C := RX5) (T := TX5) (N := 8) hx hb hts iX5 hown hK hP 0 rfl rfl 1 (by decide) k_18 (fun _ h9 => h9) rfl dX5_readNumber_17 ?_
    refine zCi (S := Unit) (ws1 := fun u => rk Z a (si, le, q, n, od, va, ai, rd, hh)) (wr := [((a 0), .inr (5, [.ref (a 1), .int (nI q), .int n, .int od, .int va, .int ai, .int rd, .int hh]))]) (va_runV (As := [.int (nI q)]) (rest := []) ⟨hx, hb, hml, hown, hts⟩ (m_X4_signAt l G Z _ (a 1) (a 2) si le q (by
        omega) (by
        omega)) (cwV 1 hts gX5_readNumber_X4_signAt rfl rfl rfl (by decide +kernel) ⟨Nat.le_of_ble_eq_true rfl, Nat.le_of_ble_eq_true rfl⟩) (zPreV hK hP hD hS hA hSW [1, 2] rfl (by decide) 1 (ci := 4) rfl rfl rfl) rfl rfl hl.1 rfl (lv_room (Nat.le_of_ble_eq_true rfl)) dX5_readNumber_20 ⟨Nat.le_of_ble_eq_true rfl, Nat.le_of_ble_eq_true rfl⟩) hP hD hS hA [1, 2] [0] [0, 1, 2] rfl rfl (by decide) (by decide) (by decide) (fun _ => rfl) (fun r20 u H locs hw20 hP hD hS => ?_)
    try dsimp only at hw20
    subst hw20
    have hP : va_P G vwCl (rk Z a (si, le, q, n, od, va, ai, rd, hh)) H := hP
    have hD : va_D A (rk Z a (si, le, q, n, od, va, ai, rd, hh)) := hD
    refine zCi (S := Unit) (ws1 := fun u => rk Z a (si, le, q, n, od, va, ai, rd, hh)) (wr := rk Z a (si, le, q, n, od, va, ai, rd, hh)) (va_runS (As := [.int (pSign si le q)]) (rest := []) ⟨hx, hb, hml, hown, hts⟩ (m_X5_isDigit l G Z _ (pSign si le q)) (va_cwS 1 hts gX5_readNumber_X5_isDigit rfl rfl rfl (by decide +kernel) ⟨Nat.le_of_ble_eq_true rfl, Nat.le_of_ble_eq_true rfl⟩) (zPreS hK hP hD hS hA hSW [] rfl (by decide)) rfl rfl hl.1 rfl (lv_room (Nat.le_of_ble_eq_true rfl)) dX5_readNumber_23 ⟨Nat.le_of_ble_eq_true rfl, Nat.le_of_ble_eq_true rfl⟩) hP hD hS hA [] [0, 1, 2] [0, 1, 2] rfl rfl (by decide) (by decide) (by decide) (fun _ => rfl) (fun r23 u H locs hw23 hP hD hS => ?_)
    try dsimp only at hw23
    subst hw23
    have hP : va_P G vwCl (rk Z a (si, le, q, n, od, va, ai, rd, hh)) H := hP
    have hD : va_D A (rk Z a (si, le, q, n, od, va, ai, rd, hh)) := hD
    refine lv_if_eq (tgt := 82) hx hb dX5_readNumber_26 (by decide) (fun c26 => ?_) (fun c26 => ?_)
    · have he : rN si le 4 0 0 pp = (d, n, q) := by
        have h4 := zNle (a := 4) c9 (by omega) (by omega)
        obtain ⟨f, rfl⟩ : ∃ j, f = j + 1 := ⟨f - 1, by omega⟩
        rw [← hinv7.1, rN, if_pos c26]
      refine lv_iload_n hx hb dX5_readNumber_82 rfl (lv_at hl 0 rfl) ?_
      refine lv_if_le (tgt := 90) hx hb dX5_readNumber_83 (by decide) (fun c83 => ?_) (fun c83 => ?_)
      · refine lv_iconst (v := 0) hx hb dX5_readNumber_90 (by decide) ?_
        exact W.zret hx hb hr (rfl) (zEi (q, n) (by
            have hd : d = 0 := by
              rcases Nat.eq_zero_or_pos d with h | h
              · exact h
              · exact absurd c83 (nI_nle h (by omega))
            simp only [rNumR, rNumP, rNumN, he, hd, ↓reduceIte, and_self]) hP hD hS) hS.2.2 dX5_readNumber_91
      · refine lv_iconst (v := 1) hx hb dX5_readNumber_86 (by decide) ?_
        refine lv_goto (tgt := 91) hx hb dX5_readNumber_87 (by decide) ?_
        exact W.zret hx hb hr (rfl) (zEi (q, n) (by
            have hd : ¬ d = 0 := fun e => c83 (by rw [e]; decide)
            simp only [rNumR, rNumP, rNumN, he, hd, ↓reduceIte, and_self]) hP hD hS) hS.2.2 dX5_readNumber_91
    · refine lv_iload_n hx hb dX5_readNumber_29 rfl (lv_at hl 0 rfl) ?_
      refine lv_if_eq (tgt := 40) hx hb dX5_readNumber_30 (by decide) (fun c30 => ?_) (fun c30 => ?_)
      · refine lv_aload_n hx hb dX5_readNumber_40 rfl (lv_at hl 1 rfl) ?_
        refine lv_aload_n hx hb dX5_readNumber_41 rfl (lv_at hl 1 rfl) ?_
        refine va_get (D := G) (ci := 5) (v := .int n) (C := RX5) (T := TX5) (N := 8) hx hb hts iX5 hown hK hP 0 rfl rfl 2 (by decide) k_55 (fun _ h9 => h9) rfl dX5_readNumber_42 ?_
        refine lv_bipush (v := 10) hx hb dX5_readNumber_45 (by decide) ?_
        refine lv_imul hx hb dX5_readNumber_47 ?_
        refine lv_aload_n hx hb dX5_readNumber_48 rfl (lv_at hl 1 rfl) ?_
        refine va_get (D := G) (ci := 5) (v := .ref (a 1)) (C := RX5) (T := TX5) (N := 8) hx hb hts iX5 hown hK hP 0 rfl rfl 0 (by decide) k_12 (fun _ h9 => h9) rfl dX5_readNumber_49 ?_
        refine lv_aload_n hx hb dX5_readNumber_52 rfl (lv_at hl 1 rfl) ?_
        refine va_get (D := G) (ci := 5) (v := .int (nI q)) (C := RX5) (T := TX5) (N := 8) hx hb hts iX5 hown hK hP 0 rfl rfl 1 (by decide) k_18 (fun _ h9 => h9) rfl dX5_readNumber_53 ?_
        refine zCi (S := Unit) (ws1 := fun u => rk Z a (si, le, q, n, od, va, ai, rd, hh)) (wr := [((a 0), .inr (5, [.ref (a 1), .int (nI q), .int n, .int od, .int va, .int ai, .int rd, .int hh]))]) (va_runV (As := [.int (nI q)]) (rest := [.int (n * 10), .ref (a 0)]) ⟨hx, hb, hml, hown, hts⟩ (m_X4_signAt l G Z _ (a 1) (a 2) si le q (by
            omega) (by
            omega)) (cwV 1 hts gX5_readNumber_X4_signAt rfl rfl rfl (by decide +kernel) ⟨Nat.le_of_ble_eq_true rfl, Nat.le_of_ble_eq_true rfl⟩) (zPreV hK hP hD hS hA hSW [1, 2] rfl (by decide) 1 (ci := 4) rfl rfl rfl) rfl rfl hl.1 rfl (lv_room (Nat.le_of_ble_eq_true rfl)) dX5_readNumber_56 ⟨Nat.le_of_ble_eq_true rfl, Nat.le_of_ble_eq_true rfl⟩) hP hD hS hA [1, 2] [0] [0, 1, 2] rfl rfl (by decide) (by decide) (by decide) (fun _ => rfl) (fun r56 u H locs hw56 hP hD hS => ?_)
        try dsimp only at hw56
        subst hw56
        have hP : va_P G vwCl (rk Z a (si, le, q, n, od, va, ai, rd, hh)) H := hP
        have hD : va_D A (rk Z a (si, le, q, n, od, va, ai, rd, hh)) := hD
        refine lv_iadd hx hb dX5_readNumber_59 ?_
        refine lv_bipush (v := 48) hx hb dX5_readNumber_60 (by decide) ?_
        refine lv_isub hx hb dX5_readNumber_62 ?_
        refine va_put (D := G) (ci := 5) (v := .int (((n * 10) + (pSign si le q)) - 48)) (ty := .int) (C := RX5) (T := TX5) (N := 8) hx hb hts iX5 tyX5 tyX5_ok nmX5 hown hK hP hD hS 0 rfl rfl 2 (by decide) k_55 (fun _ h9 => h9) rfl (by decide +kernel) rfl rfl (Nat.le_of_ble_eq_true rfl) dX5_readNumber_63 (fun H locs hP hD hS => ?_)
        have hP : va_P G vwCl (rk Z a (si, le, q, (((n * 10) + (pSign si le q)) - 48), od, va, ai, rd, hh)) H := hP
        have hD : va_D A (rk Z a (si, le, q, (((n * 10) + (pSign si le q)) - 48), od, va, ai, rd, hh)) := hD
        refine lv_iinc (v := (nI (d + 1))) (lv' := [(1, .int (nI (d + 1))), (0, .ref (a 0))]) hx hb dX5_readNumber_66 hl (k := 0) rfl (nI_succ d).symm (by decide) rfl (fun ls hl => ?_)
        refine lv_aload_n hx hb dX5_readNumber_69 rfl (lv_at hl 1 rfl) ?_
        refine lv_dup hx hb dX5_readNumber_70 rfl ?_
        refine va_get (D := G) (ci := 5) (v := .int (nI q)) (C := RX5) (T := TX5) (N := 8) hx hb hts iX5 hown hK hP 0 rfl rfl 1 (by decide) k_18 (fun _ h9 => h9) rfl dX5_readNumber_71 ?_
        refine lv_iconst (v := 1) hx hb dX5_readNumber_74 (by decide) ?_
        refine lv_iadd hx hb dX5_readNumber_75 ?_
        refine zTopI (y := (nI (q + 1))) (nI_succ q).symm ?_
        refine va_put (D := G) (ci := 5) (v := .int (nI (q + 1))) (ty := .int) (C := RX5) (T := TX5) (N := 8) hx hb hts iX5 tyX5 tyX5_ok nmX5 hown hK hP hD hS 0 rfl rfl 1 (by decide) k_18 (fun _ h9 => h9) rfl (by decide +kernel) rfl rfl (Nat.le_of_ble_eq_true rfl) dX5_readNumber_76 (fun H locs hP hD hS => ?_)
        have hP : va_P G vwCl (rk Z a (si, le, (q + 1), (((n * 10) + (pSign si le q)) - 48), od, va, ai, rd, hh)) H := hP
        have hD : va_D A (rk Z a (si, le, (q + 1), (((n * 10) + (pSign si le q)) - 48), od, va, ai, rd, hh)) := hD
        refine lv_goto (tgt := 7) hx hb dX5_readNumber_79 (by decide) ?_
        exact ih7 ((f - 1), (d + 1), (n * 10 + pSign si le q - 48), (q + 1)) (by
            try dsimp only
            have h4 := zNle (a := 4) c9 (by omega) (by omega)
            obtain ⟨f, rfl⟩ : ∃ j, f = j + 1 := ⟨f - 1, by omega⟩
            have hs := pSign_in (pDig_nz c26)
            have hd : d = 0 := by
              rcases Nat.eq_zero_or_pos d with h | h
              · exact h
              · exact absurd c30 (nI_ne0 h (by omega))
            have hcond : ¬ (¬ d = 0 ∧ n ≤ 0) := fun h => h.1 hd
            rw [rN, if_neg c26, if_neg hcond] at hinv7
            refine ⟨hinv7.1, ?_, ?_⟩
            · omega
            · omega) (by
            try dsimp only
            have h4 := zNle (a := 4) c9 (by omega) (by omega)
            omega) _ _ _ hP hD hS (lv_sub hl [0, 1] rfl)
      · refine lv_aload_n hx hb dX5_readNumber_33 rfl (lv_at hl 1 rfl) ?_
        refine va_get (D := G) (ci := 5) (v := .int n) (C := RX5) (T := TX5) (N := 8) hx hb hts iX5 hown hK hP 0 rfl rfl 2 (by decide) k_55 (fun _ h9 => h9) rfl dX5_readNumber_34 ?_
        refine lv_if_le (tgt := 82) hx hb dX5_readNumber_37 (by decide) (fun c37 => ?_) (fun c37 => ?_)
        · have he : rN si le 4 0 0 pp = (d, n, q) := by
            have h4 := zNle (a := 4) c9 (by omega) (by omega)
            obtain ⟨f, rfl⟩ : ∃ j, f = j + 1 := ⟨f - 1, by omega⟩
            have hd : ¬ d = 0 := fun e => c30 (by rw [e]; rfl)
            rw [← hinv7.1, rN, if_neg c26, if_pos ⟨hd, c37⟩]
          refine lv_iload_n hx hb dX5_readNumber_82 rfl (lv_at hl 0 rfl) ?_
          refine lv_if_le (tgt := 90) hx hb dX5_readNumber_83 (by decide) (fun c83 => ?_) (fun c83 => ?_)
          · refine lv_iconst (v := 0) hx hb dX5_readNumber_90 (by decide) ?_
            exact W.zret hx hb hr (rfl) (zEi (q, n) (by
                have hd : d = 0 := by
                  rcases Nat.eq_zero_or_pos d with h | h
                  · exact h
                  · exact absurd c83 (nI_nle h (by omega))
                simp only [rNumR, rNumP, rNumN, he, hd, ↓reduceIte, and_self]) hP hD hS) hS.2.2 dX5_readNumber_91
          · refine lv_iconst (v := 1) hx hb dX5_readNumber_86 (by decide) ?_
            refine lv_goto (tgt := 91) hx hb dX5_readNumber_87 (by decide) ?_
            exact W.zret hx hb hr (rfl) (zEi (q, n) (by
                have hd : ¬ d = 0 := fun e => c83 (by rw [e]; decide)
                simp only [rNumR, rNumP, rNumN, he, hd, ↓reduceIte, and_self]) hP hD hS) hS.2.2 dX5_readNumber_91
        · refine lv_aload_n hx hb dX5_readNumber_40 rfl (lv_at hl 1 rfl) ?_
          refine lv_aload_n hx hb dX5_readNumber_41 rfl (lv_at hl 1 rfl) ?_
          refine va_get (D := G) (ci := 5) (v := .int n) (C := RX5) (T := TX5) (N := 8) hx hb hts iX5 hown hK hP 0 rfl rfl 2 (by decide) k_55 (fun _ h9 => h9) rfl dX5_readNumber_42 ?_
          refine lv_bipush (v := 10) hx hb dX5_readNumber_45 (by decide) ?_
          refine lv_imul hx hb dX5_readNumber_47 ?_
          refine lv_aload_n hx hb dX5_readNumber_48 rfl (lv_at hl 1 rfl) ?_
          refine va_get (D := G) (ci := 5) (v := .ref (a 1)) (C := RX5) (T := TX5) (N := 8) hx hb hts iX5 hown hK hP 0 rfl rfl 0 (by decide) k_12 (fun _ h9 => h9) rfl dX5_readNumber_49 ?_
          refine lv_aload_n hx hb dX5_readNumber_52 rfl (lv_at hl 1 rfl) ?_
          refine va_get (D := G) (ci := 5) (v := .int (nI q)) (C := RX5) (T := TX5) (N := 8) hx hb hts iX5 hown hK hP 0 rfl rfl 1 (by decide) k_18 (fun _ h9 => h9) rfl dX5_readNumber_53 ?_
          refine zCi (S := Unit) (ws1 := fun u => rk Z a (si, le, q, n, od, va, ai, rd, hh)) (wr := [((a 0), .inr (5, [.ref (a 1), .int (nI q), .int n, .int od, .int va, .int ai, .int rd, .int hh]))]) (va_runV (As := [.int (nI q)]) (rest := [.int (n * 10), .ref (a 0)]) ⟨hx, hb, hml, hown, hts⟩ (m_X4_signAt l G Z _ (a 1) (a 2) si le q (by
              omega) (by
              omega)) (cwV 1 hts gX5_readNumber_X4_signAt rfl rfl rfl (by decide +kernel) ⟨Nat.le_of_ble_eq_true rfl, Nat.le_of_ble_eq_true rfl⟩) (zPreV hK hP hD hS hA hSW [1, 2] rfl (by decide) 1 (ci := 4) rfl rfl rfl) rfl rfl hl.1 rfl (lv_room (Nat.le_of_ble_eq_true rfl)) dX5_readNumber_56 ⟨Nat.le_of_ble_eq_true rfl, Nat.le_of_ble_eq_true rfl⟩) hP hD hS hA [1, 2] [0] [0, 1, 2] rfl rfl (by decide) (by decide) (by decide) (fun _ => rfl) (fun r56_2 u H locs hw56_2 hP hD hS => ?_)
          try dsimp only at hw56_2
          subst hw56_2
          have hP : va_P G vwCl (rk Z a (si, le, q, n, od, va, ai, rd, hh)) H := hP
          have hD : va_D A (rk Z a (si, le, q, n, od, va, ai, rd, hh)) := hD
          refine lv_iadd hx hb dX5_readNumber_59 ?_
          refine lv_bipush (v := 48) hx hb dX5_readNumber_60 (by decide) ?_
          refine lv_isub hx hb dX5_readNumber_62 ?_
          refine va_put (D := G) (ci := 5) (v := .int (((n * 10) + (pSign si le q)) - 48)) (ty := .int) (C := RX5) (T := TX5) (N := 8) hx hb hts iX5 tyX5 tyX5_ok nmX5 hown hK hP hD hS 0 rfl rfl 2 (by decide) k_55 (fun _ h9 => h9) rfl (by decide +kernel) rfl rfl (Nat.le_of_ble_eq_true rfl) dX5_readNumber_63 (fun H locs hP hD hS => ?_)
          have hP : va_P G vwCl (rk Z a (si, le, q, (((n * 10) + (pSign si le q)) - 48), od, va, ai, rd, hh)) H := hP
          have hD : va_D A (rk Z a (si, le, q, (((n * 10) + (pSign si le q)) - 48), od, va, ai, rd, hh)) := hD
          refine lv_iinc (v := (nI (d + 1))) (lv' := [(1, .int (nI (d + 1))), (0, .ref (a 0))]) hx hb dX5_readNumber_66 hl (k := 0) rfl (nI_succ d).symm (by decide) rfl (fun ls hl => ?_)
          refine lv_aload_n hx hb dX5_readNumber_69 rfl (lv_at hl 1 rfl) ?_
          refine lv_dup hx hb dX5_readNumber_70 rfl ?_
          refine va_get (D := G) (ci := 5) (v := .int (nI q)) (C := RX5) (T := TX5) (N := 8) hx hb hts iX5 hown hK hP 0 rfl rfl 1 (by decide) k_18 (fun _ h9 => h9) rfl dX5_readNumber_71 ?_
          refine lv_iconst (v := 1) hx hb dX5_readNumber_74 (by decide) ?_
          refine lv_iadd hx hb dX5_readNumber_75 ?_
          refine zTopI (y := (nI (q + 1))) (nI_succ q).symm ?_
          refine va_put (D := G) (ci := 5) (v := .int (nI (q + 1))) (ty := .int) (C := RX5) (T := TX5) (N := 8) hx hb hts iX5 tyX5 tyX5_ok nmX5 hown hK hP hD hS 0 rfl rfl 1 (by decide) k_18 (fun _ h9 => h9) rfl (by decide +kernel) rfl rfl (Nat.le_of_ble_eq_true rfl) dX5_readNumber_76 (fun H locs hP hD hS => ?_)
          have hP : va_P G vwCl (rk Z a (si, le, (q + 1), (((n * 10) + (pSign si le q)) - 48), od, va, ai, rd, hh)) H := hP
          have hD : va_D A (rk Z a (si, le, (q + 1), (((n * 10) + (pSign si le q)) - 48), od, va, ai, rd, hh)) := hD
          refine lv_goto (tgt := 7) hx hb dX5_readNumber_79 (by decide) ?_
          exact ih7 ((f - 1), (d + 1), (n * 10 + pSign si le q - 48), (q + 1)) (by
              try dsimp only
              have h4 := zNle (a := 4) c9 (by omega) (by omega)
              obtain ⟨f, rfl⟩ : ∃ j, f = j + 1 := ⟨f - 1, by omega⟩
              have hs := pSign_in (pDig_nz c26)
              have hcond : ¬ (¬ d = 0 ∧ n ≤ 0) := fun h => c37 h.2
              rw [rN, if_neg c26, if_neg hcond] at hinv7
              refine ⟨hinv7.1, ?_, ?_⟩
              · omega
              · omega) (by
              try dsimp only
              have h4 := zNle (a := 4) c9 (by omega) (by omega)
              omega) _ _ _ hP hD hS (lv_sub hl [0, 1] rfl)

set_option maxHeartbeats 4000000 in
set_option maxRecDepth 100000 in
theorem m_X5_readValue (l : Launch) (G : va_G) (Z : Nat → ClassId) (sz : Nat) (a : Nat → Nat) (si : Nat → Int32) (le : Nat) (pp : Nat) (nu : Int32) (od : Int32) (va : Int32) (ai : Int32) (rd : Int32) (hh : Int32) (hp : pp ≤ 80) (hle : le ≤ 80) : Met l yX5_readValue wsX5_readValue ({ frames := 2, cells := 0, slots := 0, locals := 42 }) (va_Pc [.ref (a 0)] (zWP G Z sz (rk Z a (si, le, pp, nu, od, va, ai, rd, hh)))) (va_Qi (fun (r : Int32) (u : Nat × Int32 × Int32) => r = rVaR si le pp ∧ u.1 = rVaP si le pp ∧ u.2.1 = rVaN si le pp ∧ u.2.2 = rVaV si le pp va) (fun (u : Nat × Int32 × Int32) t => zB G (va_A (rk Z a (si, le, pp, nu, od, va, ai, rd, hh)) sz) (rk Z a (si, le, u.1, u.2.1, od, u.2.2, ai, rd, hh)) t) (va_A (rk Z a (si, le, pp, nu, od, va, ai, rd, hh)) sz)) 0 0 (va_A (rk Z a (si, le, pp, nu, od, va, ai, rd, hh)) sz) := by
  refine Met.ofW (cc := cX5_readValue) (maxL := 2) (ret := (some .boolean)) (by decide) rfl ?_
  intro p e s m args below meth c s₁ B hml hv
  have hx := B.exec
  have hb := B.bytes
  have hr := B.returns
  have hts := atoms_spec (ws := wsX5_readValue) B.pre
  have hown : s.vm.findClass RX5 = some m.cls := findClass_of_methodNamed B.named
  have hlocks := B.notSynchronized
  obtain ⟨rfl, hsz, hP, hK, hD, hA, hS, hSW⟩ := zEnter hv
  subst hsz
  generalize va_A (rk Z a (si, le, pp, nu, od, va, ai, rd, hh)) s.heap.size = A at hD hA hS hSW ⊢
  have k_55 := hts (.fieldLink RX5 55 "WarmRods$Reader" "number" "I") (List.mem_of_getElem? (i := 1) rfl)
  have iX5 : ∀ w ∈ u_ws RX5 TX5 8, w ∈ wsX5_readValue := fun _ h => List.mem_cons_of_mem _ (List.mem_append_left _ (List.mem_append_right _ h))
  have k_67 := hts (.fieldLink RX5 67 "WarmRods$Reader" "value" "I") (List.mem_of_getElem? (i := 2) rfl)
  have hP : va_P G vwCl (rk Z a (si, le, pp, nu, od, va, ai, rd, hh)) s.heap := hP
  have hl := lv_entry ([.ref (a 0)]) (n := 2) (Nat.le_of_ble_eq_true rfl)
  rw [lg_entry_eq]
  generalize (lg_sl ([.ref (a 0)]) ++ List.replicate (2 - (lg_sl ([.ref (a 0)])).length) Slot.unset).toArray = ls at hl ⊢
  have hl : lv_has ls 2 [(0, .ref (a 0))] := hl
  refine lv_aload_n hx hb dX5_readValue_0 rfl (lv_at hl 0 rfl) ?_
  refine lv_bipush (v := 45) hx hb dX5_readValue_1 (by decide) ?_
  refine zCi (S := Nat) (ws1 := fun u => rk Z a (si, le, u, nu, od, va, ai, rd, hh)) (wr := []) (va_runV (As := [.int 45]) (rest := []) ⟨hx, hb, hml, hown, hts⟩ (m_X5_readSign l G Z _ a si le pp nu od va ai rd hh 45 (by
      omega) (by
      omega)) (cwV 1 hts gX5_readValue_X5_readSign rfl rfl rfl (by decide +kernel) ⟨Nat.le_of_ble_eq_true rfl, Nat.le_of_ble_eq_true rfl⟩) (zPreV hK hP hD hS hA hSW [0, 1, 2] rfl (by decide) 0 (ci := 5) rfl rfl rfl) rfl rfl hl.1 rfl (lv_room (Nat.le_of_ble_eq_true rfl)) dX5_readValue_3 ⟨Nat.le_of_ble_eq_true rfl, Nat.le_of_ble_eq_true rfl⟩) hP hD hS hA [0, 1, 2] [] [0, 1, 2] rfl rfl (by decide) (by decide) (by decide) (fun _ => rfl) (fun r3 u H locs hw3 hP hD hS => ?_)
  obtain ⟨p1_3, rfl⟩ : ∃ z, z = u := ⟨_, rfl⟩
  try dsimp only at hw3
  obtain ⟨rfl, rfl⟩ := hw3
  have hP : va_P G vwCl (rk Z a (si, le, (rSgP si le pp 45), nu, od, va, ai, rd, hh)) H := hP
  have hD : va_D A (rk Z a (si, le, (rSgP si le pp 45), nu, od, va, ai, rd, hh)) := hD
  refine lv_istore_n (lv' := [(1, .int (rSgR si le pp 45)), (0, .ref (a 0))]) hx hb dX5_readValue_6 rfl hl (by decide) rfl (fun ls hl => ?_)
  refine lv_aload_n hx hb dX5_readValue_7 rfl (lv_at hl 1 rfl) ?_
  refine zCi (S := Nat × Int32) (ws1 := fun u => rk Z a (si, le, u.1, u.2, od, va, ai, rd, hh)) (wr := []) (va_runV (As := []) (rest := []) ⟨hx, hb, hml, hown, hts⟩ (m_X5_readNumber l G Z _ a si le (rSgP si le pp 45) nu od va ai rd hh (by
      exact rSgP_le (by decide) hp) (by
      omega)) (cwV 0 hts gX5_readValue_X5_readNumber rfl rfl rfl (by decide +kernel) ⟨Nat.le_of_ble_eq_true rfl, Nat.le_of_ble_eq_true rfl⟩) (zPreV hK hP hD hS hA hSW [0, 1, 2] rfl (by decide) 0 (ci := 5) rfl rfl rfl) rfl rfl hl.1 rfl (lv_room (Nat.le_of_ble_eq_true rfl)) dX5_readValue_8 ⟨Nat.le_of_ble_eq_true rfl, Nat.le_of_ble_eq_true rfl⟩) hP hD hS hA [0, 1, 2] [] [0, 1, 2] rfl rfl (by decide) (by decide) (by decide) (fun _ => rfl) (fun r8 u H locs hw8 hP hD hS => ?_)
  obtain ⟨p1_8, nu1_8⟩ := u
  try dsimp only at hw8
  obtain ⟨rfl, rfl, rfl⟩ := hw8
  have hP : va_P G vwCl (rk Z a (si, le, (rNumP si le (rSgP si le pp 45)), (rNumN si le (rSgP si le pp 45)), od, va, ai, rd, hh)) H := hP
  have hD : va_D A (rk Z a (si, le, (rNumP si le (rSgP si le pp 45)), (rNumN si le (rSgP si le pp 45)), od, va, ai, rd, hh)) := hD
  refine lv_if_ne (tgt := 16) hx hb dX5_readValue_11 (by decide) (fun c11 => ?_) (fun c11 => ?_)
  · refine lv_aload_n hx hb dX5_readValue_16 rfl (lv_at hl 1 rfl) ?_
    refine lv_iload_n hx hb dX5_readValue_17 rfl (lv_at hl 0 rfl) ?_
    refine lv_if_eq (tgt := 29) hx hb dX5_readValue_18 (by decide) (fun c18 => ?_) (fun c18 => ?_)
    · refine lv_aload_n hx hb dX5_readValue_29 rfl (lv_at hl 1 rfl) ?_
      refine va_get (D := G) (ci := 5) (v := .int (rNumN si le (rSgP si le pp 45))) (C := RX5) (T := TX5) (N := 8) hx hb hts iX5 hown hK hP 0 rfl rfl 2 (by decide) k_55 (fun _ h9 => h9) rfl dX5_readValue_30 ?_
      refine va_put (D := G) (ci := 5) (v := .int (rNumN si le (rSgP si le pp 45))) (ty := .int) (C := RX5) (T := TX5) (N := 8) hx hb hts iX5 tyX5 tyX5_ok nmX5 hown hK hP hD hS 0 rfl rfl 4 (by decide) k_67 (fun _ h9 => h9) rfl (by decide +kernel) rfl rfl (Nat.le_of_ble_eq_true rfl) dX5_readValue_33 (fun H locs hP hD hS => ?_)
      have hP : va_P G vwCl (rk Z a (si, le, (rNumP si le (rSgP si le pp 45)), (rNumN si le (rSgP si le pp 45)), od, (rNumN si le (rSgP si le pp 45)), ai, rd, hh)) H := hP
      have hD : va_D A (rk Z a (si, le, (rNumP si le (rSgP si le pp 45)), (rNumN si le (rSgP si le pp 45)), od, (rNumN si le (rSgP si le pp 45)), ai, rd, hh)) := hD
      refine lv_iconst (v := 1) hx hb dX5_readValue_36 (by decide) ?_
      exact W.zret hx hb hr (rfl) (zEi ((rNumP si le (rSgP si le pp 45)), (rNumN si le (rSgP si le pp 45)), (rNumN si le (rSgP si le pp 45))) (by
          simp only [rVaR, rVaP, rVaN, rVaV, c11, c18, ↓reduceIte, and_self]) hP hD hS) hS.2.2 dX5_readValue_37
    · refine lv_aload_n hx hb dX5_readValue_21 rfl (lv_at hl 1 rfl) ?_
      refine va_get (D := G) (ci := 5) (v := .int (rNumN si le (rSgP si le pp 45))) (C := RX5) (T := TX5) (N := 8) hx hb hts iX5 hown hK hP 0 rfl rfl 2 (by decide) k_55 (fun _ h9 => h9) rfl dX5_readValue_22 ?_
      refine lv_ineg hx hb dX5_readValue_25 ?_
      refine lv_goto (tgt := 33) hx hb dX5_readValue_26 (by decide) ?_
      refine va_put (D := G) (ci := 5) (v := .int (-(rNumN si le (rSgP si le pp 45)))) (ty := .int) (C := RX5) (T := TX5) (N := 8) hx hb hts iX5 tyX5 tyX5_ok nmX5 hown hK hP hD hS 0 rfl rfl 4 (by decide) k_67 (fun _ h9 => h9) rfl (by decide +kernel) rfl rfl (Nat.le_of_ble_eq_true rfl) dX5_readValue_33 (fun H locs hP hD hS => ?_)
      have hP : va_P G vwCl (rk Z a (si, le, (rNumP si le (rSgP si le pp 45)), (rNumN si le (rSgP si le pp 45)), od, (-(rNumN si le (rSgP si le pp 45))), ai, rd, hh)) H := hP
      have hD : va_D A (rk Z a (si, le, (rNumP si le (rSgP si le pp 45)), (rNumN si le (rSgP si le pp 45)), od, (-(rNumN si le (rSgP si le pp 45))), ai, rd, hh)) := hD
      refine lv_iconst (v := 1) hx hb dX5_readValue_36 (by decide) ?_
      exact W.zret hx hb hr (rfl) (zEi ((rNumP si le (rSgP si le pp 45)), (rNumN si le (rSgP si le pp 45)), (-(rNumN si le (rSgP si le pp 45)))) (by
          simp only [rVaR, rVaP, rVaN, rVaV, c11, c18, ↓reduceIte, and_self]) hP hD hS) hS.2.2 dX5_readValue_37
  · refine lv_iconst (v := 0) hx hb dX5_readValue_14 (by decide) ?_
    exact W.zret hx hb hr (rfl) (zEi ((rNumP si le (rSgP si le pp 45)), (rNumN si le (rSgP si le pp 45)), va) (by
        simp only [rVaR, rVaP, rVaN, rVaV, c11, ↓reduceIte, and_self]) hP hD hS) hS.2.2 dX5_readValue_15

set_option maxHeartbeats 4000000 in
set_option maxRecDepth 100000 in
theorem m_X5_readWeight (l : Launch) (G : va_G) (Z : Nat → ClassId) (sz : Nat) (a : Nat → Nat) (si : Nat → Int32) (le : Nat) (pp : Nat) (nu : Int32) (od : Int32) (va : Int32) (ai : Int32) (rd : Int32) (hh : Int32) (hp : pp ≤ 80) (hle : le ≤ 80) : Met l yX5_readWeight wsX5_readWeight ({ frames := 1, cells := 0, slots := 0, locals := 21 }) (va_Pc [.ref (a 0)] (zWP G Z sz (rk Z a (si, le, pp, nu, od, va, ai, rd, hh)))) (va_Qi (fun (r : Int32) (u : Nat × Int32) => r = rWtR si le pp ∧ u.1 = rWtP si le pp ∧ u.2 = rWtV si le pp va) (fun (u : Nat × Int32) t => zB G (va_A (rk Z a (si, le, pp, nu, od, va, ai, rd, hh)) sz) (rk Z a (si, le, u.1, nu, od, u.2, ai, rd, hh)) t) (va_A (rk Z a (si, le, pp, nu, od, va, ai, rd, hh)) sz)) 0 0 (va_A (rk Z a (si, le, pp, nu, od, va, ai, rd, hh)) sz) := by
  refine Met.ofW (cc := cX5_readWeight) (maxL := 2) (ret := (some .boolean)) (by decide) rfl ?_
  intro p e s m args below meth c s₁ B hml hv
  have hx := B.exec
  have hb := B.bytes
  have hr := B.returns
  have hts := atoms_spec (ws := wsX5_readWeight) B.pre
  have hown : s.vm.findClass RX5 = some m.cls := findClass_of_methodNamed B.named
  have hlocks := B.notSynchronized
  obtain ⟨rfl, hsz, hP, hK, hD, hA, hS, hSW⟩ := zEnter hv
  subst hsz
  generalize va_A (rk Z a (si, le, pp, nu, od, va, ai, rd, hh)) s.heap.size = A at hD hA hS hSW ⊢
  have k_12 := hts (.fieldLink RX5 12 "WarmRods$Reader" "pad" "LWarmRods$Pad;") (List.mem_of_getElem? (i := 1) rfl)
  have iX5 : ∀ w ∈ u_ws RX5 TX5 8, w ∈ wsX5_readWeight := fun _ h => List.mem_cons_of_mem _ (List.mem_append_left _ (List.mem_append_right _ h))
  have k_18 := hts (.fieldLink RX5 18 "WarmRods$Reader" "place" "I") (List.mem_of_getElem? (i := 2) rfl)
  have k_67 := hts (.fieldLink RX5 67 "WarmRods$Reader" "value" "I") (List.mem_of_getElem? (i := 3) rfl)
  have hP : va_P G vwCl (rk Z a (si, le, pp, nu, od, va, ai, rd, hh)) s.heap := hP
  have hl := lv_entry ([.ref (a 0)]) (n := 2) (Nat.le_of_ble_eq_true rfl)
  rw [lg_entry_eq]
  generalize (lg_sl ([.ref (a 0)]) ++ List.replicate (2 - (lg_sl ([.ref (a 0)])).length) Slot.unset).toArray = ls at hl ⊢
  have hl : lv_has ls 2 [(0, .ref (a 0))] := hl
  refine lv_aload_n hx hb dX5_readWeight_0 rfl (lv_at hl 0 rfl) ?_
  refine va_get (D := G) (ci := 5) (v := .ref (a 1)) (C := RX5) (T := TX5) (N := 8) hx hb hts iX5 hown hK hP 0 rfl rfl 0 (by decide) k_12 (fun _ h9 => h9) rfl dX5_readWeight_1 ?_
  refine lv_aload_n hx hb dX5_readWeight_4 rfl (lv_at hl 0 rfl) ?_
  refine va_get (D := G) (ci := 5) (v := .int (nI pp)) (C := RX5) (T := TX5) (N := 8) hx hb hts iX5 hown hK hP 0 rfl rfl 1 (by decide) k_18 (fun _ h9 => h9) rfl dX5_readWeight_5 ?_
  refine zCi (S := Unit) (ws1 := fun u => rk Z a (si, le, pp, nu, od, va, ai, rd, hh)) (wr := [((a 0), .inr (5, [.ref (a 1), .int (nI pp), .int nu, .int od, .int va, .int ai, .int rd, .int hh]))]) (va_runV (As := [.int (nI pp)]) (rest := []) ⟨hx, hb, hml, hown, hts⟩ (m_X4_signAt l G Z _ (a 1) (a 2) si le pp (by
      omega) (by
      omega)) (cwV 1 hts gX5_readWeight_X4_signAt rfl rfl rfl (by decide +kernel) ⟨Nat.le_of_ble_eq_true rfl, Nat.le_of_ble_eq_true rfl⟩) (zPreV hK hP hD hS hA hSW [1, 2] rfl (by decide) 1 (ci := 4) rfl rfl rfl) rfl rfl hl.1 rfl (lv_room (Nat.le_of_ble_eq_true rfl)) dX5_readWeight_8 ⟨Nat.le_of_ble_eq_true rfl, Nat.le_of_ble_eq_true rfl⟩) hP hD hS hA [1, 2] [0] [0, 1, 2] rfl rfl (by decide) (by decide) (by decide) (fun _ => rfl) (fun r8 u H locs hw8 hP hD hS => ?_)
  try dsimp only at hw8
  subst hw8
  have hP : va_P G vwCl (rk Z a (si, le, pp, nu, od, va, ai, rd, hh)) H := hP
  have hD : va_D A (rk Z a (si, le, pp, nu, od, va, ai, rd, hh)) := hD
  refine lv_bipush (v := 48) hx hb dX5_readWeight_11 (by decide) ?_
  refine lv_isub hx hb dX5_readWeight_13 ?_
  refine lv_istore_n (lv' := [(1, .int ((pSign si le pp) - 48)), (0, .ref (a 0))]) hx hb dX5_readWeight_14 rfl hl (by decide) rfl (fun ls hl => ?_)
  refine lv_iload_n hx hb dX5_readWeight_15 rfl (lv_at hl 0 rfl) ?_
  refine lv_if_lt (tgt := 25) hx hb dX5_readWeight_16 (by decide) (fun c16 => ?_) (fun c16 => ?_)
  · refine lv_iconst (v := 0) hx hb dX5_readWeight_25 (by decide) ?_
    exact W.zret hx hb hr (rfl) (zEi (pp, va) (by
        simp only [rWtR, rWtP, rWtV, c16, Int32.not_le.mpr c16, ↓reduceIte, and_self]) hP hD hS) hS.2.2 dX5_readWeight_26
  · refine lv_iload_n hx hb dX5_readWeight_19 rfl (lv_at hl 0 rfl) ?_
    refine lv_bipush (v := 8) hx hb dX5_readWeight_20 (by decide) ?_
    refine lv_icmp_lt (tgt := 27) hx hb dX5_readWeight_22 (by decide) (fun c22 => ?_) (fun c22 => ?_)
    · refine lv_aload_n hx hb dX5_readWeight_27 rfl (lv_at hl 1 rfl) ?_
      refine lv_iload_n hx hb dX5_readWeight_28 rfl (lv_at hl 0 rfl) ?_
      refine va_put (D := G) (ci := 5) (v := .int ((pSign si le pp) - 48)) (ty := .int) (C := RX5) (T := TX5) (N := 8) hx hb hts iX5 tyX5 tyX5_ok nmX5 hown hK hP hD hS 0 rfl rfl 4 (by decide) k_67 (fun _ h9 => h9) rfl (by decide +kernel) rfl rfl (Nat.le_of_ble_eq_true rfl) dX5_readWeight_29 (fun H locs hP hD hS => ?_)
      have hP : va_P G vwCl (rk Z a (si, le, pp, nu, od, ((pSign si le pp) - 48), ai, rd, hh)) H := hP
      have hD : va_D A (rk Z a (si, le, pp, nu, od, ((pSign si le pp) - 48), ai, rd, hh)) := hD
      refine lv_aload_n hx hb dX5_readWeight_32 rfl (lv_at hl 1 rfl) ?_
      refine lv_dup hx hb dX5_readWeight_33 rfl ?_
      refine va_get (D := G) (ci := 5) (v := .int (nI pp)) (C := RX5) (T := TX5) (N := 8) hx hb hts iX5 hown hK hP 0 rfl rfl 1 (by decide) k_18 (fun _ h9 => h9) rfl dX5_readWeight_34 ?_
      refine lv_iconst (v := 1) hx hb dX5_readWeight_37 (by decide) ?_
      refine lv_iadd hx hb dX5_readWeight_38 ?_
      refine zTopI (y := (nI (pp + 1))) (nI_succ pp).symm ?_
      refine va_put (D := G) (ci := 5) (v := .int (nI (pp + 1))) (ty := .int) (C := RX5) (T := TX5) (N := 8) hx hb hts iX5 tyX5 tyX5_ok nmX5 hown hK hP hD hS 0 rfl rfl 1 (by decide) k_18 (fun _ h9 => h9) rfl (by decide +kernel) rfl rfl (Nat.le_of_ble_eq_true rfl) dX5_readWeight_39 (fun H locs hP hD hS => ?_)
      have hP : va_P G vwCl (rk Z a (si, le, (pp + 1), nu, od, ((pSign si le pp) - 48), ai, rd, hh)) H := hP
      have hD : va_D A (rk Z a (si, le, (pp + 1), nu, od, ((pSign si le pp) - 48), ai, rd, hh)) := hD
      refine lv_iconst (v := 1) hx hb dX5_readWeight_42 (by decide) ?_
      exact W.zret hx hb hr (rfl) (zEi ((pp + 1), ((pSign si le pp) - 48)) (by
          simp only [rWtR, rWtP, rWtV, c16, Int32.not_lt.mp c16, c22, Int32.not_le.mpr c22, ↓reduceIte, and_self]) hP hD hS) hS.2.2 dX5_readWeight_43
    · refine lv_iconst (v := 0) hx hb dX5_readWeight_25 (by decide) ?_
      exact W.zret hx hb hr (rfl) (zEi (pp, va) (by
          simp only [rWtR, rWtP, rWtV, c16, Int32.not_lt.mp c16, c22, Int32.not_lt.mp c22, ↓reduceIte, and_self]) hP hD hS) hS.2.2 dX5_readWeight_26

set_option maxHeartbeats 4000000 in
set_option maxRecDepth 100000 in
theorem m_X5_readHours (l : Launch) (G : va_G) (Z : Nat → ClassId) (sz : Nat) (a : Nat → Nat) (si : Nat → Int32) (le : Nat) (pp : Nat) (nu : Int32) (od : Int32) (va : Int32) (ai : Int32) (rd : Int32) (hh : Int32) (hp : pp ≤ 80) (hle : le ≤ 80) : Met l yX5_readHours wsX5_readHours ({ frames := 3, cells := 0, slots := 0, locals := 63 }) (va_Pc [.ref (a 0)] (zWP G Z sz (rk Z a (si, le, pp, nu, od, va, ai, rd, hh)))) (va_Qi (fun (r : Int32) (u : Nat × Int32 × Int32 × Int32 × Int32 × Int32) => r = (rHrs si le pp va ai rd hh).1 ∧ u.1 = (rHrs si le pp va ai rd hh).2.1 ∧ u.2.1 = (rHrs si le pp va ai rd hh).2.2.1 ∧ u.2.2.1 = (rHrs si le pp va ai rd hh).2.2.2.1 ∧ u.2.2.2.1 = (rHrs si le pp va ai rd hh).2.2.2.2.1 ∧ u.2.2.2.2.1 = (rHrs si le pp va ai rd hh).2.2.2.2.2.1 ∧ u.2.2.2.2.2 = (rHrs si le pp va ai rd hh).2.2.2.2.2.2) (fun (u : Nat × Int32 × Int32 × Int32 × Int32 × Int32) t => zB G (va_A (rk Z a (si, le, pp, nu, od, va, ai, rd, hh)) sz) (rk Z a (si, le, u.1, u.2.1, od, u.2.2.1, u.2.2.2.1, u.2.2.2.2.1, u.2.2.2.2.2)) t) (va_A (rk Z a (si, le, pp, nu, od, va, ai, rd, hh)) sz)) 0 0 (va_A (rk Z a (si, le, pp, nu, od, va, ai, rd, hh)) sz) := by
  refine Met.ofW (cc := cX5_readHours) (maxL := 1) (ret := (some .boolean)) (by decide) rfl ?_
  intro p e s m args below meth c s₁ B hml hv
  have hx := B.exec
  have hb := B.bytes
  have hr := B.returns
  have hts := atoms_spec (ws := wsX5_readHours) B.pre
  have hown : s.vm.findClass RX5 = some m.cls := findClass_of_methodNamed B.named
  have hlocks := B.notSynchronized
  obtain ⟨rfl, hsz, hP, hK, hD, hA, hS, hSW⟩ := zEnter hv
  subst hsz
  generalize va_A (rk Z a (si, le, pp, nu, od, va, ai, rd, hh)) s.heap.size = A at hD hA hS hSW ⊢
  have k_55 := hts (.fieldLink RX5 55 "WarmRods$Reader" "number" "I") (List.mem_of_getElem? (i := 1) rfl)
  have iX5 : ∀ w ∈ u_ws RX5 TX5 8, w ∈ wsX5_readHours := fun _ h => List.mem_cons_of_mem _ (List.mem_append_left _ (List.mem_append_right _ h))
  have k_58 := hts (.fieldLink RX5 58 "WarmRods$Reader" "air" "I") (List.mem_of_getElem? (i := 2) rfl)
  have k_61 := hts (.fieldLink RX5 61 "WarmRods$Reader" "radio" "I") (List.mem_of_getElem? (i := 3) rfl)
  have k_64 := hts (.fieldLink RX5 64 "WarmRods$Reader" "hours" "I") (List.mem_of_getElem? (i := 4) rfl)
  have hP : va_P G vwCl (rk Z a (si, le, pp, nu, od, va, ai, rd, hh)) s.heap := hP
  have hl := lv_entry ([.ref (a 0)]) (n := 1) (Nat.le_of_ble_eq_true rfl)
  rw [lg_entry_eq]
  generalize (lg_sl ([.ref (a 0)]) ++ List.replicate (1 - (lg_sl ([.ref (a 0)])).length) Slot.unset).toArray = ls at hl ⊢
  have hl : lv_has ls 1 [(0, .ref (a 0))] := hl
  refine lv_aload_n hx hb dX5_readHours_0 rfl (lv_at hl 0 rfl) ?_
  refine zCi (S := Nat × Int32 × Int32) (ws1 := fun u => rk Z a (si, le, u.1, u.2.1, od, u.2.2, ai, rd, hh)) (wr := []) (va_runV (As := []) (rest := []) ⟨hx, hb, hml, hown, hts⟩ (m_X5_readValue l G Z _ a si le pp nu od va ai rd hh (by
      omega) (by
      omega)) (cwV 0 hts gX5_readHours_X5_readValue rfl rfl rfl (by decide +kernel) ⟨Nat.le_of_ble_eq_true rfl, Nat.le_of_ble_eq_true rfl⟩) (zPreV hK hP hD hS hA hSW [0, 1, 2] rfl (by decide) 0 (ci := 5) rfl rfl rfl) rfl rfl hl.1 rfl (lv_room (Nat.le_of_ble_eq_true rfl)) dX5_readHours_1 ⟨Nat.le_of_ble_eq_true rfl, Nat.le_of_ble_eq_true rfl⟩) hP hD hS hA [0, 1, 2] [] [0, 1, 2] rfl rfl (by decide) (by decide) (by decide) (fun _ => rfl) (fun r1 u H locs hw1 hP hD hS => ?_)
  obtain ⟨p1_1, nu1_1, va1_1⟩ := u
  try dsimp only at hw1
  obtain ⟨rfl, rfl, rfl, rfl⟩ := hw1
  have hP : va_P G vwCl (rk Z a (si, le, (rVaP si le pp), (rVaN si le pp), od, (rVaV si le pp va), ai, rd, hh)) H := hP
  have hD : va_D A (rk Z a (si, le, (rVaP si le pp), (rVaN si le pp), od, (rVaV si le pp va), ai, rd, hh)) := hD
  refine lv_if_eq (tgt := 23) hx hb dX5_readHours_4 (by decide) (fun c4 => ?_) (fun c4 => ?_)
  · refine lv_iconst (v := 0) hx hb dX5_readHours_23 (by decide) ?_
    exact W.zret hx hb hr (rfl) (zEi ((rVaP si le pp), (rVaN si le pp), (rVaV si le pp va), ai, rd, hh) (by
        simp only [rHrs, c4, ↓reduceIte, and_self]) hP hD hS) hS.2.2 dX5_readHours_24
  · refine lv_aload_n hx hb dX5_readHours_7 rfl (lv_at hl 0 rfl) ?_
    refine lv_bipush (v := 44) hx hb dX5_readHours_8 (by decide) ?_
    refine zCi (S := Nat) (ws1 := fun u => rk Z a (si, le, u, (rVaN si le pp), od, (rVaV si le pp va), ai, rd, hh)) (wr := []) (va_runV (As := [.int 44]) (rest := []) ⟨hx, hb, hml, hown, hts⟩ (m_X5_readSign l G Z _ a si le (rVaP si le pp) (rVaN si le pp) od (rVaV si le pp va) ai rd hh 44 (by
        exact rVaP_le hp) (by
        omega)) (cwV 1 hts gX5_readHours_X5_readSign rfl rfl rfl (by decide +kernel) ⟨Nat.le_of_ble_eq_true rfl, Nat.le_of_ble_eq_true rfl⟩) (zPreV hK hP hD hS hA hSW [0, 1, 2] rfl (by decide) 0 (ci := 5) rfl rfl rfl) rfl rfl hl.1 rfl (lv_room (Nat.le_of_ble_eq_true rfl)) dX5_readHours_10 ⟨Nat.le_of_ble_eq_true rfl, Nat.le_of_ble_eq_true rfl⟩) hP hD hS hA [0, 1, 2] [] [0, 1, 2] rfl rfl (by decide) (by decide) (by decide) (fun _ => rfl) (fun r10 u H locs hw10 hP hD hS => ?_)
    obtain ⟨p1_10, rfl⟩ : ∃ z, z = u := ⟨_, rfl⟩
    try dsimp only at hw10
    obtain ⟨rfl, rfl⟩ := hw10
    have hP : va_P G vwCl (rk Z a (si, le, (rSgP si le (rVaP si le pp) 44), (rVaN si le pp), od, (rVaV si le pp va), ai, rd, hh)) H := hP
    have hD : va_D A (rk Z a (si, le, (rSgP si le (rVaP si le pp) 44), (rVaN si le pp), od, (rVaV si le pp va), ai, rd, hh)) := hD
    refine lv_if_eq (tgt := 23) hx hb dX5_readHours_13 (by decide) (fun c13 => ?_) (fun c13 => ?_)
    · refine lv_iconst (v := 0) hx hb dX5_readHours_23 (by decide) ?_
      exact W.zret hx hb hr (rfl) (zEi ((rSgP si le (rVaP si le pp) 44), (rVaN si le pp), (rVaV si le pp va), ai, rd, hh) (by
          simp only [rHrs, c4, c13, ↓reduceIte, and_self]) hP hD hS) hS.2.2 dX5_readHours_24
    · refine lv_aload_n hx hb dX5_readHours_16 rfl (lv_at hl 0 rfl) ?_
      refine zCi (S := Nat × Int32) (ws1 := fun u => rk Z a (si, le, u.1, u.2, od, (rVaV si le pp va), ai, rd, hh)) (wr := []) (va_runV (As := []) (rest := []) ⟨hx, hb, hml, hown, hts⟩ (m_X5_readNumber l G Z _ a si le (rSgP si le (rVaP si le pp) 44) (rVaN si le pp) od (rVaV si le pp va) ai rd hh (by
          exact (rSgP_le (by decide) (rVaP_le hp))) (by
          omega)) (cwV 0 hts gX5_readHours_X5_readNumber rfl rfl rfl (by decide +kernel) ⟨Nat.le_of_ble_eq_true rfl, Nat.le_of_ble_eq_true rfl⟩) (zPreV hK hP hD hS hA hSW [0, 1, 2] rfl (by decide) 0 (ci := 5) rfl rfl rfl) rfl rfl hl.1 rfl (lv_room (Nat.le_of_ble_eq_true rfl)) dX5_readHours_17 ⟨Nat.le_of_ble_eq_true rfl, Nat.le_of_ble_eq_true rfl⟩) hP hD hS hA [0, 1, 2] [] [0, 1, 2] rfl rfl (by decide) (by decide) (by decide) (fun _ => rfl) (fun r17 u H locs hw17 hP hD hS => ?_)
      obtain ⟨p1_17, nu1_17⟩ := u
      try dsimp only at hw17
      obtain ⟨rfl, rfl, rfl⟩ := hw17
      have hP : va_P G vwCl (rk Z a (si, le, (rNumP si le (rSgP si le (rVaP si le pp) 44)), (rNumN si le (rSgP si le (rVaP si le pp) 44)), od, (rVaV si le pp va), ai, rd, hh)) H := hP
      have hD : va_D A (rk Z a (si, le, (rNumP si le (rSgP si le (rVaP si le pp) 44)), (rNumN si le (rSgP si le (rVaP si le pp) 44)), od, (rVaV si le pp va), ai, rd, hh)) := hD
      refine lv_if_ne (tgt := 25) hx hb dX5_readHours_20 (by decide) (fun c20 => ?_) (fun c20 => ?_)
      · refine lv_aload_n hx hb dX5_readHours_25 rfl (lv_at hl 0 rfl) ?_
        refine lv_aload_n hx hb dX5_readHours_26 rfl (lv_at hl 0 rfl) ?_
        refine va_get (D := G) (ci := 5) (v := .int (rNumN si le (rSgP si le (rVaP si le pp) 44))) (C := RX5) (T := TX5) (N := 8) hx hb hts iX5 hown hK hP 0 rfl rfl 2 (by decide) k_55 (fun _ h9 => h9) rfl dX5_readHours_27 ?_
        refine va_put (D := G) (ci := 5) (v := .int (rNumN si le (rSgP si le (rVaP si le pp) 44))) (ty := .int) (C := RX5) (T := TX5) (N := 8) hx hb hts iX5 tyX5 tyX5_ok nmX5 hown hK hP hD hS 0 rfl rfl 5 (by decide) k_58 (fun _ h9 => h9) rfl (by decide +kernel) rfl rfl (Nat.le_of_ble_eq_true rfl) dX5_readHours_30 (fun H locs hP hD hS => ?_)
        have hP : va_P G vwCl (rk Z a (si, le, (rNumP si le (rSgP si le (rVaP si le pp) 44)), (rNumN si le (rSgP si le (rVaP si le pp) 44)), od, (rVaV si le pp va), (rNumN si le (rSgP si le (rVaP si le pp) 44)), rd, hh)) H := hP
        have hD : va_D A (rk Z a (si, le, (rNumP si le (rSgP si le (rVaP si le pp) 44)), (rNumN si le (rSgP si le (rVaP si le pp) 44)), od, (rVaV si le pp va), (rNumN si le (rSgP si le (rVaP si le pp) 44)), rd, hh)) := hD
        refine lv_aload_n hx hb dX5_readHours_33 rfl (lv_at hl 0 rfl) ?_
        refine lv_aload_n hx hb dX5_readHours_34 rfl (lv_at hl 0 rfl) ?_
        refine lv_bipush (v := 114) hx hb dX5_readHours_35 (by decide) ?_
        refine zCi (S := Nat) (ws1 := fun u => rk Z a (si, le, u, (rNumN si le (rSgP si le (rVaP si le pp) 44)), od, (rVaV si le pp va), (rNumN si le (rSgP si le (rVaP si le pp) 44)), rd, hh)) (wr := []) (va_runV (As := [.int 114]) (rest := [.ref (a 0)]) ⟨hx, hb, hml, hown, hts⟩ (m_X5_readSign l G Z _ a si le (rNumP si le (rSgP si le (rVaP si le pp) 44)) (rNumN si le (rSgP si le (rVaP si le pp) 44)) od (rVaV si le pp va) (rNumN si le (rSgP si le (rVaP si le pp) 44)) rd hh 114 (by
            exact (rNumP_le (rSgP_le (by decide) (rVaP_le hp)))) (by
            omega)) (cwV 1 hts gX5_readHours_X5_readSign rfl rfl rfl (by decide +kernel) ⟨Nat.le_of_ble_eq_true rfl, Nat.le_of_ble_eq_true rfl⟩) (zPreV hK hP hD hS hA hSW [0, 1, 2] rfl (by decide) 0 (ci := 5) rfl rfl rfl) rfl rfl hl.1 rfl (lv_room (Nat.le_of_ble_eq_true rfl)) dX5_readHours_37 ⟨Nat.le_of_ble_eq_true rfl, Nat.le_of_ble_eq_true rfl⟩) hP hD hS hA [0, 1, 2] [] [0, 1, 2] rfl rfl (by decide) (by decide) (by decide) (fun _ => rfl) (fun r37 u H locs hw37 hP hD hS => ?_)
        obtain ⟨p1_37, rfl⟩ : ∃ z, z = u := ⟨_, rfl⟩
        try dsimp only at hw37
        obtain ⟨rfl, rfl⟩ := hw37
        have hP : va_P G vwCl (rk Z a (si, le, (rSgP si le (rNumP si le (rSgP si le (rVaP si le pp) 44)) 114), (rNumN si le (rSgP si le (rVaP si le pp) 44)), od, (rVaV si le pp va), (rNumN si le (rSgP si le (rVaP si le pp) 44)), rd, hh)) H := hP
        have hD : va_D A (rk Z a (si, le, (rSgP si le (rNumP si le (rSgP si le (rVaP si le pp) 44)) 114), (rNumN si le (rSgP si le (rVaP si le pp) 44)), od, (rVaV si le pp va), (rNumN si le (rSgP si le (rVaP si le pp) 44)), rd, hh)) := hD
        refine lv_if_eq (tgt := 47) hx hb dX5_readHours_40 (by decide) (fun c40 => ?_) (fun c40 => ?_)
        · refine lv_iconst (v := 0) hx hb dX5_readHours_47 (by decide) ?_
          refine va_put (D := G) (ci := 5) (v := .int 0) (ty := .int) (C := RX5) (T := TX5) (N := 8) hx hb hts iX5 tyX5 tyX5_ok nmX5 hown hK hP hD hS 0 rfl rfl 6 (by decide) k_61 (fun _ h9 => h9) rfl (by decide +kernel) rfl rfl (Nat.le_of_ble_eq_true rfl) dX5_readHours_48 (fun H locs hP hD hS => ?_)
          have hP : va_P G vwCl (rk Z a (si, le, (rSgP si le (rNumP si le (rSgP si le (rVaP si le pp) 44)) 114), (rNumN si le (rSgP si le (rVaP si le pp) 44)), od, (rVaV si le pp va), (rNumN si le (rSgP si le (rVaP si le pp) 44)), 0, hh)) H := hP
          have hD : va_D A (rk Z a (si, le, (rSgP si le (rNumP si le (rSgP si le (rVaP si le pp) 44)) 114), (rNumN si le (rSgP si le (rVaP si le pp) 44)), od, (rVaV si le pp va), (rNumN si le (rSgP si le (rVaP si le pp) 44)), 0, hh)) := hD
          refine lv_aload_n hx hb dX5_readHours_51 rfl (lv_at hl 0 rfl) ?_
          refine lv_iconst (v := 1) hx hb dX5_readHours_52 (by decide) ?_
          refine va_put (D := G) (ci := 5) (v := .int 1) (ty := .int) (C := RX5) (T := TX5) (N := 8) hx hb hts iX5 tyX5 tyX5_ok nmX5 hown hK hP hD hS 0 rfl rfl 7 (by decide) k_64 (fun _ h9 => h9) rfl (by decide +kernel) rfl rfl (Nat.le_of_ble_eq_true rfl) dX5_readHours_53 (fun H locs hP hD hS => ?_)
          have hP : va_P G vwCl (rk Z a (si, le, (rSgP si le (rNumP si le (rSgP si le (rVaP si le pp) 44)) 114), (rNumN si le (rSgP si le (rVaP si le pp) 44)), od, (rVaV si le pp va), (rNumN si le (rSgP si le (rVaP si le pp) 44)), 0, 1)) H := hP
          have hD : va_D A (rk Z a (si, le, (rSgP si le (rNumP si le (rSgP si le (rVaP si le pp) 44)) 114), (rNumN si le (rSgP si le (rVaP si le pp) 44)), od, (rVaV si le pp va), (rNumN si le (rSgP si le (rVaP si le pp) 44)), 0, 1)) := hD
          refine lv_aload_n hx hb dX5_readHours_56 rfl (lv_at hl 0 rfl) ?_
          refine lv_bipush (v := 42) hx hb dX5_readHours_57 (by decide) ?_
          refine zCi (S := Nat) (ws1 := fun u => rk Z a (si, le, u, (rNumN si le (rSgP si le (rVaP si le pp) 44)), od, (rVaV si le pp va), (rNumN si le (rSgP si le (rVaP si le pp) 44)), 0, 1)) (wr := []) (va_runV (As := [.int 42]) (rest := []) ⟨hx, hb, hml, hown, hts⟩ (m_X5_readSign l G Z _ a si le (rSgP si le (rNumP si le (rSgP si le (rVaP si le pp) 44)) 114) (rNumN si le (rSgP si le (rVaP si le pp) 44)) od (rVaV si le pp va) (rNumN si le (rSgP si le (rVaP si le pp) 44)) 0 1 42 (by
              exact (rSgP_le (by decide) (rNumP_le (rSgP_le (by decide) (rVaP_le hp))))) (by
              omega)) (cwV 1 hts gX5_readHours_X5_readSign rfl rfl rfl (by decide +kernel) ⟨Nat.le_of_ble_eq_true rfl, Nat.le_of_ble_eq_true rfl⟩) (zPreV hK hP hD hS hA hSW [0, 1, 2] rfl (by decide) 0 (ci := 5) rfl rfl rfl) rfl rfl hl.1 rfl (lv_room (Nat.le_of_ble_eq_true rfl)) dX5_readHours_59 ⟨Nat.le_of_ble_eq_true rfl, Nat.le_of_ble_eq_true rfl⟩) hP hD hS hA [0, 1, 2] [] [0, 1, 2] rfl rfl (by decide) (by decide) (by decide) (fun _ => rfl) (fun r59 u H locs hw59 hP hD hS => ?_)
          obtain ⟨p1_59, rfl⟩ : ∃ z, z = u := ⟨_, rfl⟩
          try dsimp only at hw59
          obtain ⟨rfl, rfl⟩ := hw59
          have hP : va_P G vwCl (rk Z a (si, le, (rSgP si le (rSgP si le (rNumP si le (rSgP si le (rVaP si le pp) 44)) 114) 42), (rNumN si le (rSgP si le (rVaP si le pp) 44)), od, (rVaV si le pp va), (rNumN si le (rSgP si le (rVaP si le pp) 44)), 0, 1)) H := hP
          have hD : va_D A (rk Z a (si, le, (rSgP si le (rSgP si le (rNumP si le (rSgP si le (rVaP si le pp) 44)) 114) 42), (rNumN si le (rSgP si le (rVaP si le pp) 44)), od, (rVaV si le pp va), (rNumN si le (rSgP si le (rVaP si le pp) 44)), 0, 1)) := hD
          refine lv_if_ne (tgt := 67) hx hb dX5_readHours_62 (by decide) (fun c62 => ?_) (fun c62 => ?_)
          · refine lv_aload_n hx hb dX5_readHours_67 rfl (lv_at hl 0 rfl) ?_
            refine zCi (S := Nat × Int32) (ws1 := fun u => rk Z a (si, le, u.1, u.2, od, (rVaV si le pp va), (rNumN si le (rSgP si le (rVaP si le pp) 44)), 0, 1)) (wr := []) (va_runV (As := []) (rest := []) ⟨hx, hb, hml, hown, hts⟩ (m_X5_readNumber l G Z _ a si le (rSgP si le (rSgP si le (rNumP si le (rSgP si le (rVaP si le pp) 44)) 114) 42) (rNumN si le (rSgP si le (rVaP si le pp) 44)) od (rVaV si le pp va) (rNumN si le (rSgP si le (rVaP si le pp) 44)) 0 1 (by
                exact (rSgP_le (by decide) (rSgP_le (by decide) (rNumP_le (rSgP_le (by decide) (rVaP_le hp)))))) (by
                omega)) (cwV 0 hts gX5_readHours_X5_readNumber rfl rfl rfl (by decide +kernel) ⟨Nat.le_of_ble_eq_true rfl, Nat.le_of_ble_eq_true rfl⟩) (zPreV hK hP hD hS hA hSW [0, 1, 2] rfl (by decide) 0 (ci := 5) rfl rfl rfl) rfl rfl hl.1 rfl (lv_room (Nat.le_of_ble_eq_true rfl)) dX5_readHours_68 ⟨Nat.le_of_ble_eq_true rfl, Nat.le_of_ble_eq_true rfl⟩) hP hD hS hA [0, 1, 2] [] [0, 1, 2] rfl rfl (by decide) (by decide) (by decide) (fun _ => rfl) (fun r68 u H locs hw68 hP hD hS => ?_)
            obtain ⟨p1_68, nu1_68⟩ := u
            try dsimp only at hw68
            obtain ⟨rfl, rfl, rfl⟩ := hw68
            have hP : va_P G vwCl (rk Z a (si, le, (rNumP si le (rSgP si le (rSgP si le (rNumP si le (rSgP si le (rVaP si le pp) 44)) 114) 42)), (rNumN si le (rSgP si le (rSgP si le (rNumP si le (rSgP si le (rVaP si le pp) 44)) 114) 42)), od, (rVaV si le pp va), (rNumN si le (rSgP si le (rVaP si le pp) 44)), 0, 1)) H := hP
            have hD : va_D A (rk Z a (si, le, (rNumP si le (rSgP si le (rSgP si le (rNumP si le (rSgP si le (rVaP si le pp) 44)) 114) 42)), (rNumN si le (rSgP si le (rSgP si le (rNumP si le (rSgP si le (rVaP si le pp) 44)) 114) 42)), od, (rVaV si le pp va), (rNumN si le (rSgP si le (rVaP si le pp) 44)), 0, 1)) := hD
            refine lv_if_ne (tgt := 76) hx hb dX5_readHours_71 (by decide) (fun c71 => ?_) (fun c71 => ?_)
            · refine lv_aload_n hx hb dX5_readHours_76 rfl (lv_at hl 0 rfl) ?_
              refine lv_aload_n hx hb dX5_readHours_77 rfl (lv_at hl 0 rfl) ?_
              refine va_get (D := G) (ci := 5) (v := .int (rNumN si le (rSgP si le (rSgP si le (rNumP si le (rSgP si le (rVaP si le pp) 44)) 114) 42))) (C := RX5) (T := TX5) (N := 8) hx hb hts iX5 hown hK hP 0 rfl rfl 2 (by decide) k_55 (fun _ h9 => h9) rfl dX5_readHours_78 ?_
              refine va_put (D := G) (ci := 5) (v := .int (rNumN si le (rSgP si le (rSgP si le (rNumP si le (rSgP si le (rVaP si le pp) 44)) 114) 42))) (ty := .int) (C := RX5) (T := TX5) (N := 8) hx hb hts iX5 tyX5 tyX5_ok nmX5 hown hK hP hD hS 0 rfl rfl 7 (by decide) k_64 (fun _ h9 => h9) rfl (by decide +kernel) rfl rfl (Nat.le_of_ble_eq_true rfl) dX5_readHours_81 (fun H locs hP hD hS => ?_)
              have hP : va_P G vwCl (rk Z a (si, le, (rNumP si le (rSgP si le (rSgP si le (rNumP si le (rSgP si le (rVaP si le pp) 44)) 114) 42)), (rNumN si le (rSgP si le (rSgP si le (rNumP si le (rSgP si le (rVaP si le pp) 44)) 114) 42)), od, (rVaV si le pp va), (rNumN si le (rSgP si le (rVaP si le pp) 44)), 0, (rNumN si le (rSgP si le (rSgP si le (rNumP si le (rSgP si le (rVaP si le pp) 44)) 114) 42)))) H := hP
              have hD : va_D A (rk Z a (si, le, (rNumP si le (rSgP si le (rSgP si le (rNumP si le (rSgP si le (rVaP si le pp) 44)) 114) 42)), (rNumN si le (rSgP si le (rSgP si le (rNumP si le (rSgP si le (rVaP si le pp) 44)) 114) 42)), od, (rVaV si le pp va), (rNumN si le (rSgP si le (rVaP si le pp) 44)), 0, (rNumN si le (rSgP si le (rSgP si le (rNumP si le (rSgP si le (rVaP si le pp) 44)) 114) 42)))) := hD
              refine lv_iconst (v := 1) hx hb dX5_readHours_84 (by decide) ?_
              exact W.zret hx hb hr (rfl) (zEi ((rNumP si le (rSgP si le (rSgP si le (rNumP si le (rSgP si le (rVaP si le pp) 44)) 114) 42)), (rNumN si le (rSgP si le (rSgP si le (rNumP si le (rSgP si le (rVaP si le pp) 44)) 114) 42)), (rVaV si le pp va), (rNumN si le (rSgP si le (rVaP si le pp) 44)), 0, (rNumN si le (rSgP si le (rSgP si le (rNumP si le (rSgP si le (rVaP si le pp) 44)) 114) 42))) (by
                  simp only [rHrs, c4, c13, c20, c40, c62, c71, ↓reduceIte, and_self]) hP hD hS) hS.2.2 dX5_readHours_85
            · refine lv_iconst (v := 0) hx hb dX5_readHours_74 (by decide) ?_
              exact W.zret hx hb hr (rfl) (zEi ((rNumP si le (rSgP si le (rSgP si le (rNumP si le (rSgP si le (rVaP si le pp) 44)) 114) 42)), (rNumN si le (rSgP si le (rSgP si le (rNumP si le (rSgP si le (rVaP si le pp) 44)) 114) 42)), (rVaV si le pp va), (rNumN si le (rSgP si le (rVaP si le pp) 44)), 0, 1) (by
                  simp only [rHrs, c4, c13, c20, c40, c62, c71, ↓reduceIte, and_self]) hP hD hS) hS.2.2 dX5_readHours_75
          · refine lv_iconst (v := 1) hx hb dX5_readHours_65 (by decide) ?_
            exact W.zret hx hb hr (rfl) (zEi ((rSgP si le (rSgP si le (rNumP si le (rSgP si le (rVaP si le pp) 44)) 114) 42), (rNumN si le (rSgP si le (rVaP si le pp) 44)), (rVaV si le pp va), (rNumN si le (rSgP si le (rVaP si le pp) 44)), 0, 1) (by
                simp only [rHrs, c4, c13, c20, c40, c62, ↓reduceIte, and_self]) hP hD hS) hS.2.2 dX5_readHours_66
        · refine lv_iconst (v := 1) hx hb dX5_readHours_43 (by decide) ?_
          refine lv_goto (tgt := 48) hx hb dX5_readHours_44 (by decide) ?_
          refine va_put (D := G) (ci := 5) (v := .int 1) (ty := .int) (C := RX5) (T := TX5) (N := 8) hx hb hts iX5 tyX5 tyX5_ok nmX5 hown hK hP hD hS 0 rfl rfl 6 (by decide) k_61 (fun _ h9 => h9) rfl (by decide +kernel) rfl rfl (Nat.le_of_ble_eq_true rfl) dX5_readHours_48 (fun H locs hP hD hS => ?_)
          have hP : va_P G vwCl (rk Z a (si, le, (rSgP si le (rNumP si le (rSgP si le (rVaP si le pp) 44)) 114), (rNumN si le (rSgP si le (rVaP si le pp) 44)), od, (rVaV si le pp va), (rNumN si le (rSgP si le (rVaP si le pp) 44)), 1, hh)) H := hP
          have hD : va_D A (rk Z a (si, le, (rSgP si le (rNumP si le (rSgP si le (rVaP si le pp) 44)) 114), (rNumN si le (rSgP si le (rVaP si le pp) 44)), od, (rVaV si le pp va), (rNumN si le (rSgP si le (rVaP si le pp) 44)), 1, hh)) := hD
          refine lv_aload_n hx hb dX5_readHours_51 rfl (lv_at hl 0 rfl) ?_
          refine lv_iconst (v := 1) hx hb dX5_readHours_52 (by decide) ?_
          refine va_put (D := G) (ci := 5) (v := .int 1) (ty := .int) (C := RX5) (T := TX5) (N := 8) hx hb hts iX5 tyX5 tyX5_ok nmX5 hown hK hP hD hS 0 rfl rfl 7 (by decide) k_64 (fun _ h9 => h9) rfl (by decide +kernel) rfl rfl (Nat.le_of_ble_eq_true rfl) dX5_readHours_53 (fun H locs hP hD hS => ?_)
          have hP : va_P G vwCl (rk Z a (si, le, (rSgP si le (rNumP si le (rSgP si le (rVaP si le pp) 44)) 114), (rNumN si le (rSgP si le (rVaP si le pp) 44)), od, (rVaV si le pp va), (rNumN si le (rSgP si le (rVaP si le pp) 44)), 1, 1)) H := hP
          have hD : va_D A (rk Z a (si, le, (rSgP si le (rNumP si le (rSgP si le (rVaP si le pp) 44)) 114), (rNumN si le (rSgP si le (rVaP si le pp) 44)), od, (rVaV si le pp va), (rNumN si le (rSgP si le (rVaP si le pp) 44)), 1, 1)) := hD
          refine lv_aload_n hx hb dX5_readHours_56 rfl (lv_at hl 0 rfl) ?_
          refine lv_bipush (v := 42) hx hb dX5_readHours_57 (by decide) ?_
          refine zCi (S := Nat) (ws1 := fun u => rk Z a (si, le, u, (rNumN si le (rSgP si le (rVaP si le pp) 44)), od, (rVaV si le pp va), (rNumN si le (rSgP si le (rVaP si le pp) 44)), 1, 1)) (wr := []) (va_runV (As := [.int 42]) (rest := []) ⟨hx, hb, hml, hown, hts⟩ (m_X5_readSign l G Z _ a si le (rSgP si le (rNumP si le (rSgP si le (rVaP si le pp) 44)) 114) (rNumN si le (rSgP si le (rVaP si le pp) 44)) od (rVaV si le pp va) (rNumN si le (rSgP si le (rVaP si le pp) 44)) 1 1 42 (by
              exact (rSgP_le (by decide) (rNumP_le (rSgP_le (by decide) (rVaP_le hp))))) (by
              omega)) (cwV 1 hts gX5_readHours_X5_readSign rfl rfl rfl (by decide +kernel) ⟨Nat.le_of_ble_eq_true rfl, Nat.le_of_ble_eq_true rfl⟩) (zPreV hK hP hD hS hA hSW [0, 1, 2] rfl (by decide) 0 (ci := 5) rfl rfl rfl) rfl rfl hl.1 rfl (lv_room (Nat.le_of_ble_eq_true rfl)) dX5_readHours_59 ⟨Nat.le_of_ble_eq_true rfl, Nat.le_of_ble_eq_true rfl⟩) hP hD hS hA [0, 1, 2] [] [0, 1, 2] rfl rfl (by decide) (by decide) (by decide) (fun _ => rfl) (fun r59_2 u H locs hw59_2 hP hD hS => ?_)
          obtain ⟨p1_59_2, rfl⟩ : ∃ z, z = u := ⟨_, rfl⟩
          try dsimp only at hw59_2
          obtain ⟨rfl, rfl⟩ := hw59_2
          have hP : va_P G vwCl (rk Z a (si, le, (rSgP si le (rSgP si le (rNumP si le (rSgP si le (rVaP si le pp) 44)) 114) 42), (rNumN si le (rSgP si le (rVaP si le pp) 44)), od, (rVaV si le pp va), (rNumN si le (rSgP si le (rVaP si le pp) 44)), 1, 1)) H := hP
          have hD : va_D A (rk Z a (si, le, (rSgP si le (rSgP si le (rNumP si le (rSgP si le (rVaP si le pp) 44)) 114) 42), (rNumN si le (rSgP si le (rVaP si le pp) 44)), od, (rVaV si le pp va), (rNumN si le (rSgP si le (rVaP si le pp) 44)), 1, 1)) := hD
          refine lv_if_ne (tgt := 67) hx hb dX5_readHours_62 (by decide) (fun c62 => ?_) (fun c62 => ?_)
          · refine lv_aload_n hx hb dX5_readHours_67 rfl (lv_at hl 0 rfl) ?_
            refine zCi (S := Nat × Int32) (ws1 := fun u => rk Z a (si, le, u.1, u.2, od, (rVaV si le pp va), (rNumN si le (rSgP si le (rVaP si le pp) 44)), 1, 1)) (wr := []) (va_runV (As := []) (rest := []) ⟨hx, hb, hml, hown, hts⟩ (m_X5_readNumber l G Z _ a si le (rSgP si le (rSgP si le (rNumP si le (rSgP si le (rVaP si le pp) 44)) 114) 42) (rNumN si le (rSgP si le (rVaP si le pp) 44)) od (rVaV si le pp va) (rNumN si le (rSgP si le (rVaP si le pp) 44)) 1 1 (by
                exact (rSgP_le (by decide) (rSgP_le (by decide) (rNumP_le (rSgP_le (by decide) (rVaP_le hp)))))) (by
                omega)) (cwV 0 hts gX5_readHours_X5_readNumber rfl rfl rfl (by decide +kernel) ⟨Nat.le_of_ble_eq_true rfl, Nat.le_of_ble_eq_true rfl⟩) (zPreV hK hP hD hS hA hSW [0, 1, 2] rfl (by decide) 0 (ci := 5) rfl rfl rfl) rfl rfl hl.1 rfl (lv_room (Nat.le_of_ble_eq_true rfl)) dX5_readHours_68 ⟨Nat.le_of_ble_eq_true rfl, Nat.le_of_ble_eq_true rfl⟩) hP hD hS hA [0, 1, 2] [] [0, 1, 2] rfl rfl (by decide) (by decide) (by decide) (fun _ => rfl) (fun r68_2 u H locs hw68_2 hP hD hS => ?_)
            obtain ⟨p1_68_2, nu1_68_2⟩ := u
            try dsimp only at hw68_2
            obtain ⟨rfl, rfl, rfl⟩ := hw68_2
            have hP : va_P G vwCl (rk Z a (si, le, (rNumP si le (rSgP si le (rSgP si le (rNumP si le (rSgP si le (rVaP si le pp) 44)) 114) 42)), (rNumN si le (rSgP si le (rSgP si le (rNumP si le (rSgP si le (rVaP si le pp) 44)) 114) 42)), od, (rVaV si le pp va), (rNumN si le (rSgP si le (rVaP si le pp) 44)), 1, 1)) H := hP
            have hD : va_D A (rk Z a (si, le, (rNumP si le (rSgP si le (rSgP si le (rNumP si le (rSgP si le (rVaP si le pp) 44)) 114) 42)), (rNumN si le (rSgP si le (rSgP si le (rNumP si le (rSgP si le (rVaP si le pp) 44)) 114) 42)), od, (rVaV si le pp va), (rNumN si le (rSgP si le (rVaP si le pp) 44)), 1, 1)) := hD
            refine lv_if_ne (tgt := 76) hx hb dX5_readHours_71 (by decide) (fun c71 => ?_) (fun c71 => ?_)
            · refine lv_aload_n hx hb dX5_readHours_76 rfl (lv_at hl 0 rfl) ?_
              refine lv_aload_n hx hb dX5_readHours_77 rfl (lv_at hl 0 rfl) ?_
              refine va_get (D := G) (ci := 5) (v := .int (rNumN si le (rSgP si le (rSgP si le (rNumP si le (rSgP si le (rVaP si le pp) 44)) 114) 42))) (C := RX5) (T := TX5) (N := 8) hx hb hts iX5 hown hK hP 0 rfl rfl 2 (by decide) k_55 (fun _ h9 => h9) rfl dX5_readHours_78 ?_
              refine va_put (D := G) (ci := 5) (v := .int (rNumN si le (rSgP si le (rSgP si le (rNumP si le (rSgP si le (rVaP si le pp) 44)) 114) 42))) (ty := .int) (C := RX5) (T := TX5) (N := 8) hx hb hts iX5 tyX5 tyX5_ok nmX5 hown hK hP hD hS 0 rfl rfl 7 (by decide) k_64 (fun _ h9 => h9) rfl (by decide +kernel) rfl rfl (Nat.le_of_ble_eq_true rfl) dX5_readHours_81 (fun H locs hP hD hS => ?_)
              have hP : va_P G vwCl (rk Z a (si, le, (rNumP si le (rSgP si le (rSgP si le (rNumP si le (rSgP si le (rVaP si le pp) 44)) 114) 42)), (rNumN si le (rSgP si le (rSgP si le (rNumP si le (rSgP si le (rVaP si le pp) 44)) 114) 42)), od, (rVaV si le pp va), (rNumN si le (rSgP si le (rVaP si le pp) 44)), 1, (rNumN si le (rSgP si le (rSgP si le (rNumP si le (rSgP si le (rVaP si le pp) 44)) 114) 42)))) H := hP
              have hD : va_D A (rk Z a (si, le, (rNumP si le (rSgP si le (rSgP si le (rNumP si le (rSgP si le (rVaP si le pp) 44)) 114) 42)), (rNumN si le (rSgP si le (rSgP si le (rNumP si le (rSgP si le (rVaP si le pp) 44)) 114) 42)), od, (rVaV si le pp va), (rNumN si le (rSgP si le (rVaP si le pp) 44)), 1, (rNumN si le (rSgP si le (rSgP si le (rNumP si le (rSgP si le (rVaP si le pp) 44)) 114) 42)))) := hD
              refine lv_iconst (v := 1) hx hb dX5_readHours_84 (by decide) ?_
              exact W.zret hx hb hr (rfl) (zEi ((rNumP si le (rSgP si le (rSgP si le (rNumP si le (rSgP si le (rVaP si le pp) 44)) 114) 42)), (rNumN si le (rSgP si le (rSgP si le (rNumP si le (rSgP si le (rVaP si le pp) 44)) 114) 42)), (rVaV si le pp va), (rNumN si le (rSgP si le (rVaP si le pp) 44)), 1, (rNumN si le (rSgP si le (rSgP si le (rNumP si le (rSgP si le (rVaP si le pp) 44)) 114) 42))) (by
                  simp only [rHrs, c4, c13, c20, c40, c62, c71, ↓reduceIte, and_self]) hP hD hS) hS.2.2 dX5_readHours_85
            · refine lv_iconst (v := 0) hx hb dX5_readHours_74 (by decide) ?_
              exact W.zret hx hb hr (rfl) (zEi ((rNumP si le (rSgP si le (rSgP si le (rNumP si le (rSgP si le (rVaP si le pp) 44)) 114) 42)), (rNumN si le (rSgP si le (rSgP si le (rNumP si le (rSgP si le (rVaP si le pp) 44)) 114) 42)), (rVaV si le pp va), (rNumN si le (rSgP si le (rVaP si le pp) 44)), 1, 1) (by
                  simp only [rHrs, c4, c13, c20, c40, c62, c71, ↓reduceIte, and_self]) hP hD hS) hS.2.2 dX5_readHours_75
          · refine lv_iconst (v := 1) hx hb dX5_readHours_65 (by decide) ?_
            exact W.zret hx hb hr (rfl) (zEi ((rSgP si le (rSgP si le (rNumP si le (rSgP si le (rVaP si le pp) 44)) 114) 42), (rNumN si le (rSgP si le (rVaP si le pp) 44)), (rVaV si le pp va), (rNumN si le (rSgP si le (rVaP si le pp) 44)), 1, 1) (by
                simp only [rHrs, c4, c13, c20, c40, c62, ↓reduceIte, and_self]) hP hD hS) hS.2.2 dX5_readHours_66
      · refine lv_iconst (v := 0) hx hb dX5_readHours_23 (by decide) ?_
        exact W.zret hx hb hr (rfl) (zEi ((rNumP si le (rSgP si le (rVaP si le pp) 44)), (rNumN si le (rSgP si le (rVaP si le pp) 44)), (rVaV si le pp va), ai, rd, hh) (by
            simp only [rHrs, c4, c13, c20, ↓reduceIte, and_self]) hP hD hS) hS.2.2 dX5_readHours_24

set_option maxHeartbeats 4000000 in
set_option maxRecDepth 100000 in
theorem m_X5_readOrder (l : Launch) (G : va_G) (Z : Nat → ClassId) (sz : Nat) (a : Nat → Nat) (v : RV) (hp : v.2.2.1 ≤ 80) (hle : v.2.1 ≤ 80) : Met l yX5_readOrder wsX5_readOrder ({ frames := 4, cells := 0, slots := 0, locals := 83 }) (va_Pc [.ref (a 0)] (zWP G Z sz (rk Z a v))) (va_Qi (fun (r : Int32) (u : RV) => r = (rOrd v).1 ∧ u = (rOrd v).2) (fun (u : RV) t => zB G (va_A (rk Z a v) sz) (rk Z a u) t) (va_A (rk Z a v) sz)) 0 0 (va_A (rk Z a v) sz) := by
  obtain ⟨si, le, pp, nu, od, va, ai, rd, hh⟩ := v
  refine Met.ofW (cc := cX5_readOrder) (maxL := 1) (ret := (some .boolean)) (by decide) rfl ?_
  intro p e s m args below meth c s₁ B hml hv
  have hx := B.exec
  have hb := B.bytes
  have hr := B.returns
  have hts := atoms_spec (ws := wsX5_readOrder) B.pre
  have hown : s.vm.findClass RX5 = some m.cls := findClass_of_methodNamed B.named
  have hlocks := B.notSynchronized
  obtain ⟨rfl, hsz, hP, hK, hD, hA, hS, hSW⟩ := zEnter hv
  subst hsz
  generalize va_A (rk Z a (si, le, pp, nu, od, va, ai, rd, hh)) s.heap.size = A at hD hA hS hSW ⊢
  have k_12 := hts (.fieldLink RX5 12 "WarmRods$Reader" "pad" "LWarmRods$Pad;") (List.mem_of_getElem? (i := 1) rfl)
  have iX5 : ∀ w ∈ u_ws RX5 TX5 8, w ∈ wsX5_readOrder := fun _ h => List.mem_cons_of_mem _ (List.mem_append_left _ (List.mem_append_right _ h))
  have k_18 := hts (.fieldLink RX5 18 "WarmRods$Reader" "place" "I") (List.mem_of_getElem? (i := 2) rfl)
  have k_40 := hts (.fieldLink RX5 40 "WarmRods$Reader" "order" "I") (List.mem_of_getElem? (i := 3) rfl)
  have hP : va_P G vwCl (rk Z a (si, le, pp, nu, od, va, ai, rd, hh)) s.heap := hP
  have hl := lv_entry ([.ref (a 0)]) (n := 1) (Nat.le_of_ble_eq_true rfl)
  rw [lg_entry_eq]
  generalize (lg_sl ([.ref (a 0)]) ++ List.replicate (1 - (lg_sl ([.ref (a 0)])).length) Slot.unset).toArray = ls at hl ⊢
  have hl : lv_has ls 1 [(0, .ref (a 0))] := hl
  refine lv_aload_n hx hb dX5_readOrder_0 rfl (lv_at hl 0 rfl) ?_
  refine lv_aload_n hx hb dX5_readOrder_1 rfl (lv_at hl 0 rfl) ?_
  refine va_get (D := G) (ci := 5) (v := .ref (a 1)) (C := RX5) (T := TX5) (N := 8) hx hb hts iX5 hown hK hP 0 rfl rfl 0 (by decide) k_12 (fun _ h9 => h9) rfl dX5_readOrder_2 ?_
  refine lv_aload_n hx hb dX5_readOrder_5 rfl (lv_at hl 0 rfl) ?_
  refine va_get (D := G) (ci := 5) (v := .int (nI pp)) (C := RX5) (T := TX5) (N := 8) hx hb hts iX5 hown hK hP 0 rfl rfl 1 (by decide) k_18 (fun _ h9 => h9) rfl dX5_readOrder_6 ?_
  refine zCi (S := Unit) (ws1 := fun u => rk Z a (si, le, pp, nu, od, va, ai, rd, hh)) (wr := [((a 0), .inr (5, [.ref (a 1), .int (nI pp), .int nu, .int od, .int va, .int ai, .int rd, .int hh]))]) (va_runV (As := [.int (nI pp)]) (rest := [.ref (a 0)]) ⟨hx, hb, hml, hown, hts⟩ (m_X4_signAt l G Z _ (a 1) (a 2) si le pp (by
      exact hp) (by
      exact hle)) (cwV 1 hts gX5_readOrder_X4_signAt rfl rfl rfl (by decide +kernel) ⟨Nat.le_of_ble_eq_true rfl, Nat.le_of_ble_eq_true rfl⟩) (zPreV hK hP hD hS hA hSW [1, 2] rfl (by decide) 1 (ci := 4) rfl rfl rfl) rfl rfl hl.1 rfl (lv_room (Nat.le_of_ble_eq_true rfl)) dX5_readOrder_9 ⟨Nat.le_of_ble_eq_true rfl, Nat.le_of_ble_eq_true rfl⟩) hP hD hS hA [1, 2] [0] [0, 1, 2] rfl rfl (by decide) (by decide) (by decide) (fun _ => rfl) (fun r9 u H locs hw9 hP hD hS => ?_)
  try dsimp only at hw9
  subst hw9
  have hP : va_P G vwCl (rk Z a (si, le, pp, nu, od, va, ai, rd, hh)) H := hP
  have hD : va_D A (rk Z a (si, le, pp, nu, od, va, ai, rd, hh)) := hD
  refine va_put (D := G) (ci := 5) (v := .int (pSign si le pp)) (ty := .int) (C := RX5) (T := TX5) (N := 8) hx hb hts iX5 tyX5 tyX5_ok nmX5 hown hK hP hD hS 0 rfl rfl 3 (by decide) k_40 (fun _ h9 => h9) rfl (by decide +kernel) rfl rfl (Nat.le_of_ble_eq_true rfl) dX5_readOrder_12 (fun H locs hP hD hS => ?_)
  have hP : va_P G vwCl (rk Z a (si, le, pp, nu, (pSign si le pp), va, ai, rd, hh)) H := hP
  have hD : va_D A (rk Z a (si, le, pp, nu, (pSign si le pp), va, ai, rd, hh)) := hD
  refine lv_aload_n hx hb dX5_readOrder_15 rfl (lv_at hl 0 rfl) ?_
  refine va_get (D := G) (ci := 5) (v := .int (pSign si le pp)) (C := RX5) (T := TX5) (N := 8) hx hb hts iX5 hown hK hP 0 rfl rfl 3 (by decide) k_40 (fun _ h9 => h9) rfl dX5_readOrder_16 ?_
  by_cases c19_98 : (pSign si le pp) = 98
  · refine lv_lookup (off := 71) (tgt := 90) hx hb dX5_readOrder_19 (by decide) (by rw [c19_98]; decide) (by decide) ?_
    refine lv_aload_n hx hb dX5_readOrder_90 rfl (lv_at hl 0 rfl) ?_
    refine lv_dup hx hb dX5_readOrder_91 rfl ?_
    refine va_get (D := G) (ci := 5) (v := .int (nI pp)) (C := RX5) (T := TX5) (N := 8) hx hb hts iX5 hown hK hP 0 rfl rfl 1 (by decide) k_18 (fun _ h9 => h9) rfl dX5_readOrder_92 ?_
    refine lv_iconst (v := 1) hx hb dX5_readOrder_95 (by decide) ?_
    refine lv_iadd hx hb dX5_readOrder_96 ?_
    refine zTopI (y := (nI (pp + 1))) (nI_succ pp).symm ?_
    refine va_put (D := G) (ci := 5) (v := .int (nI (pp + 1))) (ty := .int) (C := RX5) (T := TX5) (N := 8) hx hb hts iX5 tyX5 tyX5_ok nmX5 hown hK hP hD hS 0 rfl rfl 1 (by decide) k_18 (fun _ h9 => h9) rfl (by decide +kernel) rfl rfl (Nat.le_of_ble_eq_true rfl) dX5_readOrder_97 (fun H locs hP hD hS => ?_)
    have hP : va_P G vwCl (rk Z a (si, le, (pp + 1), nu, (pSign si le pp), va, ai, rd, hh)) H := hP
    have hD : va_D A (rk Z a (si, le, (pp + 1), nu, (pSign si le pp), va, ai, rd, hh)) := hD
    refine lv_aload_n hx hb dX5_readOrder_100 rfl (lv_at hl 0 rfl) ?_
    refine zCi (S := Nat × Int32 × Int32) (ws1 := fun u => rk Z a (si, le, u.1, u.2.1, (pSign si le pp), u.2.2, ai, rd, hh)) (wr := []) (va_runV (As := []) (rest := []) ⟨hx, hb, hml, hown, hts⟩ (m_X5_readValue l G Z _ a si le (pp + 1) nu (pSign si le pp) va ai rd hh (by
        have hs := pSign_in (show ¬ pSign si le pp = 0 by rw [c19_98]; decide)
        omega) (by
        exact hle)) (cwV 0 hts gX5_readOrder_X5_readValue rfl rfl rfl (by decide +kernel) ⟨Nat.le_of_ble_eq_true rfl, Nat.le_of_ble_eq_true rfl⟩) (zPreV hK hP hD hS hA hSW [0, 1, 2] rfl (by decide) 0 (ci := 5) rfl rfl rfl) rfl rfl hl.1 rfl (lv_room (Nat.le_of_ble_eq_true rfl)) dX5_readOrder_101 ⟨Nat.le_of_ble_eq_true rfl, Nat.le_of_ble_eq_true rfl⟩) hP hD hS hA [0, 1, 2] [] [0, 1, 2] rfl rfl (by decide) (by decide) (by decide) (fun _ => rfl) (fun r101 u H locs hw101 hP hD hS => ?_)
    obtain ⟨p1_101, nu1_101, va1_101⟩ := u
    try dsimp only at hw101
    obtain ⟨rfl, rfl, rfl, rfl⟩ := hw101
    have hP : va_P G vwCl (rk Z a (si, le, (rVaP si le (pp + 1)), (rVaN si le (pp + 1)), (pSign si le pp), (rVaV si le (pp + 1) va), ai, rd, hh)) H := hP
    have hD : va_D A (rk Z a (si, le, (rVaP si le (pp + 1)), (rVaN si le (pp + 1)), (pSign si le pp), (rVaV si le (pp + 1) va), ai, rd, hh)) := hD
    exact W.zret hx hb hr (zNarBb (rVaR_b _ _ _)) (zEi (si, le, (rVaP si le (pp + 1)), (rVaN si le (pp + 1)), (pSign si le pp), (rVaV si le (pp + 1) va), ai, rd, hh) (by
        unfold rOrd
        dsimp only
        rw [if_pos c19_98]
        exact ⟨rfl, rfl⟩) hP hD hS) hS.2.2 dX5_readOrder_104
  by_cases c19_104 : (pSign si le pp) = 104
  · refine lv_lookup (off := 41) (tgt := 60) hx hb dX5_readOrder_19 (by decide) (by rw [c19_104]; decide) (by decide) ?_
    refine lv_aload_n hx hb dX5_readOrder_60 rfl (lv_at hl 0 rfl) ?_
    refine lv_dup hx hb dX5_readOrder_61 rfl ?_
    refine va_get (D := G) (ci := 5) (v := .int (nI pp)) (C := RX5) (T := TX5) (N := 8) hx hb hts iX5 hown hK hP 0 rfl rfl 1 (by decide) k_18 (fun _ h9 => h9) rfl dX5_readOrder_62 ?_
    refine lv_iconst (v := 1) hx hb dX5_readOrder_65 (by decide) ?_
    refine lv_iadd hx hb dX5_readOrder_66 ?_
    refine zTopI (y := (nI (pp + 1))) (nI_succ pp).symm ?_
    refine va_put (D := G) (ci := 5) (v := .int (nI (pp + 1))) (ty := .int) (C := RX5) (T := TX5) (N := 8) hx hb hts iX5 tyX5 tyX5_ok nmX5 hown hK hP hD hS 0 rfl rfl 1 (by decide) k_18 (fun _ h9 => h9) rfl (by decide +kernel) rfl rfl (Nat.le_of_ble_eq_true rfl) dX5_readOrder_67 (fun H locs hP hD hS => ?_)
    have hP : va_P G vwCl (rk Z a (si, le, (pp + 1), nu, (pSign si le pp), va, ai, rd, hh)) H := hP
    have hD : va_D A (rk Z a (si, le, (pp + 1), nu, (pSign si le pp), va, ai, rd, hh)) := hD
    refine lv_aload_n hx hb dX5_readOrder_70 rfl (lv_at hl 0 rfl) ?_
    refine zCi (S := Nat × Int32 × Int32 × Int32 × Int32 × Int32) (ws1 := fun u => rk Z a (si, le, u.1, u.2.1, (pSign si le pp), u.2.2.1, u.2.2.2.1, u.2.2.2.2.1, u.2.2.2.2.2)) (wr := []) (va_runV (As := []) (rest := []) ⟨hx, hb, hml, hown, hts⟩ (m_X5_readHours l G Z _ a si le (pp + 1) nu (pSign si le pp) va ai rd hh (by
        have hs := pSign_in (show ¬ pSign si le pp = 0 by rw [c19_104]; decide)
        omega) (by
        exact hle)) (cwV 0 hts gX5_readOrder_X5_readHours rfl rfl rfl (by decide +kernel) ⟨Nat.le_of_ble_eq_true rfl, Nat.le_of_ble_eq_true rfl⟩) (zPreV hK hP hD hS hA hSW [0, 1, 2] rfl (by decide) 0 (ci := 5) rfl rfl rfl) rfl rfl hl.1 rfl (lv_room (Nat.le_of_ble_eq_true rfl)) dX5_readOrder_71 ⟨Nat.le_of_ble_eq_true rfl, Nat.le_of_ble_eq_true rfl⟩) hP hD hS hA [0, 1, 2] [] [0, 1, 2] rfl rfl (by decide) (by decide) (by decide) (fun _ => rfl) (fun r71 u H locs hw71 hP hD hS => ?_)
    obtain ⟨p1_71, nu1_71, va1_71, ai1_71, rd1_71, hh1_71⟩ := u
    try dsimp only at hw71
    obtain ⟨rfl, rfl, rfl, rfl, rfl, rfl, rfl⟩ := hw71
    have hP : va_P G vwCl (rk Z a (si, le, ((rHrs si le (pp + 1) va ai rd hh).2.1), ((rHrs si le (pp + 1) va ai rd hh).2.2.1), (pSign si le pp), ((rHrs si le (pp + 1) va ai rd hh).2.2.2.1), ((rHrs si le (pp + 1) va ai rd hh).2.2.2.2.1), ((rHrs si le (pp + 1) va ai rd hh).2.2.2.2.2.1), ((rHrs si le (pp + 1) va ai rd hh).2.2.2.2.2.2))) H := hP
    have hD : va_D A (rk Z a (si, le, ((rHrs si le (pp + 1) va ai rd hh).2.1), ((rHrs si le (pp + 1) va ai rd hh).2.2.1), (pSign si le pp), ((rHrs si le (pp + 1) va ai rd hh).2.2.2.1), ((rHrs si le (pp + 1) va ai rd hh).2.2.2.2.1), ((rHrs si le (pp + 1) va ai rd hh).2.2.2.2.2.1), ((rHrs si le (pp + 1) va ai rd hh).2.2.2.2.2.2))) := hD
    exact W.zret hx hb hr (zNarBb (rHrs_b _ _ _ _ _ _ _)) (zEi (si, le, ((rHrs si le (pp + 1) va ai rd hh).2.1), ((rHrs si le (pp + 1) va ai rd hh).2.2.1), (pSign si le pp), ((rHrs si le (pp + 1) va ai rd hh).2.2.2.1), ((rHrs si le (pp + 1) va ai rd hh).2.2.2.2.1), ((rHrs si le (pp + 1) va ai rd hh).2.2.2.2.2.1), ((rHrs si le (pp + 1) va ai rd hh).2.2.2.2.2.2)) (by
        unfold rOrd
        dsimp only
        rw [if_neg c19_98, if_pos c19_104]
        exact ⟨rfl, rfl⟩) hP hD hS) hS.2.2 dX5_readOrder_74
  by_cases c19_119 : (pSign si le pp) = 119
  · refine lv_lookup (off := 56) (tgt := 75) hx hb dX5_readOrder_19 (by decide) (by rw [c19_119]; decide) (by decide) ?_
    refine lv_aload_n hx hb dX5_readOrder_75 rfl (lv_at hl 0 rfl) ?_
    refine lv_dup hx hb dX5_readOrder_76 rfl ?_
    refine va_get (D := G) (ci := 5) (v := .int (nI pp)) (C := RX5) (T := TX5) (N := 8) hx hb hts iX5 hown hK hP 0 rfl rfl 1 (by decide) k_18 (fun _ h9 => h9) rfl dX5_readOrder_77 ?_
    refine lv_iconst (v := 1) hx hb dX5_readOrder_80 (by decide) ?_
    refine lv_iadd hx hb dX5_readOrder_81 ?_
    refine zTopI (y := (nI (pp + 1))) (nI_succ pp).symm ?_
    refine va_put (D := G) (ci := 5) (v := .int (nI (pp + 1))) (ty := .int) (C := RX5) (T := TX5) (N := 8) hx hb hts iX5 tyX5 tyX5_ok nmX5 hown hK hP hD hS 0 rfl rfl 1 (by decide) k_18 (fun _ h9 => h9) rfl (by decide +kernel) rfl rfl (Nat.le_of_ble_eq_true rfl) dX5_readOrder_82 (fun H locs hP hD hS => ?_)
    have hP : va_P G vwCl (rk Z a (si, le, (pp + 1), nu, (pSign si le pp), va, ai, rd, hh)) H := hP
    have hD : va_D A (rk Z a (si, le, (pp + 1), nu, (pSign si le pp), va, ai, rd, hh)) := hD
    refine lv_aload_n hx hb dX5_readOrder_85 rfl (lv_at hl 0 rfl) ?_
    refine zCi (S := Nat × Int32) (ws1 := fun u => rk Z a (si, le, u.1, nu, (pSign si le pp), u.2, ai, rd, hh)) (wr := []) (va_runV (As := []) (rest := []) ⟨hx, hb, hml, hown, hts⟩ (m_X5_readWeight l G Z _ a si le (pp + 1) nu (pSign si le pp) va ai rd hh (by
        have hs := pSign_in (show ¬ pSign si le pp = 0 by rw [c19_119]; decide)
        omega) (by
        exact hle)) (cwV 0 hts gX5_readOrder_X5_readWeight rfl rfl rfl (by decide +kernel) ⟨Nat.le_of_ble_eq_true rfl, Nat.le_of_ble_eq_true rfl⟩) (zPreV hK hP hD hS hA hSW [0, 1, 2] rfl (by decide) 0 (ci := 5) rfl rfl rfl) rfl rfl hl.1 rfl (lv_room (Nat.le_of_ble_eq_true rfl)) dX5_readOrder_86 ⟨Nat.le_of_ble_eq_true rfl, Nat.le_of_ble_eq_true rfl⟩) hP hD hS hA [0, 1, 2] [] [0, 1, 2] rfl rfl (by decide) (by decide) (by decide) (fun _ => rfl) (fun r86 u H locs hw86 hP hD hS => ?_)
    obtain ⟨p1_86, va1_86⟩ := u
    try dsimp only at hw86
    obtain ⟨rfl, rfl, rfl⟩ := hw86
    have hP : va_P G vwCl (rk Z a (si, le, (rWtP si le (pp + 1)), nu, (pSign si le pp), (rWtV si le (pp + 1) va), ai, rd, hh)) H := hP
    have hD : va_D A (rk Z a (si, le, (rWtP si le (pp + 1)), nu, (pSign si le pp), (rWtV si le (pp + 1) va), ai, rd, hh)) := hD
    exact W.zret hx hb hr (zNarBb (rWtR_b _ _ _)) (zEi (si, le, (rWtP si le (pp + 1)), nu, (pSign si le pp), (rWtV si le (pp + 1) va), ai, rd, hh) (by
        unfold rOrd
        dsimp only
        rw [if_neg c19_98, if_neg c19_104, if_pos c19_119]
        exact ⟨rfl, rfl⟩) hP hD hS) hS.2.2 dX5_readOrder_89
  by_cases c19_122 : (pSign si le pp) = 122
  · refine lv_lookup (off := 86) (tgt := 105) hx hb dX5_readOrder_19 (by decide) (by rw [c19_122]; decide) (by decide) ?_
    refine lv_aload_n hx hb dX5_readOrder_105 rfl (lv_at hl 0 rfl) ?_
    refine lv_dup hx hb dX5_readOrder_106 rfl ?_
    refine va_get (D := G) (ci := 5) (v := .int (nI pp)) (C := RX5) (T := TX5) (N := 8) hx hb hts iX5 hown hK hP 0 rfl rfl 1 (by decide) k_18 (fun _ h9 => h9) rfl dX5_readOrder_107 ?_
    refine lv_iconst (v := 1) hx hb dX5_readOrder_110 (by decide) ?_
    refine lv_iadd hx hb dX5_readOrder_111 ?_
    refine zTopI (y := (nI (pp + 1))) (nI_succ pp).symm ?_
    refine va_put (D := G) (ci := 5) (v := .int (nI (pp + 1))) (ty := .int) (C := RX5) (T := TX5) (N := 8) hx hb hts iX5 tyX5 tyX5_ok nmX5 hown hK hP hD hS 0 rfl rfl 1 (by decide) k_18 (fun _ h9 => h9) rfl (by decide +kernel) rfl rfl (Nat.le_of_ble_eq_true rfl) dX5_readOrder_112 (fun H locs hP hD hS => ?_)
    have hP : va_P G vwCl (rk Z a (si, le, (pp + 1), nu, (pSign si le pp), va, ai, rd, hh)) H := hP
    have hD : va_D A (rk Z a (si, le, (pp + 1), nu, (pSign si le pp), va, ai, rd, hh)) := hD
    refine lv_iconst (v := 1) hx hb dX5_readOrder_115 (by decide) ?_
    exact W.zret hx hb hr (rfl) (zEi (si, le, (pp + 1), nu, (pSign si le pp), va, ai, rd, hh) (by
        unfold rOrd
        dsimp only
        rw [if_neg c19_98, if_neg c19_104, if_neg c19_119, if_pos c19_122]
        exact ⟨rfl, rfl⟩) hP hD hS) hS.2.2 dX5_readOrder_116
  refine lv_lookup (off := 98) (tgt := 117) hx hb dX5_readOrder_19 (by decide) (by show Op.lookupswitch.offset _ _ _ = _; rw [lv_osw (k := 98) c19_98 (by decide)]; rw [lv_osw (k := 104) c19_104 (by decide)]; rw [lv_osw (k := 119) c19_119 (by decide)]; rw [lv_osw (k := 122) c19_122 (by decide)]; rfl) (by decide) ?_
  refine lv_iconst (v := 0) hx hb dX5_readOrder_117 (by decide) ?_
  exact W.zret hx hb hr (rfl) (zEi (si, le, pp, nu, (pSign si le pp), va, ai, rd, hh) (by
      unfold rOrd
      dsimp only
      rw [if_neg c19_98, if_neg c19_104, if_neg c19_119, if_neg c19_122]
      exact ⟨rfl, rfl⟩) hP hD hS) hS.2.2 dX5_readOrder_118

set_option maxHeartbeats 4000000 in
set_option maxRecDepth 100000 in
theorem m_X5_firstFault (l : Launch) (G : va_G) (Z : Nat → ClassId) (sz : Nat) (a : Nat → Nat) (v : RV) (hle : v.2.1 ≤ 80) : Met l yX5_firstFault wsX5_firstFault ({ frames := 5, cells := 0, slots := 0, locals := 103 }) (va_Pc [.ref (a 0)] (zWP G Z sz (rk Z a v))) (va_Qi (fun (r : Int32) (u : RV) => r = (rFa 80 (rAt v 0)).1 ∧ u = (rFa 80 (rAt v 0)).2) (fun (u : RV) t => zB G (va_A (rk Z a v) sz) (rk Z a u) t) (va_A (rk Z a v) sz)) 0 0 (va_A (rk Z a v) sz) := by
  refine Met.ofW (cc := cX5_firstFault) (maxL := 2) (ret := (some .int)) (by decide) rfl ?_
  intro p e s m args below meth c s₁ B hml hv
  have hx := B.exec
  have hb := B.bytes
  have hr := B.returns
  have hts := atoms_spec (ws := wsX5_firstFault) B.pre
  have hown : s.vm.findClass RX5 = some m.cls := findClass_of_methodNamed B.named
  have hlocks := B.notSynchronized
  obtain ⟨rfl, hsz, hP, hK, hD, hA, hS, hSW⟩ := zEnter hv
  subst hsz
  generalize va_A (rk Z a v) s.heap.size = A at hD hA hS hSW ⊢
  have k_18 := hts (.fieldLink RX5 18 "WarmRods$Reader" "place" "I") (List.mem_of_getElem? (i := 1) rfl)
  have iX5 : ∀ w ∈ u_ws RX5 TX5 8, w ∈ wsX5_firstFault := fun _ h => List.mem_cons_of_mem _ (List.mem_append_left _ (List.mem_append_right _ h))
  have k_12 := hts (.fieldLink RX5 12 "WarmRods$Reader" "pad" "LWarmRods$Pad;") (List.mem_of_getElem? (i := 2) rfl)
  have k_29 : (Cond.fieldLinkNest RX5 29 "WarmRods$Pad" "length" "I" "WarmRods").before (#[.ref (a 0)] : Array Value) s = true := va_Nw.use rfl (hSW.1.1 _ (List.mem_of_getElem? (i := 17) rfl))
  have iX4 : ∀ w ∈ u_ws RX4 TX4 2, w ∈ wsX5_firstFault := fun _ h => List.mem_cons_of_mem _ (List.mem_append_right _ h)
  have hP : va_P G vwCl (rk Z a v) s.heap := hP
  have hl := lv_entry ([.ref (a 0)]) (n := 2) (Nat.le_of_ble_eq_true rfl)
  rw [lg_entry_eq]
  generalize (lg_sl ([.ref (a 0)]) ++ List.replicate (2 - (lg_sl ([.ref (a 0)])).length) Slot.unset).toArray = ls at hl ⊢
  have hl : lv_has ls 2 [(0, .ref (a 0))] := hl
  refine lv_aload_n hx hb dX5_firstFault_0 rfl (lv_at hl 0 rfl) ?_
  refine zCv (S := Unit) (ws1 := fun u => rk Z a (v.1, v.2.1, 0, v.2.2.2.1, v.2.2.2.2.1, v.2.2.2.2.2.1, v.2.2.2.2.2.2.1, v.2.2.2.2.2.2.2.1, v.2.2.2.2.2.2.2.2)) (wr := []) (va_runV (As := []) (rest := []) ⟨hx, hb, hml, hown, hts⟩ (m_X5_start l G Z _ a v.1 v.2.1 v.2.2.1 v.2.2.2.1 v.2.2.2.2.1 v.2.2.2.2.2.1 v.2.2.2.2.2.2.1 v.2.2.2.2.2.2.2.1 v.2.2.2.2.2.2.2.2) (cwV 0 hts gX5_firstFault_X5_start rfl rfl rfl (by decide +kernel) ⟨Nat.le_of_ble_eq_true rfl, Nat.le_of_ble_eq_true rfl⟩) (zPreV hK hP hD hS hA hSW [0, 1, 2] rfl (by decide) 0 (ci := 5) rfl rfl rfl) rfl rfl hl.1 rfl (lv_room (Nat.le_of_ble_eq_true rfl)) dX5_firstFault_1 ⟨Nat.le_of_ble_eq_true rfl, Nat.le_of_ble_eq_true rfl⟩) hP hD hS hA [0, 1, 2] [] [0, 1, 2] rfl rfl (by decide) (by decide) (by decide) (fun _ => rfl) (fun u H locs hw1 hP hD hS => ?_)
  try dsimp only at hw1
  have hP : va_P G vwCl (rk Z a (v.1, v.2.1, 0, v.2.2.2.1, v.2.2.2.2.1, v.2.2.2.2.2.1, v.2.2.2.2.2.2.1, v.2.2.2.2.2.2.2.1, v.2.2.2.2.2.2.2.2)) H := hP
  have hD : va_D A (rk Z a (v.1, v.2.1, 0, v.2.2.2.1, v.2.2.2.2.1, v.2.2.2.2.2.1, v.2.2.2.2.2.2.1, v.2.2.2.2.2.2.2.1, v.2.2.2.2.2.2.2.2)) := hD
  refine lv_iconst (v := 0) hx hb dX5_firstFault_4 (by decide) ?_
  refine lv_istore_n (lv' := [(1, .int 0), (0, .ref (a 0))]) hx hb dX5_firstFault_5 rfl hl (by decide) rfl (fun ls hl => ?_)
  refine zLoop (σ := Nat × RV) (nL := 2) (fun x => rk Z a x.2) (fun x => [(1, .int (nI x.1)), (0, .ref (a 0))]) (fun x => rFa (80 - x.1) x.2 = rFa 80 (rAt v 0) ∧ x.1 ≤ 80 ∧ (x.2).2.2.1 ≤ 80 ∧ (x.2).2.1 = v.2.1) (fun x => 80 - x.1) ?_ (0, (rAt v 0)) (by
      try dsimp only
      exact ⟨rfl, by omega, Nat.zero_le _, rfl⟩) hP hD hS (lv_sub hl [0, 1] rfl)
  intro x hinv6 ih6 H locs ls hP hD hS hl
  obtain ⟨k, w⟩ := x
  try dsimp only at hinv6 ih6
  have hP : va_P G vwCl (rk Z a w) H := hP
  have hD : va_D A (rk Z a w) := hD
  have hl : lv_has ls 2 [(1, .int (nI k)), (0, .ref (a 0))] := hl
  refine lv_iload_n hx hb dX5_firstFault_6 rfl (lv_at hl 0 rfl) ?_
  refine lv_bipush (v := 80) hx hb dX5_firstFault_7 (by decide) ?_
  refine lv_icmp_ge (tgt := 61) hx hb dX5_firstFault_9 (by decide) (fun c9 => ?_) (fun c9 => ?_)
  · refine lv_aload_n hx hb dX5_firstFault_61 rfl (lv_at hl 1 rfl) ?_
    refine va_get (D := G) (ci := 5) (v := .int (nI w.2.2.1)) (C := RX5) (T := TX5) (N := 8) hx hb hts iX5 hown hK hP 0 rfl rfl 1 (by decide) k_18 (fun _ h9 => h9) rfl dX5_firstFault_62 ?_
    exact W.iret hx hb hr (zEi w (by
        have hk := zLe (a := 80) c9 (by omega) (by omega)
        rw [← hinv6.1, show 80 - k = 0 by omega]
        exact ⟨rfl, rfl⟩) hP hD hS) hS.2.2 dX5_firstFault_65
  · have hk := zNle (a := 80) c9 (by omega) (by omega)
    rw [show 80 - k = (79 - k) + 1 by omega, rFa] at hinv6
    refine lv_aload_n hx hb dX5_firstFault_12 rfl (lv_at hl 1 rfl) ?_
    refine zCi (S := RV) (ws1 := fun u => rk Z a u) (wr := []) (va_runV (As := []) (rest := []) ⟨hx, hb, hml, hown, hts⟩ (m_X5_readOrder l G Z _ a w (by
        exact hinv6.2.2.1) (by
        rw [hinv6.2.2.2]; exact hle)) (cwV 0 hts gX5_firstFault_X5_readOrder rfl rfl rfl (by decide +kernel) ⟨Nat.le_of_ble_eq_true rfl, Nat.le_of_ble_eq_true rfl⟩) (zPreV hK hP hD hS hA hSW [0, 1, 2] rfl (by decide) 0 (ci := 5) rfl rfl rfl) rfl rfl hl.1 rfl (lv_room (Nat.le_of_ble_eq_true rfl)) dX5_firstFault_13 ⟨Nat.le_of_ble_eq_true rfl, Nat.le_of_ble_eq_true rfl⟩) hP hD hS hA [0, 1, 2] [] [0, 1, 2] rfl rfl (by decide) (by decide) (by decide) (fun _ => rfl) (fun r13 u H locs hw13 hP hD hS => ?_)
    obtain ⟨v1_13, rfl⟩ : ∃ z, z = u := ⟨_, rfl⟩
    try dsimp only at hw13
    obtain ⟨rfl, rfl⟩ := hw13
    have hP : va_P G vwCl (rk Z a ((rOrd w).2)) H := hP
    have hD : va_D A (rk Z a ((rOrd w).2)) := hD
    refine lv_if_ne (tgt := 24) hx hb dX5_firstFault_16 (by decide) (fun c16 => ?_) (fun c16 => ?_)
    · refine lv_aload_n hx hb dX5_firstFault_24 rfl (lv_at hl 1 rfl) ?_
      refine va_get (D := G) (ci := 5) (v := .int (nI (((rOrd w).2).2.2.1))) (C := RX5) (T := TX5) (N := 8) hx hb hts iX5 hown hK hP 0 rfl rfl 1 (by decide) k_18 (fun _ h9 => h9) rfl dX5_firstFault_25 ?_
      refine lv_aload_n hx hb dX5_firstFault_28 rfl (lv_at hl 1 rfl) ?_
      refine va_get (D := G) (ci := 5) (v := .ref (a 1)) (C := RX5) (T := TX5) (N := 8) hx hb hts iX5 hown hK hP 0 rfl rfl 0 (by decide) k_12 (fun _ h9 => h9) rfl dX5_firstFault_29 ?_
      refine va_getN (D := G) (ci := 4) (v := .int (nI (((rOrd w).2).2.1))) (C := RX4) (T := TX4) (N := 2) hx hb hts iX4 hown hK hP 1 rfl rfl 1 (by decide) k_29 (fun _ h9 => h9) rfl dX5_firstFault_32 ?_
      refine lv_icmp_ne (tgt := 41) hx hb dX5_firstFault_35 (by decide) (fun c35 => ?_) (fun c35 => ?_)
      · refine lv_aload_n hx hb dX5_firstFault_41 rfl (lv_at hl 1 rfl) ?_
        refine lv_bipush (v := 59) hx hb dX5_firstFault_42 (by decide) ?_
        refine zCi (S := Nat) (ws1 := fun u => rk Z a ((((rOrd w).2).1), (((rOrd w).2).2.1), u, (((rOrd w).2).2.2.2.1), (((rOrd w).2).2.2.2.2.1), (((rOrd w).2).2.2.2.2.2.1), (((rOrd w).2).2.2.2.2.2.2.1), (((rOrd w).2).2.2.2.2.2.2.2.1), (((rOrd w).2).2.2.2.2.2.2.2.2))) (wr := []) (va_runV (As := [.int 59]) (rest := []) ⟨hx, hb, hml, hown, hts⟩ (m_X5_readSign l G Z _ a (((rOrd w).2).1) (((rOrd w).2).2.1) (((rOrd w).2).2.2.1) (((rOrd w).2).2.2.2.1) (((rOrd w).2).2.2.2.2.1) (((rOrd w).2).2.2.2.2.2.1) (((rOrd w).2).2.2.2.2.2.2.1) (((rOrd w).2).2.2.2.2.2.2.2.1) (((rOrd w).2).2.2.2.2.2.2.2.2) 59 (by
            exact rOrd_le hinv6.2.2.1) (by
            rw [rOrd_len, hinv6.2.2.2]; exact hle)) (cwV 1 hts gX5_firstFault_X5_readSign rfl rfl rfl (by decide +kernel) ⟨Nat.le_of_ble_eq_true rfl, Nat.le_of_ble_eq_true rfl⟩) (zPreV hK hP hD hS hA hSW [0, 1, 2] rfl (by decide) 0 (ci := 5) rfl rfl rfl) rfl rfl hl.1 rfl (lv_room (Nat.le_of_ble_eq_true rfl)) dX5_firstFault_44 ⟨Nat.le_of_ble_eq_true rfl, Nat.le_of_ble_eq_true rfl⟩) hP hD hS hA [0, 1, 2] [] [0, 1, 2] rfl rfl (by decide) (by decide) (by decide) (fun _ => rfl) (fun r44 u H locs hw44 hP hD hS => ?_)
        obtain ⟨p1_44, rfl⟩ : ∃ z, z = u := ⟨_, rfl⟩
        try dsimp only at hw44
        obtain ⟨rfl, rfl⟩ := hw44
        have hP : va_P G vwCl (rk Z a ((((rOrd w).2).1), (((rOrd w).2).2.1), (rSgP (((rOrd w).2).1) (((rOrd w).2).2.1) (((rOrd w).2).2.2.1) 59), (((rOrd w).2).2.2.2.1), (((rOrd w).2).2.2.2.2.1), (((rOrd w).2).2.2.2.2.2.1), (((rOrd w).2).2.2.2.2.2.2.1), (((rOrd w).2).2.2.2.2.2.2.2.1), (((rOrd w).2).2.2.2.2.2.2.2.2))) H := hP
        have hD : va_D A (rk Z a ((((rOrd w).2).1), (((rOrd w).2).2.1), (rSgP (((rOrd w).2).1) (((rOrd w).2).2.1) (((rOrd w).2).2.2.1) 59), (((rOrd w).2).2.2.2.1), (((rOrd w).2).2.2.2.2.1), (((rOrd w).2).2.2.2.2.2.1), (((rOrd w).2).2.2.2.2.2.2.1), (((rOrd w).2).2.2.2.2.2.2.2.1), (((rOrd w).2).2.2.2.2.2.2.2.2))) := hD
        refine lv_if_ne (tgt := 55) hx hb dX5_firstFault_47 (by decide) (fun c47 => ?_) (fun c47 => ?_)
        · refine lv_iinc (v := (nI (k + 1))) (lv' := [(1, .int (nI (k + 1))), (0, .ref (a 0))]) hx hb dX5_firstFault_55 hl (k := 0) rfl (nI_succ k).symm (by decide) rfl (fun ls hl => ?_)
          refine lv_goto (tgt := 6) hx hb dX5_firstFault_58 (by decide) ?_
          exact ih6 ((k + 1), (rAt (rOrd w).2 (rSgP (rOrd w).2.1 (rOrd w).2.2.1 (rOrd w).2.2.2.1 59))) (by
              try dsimp only
              rw [if_neg c16, if_neg c35, if_neg c47] at hinv6
              refine ⟨(by rw [show 80 - (k + 1) = 79 - k by omega]; exact hinv6.1), by omega, rSgP_le (by decide) (rOrd_le hinv6.2.2.1), ?_⟩
              rw [rOrd_len]
              exact hinv6.2.2.2) (by
              try dsimp only
              omega) _ _ _ hP hD hS (lv_sub hl [0, 1] rfl)
        · refine lv_aload_n hx hb dX5_firstFault_50 rfl (lv_at hl 1 rfl) ?_
          refine va_get (D := G) (ci := 5) (v := .int (nI (rSgP (((rOrd w).2).1) (((rOrd w).2).2.1) (((rOrd w).2).2.2.1) 59))) (C := RX5) (T := TX5) (N := 8) hx hb hts iX5 hown hK hP 0 rfl rfl 1 (by decide) k_18 (fun _ h9 => h9) rfl dX5_firstFault_51 ?_
          exact W.iret hx hb hr (zEi ((((rOrd w).2).1), (((rOrd w).2).2.1), (rSgP (((rOrd w).2).1) (((rOrd w).2).2.1) (((rOrd w).2).2.2.1) 59), (((rOrd w).2).2.2.2.1), (((rOrd w).2).2.2.2.2.1), (((rOrd w).2).2.2.2.2.2.1), (((rOrd w).2).2.2.2.2.2.2.1), (((rOrd w).2).2.2.2.2.2.2.2.1), (((rOrd w).2).2.2.2.2.2.2.2.2)) (by
              rw [← hinv6.1, if_neg c16, if_neg c35, if_pos c47]
              exact ⟨rfl, rfl⟩) hP hD hS) hS.2.2 dX5_firstFault_54
      · refine lv_bipush (v := (-6)) hx hb dX5_firstFault_38 (by decide) ?_
        exact W.iret hx hb hr (zEi ((rOrd w).2) (by
            rw [← hinv6.1, if_neg c16, if_pos c35]
            exact ⟨rfl, rfl⟩) hP hD hS) hS.2.2 dX5_firstFault_40
    · refine lv_aload_n hx hb dX5_firstFault_19 rfl (lv_at hl 1 rfl) ?_
      refine va_get (D := G) (ci := 5) (v := .int (nI (((rOrd w).2).2.2.1))) (C := RX5) (T := TX5) (N := 8) hx hb hts iX5 hown hK hP 0 rfl rfl 1 (by decide) k_18 (fun _ h9 => h9) rfl dX5_firstFault_20 ?_
      exact W.iret hx hb hr (zEi ((rOrd w).2) (by
          rw [← hinv6.1, if_pos c16]
          exact ⟨rfl, rfl⟩) hP hD hS) hS.2.2 dX5_firstFault_23

set_option maxHeartbeats 4000000 in
set_option maxRecDepth 100000 in
theorem m_X5_init (l : Launch) (G : va_G) (Z : Nat → ClassId) (sz : Nat) (h : Nat) (nu : Int32) (od : Int32) (va : Int32) (ai : Int32) (rd : Int32) (hh : Int32)  : Met l yX5_init wsX5_init ({ frames := 2, cells := 2, slots := 82, locals := 32 }) (va_Pc [.ref h] (zWP G Z sz ([(h, .inr (5, [.null, .int 0, .int nu, .int od, .int va, .int ai, .int rd, .int hh]))]))) (va_Qv (fun (u : Nat × Nat) => True) (fun (u : Nat × Nat) t => zB G (va_A ([(h, .inr (5, [.null, .int 0, .int nu, .int od, .int va, .int ai, .int rd, .int hh]))]) sz) ([(h, .inr (5, [.ref u.1, .int 0, .int nu, .int od, .int va, .int ai, .int rd, .int hh])), (u.1, .inr (4, [.ref u.2, .int 0])), (u.2, .inl (Z 1, 80, .inl (fun _ => 0)))]) t) (va_A ([(h, .inr (5, [.null, .int 0, .int nu, .int od, .int va, .int ai, .int rd, .int hh]))]) sz)) 2 82 (va_A ([(h, .inr (5, [.null, .int 0, .int nu, .int od, .int va, .int ai, .int rd, .int hh]))]) sz) := by
  refine Met.ofW (cc := cX5_init) (maxL := 1) (ret := none) (by decide) rfl ?_
  intro p e s m args below meth c s₁ B hml hv
  have hx := B.exec
  have hb := B.bytes
  have hr := B.returns
  have hts := atoms_spec (ws := wsX5_init) B.pre
  have hown : s.vm.findClass RX5 = some m.cls := findClass_of_methodNamed B.named
  have hlocks := B.notSynchronized
  have hin : meth.name = "<init>" := (name_of_methodNamed B.named B.method).1
  obtain ⟨rfl, hsz, hP, hK, hD, hA, hS, hSW⟩ := zEnter hv
  subst hsz
  generalize va_A ([(h, .inr (5, [.null, .int 0, .int nu, .int od, .int va, .int ai, .int rd, .int hh]))]) s.heap.size = A at hD hA hS hSW ⊢
  have k_3 := hts (.methodLink RX5 3 objectInit) (List.mem_of_getElem? (i := 1) rfl)
  have kio := hts (.instanceMethod objectInit) (List.mem_of_getElem? (i := 2) rfl)
  have kco := hts (.code objectInit ⟨#[0xb1]⟩ 1 none) (List.mem_of_getElem? (i := 3) rfl)
  have k_9 := hts (.classLink RX5 9 RX4) (List.mem_of_getElem? (i := 4) rfl)
  have kin_X4 := hts (.instantiable RX4 2) (List.mem_of_getElem? (i := 5) rfl)
  have kini_X4 := hts (.initialized RX4) (List.mem_of_getElem? (i := 6) rfl)
  have iX4 : ∀ w ∈ u_ws RX4 TX4 2, w ∈ wsX5_init := fun _ h => List.mem_cons_of_mem _ (List.mem_append_left _ (List.mem_append_right _ h))
  have kins_X4_init := hts (.instanceMethod yX4_init) (List.mem_of_getElem? (i := 8) rfl)
  have k_12 := hts (.fieldLink RX5 12 "WarmRods$Reader" "pad" "LWarmRods$Pad;") (List.mem_of_getElem? (i := 7) rfl)
  have iX5 : ∀ w ∈ u_ws RX5 TX5 8, w ∈ wsX5_init := fun _ h => List.mem_cons_of_mem _ (List.mem_append_right _ h)
  have hP : va_P G vwCl ([(h, .inr (5, [.null, .int 0, .int nu, .int od, .int va, .int ai, .int rd, .int hh]))]) s.heap := hP
  have hl := lv_entry ([.ref h]) (n := 1) (Nat.le_of_ble_eq_true rfl)
  rw [lg_entry_eq]
  generalize (lg_sl ([.ref h]) ++ List.replicate (1 - (lg_sl ([.ref h])).length) Slot.unset).toArray = ls at hl ⊢
  have hl : lv_has ls 1 [(0, .ref h)] := hl
  refine lv_aload_n hx hb dX5_init_0 rfl (lv_at hl 0 rfl) ?_
  refine W.objInit hx hb hown k_3 kio kco rfl (by rw [hml]; exact hl.1) rfl dX5_init_1 (Nat.le_of_ble_eq_true rfl) (Nat.le_of_ble_eq_true rfl) ?_
  refine W.eq (g2 := F0 m 4 ls []) rfl ?_
  refine lv_aload_n hx hb dX5_init_4 rfl (lv_at hl 0 rfl) ?_
  refine va_new (ci := 4) (fs := [.null, .int 0]) (C := RX4) (T := TX4) (N := 2) hx hb hts iX4 tyX4 tyX4_ok hown k_9 kin_X4 kini_X4 hK hP hD hS hA rfl (fun j hj => by rcases (show j = 0 ∨ j = 1 by omega) with rfl | rfl <;> rfl) (Nat.le_of_ble_eq_true rfl) (Nat.le_of_ble_eq_true rfl) dX5_init_5 (fun q5 H hP hD hS => ?_)
  have hP : va_P G vwCl ([(h, .inr (5, [.null, .int 0, .int nu, .int od, .int va, .int ai, .int rd, .int hh])), (q5, .inr (4, [.null, .int 0]))]) H := hP
  have hD : va_D A ([(h, .inr (5, [.null, .int 0, .int nu, .int od, .int va, .int ai, .int rd, .int hh])), (q5, .inr (4, [.null, .int 0]))]) := hD
  refine lv_dup hx hb dX5_init_8 rfl ?_
  refine zCv (S := Nat) (ws1 := fun u => [(h, .inr (5, [.null, .int 0, .int nu, .int od, .int va, .int ai, .int rd, .int hh])), (q5, .inr (4, [.ref u, .int 0])), (u, .inl (Z 1, 80, .inl (fun _ => 0)))]) (wr := [(h, .inr (5, [.null, .int 0, .int nu, .int od, .int va, .int ai, .int rd, .int hh]))]) (va_runIN (As := []) (rest := [.ref q5, .ref h]) ⟨hx, hb, hml, hown, hts⟩ (m_X4_init l G Z _ q5) (⟨va_cnB 0 hts ggX5_init_X4_init rfl rfl rfl (hSW.1.1 (.methodLinkNest RX5 11 yX4_init "WarmRods") (List.mem_of_getElem? (i := 16) rfl)) kini_X4 (by decide +kernel) ⟨Nat.le_of_ble_eq_true rfl, Nat.le_of_ble_eq_true rfl⟩, rfl, kins_X4_init⟩) (zPreS hK hP hD hS hA hSW [1] rfl (by decide)) rfl rfl hl.1 rfl (lv_room (Nat.le_of_ble_eq_true rfl)) dX5_init_9 ⟨Nat.le_of_ble_eq_true rfl, Nat.le_of_ble_eq_true rfl⟩) hP hD hS hA [1] [0] [0, 1, 2] rfl rfl (by decide) (by decide) (by decide) (fun _ => rfl) (fun u H locs hw9 hP hD hS => ?_)
  obtain ⟨q_9, rfl⟩ : ∃ z, z = u := ⟨_, rfl⟩
  try dsimp only at hw9
  have hP : va_P G vwCl ([(h, .inr (5, [.null, .int 0, .int nu, .int od, .int va, .int ai, .int rd, .int hh])), (q5, .inr (4, [.ref q_9, .int 0])), (q_9, .inl (Z 1, 80, .inl (fun _ => 0)))]) H := hP
  have hD : va_D A ([(h, .inr (5, [.null, .int 0, .int nu, .int od, .int va, .int ai, .int rd, .int hh])), (q5, .inr (4, [.ref q_9, .int 0])), (q_9, .inl (Z 1, 80, .inl (fun _ => 0)))]) := hD
  refine va_putF (D := G) (ci := 5) (v := .ref q5) (ty := .object "WarmRods$Pad") (C := RX5) (T := TX5) (N := 8) hx hb hts iX5 tyX5 tyX5_ok nmX5 hown hK hP hD hS 0 rfl rfl 0 (by decide) k_12 (fun _ h9 => h9) rfl hin rfl (by decide +kernel) rfl rfl (Nat.le_of_ble_eq_true rfl) dX5_init_12 (fun H locs hP hD hS => ?_)
  have hP : va_P G vwCl ([(h, .inr (5, [.ref q5, .int 0, .int nu, .int od, .int va, .int ai, .int rd, .int hh])), (q5, .inr (4, [.ref q_9, .int 0])), (q_9, .inl (Z 1, 80, .inl (fun _ => 0)))]) H := hP
  have hD : va_D A ([(h, .inr (5, [.ref q5, .int 0, .int nu, .int od, .int va, .int ai, .int rd, .int hh])), (q5, .inr (4, [.ref q_9, .int 0])), (q_9, .inl (Z 1, 80, .inl (fun _ => 0)))]) := hD
  refine W.widen (k := 2) (n := 82) (by omega) (by omega) ?_
  exact W.vret hx hb hr (zEv (q5, q_9) (by
      trivial) hP hD hS) hS.2.2 dX5_init_15
