set_option maxHeartbeats 4000000 in
set_option maxRecDepth 100000 in
theorem m_X8_undo (l : Launch) (G : va_G) (Z : Nat → ClassId) (sz : Nat) (b : Nat → Nat) (al : Nat → Int32) (ke : Nat → Int32) (hs : Nat → Int32) (hq : Nat) (sl : Nat → Int32) (sa : Nat → Int32) (off : Int32) (car : Int32) (pa : Nat → Int32) (pq : Nat) (sp : Nat) (nu : Int32) (dn : Int32) (er : Int32) (hhq : hq ≤ 6) : Met l yX8_undo wsX8_undo ({ frames := 0, cells := 0, slots := 0, locals := 0 }) (va_Pc [.ref (b 0)] (zWP G Z sz (mk Z b (al, ke, hs, hq, sl, sa, off, car, pa, pq, sp, nu, dn, er)))) (va_Qi (fun (r : Int32) (u : (Nat → Int32) × Nat) => r = (if hq = 0 then -5 else nI (hq - 1)) ∧ u.1 = (if hq = 0 then al else mPut (fun j => hs (347 * (hq - 1) + j)) al 0 347) ∧ u.2 = (if hq = 0 then hq else hq - 1)) (fun (u : (Nat → Int32) × Nat) t => zB G (va_A (mk Z b (al, ke, hs, hq, sl, sa, off, car, pa, pq, sp, nu, dn, er)) sz) (mk Z b (u.1, ke, hs, u.2, sl, sa, off, car, pa, pq, sp, nu, dn, er)) t) (va_A (mk Z b (al, ke, hs, hq, sl, sa, off, car, pa, pq, sp, nu, dn, er)) sz)) 0 0 (va_A (mk Z b (al, ke, hs, hq, sl, sa, off, car, pa, pq, sp, nu, dn, er)) sz) := by
  refine Met.ofW (cc := cX8_undo) (maxL := 2) (ret := (some .int)) (by decide) rfl ?_
  intro p e s m args below meth c s₁ B hml hv
  have hx := B.exec
  have hb := B.bytes
  have hr := B.returns
  have hts := atoms_spec (ws := wsX8_undo) B.pre
  have hown : s.vm.findClass RX8 = some m.cls := findClass_of_methodNamed B.named
  have hlocks := B.notSynchronized
  obtain ⟨rfl, hsz, hP, hK, hD, hA, hS, hSW⟩ := zEnter hv
  subst hsz
  generalize va_A (mk Z b (al, ke, hs, hq, sl, sa, off, car, pa, pq, sp, nu, dn, er)) s.heap.size = A at hD hA hS hSW ⊢
  have k_28 := hts (.fieldLink RX8 28 "WarmRodsModel" "historyLong" "I") (List.mem_of_getElem? (i := 1) rfl)
  have iX8 : ∀ w ∈ u_ws RX8 TX8 14, w ∈ wsX8_undo := fun _ h => List.mem_cons_of_mem _ (List.mem_append_right _ h)
  have k_7 := hts (.fieldLink RX8 7 "WarmRodsModel" "all" "[I") (List.mem_of_getElem? (i := 2) rfl)
  have k_16 := hts (.fieldLink RX8 16 "WarmRodsModel" "history" "[I") (List.mem_of_getElem? (i := 3) rfl)
  have hP : va_P G vwCl (mk Z b (al, ke, hs, hq, sl, sa, off, car, pa, pq, sp, nu, dn, er)) s.heap := hP
  have hl := lv_entry ([.ref (b 0)]) (n := 2) (Nat.le_of_ble_eq_true rfl)
  rw [lg_entry_eq]
  generalize (lg_sl ([.ref (b 0)]) ++ List.replicate (2 - (lg_sl ([.ref (b 0)])).length) Slot.unset).toArray = ls at hl ⊢
  have hl : lv_has ls 2 [(0, .ref (b 0))] := hl
  refine lv_aload_n hx hb dX8_undo_0 rfl (lv_at hl 0 rfl) ?_
  refine va_get (D := G) (ci := 8) (v := .int (nI hq)) (C := RX8) (T := TX8) (N := 14) hx hb hts iX8 hown hK hP 0 rfl rfl 3 (by decide) k_28 (fun _ h9 => h9) rfl dX8_undo_1 ?_
  refine lv_if_ne (tgt := 10) hx hb dX8_undo_4 (by decide) (fun c4 => ?_) (fun c4 => ?_)
  · have hk0 : ¬ hq = 0 := fun q => c4 (by rw [q]; rfl)
    obtain ⟨q0, rfl⟩ : ∃ j, hq = j + 1 := ⟨hq - 1, by omega⟩
    refine lv_aload_n hx hb dX8_undo_10 rfl (lv_at hl 0 rfl) ?_
    refine lv_dup hx hb dX8_undo_11 rfl ?_
    refine va_get (D := G) (ci := 8) (v := .int (nI (q0 + 1))) (C := RX8) (T := TX8) (N := 14) hx hb hts iX8 hown hK hP 0 rfl rfl 3 (by decide) k_28 (fun _ h9 => h9) rfl dX8_undo_12 ?_
    refine lv_iconst (v := 1) hx hb dX8_undo_15 (by decide) ?_
    refine lv_isub hx hb dX8_undo_16 ?_
    refine zTopI (y := (nI q0)) (nI_pred q0) ?_
    refine va_put (D := G) (ci := 8) (v := .int (nI q0)) (ty := .int) (C := RX8) (T := TX8) (N := 14) hx hb hts iX8 tyX8 tyX8_ok nmX8 hown hK hP hD hS 0 rfl rfl 3 (by decide) k_28 (fun _ h9 => h9) rfl (by decide +kernel) rfl rfl (Nat.le_of_ble_eq_true rfl) dX8_undo_17 (fun H locs hP hD hS => ?_)
    have hP : va_P G vwCl (mk Z b (al, ke, hs, q0, sl, sa, off, car, pa, pq, sp, nu, dn, er)) H := hP
    have hD : va_D A (mk Z b (al, ke, hs, q0, sl, sa, off, car, pa, pq, sp, nu, dn, er)) := hD
    refine lv_iconst (v := 0) hx hb dX8_undo_20 (by decide) ?_
    refine lv_istore_n (lv' := [(1, .int 0), (0, .ref (b 0))]) hx hb dX8_undo_21 rfl hl (by decide) rfl (fun ls hl => ?_)
    rw [← mPut_0 (fun j => hs (347 * q0 + j)) al 0] at hP hD
    refine zLoop (σ := Nat) (nL := 2) (fun zx => mk Z b ((mPut (fun j => hs (347 * q0 + j)) al 0 zx), ke, hs, q0, sl, sa, off, car, pa, pq, sp, nu, dn, er)) (fun zx => [(1, .int (nI zx)), (0, .ref (b 0))]) (fun zx => zx ≤ 347) (fun zx => 347 - zx) ?_ 0 (by
        try dsimp only
        omega) hP hD hS (lv_sub hl [0, 1] rfl)
    intro zx hinv22 ih22 H locs ls hP hD hS hl
    obtain ⟨k, rfl⟩ : ∃ z, z = zx := ⟨_, rfl⟩
    try dsimp only at hinv22 ih22
    have hP : va_P G vwCl (mk Z b ((mPut (fun j => hs (347 * q0 + j)) al 0 k), ke, hs, q0, sl, sa, off, car, pa, pq, sp, nu, dn, er)) H := hP
    have hD : va_D A (mk Z b ((mPut (fun j => hs (347 * q0 + j)) al 0 k), ke, hs, q0, sl, sa, off, car, pa, pq, sp, nu, dn, er)) := hD
    have hl : lv_has ls 2 [(1, .int (nI k)), (0, .ref (b 0))] := hl
    refine lv_iload_n hx hb dX8_undo_22 rfl (lv_at hl 0 rfl) ?_
    refine lv_sipush (v := 347) hx hb dX8_undo_23 (by decide) ?_
    refine lv_icmp_ge (tgt := 56) hx hb dX8_undo_26 (by decide) (fun c26 => ?_) (fun c26 => ?_)
    · have hk := zLe (a := 347) c26 (by omega) (by omega)
      obtain rfl : k = 347 := by omega
      refine lv_aload_n hx hb dX8_undo_56 rfl (lv_at hl 1 rfl) ?_
      refine va_get (D := G) (ci := 8) (v := .int (nI q0)) (C := RX8) (T := TX8) (N := 14) hx hb hts iX8 hown hK hP 0 rfl rfl 3 (by decide) k_28 (fun _ h9 => h9) rfl dX8_undo_57 ?_
      exact W.iret hx hb hr (zEi ((mPut (fun j => hs (347 * q0 + j)) al 0 347), q0) (by
          simp only [hk0, ↓reduceIte, Nat.add_sub_cancel, and_self]) hP hD hS) hS.2.2 dX8_undo_60
    · refine lv_aload_n hx hb dX8_undo_29 rfl (lv_at hl 1 rfl) ?_
      refine va_get (D := G) (ci := 8) (v := .ref (b 1)) (C := RX8) (T := TX8) (N := 14) hx hb hts iX8 hown hK hP 0 rfl rfl 0 (by decide) k_7 (fun _ h9 => h9) rfl dX8_undo_30 ?_
      refine lv_iload_n hx hb dX8_undo_33 rfl (lv_at hl 0 rfl) ?_
      refine lv_aload_n hx hb dX8_undo_34 rfl (lv_at hl 1 rfl) ?_
      refine va_get (D := G) (ci := 8) (v := .ref (b 3)) (C := RX8) (T := TX8) (N := 14) hx hb hts iX8 hown hK hP 0 rfl rfl 2 (by decide) k_16 (fun _ h9 => h9) rfl dX8_undo_35 ?_
      refine lv_sipush (v := 347) hx hb dX8_undo_38 (by decide) ?_
      refine lv_aload_n hx hb dX8_undo_41 rfl (lv_at hl 1 rfl) ?_
      refine va_get (D := G) (ci := 8) (v := .int (nI q0)) (C := RX8) (T := TX8) (N := 14) hx hb hts iX8 hown hK hP 0 rfl rfl 3 (by decide) k_28 (fun _ h9 => h9) rfl dX8_undo_42 ?_
      refine lv_imul hx hb dX8_undo_45 ?_
      refine lv_iload_n hx hb dX8_undo_46 rfl (lv_at hl 0 rfl) ?_
      refine lv_iadd hx hb dX8_undo_47 ?_
      refine zIald (f := hs) hx hb hK hP 3 0 rfl rfl (347 * q0 + k) (by rw [show (347 : Int32) = nI 347 from rfl, pk_mul, nI_add]) (by have hk := zNle (a := 347) c26 (by omega) (by omega); omega) (by decide) dX8_undo_48 ?_
      refine zIast (f := (mPut (fun j => hs (347 * q0 + j)) al 0 k)) hx hb hK hP hD hS 1 0 rfl rfl (0 + k) (by rw [Nat.zero_add]) (by have hk := zNle (a := 347) c26 (by omega) (by omega); omega) (by decide) dX8_undo_49 (fun H locs hP hD hS => ?_)
      have hP : va_P G vwCl (mk Z b ((upd (mPut (fun j => hs (347 * q0 + j)) al 0 k) (0 + k) (hs (347 * q0 + k))), ke, hs, q0, sl, sa, off, car, pa, pq, sp, nu, dn, er)) H := hP
      have hD : va_D A (mk Z b ((upd (mPut (fun j => hs (347 * q0 + j)) al 0 k) (0 + k) (hs (347 * q0 + k))), ke, hs, q0, sl, sa, off, car, pa, pq, sp, nu, dn, er)) := hD
      refine lv_iinc (v := (nI (k + 1))) (lv' := [(1, .int (nI (k + 1))), (0, .ref (b 0))]) hx hb dX8_undo_50 hl (k := 0) rfl (nI_succ k).symm (by decide) rfl (fun ls hl => ?_)
      refine lv_goto (tgt := 22) hx hb dX8_undo_53 (by decide) ?_
      have e_k : upd (mPut (fun j => hs (347 * q0 + j)) al 0 k) (0 + k) (hs (347 * q0 + k)) = mPut (fun j => hs (347 * q0 + j)) al 0 (k + 1) := mPut_s _ _ _ _
      rw [e_k] at hP hD
      exact ih22 (k + 1) (by
          try dsimp only
          have hk := zNle (a := 347) c26 (by omega) (by omega)
          omega) (by
          try dsimp only
          have hk := zNle (a := 347) c26 (by omega) (by omega)
          omega) _ _ _ hP hD hS (lv_sub hl [0, 1] rfl)
  · refine lv_bipush (v := (-5)) hx hb dX8_undo_7 (by decide) ?_
    exact W.iret hx hb hr (zEi (al, hq) (by
        have hk0 : hq = 0 := by
          rcases Nat.eq_zero_or_pos hq with q | q
          · exact q
          · exact absurd c4 (nI_ne0 q (by omega))
        simp only [hk0, ↓reduceIte, and_self]) hP hD hS) hS.2.2 dX8_undo_9

set_option maxHeartbeats 4000000 in
set_option maxRecDepth 100000 in
theorem m_X8_save (l : Launch) (G : va_G) (Z : Nat → ClassId) (sz : Nat) (b : Nat → Nat) (al : Nat → Int32) (ke : Nat → Int32) (hs : Nat → Int32) (hq : Nat) (sl : Nat → Int32) (sa : Nat → Int32) (off : Int32) (car : Int32) (pa : Nat → Int32) (pq : Nat) (sp : Nat) (nu : Int32) (dn : Int32) (er : Int32) (x : Int32)  : Met l yX8_save wsX8_save ({ frames := 1, cells := 0, slots := 0, locals := 25 }) (va_Pc [.ref (b 0), .int x] (zWP G Z sz (mk Z b (al, ke, hs, hq, sl, sa, off, car, pa, pq, sp, nu, dn, er)))) (va_Qi (fun (r : Int32) (u : (Nat → Int32) × (Nat → Int32)) => r = (if mRng x 0 1 = 0 then -2 else al 7) ∧ u.1 = (if mRng x 0 1 = 0 then sl else mPut al sl (347 * x.toNatClampNeg) 347) ∧ u.2 = (if mRng x 0 1 = 0 then sa else upd sa x.toNatClampNeg 1)) (fun (u : (Nat → Int32) × (Nat → Int32)) t => zB G (va_A (mk Z b (al, ke, hs, hq, sl, sa, off, car, pa, pq, sp, nu, dn, er)) sz) (mk Z b (al, ke, hs, hq, u.1, u.2, off, car, pa, pq, sp, nu, dn, er)) t) (va_A (mk Z b (al, ke, hs, hq, sl, sa, off, car, pa, pq, sp, nu, dn, er)) sz)) 0 0 (va_A (mk Z b (al, ke, hs, hq, sl, sa, off, car, pa, pq, sp, nu, dn, er)) sz) := by
  refine Met.ofW (cc := cX8_save) (maxL := 3) (ret := (some .int)) (by decide) rfl ?_
  intro p e s m args below meth c s₁ B hml hv
  have hx := B.exec
  have hb := B.bytes
  have hr := B.returns
  have hts := atoms_spec (ws := wsX8_save) B.pre
  have hown : s.vm.findClass RX8 = some m.cls := findClass_of_methodNamed B.named
  have hlocks := B.notSynchronized
  obtain ⟨rfl, hsz, hP, hK, hD, hA, hS, hSW⟩ := zEnter hv
  subst hsz
  generalize va_A (mk Z b (al, ke, hs, hq, sl, sa, off, car, pa, pq, sp, nu, dn, er)) s.heap.size = A at hD hA hS hSW ⊢
  have k_22 := hts (.fieldLink RX8 22 "WarmRodsModel" "isSaved" "[I") (List.mem_of_getElem? (i := 3) rfl)
  have iX8 : ∀ w ∈ u_ws RX8 TX8 14, w ∈ wsX8_save := fun _ h => List.mem_cons_of_mem _ (List.mem_append_right _ h)
  have k_7 := hts (.fieldLink RX8 7 "WarmRodsModel" "all" "[I") (List.mem_of_getElem? (i := 2) rfl)
  have k_19 := hts (.fieldLink RX8 19 "WarmRodsModel" "slots" "[I") (List.mem_of_getElem? (i := 1) rfl)
  have hP : va_P G vwCl (mk Z b (al, ke, hs, hq, sl, sa, off, car, pa, pq, sp, nu, dn, er)) s.heap := hP
  have hl := lv_entry ([.ref (b 0), .int x]) (n := 3) (Nat.le_of_ble_eq_true rfl)
  rw [lg_entry_eq]
  generalize (lg_sl ([.ref (b 0), .int x]) ++ List.replicate (3 - (lg_sl ([.ref (b 0), .int x])).length) Slot.unset).toArray = ls at hl ⊢
  have hl : lv_has ls 3 [(0, .ref (b 0)), (1, .int x)] := hl
  refine lv_iload_n hx hb dX8_save_0 rfl (lv_at hl 1 rfl) ?_
  refine lv_i2l (v := x.toInt64) hx hb dX8_save_1 rfl ?_
  refine lv_lconst (v := 0) hx hb dX8_save_2 (by decide) ?_
  refine lv_lconst (v := 1) hx hb dX8_save_3 (by decide) ?_
  refine zCi (S := Unit) (ws1 := fun u => mk Z b (al, ke, hs, hq, sl, sa, off, car, pa, pq, sp, nu, dn, er)) (wr := mk Z b (al, ke, hs, hq, sl, sa, off, car, pa, pq, sp, nu, dn, er)) (va_runS (As := [.long x.toInt64, .long 0, .long 1]) (rest := []) ⟨hx, hb, hml, hown, hts⟩ (m_X8_in l G Z _ x.toInt64 0 1) (va_cwS 3 hts gX8_save_X8_in rfl rfl rfl (by decide +kernel) ⟨Nat.le_of_ble_eq_true rfl, Nat.le_of_ble_eq_true rfl⟩) (zPreS hK hP hD hS hA hSW [] rfl (by decide)) rfl rfl hl.1 rfl (lv_room (Nat.le_of_ble_eq_true rfl)) dX8_save_4 ⟨Nat.le_of_ble_eq_true rfl, Nat.le_of_ble_eq_true rfl⟩) hP hD hS hA [] [0, 1, 2, 3, 4, 5, 6] [0, 1, 2, 3, 4, 5, 6] rfl rfl (by decide) (by decide) (by decide) (fun _ => rfl) (fun r4 u H locs hw4 hP hD hS => ?_)
  try dsimp only at hw4
  subst hw4
  have hP : va_P G vwCl (mk Z b (al, ke, hs, hq, sl, sa, off, car, pa, pq, sp, nu, dn, er)) H := hP
  have hD : va_D A (mk Z b (al, ke, hs, hq, sl, sa, off, car, pa, pq, sp, nu, dn, er)) := hD
  refine lv_if_ne (tgt := 13) hx hb dX8_save_7 (by decide) (fun c7 => ?_) (fun c7 => ?_)
  · rw [show mIn x.toInt64 0 1 = mRng x 0 1 from mIn_w x 0 1] at c7
    obtain ⟨hxv, -, hx1⟩ := zRange (lo := 0) (hi := 1) (by decide) (by decide) c7
    refine lv_iconst (v := 0) hx hb dX8_save_13 (by decide) ?_
    refine lv_istore_n (lv' := [(2, .int 0), (0, .ref (b 0)), (1, .int x)]) hx hb dX8_save_14 rfl hl (by decide) rfl (fun ls hl => ?_)
    rw [← mPut_0 al sl (347 * x.toNatClampNeg)] at hP hD
    refine zLoop (σ := Nat) (nL := 3) (fun zx => mk Z b (al, ke, hs, hq, (mPut al sl (347 * x.toNatClampNeg) zx), sa, off, car, pa, pq, sp, nu, dn, er)) (fun zx => [(2, .int (nI zx)), (0, .ref (b 0)), (1, .int x)]) (fun zx => zx ≤ 347) (fun zx => 347 - zx) ?_ 0 (by
        try dsimp only
        omega) hP hD hS (lv_sub hl [0, 1, 2] rfl)
    intro zx hinv15 ih15 H locs ls hP hD hS hl
    obtain ⟨k, rfl⟩ : ∃ z, z = zx := ⟨_, rfl⟩
    try dsimp only at hinv15 ih15
    have hP : va_P G vwCl (mk Z b (al, ke, hs, hq, (mPut al sl (347 * x.toNatClampNeg) k), sa, off, car, pa, pq, sp, nu, dn, er)) H := hP
    have hD : va_D A (mk Z b (al, ke, hs, hq, (mPut al sl (347 * x.toNatClampNeg) k), sa, off, car, pa, pq, sp, nu, dn, er)) := hD
    have hl : lv_has ls 3 [(2, .int (nI k)), (0, .ref (b 0)), (1, .int x)] := hl
    refine lv_iload_n hx hb dX8_save_15 rfl (lv_at hl 0 rfl) ?_
    refine lv_sipush (v := 347) hx hb dX8_save_16 (by decide) ?_
    refine lv_icmp_ge (tgt := 46) hx hb dX8_save_19 (by decide) (fun c19 => ?_) (fun c19 => ?_)
    · have hk := zLe (a := 347) c19 (by omega) (by omega)
      obtain rfl : k = 347 := by omega
      refine lv_aload_n hx hb dX8_save_46 rfl (lv_at hl 1 rfl) ?_
      refine va_get (D := G) (ci := 8) (v := .ref (b 5)) (C := RX8) (T := TX8) (N := 14) hx hb hts iX8 hown hK hP 0 rfl rfl 5 (by decide) k_22 (fun _ h9 => h9) rfl dX8_save_47 ?_
      refine lv_iload_n hx hb dX8_save_50 rfl (lv_at hl 2 rfl) ?_
      refine lv_iconst (v := 1) hx hb dX8_save_51 (by decide) ?_
      refine zIast (f := sa) hx hb hK hP hD hS 5 0 rfl rfl x.toNatClampNeg (hxv) (by omega) (by decide) dX8_save_52 (fun H locs hP hD hS => ?_)
      have hP : va_P G vwCl (mk Z b (al, ke, hs, hq, (mPut al sl (347 * x.toNatClampNeg) 347), (upd sa x.toNatClampNeg 1), off, car, pa, pq, sp, nu, dn, er)) H := hP
      have hD : va_D A (mk Z b (al, ke, hs, hq, (mPut al sl (347 * x.toNatClampNeg) 347), (upd sa x.toNatClampNeg 1), off, car, pa, pq, sp, nu, dn, er)) := hD
      refine lv_aload_n hx hb dX8_save_53 rfl (lv_at hl 1 rfl) ?_
      refine va_get (D := G) (ci := 8) (v := .ref (b 1)) (C := RX8) (T := TX8) (N := 14) hx hb hts iX8 hown hK hP 0 rfl rfl 0 (by decide) k_7 (fun _ h9 => h9) rfl dX8_save_54 ?_
      refine lv_bipush (v := 7) hx hb dX8_save_57 (by decide) ?_
      refine zIald (f := al) hx hb hK hP 1 0 rfl rfl 7 (by decide) (by decide) (by decide) dX8_save_59 ?_
      exact W.iret hx hb hr (zEi ((mPut al sl (347 * x.toNatClampNeg) 347), (upd sa x.toNatClampNeg 1)) (by
          simp only [c7, c19, Int32.not_lt.mpr c19, ↓reduceIte, and_self]) hP hD hS) hS.2.2 dX8_save_60
    · refine lv_aload_n hx hb dX8_save_22 rfl (lv_at hl 1 rfl) ?_
      refine va_get (D := G) (ci := 8) (v := .ref (b 4)) (C := RX8) (T := TX8) (N := 14) hx hb hts iX8 hown hK hP 0 rfl rfl 4 (by decide) k_19 (fun _ h9 => h9) rfl dX8_save_23 ?_
      refine lv_sipush (v := 347) hx hb dX8_save_26 (by decide) ?_
      refine lv_iload_n hx hb dX8_save_29 rfl (lv_at hl 2 rfl) ?_
      refine lv_imul hx hb dX8_save_30 ?_
      refine lv_iload_n hx hb dX8_save_31 rfl (lv_at hl 0 rfl) ?_
      refine lv_iadd hx hb dX8_save_32 ?_
      refine lv_aload_n hx hb dX8_save_33 rfl (lv_at hl 1 rfl) ?_
      refine va_get (D := G) (ci := 8) (v := .ref (b 1)) (C := RX8) (T := TX8) (N := 14) hx hb hts iX8 hown hK hP 0 rfl rfl 0 (by decide) k_7 (fun _ h9 => h9) rfl dX8_save_34 ?_
      refine lv_iload_n hx hb dX8_save_37 rfl (lv_at hl 0 rfl) ?_
      refine zIald (f := al) hx hb hK hP 1 0 rfl rfl k (rfl) (by have hk := zNle (a := 347) c19 (by omega) (by omega); omega) (by decide) dX8_save_38 ?_
      refine zIast (f := (mPut al sl (347 * x.toNatClampNeg) k)) hx hb hK hP hD hS 4 0 rfl rfl (347 * x.toNatClampNeg + k) ((congrArg (fun t => 347 * t + nI k) hxv).trans (by show 347 * nI x.toNatClampNeg + nI k = _; rw [show (347 : Int32) = nI 347 from rfl, pk_mul, nI_add])) (by have hk := zNle (a := 347) c19 (by omega) (by omega); omega) (by decide) dX8_save_39 (fun H locs hP hD hS => ?_)
      have hP : va_P G vwCl (mk Z b (al, ke, hs, hq, (upd (mPut al sl (347 * x.toNatClampNeg) k) (347 * x.toNatClampNeg + k) (al k)), sa, off, car, pa, pq, sp, nu, dn, er)) H := hP
      have hD : va_D A (mk Z b (al, ke, hs, hq, (upd (mPut al sl (347 * x.toNatClampNeg) k) (347 * x.toNatClampNeg + k) (al k)), sa, off, car, pa, pq, sp, nu, dn, er)) := hD
      refine lv_iinc (v := (nI (k + 1))) (lv' := [(2, .int (nI (k + 1))), (0, .ref (b 0)), (1, .int x)]) hx hb dX8_save_40 hl (k := 0) rfl (nI_succ k).symm (by decide) rfl (fun ls hl => ?_)
      refine lv_goto (tgt := 15) hx hb dX8_save_43 (by decide) ?_
      rw [mPut_s] at hP hD
      exact ih15 (k + 1) (by
          try dsimp only
          have hk := zNle (a := 347) c19 (by omega) (by omega)
          omega) (by
          try dsimp only
          have hk := zNle (a := 347) c19 (by omega) (by omega)
          omega) _ _ _ hP hD hS (lv_sub hl [0, 1, 2] rfl)
  · refine lv_bipush (v := (-2)) hx hb dX8_save_10 (by decide) ?_
    exact W.iret hx hb hr (zEi (sl, sa) (by
        rw [show mIn x.toInt64 0 1 = mRng x 0 1 from mIn_w x 0 1] at c7
        simp only [eq_true c7, ↓reduceIte, and_self]) hP hD hS) hS.2.2 dX8_save_12

set_option maxHeartbeats 4000000 in
set_option maxRecDepth 100000 in
theorem m_X8_restore (l : Launch) (G : va_G) (Z : Nat → ClassId) (sz : Nat) (b : Nat → Nat) (al : Nat → Int32) (ke : Nat → Int32) (hs : Nat → Int32) (hq : Nat) (sl : Nat → Int32) (sa : Nat → Int32) (off : Int32) (car : Int32) (pa : Nat → Int32) (pq : Nat) (sp : Nat) (nu : Int32) (dn : Int32) (er : Int32) (x : Int32) (hhq : hq ≤ 6) : Met l yX8_restore wsX8_restore ({ frames := 1, cells := 0, slots := 0, locals := 25 }) (va_Pc [.ref (b 0), .int x] (zWP G Z sz (mk Z b (al, ke, hs, hq, sl, sa, off, car, pa, pq, sp, nu, dn, er)))) (va_Qi (fun (r : Int32) (u : (Nat → Int32) × (Nat → Int32) × (Nat → Int32) × Nat) => r = (if mRng x 0 1 = 0 then -2 else if sa x.toNatClampNeg = 0 then -5 else mRes al sl x.toNatClampNeg 7) ∧ u.1 = (if mRng x 0 1 = 0 then al else if sa x.toNatClampNeg = 0 then al else mRes al sl x.toNatClampNeg) ∧ u.2.2.1 = (if mRng x 0 1 = 0 then hs else if sa x.toNatClampNeg = 0 then hs else mHs hs al hq) ∧ u.2.2.2 = (if mRng x 0 1 = 0 then hq else if sa x.toNatClampNeg = 0 then hq else mHq hq)) (fun (u : (Nat → Int32) × (Nat → Int32) × (Nat → Int32) × Nat) t => zB G (va_A (mk Z b (al, ke, hs, hq, sl, sa, off, car, pa, pq, sp, nu, dn, er)) sz) (mk Z b (u.1, u.2.1, u.2.2.1, u.2.2.2, sl, sa, off, car, pa, pq, sp, nu, dn, er)) t) (va_A (mk Z b (al, ke, hs, hq, sl, sa, off, car, pa, pq, sp, nu, dn, er)) sz)) 0 0 (va_A (mk Z b (al, ke, hs, hq, sl, sa, off, car, pa, pq, sp, nu, dn, er)) sz) := by
  refine Met.ofW (cc := cX8_restore) (maxL := 3) (ret := (some .int)) (by decide) rfl ?_
  intro p e s m args below meth c s₁ B hml hv
  have hx := B.exec
  have hb := B.bytes
  have hr := B.returns
  have hts := atoms_spec (ws := wsX8_restore) B.pre
  have hown : s.vm.findClass RX8 = some m.cls := findClass_of_methodNamed B.named
  have hlocks := B.notSynchronized
  obtain ⟨rfl, hsz, hP, hK, hD, hA, hS, hSW⟩ := zEnter hv
  subst hsz
  generalize va_A (mk Z b (al, ke, hs, hq, sl, sa, off, car, pa, pq, sp, nu, dn, er)) s.heap.size = A at hD hA hS hSW ⊢
  have k_22 := hts (.fieldLink RX8 22 "WarmRodsModel" "isSaved" "[I") (List.mem_of_getElem? (i := 1) rfl)
  have iX8 : ∀ w ∈ u_ws RX8 TX8 14, w ∈ wsX8_restore := fun _ h => List.mem_cons_of_mem _ (List.mem_append_right _ h)
  have k_7 := hts (.fieldLink RX8 7 "WarmRodsModel" "all" "[I") (List.mem_of_getElem? (i := 2) rfl)
  have k_19 := hts (.fieldLink RX8 19 "WarmRodsModel" "slots" "[I") (List.mem_of_getElem? (i := 3) rfl)
  have hP : va_P G vwCl (mk Z b (al, ke, hs, hq, sl, sa, off, car, pa, pq, sp, nu, dn, er)) s.heap := hP
  have hl := lv_entry ([.ref (b 0), .int x]) (n := 3) (Nat.le_of_ble_eq_true rfl)
  rw [lg_entry_eq]
  generalize (lg_sl ([.ref (b 0), .int x]) ++ List.replicate (3 - (lg_sl ([.ref (b 0), .int x])).length) Slot.unset).toArray = ls at hl ⊢
  have hl : lv_has ls 3 [(0, .ref (b 0)), (1, .int x)] := hl
  refine lv_iload_n hx hb dX8_restore_0 rfl (lv_at hl 1 rfl) ?_
  refine lv_i2l (v := x.toInt64) hx hb dX8_restore_1 rfl ?_
  refine lv_lconst (v := 0) hx hb dX8_restore_2 (by decide) ?_
  refine lv_lconst (v := 1) hx hb dX8_restore_3 (by decide) ?_
  refine zCi (S := Unit) (ws1 := fun u => mk Z b (al, ke, hs, hq, sl, sa, off, car, pa, pq, sp, nu, dn, er)) (wr := mk Z b (al, ke, hs, hq, sl, sa, off, car, pa, pq, sp, nu, dn, er)) (va_runS (As := [.long x.toInt64, .long 0, .long 1]) (rest := []) ⟨hx, hb, hml, hown, hts⟩ (m_X8_in l G Z _ x.toInt64 0 1) (va_cwS 3 hts gX8_restore_X8_in rfl rfl rfl (by decide +kernel) ⟨Nat.le_of_ble_eq_true rfl, Nat.le_of_ble_eq_true rfl⟩) (zPreS hK hP hD hS hA hSW [] rfl (by decide)) rfl rfl hl.1 rfl (lv_room (Nat.le_of_ble_eq_true rfl)) dX8_restore_4 ⟨Nat.le_of_ble_eq_true rfl, Nat.le_of_ble_eq_true rfl⟩) hP hD hS hA [] [0, 1, 2, 3, 4, 5, 6] [0, 1, 2, 3, 4, 5, 6] rfl rfl (by decide) (by decide) (by decide) (fun _ => rfl) (fun r4 u H locs hw4 hP hD hS => ?_)
  try dsimp only at hw4
  subst hw4
  have hP : va_P G vwCl (mk Z b (al, ke, hs, hq, sl, sa, off, car, pa, pq, sp, nu, dn, er)) H := hP
  have hD : va_D A (mk Z b (al, ke, hs, hq, sl, sa, off, car, pa, pq, sp, nu, dn, er)) := hD
  refine lv_if_ne (tgt := 13) hx hb dX8_restore_7 (by decide) (fun c7 => ?_) (fun c7 => ?_)
  · rw [show mIn x.toInt64 0 1 = mRng x 0 1 from mIn_w x 0 1] at c7
    obtain ⟨hxv, -, hx1⟩ := zRange (lo := 0) (hi := 1) (by decide) (by decide) c7
    refine lv_aload_n hx hb dX8_restore_13 rfl (lv_at hl 0 rfl) ?_
    refine va_get (D := G) (ci := 8) (v := .ref (b 5)) (C := RX8) (T := TX8) (N := 14) hx hb hts iX8 hown hK hP 0 rfl rfl 5 (by decide) k_22 (fun _ h9 => h9) rfl dX8_restore_14 ?_
    refine lv_iload_n hx hb dX8_restore_17 rfl (lv_at hl 1 rfl) ?_
    refine zIald (f := sa) hx hb hK hP 5 0 rfl rfl x.toNatClampNeg (hxv) (by omega) (by decide) dX8_restore_18 ?_
    refine lv_if_ne (tgt := 25) hx hb dX8_restore_19 (by decide) (fun c19 => ?_) (fun c19 => ?_)
    · refine lv_aload_n hx hb dX8_restore_25 rfl (lv_at hl 0 rfl) ?_
      refine zCv (S := Unit) (ws1 := fun u => mk Z b (al, (mCp al ke 347), hs, hq, sl, sa, off, car, pa, pq, sp, nu, dn, er)) (wr := []) (va_runV (As := []) (rest := []) ⟨hx, hb, hml, hown, hts⟩ (m_X8_keep l G Z _ b al ke hs hq sl sa off car pa pq sp nu dn er) (cwV 0 hts gX8_restore_X8_keep rfl rfl rfl (by decide +kernel) ⟨Nat.le_of_ble_eq_true rfl, Nat.le_of_ble_eq_true rfl⟩) (zPreV hK hP hD hS hA hSW [0, 1, 2, 3, 4, 5, 6] rfl (by decide) 0 (ci := 8) rfl rfl rfl) rfl rfl hl.1 rfl (lv_room (Nat.le_of_ble_eq_true rfl)) dX8_restore_26 ⟨Nat.le_of_ble_eq_true rfl, Nat.le_of_ble_eq_true rfl⟩) hP hD hS hA [0, 1, 2, 3, 4, 5, 6] [] [0, 1, 2, 3, 4, 5, 6] rfl rfl (by decide) (by decide) (by decide) (fun _ => rfl) (fun u H locs hw26 hP hD hS => ?_)
      try dsimp only at hw26
      have hP : va_P G vwCl (mk Z b (al, (mCp al ke 347), hs, hq, sl, sa, off, car, pa, pq, sp, nu, dn, er)) H := hP
      have hD : va_D A (mk Z b (al, (mCp al ke 347), hs, hq, sl, sa, off, car, pa, pq, sp, nu, dn, er)) := hD
      refine lv_iconst (v := 0) hx hb dX8_restore_29 (by decide) ?_
      refine lv_istore_n (lv' := [(2, .int 0), (0, .ref (b 0)), (1, .int x)]) hx hb dX8_restore_30 rfl hl (by decide) rfl (fun ls hl => ?_)
      rw [← mPut_0 (fun j => sl (347 * x.toNatClampNeg + j)) al 0] at hP hD
      refine zLoop (σ := Nat) (nL := 3) (fun zx => mk Z b ((mPut (fun j => sl (347 * x.toNatClampNeg + j)) al 0 zx), (mCp al ke 347), hs, hq, sl, sa, off, car, pa, pq, sp, nu, dn, er)) (fun zx => [(2, .int (nI zx)), (0, .ref (b 0)), (1, .int x)]) (fun zx => zx ≤ 347) (fun zx => 347 - zx) ?_ 0 (by
          try dsimp only
          omega) hP hD hS (lv_sub hl [0, 1, 2] rfl)
      intro zx hinv31 ih31 H locs ls hP hD hS hl
      obtain ⟨k, rfl⟩ : ∃ z, z = zx := ⟨_, rfl⟩
      try dsimp only at hinv31 ih31
      have hP : va_P G vwCl (mk Z b ((mPut (fun j => sl (347 * x.toNatClampNeg + j)) al 0 k), (mCp al ke 347), hs, hq, sl, sa, off, car, pa, pq, sp, nu, dn, er)) H := hP
      have hD : va_D A (mk Z b ((mPut (fun j => sl (347 * x.toNatClampNeg + j)) al 0 k), (mCp al ke 347), hs, hq, sl, sa, off, car, pa, pq, sp, nu, dn, er)) := hD
      have hl : lv_has ls 3 [(2, .int (nI k)), (0, .ref (b 0)), (1, .int x)] := hl
      refine lv_iload_n hx hb dX8_restore_31 rfl (lv_at hl 0 rfl) ?_
      refine lv_sipush (v := 347) hx hb dX8_restore_32 (by decide) ?_
      refine lv_icmp_ge (tgt := 62) hx hb dX8_restore_35 (by decide) (fun c35 => ?_) (fun c35 => ?_)
      · have hk := zLe (a := 347) c35 (by omega) (by omega)
        obtain rfl : k = 347 := by omega
        refine lv_aload_n hx hb dX8_restore_62 rfl (lv_at hl 1 rfl) ?_
        refine lv_aload_n hx hb dX8_restore_63 rfl (lv_at hl 1 rfl) ?_
        refine va_get (D := G) (ci := 8) (v := .ref (b 1)) (C := RX8) (T := TX8) (N := 14) hx hb hts iX8 hown hK hP 0 rfl rfl 0 (by decide) k_7 (fun _ h9 => h9) rfl dX8_restore_64 ?_
        refine lv_bipush (v := 7) hx hb dX8_restore_67 (by decide) ?_
        refine zIald (f := (mPut (fun j => sl (347 * x.toNatClampNeg + j)) al 0 347)) hx hb hK hP 1 0 rfl rfl 7 (by decide) (by decide) (by decide) dX8_restore_69 ?_
        refine zCi (S := (Nat → Int32) × Nat) (ws1 := fun u => mk Z b ((mPut (fun j => sl (347 * x.toNatClampNeg + j)) al 0 347), (mCp al ke 347), u.1, u.2, sl, sa, off, car, pa, pq, sp, nu, dn, er)) (wr := []) (va_runV (As := [.int ((mPut (fun j => sl (347 * x.toNatClampNeg + j)) al 0 347) 7)]) (rest := []) ⟨hx, hb, hml, hown, hts⟩ (m_X8_changed l G Z _ b (mPut (fun j => sl (347 * x.toNatClampNeg + j)) al 0 347) (mCp al ke 347) hs hq sl sa off car pa pq sp nu dn er ((mPut (fun j => sl (347 * x.toNatClampNeg + j)) al 0 347) 7) (by
            exact hhq)) (cwV 1 hts gX8_restore_X8_changed rfl rfl rfl (by decide +kernel) ⟨Nat.le_of_ble_eq_true rfl, Nat.le_of_ble_eq_true rfl⟩) (zPreV hK hP hD hS hA hSW [0, 1, 2, 3, 4, 5, 6] rfl (by decide) 0 (ci := 8) rfl rfl rfl) rfl rfl hl.1 rfl (lv_room (Nat.le_of_ble_eq_true rfl)) dX8_restore_70 ⟨Nat.le_of_ble_eq_true rfl, Nat.le_of_ble_eq_true rfl⟩) hP hD hS hA [0, 1, 2, 3, 4, 5, 6] [] [0, 1, 2, 3, 4, 5, 6] rfl rfl (by decide) (by decide) (by decide) (fun _ => rfl) (fun r70 u H locs hw70 hP hD hS => ?_)
        obtain ⟨hs1_70, hq1_70⟩ := u
        try dsimp only at hw70
        obtain ⟨rfl, rfl, rfl⟩ := hw70
        have hP : va_P G vwCl (mk Z b ((mPut (fun j => sl (347 * x.toNatClampNeg + j)) al 0 347), (mCp al ke 347), (mHs hs (mCp al ke 347) hq), (mHq hq), sl, sa, off, car, pa, pq, sp, nu, dn, er)) H := hP
        have hD : va_D A (mk Z b ((mPut (fun j => sl (347 * x.toNatClampNeg + j)) al 0 347), (mCp al ke 347), (mHs hs (mCp al ke 347) hq), (mHq hq), sl, sa, off, car, pa, pq, sp, nu, dn, er)) := hD
        exact W.iret hx hb hr (zEi ((mPut (fun j => sl (347 * x.toNatClampNeg + j)) al 0 347), (mCp al ke 347), (mHs hs (mCp al ke 347) hq), (mHq hq)) (by
            simp only [mRes, mHs_cp, c7, c19, c35, Int32.not_lt.mpr c35, ↓reduceIte, and_self]) hP hD hS) hS.2.2 dX8_restore_73
      · refine lv_aload_n hx hb dX8_restore_38 rfl (lv_at hl 1 rfl) ?_
        refine va_get (D := G) (ci := 8) (v := .ref (b 1)) (C := RX8) (T := TX8) (N := 14) hx hb hts iX8 hown hK hP 0 rfl rfl 0 (by decide) k_7 (fun _ h9 => h9) rfl dX8_restore_39 ?_
        refine lv_iload_n hx hb dX8_restore_42 rfl (lv_at hl 0 rfl) ?_
        refine lv_aload_n hx hb dX8_restore_43 rfl (lv_at hl 1 rfl) ?_
        refine va_get (D := G) (ci := 8) (v := .ref (b 4)) (C := RX8) (T := TX8) (N := 14) hx hb hts iX8 hown hK hP 0 rfl rfl 4 (by decide) k_19 (fun _ h9 => h9) rfl dX8_restore_44 ?_
        refine lv_sipush (v := 347) hx hb dX8_restore_47 (by decide) ?_
        refine lv_iload_n hx hb dX8_restore_50 rfl (lv_at hl 2 rfl) ?_
        refine lv_imul hx hb dX8_restore_51 ?_
        refine lv_iload_n hx hb dX8_restore_52 rfl (lv_at hl 0 rfl) ?_
        refine lv_iadd hx hb dX8_restore_53 ?_
        refine zIald (f := sl) hx hb hK hP 4 0 rfl rfl (347 * x.toNatClampNeg + k) ((congrArg (fun t => 347 * t + nI k) hxv).trans (by show 347 * nI x.toNatClampNeg + nI k = _; rw [show (347 : Int32) = nI 347 from rfl, pk_mul, nI_add])) (by have hk := zNle (a := 347) c35 (by omega) (by omega); omega) (by decide) dX8_restore_54 ?_
        refine zIast (f := (mPut (fun j => sl (347 * x.toNatClampNeg + j)) al 0 k)) hx hb hK hP hD hS 1 0 rfl rfl (0 + k) (by rw [Nat.zero_add]) (by have hk := zNle (a := 347) c35 (by omega) (by omega); omega) (by decide) dX8_restore_55 (fun H locs hP hD hS => ?_)
        have hP : va_P G vwCl (mk Z b ((upd (mPut (fun j => sl (347 * x.toNatClampNeg + j)) al 0 k) (0 + k) (sl (347 * x.toNatClampNeg + k))), (mCp al ke 347), hs, hq, sl, sa, off, car, pa, pq, sp, nu, dn, er)) H := hP
        have hD : va_D A (mk Z b ((upd (mPut (fun j => sl (347 * x.toNatClampNeg + j)) al 0 k) (0 + k) (sl (347 * x.toNatClampNeg + k))), (mCp al ke 347), hs, hq, sl, sa, off, car, pa, pq, sp, nu, dn, er)) := hD
        refine lv_iinc (v := (nI (k + 1))) (lv' := [(2, .int (nI (k + 1))), (0, .ref (b 0)), (1, .int x)]) hx hb dX8_restore_56 hl (k := 0) rfl (nI_succ k).symm (by decide) rfl (fun ls hl => ?_)
        refine lv_goto (tgt := 31) hx hb dX8_restore_59 (by decide) ?_
        have e_k : upd (mPut (fun j => sl (347 * x.toNatClampNeg + j)) al 0 k) (0 + k) (sl (347 * x.toNatClampNeg + k)) = mPut (fun j => sl (347 * x.toNatClampNeg + j)) al 0 (k + 1) := mPut_s _ _ _ _
        rw [e_k] at hP hD
        exact ih31 (k + 1) (by
            try dsimp only
            have hk := zNle (a := 347) c35 (by omega) (by omega)
            omega) (by
            try dsimp only
            have hk := zNle (a := 347) c35 (by omega) (by omega)
            omega) _ _ _ hP hD hS (lv_sub hl [0, 1, 2] rfl)
    · refine lv_bipush (v := (-5)) hx hb dX8_restore_22 (by decide) ?_
      exact W.iret hx hb hr (zEi (al, ke, hs, hq) (by
          simp only [mRes, mHs_cp, c7, eq_true c19, ↓reduceIte, and_self]) hP hD hS) hS.2.2 dX8_restore_24
  · refine lv_bipush (v := (-2)) hx hb dX8_restore_10 (by decide) ?_
    exact W.iret hx hb hr (zEi (al, ke, hs, hq) (by
        rw [show mIn x.toInt64 0 1 = mRng x 0 1 from mIn_w x 0 1] at c7
        simp only [mRes, mHs_cp, eq_true c7, ↓reduceIte, and_self]) hP hD hS) hS.2.2 dX8_restore_12

set_option maxHeartbeats 4000000 in
set_option maxRecDepth 100000 in
theorem m_X8_readsHours0 (l : Launch) (G : va_G) (Z : Nat → ClassId) (sz : Nat) (b : Nat → Nat) (al : Nat → Int32) (ke : Nat → Int32) (hs : Nat → Int32) (hq : Nat) (sl : Nat → Int32) (sa : Nat → Int32) (off : Int32) (car : Int32) (pa : Nat → Int32) (pq : Nat) (sp : Nat) (nu : Int32) (er : Int32) (hsp : sp ≤ 80) (hpq : pq ≤ 80) : Met l yX8_readsHours wsX8_readsHours ({ frames := 4, cells := 0, slots := 0, locals := 91 }) (va_Pc [.ref (b 0)] (zWP G Z sz (mk Z b (al, ke, hs, hq, sl, sa, off, car, pa, pq, sp, nu, 0, er)))) (va_Qi (fun (r : Int32) (u : Nat × Int32) => r = (wH pa pq sp).1 ∧ u.1 = (wH pa pq sp).2.1) (fun (u : Nat × Int32) t => zB G (va_A (mk Z b (al, ke, hs, hq, sl, sa, off, car, pa, pq, sp, nu, 0, er)) sz) (mk Z b (al, ke, hs, hq, sl, sa, off, car, pa, pq, u.1, u.2, 0, er)) t) (va_A (mk Z b (al, ke, hs, hq, sl, sa, off, car, pa, pq, sp, nu, 0, er)) sz)) 0 0 (va_A (mk Z b (al, ke, hs, hq, sl, sa, off, car, pa, pq, sp, nu, 0, er)) sz) := by
  refine Met.ofW (cc := cX8_readsHours) (maxL := 4) (ret := (some .boolean)) (by decide) rfl ?_
  intro p e s m args below meth c s₁ B hml hv
  have hx := B.exec
  have hb := B.bytes
  have hr := B.returns
  have hts := atoms_spec (ws := wsX8_readsHours) B.pre
  have hown : s.vm.findClass RX8 = some m.cls := findClass_of_methodNamed B.named
  have hlocks := B.notSynchronized
  obtain ⟨rfl, hsz, hP, hK, hD, hA, hS, hSW⟩ := zEnter hv
  subst hsz
  generalize va_A (mk Z b (al, ke, hs, hq, sl, sa, off, car, pa, pq, sp, nu, 0, er)) s.heap.size = A at hD hA hS hSW ⊢
  have k_166 := hts (.fieldLink RX8 166 "WarmRodsModel" "number" "I") (List.mem_of_getElem? (i := 1) rfl)
  have iX8 : ∀ w ∈ u_ws RX8 TX8 14, w ∈ wsX8_readsHours := fun _ h => List.mem_cons_of_mem _ (List.mem_append_right _ h)
  have k_181 := hts (.fieldLink RX8 181 "WarmRodsModel" "isDone" "Z") (List.mem_of_getElem? (i := 2) rfl)
  have hP : va_P G vwCl (mk Z b (al, ke, hs, hq, sl, sa, off, car, pa, pq, sp, nu, 0, er)) s.heap := hP
  have hl := lv_entry ([.ref (b 0)]) (n := 4) (Nat.le_of_ble_eq_true rfl)
  rw [lg_entry_eq]
  generalize (lg_sl ([.ref (b 0)]) ++ List.replicate (4 - (lg_sl ([.ref (b 0)])).length) Slot.unset).toArray = ls at hl ⊢
  have hl : lv_has ls 4 [(0, .ref (b 0))] := hl
  refine lv_aload_n hx hb dX8_readsHours_0 rfl (lv_at hl 0 rfl) ?_
  refine zCi (S := Nat × Int32) (ws1 := fun u => mk Z b (al, ke, hs, hq, sl, sa, off, car, pa, pq, u.1, u.2, 0, er)) (wr := []) (va_runV (As := []) (rest := []) ⟨hx, hb, hml, hown, hts⟩ (m_X8_readsValue l G Z _ b al ke hs hq sl sa off car pa pq sp nu 0 er (by
      exact hsp) (by
      exact hpq)) (cwV 0 hts gX8_readsHours_X8_readsValue rfl rfl rfl (by decide +kernel) ⟨Nat.le_of_ble_eq_true rfl, Nat.le_of_ble_eq_true rfl⟩) (zPreV hK hP hD hS hA hSW [0, 1, 2, 3, 4, 5, 6] rfl (by decide) 0 (ci := 8) rfl rfl rfl) rfl rfl hl.1 rfl (lv_room (Nat.le_of_ble_eq_true rfl)) dX8_readsHours_1 ⟨Nat.le_of_ble_eq_true rfl, Nat.le_of_ble_eq_true rfl⟩) hP hD hS hA [0, 1, 2, 3, 4, 5, 6] [] [0, 1, 2, 3, 4, 5, 6] rfl rfl (by decide) (by decide) (by decide) (fun _ => rfl) (fun r1 u H locs hw1 hP hD hS => ?_)
  obtain ⟨sp1_1, nu1_1⟩ := u
  try dsimp only at hw1
  obtain ⟨rfl, e_sp1_1, e_nu1_1⟩ := hw1
  have hP : va_P G vwCl (mk Z b (al, ke, hs, hq, sl, sa, off, car, pa, pq, sp1_1, nu1_1, 0, er)) H := hP
  have hD : va_D A (mk Z b (al, ke, hs, hq, sl, sa, off, car, pa, pq, sp1_1, nu1_1, 0, er)) := hD
  have z1 : sp1_1 ≤ 80 := by rw [e_sp1_1]; exact rVaP_le hsp
  refine lv_if_ne (tgt := 9) hx hb dX8_readsHours_4 (by decide) (fun c4 => ?_) (fun c4 => ?_)
  · refine lv_aload_n hx hb dX8_readsHours_9 rfl (lv_at hl 0 rfl) ?_
    refine va_get (D := G) (ci := 8) (v := .int nu1_1) (C := RX8) (T := TX8) (N := 14) hx hb hts iX8 hown hK hP 0 rfl rfl 11 (by decide) k_166 (fun _ h9 => h9) rfl dX8_readsHours_10 ?_
    refine lv_istore_n (lv' := [(1, .int nu1_1), (0, .ref (b 0))]) hx hb dX8_readsHours_13 rfl hl (by decide) rfl (fun ls hl => ?_)
    refine lv_aload_n hx hb dX8_readsHours_14 rfl (lv_at hl 1 rfl) ?_
    refine lv_bipush (v := 44) hx hb dX8_readsHours_15 (by decide) ?_
    refine zCi (S := Nat) (ws1 := fun u => mk Z b (al, ke, hs, hq, sl, sa, off, car, pa, pq, u, nu1_1, 0, er)) (wr := []) (va_runV (As := [.int 44]) (rest := []) ⟨hx, hb, hml, hown, hts⟩ (m_X8_takes l G Z _ b al ke hs hq sl sa off car pa pq sp1_1 nu1_1 0 er 44 (by
        exact z1) (by
        exact hpq) (by
        decide)) (cwV 1 hts gX8_readsHours_X8_takes rfl rfl rfl (by decide +kernel) ⟨Nat.le_of_ble_eq_true rfl, Nat.le_of_ble_eq_true rfl⟩) (zPreV hK hP hD hS hA hSW [0, 1, 2, 3, 4, 5, 6] rfl (by decide) 0 (ci := 8) rfl rfl rfl) rfl rfl hl.1 rfl (lv_room (Nat.le_of_ble_eq_true rfl)) dX8_readsHours_17 ⟨Nat.le_of_ble_eq_true rfl, Nat.le_of_ble_eq_true rfl⟩) hP hD hS hA [0, 1, 2, 3, 4, 5, 6] [] [0, 1, 2, 3, 4, 5, 6] rfl rfl (by decide) (by decide) (by decide) (fun _ => rfl) (fun r17 u H locs hw17 hP hD hS => ?_)
    obtain ⟨sp1_17, rfl⟩ : ∃ z, z = u := ⟨_, rfl⟩
    try dsimp only at hw17
    obtain ⟨rfl, e_sp1_17⟩ := hw17
    have hP : va_P G vwCl (mk Z b (al, ke, hs, hq, sl, sa, off, car, pa, pq, sp1_17, nu1_1, 0, er)) H := hP
    have hD : va_D A (mk Z b (al, ke, hs, hq, sl, sa, off, car, pa, pq, sp1_17, nu1_1, 0, er)) := hD
    have z17 : sp1_17 ≤ 80 := by rw [e_sp1_17]; exact rSgP_le (by decide) z1
    refine lv_if_eq (tgt := 30) hx hb dX8_readsHours_20 (by decide) (fun c20 => ?_) (fun c20 => ?_)
    · refine lv_iconst (v := 0) hx hb dX8_readsHours_30 (by decide) ?_
      exact W.zret hx hb hr (rfl) (zEi (sp1_17, nu1_1) (by
          simp only [e_sp1_1, e_nu1_1, e_sp1_17] at c4 c20 ⊢
          simp only [rHrs, c4, eq_true c20, z10, ↓reduceIte, and_self]) hP hD hS) hS.2.2 dX8_readsHours_31
    · refine lv_aload_n hx hb dX8_readsHours_23 rfl (lv_at hl 1 rfl) ?_
      refine zCi (S := Nat × Int32) (ws1 := fun u => mk Z b (al, ke, hs, hq, sl, sa, off, car, pa, pq, u.1, u.2, 0, er)) (wr := []) (va_runV (As := []) (rest := []) ⟨hx, hb, hml, hown, hts⟩ (m_X8_readsNumber l G Z _ b al ke hs hq sl sa off car pa pq sp1_17 nu1_1 0 er (by
          exact z17) (by
          exact hpq)) (cwV 0 hts gX8_readsHours_X8_readsNumber rfl rfl rfl (by decide +kernel) ⟨Nat.le_of_ble_eq_true rfl, Nat.le_of_ble_eq_true rfl⟩) (zPreV hK hP hD hS hA hSW [0, 1, 2, 3, 4, 5, 6] rfl (by decide) 0 (ci := 8) rfl rfl rfl) rfl rfl hl.1 rfl (lv_room (Nat.le_of_ble_eq_true rfl)) dX8_readsHours_24 ⟨Nat.le_of_ble_eq_true rfl, Nat.le_of_ble_eq_true rfl⟩) hP hD hS hA [0, 1, 2, 3, 4, 5, 6] [] [0, 1, 2, 3, 4, 5, 6] rfl rfl (by decide) (by decide) (by decide) (fun _ => rfl) (fun r24 u H locs hw24 hP hD hS => ?_)
      obtain ⟨sp1_24, nu1_24⟩ := u
      try dsimp only at hw24
      obtain ⟨rfl, e_sp1_24, e_nu1_24⟩ := hw24
      have hP : va_P G vwCl (mk Z b (al, ke, hs, hq, sl, sa, off, car, pa, pq, sp1_24, nu1_24, 0, er)) H := hP
      have hD : va_D A (mk Z b (al, ke, hs, hq, sl, sa, off, car, pa, pq, sp1_24, nu1_24, 0, er)) := hD
      have z24 : sp1_24 ≤ 80 := by rw [e_sp1_24]; exact rNumP_le z17
      refine lv_if_ne (tgt := 32) hx hb dX8_readsHours_27 (by decide) (fun c27 => ?_) (fun c27 => ?_)
      · refine lv_aload_n hx hb dX8_readsHours_32 rfl (lv_at hl 1 rfl) ?_
        refine va_get (D := G) (ci := 8) (v := .int nu1_24) (C := RX8) (T := TX8) (N := 14) hx hb hts iX8 hown hK hP 0 rfl rfl 11 (by decide) k_166 (fun _ h9 => h9) rfl dX8_readsHours_33 ?_
        refine lv_istore_n (lv' := [(2, .int nu1_24), (1, .int nu1_1), (0, .ref (b 0))]) hx hb dX8_readsHours_36 rfl hl (by decide) rfl (fun ls hl => ?_)
        refine lv_aload_n hx hb dX8_readsHours_37 rfl (lv_at hl 2 rfl) ?_
        refine lv_bipush (v := 114) hx hb dX8_readsHours_38 (by decide) ?_
        refine zCi (S := Nat) (ws1 := fun u => mk Z b (al, ke, hs, hq, sl, sa, off, car, pa, pq, u, nu1_24, 0, er)) (wr := []) (va_runV (As := [.int 114]) (rest := []) ⟨hx, hb, hml, hown, hts⟩ (m_X8_takes l G Z _ b al ke hs hq sl sa off car pa pq sp1_24 nu1_24 0 er 114 (by
            exact z24) (by
            exact hpq) (by
            decide)) (cwV 1 hts gX8_readsHours_X8_takes rfl rfl rfl (by decide +kernel) ⟨Nat.le_of_ble_eq_true rfl, Nat.le_of_ble_eq_true rfl⟩) (zPreV hK hP hD hS hA hSW [0, 1, 2, 3, 4, 5, 6] rfl (by decide) 0 (ci := 8) rfl rfl rfl) rfl rfl hl.1 rfl (lv_room (Nat.le_of_ble_eq_true rfl)) dX8_readsHours_40 ⟨Nat.le_of_ble_eq_true rfl, Nat.le_of_ble_eq_true rfl⟩) hP hD hS hA [0, 1, 2, 3, 4, 5, 6] [] [0, 1, 2, 3, 4, 5, 6] rfl rfl (by decide) (by decide) (by decide) (fun _ => rfl) (fun r40 u H locs hw40 hP hD hS => ?_)
        obtain ⟨sp1_40, rfl⟩ : ∃ z, z = u := ⟨_, rfl⟩
        try dsimp only at hw40
        obtain ⟨rfl, e_sp1_40⟩ := hw40
        have hP : va_P G vwCl (mk Z b (al, ke, hs, hq, sl, sa, off, car, pa, pq, sp1_40, nu1_24, 0, er)) H := hP
        have hD : va_D A (mk Z b (al, ke, hs, hq, sl, sa, off, car, pa, pq, sp1_40, nu1_24, 0, er)) := hD
        have z40 : sp1_40 ≤ 80 := by rw [e_sp1_40]; exact rSgP_le (by decide) z24
        refine lv_if_eq (tgt := 50) hx hb dX8_readsHours_43 (by decide) (fun c43 => ?_) (fun c43 => ?_)
        · refine lv_iconst (v := 0) hx hb dX8_readsHours_50 (by decide) ?_
          refine lv_istore_n (lv' := [(3, .int 0), (2, .int nu1_24), (1, .int nu1_1), (0, .ref (b 0))]) hx hb dX8_readsHours_51 rfl hl (by decide) rfl (fun ls hl => ?_)
          refine lv_aload_n hx hb dX8_readsHours_52 rfl (lv_at hl 3 rfl) ?_
          refine lv_iconst (v := 1) hx hb dX8_readsHours_53 (by decide) ?_
          refine va_put (D := G) (ci := 8) (v := .int 1) (ty := .int) (C := RX8) (T := TX8) (N := 14) hx hb hts iX8 tyX8 tyX8_ok nmX8 hown hK hP hD hS 0 rfl rfl 11 (by decide) k_166 (fun _ h9 => h9) rfl (by decide +kernel) rfl rfl (Nat.le_of_ble_eq_true rfl) dX8_readsHours_54 (fun H locs hP hD hS => ?_)
          have hP : va_P G vwCl (mk Z b (al, ke, hs, hq, sl, sa, off, car, pa, pq, sp1_40, 1, 0, er)) H := hP
          have hD : va_D A (mk Z b (al, ke, hs, hq, sl, sa, off, car, pa, pq, sp1_40, 1, 0, er)) := hD
          refine lv_aload_n hx hb dX8_readsHours_57 rfl (lv_at hl 3 rfl) ?_
          refine lv_bipush (v := 42) hx hb dX8_readsHours_58 (by decide) ?_
          refine zCi (S := Nat) (ws1 := fun u => mk Z b (al, ke, hs, hq, sl, sa, off, car, pa, pq, u, 1, 0, er)) (wr := []) (va_runV (As := [.int 42]) (rest := []) ⟨hx, hb, hml, hown, hts⟩ (m_X8_takes l G Z _ b al ke hs hq sl sa off car pa pq sp1_40 1 0 er 42 (by
              exact z40) (by
              exact hpq) (by
              decide)) (cwV 1 hts gX8_readsHours_X8_takes rfl rfl rfl (by decide +kernel) ⟨Nat.le_of_ble_eq_true rfl, Nat.le_of_ble_eq_true rfl⟩) (zPreV hK hP hD hS hA hSW [0, 1, 2, 3, 4, 5, 6] rfl (by decide) 0 (ci := 8) rfl rfl rfl) rfl rfl hl.1 rfl (lv_room (Nat.le_of_ble_eq_true rfl)) dX8_readsHours_60 ⟨Nat.le_of_ble_eq_true rfl, Nat.le_of_ble_eq_true rfl⟩) hP hD hS hA [0, 1, 2, 3, 4, 5, 6] [] [0, 1, 2, 3, 4, 5, 6] rfl rfl (by decide) (by decide) (by decide) (fun _ => rfl) (fun r60 u H locs hw60 hP hD hS => ?_)
          obtain ⟨sp1_60, rfl⟩ : ∃ z, z = u := ⟨_, rfl⟩
          try dsimp only at hw60
          obtain ⟨rfl, e_sp1_60⟩ := hw60
          have hP : va_P G vwCl (mk Z b (al, ke, hs, hq, sl, sa, off, car, pa, pq, sp1_60, 1, 0, er)) H := hP
          have hD : va_D A (mk Z b (al, ke, hs, hq, sl, sa, off, car, pa, pq, sp1_60, 1, 0, er)) := hD
          have z60 : sp1_60 ≤ 80 := by rw [e_sp1_60]; exact rSgP_le (by decide) z40
          refine lv_if_eq (tgt := 75) hx hb dX8_readsHours_63 (by decide) (fun c63 => ?_) (fun c63 => ?_)
          · refine lv_aload_n hx hb dX8_readsHours_75 rfl (lv_at hl 3 rfl) ?_
            refine va_get (D := G) (ci := 8) (v := .int 0) (C := RX8) (T := TX8) (N := 14) hx hb hts iX8 hown hK hP 0 rfl rfl 12 (by decide) k_181 (fun _ h9 => h9) rfl dX8_readsHours_76 ?_
            refine lv_if_eq (tgt := 97) hx hb dX8_readsHours_79 (by decide) (fun c79 => ?_) (fun c79 => (c79 rfl).elim)
            refine lv_iconst (v := 1) hx hb dX8_readsHours_97 (by decide) ?_
            exact W.zret hx hb hr (rfl) (zEi (sp1_60, 1) (by
                simp only [e_sp1_1, e_nu1_1, e_sp1_17, e_sp1_24, e_nu1_24, e_sp1_40, e_sp1_60] at c4 c20 c27 c43 c63 c79 ⊢
                simp only [rHrs, c4, c20, c27, eq_true c43, eq_true c63, eq_true c79, z10, ↓reduceIte, and_self]) hP hD hS) hS.2.2 dX8_readsHours_98
          · refine lv_aload_n hx hb dX8_readsHours_66 rfl (lv_at hl 3 rfl) ?_
            refine zCi (S := Nat × Int32) (ws1 := fun u => mk Z b (al, ke, hs, hq, sl, sa, off, car, pa, pq, u.1, u.2, 0, er)) (wr := []) (va_runV (As := []) (rest := []) ⟨hx, hb, hml, hown, hts⟩ (m_X8_readsNumber l G Z _ b al ke hs hq sl sa off car pa pq sp1_60 1 0 er (by
                exact z60) (by
                exact hpq)) (cwV 0 hts gX8_readsHours_X8_readsNumber rfl rfl rfl (by decide +kernel) ⟨Nat.le_of_ble_eq_true rfl, Nat.le_of_ble_eq_true rfl⟩) (zPreV hK hP hD hS hA hSW [0, 1, 2, 3, 4, 5, 6] rfl (by decide) 0 (ci := 8) rfl rfl rfl) rfl rfl hl.1 rfl (lv_room (Nat.le_of_ble_eq_true rfl)) dX8_readsHours_67 ⟨Nat.le_of_ble_eq_true rfl, Nat.le_of_ble_eq_true rfl⟩) hP hD hS hA [0, 1, 2, 3, 4, 5, 6] [] [0, 1, 2, 3, 4, 5, 6] rfl rfl (by decide) (by decide) (by decide) (fun _ => rfl) (fun r67 u H locs hw67 hP hD hS => ?_)
            obtain ⟨sp1_67, nu1_67⟩ := u
            try dsimp only at hw67
            obtain ⟨rfl, e_sp1_67, e_nu1_67⟩ := hw67
            have hP : va_P G vwCl (mk Z b (al, ke, hs, hq, sl, sa, off, car, pa, pq, sp1_67, nu1_67, 0, er)) H := hP
            have hD : va_D A (mk Z b (al, ke, hs, hq, sl, sa, off, car, pa, pq, sp1_67, nu1_67, 0, er)) := hD
            refine lv_if_ne (tgt := 75) hx hb dX8_readsHours_70 (by decide) (fun c70 => ?_) (fun c70 => ?_)
            · refine lv_aload_n hx hb dX8_readsHours_75 rfl (lv_at hl 3 rfl) ?_
              refine va_get (D := G) (ci := 8) (v := .int 0) (C := RX8) (T := TX8) (N := 14) hx hb hts iX8 hown hK hP 0 rfl rfl 12 (by decide) k_181 (fun _ h9 => h9) rfl dX8_readsHours_76 ?_
              refine lv_if_eq (tgt := 97) hx hb dX8_readsHours_79 (by decide) (fun c79 => ?_) (fun c79 => (c79 rfl).elim)
              refine lv_iconst (v := 1) hx hb dX8_readsHours_97 (by decide) ?_
              exact W.zret hx hb hr (rfl) (zEi (sp1_67, nu1_67) (by
                  simp only [e_sp1_1, e_nu1_1, e_sp1_17, e_sp1_24, e_nu1_24, e_sp1_40, e_sp1_60, e_sp1_67, e_nu1_67] at c4 c20 c27 c43 c63 c70 c79 ⊢
                  simp only [rHrs, c4, c20, c27, eq_true c43, c63, c70, eq_true c79, z10, ↓reduceIte, and_self]) hP hD hS) hS.2.2 dX8_readsHours_98
            · refine lv_iconst (v := 0) hx hb dX8_readsHours_73 (by decide) ?_
              exact W.zret hx hb hr (rfl) (zEi (sp1_67, nu1_67) (by
                  simp only [e_sp1_1, e_nu1_1, e_sp1_17, e_sp1_24, e_nu1_24, e_sp1_40, e_sp1_60, e_sp1_67, e_nu1_67] at c4 c20 c27 c43 c63 c70 ⊢
                  simp only [rHrs, c4, c20, c27, eq_true c43, c63, eq_true c70, z10, ↓reduceIte, and_self]) hP hD hS) hS.2.2 dX8_readsHours_74
        · refine lv_iconst (v := 1) hx hb dX8_readsHours_46 (by decide) ?_
          refine lv_goto (tgt := 51) hx hb dX8_readsHours_47 (by decide) ?_
          refine lv_istore_n (lv' := [(3, .int 1), (2, .int nu1_24), (1, .int nu1_1), (0, .ref (b 0))]) hx hb dX8_readsHours_51 rfl hl (by decide) rfl (fun ls hl => ?_)
          refine lv_aload_n hx hb dX8_readsHours_52 rfl (lv_at hl 3 rfl) ?_
          refine lv_iconst (v := 1) hx hb dX8_readsHours_53 (by decide) ?_
          refine va_put (D := G) (ci := 8) (v := .int 1) (ty := .int) (C := RX8) (T := TX8) (N := 14) hx hb hts iX8 tyX8 tyX8_ok nmX8 hown hK hP hD hS 0 rfl rfl 11 (by decide) k_166 (fun _ h9 => h9) rfl (by decide +kernel) rfl rfl (Nat.le_of_ble_eq_true rfl) dX8_readsHours_54 (fun H locs hP hD hS => ?_)
          have hP : va_P G vwCl (mk Z b (al, ke, hs, hq, sl, sa, off, car, pa, pq, sp1_40, 1, 0, er)) H := hP
          have hD : va_D A (mk Z b (al, ke, hs, hq, sl, sa, off, car, pa, pq, sp1_40, 1, 0, er)) := hD
          refine lv_aload_n hx hb dX8_readsHours_57 rfl (lv_at hl 3 rfl) ?_
          refine lv_bipush (v := 42) hx hb dX8_readsHours_58 (by decide) ?_
          refine zCi (S := Nat) (ws1 := fun u => mk Z b (al, ke, hs, hq, sl, sa, off, car, pa, pq, u, 1, 0, er)) (wr := []) (va_runV (As := [.int 42]) (rest := []) ⟨hx, hb, hml, hown, hts⟩ (m_X8_takes l G Z _ b al ke hs hq sl sa off car pa pq sp1_40 1 0 er 42 (by
              exact z40) (by
              exact hpq) (by
              decide)) (cwV 1 hts gX8_readsHours_X8_takes rfl rfl rfl (by decide +kernel) ⟨Nat.le_of_ble_eq_true rfl, Nat.le_of_ble_eq_true rfl⟩) (zPreV hK hP hD hS hA hSW [0, 1, 2, 3, 4, 5, 6] rfl (by decide) 0 (ci := 8) rfl rfl rfl) rfl rfl hl.1 rfl (lv_room (Nat.le_of_ble_eq_true rfl)) dX8_readsHours_60 ⟨Nat.le_of_ble_eq_true rfl, Nat.le_of_ble_eq_true rfl⟩) hP hD hS hA [0, 1, 2, 3, 4, 5, 6] [] [0, 1, 2, 3, 4, 5, 6] rfl rfl (by decide) (by decide) (by decide) (fun _ => rfl) (fun r60_2 u H locs hw60_2 hP hD hS => ?_)
          obtain ⟨sp1_60_2, rfl⟩ : ∃ z, z = u := ⟨_, rfl⟩
          try dsimp only at hw60_2
          obtain ⟨rfl, e_sp1_60_2⟩ := hw60_2
          have hP : va_P G vwCl (mk Z b (al, ke, hs, hq, sl, sa, off, car, pa, pq, sp1_60_2, 1, 0, er)) H := hP
          have hD : va_D A (mk Z b (al, ke, hs, hq, sl, sa, off, car, pa, pq, sp1_60_2, 1, 0, er)) := hD
          have z60 : sp1_60_2 ≤ 80 := by rw [e_sp1_60_2]; exact rSgP_le (by decide) z40
          refine lv_if_eq (tgt := 75) hx hb dX8_readsHours_63 (by decide) (fun c63 => ?_) (fun c63 => ?_)
          · refine lv_aload_n hx hb dX8_readsHours_75 rfl (lv_at hl 3 rfl) ?_
            refine va_get (D := G) (ci := 8) (v := .int 0) (C := RX8) (T := TX8) (N := 14) hx hb hts iX8 hown hK hP 0 rfl rfl 12 (by decide) k_181 (fun _ h9 => h9) rfl dX8_readsHours_76 ?_
            refine lv_if_eq (tgt := 97) hx hb dX8_readsHours_79 (by decide) (fun c79 => ?_) (fun c79 => (c79 rfl).elim)
            refine lv_iconst (v := 1) hx hb dX8_readsHours_97 (by decide) ?_
            exact W.zret hx hb hr (rfl) (zEi (sp1_60_2, 1) (by
                simp only [e_sp1_1, e_nu1_1, e_sp1_17, e_sp1_24, e_nu1_24, e_sp1_40, e_sp1_60_2] at c4 c20 c27 c43 c63 c79 ⊢
                simp only [rHrs, c4, c20, c27, c43, eq_true c63, eq_true c79, z10, ↓reduceIte, and_self]) hP hD hS) hS.2.2 dX8_readsHours_98
          · refine lv_aload_n hx hb dX8_readsHours_66 rfl (lv_at hl 3 rfl) ?_
            refine zCi (S := Nat × Int32) (ws1 := fun u => mk Z b (al, ke, hs, hq, sl, sa, off, car, pa, pq, u.1, u.2, 0, er)) (wr := []) (va_runV (As := []) (rest := []) ⟨hx, hb, hml, hown, hts⟩ (m_X8_readsNumber l G Z _ b al ke hs hq sl sa off car pa pq sp1_60_2 1 0 er (by
                exact z60) (by
                exact hpq)) (cwV 0 hts gX8_readsHours_X8_readsNumber rfl rfl rfl (by decide +kernel) ⟨Nat.le_of_ble_eq_true rfl, Nat.le_of_ble_eq_true rfl⟩) (zPreV hK hP hD hS hA hSW [0, 1, 2, 3, 4, 5, 6] rfl (by decide) 0 (ci := 8) rfl rfl rfl) rfl rfl hl.1 rfl (lv_room (Nat.le_of_ble_eq_true rfl)) dX8_readsHours_67 ⟨Nat.le_of_ble_eq_true rfl, Nat.le_of_ble_eq_true rfl⟩) hP hD hS hA [0, 1, 2, 3, 4, 5, 6] [] [0, 1, 2, 3, 4, 5, 6] rfl rfl (by decide) (by decide) (by decide) (fun _ => rfl) (fun r67_2 u H locs hw67_2 hP hD hS => ?_)
            obtain ⟨sp1_67_2, nu1_67_2⟩ := u
            try dsimp only at hw67_2
            obtain ⟨rfl, e_sp1_67_2, e_nu1_67_2⟩ := hw67_2
            have hP : va_P G vwCl (mk Z b (al, ke, hs, hq, sl, sa, off, car, pa, pq, sp1_67_2, nu1_67_2, 0, er)) H := hP
            have hD : va_D A (mk Z b (al, ke, hs, hq, sl, sa, off, car, pa, pq, sp1_67_2, nu1_67_2, 0, er)) := hD
            refine lv_if_ne (tgt := 75) hx hb dX8_readsHours_70 (by decide) (fun c70 => ?_) (fun c70 => ?_)
            · refine lv_aload_n hx hb dX8_readsHours_75 rfl (lv_at hl 3 rfl) ?_
              refine va_get (D := G) (ci := 8) (v := .int 0) (C := RX8) (T := TX8) (N := 14) hx hb hts iX8 hown hK hP 0 rfl rfl 12 (by decide) k_181 (fun _ h9 => h9) rfl dX8_readsHours_76 ?_
              refine lv_if_eq (tgt := 97) hx hb dX8_readsHours_79 (by decide) (fun c79 => ?_) (fun c79 => (c79 rfl).elim)
              refine lv_iconst (v := 1) hx hb dX8_readsHours_97 (by decide) ?_
              exact W.zret hx hb hr (rfl) (zEi (sp1_67_2, nu1_67_2) (by
                  simp only [e_sp1_1, e_nu1_1, e_sp1_17, e_sp1_24, e_nu1_24, e_sp1_40, e_sp1_60_2, e_sp1_67_2, e_nu1_67_2] at c4 c20 c27 c43 c63 c70 c79 ⊢
                  simp only [rHrs, c4, c20, c27, c43, c63, c70, eq_true c79, z10, ↓reduceIte, and_self]) hP hD hS) hS.2.2 dX8_readsHours_98
            · refine lv_iconst (v := 0) hx hb dX8_readsHours_73 (by decide) ?_
              exact W.zret hx hb hr (rfl) (zEi (sp1_67_2, nu1_67_2) (by
                  simp only [e_sp1_1, e_nu1_1, e_sp1_17, e_sp1_24, e_nu1_24, e_sp1_40, e_sp1_60_2, e_sp1_67_2, e_nu1_67_2] at c4 c20 c27 c43 c63 c70 ⊢
                  simp only [rHrs, c4, c20, c27, c43, c63, eq_true c70, z10, ↓reduceIte, and_self]) hP hD hS) hS.2.2 dX8_readsHours_74
      · refine lv_iconst (v := 0) hx hb dX8_readsHours_30 (by decide) ?_
        exact W.zret hx hb hr (rfl) (zEi (sp1_24, nu1_24) (by
            simp only [e_sp1_1, e_nu1_1, e_sp1_17, e_sp1_24, e_nu1_24] at c4 c20 c27 ⊢
            simp only [rHrs, c4, c20, eq_true c27, z10, ↓reduceIte, and_self]) hP hD hS) hS.2.2 dX8_readsHours_31
  · refine lv_iconst (v := 0) hx hb dX8_readsHours_7 (by decide) ?_
    exact W.zret hx hb hr (rfl) (zEi (sp1_1, nu1_1) (by
        simp only [e_sp1_1, e_nu1_1] at c4 ⊢
        simp only [rHrs, eq_true c4, z10, ↓reduceIte, and_self]) hP hD hS) hS.2.2 dX8_readsHours_8

set_option maxHeartbeats 4000000 in
set_option maxRecDepth 100000 in
theorem m_X8_readsHours1 (l : Launch) (G : va_G) (Z : Nat → ClassId) (sz : Nat) (b : Nat → Nat) (al : Nat → Int32) (ke : Nat → Int32) (hs : Nat → Int32) (hq : Nat) (sl : Nat → Int32) (sa : Nat → Int32) (off : Int32) (car : Int32) (pa : Nat → Int32) (pq : Nat) (sp : Nat) (nu : Int32) (er : Int32) (L : Nat) (hsp : sp ≤ 80) (hpq : pq ≤ 80) (hL : al 9 = nI L) (hL8 : L ≤ 48) (hok : ¬ (wH pa pq sp).1 = 0) : Met l yX8_readsHours wsX8_readsHours ({ frames := 4, cells := 0, slots := 0, locals := 99 }) (va_Pc [.ref (b 0)] (zWP G Z sz (mk Z b (al, ke, hs, hq, sl, sa, off, car, pa, pq, sp, nu, 1, er)))) (va_Qi (fun (r : Int32) (u : Nat × Int32 × (Nat → Int32) × Int32 × Int32 × Int32) => r = 1 ∧ u.1 = (wH pa pq sp).2.1 ∧ u.2.2.1 = mPaA al L (wH pa pq sp).2.2.2.1 (wH pa pq sp).2.2.2.2.1 (wH pa pq sp).2.2.2.2.2.1 (wH pa pq sp).2.2.2.2.2.2 ∧ u.2.2.2.1 = mErr (mPaR al L (wH pa pq sp).2.2.2.1 (wH pa pq sp).2.2.2.2.1 (wH pa pq sp).2.2.2.2.2.1 (wH pa pq sp).2.2.2.2.2.2)) (fun (u : Nat × Int32 × (Nat → Int32) × Int32 × Int32 × Int32) t => zB G (va_A (mk Z b (al, ke, hs, hq, sl, sa, off, car, pa, pq, sp, nu, 1, er)) sz) (mk Z b (u.2.2.1, ke, hs, hq, sl, sa, u.2.2.2.2.1, u.2.2.2.2.2, pa, pq, u.1, u.2.1, 1, u.2.2.2.1)) t) (va_A (mk Z b (al, ke, hs, hq, sl, sa, off, car, pa, pq, sp, nu, 1, er)) sz)) 0 0 (va_A (mk Z b (al, ke, hs, hq, sl, sa, off, car, pa, pq, sp, nu, 1, er)) sz) := by
  refine Met.ofW (cc := cX8_readsHours) (maxL := 4) (ret := (some .boolean)) (by decide) rfl ?_
  intro p e s m args below meth c s₁ B hml hv
  have hx := B.exec
  have hb := B.bytes
  have hr := B.returns
  have hts := atoms_spec (ws := wsX8_readsHours) B.pre
  have hown : s.vm.findClass RX8 = some m.cls := findClass_of_methodNamed B.named
  have hlocks := B.notSynchronized
  obtain ⟨rfl, hsz, hP, hK, hD, hA, hS, hSW⟩ := zEnter hv
  subst hsz
  generalize va_A (mk Z b (al, ke, hs, hq, sl, sa, off, car, pa, pq, sp, nu, 1, er)) s.heap.size = A at hD hA hS hSW ⊢
  have k_166 := hts (.fieldLink RX8 166 "WarmRodsModel" "number" "I") (List.mem_of_getElem? (i := 1) rfl)
  have iX8 : ∀ w ∈ u_ws RX8 TX8 14, w ∈ wsX8_readsHours := fun _ h => List.mem_cons_of_mem _ (List.mem_append_right _ h)
  have k_181 := hts (.fieldLink RX8 181 "WarmRodsModel" "isDone" "Z") (List.mem_of_getElem? (i := 2) rfl)
  have hP : va_P G vwCl (mk Z b (al, ke, hs, hq, sl, sa, off, car, pa, pq, sp, nu, 1, er)) s.heap := hP
  have hl := lv_entry ([.ref (b 0)]) (n := 4) (Nat.le_of_ble_eq_true rfl)
  rw [lg_entry_eq]
  generalize (lg_sl ([.ref (b 0)]) ++ List.replicate (4 - (lg_sl ([.ref (b 0)])).length) Slot.unset).toArray = ls at hl ⊢
  have hl : lv_has ls 4 [(0, .ref (b 0))] := hl
  refine lv_aload_n hx hb dX8_readsHours_0 rfl (lv_at hl 0 rfl) ?_
  refine zCi (S := Nat × Int32) (ws1 := fun u => mk Z b (al, ke, hs, hq, sl, sa, off, car, pa, pq, u.1, u.2, 1, er)) (wr := []) (va_runV (As := []) (rest := []) ⟨hx, hb, hml, hown, hts⟩ (m_X8_readsValue l G Z _ b al ke hs hq sl sa off car pa pq sp nu 1 er (by
      exact hsp) (by
      exact hpq)) (cwV 0 hts gX8_readsHours_X8_readsValue rfl rfl rfl (by decide +kernel) ⟨Nat.le_of_ble_eq_true rfl, Nat.le_of_ble_eq_true rfl⟩) (zPreV hK hP hD hS hA hSW [0, 1, 2, 3, 4, 5, 6] rfl (by decide) 0 (ci := 8) rfl rfl rfl) rfl rfl hl.1 rfl (lv_room (Nat.le_of_ble_eq_true rfl)) dX8_readsHours_1 ⟨Nat.le_of_ble_eq_true rfl, Nat.le_of_ble_eq_true rfl⟩) hP hD hS hA [0, 1, 2, 3, 4, 5, 6] [] [0, 1, 2, 3, 4, 5, 6] rfl rfl (by decide) (by decide) (by decide) (fun _ => rfl) (fun r1 u H locs hw1 hP hD hS => ?_)
  obtain ⟨sp1_1, nu1_1⟩ := u
  try dsimp only at hw1
  obtain ⟨rfl, e_sp1_1, e_nu1_1⟩ := hw1
  have hP : va_P G vwCl (mk Z b (al, ke, hs, hq, sl, sa, off, car, pa, pq, sp1_1, nu1_1, 1, er)) H := hP
  have hD : va_D A (mk Z b (al, ke, hs, hq, sl, sa, off, car, pa, pq, sp1_1, nu1_1, 1, er)) := hD
  have z1 : sp1_1 ≤ 80 := by rw [e_sp1_1]; exact rVaP_le hsp
  refine lv_if_ne (tgt := 9) hx hb dX8_readsHours_4 (by decide) (fun c4 => ?_) (fun c4 => (hok (by simp only [rHrs, c4, ↓reduceIte])).elim)
  refine lv_aload_n hx hb dX8_readsHours_9 rfl (lv_at hl 0 rfl) ?_
  refine va_get (D := G) (ci := 8) (v := .int nu1_1) (C := RX8) (T := TX8) (N := 14) hx hb hts iX8 hown hK hP 0 rfl rfl 11 (by decide) k_166 (fun _ h9 => h9) rfl dX8_readsHours_10 ?_
  refine lv_istore_n (lv' := [(1, .int nu1_1), (0, .ref (b 0))]) hx hb dX8_readsHours_13 rfl hl (by decide) rfl (fun ls hl => ?_)
  refine lv_aload_n hx hb dX8_readsHours_14 rfl (lv_at hl 1 rfl) ?_
  refine lv_bipush (v := 44) hx hb dX8_readsHours_15 (by decide) ?_
  refine zCi (S := Nat) (ws1 := fun u => mk Z b (al, ke, hs, hq, sl, sa, off, car, pa, pq, u, nu1_1, 1, er)) (wr := []) (va_runV (As := [.int 44]) (rest := []) ⟨hx, hb, hml, hown, hts⟩ (m_X8_takes l G Z _ b al ke hs hq sl sa off car pa pq sp1_1 nu1_1 1 er 44 (by
      exact z1) (by
      exact hpq) (by
      decide)) (cwV 1 hts gX8_readsHours_X8_takes rfl rfl rfl (by decide +kernel) ⟨Nat.le_of_ble_eq_true rfl, Nat.le_of_ble_eq_true rfl⟩) (zPreV hK hP hD hS hA hSW [0, 1, 2, 3, 4, 5, 6] rfl (by decide) 0 (ci := 8) rfl rfl rfl) rfl rfl hl.1 rfl (lv_room (Nat.le_of_ble_eq_true rfl)) dX8_readsHours_17 ⟨Nat.le_of_ble_eq_true rfl, Nat.le_of_ble_eq_true rfl⟩) hP hD hS hA [0, 1, 2, 3, 4, 5, 6] [] [0, 1, 2, 3, 4, 5, 6] rfl rfl (by decide) (by decide) (by decide) (fun _ => rfl) (fun r17 u H locs hw17 hP hD hS => ?_)
  obtain ⟨sp1_17, rfl⟩ : ∃ z, z = u := ⟨_, rfl⟩
  try dsimp only at hw17
  obtain ⟨rfl, e_sp1_17⟩ := hw17
  have hP : va_P G vwCl (mk Z b (al, ke, hs, hq, sl, sa, off, car, pa, pq, sp1_17, nu1_1, 1, er)) H := hP
  have hD : va_D A (mk Z b (al, ke, hs, hq, sl, sa, off, car, pa, pq, sp1_17, nu1_1, 1, er)) := hD
  have z17 : sp1_17 ≤ 80 := by rw [e_sp1_17]; exact rSgP_le (by decide) z1
  refine lv_if_eq (tgt := 30) hx hb dX8_readsHours_20 (by decide) (fun c20 => (hok (by simp only [e_sp1_1, e_nu1_1, e_sp1_17] at c20; simp only [rHrs, c4, c20, ↓reduceIte])).elim) (fun c20 => ?_)
  refine lv_aload_n hx hb dX8_readsHours_23 rfl (lv_at hl 1 rfl) ?_
  refine zCi (S := Nat × Int32) (ws1 := fun u => mk Z b (al, ke, hs, hq, sl, sa, off, car, pa, pq, u.1, u.2, 1, er)) (wr := []) (va_runV (As := []) (rest := []) ⟨hx, hb, hml, hown, hts⟩ (m_X8_readsNumber l G Z _ b al ke hs hq sl sa off car pa pq sp1_17 nu1_1 1 er (by
      exact z17) (by
      exact hpq)) (cwV 0 hts gX8_readsHours_X8_readsNumber rfl rfl rfl (by decide +kernel) ⟨Nat.le_of_ble_eq_true rfl, Nat.le_of_ble_eq_true rfl⟩) (zPreV hK hP hD hS hA hSW [0, 1, 2, 3, 4, 5, 6] rfl (by decide) 0 (ci := 8) rfl rfl rfl) rfl rfl hl.1 rfl (lv_room (Nat.le_of_ble_eq_true rfl)) dX8_readsHours_24 ⟨Nat.le_of_ble_eq_true rfl, Nat.le_of_ble_eq_true rfl⟩) hP hD hS hA [0, 1, 2, 3, 4, 5, 6] [] [0, 1, 2, 3, 4, 5, 6] rfl rfl (by decide) (by decide) (by decide) (fun _ => rfl) (fun r24 u H locs hw24 hP hD hS => ?_)
  obtain ⟨sp1_24, nu1_24⟩ := u
  try dsimp only at hw24
  obtain ⟨rfl, e_sp1_24, e_nu1_24⟩ := hw24
  have hP : va_P G vwCl (mk Z b (al, ke, hs, hq, sl, sa, off, car, pa, pq, sp1_24, nu1_24, 1, er)) H := hP
  have hD : va_D A (mk Z b (al, ke, hs, hq, sl, sa, off, car, pa, pq, sp1_24, nu1_24, 1, er)) := hD
  have z24 : sp1_24 ≤ 80 := by rw [e_sp1_24]; exact rNumP_le z17
  refine lv_if_ne (tgt := 32) hx hb dX8_readsHours_27 (by decide) (fun c27 => ?_) (fun c27 => (hok (by simp only [e_sp1_1, e_nu1_1, e_sp1_17, e_sp1_24, e_nu1_24] at c20 c27; simp only [rHrs, c4, c20, c27, ↓reduceIte])).elim)
  refine lv_aload_n hx hb dX8_readsHours_32 rfl (lv_at hl 1 rfl) ?_
  refine va_get (D := G) (ci := 8) (v := .int nu1_24) (C := RX8) (T := TX8) (N := 14) hx hb hts iX8 hown hK hP 0 rfl rfl 11 (by decide) k_166 (fun _ h9 => h9) rfl dX8_readsHours_33 ?_
  refine lv_istore_n (lv' := [(2, .int nu1_24), (1, .int nu1_1), (0, .ref (b 0))]) hx hb dX8_readsHours_36 rfl hl (by decide) rfl (fun ls hl => ?_)
  refine lv_aload_n hx hb dX8_readsHours_37 rfl (lv_at hl 2 rfl) ?_
  refine lv_bipush (v := 114) hx hb dX8_readsHours_38 (by decide) ?_
  refine zCi (S := Nat) (ws1 := fun u => mk Z b (al, ke, hs, hq, sl, sa, off, car, pa, pq, u, nu1_24, 1, er)) (wr := []) (va_runV (As := [.int 114]) (rest := []) ⟨hx, hb, hml, hown, hts⟩ (m_X8_takes l G Z _ b al ke hs hq sl sa off car pa pq sp1_24 nu1_24 1 er 114 (by
      exact z24) (by
      exact hpq) (by
      decide)) (cwV 1 hts gX8_readsHours_X8_takes rfl rfl rfl (by decide +kernel) ⟨Nat.le_of_ble_eq_true rfl, Nat.le_of_ble_eq_true rfl⟩) (zPreV hK hP hD hS hA hSW [0, 1, 2, 3, 4, 5, 6] rfl (by decide) 0 (ci := 8) rfl rfl rfl) rfl rfl hl.1 rfl (lv_room (Nat.le_of_ble_eq_true rfl)) dX8_readsHours_40 ⟨Nat.le_of_ble_eq_true rfl, Nat.le_of_ble_eq_true rfl⟩) hP hD hS hA [0, 1, 2, 3, 4, 5, 6] [] [0, 1, 2, 3, 4, 5, 6] rfl rfl (by decide) (by decide) (by decide) (fun _ => rfl) (fun r40 u H locs hw40 hP hD hS => ?_)
  obtain ⟨sp1_40, rfl⟩ : ∃ z, z = u := ⟨_, rfl⟩
  try dsimp only at hw40
  obtain ⟨rfl, e_sp1_40⟩ := hw40
  have hP : va_P G vwCl (mk Z b (al, ke, hs, hq, sl, sa, off, car, pa, pq, sp1_40, nu1_24, 1, er)) H := hP
  have hD : va_D A (mk Z b (al, ke, hs, hq, sl, sa, off, car, pa, pq, sp1_40, nu1_24, 1, er)) := hD
  have z40 : sp1_40 ≤ 80 := by rw [e_sp1_40]; exact rSgP_le (by decide) z24
  refine lv_if_eq (tgt := 50) hx hb dX8_readsHours_43 (by decide) (fun c43 => ?_) (fun c43 => ?_)
  · refine lv_iconst (v := 0) hx hb dX8_readsHours_50 (by decide) ?_
    refine lv_istore_n (lv' := [(3, .int 0), (2, .int nu1_24), (1, .int nu1_1), (0, .ref (b 0))]) hx hb dX8_readsHours_51 rfl hl (by decide) rfl (fun ls hl => ?_)
    refine lv_aload_n hx hb dX8_readsHours_52 rfl (lv_at hl 3 rfl) ?_
    refine lv_iconst (v := 1) hx hb dX8_readsHours_53 (by decide) ?_
    refine va_put (D := G) (ci := 8) (v := .int 1) (ty := .int) (C := RX8) (T := TX8) (N := 14) hx hb hts iX8 tyX8 tyX8_ok nmX8 hown hK hP hD hS 0 rfl rfl 11 (by decide) k_166 (fun _ h9 => h9) rfl (by decide +kernel) rfl rfl (Nat.le_of_ble_eq_true rfl) dX8_readsHours_54 (fun H locs hP hD hS => ?_)
    have hP : va_P G vwCl (mk Z b (al, ke, hs, hq, sl, sa, off, car, pa, pq, sp1_40, 1, 1, er)) H := hP
    have hD : va_D A (mk Z b (al, ke, hs, hq, sl, sa, off, car, pa, pq, sp1_40, 1, 1, er)) := hD
    refine lv_aload_n hx hb dX8_readsHours_57 rfl (lv_at hl 3 rfl) ?_
    refine lv_bipush (v := 42) hx hb dX8_readsHours_58 (by decide) ?_
    refine zCi (S := Nat) (ws1 := fun u => mk Z b (al, ke, hs, hq, sl, sa, off, car, pa, pq, u, 1, 1, er)) (wr := []) (va_runV (As := [.int 42]) (rest := []) ⟨hx, hb, hml, hown, hts⟩ (m_X8_takes l G Z _ b al ke hs hq sl sa off car pa pq sp1_40 1 1 er 42 (by
        exact z40) (by
        exact hpq) (by
        decide)) (cwV 1 hts gX8_readsHours_X8_takes rfl rfl rfl (by decide +kernel) ⟨Nat.le_of_ble_eq_true rfl, Nat.le_of_ble_eq_true rfl⟩) (zPreV hK hP hD hS hA hSW [0, 1, 2, 3, 4, 5, 6] rfl (by decide) 0 (ci := 8) rfl rfl rfl) rfl rfl hl.1 rfl (lv_room (Nat.le_of_ble_eq_true rfl)) dX8_readsHours_60 ⟨Nat.le_of_ble_eq_true rfl, Nat.le_of_ble_eq_true rfl⟩) hP hD hS hA [0, 1, 2, 3, 4, 5, 6] [] [0, 1, 2, 3, 4, 5, 6] rfl rfl (by decide) (by decide) (by decide) (fun _ => rfl) (fun r60 u H locs hw60 hP hD hS => ?_)
    obtain ⟨sp1_60, rfl⟩ : ∃ z, z = u := ⟨_, rfl⟩
    try dsimp only at hw60
    obtain ⟨rfl, e_sp1_60⟩ := hw60
    have hP : va_P G vwCl (mk Z b (al, ke, hs, hq, sl, sa, off, car, pa, pq, sp1_60, 1, 1, er)) H := hP
    have hD : va_D A (mk Z b (al, ke, hs, hq, sl, sa, off, car, pa, pq, sp1_60, 1, 1, er)) := hD
    have z60 : sp1_60 ≤ 80 := by rw [e_sp1_60]; exact rSgP_le (by decide) z40
    refine lv_if_eq (tgt := 75) hx hb dX8_readsHours_63 (by decide) (fun c63 => ?_) (fun c63 => ?_)
    · refine lv_aload_n hx hb dX8_readsHours_75 rfl (lv_at hl 3 rfl) ?_
      refine va_get (D := G) (ci := 8) (v := .int 1) (C := RX8) (T := TX8) (N := 14) hx hb hts iX8 hown hK hP 0 rfl rfl 12 (by decide) k_181 (fun _ h9 => h9) rfl dX8_readsHours_76 ?_
      refine lv_if_eq (tgt := 97) hx hb dX8_readsHours_79 (by decide) (fun c79 => (show False from absurd c79 (by decide)).elim) (fun c79 => ?_)
      refine lv_aload_n hx hb dX8_readsHours_82 rfl (lv_at hl 3 rfl) ?_
      refine lv_aload_n hx hb dX8_readsHours_83 rfl (lv_at hl 3 rfl) ?_
      refine lv_iload_n hx hb dX8_readsHours_84 rfl (lv_at hl 2 rfl) ?_
      refine lv_iload_n hx hb dX8_readsHours_85 rfl (lv_at hl 1 rfl) ?_
      refine lv_iload_n hx hb dX8_readsHours_86 rfl (lv_at hl 0 rfl) ?_
      refine lv_aload_n hx hb dX8_readsHours_87 rfl (lv_at hl 3 rfl) ?_
      refine va_get (D := G) (ci := 8) (v := .int 1) (C := RX8) (T := TX8) (N := 14) hx hb hts iX8 hown hK hP 0 rfl rfl 11 (by decide) k_166 (fun _ h9 => h9) rfl dX8_readsHours_88 ?_
      refine zCi (S := (Nat → Int32) × Int32 × Int32) (ws1 := fun u => mk Z b (u.1, ke, hs, hq, sl, sa, u.2.1, u.2.2, pa, pq, sp1_60, 1, 1, er)) (wr := []) (va_runV (As := [.int nu1_1, .int nu1_24, .int 0, .int 1]) (rest := [.ref (b 0)]) ⟨hx, hb, hml, hown, hts⟩ (m_X8_doPass l G Z _ b al ke hs hq sl sa off car pa pq sp1_60 1 1 er L nu1_1 nu1_24 0 1 (by
          exact hL) (by
          exact hL8)) (cwV 4 hts gX8_readsHours_X8_doPass rfl rfl rfl (by decide +kernel) ⟨Nat.le_of_ble_eq_true rfl, Nat.le_of_ble_eq_true rfl⟩) (zPreV hK hP hD hS hA hSW [0, 1, 2, 3, 4, 5, 6] rfl (by decide) 0 (ci := 8) rfl rfl rfl) rfl rfl hl.1 rfl (lv_room (Nat.le_of_ble_eq_true rfl)) dX8_readsHours_91 ⟨Nat.le_of_ble_eq_true rfl, Nat.le_of_ble_eq_true rfl⟩) hP hD hS hA [0, 1, 2, 3, 4, 5, 6] [] [0, 1, 2, 3, 4, 5, 6] rfl rfl (by decide) (by decide) (by decide) (fun _ => rfl) (fun r91 u H locs hw91 hP hD hS => ?_)
      obtain ⟨al1_91, o1_91, c1_91⟩ := u
      try dsimp only at hw91
      obtain ⟨e_r91, e_al1_91⟩ := hw91
      have hP : va_P G vwCl (mk Z b (al1_91, ke, hs, hq, sl, sa, o1_91, c1_91, pa, pq, sp1_60, 1, 1, er)) H := hP
      have hD : va_D A (mk Z b (al1_91, ke, hs, hq, sl, sa, o1_91, c1_91, pa, pq, sp1_60, 1, 1, er)) := hD
      refine zCv (S := Int32) (ws1 := fun u => mk Z b (al1_91, ke, hs, hq, sl, sa, o1_91, c1_91, pa, pq, sp1_60, 1, 1, u)) (wr := []) (va_runV (As := [.int r91]) (rest := []) ⟨hx, hb, hml, hown, hts⟩ (m_X8_does l G Z _ b al1_91 ke hs hq sl sa o1_91 c1_91 pa pq sp1_60 1 1 er r91) (cwV 1 hts gX8_readsHours_X8_does rfl rfl rfl (by decide +kernel) ⟨Nat.le_of_ble_eq_true rfl, Nat.le_of_ble_eq_true rfl⟩) (zPreV hK hP hD hS hA hSW [0, 1, 2, 3, 4, 5, 6] rfl (by decide) 0 (ci := 8) rfl rfl rfl) rfl rfl hl.1 rfl (lv_room (Nat.le_of_ble_eq_true rfl)) dX8_readsHours_94 ⟨Nat.le_of_ble_eq_true rfl, Nat.le_of_ble_eq_true rfl⟩) hP hD hS hA [0, 1, 2, 3, 4, 5, 6] [] [0, 1, 2, 3, 4, 5, 6] rfl rfl (by decide) (by decide) (by decide) (fun _ => rfl) (fun u H locs hw94 hP hD hS => ?_)
      obtain ⟨er1_94, rfl⟩ : ∃ z, z = u := ⟨_, rfl⟩
      try dsimp only at hw94
      have e_er1_94 := hw94
      have hP : va_P G vwCl (mk Z b (al1_91, ke, hs, hq, sl, sa, o1_91, c1_91, pa, pq, sp1_60, 1, 1, er1_94)) H := hP
      have hD : va_D A (mk Z b (al1_91, ke, hs, hq, sl, sa, o1_91, c1_91, pa, pq, sp1_60, 1, 1, er1_94)) := hD
      refine lv_iconst (v := 1) hx hb dX8_readsHours_97 (by decide) ?_
      exact W.zret hx hb hr (rfl) (zEi (sp1_60, 1, al1_91, er1_94, o1_91, c1_91) (by
          simp only [e_sp1_1, e_nu1_1, e_sp1_17, e_sp1_24, e_nu1_24, e_sp1_40, e_sp1_60, e_r91, e_al1_91, e_er1_94] at c4 c20 c27 c43 c63 c79 ⊢
          rw [mVaN_ok nu 0 c4]
          simp only [rHrs, mErr, mNumN_ok _ c27, c4, c20, c27, eq_true c43, eq_true c63, c79, z10, ↓reduceIte, and_self]) hP hD hS) hS.2.2 dX8_readsHours_98
    · refine lv_aload_n hx hb dX8_readsHours_66 rfl (lv_at hl 3 rfl) ?_
      refine zCi (S := Nat × Int32) (ws1 := fun u => mk Z b (al, ke, hs, hq, sl, sa, off, car, pa, pq, u.1, u.2, 1, er)) (wr := []) (va_runV (As := []) (rest := []) ⟨hx, hb, hml, hown, hts⟩ (m_X8_readsNumber l G Z _ b al ke hs hq sl sa off car pa pq sp1_60 1 1 er (by
          exact z60) (by
          exact hpq)) (cwV 0 hts gX8_readsHours_X8_readsNumber rfl rfl rfl (by decide +kernel) ⟨Nat.le_of_ble_eq_true rfl, Nat.le_of_ble_eq_true rfl⟩) (zPreV hK hP hD hS hA hSW [0, 1, 2, 3, 4, 5, 6] rfl (by decide) 0 (ci := 8) rfl rfl rfl) rfl rfl hl.1 rfl (lv_room (Nat.le_of_ble_eq_true rfl)) dX8_readsHours_67 ⟨Nat.le_of_ble_eq_true rfl, Nat.le_of_ble_eq_true rfl⟩) hP hD hS hA [0, 1, 2, 3, 4, 5, 6] [] [0, 1, 2, 3, 4, 5, 6] rfl rfl (by decide) (by decide) (by decide) (fun _ => rfl) (fun r67 u H locs hw67 hP hD hS => ?_)
      obtain ⟨sp1_67, nu1_67⟩ := u
      try dsimp only at hw67
      obtain ⟨rfl, e_sp1_67, e_nu1_67⟩ := hw67
      have hP : va_P G vwCl (mk Z b (al, ke, hs, hq, sl, sa, off, car, pa, pq, sp1_67, nu1_67, 1, er)) H := hP
      have hD : va_D A (mk Z b (al, ke, hs, hq, sl, sa, off, car, pa, pq, sp1_67, nu1_67, 1, er)) := hD
      refine lv_if_ne (tgt := 75) hx hb dX8_readsHours_70 (by decide) (fun c70 => ?_) (fun c70 => (hok (by simp only [e_sp1_1, e_nu1_1, e_sp1_17, e_sp1_24, e_nu1_24, e_sp1_40, e_sp1_60, e_sp1_67, e_nu1_67] at c20 c27 c63 c70; simp only [rHrs, c4, c20, c27, c63, c70, ↓reduceIte])).elim)
      refine lv_aload_n hx hb dX8_readsHours_75 rfl (lv_at hl 3 rfl) ?_
      refine va_get (D := G) (ci := 8) (v := .int 1) (C := RX8) (T := TX8) (N := 14) hx hb hts iX8 hown hK hP 0 rfl rfl 12 (by decide) k_181 (fun _ h9 => h9) rfl dX8_readsHours_76 ?_
      refine lv_if_eq (tgt := 97) hx hb dX8_readsHours_79 (by decide) (fun c79 => (show False from absurd c79 (by decide)).elim) (fun c79 => ?_)
      refine lv_aload_n hx hb dX8_readsHours_82 rfl (lv_at hl 3 rfl) ?_
      refine lv_aload_n hx hb dX8_readsHours_83 rfl (lv_at hl 3 rfl) ?_
      refine lv_iload_n hx hb dX8_readsHours_84 rfl (lv_at hl 2 rfl) ?_
      refine lv_iload_n hx hb dX8_readsHours_85 rfl (lv_at hl 1 rfl) ?_
      refine lv_iload_n hx hb dX8_readsHours_86 rfl (lv_at hl 0 rfl) ?_
      refine lv_aload_n hx hb dX8_readsHours_87 rfl (lv_at hl 3 rfl) ?_
      refine va_get (D := G) (ci := 8) (v := .int nu1_67) (C := RX8) (T := TX8) (N := 14) hx hb hts iX8 hown hK hP 0 rfl rfl 11 (by decide) k_166 (fun _ h9 => h9) rfl dX8_readsHours_88 ?_
      refine zCi (S := (Nat → Int32) × Int32 × Int32) (ws1 := fun u => mk Z b (u.1, ke, hs, hq, sl, sa, u.2.1, u.2.2, pa, pq, sp1_67, nu1_67, 1, er)) (wr := []) (va_runV (As := [.int nu1_1, .int nu1_24, .int 0, .int nu1_67]) (rest := [.ref (b 0)]) ⟨hx, hb, hml, hown, hts⟩ (m_X8_doPass l G Z _ b al ke hs hq sl sa off car pa pq sp1_67 nu1_67 1 er L nu1_1 nu1_24 0 nu1_67 (by
          exact hL) (by
          exact hL8)) (cwV 4 hts gX8_readsHours_X8_doPass rfl rfl rfl (by decide +kernel) ⟨Nat.le_of_ble_eq_true rfl, Nat.le_of_ble_eq_true rfl⟩) (zPreV hK hP hD hS hA hSW [0, 1, 2, 3, 4, 5, 6] rfl (by decide) 0 (ci := 8) rfl rfl rfl) rfl rfl hl.1 rfl (lv_room (Nat.le_of_ble_eq_true rfl)) dX8_readsHours_91 ⟨Nat.le_of_ble_eq_true rfl, Nat.le_of_ble_eq_true rfl⟩) hP hD hS hA [0, 1, 2, 3, 4, 5, 6] [] [0, 1, 2, 3, 4, 5, 6] rfl rfl (by decide) (by decide) (by decide) (fun _ => rfl) (fun r91_2 u H locs hw91_2 hP hD hS => ?_)
      obtain ⟨al1_91_2, o1_91_2, c1_91_2⟩ := u
      try dsimp only at hw91_2
      obtain ⟨e_r91_2, e_al1_91_2⟩ := hw91_2
      have hP : va_P G vwCl (mk Z b (al1_91_2, ke, hs, hq, sl, sa, o1_91_2, c1_91_2, pa, pq, sp1_67, nu1_67, 1, er)) H := hP
      have hD : va_D A (mk Z b (al1_91_2, ke, hs, hq, sl, sa, o1_91_2, c1_91_2, pa, pq, sp1_67, nu1_67, 1, er)) := hD
      refine zCv (S := Int32) (ws1 := fun u => mk Z b (al1_91_2, ke, hs, hq, sl, sa, o1_91_2, c1_91_2, pa, pq, sp1_67, nu1_67, 1, u)) (wr := []) (va_runV (As := [.int r91_2]) (rest := []) ⟨hx, hb, hml, hown, hts⟩ (m_X8_does l G Z _ b al1_91_2 ke hs hq sl sa o1_91_2 c1_91_2 pa pq sp1_67 nu1_67 1 er r91_2) (cwV 1 hts gX8_readsHours_X8_does rfl rfl rfl (by decide +kernel) ⟨Nat.le_of_ble_eq_true rfl, Nat.le_of_ble_eq_true rfl⟩) (zPreV hK hP hD hS hA hSW [0, 1, 2, 3, 4, 5, 6] rfl (by decide) 0 (ci := 8) rfl rfl rfl) rfl rfl hl.1 rfl (lv_room (Nat.le_of_ble_eq_true rfl)) dX8_readsHours_94 ⟨Nat.le_of_ble_eq_true rfl, Nat.le_of_ble_eq_true rfl⟩) hP hD hS hA [0, 1, 2, 3, 4, 5, 6] [] [0, 1, 2, 3, 4, 5, 6] rfl rfl (by decide) (by decide) (by decide) (fun _ => rfl) (fun u H locs hw94_2 hP hD hS => ?_)
      obtain ⟨er1_94_2, rfl⟩ : ∃ z, z = u := ⟨_, rfl⟩
      try dsimp only at hw94_2
      have e_er1_94_2 := hw94_2
      have hP : va_P G vwCl (mk Z b (al1_91_2, ke, hs, hq, sl, sa, o1_91_2, c1_91_2, pa, pq, sp1_67, nu1_67, 1, er1_94_2)) H := hP
      have hD : va_D A (mk Z b (al1_91_2, ke, hs, hq, sl, sa, o1_91_2, c1_91_2, pa, pq, sp1_67, nu1_67, 1, er1_94_2)) := hD
      refine lv_iconst (v := 1) hx hb dX8_readsHours_97 (by decide) ?_
      exact W.zret hx hb hr (rfl) (zEi (sp1_67, nu1_67, al1_91_2, er1_94_2, o1_91_2, c1_91_2) (by
          simp only [e_sp1_1, e_nu1_1, e_sp1_17, e_sp1_24, e_nu1_24, e_sp1_40, e_sp1_60, e_sp1_67, e_nu1_67, e_r91_2, e_al1_91_2, e_er1_94_2] at c4 c20 c27 c43 c63 c70 c79 ⊢
          rw [mVaN_ok nu 0 c4]
          simp only [rHrs, mErr, mNumN_ok _ c27, mNumN_ok _ c70, c4, c20, c27, eq_true c43, c63, c70, c79, z10, ↓reduceIte, and_self]) hP hD hS) hS.2.2 dX8_readsHours_98
  · refine lv_iconst (v := 1) hx hb dX8_readsHours_46 (by decide) ?_
    refine lv_goto (tgt := 51) hx hb dX8_readsHours_47 (by decide) ?_
    refine lv_istore_n (lv' := [(3, .int 1), (2, .int nu1_24), (1, .int nu1_1), (0, .ref (b 0))]) hx hb dX8_readsHours_51 rfl hl (by decide) rfl (fun ls hl => ?_)
    refine lv_aload_n hx hb dX8_readsHours_52 rfl (lv_at hl 3 rfl) ?_
    refine lv_iconst (v := 1) hx hb dX8_readsHours_53 (by decide) ?_
    refine va_put (D := G) (ci := 8) (v := .int 1) (ty := .int) (C := RX8) (T := TX8) (N := 14) hx hb hts iX8 tyX8 tyX8_ok nmX8 hown hK hP hD hS 0 rfl rfl 11 (by decide) k_166 (fun _ h9 => h9) rfl (by decide +kernel) rfl rfl (Nat.le_of_ble_eq_true rfl) dX8_readsHours_54 (fun H locs hP hD hS => ?_)
    have hP : va_P G vwCl (mk Z b (al, ke, hs, hq, sl, sa, off, car, pa, pq, sp1_40, 1, 1, er)) H := hP
    have hD : va_D A (mk Z b (al, ke, hs, hq, sl, sa, off, car, pa, pq, sp1_40, 1, 1, er)) := hD
    refine lv_aload_n hx hb dX8_readsHours_57 rfl (lv_at hl 3 rfl) ?_
    refine lv_bipush (v := 42) hx hb dX8_readsHours_58 (by decide) ?_
    refine zCi (S := Nat) (ws1 := fun u => mk Z b (al, ke, hs, hq, sl, sa, off, car, pa, pq, u, 1, 1, er)) (wr := []) (va_runV (As := [.int 42]) (rest := []) ⟨hx, hb, hml, hown, hts⟩ (m_X8_takes l G Z _ b al ke hs hq sl sa off car pa pq sp1_40 1 1 er 42 (by
        exact z40) (by
        exact hpq) (by
        decide)) (cwV 1 hts gX8_readsHours_X8_takes rfl rfl rfl (by decide +kernel) ⟨Nat.le_of_ble_eq_true rfl, Nat.le_of_ble_eq_true rfl⟩) (zPreV hK hP hD hS hA hSW [0, 1, 2, 3, 4, 5, 6] rfl (by decide) 0 (ci := 8) rfl rfl rfl) rfl rfl hl.1 rfl (lv_room (Nat.le_of_ble_eq_true rfl)) dX8_readsHours_60 ⟨Nat.le_of_ble_eq_true rfl, Nat.le_of_ble_eq_true rfl⟩) hP hD hS hA [0, 1, 2, 3, 4, 5, 6] [] [0, 1, 2, 3, 4, 5, 6] rfl rfl (by decide) (by decide) (by decide) (fun _ => rfl) (fun r60_2 u H locs hw60_2 hP hD hS => ?_)
    obtain ⟨sp1_60_2, rfl⟩ : ∃ z, z = u := ⟨_, rfl⟩
    try dsimp only at hw60_2
    obtain ⟨rfl, e_sp1_60_2⟩ := hw60_2
    have hP : va_P G vwCl (mk Z b (al, ke, hs, hq, sl, sa, off, car, pa, pq, sp1_60_2, 1, 1, er)) H := hP
    have hD : va_D A (mk Z b (al, ke, hs, hq, sl, sa, off, car, pa, pq, sp1_60_2, 1, 1, er)) := hD
    have z60 : sp1_60_2 ≤ 80 := by rw [e_sp1_60_2]; exact rSgP_le (by decide) z40
    refine lv_if_eq (tgt := 75) hx hb dX8_readsHours_63 (by decide) (fun c63 => ?_) (fun c63 => ?_)
    · refine lv_aload_n hx hb dX8_readsHours_75 rfl (lv_at hl 3 rfl) ?_
      refine va_get (D := G) (ci := 8) (v := .int 1) (C := RX8) (T := TX8) (N := 14) hx hb hts iX8 hown hK hP 0 rfl rfl 12 (by decide) k_181 (fun _ h9 => h9) rfl dX8_readsHours_76 ?_
      refine lv_if_eq (tgt := 97) hx hb dX8_readsHours_79 (by decide) (fun c79 => (show False from absurd c79 (by decide)).elim) (fun c79 => ?_)
      refine lv_aload_n hx hb dX8_readsHours_82 rfl (lv_at hl 3 rfl) ?_
      refine lv_aload_n hx hb dX8_readsHours_83 rfl (lv_at hl 3 rfl) ?_
      refine lv_iload_n hx hb dX8_readsHours_84 rfl (lv_at hl 2 rfl) ?_
      refine lv_iload_n hx hb dX8_readsHours_85 rfl (lv_at hl 1 rfl) ?_
      refine lv_iload_n hx hb dX8_readsHours_86 rfl (lv_at hl 0 rfl) ?_
      refine lv_aload_n hx hb dX8_readsHours_87 rfl (lv_at hl 3 rfl) ?_
      refine va_get (D := G) (ci := 8) (v := .int 1) (C := RX8) (T := TX8) (N := 14) hx hb hts iX8 hown hK hP 0 rfl rfl 11 (by decide) k_166 (fun _ h9 => h9) rfl dX8_readsHours_88 ?_
      refine zCi (S := (Nat → Int32) × Int32 × Int32) (ws1 := fun u => mk Z b (u.1, ke, hs, hq, sl, sa, u.2.1, u.2.2, pa, pq, sp1_60_2, 1, 1, er)) (wr := []) (va_runV (As := [.int nu1_1, .int nu1_24, .int 1, .int 1]) (rest := [.ref (b 0)]) ⟨hx, hb, hml, hown, hts⟩ (m_X8_doPass l G Z _ b al ke hs hq sl sa off car pa pq sp1_60_2 1 1 er L nu1_1 nu1_24 1 1 (by
          exact hL) (by
          exact hL8)) (cwV 4 hts gX8_readsHours_X8_doPass rfl rfl rfl (by decide +kernel) ⟨Nat.le_of_ble_eq_true rfl, Nat.le_of_ble_eq_true rfl⟩) (zPreV hK hP hD hS hA hSW [0, 1, 2, 3, 4, 5, 6] rfl (by decide) 0 (ci := 8) rfl rfl rfl) rfl rfl hl.1 rfl (lv_room (Nat.le_of_ble_eq_true rfl)) dX8_readsHours_91 ⟨Nat.le_of_ble_eq_true rfl, Nat.le_of_ble_eq_true rfl⟩) hP hD hS hA [0, 1, 2, 3, 4, 5, 6] [] [0, 1, 2, 3, 4, 5, 6] rfl rfl (by decide) (by decide) (by decide) (fun _ => rfl) (fun r91_3 u H locs hw91_3 hP hD hS => ?_)
      obtain ⟨al1_91_3, o1_91_3, c1_91_3⟩ := u
      try dsimp only at hw91_3
      obtain ⟨e_r91_3, e_al1_91_3⟩ := hw91_3
      have hP : va_P G vwCl (mk Z b (al1_91_3, ke, hs, hq, sl, sa, o1_91_3, c1_91_3, pa, pq, sp1_60_2, 1, 1, er)) H := hP
      have hD : va_D A (mk Z b (al1_91_3, ke, hs, hq, sl, sa, o1_91_3, c1_91_3, pa, pq, sp1_60_2, 1, 1, er)) := hD
      refine zCv (S := Int32) (ws1 := fun u => mk Z b (al1_91_3, ke, hs, hq, sl, sa, o1_91_3, c1_91_3, pa, pq, sp1_60_2, 1, 1, u)) (wr := []) (va_runV (As := [.int r91_3]) (rest := []) ⟨hx, hb, hml, hown, hts⟩ (m_X8_does l G Z _ b al1_91_3 ke hs hq sl sa o1_91_3 c1_91_3 pa pq sp1_60_2 1 1 er r91_3) (cwV 1 hts gX8_readsHours_X8_does rfl rfl rfl (by decide +kernel) ⟨Nat.le_of_ble_eq_true rfl, Nat.le_of_ble_eq_true rfl⟩) (zPreV hK hP hD hS hA hSW [0, 1, 2, 3, 4, 5, 6] rfl (by decide) 0 (ci := 8) rfl rfl rfl) rfl rfl hl.1 rfl (lv_room (Nat.le_of_ble_eq_true rfl)) dX8_readsHours_94 ⟨Nat.le_of_ble_eq_true rfl, Nat.le_of_ble_eq_true rfl⟩) hP hD hS hA [0, 1, 2, 3, 4, 5, 6] [] [0, 1, 2, 3, 4, 5, 6] rfl rfl (by decide) (by decide) (by decide) (fun _ => rfl) (fun u H locs hw94_3 hP hD hS => ?_)
      obtain ⟨er1_94_3, rfl⟩ : ∃ z, z = u := ⟨_, rfl⟩
      try dsimp only at hw94_3
      have e_er1_94_3 := hw94_3
      have hP : va_P G vwCl (mk Z b (al1_91_3, ke, hs, hq, sl, sa, o1_91_3, c1_91_3, pa, pq, sp1_60_2, 1, 1, er1_94_3)) H := hP
      have hD : va_D A (mk Z b (al1_91_3, ke, hs, hq, sl, sa, o1_91_3, c1_91_3, pa, pq, sp1_60_2, 1, 1, er1_94_3)) := hD
      refine lv_iconst (v := 1) hx hb dX8_readsHours_97 (by decide) ?_
      exact W.zret hx hb hr (rfl) (zEi (sp1_60_2, 1, al1_91_3, er1_94_3, o1_91_3, c1_91_3) (by
          simp only [e_sp1_1, e_nu1_1, e_sp1_17, e_sp1_24, e_nu1_24, e_sp1_40, e_sp1_60_2, e_r91_3, e_al1_91_3, e_er1_94_3] at c4 c20 c27 c43 c63 c79 ⊢
          rw [mVaN_ok nu 0 c4]
          simp only [rHrs, mErr, mNumN_ok _ c27, c4, c20, c27, c43, eq_true c63, c79, z10, ↓reduceIte, and_self]) hP hD hS) hS.2.2 dX8_readsHours_98
    · refine lv_aload_n hx hb dX8_readsHours_66 rfl (lv_at hl 3 rfl) ?_
      refine zCi (S := Nat × Int32) (ws1 := fun u => mk Z b (al, ke, hs, hq, sl, sa, off, car, pa, pq, u.1, u.2, 1, er)) (wr := []) (va_runV (As := []) (rest := []) ⟨hx, hb, hml, hown, hts⟩ (m_X8_readsNumber l G Z _ b al ke hs hq sl sa off car pa pq sp1_60_2 1 1 er (by
          exact z60) (by
          exact hpq)) (cwV 0 hts gX8_readsHours_X8_readsNumber rfl rfl rfl (by decide +kernel) ⟨Nat.le_of_ble_eq_true rfl, Nat.le_of_ble_eq_true rfl⟩) (zPreV hK hP hD hS hA hSW [0, 1, 2, 3, 4, 5, 6] rfl (by decide) 0 (ci := 8) rfl rfl rfl) rfl rfl hl.1 rfl (lv_room (Nat.le_of_ble_eq_true rfl)) dX8_readsHours_67 ⟨Nat.le_of_ble_eq_true rfl, Nat.le_of_ble_eq_true rfl⟩) hP hD hS hA [0, 1, 2, 3, 4, 5, 6] [] [0, 1, 2, 3, 4, 5, 6] rfl rfl (by decide) (by decide) (by decide) (fun _ => rfl) (fun r67_2 u H locs hw67_2 hP hD hS => ?_)
      obtain ⟨sp1_67_2, nu1_67_2⟩ := u
      try dsimp only at hw67_2
      obtain ⟨rfl, e_sp1_67_2, e_nu1_67_2⟩ := hw67_2
      have hP : va_P G vwCl (mk Z b (al, ke, hs, hq, sl, sa, off, car, pa, pq, sp1_67_2, nu1_67_2, 1, er)) H := hP
      have hD : va_D A (mk Z b (al, ke, hs, hq, sl, sa, off, car, pa, pq, sp1_67_2, nu1_67_2, 1, er)) := hD
      refine lv_if_ne (tgt := 75) hx hb dX8_readsHours_70 (by decide) (fun c70 => ?_) (fun c70 => (hok (by simp only [e_sp1_1, e_nu1_1, e_sp1_17, e_sp1_24, e_nu1_24, e_sp1_40, e_sp1_60_2, e_sp1_67_2, e_nu1_67_2] at c20 c27 c63 c70; simp only [rHrs, c4, c20, c27, c63, c70, ↓reduceIte])).elim)
      refine lv_aload_n hx hb dX8_readsHours_75 rfl (lv_at hl 3 rfl) ?_
      refine va_get (D := G) (ci := 8) (v := .int 1) (C := RX8) (T := TX8) (N := 14) hx hb hts iX8 hown hK hP 0 rfl rfl 12 (by decide) k_181 (fun _ h9 => h9) rfl dX8_readsHours_76 ?_
      refine lv_if_eq (tgt := 97) hx hb dX8_readsHours_79 (by decide) (fun c79 => (show False from absurd c79 (by decide)).elim) (fun c79 => ?_)
      refine lv_aload_n hx hb dX8_readsHours_82 rfl (lv_at hl 3 rfl) ?_
      refine lv_aload_n hx hb dX8_readsHours_83 rfl (lv_at hl 3 rfl) ?_
      refine lv_iload_n hx hb dX8_readsHours_84 rfl (lv_at hl 2 rfl) ?_
      refine lv_iload_n hx hb dX8_readsHours_85 rfl (lv_at hl 1 rfl) ?_
      refine lv_iload_n hx hb dX8_readsHours_86 rfl (lv_at hl 0 rfl) ?_
      refine lv_aload_n hx hb dX8_readsHours_87 rfl (lv_at hl 3 rfl) ?_
      refine va_get (D := G) (ci := 8) (v := .int nu1_67_2) (C := RX8) (T := TX8) (N := 14) hx hb hts iX8 hown hK hP 0 rfl rfl 11 (by decide) k_166 (fun _ h9 => h9) rfl dX8_readsHours_88 ?_
      refine zCi (S := (Nat → Int32) × Int32 × Int32) (ws1 := fun u => mk Z b (u.1, ke, hs, hq, sl, sa, u.2.1, u.2.2, pa, pq, sp1_67_2, nu1_67_2, 1, er)) (wr := []) (va_runV (As := [.int nu1_1, .int nu1_24, .int 1, .int nu1_67_2]) (rest := [.ref (b 0)]) ⟨hx, hb, hml, hown, hts⟩ (m_X8_doPass l G Z _ b al ke hs hq sl sa off car pa pq sp1_67_2 nu1_67_2 1 er L nu1_1 nu1_24 1 nu1_67_2 (by
          exact hL) (by
          exact hL8)) (cwV 4 hts gX8_readsHours_X8_doPass rfl rfl rfl (by decide +kernel) ⟨Nat.le_of_ble_eq_true rfl, Nat.le_of_ble_eq_true rfl⟩) (zPreV hK hP hD hS hA hSW [0, 1, 2, 3, 4, 5, 6] rfl (by decide) 0 (ci := 8) rfl rfl rfl) rfl rfl hl.1 rfl (lv_room (Nat.le_of_ble_eq_true rfl)) dX8_readsHours_91 ⟨Nat.le_of_ble_eq_true rfl, Nat.le_of_ble_eq_true rfl⟩) hP hD hS hA [0, 1, 2, 3, 4, 5, 6] [] [0, 1, 2, 3, 4, 5, 6] rfl rfl (by decide) (by decide) (by decide) (fun _ => rfl) (fun r91_4 u H locs hw91_4 hP hD hS => ?_)
      obtain ⟨al1_91_4, o1_91_4, c1_91_4⟩ := u
      try dsimp only at hw91_4
      obtain ⟨e_r91_4, e_al1_91_4⟩ := hw91_4
      have hP : va_P G vwCl (mk Z b (al1_91_4, ke, hs, hq, sl, sa, o1_91_4, c1_91_4, pa, pq, sp1_67_2, nu1_67_2, 1, er)) H := hP
      have hD : va_D A (mk Z b (al1_91_4, ke, hs, hq, sl, sa, o1_91_4, c1_91_4, pa, pq, sp1_67_2, nu1_67_2, 1, er)) := hD
      refine zCv (S := Int32) (ws1 := fun u => mk Z b (al1_91_4, ke, hs, hq, sl, sa, o1_91_4, c1_91_4, pa, pq, sp1_67_2, nu1_67_2, 1, u)) (wr := []) (va_runV (As := [.int r91_4]) (rest := []) ⟨hx, hb, hml, hown, hts⟩ (m_X8_does l G Z _ b al1_91_4 ke hs hq sl sa o1_91_4 c1_91_4 pa pq sp1_67_2 nu1_67_2 1 er r91_4) (cwV 1 hts gX8_readsHours_X8_does rfl rfl rfl (by decide +kernel) ⟨Nat.le_of_ble_eq_true rfl, Nat.le_of_ble_eq_true rfl⟩) (zPreV hK hP hD hS hA hSW [0, 1, 2, 3, 4, 5, 6] rfl (by decide) 0 (ci := 8) rfl rfl rfl) rfl rfl hl.1 rfl (lv_room (Nat.le_of_ble_eq_true rfl)) dX8_readsHours_94 ⟨Nat.le_of_ble_eq_true rfl, Nat.le_of_ble_eq_true rfl⟩) hP hD hS hA [0, 1, 2, 3, 4, 5, 6] [] [0, 1, 2, 3, 4, 5, 6] rfl rfl (by decide) (by decide) (by decide) (fun _ => rfl) (fun u H locs hw94_4 hP hD hS => ?_)
      obtain ⟨er1_94_4, rfl⟩ : ∃ z, z = u := ⟨_, rfl⟩
      try dsimp only at hw94_4
      have e_er1_94_4 := hw94_4
      have hP : va_P G vwCl (mk Z b (al1_91_4, ke, hs, hq, sl, sa, o1_91_4, c1_91_4, pa, pq, sp1_67_2, nu1_67_2, 1, er1_94_4)) H := hP
      have hD : va_D A (mk Z b (al1_91_4, ke, hs, hq, sl, sa, o1_91_4, c1_91_4, pa, pq, sp1_67_2, nu1_67_2, 1, er1_94_4)) := hD
      refine lv_iconst (v := 1) hx hb dX8_readsHours_97 (by decide) ?_
      exact W.zret hx hb hr (rfl) (zEi (sp1_67_2, nu1_67_2, al1_91_4, er1_94_4, o1_91_4, c1_91_4) (by
          simp only [e_sp1_1, e_nu1_1, e_sp1_17, e_sp1_24, e_nu1_24, e_sp1_40, e_sp1_60_2, e_sp1_67_2, e_nu1_67_2, e_r91_4, e_al1_91_4, e_er1_94_4] at c4 c20 c27 c43 c63 c70 c79 ⊢
          rw [mVaN_ok nu 0 c4]
          simp only [rHrs, mErr, mNumN_ok _ c27, mNumN_ok _ c70, c4, c20, c27, c43, c63, c70, c79, z10, ↓reduceIte, and_self]) hP hD hS) hS.2.2 dX8_readsHours_98
