set_option maxHeartbeats 4000000 in
set_option maxRecDepth 100000 in
theorem m_X8_passes (l : Launch) (G : va_G) (Z : Nat → ClassId) (sz : Nat) (b : Nat → Nat) (al : Nat → Int32) (ke : Nat → Int32) (hs : Nat → Int32) (hq : Nat) (sl : Nat → Int32) (sa : Nat → Int32) (off : Int32) (car : Int32) (pa : Nat → Int32) (pq : Nat) (sp : Nat) (nu : Int32) (dn : Int32) (er : Int32) (L : Nat) (ht : Int32) (ar : Int32) (rd : Int32) (hL : al 9 = nI L) (hL8 : L ≤ 48) : Met l yX8_passes wsX8_passes ({ frames := 2, cells := 0, slots := 0, locals := 45 }) (va_Pc [.ref (b 0), .int ht, .int ar, .int rd] (zWP G Z sz (mk Z b (al, ke, hs, hq, sl, sa, off, car, pa, pq, sp, nu, dn, er)))) (va_Qi (fun (r : Int32) (u : (Nat → Int32) × Int32 × Int32) => r = mIs al ht ar rd ∧ u.1 = mGo al L ht ar rd) (fun (u : (Nat → Int32) × Int32 × Int32) t => zB G (va_A (mk Z b (al, ke, hs, hq, sl, sa, off, car, pa, pq, sp, nu, dn, er)) sz) (mk Z b (u.1, ke, hs, hq, sl, sa, u.2.1, u.2.2, pa, pq, sp, nu, dn, er)) t) (va_A (mk Z b (al, ke, hs, hq, sl, sa, off, car, pa, pq, sp, nu, dn, er)) sz)) 0 0 (va_A (mk Z b (al, ke, hs, hq, sl, sa, off, car, pa, pq, sp, nu, dn, er)) sz) := by
  refine Met.ofW (cc := cX8_passes) (maxL := 9) (ret := (some .boolean)) (by decide) rfl ?_
  intro p e s m args below meth c s₁ B hml hv
  have hx := B.exec
  have hb := B.bytes
  have hr := B.returns
  have hts := atoms_spec (ws := wsX8_passes) B.pre
  have hown : s.vm.findClass RX8 = some m.cls := findClass_of_methodNamed B.named
  have hlocks := B.notSynchronized
  obtain ⟨rfl, hsz, hP, hK, hD, hA, hS, hSW⟩ := zEnter hv
  subst hsz
  generalize va_A (mk Z b (al, ke, hs, hq, sl, sa, off, car, pa, pq, sp, nu, dn, er)) s.heap.size = A at hD hA hS hSW ⊢
  have k_7 := hts (.fieldLink RX8 7 "WarmRodsModel" "all" "[I") (List.mem_of_getElem? (i := 1) rfl)
  have iX8 : ∀ w ∈ u_ws RX8 TX8 14, w ∈ wsX8_passes := fun _ h => List.mem_cons_of_mem _ (List.mem_append_right _ h)
  have k_51 := hts (.fieldLink RX8 51 "WarmRodsModel" "off" "I") (List.mem_of_getElem? (i := 2) rfl)
  have k_48 := hts (.fieldLink RX8 48 "WarmRodsModel" "carried" "I") (List.mem_of_getElem? (i := 3) rfl)
  have hP : va_P G vwCl (mk Z b (al, ke, hs, hq, sl, sa, off, car, pa, pq, sp, nu, dn, er)) s.heap := hP
  have hl := lv_entry ([.ref (b 0), .int ht, .int ar, .int rd]) (n := 9) (Nat.le_of_ble_eq_true rfl)
  rw [lg_entry_eq]
  generalize (lg_sl ([.ref (b 0), .int ht, .int ar, .int rd]) ++ List.replicate (9 - (lg_sl ([.ref (b 0), .int ht, .int ar, .int rd])).length) Slot.unset).toArray = ls at hl ⊢
  have hl : lv_has ls 9 [(0, .ref (b 0)), (1, .int ht), (2, .int ar), (3, .int rd)] := hl
  refine lv_aload_n hx hb dX8_passes_0 rfl (lv_at hl 0 rfl) ?_
  refine lv_iload_n hx hb dX8_passes_1 rfl (lv_at hl 1 rfl) ?_
  refine lv_iload_n hx hb dX8_passes_2 rfl (lv_at hl 2 rfl) ?_
  refine zCi (S := Unit) (ws1 := fun u => mk Z b (al, ke, hs, hq, sl, sa, off, car, pa, pq, sp, nu, dn, er)) (wr := []) (va_runV (As := [.int ht, .int ar]) (rest := []) ⟨hx, hb, hml, hown, hts⟩ (m_X8_rateNow l G Z _ b al ke hs hq sl sa off car pa pq sp nu dn er ht ar) (cwV 2 hts gX8_passes_X8_rateNow rfl rfl rfl (by decide +kernel) ⟨Nat.le_of_ble_eq_true rfl, Nat.le_of_ble_eq_true rfl⟩) (zPreV hK hP hD hS hA hSW [0, 1, 2, 3, 4, 5, 6] rfl (by decide) 0 (ci := 8) rfl rfl rfl) rfl rfl hl.1 rfl (lv_room (Nat.le_of_ble_eq_true rfl)) dX8_passes_3 ⟨Nat.le_of_ble_eq_true rfl, Nat.le_of_ble_eq_true rfl⟩) hP hD hS hA [0, 1, 2, 3, 4, 5, 6] [] [0, 1, 2, 3, 4, 5, 6] rfl rfl (by decide) (by decide) (by decide) (fun _ => rfl) (fun r3 u H locs hw3 hP hD hS => ?_)
  try dsimp only at hw3
  subst hw3
  have hP : va_P G vwCl (mk Z b (al, ke, hs, hq, sl, sa, off, car, pa, pq, sp, nu, dn, er)) H := hP
  have hD : va_D A (mk Z b (al, ke, hs, hq, sl, sa, off, car, pa, pq, sp, nu, dn, er)) := hD
  refine lv_istore (lv' := [(4, .int (cBare al ht ar + al 7)), (0, .ref (b 0)), (1, .int ht), (2, .int ar), (3, .int rd)]) hx hb dX8_passes_6 hl (by decide) rfl (fun ls hl => ?_)
  refine lv_aload_n hx hb dX8_passes_8 rfl (lv_at hl 1 rfl) ?_
  refine va_get (D := G) (ci := 8) (v := .ref (b 1)) (C := RX8) (T := TX8) (N := 14) hx hb hts iX8 hown hK hP 0 rfl rfl 0 (by decide) k_7 (fun _ h9 => h9) rfl dX8_passes_9 ?_
  refine lv_bipush (v := 7) hx hb dX8_passes_12 (by decide) ?_
  refine zIald (f := al) hx hb hK hP 1 0 rfl rfl 7 (by decide) (by decide) (by decide) dX8_passes_14 ?_
  refine lv_istore (lv' := [(5, .int (al 7)), (4, .int (cBare al ht ar + al 7)), (0, .ref (b 0)), (1, .int ht), (2, .int ar), (3, .int rd)]) hx hb dX8_passes_15 hl (by decide) rfl (fun ls hl => ?_)
  refine lv_aload_n hx hb dX8_passes_17 rfl (lv_at hl 2 rfl) ?_
  refine lv_aload_n hx hb dX8_passes_18 rfl (lv_at hl 2 rfl) ?_
  refine va_get (D := G) (ci := 8) (v := .ref (b 1)) (C := RX8) (T := TX8) (N := 14) hx hb hts iX8 hown hK hP 0 rfl rfl 0 (by decide) k_7 (fun _ h9 => h9) rfl dX8_passes_19 ?_
  refine lv_iconst (v := 5) hx hb dX8_passes_22 (by decide) ?_
  refine zIald (f := al) hx hb hK hP 1 0 rfl rfl 5 (by decide) (by decide) (by decide) dX8_passes_23 ?_
  refine va_put (D := G) (ci := 8) (v := .int (al 5)) (ty := .int) (C := RX8) (T := TX8) (N := 14) hx hb hts iX8 tyX8 tyX8_ok nmX8 hown hK hP hD hS 0 rfl rfl 6 (by decide) k_51 (fun _ h9 => h9) rfl (by decide +kernel) rfl rfl (Nat.le_of_ble_eq_true rfl) dX8_passes_24 (fun H locs hP hD hS => ?_)
  have hP : va_P G vwCl (mk Z b (al, ke, hs, hq, sl, sa, (al 5), car, pa, pq, sp, nu, dn, er)) H := hP
  have hD : va_D A (mk Z b (al, ke, hs, hq, sl, sa, (al 5), car, pa, pq, sp, nu, dn, er)) := hD
  refine lv_aload_n hx hb dX8_passes_27 rfl (lv_at hl 2 rfl) ?_
  refine lv_aload_n hx hb dX8_passes_28 rfl (lv_at hl 2 rfl) ?_
  refine va_get (D := G) (ci := 8) (v := .ref (b 1)) (C := RX8) (T := TX8) (N := 14) hx hb hts iX8 hown hK hP 0 rfl rfl 0 (by decide) k_7 (fun _ h9 => h9) rfl dX8_passes_29 ?_
  refine lv_bipush (v := 6) hx hb dX8_passes_32 (by decide) ?_
  refine zIald (f := al) hx hb hK hP 1 0 rfl rfl 6 (by decide) (by decide) (by decide) dX8_passes_34 ?_
  refine va_put (D := G) (ci := 8) (v := .int (al 6)) (ty := .int) (C := RX8) (T := TX8) (N := 14) hx hb hts iX8 tyX8 tyX8_ok nmX8 hown hK hP hD hS 0 rfl rfl 7 (by decide) k_48 (fun _ h9 => h9) rfl (by decide +kernel) rfl rfl (Nat.le_of_ble_eq_true rfl) dX8_passes_35 (fun H locs hP hD hS => ?_)
  have hP : va_P G vwCl (mk Z b (al, ke, hs, hq, sl, sa, (al 5), (al 6), pa, pq, sp, nu, dn, er)) H := hP
  have hD : va_D A (mk Z b (al, ke, hs, hq, sl, sa, (al 5), (al 6), pa, pq, sp, nu, dn, er)) := hD
  refine lv_aload_n hx hb dX8_passes_38 rfl (lv_at hl 2 rfl) ?_
  refine lv_iload hx hb dX8_passes_39 (lv_at hl 1 rfl) ?_
  refine zCv (S := Int32 × Int32) (ws1 := fun u => mk Z b (al, ke, hs, hq, sl, sa, u.1, u.2, pa, pq, sp, nu, dn, er)) (wr := []) (va_runV (As := [.int (cBare al ht ar + al 7)]) (rest := []) ⟨hx, hb, hml, hown, hts⟩ (m_X8_goes l G Z _ b al ke hs hq sl sa (al 5) (al 6) pa pq sp nu dn er (cBare al ht ar + al 7)) (cwV 1 hts gX8_passes_X8_goes rfl rfl rfl (by decide +kernel) ⟨Nat.le_of_ble_eq_true rfl, Nat.le_of_ble_eq_true rfl⟩) (zPreV hK hP hD hS hA hSW [0, 1, 2, 3, 4, 5, 6] rfl (by decide) 0 (ci := 8) rfl rfl rfl) rfl rfl hl.1 rfl (lv_room (Nat.le_of_ble_eq_true rfl)) dX8_passes_41 ⟨Nat.le_of_ble_eq_true rfl, Nat.le_of_ble_eq_true rfl⟩) hP hD hS hA [0, 1, 2, 3, 4, 5, 6] [] [0, 1, 2, 3, 4, 5, 6] rfl rfl (by decide) (by decide) (by decide) (fun _ => rfl) (fun u H locs hw41 hP hD hS => ?_)
  obtain ⟨o1_41, c1_41⟩ := u
  try dsimp only at hw41
  obtain ⟨rfl, rfl⟩ := hw41
  have hP : va_P G vwCl (mk Z b (al, ke, hs, hq, sl, sa, (dOff (al 5) (al 6) (cBare al ht ar + al 7)), (dCar (al 6) (cBare al ht ar + al 7)), pa, pq, sp, nu, dn, er)) H := hP
  have hD : va_D A (mk Z b (al, ke, hs, hq, sl, sa, (dOff (al 5) (al 6) (cBare al ht ar + al 7)), (dCar (al 6) (cBare al ht ar + al 7)), pa, pq, sp, nu, dn, er)) := hD
  refine lv_aload_n hx hb dX8_passes_44 rfl (lv_at hl 2 rfl) ?_
  refine va_get (D := G) (ci := 8) (v := .int (dOff (al 5) (al 6) (cBare al ht ar + al 7))) (C := RX8) (T := TX8) (N := 14) hx hb hts iX8 hown hK hP 0 rfl rfl 6 (by decide) k_51 (fun _ h9 => h9) rfl dX8_passes_45 ?_
  refine lv_istore (lv' := [(6, .int (dOff (al 5) (al 6) (cBare al ht ar + al 7))), (5, .int (al 7)), (4, .int (cBare al ht ar + al 7)), (0, .ref (b 0)), (1, .int ht), (2, .int ar), (3, .int rd)]) hx hb dX8_passes_48 hl (by decide) rfl (fun ls hl => ?_)
  refine lv_iload_n hx hb dX8_passes_50 rfl (lv_at hl 6 rfl) ?_
  refine lv_iconst (v := 1) hx hb dX8_passes_51 (by decide) ?_
  refine lv_icmp_ne (tgt := 66) hx hb dX8_passes_52 (by decide) (fun c52 => ?_) (fun c52 => ?_)
  · refine lv_iconst (v := 0) hx hb dX8_passes_66 (by decide) ?_
    refine lv_istore (lv' := [(7, .int 0), (6, .int (dOff (al 5) (al 6) (cBare al ht ar + al 7))), (5, .int (al 7)), (4, .int (cBare al ht ar + al 7)), (0, .ref (b 0)), (1, .int ht), (2, .int ar), (3, .int rd)]) hx hb dX8_passes_67 hl (by decide) rfl (fun ls hl => ?_)
    refine lv_iload hx hb dX8_passes_69 (lv_at hl 0 rfl) ?_
    refine lv_if_eq (tgt := 78) hx hb dX8_passes_71 (by decide) (fun _ => ?_) (fun c71 => absurd (by decide) c71)
    refine lv_aload_n hx hb dX8_passes_78 rfl (lv_at hl 4 rfl) ?_
    refine va_get (D := G) (ci := 8) (v := .ref (b 1)) (C := RX8) (T := TX8) (N := 14) hx hb hts iX8 hown hK hP 0 rfl rfl 0 (by decide) k_7 (fun _ h9 => h9) rfl dX8_passes_79 ?_
    refine lv_iconst (v := 5) hx hb dX8_passes_82 (by decide) ?_
    refine lv_aload_n hx hb dX8_passes_83 rfl (lv_at hl 4 rfl) ?_
    refine va_get (D := G) (ci := 8) (v := .int (dOff (al 5) (al 6) (cBare al ht ar + al 7))) (C := RX8) (T := TX8) (N := 14) hx hb hts iX8 hown hK hP 0 rfl rfl 6 (by decide) k_51 (fun _ h9 => h9) rfl dX8_passes_84 ?_
    refine zIast (f := al) hx hb hK hP hD hS 1 0 rfl rfl 5 (by decide) (by decide) (by decide) dX8_passes_87 (fun H locs hP hD hS => ?_)
    have hP : va_P G vwCl (mk Z b ((upd al 5 (dOff (al 5) (al 6) (cBare al ht ar + al 7))), ke, hs, hq, sl, sa, (dOff (al 5) (al 6) (cBare al ht ar + al 7)), (dCar (al 6) (cBare al ht ar + al 7)), pa, pq, sp, nu, dn, er)) H := hP
    have hD : va_D A (mk Z b ((upd al 5 (dOff (al 5) (al 6) (cBare al ht ar + al 7))), ke, hs, hq, sl, sa, (dOff (al 5) (al 6) (cBare al ht ar + al 7)), (dCar (al 6) (cBare al ht ar + al 7)), pa, pq, sp, nu, dn, er)) := hD
    refine lv_aload_n hx hb dX8_passes_88 rfl (lv_at hl 4 rfl) ?_
    refine va_get (D := G) (ci := 8) (v := .ref (b 1)) (C := RX8) (T := TX8) (N := 14) hx hb hts iX8 hown hK hP 0 rfl rfl 0 (by decide) k_7 (fun _ h9 => h9) rfl dX8_passes_89 ?_
    refine lv_bipush (v := 6) hx hb dX8_passes_92 (by decide) ?_
    refine lv_aload_n hx hb dX8_passes_94 rfl (lv_at hl 4 rfl) ?_
    refine va_get (D := G) (ci := 8) (v := .int (dCar (al 6) (cBare al ht ar + al 7))) (C := RX8) (T := TX8) (N := 14) hx hb hts iX8 hown hK hP 0 rfl rfl 7 (by decide) k_48 (fun _ h9 => h9) rfl dX8_passes_95 ?_
    refine zIast (f := (upd al 5 (dOff (al 5) (al 6) (cBare al ht ar + al 7)))) hx hb hK hP hD hS 1 0 rfl rfl 6 (by decide) (by decide) (by decide) dX8_passes_98 (fun H locs hP hD hS => ?_)
    have hP : va_P G vwCl (mk Z b ((upd (upd al 5 (dOff (al 5) (al 6) (cBare al ht ar + al 7))) 6 (dCar (al 6) (cBare al ht ar + al 7))), ke, hs, hq, sl, sa, (dOff (al 5) (al 6) (cBare al ht ar + al 7)), (dCar (al 6) (cBare al ht ar + al 7)), pa, pq, sp, nu, dn, er)) H := hP
    have hD : va_D A (mk Z b ((upd (upd al 5 (dOff (al 5) (al 6) (cBare al ht ar + al 7))) 6 (dCar (al 6) (cBare al ht ar + al 7))), ke, hs, hq, sl, sa, (dOff (al 5) (al 6) (cBare al ht ar + al 7)), (dCar (al 6) (cBare al ht ar + al 7)), pa, pq, sp, nu, dn, er)) := hD
    refine lv_aload_n hx hb dX8_passes_99 rfl (lv_at hl 4 rfl) ?_
    refine va_get (D := G) (ci := 8) (v := .ref (b 1)) (C := RX8) (T := TX8) (N := 14) hx hb hts iX8 hown hK hP 0 rfl rfl 0 (by decide) k_7 (fun _ h9 => h9) rfl dX8_passes_100 ?_
    refine lv_iconst (v := 4) hx hb dX8_passes_103 (by decide) ?_
    refine lv_dup2_11 hx hb dX8_passes_104 rfl rfl ?_
    refine zIald (f := (upd (upd al 5 (dOff (al 5) (al 6) (cBare al ht ar + al 7))) 6 (dCar (al 6) (cBare al ht ar + al 7)))) hx hb hK hP 1 0 rfl rfl 4 (by decide) (by decide) (by decide) dX8_passes_105 ?_
    refine lv_iconst (v := 1) hx hb dX8_passes_106 (by decide) ?_
    refine lv_iadd hx hb dX8_passes_107 ?_
    refine zIast (f := (upd (upd al 5 (dOff (al 5) (al 6) (cBare al ht ar + al 7))) 6 (dCar (al 6) (cBare al ht ar + al 7)))) hx hb hK hP hD hS 1 0 rfl rfl 4 (by decide) (by decide) (by decide) dX8_passes_108 (fun H locs hP hD hS => ?_)
    have hP : va_P G vwCl (mk Z b ((upd (upd (upd al 5 (dOff (al 5) (al 6) (cBare al ht ar + al 7))) 6 (dCar (al 6) (cBare al ht ar + al 7))) 4 (((upd (upd al 5 (dOff (al 5) (al 6) (cBare al ht ar + al 7))) 6 (dCar (al 6) (cBare al ht ar + al 7))) 4) + 1)), ke, hs, hq, sl, sa, (dOff (al 5) (al 6) (cBare al ht ar + al 7)), (dCar (al 6) (cBare al ht ar + al 7)), pa, pq, sp, nu, dn, er)) H := hP
    have hD : va_D A (mk Z b ((upd (upd (upd al 5 (dOff (al 5) (al 6) (cBare al ht ar + al 7))) 6 (dCar (al 6) (cBare al ht ar + al 7))) 4 (((upd (upd al 5 (dOff (al 5) (al 6) (cBare al ht ar + al 7))) 6 (dCar (al 6) (cBare al ht ar + al 7))) 4) + 1)), ke, hs, hq, sl, sa, (dOff (al 5) (al 6) (cBare al ht ar + al 7)), (dCar (al 6) (cBare al ht ar + al 7)), pa, pq, sp, nu, dn, er)) := hD
    refine lv_aload_n hx hb dX8_passes_109 rfl (lv_at hl 4 rfl) ?_
    refine va_get (D := G) (ci := 8) (v := .ref (b 1)) (C := RX8) (T := TX8) (N := 14) hx hb hts iX8 hown hK hP 0 rfl rfl 0 (by decide) k_7 (fun _ h9 => h9) rfl dX8_passes_110 ?_
    refine lv_bipush (v := 10) hx hb dX8_passes_113 (by decide) ?_
    refine lv_dup2_11 hx hb dX8_passes_115 rfl rfl ?_
    refine zIald (f := (upd (upd (upd al 5 (dOff (al 5) (al 6) (cBare al ht ar + al 7))) 6 (dCar (al 6) (cBare al ht ar + al 7))) 4 (((upd (upd al 5 (dOff (al 5) (al 6) (cBare al ht ar + al 7))) 6 (dCar (al 6) (cBare al ht ar + al 7))) 4) + 1))) hx hb hK hP 1 0 rfl rfl 10 (by decide) (by decide) (by decide) dX8_passes_116 ?_
    refine lv_iload_n hx hb dX8_passes_117 rfl (lv_at hl 7 rfl) ?_
    refine lv_iadd hx hb dX8_passes_118 ?_
    refine zIast (f := (upd (upd (upd al 5 (dOff (al 5) (al 6) (cBare al ht ar + al 7))) 6 (dCar (al 6) (cBare al ht ar + al 7))) 4 (((upd (upd al 5 (dOff (al 5) (al 6) (cBare al ht ar + al 7))) 6 (dCar (al 6) (cBare al ht ar + al 7))) 4) + 1))) hx hb hK hP hD hS 1 0 rfl rfl 10 (by decide) (by decide) (by decide) dX8_passes_119 (fun H locs hP hD hS => ?_)
    have hP : va_P G vwCl (mk Z b ((upd (upd (upd (upd al 5 (dOff (al 5) (al 6) (cBare al ht ar + al 7))) 6 (dCar (al 6) (cBare al ht ar + al 7))) 4 (((upd (upd al 5 (dOff (al 5) (al 6) (cBare al ht ar + al 7))) 6 (dCar (al 6) (cBare al ht ar + al 7))) 4) + 1)) 10 (((upd (upd (upd al 5 (dOff (al 5) (al 6) (cBare al ht ar + al 7))) 6 (dCar (al 6) (cBare al ht ar + al 7))) 4 (((upd (upd al 5 (dOff (al 5) (al 6) (cBare al ht ar + al 7))) 6 (dCar (al 6) (cBare al ht ar + al 7))) 4) + 1)) 10) + rd)), ke, hs, hq, sl, sa, (dOff (al 5) (al 6) (cBare al ht ar + al 7)), (dCar (al 6) (cBare al ht ar + al 7)), pa, pq, sp, nu, dn, er)) H := hP
    have hD : va_D A (mk Z b ((upd (upd (upd (upd al 5 (dOff (al 5) (al 6) (cBare al ht ar + al 7))) 6 (dCar (al 6) (cBare al ht ar + al 7))) 4 (((upd (upd al 5 (dOff (al 5) (al 6) (cBare al ht ar + al 7))) 6 (dCar (al 6) (cBare al ht ar + al 7))) 4) + 1)) 10 (((upd (upd (upd al 5 (dOff (al 5) (al 6) (cBare al ht ar + al 7))) 6 (dCar (al 6) (cBare al ht ar + al 7))) 4 (((upd (upd al 5 (dOff (al 5) (al 6) (cBare al ht ar + al 7))) 6 (dCar (al 6) (cBare al ht ar + al 7))) 4) + 1)) 10) + rd)), ke, hs, hq, sl, sa, (dOff (al 5) (al 6) (cBare al ht ar + al 7)), (dCar (al 6) (cBare al ht ar + al 7)), pa, pq, sp, nu, dn, er)) := hD
    obtain ⟨a4, e_a4⟩ : ∃ f : Nat → Int32, f = (upd (upd (upd (upd al 5 (dOff (al 5) (al 6) (cBare al ht ar + al 7))) 6 (dCar (al 6) (cBare al ht ar + al 7))) 4 (((upd (upd al 5 (dOff (al 5) (al 6) (cBare al ht ar + al 7))) 6 (dCar (al 6) (cBare al ht ar + al 7))) 4) + 1)) 10 (((upd (upd (upd al 5 (dOff (al 5) (al 6) (cBare al ht ar + al 7))) 6 (dCar (al 6) (cBare al ht ar + al 7))) 4 (((upd (upd al 5 (dOff (al 5) (al 6) (cBare al ht ar + al 7))) 6 (dCar (al 6) (cBare al ht ar + al 7))) 4) + 1)) 10) + rd)) := ⟨_, rfl⟩
    rw [← e_a4] at hP hD
    have h9 : a4 9 = nI L := by rw [e_a4]; exact hL
    refine lv_aload_n hx hb dX8_passes_120 rfl (lv_at hl 4 rfl) ?_
    refine va_get (D := G) (ci := 8) (v := .ref (b 1)) (C := RX8) (T := TX8) (N := 14) hx hb hts iX8 hown hK hP 0 rfl rfl 0 (by decide) k_7 (fun _ h9 => h9) rfl dX8_passes_121 ?_
    refine lv_bipush (v := 9) hx hb dX8_passes_124 (by decide) ?_
    refine lv_dup2_11 hx hb dX8_passes_126 rfl rfl ?_
    refine zIald (f := a4) hx hb hK hP 1 0 rfl rfl 9 (by decide) (by decide) (by decide) dX8_passes_127 ?_
    refine lv_aload_n hx hb dX8_passes_128 rfl (lv_at hl 4 rfl) ?_
    refine va_get (D := G) (ci := 8) (v := .ref (b 1)) (C := RX8) (T := TX8) (N := 14) hx hb hts iX8 hown hK hP 0 rfl rfl 0 (by decide) k_7 (fun _ h9 => h9) rfl dX8_passes_129 ?_
    refine lv_bipush (v := 9) hx hb dX8_passes_132 (by decide) ?_
    refine zIald (f := a4) hx hb hK hP 1 0 rfl rfl 9 (by decide) (by decide) (by decide) dX8_passes_134 ?_
    refine lv_bipush (v := 48) hx hb dX8_passes_135 (by decide) ?_
    refine lv_icmp_ge (tgt := 144) hx hb dX8_passes_137 (by decide) (fun c137 => ?_) (fun c137 => ?_)
    · refine lv_iconst (v := 0) hx hb dX8_passes_144 (by decide) ?_
      refine lv_iadd hx hb dX8_passes_145 ?_
      refine zIast (f := a4) hx hb hK hP hD hS 1 0 rfl rfl 9 (by decide) (by decide) (by decide) dX8_passes_146 (fun H locs hP hD hS => ?_)
      have hP : va_P G vwCl (mk Z b ((upd a4 9 ((a4 9) + 0)), ke, hs, hq, sl, sa, (dOff (al 5) (al 6) (cBare al ht ar + al 7)), (dCar (al 6) (cBare al ht ar + al 7)), pa, pq, sp, nu, dn, er)) H := hP
      have hD : va_D A (mk Z b ((upd a4 9 ((a4 9) + 0)), ke, hs, hq, sl, sa, (dOff (al 5) (al 6) (cBare al ht ar + al 7)), (dCar (al 6) (cBare al ht ar + al 7)), pa, pq, sp, nu, dn, er)) := hD
      have hl48 : ¬ L < 48 := by
        rw [h9] at c137
        have := zLe (a := 48) c137 (by decide) (by omega)
        omega
      obtain ⟨a5, e_a5⟩ : ∃ f : Nat → Int32, f = (upd a4 9 ((a4 9) + 0)) := ⟨_, rfl⟩
      rw [← e_a5] at hP hD
      have g9 : a5 9 = nI (mLen L) := by
        rw [e_a5]
        show a4 9 + _ = _
        rw [h9, mLen, if_neg hl48]; exact Int32.add_zero _
      have hm1 : 1 ≤ mLen L := by unfold mLen; split <;> omega
      have hm2 := mLen_le hL8
      refine lv_bipush (v := 7) hx hb dX8_passes_147 (by decide) ?_
      refine lv_aload_n hx hb dX8_passes_149 rfl (lv_at hl 4 rfl) ?_
      refine va_get (D := G) (ci := 8) (v := .ref (b 1)) (C := RX8) (T := TX8) (N := 14) hx hb hts iX8 hown hK hP 0 rfl rfl 0 (by decide) k_7 (fun _ h9 => h9) rfl dX8_passes_150 ?_
      refine lv_bipush (v := 9) hx hb dX8_passes_153 (by decide) ?_
      refine zIald (f := a5) hx hb hK hP 1 0 rfl rfl 9 (by decide) (by decide) (by decide) dX8_passes_155 ?_
      refine lv_imul hx hb dX8_passes_156 ?_
      refine lv_iconst (v := 1) hx hb dX8_passes_157 (by decide) ?_
      refine lv_isub hx hb dX8_passes_158 ?_
      refine lv_istore (lv' := [(8, .int ((7 * (a5 9)) - 1)), (7, .int 0), (6, .int (dOff (al 5) (al 6) (cBare al ht ar + al 7))), (5, .int (al 7)), (4, .int (cBare al ht ar + al 7)), (0, .ref (b 0)), (1, .int ht), (2, .int ar), (3, .int rd)]) hx hb dX8_passes_159 hl (by decide) rfl (fun ls hl => ?_)
      rw [show 7 * (a5 9) - 1 = nI ((7 * mLen L - 7) + 6) from by
        rw [g9, show (7 : Int32) = nI 7 from rfl, pk_mul]
        have hm3 : 7 * mLen L = ((7 * mLen L - 7) + 6) + 1 := by omega
        exact (congrArg (fun t => nI t - 1) hm3).trans (nI_pred _)] at hl
      rw [← mSh_0 a5 (lo := 17 + (7 * mLen L - 7)) (hi := 11 + 7 * mLen L) (by omega)] at hP hD
      refine zLoop (σ := Nat) (nL := 9) (fun zx => mk Z b ((mSh a5 (17 + zx) (11 + 7 * mLen L)), ke, hs, hq, sl, sa, (dOff (al 5) (al 6) (cBare al ht ar + al 7)), (dCar (al 6) (cBare al ht ar + al 7)), pa, pq, sp, nu, dn, er)) (fun zx => [(8, .int (nI (zx + 6))), (7, .int 0), (6, .int (dOff (al 5) (al 6) (cBare al ht ar + al 7))), (5, .int (al 7)), (4, .int (cBare al ht ar + al 7)), (0, .ref (b 0)), (1, .int ht), (2, .int ar), (3, .int rd)]) (fun zx => zx ≤ 7 * mLen L - 7) (fun zx => zx) ?_ (7 * mLen L - 7) (by
          try dsimp only
          omega) hP hD hS (lv_sub hl [0, 1, 2, 3, 4, 5, 6, 7, 8] rfl)
      intro zx hinv161 ih161 H locs ls hP hD hS hl
      obtain ⟨k, rfl⟩ : ∃ z, z = zx := ⟨_, rfl⟩
      try dsimp only at hinv161 ih161
      have hP : va_P G vwCl (mk Z b ((mSh a5 (17 + k) (11 + 7 * mLen L)), ke, hs, hq, sl, sa, (dOff (al 5) (al 6) (cBare al ht ar + al 7)), (dCar (al 6) (cBare al ht ar + al 7)), pa, pq, sp, nu, dn, er)) H := hP
      have hD : va_D A (mk Z b ((mSh a5 (17 + k) (11 + 7 * mLen L)), ke, hs, hq, sl, sa, (dOff (al 5) (al 6) (cBare al ht ar + al 7)), (dCar (al 6) (cBare al ht ar + al 7)), pa, pq, sp, nu, dn, er)) := hD
      have hl : lv_has ls 9 [(8, .int (nI (k + 6))), (7, .int 0), (6, .int (dOff (al 5) (al 6) (cBare al ht ar + al 7))), (5, .int (al 7)), (4, .int (cBare al ht ar + al 7)), (0, .ref (b 0)), (1, .int ht), (2, .int ar), (3, .int rd)] := hl
      refine lv_iload hx hb dX8_passes_161 (lv_at hl 0 rfl) ?_
      refine lv_bipush (v := 7) hx hb dX8_passes_163 (by decide) ?_
      refine lv_icmp_lt (tgt := 197) hx hb dX8_passes_165 (by decide) (fun c165 => ?_) (fun c165 => ?_)
      · have hk := zLt (b := 7) c165 (by omega) (by omega)
        obtain rfl : k = 0 := by omega
        refine lv_aload_n hx hb dX8_passes_197 rfl (lv_at hl 5 rfl) ?_
        refine va_get (D := G) (ci := 8) (v := .ref (b 1)) (C := RX8) (T := TX8) (N := 14) hx hb hts iX8 hown hK hP 0 rfl rfl 0 (by decide) k_7 (fun _ h9 => h9) rfl dX8_passes_198 ?_
        refine lv_bipush (v := 11) hx hb dX8_passes_201 (by decide) ?_
        refine lv_iload_n hx hb dX8_passes_203 rfl (lv_at hl 6 rfl) ?_
        refine zIast (f := (mSh a5 (17 + 0) (11 + 7 * mLen L))) hx hb hK hP hD hS 1 0 rfl rfl 11 (by decide) (by decide) (by decide) dX8_passes_204 (fun H locs hP hD hS => ?_)
        have hP : va_P G vwCl (mk Z b ((upd (mSh a5 (17 + 0) (11 + 7 * mLen L)) 11 ht), ke, hs, hq, sl, sa, (dOff (al 5) (al 6) (cBare al ht ar + al 7)), (dCar (al 6) (cBare al ht ar + al 7)), pa, pq, sp, nu, dn, er)) H := hP
        have hD : va_D A (mk Z b ((upd (mSh a5 (17 + 0) (11 + 7 * mLen L)) 11 ht), ke, hs, hq, sl, sa, (dOff (al 5) (al 6) (cBare al ht ar + al 7)), (dCar (al 6) (cBare al ht ar + al 7)), pa, pq, sp, nu, dn, er)) := hD
        refine lv_aload_n hx hb dX8_passes_205 rfl (lv_at hl 5 rfl) ?_
        refine va_get (D := G) (ci := 8) (v := .ref (b 1)) (C := RX8) (T := TX8) (N := 14) hx hb hts iX8 hown hK hP 0 rfl rfl 0 (by decide) k_7 (fun _ h9 => h9) rfl dX8_passes_206 ?_
        refine lv_bipush (v := 12) hx hb dX8_passes_209 (by decide) ?_
        refine lv_iload_n hx hb dX8_passes_211 rfl (lv_at hl 7 rfl) ?_
        refine zIast (f := (upd (mSh a5 (17 + 0) (11 + 7 * mLen L)) 11 ht)) hx hb hK hP hD hS 1 0 rfl rfl 12 (by decide) (by decide) (by decide) dX8_passes_212 (fun H locs hP hD hS => ?_)
        have hP : va_P G vwCl (mk Z b ((upd (upd (mSh a5 (17 + 0) (11 + 7 * mLen L)) 11 ht) 12 ar), ke, hs, hq, sl, sa, (dOff (al 5) (al 6) (cBare al ht ar + al 7)), (dCar (al 6) (cBare al ht ar + al 7)), pa, pq, sp, nu, dn, er)) H := hP
        have hD : va_D A (mk Z b ((upd (upd (mSh a5 (17 + 0) (11 + 7 * mLen L)) 11 ht) 12 ar), ke, hs, hq, sl, sa, (dOff (al 5) (al 6) (cBare al ht ar + al 7)), (dCar (al 6) (cBare al ht ar + al 7)), pa, pq, sp, nu, dn, er)) := hD
        refine lv_aload_n hx hb dX8_passes_213 rfl (lv_at hl 5 rfl) ?_
        refine va_get (D := G) (ci := 8) (v := .ref (b 1)) (C := RX8) (T := TX8) (N := 14) hx hb hts iX8 hown hK hP 0 rfl rfl 0 (by decide) k_7 (fun _ h9 => h9) rfl dX8_passes_214 ?_
        refine lv_bipush (v := 13) hx hb dX8_passes_217 (by decide) ?_
        refine lv_iload_n hx hb dX8_passes_219 rfl (lv_at hl 8 rfl) ?_
        refine zIast (f := (upd (upd (mSh a5 (17 + 0) (11 + 7 * mLen L)) 11 ht) 12 ar)) hx hb hK hP hD hS 1 0 rfl rfl 13 (by decide) (by decide) (by decide) dX8_passes_220 (fun H locs hP hD hS => ?_)
        have hP : va_P G vwCl (mk Z b ((upd (upd (upd (mSh a5 (17 + 0) (11 + 7 * mLen L)) 11 ht) 12 ar) 13 rd), ke, hs, hq, sl, sa, (dOff (al 5) (al 6) (cBare al ht ar + al 7)), (dCar (al 6) (cBare al ht ar + al 7)), pa, pq, sp, nu, dn, er)) H := hP
        have hD : va_D A (mk Z b ((upd (upd (upd (mSh a5 (17 + 0) (11 + 7 * mLen L)) 11 ht) 12 ar) 13 rd), ke, hs, hq, sl, sa, (dOff (al 5) (al 6) (cBare al ht ar + al 7)), (dCar (al 6) (cBare al ht ar + al 7)), pa, pq, sp, nu, dn, er)) := hD
        refine lv_aload_n hx hb dX8_passes_221 rfl (lv_at hl 5 rfl) ?_
        refine va_get (D := G) (ci := 8) (v := .ref (b 1)) (C := RX8) (T := TX8) (N := 14) hx hb hts iX8 hown hK hP 0 rfl rfl 0 (by decide) k_7 (fun _ h9 => h9) rfl dX8_passes_222 ?_
        refine lv_bipush (v := 14) hx hb dX8_passes_225 (by decide) ?_
        refine lv_iload hx hb dX8_passes_227 (lv_at hl 4 rfl) ?_
        refine zIast (f := (upd (upd (upd (mSh a5 (17 + 0) (11 + 7 * mLen L)) 11 ht) 12 ar) 13 rd)) hx hb hK hP hD hS 1 0 rfl rfl 14 (by decide) (by decide) (by decide) dX8_passes_229 (fun H locs hP hD hS => ?_)
        have hP : va_P G vwCl (mk Z b ((upd (upd (upd (upd (mSh a5 (17 + 0) (11 + 7 * mLen L)) 11 ht) 12 ar) 13 rd) 14 (cBare al ht ar + al 7)), ke, hs, hq, sl, sa, (dOff (al 5) (al 6) (cBare al ht ar + al 7)), (dCar (al 6) (cBare al ht ar + al 7)), pa, pq, sp, nu, dn, er)) H := hP
        have hD : va_D A (mk Z b ((upd (upd (upd (upd (mSh a5 (17 + 0) (11 + 7 * mLen L)) 11 ht) 12 ar) 13 rd) 14 (cBare al ht ar + al 7)), ke, hs, hq, sl, sa, (dOff (al 5) (al 6) (cBare al ht ar + al 7)), (dCar (al 6) (cBare al ht ar + al 7)), pa, pq, sp, nu, dn, er)) := hD
        refine lv_aload_n hx hb dX8_passes_230 rfl (lv_at hl 5 rfl) ?_
        refine va_get (D := G) (ci := 8) (v := .ref (b 1)) (C := RX8) (T := TX8) (N := 14) hx hb hts iX8 hown hK hP 0 rfl rfl 0 (by decide) k_7 (fun _ h9 => h9) rfl dX8_passes_231 ?_
        refine lv_bipush (v := 15) hx hb dX8_passes_234 (by decide) ?_
        refine lv_iload hx hb dX8_passes_236 (lv_at hl 2 rfl) ?_
        refine zIast (f := (upd (upd (upd (upd (mSh a5 (17 + 0) (11 + 7 * mLen L)) 11 ht) 12 ar) 13 rd) 14 (cBare al ht ar + al 7))) hx hb hK hP hD hS 1 0 rfl rfl 15 (by decide) (by decide) (by decide) dX8_passes_238 (fun H locs hP hD hS => ?_)
        have hP : va_P G vwCl (mk Z b ((upd (upd (upd (upd (upd (mSh a5 (17 + 0) (11 + 7 * mLen L)) 11 ht) 12 ar) 13 rd) 14 (cBare al ht ar + al 7)) 15 (dOff (al 5) (al 6) (cBare al ht ar + al 7))), ke, hs, hq, sl, sa, (dOff (al 5) (al 6) (cBare al ht ar + al 7)), (dCar (al 6) (cBare al ht ar + al 7)), pa, pq, sp, nu, dn, er)) H := hP
        have hD : va_D A (mk Z b ((upd (upd (upd (upd (upd (mSh a5 (17 + 0) (11 + 7 * mLen L)) 11 ht) 12 ar) 13 rd) 14 (cBare al ht ar + al 7)) 15 (dOff (al 5) (al 6) (cBare al ht ar + al 7))), ke, hs, hq, sl, sa, (dOff (al 5) (al 6) (cBare al ht ar + al 7)), (dCar (al 6) (cBare al ht ar + al 7)), pa, pq, sp, nu, dn, er)) := hD
        refine lv_aload_n hx hb dX8_passes_239 rfl (lv_at hl 5 rfl) ?_
        refine va_get (D := G) (ci := 8) (v := .ref (b 1)) (C := RX8) (T := TX8) (N := 14) hx hb hts iX8 hown hK hP 0 rfl rfl 0 (by decide) k_7 (fun _ h9 => h9) rfl dX8_passes_240 ?_
        refine lv_bipush (v := 16) hx hb dX8_passes_243 (by decide) ?_
        refine lv_iload hx hb dX8_passes_245 (lv_at hl 1 rfl) ?_
        refine lv_if_eq (tgt := 254) hx hb dX8_passes_247 (by decide) (fun _ => ?_) (fun c247 => absurd (by decide) c247)
        refine lv_iconst (v := 0) hx hb dX8_passes_254 (by decide) ?_
        refine zIast (f := (upd (upd (upd (upd (upd (mSh a5 (17 + 0) (11 + 7 * mLen L)) 11 ht) 12 ar) 13 rd) 14 (cBare al ht ar + al 7)) 15 (dOff (al 5) (al 6) (cBare al ht ar + al 7)))) hx hb hK hP hD hS 1 0 rfl rfl 16 (by decide) (by decide) (by decide) dX8_passes_255 (fun H locs hP hD hS => ?_)
        have hP : va_P G vwCl (mk Z b ((upd (upd (upd (upd (upd (upd (mSh a5 (17 + 0) (11 + 7 * mLen L)) 11 ht) 12 ar) 13 rd) 14 (cBare al ht ar + al 7)) 15 (dOff (al 5) (al 6) (cBare al ht ar + al 7))) 16 0), ke, hs, hq, sl, sa, (dOff (al 5) (al 6) (cBare al ht ar + al 7)), (dCar (al 6) (cBare al ht ar + al 7)), pa, pq, sp, nu, dn, er)) H := hP
        have hD : va_D A (mk Z b ((upd (upd (upd (upd (upd (upd (mSh a5 (17 + 0) (11 + 7 * mLen L)) 11 ht) 12 ar) 13 rd) 14 (cBare al ht ar + al 7)) 15 (dOff (al 5) (al 6) (cBare al ht ar + al 7))) 16 0), ke, hs, hq, sl, sa, (dOff (al 5) (al 6) (cBare al ht ar + al 7)), (dCar (al 6) (cBare al ht ar + al 7)), pa, pq, sp, nu, dn, er)) := hD
        refine lv_aload_n hx hb dX8_passes_256 rfl (lv_at hl 5 rfl) ?_
        refine va_get (D := G) (ci := 8) (v := .ref (b 1)) (C := RX8) (T := TX8) (N := 14) hx hb hts iX8 hown hK hP 0 rfl rfl 0 (by decide) k_7 (fun _ h9 => h9) rfl dX8_passes_257 ?_
        refine lv_bipush (v := 17) hx hb dX8_passes_260 (by decide) ?_
        refine lv_iload hx hb dX8_passes_262 (lv_at hl 3 rfl) ?_
        refine zIast (f := (upd (upd (upd (upd (upd (upd (mSh a5 (17 + 0) (11 + 7 * mLen L)) 11 ht) 12 ar) 13 rd) 14 (cBare al ht ar + al 7)) 15 (dOff (al 5) (al 6) (cBare al ht ar + al 7))) 16 0)) hx hb hK hP hD hS 1 0 rfl rfl 17 (by decide) (by decide) (by decide) dX8_passes_264 (fun H locs hP hD hS => ?_)
        have hP : va_P G vwCl (mk Z b ((upd (upd (upd (upd (upd (upd (upd (mSh a5 (17 + 0) (11 + 7 * mLen L)) 11 ht) 12 ar) 13 rd) 14 (cBare al ht ar + al 7)) 15 (dOff (al 5) (al 6) (cBare al ht ar + al 7))) 16 0) 17 (al 7)), ke, hs, hq, sl, sa, (dOff (al 5) (al 6) (cBare al ht ar + al 7)), (dCar (al 6) (cBare al ht ar + al 7)), pa, pq, sp, nu, dn, er)) H := hP
        have hD : va_D A (mk Z b ((upd (upd (upd (upd (upd (upd (upd (mSh a5 (17 + 0) (11 + 7 * mLen L)) 11 ht) 12 ar) 13 rd) 14 (cBare al ht ar + al 7)) 15 (dOff (al 5) (al 6) (cBare al ht ar + al 7))) 16 0) 17 (al 7)), ke, hs, hq, sl, sa, (dOff (al 5) (al 6) (cBare al ht ar + al 7)), (dCar (al 6) (cBare al ht ar + al 7)), pa, pq, sp, nu, dn, er)) := hD
        refine lv_iload hx hb dX8_passes_265 (lv_at hl 1 rfl) ?_
        exact W.zret hx hb hr (rfl) (zEi ((upd (upd (upd (upd (upd (upd (upd (mSh a5 (17 + 0) (11 + 7 * mLen L)) 11 ht) 12 ar) 13 rd) 14 (cBare al ht ar + al 7)) 15 (dOff (al 5) (al 6) (cBare al ht ar + al 7))) 16 0) 17 (al 7)), (dOff (al 5) (al 6) (cBare al ht ar + al 7)), (dCar (al 6) (cBare al ht ar + al 7))) (by
            rw [e_a5, e_a4]
            simp only [mGo, mIs, mFacts, mTop, hl48, z10, c52, c137, Int32.not_lt.mpr c137, c165, Int32.not_le.mpr c165, ↓reduceIte, and_self]) hP hD hS) hS.2.2 dX8_passes_267
      · obtain ⟨k, rfl⟩ : ∃ j, k = j + 1 := ⟨k - 1, by
          have := zNlt (b := 7) c165 (by omega) (by omega)
          omega⟩
        refine lv_aload_n hx hb dX8_passes_168 rfl (lv_at hl 5 rfl) ?_
        refine va_get (D := G) (ci := 8) (v := .ref (b 1)) (C := RX8) (T := TX8) (N := 14) hx hb hts iX8 hown hK hP 0 rfl rfl 0 (by decide) k_7 (fun _ h9 => h9) rfl dX8_passes_169 ?_
        refine lv_bipush (v := 11) hx hb dX8_passes_172 (by decide) ?_
        refine lv_iload hx hb dX8_passes_174 (lv_at hl 0 rfl) ?_
        refine lv_iadd hx hb dX8_passes_176 ?_
        refine lv_aload_n hx hb dX8_passes_177 rfl (lv_at hl 5 rfl) ?_
        refine va_get (D := G) (ci := 8) (v := .ref (b 1)) (C := RX8) (T := TX8) (N := 14) hx hb hts iX8 hown hK hP 0 rfl rfl 0 (by decide) k_7 (fun _ h9 => h9) rfl dX8_passes_178 ?_
        refine lv_bipush (v := 11) hx hb dX8_passes_181 (by decide) ?_
        refine lv_iload hx hb dX8_passes_183 (lv_at hl 0 rfl) ?_
        refine lv_iadd hx hb dX8_passes_185 ?_
        refine lv_bipush (v := 7) hx hb dX8_passes_186 (by decide) ?_
        refine lv_isub hx hb dX8_passes_188 ?_
        refine zIald (f := (mSh a5 (17 + (k + 1)) (11 + 7 * mLen L))) hx hb hK hP 1 0 rfl rfl (11 + k) (by rw [show (11 : Int32) = nI 11 from rfl, nI_add, show (7 : Int32) = nI 7 from rfl, pk_sub (by omega)]; exact congrArg nI (by omega)) (by omega) (by decide) dX8_passes_189 ?_
        refine zIast (f := (mSh a5 (17 + (k + 1)) (11 + 7 * mLen L))) hx hb hK hP hD hS 1 0 rfl rfl (18 + k) (by rw [show (11 : Int32) = nI 11 from rfl, nI_add]; congr 1; omega) (by omega) (by decide) dX8_passes_190 (fun H locs hP hD hS => ?_)
        have hP : va_P G vwCl (mk Z b ((upd (mSh a5 (17 + (k + 1)) (11 + 7 * mLen L)) (18 + k) ((mSh a5 (17 + (k + 1)) (11 + 7 * mLen L)) (11 + k))), ke, hs, hq, sl, sa, (dOff (al 5) (al 6) (cBare al ht ar + al 7)), (dCar (al 6) (cBare al ht ar + al 7)), pa, pq, sp, nu, dn, er)) H := hP
        have hD : va_D A (mk Z b ((upd (mSh a5 (17 + (k + 1)) (11 + 7 * mLen L)) (18 + k) ((mSh a5 (17 + (k + 1)) (11 + 7 * mLen L)) (11 + k))), ke, hs, hq, sl, sa, (dOff (al 5) (al 6) (cBare al ht ar + al 7)), (dCar (al 6) (cBare al ht ar + al 7)), pa, pq, sp, nu, dn, er)) := hD
        refine lv_iinc (v := ((nI ((k + 1) + 6)) + (-1))) (lv' := [(8, .int ((nI ((k + 1) + 6)) + (-1))), (7, .int 0), (6, .int (dOff (al 5) (al 6) (cBare al ht ar + al 7))), (5, .int (al 7)), (4, .int (cBare al ht ar + al 7)), (0, .ref (b 0)), (1, .int ht), (2, .int ar), (3, .int rd)]) hx hb dX8_passes_191 hl (k := 0) rfl rfl (by decide) rfl (fun ls hl => ?_)
        refine lv_goto (tgt := 161) hx hb dX8_passes_194 (by decide) ?_
        rw [show nI (k + 1 + 6) + (-1) = nI (k + 6) from pk_m1 (k + 6)] at hl
        have hz : upd (mSh a5 (17 + (k + 1)) (11 + 7 * mLen L)) (18 + k) (mSh a5 (17 + (k + 1)) (11 + 7 * mLen L) (11 + k)) = mSh a5 (17 + k) (11 + 7 * mLen L) := by
          have h := mSh_s a5 (k := k) (hi := 11 + 7 * mLen L) (by omega)
          rw [show 17 + (k + 1) = 18 + k by omega]
          exact h
        rw [hz] at hP hD
        exact ih161 k (by
            try dsimp only
            omega) (by
            try dsimp only
            omega) _ _ _ hP hD hS (lv_sub hl [0, 1, 2, 3, 4, 5, 6, 7, 8] rfl)
    · refine lv_iconst (v := 1) hx hb dX8_passes_140 (by decide) ?_
      refine lv_goto (tgt := 145) hx hb dX8_passes_141 (by decide) ?_
      refine lv_iadd hx hb dX8_passes_145 ?_
      refine zIast (f := a4) hx hb hK hP hD hS 1 0 rfl rfl 9 (by decide) (by decide) (by decide) dX8_passes_146 (fun H locs hP hD hS => ?_)
      have hP : va_P G vwCl (mk Z b ((upd a4 9 ((a4 9) + 1)), ke, hs, hq, sl, sa, (dOff (al 5) (al 6) (cBare al ht ar + al 7)), (dCar (al 6) (cBare al ht ar + al 7)), pa, pq, sp, nu, dn, er)) H := hP
      have hD : va_D A (mk Z b ((upd a4 9 ((a4 9) + 1)), ke, hs, hq, sl, sa, (dOff (al 5) (al 6) (cBare al ht ar + al 7)), (dCar (al 6) (cBare al ht ar + al 7)), pa, pq, sp, nu, dn, er)) := hD
      have hl48 : L < 48 := by rw [h9] at c137; exact zNle (a := 48) c137 (by decide) (by omega)
      obtain ⟨a5, e_a5⟩ : ∃ f : Nat → Int32, f = (upd a4 9 ((a4 9) + 1)) := ⟨_, rfl⟩
      rw [← e_a5] at hP hD
      have g9 : a5 9 = nI (mLen L) := by
        rw [e_a5]
        show a4 9 + _ = _
        rw [h9, mLen, if_pos hl48]; exact (nI_succ L).symm
      have hm1 : 1 ≤ mLen L := by unfold mLen; split <;> omega
      have hm2 := mLen_le hL8
      refine lv_bipush (v := 7) hx hb dX8_passes_147 (by decide) ?_
      refine lv_aload_n hx hb dX8_passes_149 rfl (lv_at hl 4 rfl) ?_
      refine va_get (D := G) (ci := 8) (v := .ref (b 1)) (C := RX8) (T := TX8) (N := 14) hx hb hts iX8 hown hK hP 0 rfl rfl 0 (by decide) k_7 (fun _ h9 => h9) rfl dX8_passes_150 ?_
      refine lv_bipush (v := 9) hx hb dX8_passes_153 (by decide) ?_
      refine zIald (f := a5) hx hb hK hP 1 0 rfl rfl 9 (by decide) (by decide) (by decide) dX8_passes_155 ?_
      refine lv_imul hx hb dX8_passes_156 ?_
      refine lv_iconst (v := 1) hx hb dX8_passes_157 (by decide) ?_
      refine lv_isub hx hb dX8_passes_158 ?_
      refine lv_istore (lv' := [(8, .int ((7 * (a5 9)) - 1)), (7, .int 0), (6, .int (dOff (al 5) (al 6) (cBare al ht ar + al 7))), (5, .int (al 7)), (4, .int (cBare al ht ar + al 7)), (0, .ref (b 0)), (1, .int ht), (2, .int ar), (3, .int rd)]) hx hb dX8_passes_159 hl (by decide) rfl (fun ls hl => ?_)
      rw [show 7 * (a5 9) - 1 = nI ((7 * mLen L - 7) + 6) from by
        rw [g9, show (7 : Int32) = nI 7 from rfl, pk_mul]
        have hm3 : 7 * mLen L = ((7 * mLen L - 7) + 6) + 1 := by omega
        exact (congrArg (fun t => nI t - 1) hm3).trans (nI_pred _)] at hl
      rw [← mSh_0 a5 (lo := 17 + (7 * mLen L - 7)) (hi := 11 + 7 * mLen L) (by omega)] at hP hD
      refine zLoop (σ := Nat) (nL := 9) (fun zx => mk Z b ((mSh a5 (17 + zx) (11 + 7 * mLen L)), ke, hs, hq, sl, sa, (dOff (al 5) (al 6) (cBare al ht ar + al 7)), (dCar (al 6) (cBare al ht ar + al 7)), pa, pq, sp, nu, dn, er)) (fun zx => [(8, .int (nI (zx + 6))), (7, .int 0), (6, .int (dOff (al 5) (al 6) (cBare al ht ar + al 7))), (5, .int (al 7)), (4, .int (cBare al ht ar + al 7)), (0, .ref (b 0)), (1, .int ht), (2, .int ar), (3, .int rd)]) (fun zx => zx ≤ 7 * mLen L - 7) (fun zx => zx) ?_ (7 * mLen L - 7) (by
          try dsimp only
          omega) hP hD hS (lv_sub hl [0, 1, 2, 3, 4, 5, 6, 7, 8] rfl)
      intro zx hinv161 ih161 H locs ls hP hD hS hl
      obtain ⟨k, rfl⟩ : ∃ z, z = zx := ⟨_, rfl⟩
      try dsimp only at hinv161 ih161
      have hP : va_P G vwCl (mk Z b ((mSh a5 (17 + k) (11 + 7 * mLen L)), ke, hs, hq, sl, sa, (dOff (al 5) (al 6) (cBare al ht ar + al 7)), (dCar (al 6) (cBare al ht ar + al 7)), pa, pq, sp, nu, dn, er)) H := hP
      have hD : va_D A (mk Z b ((mSh a5 (17 + k) (11 + 7 * mLen L)), ke, hs, hq, sl, sa, (dOff (al 5) (al 6) (cBare al ht ar + al 7)), (dCar (al 6) (cBare al ht ar + al 7)), pa, pq, sp, nu, dn, er)) := hD
      have hl : lv_has ls 9 [(8, .int (nI (k + 6))), (7, .int 0), (6, .int (dOff (al 5) (al 6) (cBare al ht ar + al 7))), (5, .int (al 7)), (4, .int (cBare al ht ar + al 7)), (0, .ref (b 0)), (1, .int ht), (2, .int ar), (3, .int rd)] := hl
      refine lv_iload hx hb dX8_passes_161 (lv_at hl 0 rfl) ?_
      refine lv_bipush (v := 7) hx hb dX8_passes_163 (by decide) ?_
      refine lv_icmp_lt (tgt := 197) hx hb dX8_passes_165 (by decide) (fun c165 => ?_) (fun c165 => ?_)
      · have hk := zLt (b := 7) c165 (by omega) (by omega)
        obtain rfl : k = 0 := by omega
        refine lv_aload_n hx hb dX8_passes_197 rfl (lv_at hl 5 rfl) ?_
        refine va_get (D := G) (ci := 8) (v := .ref (b 1)) (C := RX8) (T := TX8) (N := 14) hx hb hts iX8 hown hK hP 0 rfl rfl 0 (by decide) k_7 (fun _ h9 => h9) rfl dX8_passes_198 ?_
        refine lv_bipush (v := 11) hx hb dX8_passes_201 (by decide) ?_
        refine lv_iload_n hx hb dX8_passes_203 rfl (lv_at hl 6 rfl) ?_
        refine zIast (f := (mSh a5 (17 + 0) (11 + 7 * mLen L))) hx hb hK hP hD hS 1 0 rfl rfl 11 (by decide) (by decide) (by decide) dX8_passes_204 (fun H locs hP hD hS => ?_)
        have hP : va_P G vwCl (mk Z b ((upd (mSh a5 (17 + 0) (11 + 7 * mLen L)) 11 ht), ke, hs, hq, sl, sa, (dOff (al 5) (al 6) (cBare al ht ar + al 7)), (dCar (al 6) (cBare al ht ar + al 7)), pa, pq, sp, nu, dn, er)) H := hP
        have hD : va_D A (mk Z b ((upd (mSh a5 (17 + 0) (11 + 7 * mLen L)) 11 ht), ke, hs, hq, sl, sa, (dOff (al 5) (al 6) (cBare al ht ar + al 7)), (dCar (al 6) (cBare al ht ar + al 7)), pa, pq, sp, nu, dn, er)) := hD
        refine lv_aload_n hx hb dX8_passes_205 rfl (lv_at hl 5 rfl) ?_
        refine va_get (D := G) (ci := 8) (v := .ref (b 1)) (C := RX8) (T := TX8) (N := 14) hx hb hts iX8 hown hK hP 0 rfl rfl 0 (by decide) k_7 (fun _ h9 => h9) rfl dX8_passes_206 ?_
        refine lv_bipush (v := 12) hx hb dX8_passes_209 (by decide) ?_
        refine lv_iload_n hx hb dX8_passes_211 rfl (lv_at hl 7 rfl) ?_
        refine zIast (f := (upd (mSh a5 (17 + 0) (11 + 7 * mLen L)) 11 ht)) hx hb hK hP hD hS 1 0 rfl rfl 12 (by decide) (by decide) (by decide) dX8_passes_212 (fun H locs hP hD hS => ?_)
        have hP : va_P G vwCl (mk Z b ((upd (upd (mSh a5 (17 + 0) (11 + 7 * mLen L)) 11 ht) 12 ar), ke, hs, hq, sl, sa, (dOff (al 5) (al 6) (cBare al ht ar + al 7)), (dCar (al 6) (cBare al ht ar + al 7)), pa, pq, sp, nu, dn, er)) H := hP
        have hD : va_D A (mk Z b ((upd (upd (mSh a5 (17 + 0) (11 + 7 * mLen L)) 11 ht) 12 ar), ke, hs, hq, sl, sa, (dOff (al 5) (al 6) (cBare al ht ar + al 7)), (dCar (al 6) (cBare al ht ar + al 7)), pa, pq, sp, nu, dn, er)) := hD
        refine lv_aload_n hx hb dX8_passes_213 rfl (lv_at hl 5 rfl) ?_
        refine va_get (D := G) (ci := 8) (v := .ref (b 1)) (C := RX8) (T := TX8) (N := 14) hx hb hts iX8 hown hK hP 0 rfl rfl 0 (by decide) k_7 (fun _ h9 => h9) rfl dX8_passes_214 ?_
        refine lv_bipush (v := 13) hx hb dX8_passes_217 (by decide) ?_
        refine lv_iload_n hx hb dX8_passes_219 rfl (lv_at hl 8 rfl) ?_
        refine zIast (f := (upd (upd (mSh a5 (17 + 0) (11 + 7 * mLen L)) 11 ht) 12 ar)) hx hb hK hP hD hS 1 0 rfl rfl 13 (by decide) (by decide) (by decide) dX8_passes_220 (fun H locs hP hD hS => ?_)
        have hP : va_P G vwCl (mk Z b ((upd (upd (upd (mSh a5 (17 + 0) (11 + 7 * mLen L)) 11 ht) 12 ar) 13 rd), ke, hs, hq, sl, sa, (dOff (al 5) (al 6) (cBare al ht ar + al 7)), (dCar (al 6) (cBare al ht ar + al 7)), pa, pq, sp, nu, dn, er)) H := hP
        have hD : va_D A (mk Z b ((upd (upd (upd (mSh a5 (17 + 0) (11 + 7 * mLen L)) 11 ht) 12 ar) 13 rd), ke, hs, hq, sl, sa, (dOff (al 5) (al 6) (cBare al ht ar + al 7)), (dCar (al 6) (cBare al ht ar + al 7)), pa, pq, sp, nu, dn, er)) := hD
        refine lv_aload_n hx hb dX8_passes_221 rfl (lv_at hl 5 rfl) ?_
        refine va_get (D := G) (ci := 8) (v := .ref (b 1)) (C := RX8) (T := TX8) (N := 14) hx hb hts iX8 hown hK hP 0 rfl rfl 0 (by decide) k_7 (fun _ h9 => h9) rfl dX8_passes_222 ?_
        refine lv_bipush (v := 14) hx hb dX8_passes_225 (by decide) ?_
        refine lv_iload hx hb dX8_passes_227 (lv_at hl 4 rfl) ?_
        refine zIast (f := (upd (upd (upd (mSh a5 (17 + 0) (11 + 7 * mLen L)) 11 ht) 12 ar) 13 rd)) hx hb hK hP hD hS 1 0 rfl rfl 14 (by decide) (by decide) (by decide) dX8_passes_229 (fun H locs hP hD hS => ?_)
        have hP : va_P G vwCl (mk Z b ((upd (upd (upd (upd (mSh a5 (17 + 0) (11 + 7 * mLen L)) 11 ht) 12 ar) 13 rd) 14 (cBare al ht ar + al 7)), ke, hs, hq, sl, sa, (dOff (al 5) (al 6) (cBare al ht ar + al 7)), (dCar (al 6) (cBare al ht ar + al 7)), pa, pq, sp, nu, dn, er)) H := hP
        have hD : va_D A (mk Z b ((upd (upd (upd (upd (mSh a5 (17 + 0) (11 + 7 * mLen L)) 11 ht) 12 ar) 13 rd) 14 (cBare al ht ar + al 7)), ke, hs, hq, sl, sa, (dOff (al 5) (al 6) (cBare al ht ar + al 7)), (dCar (al 6) (cBare al ht ar + al 7)), pa, pq, sp, nu, dn, er)) := hD
        refine lv_aload_n hx hb dX8_passes_230 rfl (lv_at hl 5 rfl) ?_
        refine va_get (D := G) (ci := 8) (v := .ref (b 1)) (C := RX8) (T := TX8) (N := 14) hx hb hts iX8 hown hK hP 0 rfl rfl 0 (by decide) k_7 (fun _ h9 => h9) rfl dX8_passes_231 ?_
        refine lv_bipush (v := 15) hx hb dX8_passes_234 (by decide) ?_
        refine lv_iload hx hb dX8_passes_236 (lv_at hl 2 rfl) ?_
        refine zIast (f := (upd (upd (upd (upd (mSh a5 (17 + 0) (11 + 7 * mLen L)) 11 ht) 12 ar) 13 rd) 14 (cBare al ht ar + al 7))) hx hb hK hP hD hS 1 0 rfl rfl 15 (by decide) (by decide) (by decide) dX8_passes_238 (fun H locs hP hD hS => ?_)
        have hP : va_P G vwCl (mk Z b ((upd (upd (upd (upd (upd (mSh a5 (17 + 0) (11 + 7 * mLen L)) 11 ht) 12 ar) 13 rd) 14 (cBare al ht ar + al 7)) 15 (dOff (al 5) (al 6) (cBare al ht ar + al 7))), ke, hs, hq, sl, sa, (dOff (al 5) (al 6) (cBare al ht ar + al 7)), (dCar (al 6) (cBare al ht ar + al 7)), pa, pq, sp, nu, dn, er)) H := hP
        have hD : va_D A (mk Z b ((upd (upd (upd (upd (upd (mSh a5 (17 + 0) (11 + 7 * mLen L)) 11 ht) 12 ar) 13 rd) 14 (cBare al ht ar + al 7)) 15 (dOff (al 5) (al 6) (cBare al ht ar + al 7))), ke, hs, hq, sl, sa, (dOff (al 5) (al 6) (cBare al ht ar + al 7)), (dCar (al 6) (cBare al ht ar + al 7)), pa, pq, sp, nu, dn, er)) := hD
        refine lv_aload_n hx hb dX8_passes_239 rfl (lv_at hl 5 rfl) ?_
        refine va_get (D := G) (ci := 8) (v := .ref (b 1)) (C := RX8) (T := TX8) (N := 14) hx hb hts iX8 hown hK hP 0 rfl rfl 0 (by decide) k_7 (fun _ h9 => h9) rfl dX8_passes_240 ?_
        refine lv_bipush (v := 16) hx hb dX8_passes_243 (by decide) ?_
        refine lv_iload hx hb dX8_passes_245 (lv_at hl 1 rfl) ?_
        refine lv_if_eq (tgt := 254) hx hb dX8_passes_247 (by decide) (fun _ => ?_) (fun c247 => absurd (by decide) c247)
        refine lv_iconst (v := 0) hx hb dX8_passes_254 (by decide) ?_
        refine zIast (f := (upd (upd (upd (upd (upd (mSh a5 (17 + 0) (11 + 7 * mLen L)) 11 ht) 12 ar) 13 rd) 14 (cBare al ht ar + al 7)) 15 (dOff (al 5) (al 6) (cBare al ht ar + al 7)))) hx hb hK hP hD hS 1 0 rfl rfl 16 (by decide) (by decide) (by decide) dX8_passes_255 (fun H locs hP hD hS => ?_)
        have hP : va_P G vwCl (mk Z b ((upd (upd (upd (upd (upd (upd (mSh a5 (17 + 0) (11 + 7 * mLen L)) 11 ht) 12 ar) 13 rd) 14 (cBare al ht ar + al 7)) 15 (dOff (al 5) (al 6) (cBare al ht ar + al 7))) 16 0), ke, hs, hq, sl, sa, (dOff (al 5) (al 6) (cBare al ht ar + al 7)), (dCar (al 6) (cBare al ht ar + al 7)), pa, pq, sp, nu, dn, er)) H := hP
        have hD : va_D A (mk Z b ((upd (upd (upd (upd (upd (upd (mSh a5 (17 + 0) (11 + 7 * mLen L)) 11 ht) 12 ar) 13 rd) 14 (cBare al ht ar + al 7)) 15 (dOff (al 5) (al 6) (cBare al ht ar + al 7))) 16 0), ke, hs, hq, sl, sa, (dOff (al 5) (al 6) (cBare al ht ar + al 7)), (dCar (al 6) (cBare al ht ar + al 7)), pa, pq, sp, nu, dn, er)) := hD
        refine lv_aload_n hx hb dX8_passes_256 rfl (lv_at hl 5 rfl) ?_
        refine va_get (D := G) (ci := 8) (v := .ref (b 1)) (C := RX8) (T := TX8) (N := 14) hx hb hts iX8 hown hK hP 0 rfl rfl 0 (by decide) k_7 (fun _ h9 => h9) rfl dX8_passes_257 ?_
        refine lv_bipush (v := 17) hx hb dX8_passes_260 (by decide) ?_
        refine lv_iload hx hb dX8_passes_262 (lv_at hl 3 rfl) ?_
        refine zIast (f := (upd (upd (upd (upd (upd (upd (mSh a5 (17 + 0) (11 + 7 * mLen L)) 11 ht) 12 ar) 13 rd) 14 (cBare al ht ar + al 7)) 15 (dOff (al 5) (al 6) (cBare al ht ar + al 7))) 16 0)) hx hb hK hP hD hS 1 0 rfl rfl 17 (by decide) (by decide) (by decide) dX8_passes_264 (fun H locs hP hD hS => ?_)
        have hP : va_P G vwCl (mk Z b ((upd (upd (upd (upd (upd (upd (upd (mSh a5 (17 + 0) (11 + 7 * mLen L)) 11 ht) 12 ar) 13 rd) 14 (cBare al ht ar + al 7)) 15 (dOff (al 5) (al 6) (cBare al ht ar + al 7))) 16 0) 17 (al 7)), ke, hs, hq, sl, sa, (dOff (al 5) (al 6) (cBare al ht ar + al 7)), (dCar (al 6) (cBare al ht ar + al 7)), pa, pq, sp, nu, dn, er)) H := hP
        have hD : va_D A (mk Z b ((upd (upd (upd (upd (upd (upd (upd (mSh a5 (17 + 0) (11 + 7 * mLen L)) 11 ht) 12 ar) 13 rd) 14 (cBare al ht ar + al 7)) 15 (dOff (al 5) (al 6) (cBare al ht ar + al 7))) 16 0) 17 (al 7)), ke, hs, hq, sl, sa, (dOff (al 5) (al 6) (cBare al ht ar + al 7)), (dCar (al 6) (cBare al ht ar + al 7)), pa, pq, sp, nu, dn, er)) := hD
        refine lv_iload hx hb dX8_passes_265 (lv_at hl 1 rfl) ?_
        exact W.zret hx hb hr (rfl) (zEi ((upd (upd (upd (upd (upd (upd (upd (mSh a5 (17 + 0) (11 + 7 * mLen L)) 11 ht) 12 ar) 13 rd) 14 (cBare al ht ar + al 7)) 15 (dOff (al 5) (al 6) (cBare al ht ar + al 7))) 16 0) 17 (al 7)), (dOff (al 5) (al 6) (cBare al ht ar + al 7)), (dCar (al 6) (cBare al ht ar + al 7))) (by
            rw [e_a5, e_a4]
            simp only [mGo, mIs, mFacts, mTop, hl48, z10, c52, c137, Int32.not_le.mp c137, c165, Int32.not_le.mpr c165, ↓reduceIte, and_self]) hP hD hS) hS.2.2 dX8_passes_267
      · obtain ⟨k, rfl⟩ : ∃ j, k = j + 1 := ⟨k - 1, by
          have := zNlt (b := 7) c165 (by omega) (by omega)
          omega⟩
        refine lv_aload_n hx hb dX8_passes_168 rfl (lv_at hl 5 rfl) ?_
        refine va_get (D := G) (ci := 8) (v := .ref (b 1)) (C := RX8) (T := TX8) (N := 14) hx hb hts iX8 hown hK hP 0 rfl rfl 0 (by decide) k_7 (fun _ h9 => h9) rfl dX8_passes_169 ?_
        refine lv_bipush (v := 11) hx hb dX8_passes_172 (by decide) ?_
        refine lv_iload hx hb dX8_passes_174 (lv_at hl 0 rfl) ?_
        refine lv_iadd hx hb dX8_passes_176 ?_
        refine lv_aload_n hx hb dX8_passes_177 rfl (lv_at hl 5 rfl) ?_
        refine va_get (D := G) (ci := 8) (v := .ref (b 1)) (C := RX8) (T := TX8) (N := 14) hx hb hts iX8 hown hK hP 0 rfl rfl 0 (by decide) k_7 (fun _ h9 => h9) rfl dX8_passes_178 ?_
        refine lv_bipush (v := 11) hx hb dX8_passes_181 (by decide) ?_
        refine lv_iload hx hb dX8_passes_183 (lv_at hl 0 rfl) ?_
        refine lv_iadd hx hb dX8_passes_185 ?_
        refine lv_bipush (v := 7) hx hb dX8_passes_186 (by decide) ?_
        refine lv_isub hx hb dX8_passes_188 ?_
        refine zIald (f := (mSh a5 (17 + (k + 1)) (11 + 7 * mLen L))) hx hb hK hP 1 0 rfl rfl (11 + k) (by rw [show (11 : Int32) = nI 11 from rfl, nI_add, show (7 : Int32) = nI 7 from rfl, pk_sub (by omega)]; exact congrArg nI (by omega)) (by omega) (by decide) dX8_passes_189 ?_
        refine zIast (f := (mSh a5 (17 + (k + 1)) (11 + 7 * mLen L))) hx hb hK hP hD hS 1 0 rfl rfl (18 + k) (by rw [show (11 : Int32) = nI 11 from rfl, nI_add]; congr 1; omega) (by omega) (by decide) dX8_passes_190 (fun H locs hP hD hS => ?_)
        have hP : va_P G vwCl (mk Z b ((upd (mSh a5 (17 + (k + 1)) (11 + 7 * mLen L)) (18 + k) ((mSh a5 (17 + (k + 1)) (11 + 7 * mLen L)) (11 + k))), ke, hs, hq, sl, sa, (dOff (al 5) (al 6) (cBare al ht ar + al 7)), (dCar (al 6) (cBare al ht ar + al 7)), pa, pq, sp, nu, dn, er)) H := hP
        have hD : va_D A (mk Z b ((upd (mSh a5 (17 + (k + 1)) (11 + 7 * mLen L)) (18 + k) ((mSh a5 (17 + (k + 1)) (11 + 7 * mLen L)) (11 + k))), ke, hs, hq, sl, sa, (dOff (al 5) (al 6) (cBare al ht ar + al 7)), (dCar (al 6) (cBare al ht ar + al 7)), pa, pq, sp, nu, dn, er)) := hD
        refine lv_iinc (v := ((nI ((k + 1) + 6)) + (-1))) (lv' := [(8, .int ((nI ((k + 1) + 6)) + (-1))), (7, .int 0), (6, .int (dOff (al 5) (al 6) (cBare al ht ar + al 7))), (5, .int (al 7)), (4, .int (cBare al ht ar + al 7)), (0, .ref (b 0)), (1, .int ht), (2, .int ar), (3, .int rd)]) hx hb dX8_passes_191 hl (k := 0) rfl rfl (by decide) rfl (fun ls hl => ?_)
        refine lv_goto (tgt := 161) hx hb dX8_passes_194 (by decide) ?_
        rw [show nI (k + 1 + 6) + (-1) = nI (k + 6) from pk_m1 (k + 6)] at hl
        have hz : upd (mSh a5 (17 + (k + 1)) (11 + 7 * mLen L)) (18 + k) (mSh a5 (17 + (k + 1)) (11 + 7 * mLen L) (11 + k)) = mSh a5 (17 + k) (11 + 7 * mLen L) := by
          have h := mSh_s a5 (k := k) (hi := 11 + 7 * mLen L) (by omega)
          rw [show 17 + (k + 1) = 18 + k by omega]
          exact h
        rw [hz] at hP hD
        exact ih161 k (by
            try dsimp only
            omega) (by
            try dsimp only
            omega) _ _ _ hP hD hS (lv_sub hl [0, 1, 2, 3, 4, 5, 6, 7, 8] rfl)
  · refine lv_aload_n hx hb dX8_passes_55 rfl (lv_at hl 3 rfl) ?_
    refine zCi (S := Unit) (ws1 := fun u => mk Z b (al, ke, hs, hq, sl, sa, (dOff (al 5) (al 6) (cBare al ht ar + al 7)), (dCar (al 6) (cBare al ht ar + al 7)), pa, pq, sp, nu, dn, er)) (wr := []) (va_runV (As := []) (rest := []) ⟨hx, hb, hml, hown, hts⟩ (m_X8_isTooFar l G Z _ b al ke hs hq sl sa (dOff (al 5) (al 6) (cBare al ht ar + al 7)) (dCar (al 6) (cBare al ht ar + al 7)) pa pq sp nu dn er) (cwV 0 hts gX8_passes_X8_isTooFar rfl rfl rfl (by decide +kernel) ⟨Nat.le_of_ble_eq_true rfl, Nat.le_of_ble_eq_true rfl⟩) (zPreV hK hP hD hS hA hSW [0, 1, 2, 3, 4, 5, 6] rfl (by decide) 0 (ci := 8) rfl rfl rfl) rfl rfl hl.1 rfl (lv_room (Nat.le_of_ble_eq_true rfl)) dX8_passes_56 ⟨Nat.le_of_ble_eq_true rfl, Nat.le_of_ble_eq_true rfl⟩) hP hD hS hA [0, 1, 2, 3, 4, 5, 6] [] [0, 1, 2, 3, 4, 5, 6] rfl rfl (by decide) (by decide) (by decide) (fun _ => rfl) (fun r56 u H locs hw56 hP hD hS => ?_)
    try dsimp only at hw56
    subst hw56
    have hP : va_P G vwCl (mk Z b (al, ke, hs, hq, sl, sa, (dOff (al 5) (al 6) (cBare al ht ar + al 7)), (dCar (al 6) (cBare al ht ar + al 7)), pa, pq, sp, nu, dn, er)) H := hP
    have hD : va_D A (mk Z b (al, ke, hs, hq, sl, sa, (dOff (al 5) (al 6) (cBare al ht ar + al 7)), (dCar (al 6) (cBare al ht ar + al 7)), pa, pq, sp, nu, dn, er)) := hD
    refine lv_if_eq (tgt := 66) hx hb dX8_passes_59 (by decide) (fun c59 => ?_) (fun c59 => ?_)
    · refine lv_iconst (v := 0) hx hb dX8_passes_66 (by decide) ?_
      refine lv_istore (lv' := [(7, .int 0), (6, .int (dOff (al 5) (al 6) (cBare al ht ar + al 7))), (5, .int (al 7)), (4, .int (cBare al ht ar + al 7)), (0, .ref (b 0)), (1, .int ht), (2, .int ar), (3, .int rd)]) hx hb dX8_passes_67 hl (by decide) rfl (fun ls hl => ?_)
      refine lv_iload hx hb dX8_passes_69 (lv_at hl 0 rfl) ?_
      refine lv_if_eq (tgt := 78) hx hb dX8_passes_71 (by decide) (fun _ => ?_) (fun c71 => absurd (by decide) c71)
      refine lv_aload_n hx hb dX8_passes_78 rfl (lv_at hl 4 rfl) ?_
      refine va_get (D := G) (ci := 8) (v := .ref (b 1)) (C := RX8) (T := TX8) (N := 14) hx hb hts iX8 hown hK hP 0 rfl rfl 0 (by decide) k_7 (fun _ h9 => h9) rfl dX8_passes_79 ?_
      refine lv_iconst (v := 5) hx hb dX8_passes_82 (by decide) ?_
      refine lv_aload_n hx hb dX8_passes_83 rfl (lv_at hl 4 rfl) ?_
      refine va_get (D := G) (ci := 8) (v := .int (dOff (al 5) (al 6) (cBare al ht ar + al 7))) (C := RX8) (T := TX8) (N := 14) hx hb hts iX8 hown hK hP 0 rfl rfl 6 (by decide) k_51 (fun _ h9 => h9) rfl dX8_passes_84 ?_
      refine zIast (f := al) hx hb hK hP hD hS 1 0 rfl rfl 5 (by decide) (by decide) (by decide) dX8_passes_87 (fun H locs hP hD hS => ?_)
      have hP : va_P G vwCl (mk Z b ((upd al 5 (dOff (al 5) (al 6) (cBare al ht ar + al 7))), ke, hs, hq, sl, sa, (dOff (al 5) (al 6) (cBare al ht ar + al 7)), (dCar (al 6) (cBare al ht ar + al 7)), pa, pq, sp, nu, dn, er)) H := hP
      have hD : va_D A (mk Z b ((upd al 5 (dOff (al 5) (al 6) (cBare al ht ar + al 7))), ke, hs, hq, sl, sa, (dOff (al 5) (al 6) (cBare al ht ar + al 7)), (dCar (al 6) (cBare al ht ar + al 7)), pa, pq, sp, nu, dn, er)) := hD
      refine lv_aload_n hx hb dX8_passes_88 rfl (lv_at hl 4 rfl) ?_
      refine va_get (D := G) (ci := 8) (v := .ref (b 1)) (C := RX8) (T := TX8) (N := 14) hx hb hts iX8 hown hK hP 0 rfl rfl 0 (by decide) k_7 (fun _ h9 => h9) rfl dX8_passes_89 ?_
      refine lv_bipush (v := 6) hx hb dX8_passes_92 (by decide) ?_
      refine lv_aload_n hx hb dX8_passes_94 rfl (lv_at hl 4 rfl) ?_
      refine va_get (D := G) (ci := 8) (v := .int (dCar (al 6) (cBare al ht ar + al 7))) (C := RX8) (T := TX8) (N := 14) hx hb hts iX8 hown hK hP 0 rfl rfl 7 (by decide) k_48 (fun _ h9 => h9) rfl dX8_passes_95 ?_
      refine zIast (f := (upd al 5 (dOff (al 5) (al 6) (cBare al ht ar + al 7)))) hx hb hK hP hD hS 1 0 rfl rfl 6 (by decide) (by decide) (by decide) dX8_passes_98 (fun H locs hP hD hS => ?_)
      have hP : va_P G vwCl (mk Z b ((upd (upd al 5 (dOff (al 5) (al 6) (cBare al ht ar + al 7))) 6 (dCar (al 6) (cBare al ht ar + al 7))), ke, hs, hq, sl, sa, (dOff (al 5) (al 6) (cBare al ht ar + al 7)), (dCar (al 6) (cBare al ht ar + al 7)), pa, pq, sp, nu, dn, er)) H := hP
      have hD : va_D A (mk Z b ((upd (upd al 5 (dOff (al 5) (al 6) (cBare al ht ar + al 7))) 6 (dCar (al 6) (cBare al ht ar + al 7))), ke, hs, hq, sl, sa, (dOff (al 5) (al 6) (cBare al ht ar + al 7)), (dCar (al 6) (cBare al ht ar + al 7)), pa, pq, sp, nu, dn, er)) := hD
      refine lv_aload_n hx hb dX8_passes_99 rfl (lv_at hl 4 rfl) ?_
      refine va_get (D := G) (ci := 8) (v := .ref (b 1)) (C := RX8) (T := TX8) (N := 14) hx hb hts iX8 hown hK hP 0 rfl rfl 0 (by decide) k_7 (fun _ h9 => h9) rfl dX8_passes_100 ?_
      refine lv_iconst (v := 4) hx hb dX8_passes_103 (by decide) ?_
      refine lv_dup2_11 hx hb dX8_passes_104 rfl rfl ?_
      refine zIald (f := (upd (upd al 5 (dOff (al 5) (al 6) (cBare al ht ar + al 7))) 6 (dCar (al 6) (cBare al ht ar + al 7)))) hx hb hK hP 1 0 rfl rfl 4 (by decide) (by decide) (by decide) dX8_passes_105 ?_
      refine lv_iconst (v := 1) hx hb dX8_passes_106 (by decide) ?_
      refine lv_iadd hx hb dX8_passes_107 ?_
      refine zIast (f := (upd (upd al 5 (dOff (al 5) (al 6) (cBare al ht ar + al 7))) 6 (dCar (al 6) (cBare al ht ar + al 7)))) hx hb hK hP hD hS 1 0 rfl rfl 4 (by decide) (by decide) (by decide) dX8_passes_108 (fun H locs hP hD hS => ?_)
      have hP : va_P G vwCl (mk Z b ((upd (upd (upd al 5 (dOff (al 5) (al 6) (cBare al ht ar + al 7))) 6 (dCar (al 6) (cBare al ht ar + al 7))) 4 (((upd (upd al 5 (dOff (al 5) (al 6) (cBare al ht ar + al 7))) 6 (dCar (al 6) (cBare al ht ar + al 7))) 4) + 1)), ke, hs, hq, sl, sa, (dOff (al 5) (al 6) (cBare al ht ar + al 7)), (dCar (al 6) (cBare al ht ar + al 7)), pa, pq, sp, nu, dn, er)) H := hP
      have hD : va_D A (mk Z b ((upd (upd (upd al 5 (dOff (al 5) (al 6) (cBare al ht ar + al 7))) 6 (dCar (al 6) (cBare al ht ar + al 7))) 4 (((upd (upd al 5 (dOff (al 5) (al 6) (cBare al ht ar + al 7))) 6 (dCar (al 6) (cBare al ht ar + al 7))) 4) + 1)), ke, hs, hq, sl, sa, (dOff (al 5) (al 6) (cBare al ht ar + al 7)), (dCar (al 6) (cBare al ht ar + al 7)), pa, pq, sp, nu, dn, er)) := hD
      refine lv_aload_n hx hb dX8_passes_109 rfl (lv_at hl 4 rfl) ?_
      refine va_get (D := G) (ci := 8) (v := .ref (b 1)) (C := RX8) (T := TX8) (N := 14) hx hb hts iX8 hown hK hP 0 rfl rfl 0 (by decide) k_7 (fun _ h9 => h9) rfl dX8_passes_110 ?_
      refine lv_bipush (v := 10) hx hb dX8_passes_113 (by decide) ?_
      refine lv_dup2_11 hx hb dX8_passes_115 rfl rfl ?_
      refine zIald (f := (upd (upd (upd al 5 (dOff (al 5) (al 6) (cBare al ht ar + al 7))) 6 (dCar (al 6) (cBare al ht ar + al 7))) 4 (((upd (upd al 5 (dOff (al 5) (al 6) (cBare al ht ar + al 7))) 6 (dCar (al 6) (cBare al ht ar + al 7))) 4) + 1))) hx hb hK hP 1 0 rfl rfl 10 (by decide) (by decide) (by decide) dX8_passes_116 ?_
      refine lv_iload_n hx hb dX8_passes_117 rfl (lv_at hl 7 rfl) ?_
      refine lv_iadd hx hb dX8_passes_118 ?_
      refine zIast (f := (upd (upd (upd al 5 (dOff (al 5) (al 6) (cBare al ht ar + al 7))) 6 (dCar (al 6) (cBare al ht ar + al 7))) 4 (((upd (upd al 5 (dOff (al 5) (al 6) (cBare al ht ar + al 7))) 6 (dCar (al 6) (cBare al ht ar + al 7))) 4) + 1))) hx hb hK hP hD hS 1 0 rfl rfl 10 (by decide) (by decide) (by decide) dX8_passes_119 (fun H locs hP hD hS => ?_)
      have hP : va_P G vwCl (mk Z b ((upd (upd (upd (upd al 5 (dOff (al 5) (al 6) (cBare al ht ar + al 7))) 6 (dCar (al 6) (cBare al ht ar + al 7))) 4 (((upd (upd al 5 (dOff (al 5) (al 6) (cBare al ht ar + al 7))) 6 (dCar (al 6) (cBare al ht ar + al 7))) 4) + 1)) 10 (((upd (upd (upd al 5 (dOff (al 5) (al 6) (cBare al ht ar + al 7))) 6 (dCar (al 6) (cBare al ht ar + al 7))) 4 (((upd (upd al 5 (dOff (al 5) (al 6) (cBare al ht ar + al 7))) 6 (dCar (al 6) (cBare al ht ar + al 7))) 4) + 1)) 10) + rd)), ke, hs, hq, sl, sa, (dOff (al 5) (al 6) (cBare al ht ar + al 7)), (dCar (al 6) (cBare al ht ar + al 7)), pa, pq, sp, nu, dn, er)) H := hP
      have hD : va_D A (mk Z b ((upd (upd (upd (upd al 5 (dOff (al 5) (al 6) (cBare al ht ar + al 7))) 6 (dCar (al 6) (cBare al ht ar + al 7))) 4 (((upd (upd al 5 (dOff (al 5) (al 6) (cBare al ht ar + al 7))) 6 (dCar (al 6) (cBare al ht ar + al 7))) 4) + 1)) 10 (((upd (upd (upd al 5 (dOff (al 5) (al 6) (cBare al ht ar + al 7))) 6 (dCar (al 6) (cBare al ht ar + al 7))) 4 (((upd (upd al 5 (dOff (al 5) (al 6) (cBare al ht ar + al 7))) 6 (dCar (al 6) (cBare al ht ar + al 7))) 4) + 1)) 10) + rd)), ke, hs, hq, sl, sa, (dOff (al 5) (al 6) (cBare al ht ar + al 7)), (dCar (al 6) (cBare al ht ar + al 7)), pa, pq, sp, nu, dn, er)) := hD
      obtain ⟨a4, e_a4⟩ : ∃ f : Nat → Int32, f = (upd (upd (upd (upd al 5 (dOff (al 5) (al 6) (cBare al ht ar + al 7))) 6 (dCar (al 6) (cBare al ht ar + al 7))) 4 (((upd (upd al 5 (dOff (al 5) (al 6) (cBare al ht ar + al 7))) 6 (dCar (al 6) (cBare al ht ar + al 7))) 4) + 1)) 10 (((upd (upd (upd al 5 (dOff (al 5) (al 6) (cBare al ht ar + al 7))) 6 (dCar (al 6) (cBare al ht ar + al 7))) 4 (((upd (upd al 5 (dOff (al 5) (al 6) (cBare al ht ar + al 7))) 6 (dCar (al 6) (cBare al ht ar + al 7))) 4) + 1)) 10) + rd)) := ⟨_, rfl⟩
      rw [← e_a4] at hP hD
      have h9 : a4 9 = nI L := by rw [e_a4]; exact hL
      refine lv_aload_n hx hb dX8_passes_120 rfl (lv_at hl 4 rfl) ?_
      refine va_get (D := G) (ci := 8) (v := .ref (b 1)) (C := RX8) (T := TX8) (N := 14) hx hb hts iX8 hown hK hP 0 rfl rfl 0 (by decide) k_7 (fun _ h9 => h9) rfl dX8_passes_121 ?_
      refine lv_bipush (v := 9) hx hb dX8_passes_124 (by decide) ?_
      refine lv_dup2_11 hx hb dX8_passes_126 rfl rfl ?_
      refine zIald (f := a4) hx hb hK hP 1 0 rfl rfl 9 (by decide) (by decide) (by decide) dX8_passes_127 ?_
      refine lv_aload_n hx hb dX8_passes_128 rfl (lv_at hl 4 rfl) ?_
      refine va_get (D := G) (ci := 8) (v := .ref (b 1)) (C := RX8) (T := TX8) (N := 14) hx hb hts iX8 hown hK hP 0 rfl rfl 0 (by decide) k_7 (fun _ h9 => h9) rfl dX8_passes_129 ?_
      refine lv_bipush (v := 9) hx hb dX8_passes_132 (by decide) ?_
      refine zIald (f := a4) hx hb hK hP 1 0 rfl rfl 9 (by decide) (by decide) (by decide) dX8_passes_134 ?_
      refine lv_bipush (v := 48) hx hb dX8_passes_135 (by decide) ?_
      refine lv_icmp_ge (tgt := 144) hx hb dX8_passes_137 (by decide) (fun c137 => ?_) (fun c137 => ?_)
      · refine lv_iconst (v := 0) hx hb dX8_passes_144 (by decide) ?_
        refine lv_iadd hx hb dX8_passes_145 ?_
        refine zIast (f := a4) hx hb hK hP hD hS 1 0 rfl rfl 9 (by decide) (by decide) (by decide) dX8_passes_146 (fun H locs hP hD hS => ?_)
        have hP : va_P G vwCl (mk Z b ((upd a4 9 ((a4 9) + 0)), ke, hs, hq, sl, sa, (dOff (al 5) (al 6) (cBare al ht ar + al 7)), (dCar (al 6) (cBare al ht ar + al 7)), pa, pq, sp, nu, dn, er)) H := hP
        have hD : va_D A (mk Z b ((upd a4 9 ((a4 9) + 0)), ke, hs, hq, sl, sa, (dOff (al 5) (al 6) (cBare al ht ar + al 7)), (dCar (al 6) (cBare al ht ar + al 7)), pa, pq, sp, nu, dn, er)) := hD
        have hl48 : ¬ L < 48 := by
          rw [h9] at c137
          have := zLe (a := 48) c137 (by decide) (by omega)
          omega
        obtain ⟨a5, e_a5⟩ : ∃ f : Nat → Int32, f = (upd a4 9 ((a4 9) + 0)) := ⟨_, rfl⟩
        rw [← e_a5] at hP hD
        have g9 : a5 9 = nI (mLen L) := by
          rw [e_a5]
          show a4 9 + _ = _
          rw [h9, mLen, if_neg hl48]; exact Int32.add_zero _
        have hm1 : 1 ≤ mLen L := by unfold mLen; split <;> omega
        have hm2 := mLen_le hL8
        refine lv_bipush (v := 7) hx hb dX8_passes_147 (by decide) ?_
        refine lv_aload_n hx hb dX8_passes_149 rfl (lv_at hl 4 rfl) ?_
        refine va_get (D := G) (ci := 8) (v := .ref (b 1)) (C := RX8) (T := TX8) (N := 14) hx hb hts iX8 hown hK hP 0 rfl rfl 0 (by decide) k_7 (fun _ h9 => h9) rfl dX8_passes_150 ?_
        refine lv_bipush (v := 9) hx hb dX8_passes_153 (by decide) ?_
        refine zIald (f := a5) hx hb hK hP 1 0 rfl rfl 9 (by decide) (by decide) (by decide) dX8_passes_155 ?_
        refine lv_imul hx hb dX8_passes_156 ?_
        refine lv_iconst (v := 1) hx hb dX8_passes_157 (by decide) ?_
        refine lv_isub hx hb dX8_passes_158 ?_
        refine lv_istore (lv' := [(8, .int ((7 * (a5 9)) - 1)), (7, .int 0), (6, .int (dOff (al 5) (al 6) (cBare al ht ar + al 7))), (5, .int (al 7)), (4, .int (cBare al ht ar + al 7)), (0, .ref (b 0)), (1, .int ht), (2, .int ar), (3, .int rd)]) hx hb dX8_passes_159 hl (by decide) rfl (fun ls hl => ?_)
        rw [show 7 * (a5 9) - 1 = nI ((7 * mLen L - 7) + 6) from by
          rw [g9, show (7 : Int32) = nI 7 from rfl, pk_mul]
          have hm3 : 7 * mLen L = ((7 * mLen L - 7) + 6) + 1 := by omega
          exact (congrArg (fun t => nI t - 1) hm3).trans (nI_pred _)] at hl
        rw [← mSh_0 a5 (lo := 17 + (7 * mLen L - 7)) (hi := 11 + 7 * mLen L) (by omega)] at hP hD
        refine zLoop (σ := Nat) (nL := 9) (fun zx => mk Z b ((mSh a5 (17 + zx) (11 + 7 * mLen L)), ke, hs, hq, sl, sa, (dOff (al 5) (al 6) (cBare al ht ar + al 7)), (dCar (al 6) (cBare al ht ar + al 7)), pa, pq, sp, nu, dn, er)) (fun zx => [(8, .int (nI (zx + 6))), (7, .int 0), (6, .int (dOff (al 5) (al 6) (cBare al ht ar + al 7))), (5, .int (al 7)), (4, .int (cBare al ht ar + al 7)), (0, .ref (b 0)), (1, .int ht), (2, .int ar), (3, .int rd)]) (fun zx => zx ≤ 7 * mLen L - 7) (fun zx => zx) ?_ (7 * mLen L - 7) (by
            try dsimp only
            omega) hP hD hS (lv_sub hl [0, 1, 2, 3, 4, 5, 6, 7, 8] rfl)
        intro zx hinv161 ih161 H locs ls hP hD hS hl
        obtain ⟨k, rfl⟩ : ∃ z, z = zx := ⟨_, rfl⟩
        try dsimp only at hinv161 ih161
        have hP : va_P G vwCl (mk Z b ((mSh a5 (17 + k) (11 + 7 * mLen L)), ke, hs, hq, sl, sa, (dOff (al 5) (al 6) (cBare al ht ar + al 7)), (dCar (al 6) (cBare al ht ar + al 7)), pa, pq, sp, nu, dn, er)) H := hP
        have hD : va_D A (mk Z b ((mSh a5 (17 + k) (11 + 7 * mLen L)), ke, hs, hq, sl, sa, (dOff (al 5) (al 6) (cBare al ht ar + al 7)), (dCar (al 6) (cBare al ht ar + al 7)), pa, pq, sp, nu, dn, er)) := hD
        have hl : lv_has ls 9 [(8, .int (nI (k + 6))), (7, .int 0), (6, .int (dOff (al 5) (al 6) (cBare al ht ar + al 7))), (5, .int (al 7)), (4, .int (cBare al ht ar + al 7)), (0, .ref (b 0)), (1, .int ht), (2, .int ar), (3, .int rd)] := hl
        refine lv_iload hx hb dX8_passes_161 (lv_at hl 0 rfl) ?_
        refine lv_bipush (v := 7) hx hb dX8_passes_163 (by decide) ?_
        refine lv_icmp_lt (tgt := 197) hx hb dX8_passes_165 (by decide) (fun c165 => ?_) (fun c165 => ?_)
        · have hk := zLt (b := 7) c165 (by omega) (by omega)
          obtain rfl : k = 0 := by omega
          refine lv_aload_n hx hb dX8_passes_197 rfl (lv_at hl 5 rfl) ?_
          refine va_get (D := G) (ci := 8) (v := .ref (b 1)) (C := RX8) (T := TX8) (N := 14) hx hb hts iX8 hown hK hP 0 rfl rfl 0 (by decide) k_7 (fun _ h9 => h9) rfl dX8_passes_198 ?_
          refine lv_bipush (v := 11) hx hb dX8_passes_201 (by decide) ?_
          refine lv_iload_n hx hb dX8_passes_203 rfl (lv_at hl 6 rfl) ?_
          refine zIast (f := (mSh a5 (17 + 0) (11 + 7 * mLen L))) hx hb hK hP hD hS 1 0 rfl rfl 11 (by decide) (by decide) (by decide) dX8_passes_204 (fun H locs hP hD hS => ?_)
          have hP : va_P G vwCl (mk Z b ((upd (mSh a5 (17 + 0) (11 + 7 * mLen L)) 11 ht), ke, hs, hq, sl, sa, (dOff (al 5) (al 6) (cBare al ht ar + al 7)), (dCar (al 6) (cBare al ht ar + al 7)), pa, pq, sp, nu, dn, er)) H := hP
          have hD : va_D A (mk Z b ((upd (mSh a5 (17 + 0) (11 + 7 * mLen L)) 11 ht), ke, hs, hq, sl, sa, (dOff (al 5) (al 6) (cBare al ht ar + al 7)), (dCar (al 6) (cBare al ht ar + al 7)), pa, pq, sp, nu, dn, er)) := hD
          refine lv_aload_n hx hb dX8_passes_205 rfl (lv_at hl 5 rfl) ?_
          refine va_get (D := G) (ci := 8) (v := .ref (b 1)) (C := RX8) (T := TX8) (N := 14) hx hb hts iX8 hown hK hP 0 rfl rfl 0 (by decide) k_7 (fun _ h9 => h9) rfl dX8_passes_206 ?_
          refine lv_bipush (v := 12) hx hb dX8_passes_209 (by decide) ?_
          refine lv_iload_n hx hb dX8_passes_211 rfl (lv_at hl 7 rfl) ?_
          refine zIast (f := (upd (mSh a5 (17 + 0) (11 + 7 * mLen L)) 11 ht)) hx hb hK hP hD hS 1 0 rfl rfl 12 (by decide) (by decide) (by decide) dX8_passes_212 (fun H locs hP hD hS => ?_)
          have hP : va_P G vwCl (mk Z b ((upd (upd (mSh a5 (17 + 0) (11 + 7 * mLen L)) 11 ht) 12 ar), ke, hs, hq, sl, sa, (dOff (al 5) (al 6) (cBare al ht ar + al 7)), (dCar (al 6) (cBare al ht ar + al 7)), pa, pq, sp, nu, dn, er)) H := hP
          have hD : va_D A (mk Z b ((upd (upd (mSh a5 (17 + 0) (11 + 7 * mLen L)) 11 ht) 12 ar), ke, hs, hq, sl, sa, (dOff (al 5) (al 6) (cBare al ht ar + al 7)), (dCar (al 6) (cBare al ht ar + al 7)), pa, pq, sp, nu, dn, er)) := hD
          refine lv_aload_n hx hb dX8_passes_213 rfl (lv_at hl 5 rfl) ?_
          refine va_get (D := G) (ci := 8) (v := .ref (b 1)) (C := RX8) (T := TX8) (N := 14) hx hb hts iX8 hown hK hP 0 rfl rfl 0 (by decide) k_7 (fun _ h9 => h9) rfl dX8_passes_214 ?_
          refine lv_bipush (v := 13) hx hb dX8_passes_217 (by decide) ?_
          refine lv_iload_n hx hb dX8_passes_219 rfl (lv_at hl 8 rfl) ?_
          refine zIast (f := (upd (upd (mSh a5 (17 + 0) (11 + 7 * mLen L)) 11 ht) 12 ar)) hx hb hK hP hD hS 1 0 rfl rfl 13 (by decide) (by decide) (by decide) dX8_passes_220 (fun H locs hP hD hS => ?_)
          have hP : va_P G vwCl (mk Z b ((upd (upd (upd (mSh a5 (17 + 0) (11 + 7 * mLen L)) 11 ht) 12 ar) 13 rd), ke, hs, hq, sl, sa, (dOff (al 5) (al 6) (cBare al ht ar + al 7)), (dCar (al 6) (cBare al ht ar + al 7)), pa, pq, sp, nu, dn, er)) H := hP
          have hD : va_D A (mk Z b ((upd (upd (upd (mSh a5 (17 + 0) (11 + 7 * mLen L)) 11 ht) 12 ar) 13 rd), ke, hs, hq, sl, sa, (dOff (al 5) (al 6) (cBare al ht ar + al 7)), (dCar (al 6) (cBare al ht ar + al 7)), pa, pq, sp, nu, dn, er)) := hD
          refine lv_aload_n hx hb dX8_passes_221 rfl (lv_at hl 5 rfl) ?_
          refine va_get (D := G) (ci := 8) (v := .ref (b 1)) (C := RX8) (T := TX8) (N := 14) hx hb hts iX8 hown hK hP 0 rfl rfl 0 (by decide) k_7 (fun _ h9 => h9) rfl dX8_passes_222 ?_
          refine lv_bipush (v := 14) hx hb dX8_passes_225 (by decide) ?_
          refine lv_iload hx hb dX8_passes_227 (lv_at hl 4 rfl) ?_
          refine zIast (f := (upd (upd (upd (mSh a5 (17 + 0) (11 + 7 * mLen L)) 11 ht) 12 ar) 13 rd)) hx hb hK hP hD hS 1 0 rfl rfl 14 (by decide) (by decide) (by decide) dX8_passes_229 (fun H locs hP hD hS => ?_)
          have hP : va_P G vwCl (mk Z b ((upd (upd (upd (upd (mSh a5 (17 + 0) (11 + 7 * mLen L)) 11 ht) 12 ar) 13 rd) 14 (cBare al ht ar + al 7)), ke, hs, hq, sl, sa, (dOff (al 5) (al 6) (cBare al ht ar + al 7)), (dCar (al 6) (cBare al ht ar + al 7)), pa, pq, sp, nu, dn, er)) H := hP
          have hD : va_D A (mk Z b ((upd (upd (upd (upd (mSh a5 (17 + 0) (11 + 7 * mLen L)) 11 ht) 12 ar) 13 rd) 14 (cBare al ht ar + al 7)), ke, hs, hq, sl, sa, (dOff (al 5) (al 6) (cBare al ht ar + al 7)), (dCar (al 6) (cBare al ht ar + al 7)), pa, pq, sp, nu, dn, er)) := hD
          refine lv_aload_n hx hb dX8_passes_230 rfl (lv_at hl 5 rfl) ?_
          refine va_get (D := G) (ci := 8) (v := .ref (b 1)) (C := RX8) (T := TX8) (N := 14) hx hb hts iX8 hown hK hP 0 rfl rfl 0 (by decide) k_7 (fun _ h9 => h9) rfl dX8_passes_231 ?_
          refine lv_bipush (v := 15) hx hb dX8_passes_234 (by decide) ?_
          refine lv_iload hx hb dX8_passes_236 (lv_at hl 2 rfl) ?_
          refine zIast (f := (upd (upd (upd (upd (mSh a5 (17 + 0) (11 + 7 * mLen L)) 11 ht) 12 ar) 13 rd) 14 (cBare al ht ar + al 7))) hx hb hK hP hD hS 1 0 rfl rfl 15 (by decide) (by decide) (by decide) dX8_passes_238 (fun H locs hP hD hS => ?_)
          have hP : va_P G vwCl (mk Z b ((upd (upd (upd (upd (upd (mSh a5 (17 + 0) (11 + 7 * mLen L)) 11 ht) 12 ar) 13 rd) 14 (cBare al ht ar + al 7)) 15 (dOff (al 5) (al 6) (cBare al ht ar + al 7))), ke, hs, hq, sl, sa, (dOff (al 5) (al 6) (cBare al ht ar + al 7)), (dCar (al 6) (cBare al ht ar + al 7)), pa, pq, sp, nu, dn, er)) H := hP
          have hD : va_D A (mk Z b ((upd (upd (upd (upd (upd (mSh a5 (17 + 0) (11 + 7 * mLen L)) 11 ht) 12 ar) 13 rd) 14 (cBare al ht ar + al 7)) 15 (dOff (al 5) (al 6) (cBare al ht ar + al 7))), ke, hs, hq, sl, sa, (dOff (al 5) (al 6) (cBare al ht ar + al 7)), (dCar (al 6) (cBare al ht ar + al 7)), pa, pq, sp, nu, dn, er)) := hD
          refine lv_aload_n hx hb dX8_passes_239 rfl (lv_at hl 5 rfl) ?_
          refine va_get (D := G) (ci := 8) (v := .ref (b 1)) (C := RX8) (T := TX8) (N := 14) hx hb hts iX8 hown hK hP 0 rfl rfl 0 (by decide) k_7 (fun _ h9 => h9) rfl dX8_passes_240 ?_
          refine lv_bipush (v := 16) hx hb dX8_passes_243 (by decide) ?_
          refine lv_iload hx hb dX8_passes_245 (lv_at hl 1 rfl) ?_
          refine lv_if_eq (tgt := 254) hx hb dX8_passes_247 (by decide) (fun _ => ?_) (fun c247 => absurd (by decide) c247)
          refine lv_iconst (v := 0) hx hb dX8_passes_254 (by decide) ?_
          refine zIast (f := (upd (upd (upd (upd (upd (mSh a5 (17 + 0) (11 + 7 * mLen L)) 11 ht) 12 ar) 13 rd) 14 (cBare al ht ar + al 7)) 15 (dOff (al 5) (al 6) (cBare al ht ar + al 7)))) hx hb hK hP hD hS 1 0 rfl rfl 16 (by decide) (by decide) (by decide) dX8_passes_255 (fun H locs hP hD hS => ?_)
          have hP : va_P G vwCl (mk Z b ((upd (upd (upd (upd (upd (upd (mSh a5 (17 + 0) (11 + 7 * mLen L)) 11 ht) 12 ar) 13 rd) 14 (cBare al ht ar + al 7)) 15 (dOff (al 5) (al 6) (cBare al ht ar + al 7))) 16 0), ke, hs, hq, sl, sa, (dOff (al 5) (al 6) (cBare al ht ar + al 7)), (dCar (al 6) (cBare al ht ar + al 7)), pa, pq, sp, nu, dn, er)) H := hP
          have hD : va_D A (mk Z b ((upd (upd (upd (upd (upd (upd (mSh a5 (17 + 0) (11 + 7 * mLen L)) 11 ht) 12 ar) 13 rd) 14 (cBare al ht ar + al 7)) 15 (dOff (al 5) (al 6) (cBare al ht ar + al 7))) 16 0), ke, hs, hq, sl, sa, (dOff (al 5) (al 6) (cBare al ht ar + al 7)), (dCar (al 6) (cBare al ht ar + al 7)), pa, pq, sp, nu, dn, er)) := hD
          refine lv_aload_n hx hb dX8_passes_256 rfl (lv_at hl 5 rfl) ?_
          refine va_get (D := G) (ci := 8) (v := .ref (b 1)) (C := RX8) (T := TX8) (N := 14) hx hb hts iX8 hown hK hP 0 rfl rfl 0 (by decide) k_7 (fun _ h9 => h9) rfl dX8_passes_257 ?_
          refine lv_bipush (v := 17) hx hb dX8_passes_260 (by decide) ?_
          refine lv_iload hx hb dX8_passes_262 (lv_at hl 3 rfl) ?_
          refine zIast (f := (upd (upd (upd (upd (upd (upd (mSh a5 (17 + 0) (11 + 7 * mLen L)) 11 ht) 12 ar) 13 rd) 14 (cBare al ht ar + al 7)) 15 (dOff (al 5) (al 6) (cBare al ht ar + al 7))) 16 0)) hx hb hK hP hD hS 1 0 rfl rfl 17 (by decide) (by decide) (by decide) dX8_passes_264 (fun H locs hP hD hS => ?_)
          have hP : va_P G vwCl (mk Z b ((upd (upd (upd (upd (upd (upd (upd (mSh a5 (17 + 0) (11 + 7 * mLen L)) 11 ht) 12 ar) 13 rd) 14 (cBare al ht ar + al 7)) 15 (dOff (al 5) (al 6) (cBare al ht ar + al 7))) 16 0) 17 (al 7)), ke, hs, hq, sl, sa, (dOff (al 5) (al 6) (cBare al ht ar + al 7)), (dCar (al 6) (cBare al ht ar + al 7)), pa, pq, sp, nu, dn, er)) H := hP
          have hD : va_D A (mk Z b ((upd (upd (upd (upd (upd (upd (upd (mSh a5 (17 + 0) (11 + 7 * mLen L)) 11 ht) 12 ar) 13 rd) 14 (cBare al ht ar + al 7)) 15 (dOff (al 5) (al 6) (cBare al ht ar + al 7))) 16 0) 17 (al 7)), ke, hs, hq, sl, sa, (dOff (al 5) (al 6) (cBare al ht ar + al 7)), (dCar (al 6) (cBare al ht ar + al 7)), pa, pq, sp, nu, dn, er)) := hD
          refine lv_iload hx hb dX8_passes_265 (lv_at hl 1 rfl) ?_
          exact W.zret hx hb hr (rfl) (zEi ((upd (upd (upd (upd (upd (upd (upd (mSh a5 (17 + 0) (11 + 7 * mLen L)) 11 ht) 12 ar) 13 rd) 14 (cBare al ht ar + al 7)) 15 (dOff (al 5) (al 6) (cBare al ht ar + al 7))) 16 0) 17 (al 7)), (dOff (al 5) (al 6) (cBare al ht ar + al 7)), (dCar (al 6) (cBare al ht ar + al 7))) (by
              rw [e_a5, e_a4]
              simp only [mGo, mIs, mFacts, mTop, hl48, z10, eq_true c52, eq_true c59, c137, Int32.not_lt.mpr c137, c165, Int32.not_le.mpr c165, ↓reduceIte, and_self]) hP hD hS) hS.2.2 dX8_passes_267
        · obtain ⟨k, rfl⟩ : ∃ j, k = j + 1 := ⟨k - 1, by
            have := zNlt (b := 7) c165 (by omega) (by omega)
            omega⟩
          refine lv_aload_n hx hb dX8_passes_168 rfl (lv_at hl 5 rfl) ?_
          refine va_get (D := G) (ci := 8) (v := .ref (b 1)) (C := RX8) (T := TX8) (N := 14) hx hb hts iX8 hown hK hP 0 rfl rfl 0 (by decide) k_7 (fun _ h9 => h9) rfl dX8_passes_169 ?_
          refine lv_bipush (v := 11) hx hb dX8_passes_172 (by decide) ?_
          refine lv_iload hx hb dX8_passes_174 (lv_at hl 0 rfl) ?_
          refine lv_iadd hx hb dX8_passes_176 ?_
          refine lv_aload_n hx hb dX8_passes_177 rfl (lv_at hl 5 rfl) ?_
          refine va_get (D := G) (ci := 8) (v := .ref (b 1)) (C := RX8) (T := TX8) (N := 14) hx hb hts iX8 hown hK hP 0 rfl rfl 0 (by decide) k_7 (fun _ h9 => h9) rfl dX8_passes_178 ?_
          refine lv_bipush (v := 11) hx hb dX8_passes_181 (by decide) ?_
          refine lv_iload hx hb dX8_passes_183 (lv_at hl 0 rfl) ?_
          refine lv_iadd hx hb dX8_passes_185 ?_
          refine lv_bipush (v := 7) hx hb dX8_passes_186 (by decide) ?_
          refine lv_isub hx hb dX8_passes_188 ?_
          refine zIald (f := (mSh a5 (17 + (k + 1)) (11 + 7 * mLen L))) hx hb hK hP 1 0 rfl rfl (11 + k) (by rw [show (11 : Int32) = nI 11 from rfl, nI_add, show (7 : Int32) = nI 7 from rfl, pk_sub (by omega)]; exact congrArg nI (by omega)) (by omega) (by decide) dX8_passes_189 ?_
          refine zIast (f := (mSh a5 (17 + (k + 1)) (11 + 7 * mLen L))) hx hb hK hP hD hS 1 0 rfl rfl (18 + k) (by rw [show (11 : Int32) = nI 11 from rfl, nI_add]; congr 1; omega) (by omega) (by decide) dX8_passes_190 (fun H locs hP hD hS => ?_)
          have hP : va_P G vwCl (mk Z b ((upd (mSh a5 (17 + (k + 1)) (11 + 7 * mLen L)) (18 + k) ((mSh a5 (17 + (k + 1)) (11 + 7 * mLen L)) (11 + k))), ke, hs, hq, sl, sa, (dOff (al 5) (al 6) (cBare al ht ar + al 7)), (dCar (al 6) (cBare al ht ar + al 7)), pa, pq, sp, nu, dn, er)) H := hP
          have hD : va_D A (mk Z b ((upd (mSh a5 (17 + (k + 1)) (11 + 7 * mLen L)) (18 + k) ((mSh a5 (17 + (k + 1)) (11 + 7 * mLen L)) (11 + k))), ke, hs, hq, sl, sa, (dOff (al 5) (al 6) (cBare al ht ar + al 7)), (dCar (al 6) (cBare al ht ar + al 7)), pa, pq, sp, nu, dn, er)) := hD
          refine lv_iinc (v := ((nI ((k + 1) + 6)) + (-1))) (lv' := [(8, .int ((nI ((k + 1) + 6)) + (-1))), (7, .int 0), (6, .int (dOff (al 5) (al 6) (cBare al ht ar + al 7))), (5, .int (al 7)), (4, .int (cBare al ht ar + al 7)), (0, .ref (b 0)), (1, .int ht), (2, .int ar), (3, .int rd)]) hx hb dX8_passes_191 hl (k := 0) rfl rfl (by decide) rfl (fun ls hl => ?_)
          refine lv_goto (tgt := 161) hx hb dX8_passes_194 (by decide) ?_
          rw [show nI (k + 1 + 6) + (-1) = nI (k + 6) from pk_m1 (k + 6)] at hl
          have hz : upd (mSh a5 (17 + (k + 1)) (11 + 7 * mLen L)) (18 + k) (mSh a5 (17 + (k + 1)) (11 + 7 * mLen L) (11 + k)) = mSh a5 (17 + k) (11 + 7 * mLen L) := by
            have h := mSh_s a5 (k := k) (hi := 11 + 7 * mLen L) (by omega)
            rw [show 17 + (k + 1) = 18 + k by omega]
            exact h
          rw [hz] at hP hD
          exact ih161 k (by
              try dsimp only
              omega) (by
              try dsimp only
              omega) _ _ _ hP hD hS (lv_sub hl [0, 1, 2, 3, 4, 5, 6, 7, 8] rfl)
      · refine lv_iconst (v := 1) hx hb dX8_passes_140 (by decide) ?_
        refine lv_goto (tgt := 145) hx hb dX8_passes_141 (by decide) ?_
        refine lv_iadd hx hb dX8_passes_145 ?_
        refine zIast (f := a4) hx hb hK hP hD hS 1 0 rfl rfl 9 (by decide) (by decide) (by decide) dX8_passes_146 (fun H locs hP hD hS => ?_)
        have hP : va_P G vwCl (mk Z b ((upd a4 9 ((a4 9) + 1)), ke, hs, hq, sl, sa, (dOff (al 5) (al 6) (cBare al ht ar + al 7)), (dCar (al 6) (cBare al ht ar + al 7)), pa, pq, sp, nu, dn, er)) H := hP
        have hD : va_D A (mk Z b ((upd a4 9 ((a4 9) + 1)), ke, hs, hq, sl, sa, (dOff (al 5) (al 6) (cBare al ht ar + al 7)), (dCar (al 6) (cBare al ht ar + al 7)), pa, pq, sp, nu, dn, er)) := hD
        have hl48 : L < 48 := by rw [h9] at c137; exact zNle (a := 48) c137 (by decide) (by omega)
        obtain ⟨a5, e_a5⟩ : ∃ f : Nat → Int32, f = (upd a4 9 ((a4 9) + 1)) := ⟨_, rfl⟩
        rw [← e_a5] at hP hD
        have g9 : a5 9 = nI (mLen L) := by
          rw [e_a5]
          show a4 9 + _ = _
          rw [h9, mLen, if_pos hl48]; exact (nI_succ L).symm
        have hm1 : 1 ≤ mLen L := by unfold mLen; split <;> omega
        have hm2 := mLen_le hL8
        refine lv_bipush (v := 7) hx hb dX8_passes_147 (by decide) ?_
        refine lv_aload_n hx hb dX8_passes_149 rfl (lv_at hl 4 rfl) ?_
        refine va_get (D := G) (ci := 8) (v := .ref (b 1)) (C := RX8) (T := TX8) (N := 14) hx hb hts iX8 hown hK hP 0 rfl rfl 0 (by decide) k_7 (fun _ h9 => h9) rfl dX8_passes_150 ?_
        refine lv_bipush (v := 9) hx hb dX8_passes_153 (by decide) ?_
        refine zIald (f := a5) hx hb hK hP 1 0 rfl rfl 9 (by decide) (by decide) (by decide) dX8_passes_155 ?_
        refine lv_imul hx hb dX8_passes_156 ?_
        refine lv_iconst (v := 1) hx hb dX8_passes_157 (by decide) ?_
        refine lv_isub hx hb dX8_passes_158 ?_
        refine lv_istore (lv' := [(8, .int ((7 * (a5 9)) - 1)), (7, .int 0), (6, .int (dOff (al 5) (al 6) (cBare al ht ar + al 7))), (5, .int (al 7)), (4, .int (cBare al ht ar + al 7)), (0, .ref (b 0)), (1, .int ht), (2, .int ar), (3, .int rd)]) hx hb dX8_passes_159 hl (by decide) rfl (fun ls hl => ?_)
        rw [show 7 * (a5 9) - 1 = nI ((7 * mLen L - 7) + 6) from by
          rw [g9, show (7 : Int32) = nI 7 from rfl, pk_mul]
          have hm3 : 7 * mLen L = ((7 * mLen L - 7) + 6) + 1 := by omega
          exact (congrArg (fun t => nI t - 1) hm3).trans (nI_pred _)] at hl
        rw [← mSh_0 a5 (lo := 17 + (7 * mLen L - 7)) (hi := 11 + 7 * mLen L) (by omega)] at hP hD
        refine zLoop (σ := Nat) (nL := 9) (fun zx => mk Z b ((mSh a5 (17 + zx) (11 + 7 * mLen L)), ke, hs, hq, sl, sa, (dOff (al 5) (al 6) (cBare al ht ar + al 7)), (dCar (al 6) (cBare al ht ar + al 7)), pa, pq, sp, nu, dn, er)) (fun zx => [(8, .int (nI (zx + 6))), (7, .int 0), (6, .int (dOff (al 5) (al 6) (cBare al ht ar + al 7))), (5, .int (al 7)), (4, .int (cBare al ht ar + al 7)), (0, .ref (b 0)), (1, .int ht), (2, .int ar), (3, .int rd)]) (fun zx => zx ≤ 7 * mLen L - 7) (fun zx => zx) ?_ (7 * mLen L - 7) (by
            try dsimp only
            omega) hP hD hS (lv_sub hl [0, 1, 2, 3, 4, 5, 6, 7, 8] rfl)
        intro zx hinv161 ih161 H locs ls hP hD hS hl
        obtain ⟨k, rfl⟩ : ∃ z, z = zx := ⟨_, rfl⟩
        try dsimp only at hinv161 ih161
        have hP : va_P G vwCl (mk Z b ((mSh a5 (17 + k) (11 + 7 * mLen L)), ke, hs, hq, sl, sa, (dOff (al 5) (al 6) (cBare al ht ar + al 7)), (dCar (al 6) (cBare al ht ar + al 7)), pa, pq, sp, nu, dn, er)) H := hP
        have hD : va_D A (mk Z b ((mSh a5 (17 + k) (11 + 7 * mLen L)), ke, hs, hq, sl, sa, (dOff (al 5) (al 6) (cBare al ht ar + al 7)), (dCar (al 6) (cBare al ht ar + al 7)), pa, pq, sp, nu, dn, er)) := hD
        have hl : lv_has ls 9 [(8, .int (nI (k + 6))), (7, .int 0), (6, .int (dOff (al 5) (al 6) (cBare al ht ar + al 7))), (5, .int (al 7)), (4, .int (cBare al ht ar + al 7)), (0, .ref (b 0)), (1, .int ht), (2, .int ar), (3, .int rd)] := hl
        refine lv_iload hx hb dX8_passes_161 (lv_at hl 0 rfl) ?_
        refine lv_bipush (v := 7) hx hb dX8_passes_163 (by decide) ?_
        refine lv_icmp_lt (tgt := 197) hx hb dX8_passes_165 (by decide) (fun c165 => ?_) (fun c165 => ?_)
        · have hk := zLt (b := 7) c165 (by omega) (by omega)
          obtain rfl : k = 0 := by omega
          refine lv_aload_n hx hb dX8_passes_197 rfl (lv_at hl 5 rfl) ?_
          refine va_get (D := G) (ci := 8) (v := .ref (b 1)) (C := RX8) (T := TX8) (N := 14) hx hb hts iX8 hown hK hP 0 rfl rfl 0 (by decide) k_7 (fun _ h9 => h9) rfl dX8_passes_198 ?_
          refine lv_bipush (v := 11) hx hb dX8_passes_201 (by decide) ?_
          refine lv_iload_n hx hb dX8_passes_203 rfl (lv_at hl 6 rfl) ?_
          refine zIast (f := (mSh a5 (17 + 0) (11 + 7 * mLen L))) hx hb hK hP hD hS 1 0 rfl rfl 11 (by decide) (by decide) (by decide) dX8_passes_204 (fun H locs hP hD hS => ?_)
          have hP : va_P G vwCl (mk Z b ((upd (mSh a5 (17 + 0) (11 + 7 * mLen L)) 11 ht), ke, hs, hq, sl, sa, (dOff (al 5) (al 6) (cBare al ht ar + al 7)), (dCar (al 6) (cBare al ht ar + al 7)), pa, pq, sp, nu, dn, er)) H := hP
          have hD : va_D A (mk Z b ((upd (mSh a5 (17 + 0) (11 + 7 * mLen L)) 11 ht), ke, hs, hq, sl, sa, (dOff (al 5) (al 6) (cBare al ht ar + al 7)), (dCar (al 6) (cBare al ht ar + al 7)), pa, pq, sp, nu, dn, er)) := hD
          refine lv_aload_n hx hb dX8_passes_205 rfl (lv_at hl 5 rfl) ?_
          refine va_get (D := G) (ci := 8) (v := .ref (b 1)) (C := RX8) (T := TX8) (N := 14) hx hb hts iX8 hown hK hP 0 rfl rfl 0 (by decide) k_7 (fun _ h9 => h9) rfl dX8_passes_206 ?_
          refine lv_bipush (v := 12) hx hb dX8_passes_209 (by decide) ?_
          refine lv_iload_n hx hb dX8_passes_211 rfl (lv_at hl 7 rfl) ?_
          refine zIast (f := (upd (mSh a5 (17 + 0) (11 + 7 * mLen L)) 11 ht)) hx hb hK hP hD hS 1 0 rfl rfl 12 (by decide) (by decide) (by decide) dX8_passes_212 (fun H locs hP hD hS => ?_)
          have hP : va_P G vwCl (mk Z b ((upd (upd (mSh a5 (17 + 0) (11 + 7 * mLen L)) 11 ht) 12 ar), ke, hs, hq, sl, sa, (dOff (al 5) (al 6) (cBare al ht ar + al 7)), (dCar (al 6) (cBare al ht ar + al 7)), pa, pq, sp, nu, dn, er)) H := hP
          have hD : va_D A (mk Z b ((upd (upd (mSh a5 (17 + 0) (11 + 7 * mLen L)) 11 ht) 12 ar), ke, hs, hq, sl, sa, (dOff (al 5) (al 6) (cBare al ht ar + al 7)), (dCar (al 6) (cBare al ht ar + al 7)), pa, pq, sp, nu, dn, er)) := hD
          refine lv_aload_n hx hb dX8_passes_213 rfl (lv_at hl 5 rfl) ?_
          refine va_get (D := G) (ci := 8) (v := .ref (b 1)) (C := RX8) (T := TX8) (N := 14) hx hb hts iX8 hown hK hP 0 rfl rfl 0 (by decide) k_7 (fun _ h9 => h9) rfl dX8_passes_214 ?_
          refine lv_bipush (v := 13) hx hb dX8_passes_217 (by decide) ?_
          refine lv_iload_n hx hb dX8_passes_219 rfl (lv_at hl 8 rfl) ?_
          refine zIast (f := (upd (upd (mSh a5 (17 + 0) (11 + 7 * mLen L)) 11 ht) 12 ar)) hx hb hK hP hD hS 1 0 rfl rfl 13 (by decide) (by decide) (by decide) dX8_passes_220 (fun H locs hP hD hS => ?_)
          have hP : va_P G vwCl (mk Z b ((upd (upd (upd (mSh a5 (17 + 0) (11 + 7 * mLen L)) 11 ht) 12 ar) 13 rd), ke, hs, hq, sl, sa, (dOff (al 5) (al 6) (cBare al ht ar + al 7)), (dCar (al 6) (cBare al ht ar + al 7)), pa, pq, sp, nu, dn, er)) H := hP
          have hD : va_D A (mk Z b ((upd (upd (upd (mSh a5 (17 + 0) (11 + 7 * mLen L)) 11 ht) 12 ar) 13 rd), ke, hs, hq, sl, sa, (dOff (al 5) (al 6) (cBare al ht ar + al 7)), (dCar (al 6) (cBare al ht ar + al 7)), pa, pq, sp, nu, dn, er)) := hD
          refine lv_aload_n hx hb dX8_passes_221 rfl (lv_at hl 5 rfl) ?_
          refine va_get (D := G) (ci := 8) (v := .ref (b 1)) (C := RX8) (T := TX8) (N := 14) hx hb hts iX8 hown hK hP 0 rfl rfl 0 (by decide) k_7 (fun _ h9 => h9) rfl dX8_passes_222 ?_
          refine lv_bipush (v := 14) hx hb dX8_passes_225 (by decide) ?_
          refine lv_iload hx hb dX8_passes_227 (lv_at hl 4 rfl) ?_
          refine zIast (f := (upd (upd (upd (mSh a5 (17 + 0) (11 + 7 * mLen L)) 11 ht) 12 ar) 13 rd)) hx hb hK hP hD hS 1 0 rfl rfl 14 (by decide) (by decide) (by decide) dX8_passes_229 (fun H locs hP hD hS => ?_)
          have hP : va_P G vwCl (mk Z b ((upd (upd (upd (upd (mSh a5 (17 + 0) (11 + 7 * mLen L)) 11 ht) 12 ar) 13 rd) 14 (cBare al ht ar + al 7)), ke, hs, hq, sl, sa, (dOff (al 5) (al 6) (cBare al ht ar + al 7)), (dCar (al 6) (cBare al ht ar + al 7)), pa, pq, sp, nu, dn, er)) H := hP
          have hD : va_D A (mk Z b ((upd (upd (upd (upd (mSh a5 (17 + 0) (11 + 7 * mLen L)) 11 ht) 12 ar) 13 rd) 14 (cBare al ht ar + al 7)), ke, hs, hq, sl, sa, (dOff (al 5) (al 6) (cBare al ht ar + al 7)), (dCar (al 6) (cBare al ht ar + al 7)), pa, pq, sp, nu, dn, er)) := hD
          refine lv_aload_n hx hb dX8_passes_230 rfl (lv_at hl 5 rfl) ?_
          refine va_get (D := G) (ci := 8) (v := .ref (b 1)) (C := RX8) (T := TX8) (N := 14) hx hb hts iX8 hown hK hP 0 rfl rfl 0 (by decide) k_7 (fun _ h9 => h9) rfl dX8_passes_231 ?_
          refine lv_bipush (v := 15) hx hb dX8_passes_234 (by decide) ?_
          refine lv_iload hx hb dX8_passes_236 (lv_at hl 2 rfl) ?_
          refine zIast (f := (upd (upd (upd (upd (mSh a5 (17 + 0) (11 + 7 * mLen L)) 11 ht) 12 ar) 13 rd) 14 (cBare al ht ar + al 7))) hx hb hK hP hD hS 1 0 rfl rfl 15 (by decide) (by decide) (by decide) dX8_passes_238 (fun H locs hP hD hS => ?_)
          have hP : va_P G vwCl (mk Z b ((upd (upd (upd (upd (upd (mSh a5 (17 + 0) (11 + 7 * mLen L)) 11 ht) 12 ar) 13 rd) 14 (cBare al ht ar + al 7)) 15 (dOff (al 5) (al 6) (cBare al ht ar + al 7))), ke, hs, hq, sl, sa, (dOff (al 5) (al 6) (cBare al ht ar + al 7)), (dCar (al 6) (cBare al ht ar + al 7)), pa, pq, sp, nu, dn, er)) H := hP
          have hD : va_D A (mk Z b ((upd (upd (upd (upd (upd (mSh a5 (17 + 0) (11 + 7 * mLen L)) 11 ht) 12 ar) 13 rd) 14 (cBare al ht ar + al 7)) 15 (dOff (al 5) (al 6) (cBare al ht ar + al 7))), ke, hs, hq, sl, sa, (dOff (al 5) (al 6) (cBare al ht ar + al 7)), (dCar (al 6) (cBare al ht ar + al 7)), pa, pq, sp, nu, dn, er)) := hD
          refine lv_aload_n hx hb dX8_passes_239 rfl (lv_at hl 5 rfl) ?_
          refine va_get (D := G) (ci := 8) (v := .ref (b 1)) (C := RX8) (T := TX8) (N := 14) hx hb hts iX8 hown hK hP 0 rfl rfl 0 (by decide) k_7 (fun _ h9 => h9) rfl dX8_passes_240 ?_
          refine lv_bipush (v := 16) hx hb dX8_passes_243 (by decide) ?_
          refine lv_iload hx hb dX8_passes_245 (lv_at hl 1 rfl) ?_
          refine lv_if_eq (tgt := 254) hx hb dX8_passes_247 (by decide) (fun _ => ?_) (fun c247 => absurd (by decide) c247)
          refine lv_iconst (v := 0) hx hb dX8_passes_254 (by decide) ?_
          refine zIast (f := (upd (upd (upd (upd (upd (mSh a5 (17 + 0) (11 + 7 * mLen L)) 11 ht) 12 ar) 13 rd) 14 (cBare al ht ar + al 7)) 15 (dOff (al 5) (al 6) (cBare al ht ar + al 7)))) hx hb hK hP hD hS 1 0 rfl rfl 16 (by decide) (by decide) (by decide) dX8_passes_255 (fun H locs hP hD hS => ?_)
          have hP : va_P G vwCl (mk Z b ((upd (upd (upd (upd (upd (upd (mSh a5 (17 + 0) (11 + 7 * mLen L)) 11 ht) 12 ar) 13 rd) 14 (cBare al ht ar + al 7)) 15 (dOff (al 5) (al 6) (cBare al ht ar + al 7))) 16 0), ke, hs, hq, sl, sa, (dOff (al 5) (al 6) (cBare al ht ar + al 7)), (dCar (al 6) (cBare al ht ar + al 7)), pa, pq, sp, nu, dn, er)) H := hP
          have hD : va_D A (mk Z b ((upd (upd (upd (upd (upd (upd (mSh a5 (17 + 0) (11 + 7 * mLen L)) 11 ht) 12 ar) 13 rd) 14 (cBare al ht ar + al 7)) 15 (dOff (al 5) (al 6) (cBare al ht ar + al 7))) 16 0), ke, hs, hq, sl, sa, (dOff (al 5) (al 6) (cBare al ht ar + al 7)), (dCar (al 6) (cBare al ht ar + al 7)), pa, pq, sp, nu, dn, er)) := hD
          refine lv_aload_n hx hb dX8_passes_256 rfl (lv_at hl 5 rfl) ?_
          refine va_get (D := G) (ci := 8) (v := .ref (b 1)) (C := RX8) (T := TX8) (N := 14) hx hb hts iX8 hown hK hP 0 rfl rfl 0 (by decide) k_7 (fun _ h9 => h9) rfl dX8_passes_257 ?_
          refine lv_bipush (v := 17) hx hb dX8_passes_260 (by decide) ?_
          refine lv_iload hx hb dX8_passes_262 (lv_at hl 3 rfl) ?_
          refine zIast (f := (upd (upd (upd (upd (upd (upd (mSh a5 (17 + 0) (11 + 7 * mLen L)) 11 ht) 12 ar) 13 rd) 14 (cBare al ht ar + al 7)) 15 (dOff (al 5) (al 6) (cBare al ht ar + al 7))) 16 0)) hx hb hK hP hD hS 1 0 rfl rfl 17 (by decide) (by decide) (by decide) dX8_passes_264 (fun H locs hP hD hS => ?_)
          have hP : va_P G vwCl (mk Z b ((upd (upd (upd (upd (upd (upd (upd (mSh a5 (17 + 0) (11 + 7 * mLen L)) 11 ht) 12 ar) 13 rd) 14 (cBare al ht ar + al 7)) 15 (dOff (al 5) (al 6) (cBare al ht ar + al 7))) 16 0) 17 (al 7)), ke, hs, hq, sl, sa, (dOff (al 5) (al 6) (cBare al ht ar + al 7)), (dCar (al 6) (cBare al ht ar + al 7)), pa, pq, sp, nu, dn, er)) H := hP
          have hD : va_D A (mk Z b ((upd (upd (upd (upd (upd (upd (upd (mSh a5 (17 + 0) (11 + 7 * mLen L)) 11 ht) 12 ar) 13 rd) 14 (cBare al ht ar + al 7)) 15 (dOff (al 5) (al 6) (cBare al ht ar + al 7))) 16 0) 17 (al 7)), ke, hs, hq, sl, sa, (dOff (al 5) (al 6) (cBare al ht ar + al 7)), (dCar (al 6) (cBare al ht ar + al 7)), pa, pq, sp, nu, dn, er)) := hD
          refine lv_iload hx hb dX8_passes_265 (lv_at hl 1 rfl) ?_
          exact W.zret hx hb hr (rfl) (zEi ((upd (upd (upd (upd (upd (upd (upd (mSh a5 (17 + 0) (11 + 7 * mLen L)) 11 ht) 12 ar) 13 rd) 14 (cBare al ht ar + al 7)) 15 (dOff (al 5) (al 6) (cBare al ht ar + al 7))) 16 0) 17 (al 7)), (dOff (al 5) (al 6) (cBare al ht ar + al 7)), (dCar (al 6) (cBare al ht ar + al 7))) (by
              rw [e_a5, e_a4]
              simp only [mGo, mIs, mFacts, mTop, hl48, z10, eq_true c52, eq_true c59, c137, Int32.not_le.mp c137, c165, Int32.not_le.mpr c165, ↓reduceIte, and_self]) hP hD hS) hS.2.2 dX8_passes_267
        · obtain ⟨k, rfl⟩ : ∃ j, k = j + 1 := ⟨k - 1, by
            have := zNlt (b := 7) c165 (by omega) (by omega)
            omega⟩
          refine lv_aload_n hx hb dX8_passes_168 rfl (lv_at hl 5 rfl) ?_
          refine va_get (D := G) (ci := 8) (v := .ref (b 1)) (C := RX8) (T := TX8) (N := 14) hx hb hts iX8 hown hK hP 0 rfl rfl 0 (by decide) k_7 (fun _ h9 => h9) rfl dX8_passes_169 ?_
          refine lv_bipush (v := 11) hx hb dX8_passes_172 (by decide) ?_
          refine lv_iload hx hb dX8_passes_174 (lv_at hl 0 rfl) ?_
          refine lv_iadd hx hb dX8_passes_176 ?_
          refine lv_aload_n hx hb dX8_passes_177 rfl (lv_at hl 5 rfl) ?_
          refine va_get (D := G) (ci := 8) (v := .ref (b 1)) (C := RX8) (T := TX8) (N := 14) hx hb hts iX8 hown hK hP 0 rfl rfl 0 (by decide) k_7 (fun _ h9 => h9) rfl dX8_passes_178 ?_
          refine lv_bipush (v := 11) hx hb dX8_passes_181 (by decide) ?_
          refine lv_iload hx hb dX8_passes_183 (lv_at hl 0 rfl) ?_
          refine lv_iadd hx hb dX8_passes_185 ?_
          refine lv_bipush (v := 7) hx hb dX8_passes_186 (by decide) ?_
          refine lv_isub hx hb dX8_passes_188 ?_
          refine zIald (f := (mSh a5 (17 + (k + 1)) (11 + 7 * mLen L))) hx hb hK hP 1 0 rfl rfl (11 + k) (by rw [show (11 : Int32) = nI 11 from rfl, nI_add, show (7 : Int32) = nI 7 from rfl, pk_sub (by omega)]; exact congrArg nI (by omega)) (by omega) (by decide) dX8_passes_189 ?_
          refine zIast (f := (mSh a5 (17 + (k + 1)) (11 + 7 * mLen L))) hx hb hK hP hD hS 1 0 rfl rfl (18 + k) (by rw [show (11 : Int32) = nI 11 from rfl, nI_add]; congr 1; omega) (by omega) (by decide) dX8_passes_190 (fun H locs hP hD hS => ?_)
          have hP : va_P G vwCl (mk Z b ((upd (mSh a5 (17 + (k + 1)) (11 + 7 * mLen L)) (18 + k) ((mSh a5 (17 + (k + 1)) (11 + 7 * mLen L)) (11 + k))), ke, hs, hq, sl, sa, (dOff (al 5) (al 6) (cBare al ht ar + al 7)), (dCar (al 6) (cBare al ht ar + al 7)), pa, pq, sp, nu, dn, er)) H := hP
          have hD : va_D A (mk Z b ((upd (mSh a5 (17 + (k + 1)) (11 + 7 * mLen L)) (18 + k) ((mSh a5 (17 + (k + 1)) (11 + 7 * mLen L)) (11 + k))), ke, hs, hq, sl, sa, (dOff (al 5) (al 6) (cBare al ht ar + al 7)), (dCar (al 6) (cBare al ht ar + al 7)), pa, pq, sp, nu, dn, er)) := hD
          refine lv_iinc (v := ((nI ((k + 1) + 6)) + (-1))) (lv' := [(8, .int ((nI ((k + 1) + 6)) + (-1))), (7, .int 0), (6, .int (dOff (al 5) (al 6) (cBare al ht ar + al 7))), (5, .int (al 7)), (4, .int (cBare al ht ar + al 7)), (0, .ref (b 0)), (1, .int ht), (2, .int ar), (3, .int rd)]) hx hb dX8_passes_191 hl (k := 0) rfl rfl (by decide) rfl (fun ls hl => ?_)
          refine lv_goto (tgt := 161) hx hb dX8_passes_194 (by decide) ?_
          rw [show nI (k + 1 + 6) + (-1) = nI (k + 6) from pk_m1 (k + 6)] at hl
          have hz : upd (mSh a5 (17 + (k + 1)) (11 + 7 * mLen L)) (18 + k) (mSh a5 (17 + (k + 1)) (11 + 7 * mLen L) (11 + k)) = mSh a5 (17 + k) (11 + 7 * mLen L) := by
            have h := mSh_s a5 (k := k) (hi := 11 + 7 * mLen L) (by omega)
            rw [show 17 + (k + 1) = 18 + k by omega]
            exact h
          rw [hz] at hP hD
          exact ih161 k (by
              try dsimp only
              omega) (by
              try dsimp only
              omega) _ _ _ hP hD hS (lv_sub hl [0, 1, 2, 3, 4, 5, 6, 7, 8] rfl)
    · refine lv_iconst (v := 1) hx hb dX8_passes_62 (by decide) ?_
      refine lv_goto (tgt := 67) hx hb dX8_passes_63 (by decide) ?_
      refine lv_istore (lv' := [(7, .int 1), (6, .int (dOff (al 5) (al 6) (cBare al ht ar + al 7))), (5, .int (al 7)), (4, .int (cBare al ht ar + al 7)), (0, .ref (b 0)), (1, .int ht), (2, .int ar), (3, .int rd)]) hx hb dX8_passes_67 hl (by decide) rfl (fun ls hl => ?_)
      refine lv_iload hx hb dX8_passes_69 (lv_at hl 0 rfl) ?_
      refine lv_if_eq (tgt := 78) hx hb dX8_passes_71 (by decide) (fun c71 => absurd c71 (by decide)) (fun _ => ?_)
      refine lv_aload_n hx hb dX8_passes_74 rfl (lv_at hl 4 rfl) ?_
      refine zCv (S := (Nat → Int32)) (ws1 := fun u => mk Z b (u, ke, hs, hq, sl, sa, 0, 0, pa, pq, sp, nu, dn, er)) (wr := []) (va_runV (As := []) (rest := []) ⟨hx, hb, hml, hown, hts⟩ (m_X8_corrects l G Z _ b al ke hs hq sl sa (dOff (al 5) (al 6) (cBare al ht ar + al 7)) (dCar (al 6) (cBare al ht ar + al 7)) pa pq sp nu dn er) (cwV 0 hts gX8_passes_X8_corrects rfl rfl rfl (by decide +kernel) ⟨Nat.le_of_ble_eq_true rfl, Nat.le_of_ble_eq_true rfl⟩) (zPreV hK hP hD hS hA hSW [0, 1, 2, 3, 4, 5, 6] rfl (by decide) 0 (ci := 8) rfl rfl rfl) rfl rfl hl.1 rfl (lv_room (Nat.le_of_ble_eq_true rfl)) dX8_passes_75 ⟨Nat.le_of_ble_eq_true rfl, Nat.le_of_ble_eq_true rfl⟩) hP hD hS hA [0, 1, 2, 3, 4, 5, 6] [] [0, 1, 2, 3, 4, 5, 6] rfl rfl (by decide) (by decide) (by decide) (fun _ => rfl) (fun u H locs hw75 hP hD hS => ?_)
      obtain ⟨al1_75, rfl⟩ : ∃ z, z = u := ⟨_, rfl⟩
      try dsimp only at hw75
      subst hw75
      have hP : va_P G vwCl (mk Z b ((mCor al (dOff (al 5) (al 6) (cBare al ht ar + al 7))), ke, hs, hq, sl, sa, 0, 0, pa, pq, sp, nu, dn, er)) H := hP
      have hD : va_D A (mk Z b ((mCor al (dOff (al 5) (al 6) (cBare al ht ar + al 7))), ke, hs, hq, sl, sa, 0, 0, pa, pq, sp, nu, dn, er)) := hD
      refine lv_aload_n hx hb dX8_passes_78 rfl (lv_at hl 4 rfl) ?_
      refine va_get (D := G) (ci := 8) (v := .ref (b 1)) (C := RX8) (T := TX8) (N := 14) hx hb hts iX8 hown hK hP 0 rfl rfl 0 (by decide) k_7 (fun _ h9 => h9) rfl dX8_passes_79 ?_
      refine lv_iconst (v := 5) hx hb dX8_passes_82 (by decide) ?_
      refine lv_aload_n hx hb dX8_passes_83 rfl (lv_at hl 4 rfl) ?_
      refine va_get (D := G) (ci := 8) (v := .int 0) (C := RX8) (T := TX8) (N := 14) hx hb hts iX8 hown hK hP 0 rfl rfl 6 (by decide) k_51 (fun _ h9 => h9) rfl dX8_passes_84 ?_
      refine zIast (f := (mCor al (dOff (al 5) (al 6) (cBare al ht ar + al 7)))) hx hb hK hP hD hS 1 0 rfl rfl 5 (by decide) (by decide) (by decide) dX8_passes_87 (fun H locs hP hD hS => ?_)
      have hP : va_P G vwCl (mk Z b ((upd (mCor al (dOff (al 5) (al 6) (cBare al ht ar + al 7))) 5 0), ke, hs, hq, sl, sa, 0, 0, pa, pq, sp, nu, dn, er)) H := hP
      have hD : va_D A (mk Z b ((upd (mCor al (dOff (al 5) (al 6) (cBare al ht ar + al 7))) 5 0), ke, hs, hq, sl, sa, 0, 0, pa, pq, sp, nu, dn, er)) := hD
      refine lv_aload_n hx hb dX8_passes_88 rfl (lv_at hl 4 rfl) ?_
      refine va_get (D := G) (ci := 8) (v := .ref (b 1)) (C := RX8) (T := TX8) (N := 14) hx hb hts iX8 hown hK hP 0 rfl rfl 0 (by decide) k_7 (fun _ h9 => h9) rfl dX8_passes_89 ?_
      refine lv_bipush (v := 6) hx hb dX8_passes_92 (by decide) ?_
      refine lv_aload_n hx hb dX8_passes_94 rfl (lv_at hl 4 rfl) ?_
      refine va_get (D := G) (ci := 8) (v := .int 0) (C := RX8) (T := TX8) (N := 14) hx hb hts iX8 hown hK hP 0 rfl rfl 7 (by decide) k_48 (fun _ h9 => h9) rfl dX8_passes_95 ?_
      refine zIast (f := (upd (mCor al (dOff (al 5) (al 6) (cBare al ht ar + al 7))) 5 0)) hx hb hK hP hD hS 1 0 rfl rfl 6 (by decide) (by decide) (by decide) dX8_passes_98 (fun H locs hP hD hS => ?_)
      have hP : va_P G vwCl (mk Z b ((upd (upd (mCor al (dOff (al 5) (al 6) (cBare al ht ar + al 7))) 5 0) 6 0), ke, hs, hq, sl, sa, 0, 0, pa, pq, sp, nu, dn, er)) H := hP
      have hD : va_D A (mk Z b ((upd (upd (mCor al (dOff (al 5) (al 6) (cBare al ht ar + al 7))) 5 0) 6 0), ke, hs, hq, sl, sa, 0, 0, pa, pq, sp, nu, dn, er)) := hD
      refine lv_aload_n hx hb dX8_passes_99 rfl (lv_at hl 4 rfl) ?_
      refine va_get (D := G) (ci := 8) (v := .ref (b 1)) (C := RX8) (T := TX8) (N := 14) hx hb hts iX8 hown hK hP 0 rfl rfl 0 (by decide) k_7 (fun _ h9 => h9) rfl dX8_passes_100 ?_
      refine lv_iconst (v := 4) hx hb dX8_passes_103 (by decide) ?_
      refine lv_dup2_11 hx hb dX8_passes_104 rfl rfl ?_
      refine zIald (f := (upd (upd (mCor al (dOff (al 5) (al 6) (cBare al ht ar + al 7))) 5 0) 6 0)) hx hb hK hP 1 0 rfl rfl 4 (by decide) (by decide) (by decide) dX8_passes_105 ?_
      refine lv_iconst (v := 1) hx hb dX8_passes_106 (by decide) ?_
      refine lv_iadd hx hb dX8_passes_107 ?_
      refine zIast (f := (upd (upd (mCor al (dOff (al 5) (al 6) (cBare al ht ar + al 7))) 5 0) 6 0)) hx hb hK hP hD hS 1 0 rfl rfl 4 (by decide) (by decide) (by decide) dX8_passes_108 (fun H locs hP hD hS => ?_)
      have hP : va_P G vwCl (mk Z b ((upd (upd (upd (mCor al (dOff (al 5) (al 6) (cBare al ht ar + al 7))) 5 0) 6 0) 4 (((upd (upd (mCor al (dOff (al 5) (al 6) (cBare al ht ar + al 7))) 5 0) 6 0) 4) + 1)), ke, hs, hq, sl, sa, 0, 0, pa, pq, sp, nu, dn, er)) H := hP
      have hD : va_D A (mk Z b ((upd (upd (upd (mCor al (dOff (al 5) (al 6) (cBare al ht ar + al 7))) 5 0) 6 0) 4 (((upd (upd (mCor al (dOff (al 5) (al 6) (cBare al ht ar + al 7))) 5 0) 6 0) 4) + 1)), ke, hs, hq, sl, sa, 0, 0, pa, pq, sp, nu, dn, er)) := hD
      refine lv_aload_n hx hb dX8_passes_109 rfl (lv_at hl 4 rfl) ?_
      refine va_get (D := G) (ci := 8) (v := .ref (b 1)) (C := RX8) (T := TX8) (N := 14) hx hb hts iX8 hown hK hP 0 rfl rfl 0 (by decide) k_7 (fun _ h9 => h9) rfl dX8_passes_110 ?_
      refine lv_bipush (v := 10) hx hb dX8_passes_113 (by decide) ?_
      refine lv_dup2_11 hx hb dX8_passes_115 rfl rfl ?_
      refine zIald (f := (upd (upd (upd (mCor al (dOff (al 5) (al 6) (cBare al ht ar + al 7))) 5 0) 6 0) 4 (((upd (upd (mCor al (dOff (al 5) (al 6) (cBare al ht ar + al 7))) 5 0) 6 0) 4) + 1))) hx hb hK hP 1 0 rfl rfl 10 (by decide) (by decide) (by decide) dX8_passes_116 ?_
      refine lv_iload_n hx hb dX8_passes_117 rfl (lv_at hl 7 rfl) ?_
      refine lv_iadd hx hb dX8_passes_118 ?_
      refine zIast (f := (upd (upd (upd (mCor al (dOff (al 5) (al 6) (cBare al ht ar + al 7))) 5 0) 6 0) 4 (((upd (upd (mCor al (dOff (al 5) (al 6) (cBare al ht ar + al 7))) 5 0) 6 0) 4) + 1))) hx hb hK hP hD hS 1 0 rfl rfl 10 (by decide) (by decide) (by decide) dX8_passes_119 (fun H locs hP hD hS => ?_)
      have hP : va_P G vwCl (mk Z b ((upd (upd (upd (upd (mCor al (dOff (al 5) (al 6) (cBare al ht ar + al 7))) 5 0) 6 0) 4 (((upd (upd (mCor al (dOff (al 5) (al 6) (cBare al ht ar + al 7))) 5 0) 6 0) 4) + 1)) 10 (((upd (upd (upd (mCor al (dOff (al 5) (al 6) (cBare al ht ar + al 7))) 5 0) 6 0) 4 (((upd (upd (mCor al (dOff (al 5) (al 6) (cBare al ht ar + al 7))) 5 0) 6 0) 4) + 1)) 10) + rd)), ke, hs, hq, sl, sa, 0, 0, pa, pq, sp, nu, dn, er)) H := hP
      have hD : va_D A (mk Z b ((upd (upd (upd (upd (mCor al (dOff (al 5) (al 6) (cBare al ht ar + al 7))) 5 0) 6 0) 4 (((upd (upd (mCor al (dOff (al 5) (al 6) (cBare al ht ar + al 7))) 5 0) 6 0) 4) + 1)) 10 (((upd (upd (upd (mCor al (dOff (al 5) (al 6) (cBare al ht ar + al 7))) 5 0) 6 0) 4 (((upd (upd (mCor al (dOff (al 5) (al 6) (cBare al ht ar + al 7))) 5 0) 6 0) 4) + 1)) 10) + rd)), ke, hs, hq, sl, sa, 0, 0, pa, pq, sp, nu, dn, er)) := hD
      obtain ⟨a4, e_a4⟩ : ∃ f : Nat → Int32, f = (upd (upd (upd (upd (mCor al (dOff (al 5) (al 6) (cBare al ht ar + al 7))) 5 0) 6 0) 4 (((upd (upd (mCor al (dOff (al 5) (al 6) (cBare al ht ar + al 7))) 5 0) 6 0) 4) + 1)) 10 (((upd (upd (upd (mCor al (dOff (al 5) (al 6) (cBare al ht ar + al 7))) 5 0) 6 0) 4 (((upd (upd (mCor al (dOff (al 5) (al 6) (cBare al ht ar + al 7))) 5 0) 6 0) 4) + 1)) 10) + rd)) := ⟨_, rfl⟩
      rw [← e_a4] at hP hD
      have h9 : a4 9 = nI L := by rw [e_a4]; exact hL
      refine lv_aload_n hx hb dX8_passes_120 rfl (lv_at hl 4 rfl) ?_
      refine va_get (D := G) (ci := 8) (v := .ref (b 1)) (C := RX8) (T := TX8) (N := 14) hx hb hts iX8 hown hK hP 0 rfl rfl 0 (by decide) k_7 (fun _ h9 => h9) rfl dX8_passes_121 ?_
      refine lv_bipush (v := 9) hx hb dX8_passes_124 (by decide) ?_
      refine lv_dup2_11 hx hb dX8_passes_126 rfl rfl ?_
      refine zIald (f := a4) hx hb hK hP 1 0 rfl rfl 9 (by decide) (by decide) (by decide) dX8_passes_127 ?_
      refine lv_aload_n hx hb dX8_passes_128 rfl (lv_at hl 4 rfl) ?_
      refine va_get (D := G) (ci := 8) (v := .ref (b 1)) (C := RX8) (T := TX8) (N := 14) hx hb hts iX8 hown hK hP 0 rfl rfl 0 (by decide) k_7 (fun _ h9 => h9) rfl dX8_passes_129 ?_
      refine lv_bipush (v := 9) hx hb dX8_passes_132 (by decide) ?_
      refine zIald (f := a4) hx hb hK hP 1 0 rfl rfl 9 (by decide) (by decide) (by decide) dX8_passes_134 ?_
      refine lv_bipush (v := 48) hx hb dX8_passes_135 (by decide) ?_
      refine lv_icmp_ge (tgt := 144) hx hb dX8_passes_137 (by decide) (fun c137 => ?_) (fun c137 => ?_)
      · refine lv_iconst (v := 0) hx hb dX8_passes_144 (by decide) ?_
        refine lv_iadd hx hb dX8_passes_145 ?_
        refine zIast (f := a4) hx hb hK hP hD hS 1 0 rfl rfl 9 (by decide) (by decide) (by decide) dX8_passes_146 (fun H locs hP hD hS => ?_)
        have hP : va_P G vwCl (mk Z b ((upd a4 9 ((a4 9) + 0)), ke, hs, hq, sl, sa, 0, 0, pa, pq, sp, nu, dn, er)) H := hP
        have hD : va_D A (mk Z b ((upd a4 9 ((a4 9) + 0)), ke, hs, hq, sl, sa, 0, 0, pa, pq, sp, nu, dn, er)) := hD
        have hl48 : ¬ L < 48 := by
          rw [h9] at c137
          have := zLe (a := 48) c137 (by decide) (by omega)
          omega
        obtain ⟨a5, e_a5⟩ : ∃ f : Nat → Int32, f = (upd a4 9 ((a4 9) + 0)) := ⟨_, rfl⟩
        rw [← e_a5] at hP hD
        have g9 : a5 9 = nI (mLen L) := by
          rw [e_a5]
          show a4 9 + _ = _
          rw [h9, mLen, if_neg hl48]; exact Int32.add_zero _
        have hm1 : 1 ≤ mLen L := by unfold mLen; split <;> omega
        have hm2 := mLen_le hL8
        refine lv_bipush (v := 7) hx hb dX8_passes_147 (by decide) ?_
        refine lv_aload_n hx hb dX8_passes_149 rfl (lv_at hl 4 rfl) ?_
        refine va_get (D := G) (ci := 8) (v := .ref (b 1)) (C := RX8) (T := TX8) (N := 14) hx hb hts iX8 hown hK hP 0 rfl rfl 0 (by decide) k_7 (fun _ h9 => h9) rfl dX8_passes_150 ?_
        refine lv_bipush (v := 9) hx hb dX8_passes_153 (by decide) ?_
        refine zIald (f := a5) hx hb hK hP 1 0 rfl rfl 9 (by decide) (by decide) (by decide) dX8_passes_155 ?_
        refine lv_imul hx hb dX8_passes_156 ?_
        refine lv_iconst (v := 1) hx hb dX8_passes_157 (by decide) ?_
        refine lv_isub hx hb dX8_passes_158 ?_
        refine lv_istore (lv' := [(8, .int ((7 * (a5 9)) - 1)), (7, .int 1), (6, .int (dOff (al 5) (al 6) (cBare al ht ar + al 7))), (5, .int (al 7)), (4, .int (cBare al ht ar + al 7)), (0, .ref (b 0)), (1, .int ht), (2, .int ar), (3, .int rd)]) hx hb dX8_passes_159 hl (by decide) rfl (fun ls hl => ?_)
        rw [show 7 * (a5 9) - 1 = nI ((7 * mLen L - 7) + 6) from by
          rw [g9, show (7 : Int32) = nI 7 from rfl, pk_mul]
          have hm3 : 7 * mLen L = ((7 * mLen L - 7) + 6) + 1 := by omega
          exact (congrArg (fun t => nI t - 1) hm3).trans (nI_pred _)] at hl
        rw [← mSh_0 a5 (lo := 17 + (7 * mLen L - 7)) (hi := 11 + 7 * mLen L) (by omega)] at hP hD
        refine zLoop (σ := Nat) (nL := 9) (fun zx => mk Z b ((mSh a5 (17 + zx) (11 + 7 * mLen L)), ke, hs, hq, sl, sa, 0, 0, pa, pq, sp, nu, dn, er)) (fun zx => [(8, .int (nI (zx + 6))), (7, .int 1), (6, .int (dOff (al 5) (al 6) (cBare al ht ar + al 7))), (5, .int (al 7)), (4, .int (cBare al ht ar + al 7)), (0, .ref (b 0)), (1, .int ht), (2, .int ar), (3, .int rd)]) (fun zx => zx ≤ 7 * mLen L - 7) (fun zx => zx) ?_ (7 * mLen L - 7) (by
            try dsimp only
            omega) hP hD hS (lv_sub hl [0, 1, 2, 3, 4, 5, 6, 7, 8] rfl)
        intro zx hinv161 ih161 H locs ls hP hD hS hl
        obtain ⟨k, rfl⟩ : ∃ z, z = zx := ⟨_, rfl⟩
        try dsimp only at hinv161 ih161
        have hP : va_P G vwCl (mk Z b ((mSh a5 (17 + k) (11 + 7 * mLen L)), ke, hs, hq, sl, sa, 0, 0, pa, pq, sp, nu, dn, er)) H := hP
        have hD : va_D A (mk Z b ((mSh a5 (17 + k) (11 + 7 * mLen L)), ke, hs, hq, sl, sa, 0, 0, pa, pq, sp, nu, dn, er)) := hD
        have hl : lv_has ls 9 [(8, .int (nI (k + 6))), (7, .int 1), (6, .int (dOff (al 5) (al 6) (cBare al ht ar + al 7))), (5, .int (al 7)), (4, .int (cBare al ht ar + al 7)), (0, .ref (b 0)), (1, .int ht), (2, .int ar), (3, .int rd)] := hl
        refine lv_iload hx hb dX8_passes_161 (lv_at hl 0 rfl) ?_
        refine lv_bipush (v := 7) hx hb dX8_passes_163 (by decide) ?_
        refine lv_icmp_lt (tgt := 197) hx hb dX8_passes_165 (by decide) (fun c165 => ?_) (fun c165 => ?_)
        · have hk := zLt (b := 7) c165 (by omega) (by omega)
          obtain rfl : k = 0 := by omega
          refine lv_aload_n hx hb dX8_passes_197 rfl (lv_at hl 5 rfl) ?_
          refine va_get (D := G) (ci := 8) (v := .ref (b 1)) (C := RX8) (T := TX8) (N := 14) hx hb hts iX8 hown hK hP 0 rfl rfl 0 (by decide) k_7 (fun _ h9 => h9) rfl dX8_passes_198 ?_
          refine lv_bipush (v := 11) hx hb dX8_passes_201 (by decide) ?_
          refine lv_iload_n hx hb dX8_passes_203 rfl (lv_at hl 6 rfl) ?_
          refine zIast (f := (mSh a5 (17 + 0) (11 + 7 * mLen L))) hx hb hK hP hD hS 1 0 rfl rfl 11 (by decide) (by decide) (by decide) dX8_passes_204 (fun H locs hP hD hS => ?_)
          have hP : va_P G vwCl (mk Z b ((upd (mSh a5 (17 + 0) (11 + 7 * mLen L)) 11 ht), ke, hs, hq, sl, sa, 0, 0, pa, pq, sp, nu, dn, er)) H := hP
          have hD : va_D A (mk Z b ((upd (mSh a5 (17 + 0) (11 + 7 * mLen L)) 11 ht), ke, hs, hq, sl, sa, 0, 0, pa, pq, sp, nu, dn, er)) := hD
          refine lv_aload_n hx hb dX8_passes_205 rfl (lv_at hl 5 rfl) ?_
          refine va_get (D := G) (ci := 8) (v := .ref (b 1)) (C := RX8) (T := TX8) (N := 14) hx hb hts iX8 hown hK hP 0 rfl rfl 0 (by decide) k_7 (fun _ h9 => h9) rfl dX8_passes_206 ?_
          refine lv_bipush (v := 12) hx hb dX8_passes_209 (by decide) ?_
          refine lv_iload_n hx hb dX8_passes_211 rfl (lv_at hl 7 rfl) ?_
          refine zIast (f := (upd (mSh a5 (17 + 0) (11 + 7 * mLen L)) 11 ht)) hx hb hK hP hD hS 1 0 rfl rfl 12 (by decide) (by decide) (by decide) dX8_passes_212 (fun H locs hP hD hS => ?_)
          have hP : va_P G vwCl (mk Z b ((upd (upd (mSh a5 (17 + 0) (11 + 7 * mLen L)) 11 ht) 12 ar), ke, hs, hq, sl, sa, 0, 0, pa, pq, sp, nu, dn, er)) H := hP
          have hD : va_D A (mk Z b ((upd (upd (mSh a5 (17 + 0) (11 + 7 * mLen L)) 11 ht) 12 ar), ke, hs, hq, sl, sa, 0, 0, pa, pq, sp, nu, dn, er)) := hD
          refine lv_aload_n hx hb dX8_passes_213 rfl (lv_at hl 5 rfl) ?_
          refine va_get (D := G) (ci := 8) (v := .ref (b 1)) (C := RX8) (T := TX8) (N := 14) hx hb hts iX8 hown hK hP 0 rfl rfl 0 (by decide) k_7 (fun _ h9 => h9) rfl dX8_passes_214 ?_
          refine lv_bipush (v := 13) hx hb dX8_passes_217 (by decide) ?_
          refine lv_iload_n hx hb dX8_passes_219 rfl (lv_at hl 8 rfl) ?_
          refine zIast (f := (upd (upd (mSh a5 (17 + 0) (11 + 7 * mLen L)) 11 ht) 12 ar)) hx hb hK hP hD hS 1 0 rfl rfl 13 (by decide) (by decide) (by decide) dX8_passes_220 (fun H locs hP hD hS => ?_)
          have hP : va_P G vwCl (mk Z b ((upd (upd (upd (mSh a5 (17 + 0) (11 + 7 * mLen L)) 11 ht) 12 ar) 13 rd), ke, hs, hq, sl, sa, 0, 0, pa, pq, sp, nu, dn, er)) H := hP
          have hD : va_D A (mk Z b ((upd (upd (upd (mSh a5 (17 + 0) (11 + 7 * mLen L)) 11 ht) 12 ar) 13 rd), ke, hs, hq, sl, sa, 0, 0, pa, pq, sp, nu, dn, er)) := hD
          refine lv_aload_n hx hb dX8_passes_221 rfl (lv_at hl 5 rfl) ?_
          refine va_get (D := G) (ci := 8) (v := .ref (b 1)) (C := RX8) (T := TX8) (N := 14) hx hb hts iX8 hown hK hP 0 rfl rfl 0 (by decide) k_7 (fun _ h9 => h9) rfl dX8_passes_222 ?_
          refine lv_bipush (v := 14) hx hb dX8_passes_225 (by decide) ?_
          refine lv_iload hx hb dX8_passes_227 (lv_at hl 4 rfl) ?_
          refine zIast (f := (upd (upd (upd (mSh a5 (17 + 0) (11 + 7 * mLen L)) 11 ht) 12 ar) 13 rd)) hx hb hK hP hD hS 1 0 rfl rfl 14 (by decide) (by decide) (by decide) dX8_passes_229 (fun H locs hP hD hS => ?_)
          have hP : va_P G vwCl (mk Z b ((upd (upd (upd (upd (mSh a5 (17 + 0) (11 + 7 * mLen L)) 11 ht) 12 ar) 13 rd) 14 (cBare al ht ar + al 7)), ke, hs, hq, sl, sa, 0, 0, pa, pq, sp, nu, dn, er)) H := hP
          have hD : va_D A (mk Z b ((upd (upd (upd (upd (mSh a5 (17 + 0) (11 + 7 * mLen L)) 11 ht) 12 ar) 13 rd) 14 (cBare al ht ar + al 7)), ke, hs, hq, sl, sa, 0, 0, pa, pq, sp, nu, dn, er)) := hD
          refine lv_aload_n hx hb dX8_passes_230 rfl (lv_at hl 5 rfl) ?_
          refine va_get (D := G) (ci := 8) (v := .ref (b 1)) (C := RX8) (T := TX8) (N := 14) hx hb hts iX8 hown hK hP 0 rfl rfl 0 (by decide) k_7 (fun _ h9 => h9) rfl dX8_passes_231 ?_
          refine lv_bipush (v := 15) hx hb dX8_passes_234 (by decide) ?_
          refine lv_iload hx hb dX8_passes_236 (lv_at hl 2 rfl) ?_
          refine zIast (f := (upd (upd (upd (upd (mSh a5 (17 + 0) (11 + 7 * mLen L)) 11 ht) 12 ar) 13 rd) 14 (cBare al ht ar + al 7))) hx hb hK hP hD hS 1 0 rfl rfl 15 (by decide) (by decide) (by decide) dX8_passes_238 (fun H locs hP hD hS => ?_)
          have hP : va_P G vwCl (mk Z b ((upd (upd (upd (upd (upd (mSh a5 (17 + 0) (11 + 7 * mLen L)) 11 ht) 12 ar) 13 rd) 14 (cBare al ht ar + al 7)) 15 (dOff (al 5) (al 6) (cBare al ht ar + al 7))), ke, hs, hq, sl, sa, 0, 0, pa, pq, sp, nu, dn, er)) H := hP
          have hD : va_D A (mk Z b ((upd (upd (upd (upd (upd (mSh a5 (17 + 0) (11 + 7 * mLen L)) 11 ht) 12 ar) 13 rd) 14 (cBare al ht ar + al 7)) 15 (dOff (al 5) (al 6) (cBare al ht ar + al 7))), ke, hs, hq, sl, sa, 0, 0, pa, pq, sp, nu, dn, er)) := hD
          refine lv_aload_n hx hb dX8_passes_239 rfl (lv_at hl 5 rfl) ?_
          refine va_get (D := G) (ci := 8) (v := .ref (b 1)) (C := RX8) (T := TX8) (N := 14) hx hb hts iX8 hown hK hP 0 rfl rfl 0 (by decide) k_7 (fun _ h9 => h9) rfl dX8_passes_240 ?_
          refine lv_bipush (v := 16) hx hb dX8_passes_243 (by decide) ?_
          refine lv_iload hx hb dX8_passes_245 (lv_at hl 1 rfl) ?_
          refine lv_if_eq (tgt := 254) hx hb dX8_passes_247 (by decide) (fun c247 => absurd c247 (by decide)) (fun _ => ?_)
          refine lv_iconst (v := 1) hx hb dX8_passes_250 (by decide) ?_
          refine lv_goto (tgt := 255) hx hb dX8_passes_251 (by decide) ?_
          refine zIast (f := (upd (upd (upd (upd (upd (mSh a5 (17 + 0) (11 + 7 * mLen L)) 11 ht) 12 ar) 13 rd) 14 (cBare al ht ar + al 7)) 15 (dOff (al 5) (al 6) (cBare al ht ar + al 7)))) hx hb hK hP hD hS 1 0 rfl rfl 16 (by decide) (by decide) (by decide) dX8_passes_255 (fun H locs hP hD hS => ?_)
          have hP : va_P G vwCl (mk Z b ((upd (upd (upd (upd (upd (upd (mSh a5 (17 + 0) (11 + 7 * mLen L)) 11 ht) 12 ar) 13 rd) 14 (cBare al ht ar + al 7)) 15 (dOff (al 5) (al 6) (cBare al ht ar + al 7))) 16 1), ke, hs, hq, sl, sa, 0, 0, pa, pq, sp, nu, dn, er)) H := hP
          have hD : va_D A (mk Z b ((upd (upd (upd (upd (upd (upd (mSh a5 (17 + 0) (11 + 7 * mLen L)) 11 ht) 12 ar) 13 rd) 14 (cBare al ht ar + al 7)) 15 (dOff (al 5) (al 6) (cBare al ht ar + al 7))) 16 1), ke, hs, hq, sl, sa, 0, 0, pa, pq, sp, nu, dn, er)) := hD
          refine lv_aload_n hx hb dX8_passes_256 rfl (lv_at hl 5 rfl) ?_
          refine va_get (D := G) (ci := 8) (v := .ref (b 1)) (C := RX8) (T := TX8) (N := 14) hx hb hts iX8 hown hK hP 0 rfl rfl 0 (by decide) k_7 (fun _ h9 => h9) rfl dX8_passes_257 ?_
          refine lv_bipush (v := 17) hx hb dX8_passes_260 (by decide) ?_
          refine lv_iload hx hb dX8_passes_262 (lv_at hl 3 rfl) ?_
          refine zIast (f := (upd (upd (upd (upd (upd (upd (mSh a5 (17 + 0) (11 + 7 * mLen L)) 11 ht) 12 ar) 13 rd) 14 (cBare al ht ar + al 7)) 15 (dOff (al 5) (al 6) (cBare al ht ar + al 7))) 16 1)) hx hb hK hP hD hS 1 0 rfl rfl 17 (by decide) (by decide) (by decide) dX8_passes_264 (fun H locs hP hD hS => ?_)
          have hP : va_P G vwCl (mk Z b ((upd (upd (upd (upd (upd (upd (upd (mSh a5 (17 + 0) (11 + 7 * mLen L)) 11 ht) 12 ar) 13 rd) 14 (cBare al ht ar + al 7)) 15 (dOff (al 5) (al 6) (cBare al ht ar + al 7))) 16 1) 17 (al 7)), ke, hs, hq, sl, sa, 0, 0, pa, pq, sp, nu, dn, er)) H := hP
          have hD : va_D A (mk Z b ((upd (upd (upd (upd (upd (upd (upd (mSh a5 (17 + 0) (11 + 7 * mLen L)) 11 ht) 12 ar) 13 rd) 14 (cBare al ht ar + al 7)) 15 (dOff (al 5) (al 6) (cBare al ht ar + al 7))) 16 1) 17 (al 7)), ke, hs, hq, sl, sa, 0, 0, pa, pq, sp, nu, dn, er)) := hD
          refine lv_iload hx hb dX8_passes_265 (lv_at hl 1 rfl) ?_
          exact W.zret hx hb hr (rfl) (zEi ((upd (upd (upd (upd (upd (upd (upd (mSh a5 (17 + 0) (11 + 7 * mLen L)) 11 ht) 12 ar) 13 rd) 14 (cBare al ht ar + al 7)) 15 (dOff (al 5) (al 6) (cBare al ht ar + al 7))) 16 1) 17 (al 7)), 0, 0) (by
              rw [e_a5, e_a4]
              simp only [mGo, mIs, mFacts, mTop, hl48, z10, eq_true c52, c59, c137, Int32.not_lt.mpr c137, c165, Int32.not_le.mpr c165, ↓reduceIte, and_self]) hP hD hS) hS.2.2 dX8_passes_267
        · obtain ⟨k, rfl⟩ : ∃ j, k = j + 1 := ⟨k - 1, by
            have := zNlt (b := 7) c165 (by omega) (by omega)
            omega⟩
          refine lv_aload_n hx hb dX8_passes_168 rfl (lv_at hl 5 rfl) ?_
          refine va_get (D := G) (ci := 8) (v := .ref (b 1)) (C := RX8) (T := TX8) (N := 14) hx hb hts iX8 hown hK hP 0 rfl rfl 0 (by decide) k_7 (fun _ h9 => h9) rfl dX8_passes_169 ?_
          refine lv_bipush (v := 11) hx hb dX8_passes_172 (by decide) ?_
          refine lv_iload hx hb dX8_passes_174 (lv_at hl 0 rfl) ?_
          refine lv_iadd hx hb dX8_passes_176 ?_
          refine lv_aload_n hx hb dX8_passes_177 rfl (lv_at hl 5 rfl) ?_
          refine va_get (D := G) (ci := 8) (v := .ref (b 1)) (C := RX8) (T := TX8) (N := 14) hx hb hts iX8 hown hK hP 0 rfl rfl 0 (by decide) k_7 (fun _ h9 => h9) rfl dX8_passes_178 ?_
          refine lv_bipush (v := 11) hx hb dX8_passes_181 (by decide) ?_
          refine lv_iload hx hb dX8_passes_183 (lv_at hl 0 rfl) ?_
          refine lv_iadd hx hb dX8_passes_185 ?_
          refine lv_bipush (v := 7) hx hb dX8_passes_186 (by decide) ?_
          refine lv_isub hx hb dX8_passes_188 ?_
          refine zIald (f := (mSh a5 (17 + (k + 1)) (11 + 7 * mLen L))) hx hb hK hP 1 0 rfl rfl (11 + k) (by rw [show (11 : Int32) = nI 11 from rfl, nI_add, show (7 : Int32) = nI 7 from rfl, pk_sub (by omega)]; exact congrArg nI (by omega)) (by omega) (by decide) dX8_passes_189 ?_
          refine zIast (f := (mSh a5 (17 + (k + 1)) (11 + 7 * mLen L))) hx hb hK hP hD hS 1 0 rfl rfl (18 + k) (by rw [show (11 : Int32) = nI 11 from rfl, nI_add]; congr 1; omega) (by omega) (by decide) dX8_passes_190 (fun H locs hP hD hS => ?_)
          have hP : va_P G vwCl (mk Z b ((upd (mSh a5 (17 + (k + 1)) (11 + 7 * mLen L)) (18 + k) ((mSh a5 (17 + (k + 1)) (11 + 7 * mLen L)) (11 + k))), ke, hs, hq, sl, sa, 0, 0, pa, pq, sp, nu, dn, er)) H := hP
          have hD : va_D A (mk Z b ((upd (mSh a5 (17 + (k + 1)) (11 + 7 * mLen L)) (18 + k) ((mSh a5 (17 + (k + 1)) (11 + 7 * mLen L)) (11 + k))), ke, hs, hq, sl, sa, 0, 0, pa, pq, sp, nu, dn, er)) := hD
          refine lv_iinc (v := ((nI ((k + 1) + 6)) + (-1))) (lv' := [(8, .int ((nI ((k + 1) + 6)) + (-1))), (7, .int 1), (6, .int (dOff (al 5) (al 6) (cBare al ht ar + al 7))), (5, .int (al 7)), (4, .int (cBare al ht ar + al 7)), (0, .ref (b 0)), (1, .int ht), (2, .int ar), (3, .int rd)]) hx hb dX8_passes_191 hl (k := 0) rfl rfl (by decide) rfl (fun ls hl => ?_)
          refine lv_goto (tgt := 161) hx hb dX8_passes_194 (by decide) ?_
          rw [show nI (k + 1 + 6) + (-1) = nI (k + 6) from pk_m1 (k + 6)] at hl
          have hz : upd (mSh a5 (17 + (k + 1)) (11 + 7 * mLen L)) (18 + k) (mSh a5 (17 + (k + 1)) (11 + 7 * mLen L) (11 + k)) = mSh a5 (17 + k) (11 + 7 * mLen L) := by
            have h := mSh_s a5 (k := k) (hi := 11 + 7 * mLen L) (by omega)
            rw [show 17 + (k + 1) = 18 + k by omega]
            exact h
          rw [hz] at hP hD
          exact ih161 k (by
              try dsimp only
              omega) (by
              try dsimp only
              omega) _ _ _ hP hD hS (lv_sub hl [0, 1, 2, 3, 4, 5, 6, 7, 8] rfl)
      · refine lv_iconst (v := 1) hx hb dX8_passes_140 (by decide) ?_
        refine lv_goto (tgt := 145) hx hb dX8_passes_141 (by decide) ?_
        refine lv_iadd hx hb dX8_passes_145 ?_
        refine zIast (f := a4) hx hb hK hP hD hS 1 0 rfl rfl 9 (by decide) (by decide) (by decide) dX8_passes_146 (fun H locs hP hD hS => ?_)
        have hP : va_P G vwCl (mk Z b ((upd a4 9 ((a4 9) + 1)), ke, hs, hq, sl, sa, 0, 0, pa, pq, sp, nu, dn, er)) H := hP
        have hD : va_D A (mk Z b ((upd a4 9 ((a4 9) + 1)), ke, hs, hq, sl, sa, 0, 0, pa, pq, sp, nu, dn, er)) := hD
        have hl48 : L < 48 := by rw [h9] at c137; exact zNle (a := 48) c137 (by decide) (by omega)
        obtain ⟨a5, e_a5⟩ : ∃ f : Nat → Int32, f = (upd a4 9 ((a4 9) + 1)) := ⟨_, rfl⟩
        rw [← e_a5] at hP hD
        have g9 : a5 9 = nI (mLen L) := by
          rw [e_a5]
          show a4 9 + _ = _
          rw [h9, mLen, if_pos hl48]; exact (nI_succ L).symm
        have hm1 : 1 ≤ mLen L := by unfold mLen; split <;> omega
        have hm2 := mLen_le hL8
        refine lv_bipush (v := 7) hx hb dX8_passes_147 (by decide) ?_
        refine lv_aload_n hx hb dX8_passes_149 rfl (lv_at hl 4 rfl) ?_
        refine va_get (D := G) (ci := 8) (v := .ref (b 1)) (C := RX8) (T := TX8) (N := 14) hx hb hts iX8 hown hK hP 0 rfl rfl 0 (by decide) k_7 (fun _ h9 => h9) rfl dX8_passes_150 ?_
        refine lv_bipush (v := 9) hx hb dX8_passes_153 (by decide) ?_
        refine zIald (f := a5) hx hb hK hP 1 0 rfl rfl 9 (by decide) (by decide) (by decide) dX8_passes_155 ?_
        refine lv_imul hx hb dX8_passes_156 ?_
        refine lv_iconst (v := 1) hx hb dX8_passes_157 (by decide) ?_
        refine lv_isub hx hb dX8_passes_158 ?_
        refine lv_istore (lv' := [(8, .int ((7 * (a5 9)) - 1)), (7, .int 1), (6, .int (dOff (al 5) (al 6) (cBare al ht ar + al 7))), (5, .int (al 7)), (4, .int (cBare al ht ar + al 7)), (0, .ref (b 0)), (1, .int ht), (2, .int ar), (3, .int rd)]) hx hb dX8_passes_159 hl (by decide) rfl (fun ls hl => ?_)
        rw [show 7 * (a5 9) - 1 = nI ((7 * mLen L - 7) + 6) from by
          rw [g9, show (7 : Int32) = nI 7 from rfl, pk_mul]
          have hm3 : 7 * mLen L = ((7 * mLen L - 7) + 6) + 1 := by omega
          exact (congrArg (fun t => nI t - 1) hm3).trans (nI_pred _)] at hl
        rw [← mSh_0 a5 (lo := 17 + (7 * mLen L - 7)) (hi := 11 + 7 * mLen L) (by omega)] at hP hD
        refine zLoop (σ := Nat) (nL := 9) (fun zx => mk Z b ((mSh a5 (17 + zx) (11 + 7 * mLen L)), ke, hs, hq, sl, sa, 0, 0, pa, pq, sp, nu, dn, er)) (fun zx => [(8, .int (nI (zx + 6))), (7, .int 1), (6, .int (dOff (al 5) (al 6) (cBare al ht ar + al 7))), (5, .int (al 7)), (4, .int (cBare al ht ar + al 7)), (0, .ref (b 0)), (1, .int ht), (2, .int ar), (3, .int rd)]) (fun zx => zx ≤ 7 * mLen L - 7) (fun zx => zx) ?_ (7 * mLen L - 7) (by
            try dsimp only
            omega) hP hD hS (lv_sub hl [0, 1, 2, 3, 4, 5, 6, 7, 8] rfl)
        intro zx hinv161 ih161 H locs ls hP hD hS hl
        obtain ⟨k, rfl⟩ : ∃ z, z = zx := ⟨_, rfl⟩
        try dsimp only at hinv161 ih161
        have hP : va_P G vwCl (mk Z b ((mSh a5 (17 + k) (11 + 7 * mLen L)), ke, hs, hq, sl, sa, 0, 0, pa, pq, sp, nu, dn, er)) H := hP
        have hD : va_D A (mk Z b ((mSh a5 (17 + k) (11 + 7 * mLen L)), ke, hs, hq, sl, sa, 0, 0, pa, pq, sp, nu, dn, er)) := hD
        have hl : lv_has ls 9 [(8, .int (nI (k + 6))), (7, .int 1), (6, .int (dOff (al 5) (al 6) (cBare al ht ar + al 7))), (5, .int (al 7)), (4, .int (cBare al ht ar + al 7)), (0, .ref (b 0)), (1, .int ht), (2, .int ar), (3, .int rd)] := hl
        refine lv_iload hx hb dX8_passes_161 (lv_at hl 0 rfl) ?_
        refine lv_bipush (v := 7) hx hb dX8_passes_163 (by decide) ?_
        refine lv_icmp_lt (tgt := 197) hx hb dX8_passes_165 (by decide) (fun c165 => ?_) (fun c165 => ?_)
        · have hk := zLt (b := 7) c165 (by omega) (by omega)
          obtain rfl : k = 0 := by omega
          refine lv_aload_n hx hb dX8_passes_197 rfl (lv_at hl 5 rfl) ?_
          refine va_get (D := G) (ci := 8) (v := .ref (b 1)) (C := RX8) (T := TX8) (N := 14) hx hb hts iX8 hown hK hP 0 rfl rfl 0 (by decide) k_7 (fun _ h9 => h9) rfl dX8_passes_198 ?_
          refine lv_bipush (v := 11) hx hb dX8_passes_201 (by decide) ?_
          refine lv_iload_n hx hb dX8_passes_203 rfl (lv_at hl 6 rfl) ?_
          refine zIast (f := (mSh a5 (17 + 0) (11 + 7 * mLen L))) hx hb hK hP hD hS 1 0 rfl rfl 11 (by decide) (by decide) (by decide) dX8_passes_204 (fun H locs hP hD hS => ?_)
          have hP : va_P G vwCl (mk Z b ((upd (mSh a5 (17 + 0) (11 + 7 * mLen L)) 11 ht), ke, hs, hq, sl, sa, 0, 0, pa, pq, sp, nu, dn, er)) H := hP
          have hD : va_D A (mk Z b ((upd (mSh a5 (17 + 0) (11 + 7 * mLen L)) 11 ht), ke, hs, hq, sl, sa, 0, 0, pa, pq, sp, nu, dn, er)) := hD
          refine lv_aload_n hx hb dX8_passes_205 rfl (lv_at hl 5 rfl) ?_
          refine va_get (D := G) (ci := 8) (v := .ref (b 1)) (C := RX8) (T := TX8) (N := 14) hx hb hts iX8 hown hK hP 0 rfl rfl 0 (by decide) k_7 (fun _ h9 => h9) rfl dX8_passes_206 ?_
          refine lv_bipush (v := 12) hx hb dX8_passes_209 (by decide) ?_
          refine lv_iload_n hx hb dX8_passes_211 rfl (lv_at hl 7 rfl) ?_
          refine zIast (f := (upd (mSh a5 (17 + 0) (11 + 7 * mLen L)) 11 ht)) hx hb hK hP hD hS 1 0 rfl rfl 12 (by decide) (by decide) (by decide) dX8_passes_212 (fun H locs hP hD hS => ?_)
          have hP : va_P G vwCl (mk Z b ((upd (upd (mSh a5 (17 + 0) (11 + 7 * mLen L)) 11 ht) 12 ar), ke, hs, hq, sl, sa, 0, 0, pa, pq, sp, nu, dn, er)) H := hP
          have hD : va_D A (mk Z b ((upd (upd (mSh a5 (17 + 0) (11 + 7 * mLen L)) 11 ht) 12 ar), ke, hs, hq, sl, sa, 0, 0, pa, pq, sp, nu, dn, er)) := hD
          refine lv_aload_n hx hb dX8_passes_213 rfl (lv_at hl 5 rfl) ?_
          refine va_get (D := G) (ci := 8) (v := .ref (b 1)) (C := RX8) (T := TX8) (N := 14) hx hb hts iX8 hown hK hP 0 rfl rfl 0 (by decide) k_7 (fun _ h9 => h9) rfl dX8_passes_214 ?_
          refine lv_bipush (v := 13) hx hb dX8_passes_217 (by decide) ?_
          refine lv_iload_n hx hb dX8_passes_219 rfl (lv_at hl 8 rfl) ?_
          refine zIast (f := (upd (upd (mSh a5 (17 + 0) (11 + 7 * mLen L)) 11 ht) 12 ar)) hx hb hK hP hD hS 1 0 rfl rfl 13 (by decide) (by decide) (by decide) dX8_passes_220 (fun H locs hP hD hS => ?_)
          have hP : va_P G vwCl (mk Z b ((upd (upd (upd (mSh a5 (17 + 0) (11 + 7 * mLen L)) 11 ht) 12 ar) 13 rd), ke, hs, hq, sl, sa, 0, 0, pa, pq, sp, nu, dn, er)) H := hP
          have hD : va_D A (mk Z b ((upd (upd (upd (mSh a5 (17 + 0) (11 + 7 * mLen L)) 11 ht) 12 ar) 13 rd), ke, hs, hq, sl, sa, 0, 0, pa, pq, sp, nu, dn, er)) := hD
          refine lv_aload_n hx hb dX8_passes_221 rfl (lv_at hl 5 rfl) ?_
          refine va_get (D := G) (ci := 8) (v := .ref (b 1)) (C := RX8) (T := TX8) (N := 14) hx hb hts iX8 hown hK hP 0 rfl rfl 0 (by decide) k_7 (fun _ h9 => h9) rfl dX8_passes_222 ?_
          refine lv_bipush (v := 14) hx hb dX8_passes_225 (by decide) ?_
          refine lv_iload hx hb dX8_passes_227 (lv_at hl 4 rfl) ?_
          refine zIast (f := (upd (upd (upd (mSh a5 (17 + 0) (11 + 7 * mLen L)) 11 ht) 12 ar) 13 rd)) hx hb hK hP hD hS 1 0 rfl rfl 14 (by decide) (by decide) (by decide) dX8_passes_229 (fun H locs hP hD hS => ?_)
          have hP : va_P G vwCl (mk Z b ((upd (upd (upd (upd (mSh a5 (17 + 0) (11 + 7 * mLen L)) 11 ht) 12 ar) 13 rd) 14 (cBare al ht ar + al 7)), ke, hs, hq, sl, sa, 0, 0, pa, pq, sp, nu, dn, er)) H := hP
          have hD : va_D A (mk Z b ((upd (upd (upd (upd (mSh a5 (17 + 0) (11 + 7 * mLen L)) 11 ht) 12 ar) 13 rd) 14 (cBare al ht ar + al 7)), ke, hs, hq, sl, sa, 0, 0, pa, pq, sp, nu, dn, er)) := hD
          refine lv_aload_n hx hb dX8_passes_230 rfl (lv_at hl 5 rfl) ?_
          refine va_get (D := G) (ci := 8) (v := .ref (b 1)) (C := RX8) (T := TX8) (N := 14) hx hb hts iX8 hown hK hP 0 rfl rfl 0 (by decide) k_7 (fun _ h9 => h9) rfl dX8_passes_231 ?_
          refine lv_bipush (v := 15) hx hb dX8_passes_234 (by decide) ?_
          refine lv_iload hx hb dX8_passes_236 (lv_at hl 2 rfl) ?_
          refine zIast (f := (upd (upd (upd (upd (mSh a5 (17 + 0) (11 + 7 * mLen L)) 11 ht) 12 ar) 13 rd) 14 (cBare al ht ar + al 7))) hx hb hK hP hD hS 1 0 rfl rfl 15 (by decide) (by decide) (by decide) dX8_passes_238 (fun H locs hP hD hS => ?_)
          have hP : va_P G vwCl (mk Z b ((upd (upd (upd (upd (upd (mSh a5 (17 + 0) (11 + 7 * mLen L)) 11 ht) 12 ar) 13 rd) 14 (cBare al ht ar + al 7)) 15 (dOff (al 5) (al 6) (cBare al ht ar + al 7))), ke, hs, hq, sl, sa, 0, 0, pa, pq, sp, nu, dn, er)) H := hP
          have hD : va_D A (mk Z b ((upd (upd (upd (upd (upd (mSh a5 (17 + 0) (11 + 7 * mLen L)) 11 ht) 12 ar) 13 rd) 14 (cBare al ht ar + al 7)) 15 (dOff (al 5) (al 6) (cBare al ht ar + al 7))), ke, hs, hq, sl, sa, 0, 0, pa, pq, sp, nu, dn, er)) := hD
          refine lv_aload_n hx hb dX8_passes_239 rfl (lv_at hl 5 rfl) ?_
          refine va_get (D := G) (ci := 8) (v := .ref (b 1)) (C := RX8) (T := TX8) (N := 14) hx hb hts iX8 hown hK hP 0 rfl rfl 0 (by decide) k_7 (fun _ h9 => h9) rfl dX8_passes_240 ?_
          refine lv_bipush (v := 16) hx hb dX8_passes_243 (by decide) ?_
          refine lv_iload hx hb dX8_passes_245 (lv_at hl 1 rfl) ?_
          refine lv_if_eq (tgt := 254) hx hb dX8_passes_247 (by decide) (fun c247 => absurd c247 (by decide)) (fun _ => ?_)
          refine lv_iconst (v := 1) hx hb dX8_passes_250 (by decide) ?_
          refine lv_goto (tgt := 255) hx hb dX8_passes_251 (by decide) ?_
          refine zIast (f := (upd (upd (upd (upd (upd (mSh a5 (17 + 0) (11 + 7 * mLen L)) 11 ht) 12 ar) 13 rd) 14 (cBare al ht ar + al 7)) 15 (dOff (al 5) (al 6) (cBare al ht ar + al 7)))) hx hb hK hP hD hS 1 0 rfl rfl 16 (by decide) (by decide) (by decide) dX8_passes_255 (fun H locs hP hD hS => ?_)
          have hP : va_P G vwCl (mk Z b ((upd (upd (upd (upd (upd (upd (mSh a5 (17 + 0) (11 + 7 * mLen L)) 11 ht) 12 ar) 13 rd) 14 (cBare al ht ar + al 7)) 15 (dOff (al 5) (al 6) (cBare al ht ar + al 7))) 16 1), ke, hs, hq, sl, sa, 0, 0, pa, pq, sp, nu, dn, er)) H := hP
          have hD : va_D A (mk Z b ((upd (upd (upd (upd (upd (upd (mSh a5 (17 + 0) (11 + 7 * mLen L)) 11 ht) 12 ar) 13 rd) 14 (cBare al ht ar + al 7)) 15 (dOff (al 5) (al 6) (cBare al ht ar + al 7))) 16 1), ke, hs, hq, sl, sa, 0, 0, pa, pq, sp, nu, dn, er)) := hD
          refine lv_aload_n hx hb dX8_passes_256 rfl (lv_at hl 5 rfl) ?_
          refine va_get (D := G) (ci := 8) (v := .ref (b 1)) (C := RX8) (T := TX8) (N := 14) hx hb hts iX8 hown hK hP 0 rfl rfl 0 (by decide) k_7 (fun _ h9 => h9) rfl dX8_passes_257 ?_
          refine lv_bipush (v := 17) hx hb dX8_passes_260 (by decide) ?_
          refine lv_iload hx hb dX8_passes_262 (lv_at hl 3 rfl) ?_
          refine zIast (f := (upd (upd (upd (upd (upd (upd (mSh a5 (17 + 0) (11 + 7 * mLen L)) 11 ht) 12 ar) 13 rd) 14 (cBare al ht ar + al 7)) 15 (dOff (al 5) (al 6) (cBare al ht ar + al 7))) 16 1)) hx hb hK hP hD hS 1 0 rfl rfl 17 (by decide) (by decide) (by decide) dX8_passes_264 (fun H locs hP hD hS => ?_)
          have hP : va_P G vwCl (mk Z b ((upd (upd (upd (upd (upd (upd (upd (mSh a5 (17 + 0) (11 + 7 * mLen L)) 11 ht) 12 ar) 13 rd) 14 (cBare al ht ar + al 7)) 15 (dOff (al 5) (al 6) (cBare al ht ar + al 7))) 16 1) 17 (al 7)), ke, hs, hq, sl, sa, 0, 0, pa, pq, sp, nu, dn, er)) H := hP
          have hD : va_D A (mk Z b ((upd (upd (upd (upd (upd (upd (upd (mSh a5 (17 + 0) (11 + 7 * mLen L)) 11 ht) 12 ar) 13 rd) 14 (cBare al ht ar + al 7)) 15 (dOff (al 5) (al 6) (cBare al ht ar + al 7))) 16 1) 17 (al 7)), ke, hs, hq, sl, sa, 0, 0, pa, pq, sp, nu, dn, er)) := hD
          refine lv_iload hx hb dX8_passes_265 (lv_at hl 1 rfl) ?_
          exact W.zret hx hb hr (rfl) (zEi ((upd (upd (upd (upd (upd (upd (upd (mSh a5 (17 + 0) (11 + 7 * mLen L)) 11 ht) 12 ar) 13 rd) 14 (cBare al ht ar + al 7)) 15 (dOff (al 5) (al 6) (cBare al ht ar + al 7))) 16 1) 17 (al 7)), 0, 0) (by
              rw [e_a5, e_a4]
              simp only [mGo, mIs, mFacts, mTop, hl48, z10, eq_true c52, c59, c137, Int32.not_le.mp c137, c165, Int32.not_le.mpr c165, ↓reduceIte, and_self]) hP hD hS) hS.2.2 dX8_passes_267
        · obtain ⟨k, rfl⟩ : ∃ j, k = j + 1 := ⟨k - 1, by
            have := zNlt (b := 7) c165 (by omega) (by omega)
            omega⟩
          refine lv_aload_n hx hb dX8_passes_168 rfl (lv_at hl 5 rfl) ?_
          refine va_get (D := G) (ci := 8) (v := .ref (b 1)) (C := RX8) (T := TX8) (N := 14) hx hb hts iX8 hown hK hP 0 rfl rfl 0 (by decide) k_7 (fun _ h9 => h9) rfl dX8_passes_169 ?_
          refine lv_bipush (v := 11) hx hb dX8_passes_172 (by decide) ?_
          refine lv_iload hx hb dX8_passes_174 (lv_at hl 0 rfl) ?_
          refine lv_iadd hx hb dX8_passes_176 ?_
          refine lv_aload_n hx hb dX8_passes_177 rfl (lv_at hl 5 rfl) ?_
          refine va_get (D := G) (ci := 8) (v := .ref (b 1)) (C := RX8) (T := TX8) (N := 14) hx hb hts iX8 hown hK hP 0 rfl rfl 0 (by decide) k_7 (fun _ h9 => h9) rfl dX8_passes_178 ?_
          refine lv_bipush (v := 11) hx hb dX8_passes_181 (by decide) ?_
          refine lv_iload hx hb dX8_passes_183 (lv_at hl 0 rfl) ?_
          refine lv_iadd hx hb dX8_passes_185 ?_
          refine lv_bipush (v := 7) hx hb dX8_passes_186 (by decide) ?_
          refine lv_isub hx hb dX8_passes_188 ?_
          refine zIald (f := (mSh a5 (17 + (k + 1)) (11 + 7 * mLen L))) hx hb hK hP 1 0 rfl rfl (11 + k) (by rw [show (11 : Int32) = nI 11 from rfl, nI_add, show (7 : Int32) = nI 7 from rfl, pk_sub (by omega)]; exact congrArg nI (by omega)) (by omega) (by decide) dX8_passes_189 ?_
          refine zIast (f := (mSh a5 (17 + (k + 1)) (11 + 7 * mLen L))) hx hb hK hP hD hS 1 0 rfl rfl (18 + k) (by rw [show (11 : Int32) = nI 11 from rfl, nI_add]; congr 1; omega) (by omega) (by decide) dX8_passes_190 (fun H locs hP hD hS => ?_)
          have hP : va_P G vwCl (mk Z b ((upd (mSh a5 (17 + (k + 1)) (11 + 7 * mLen L)) (18 + k) ((mSh a5 (17 + (k + 1)) (11 + 7 * mLen L)) (11 + k))), ke, hs, hq, sl, sa, 0, 0, pa, pq, sp, nu, dn, er)) H := hP
          have hD : va_D A (mk Z b ((upd (mSh a5 (17 + (k + 1)) (11 + 7 * mLen L)) (18 + k) ((mSh a5 (17 + (k + 1)) (11 + 7 * mLen L)) (11 + k))), ke, hs, hq, sl, sa, 0, 0, pa, pq, sp, nu, dn, er)) := hD
          refine lv_iinc (v := ((nI ((k + 1) + 6)) + (-1))) (lv' := [(8, .int ((nI ((k + 1) + 6)) + (-1))), (7, .int 1), (6, .int (dOff (al 5) (al 6) (cBare al ht ar + al 7))), (5, .int (al 7)), (4, .int (cBare al ht ar + al 7)), (0, .ref (b 0)), (1, .int ht), (2, .int ar), (3, .int rd)]) hx hb dX8_passes_191 hl (k := 0) rfl rfl (by decide) rfl (fun ls hl => ?_)
          refine lv_goto (tgt := 161) hx hb dX8_passes_194 (by decide) ?_
          rw [show nI (k + 1 + 6) + (-1) = nI (k + 6) from pk_m1 (k + 6)] at hl
          have hz : upd (mSh a5 (17 + (k + 1)) (11 + 7 * mLen L)) (18 + k) (mSh a5 (17 + (k + 1)) (11 + 7 * mLen L) (11 + k)) = mSh a5 (17 + k) (11 + 7 * mLen L) := by
            have h := mSh_s a5 (k := k) (hi := 11 + 7 * mLen L) (by omega)
            rw [show 17 + (k + 1) = 18 + k by omega]
            exact h
          rw [hz] at hP hD
          exact ih161 k (by
              try dsimp only
              omega) (by
              try dsimp only
              omega) _ _ _ hP hD hS (lv_sub hl [0, 1, 2, 3, 4, 5, 6, 7, 8] rfl)

set_option maxHeartbeats 4000000 in
set_option maxRecDepth 100000 in
theorem m_X8_doSet (l : Launch) (G : va_G) (Z : Nat → ClassId) (sz : Nat) (b : Nat → Nat) (al : Nat → Int32) (ke : Nat → Int32) (hs : Nat → Int32) (hq : Nat) (sl : Nat → Int32) (sa : Nat → Int32) (off : Int32) (car : Int32) (pa : Nat → Int32) (pq : Nat) (sp : Nat) (nu : Int32) (dn : Int32) (er : Int32) (k : Int32) (x : Int32)  : Met l yX8_doSet wsX8_doSet ({ frames := 2, cells := 0, slots := 0, locals := 46 }) (va_Pc [.ref (b 0), .int k, .int x] (zWP G Z sz (mk Z b (al, ke, hs, hq, sl, sa, off, car, pa, pq, sp, nu, dn, er)))) (va_Qi (fun (r : Int32) (u : (Nat → Int32)) => r = mSetR al k x ∧ u = mSetA al k x) (fun (u : (Nat → Int32)) t => zB G (va_A (mk Z b (al, ke, hs, hq, sl, sa, off, car, pa, pq, sp, nu, dn, er)) sz) (mk Z b (u, ke, hs, hq, sl, sa, off, car, pa, pq, sp, nu, dn, er)) t) (va_A (mk Z b (al, ke, hs, hq, sl, sa, off, car, pa, pq, sp, nu, dn, er)) sz)) 0 0 (va_A (mk Z b (al, ke, hs, hq, sl, sa, off, car, pa, pq, sp, nu, dn, er)) sz) := by
  refine Met.ofW (cc := cX8_doSet) (maxL := 4) (ret := (some .int)) (by decide) rfl ?_
  intro p e s m args below meth c s₁ B hml hv
  have hx := B.exec
  have hb := B.bytes
  have hr := B.returns
  have hts := atoms_spec (ws := wsX8_doSet) B.pre
  have hown : s.vm.findClass RX8 = some m.cls := findClass_of_methodNamed B.named
  have hlocks := B.notSynchronized
  obtain ⟨rfl, hsz, hP, hK, hD, hA, hS, hSW⟩ := zEnter hv
  subst hsz
  generalize va_A (mk Z b (al, ke, hs, hq, sl, sa, off, car, pa, pq, sp, nu, dn, er)) s.heap.size = A at hD hA hS hSW ⊢
  have k_7 := hts (.fieldLink RX8 7 "WarmRodsModel" "all" "[I") (List.mem_of_getElem? (i := 1) rfl)
  have iX8 : ∀ w ∈ u_ws RX8 TX8 14, w ∈ wsX8_doSet := fun _ h => List.mem_cons_of_mem _ (List.mem_append_right _ h)
  have hP : va_P G vwCl (mk Z b (al, ke, hs, hq, sl, sa, off, car, pa, pq, sp, nu, dn, er)) s.heap := hP
  have hl := lv_entry ([.ref (b 0), .int k, .int x]) (n := 4) (Nat.le_of_ble_eq_true rfl)
  rw [lg_entry_eq]
  generalize (lg_sl ([.ref (b 0), .int k, .int x]) ++ List.replicate (4 - (lg_sl ([.ref (b 0), .int k, .int x])).length) Slot.unset).toArray = ls at hl ⊢
  have hl : lv_has ls 4 [(0, .ref (b 0)), (1, .int k), (2, .int x)] := hl
  refine lv_iload_n hx hb dX8_doSet_0 rfl (lv_at hl 1 rfl) ?_
  refine lv_iload_n hx hb dX8_doSet_1 rfl (lv_at hl 2 rfl) ?_
  refine zCi (S := Unit) (ws1 := fun u => mk Z b (al, ke, hs, hq, sl, sa, off, car, pa, pq, sp, nu, dn, er)) (wr := mk Z b (al, ke, hs, hq, sl, sa, off, car, pa, pq, sp, nu, dn, er)) (va_runS (As := [.int k, .int x]) (rest := []) ⟨hx, hb, hml, hown, hts⟩ (m_X8_isSetting l G Z _ k x) (va_cwS 2 hts gX8_doSet_X8_isSetting rfl rfl rfl (by decide +kernel) ⟨Nat.le_of_ble_eq_true rfl, Nat.le_of_ble_eq_true rfl⟩) (zPreS hK hP hD hS hA hSW [] rfl (by decide)) rfl rfl hl.1 rfl (lv_room (Nat.le_of_ble_eq_true rfl)) dX8_doSet_2 ⟨Nat.le_of_ble_eq_true rfl, Nat.le_of_ble_eq_true rfl⟩) hP hD hS hA [] [0, 1, 2, 3, 4, 5, 6] [0, 1, 2, 3, 4, 5, 6] rfl rfl (by decide) (by decide) (by decide) (fun _ => rfl) (fun r2 u H locs hw2 hP hD hS => ?_)
  try dsimp only at hw2
  subst hw2
  have hP : va_P G vwCl (mk Z b (al, ke, hs, hq, sl, sa, off, car, pa, pq, sp, nu, dn, er)) H := hP
  have hD : va_D A (mk Z b (al, ke, hs, hq, sl, sa, off, car, pa, pq, sp, nu, dn, er)) := hD
  refine lv_if_ne (tgt := 11) hx hb dX8_doSet_5 (by decide) (fun c5 => ?_) (fun c5 => ?_)
  · refine lv_aload_n hx hb dX8_doSet_11 rfl (lv_at hl 0 rfl) ?_
    refine va_get (D := G) (ci := 8) (v := .ref (b 1)) (C := RX8) (T := TX8) (N := 14) hx hb hts iX8 hown hK hP 0 rfl rfl 0 (by decide) k_7 (fun _ h9 => h9) rfl dX8_doSet_12 ?_
    refine lv_iload_n hx hb dX8_doSet_15 rfl (lv_at hl 1 rfl) ?_
    refine zIald (f := al) hx hb hK hP 1 0 rfl rfl k.toNatClampNeg ((mIsS_k c5).1) (by have := (mIsS_k c5).2; omega) (by decide) dX8_doSet_16 ?_
    refine lv_istore_n (lv' := [(3, .int (al k.toNatClampNeg)), (0, .ref (b 0)), (1, .int k), (2, .int x)]) hx hb dX8_doSet_17 rfl hl (by decide) rfl (fun ls hl => ?_)
    refine lv_aload_n hx hb dX8_doSet_18 rfl (lv_at hl 1 rfl) ?_
    refine va_get (D := G) (ci := 8) (v := .ref (b 1)) (C := RX8) (T := TX8) (N := 14) hx hb hts iX8 hown hK hP 0 rfl rfl 0 (by decide) k_7 (fun _ h9 => h9) rfl dX8_doSet_19 ?_
    refine lv_iload_n hx hb dX8_doSet_22 rfl (lv_at hl 2 rfl) ?_
    refine lv_iload_n hx hb dX8_doSet_23 rfl (lv_at hl 3 rfl) ?_
    refine zIast (f := al) hx hb hK hP hD hS 1 0 rfl rfl k.toNatClampNeg ((mIsS_k c5).1) (by have := (mIsS_k c5).2; omega) (by decide) dX8_doSet_24 (fun H locs hP hD hS => ?_)
    have hP : va_P G vwCl (mk Z b ((upd al k.toNatClampNeg x), ke, hs, hq, sl, sa, off, car, pa, pq, sp, nu, dn, er)) H := hP
    have hD : va_D A (mk Z b ((upd al k.toNatClampNeg x), ke, hs, hq, sl, sa, off, car, pa, pq, sp, nu, dn, er)) := hD
    refine lv_iload_n hx hb dX8_doSet_25 rfl (lv_at hl 0 rfl) ?_
    refine lv_sipush (v := 1000) hx hb dX8_doSet_26 (by decide) ?_
    refine lv_iadd hx hb dX8_doSet_29 ?_
    exact W.iret hx hb hr (zEi (upd al k.toNatClampNeg x) (by
        simp only [mSetR, mSetA, c5, ↓reduceIte, and_self]) hP hD hS) hS.2.2 dX8_doSet_30
  · refine lv_bipush (v := (-2)) hx hb dX8_doSet_8 (by decide) ?_
    exact W.iret hx hb hr (zEi al (by
        simp only [mSetR, mSetA, eq_true c5, ↓reduceIte, and_self]) hP hD hS) hS.2.2 dX8_doSet_10

set_option maxHeartbeats 4000000 in
set_option maxRecDepth 100000 in
theorem m_X8_doWeight (l : Launch) (G : va_G) (Z : Nat → ClassId) (sz : Nat) (b : Nat → Nat) (al : Nat → Int32) (ke : Nat → Int32) (hs : Nat → Int32) (hq : Nat) (sl : Nat → Int32) (sa : Nat → Int32) (off : Int32) (car : Int32) (pa : Nat → Int32) (pq : Nat) (sp : Nat) (nu : Int32) (dn : Int32) (er : Int32) (k : Int32)  : Met l yX8_doWeight wsX8_doWeight ({ frames := 1, cells := 0, slots := 0, locals := 25 }) (va_Pc [.ref (b 0), .int k] (zWP G Z sz (mk Z b (al, ke, hs, hq, sl, sa, off, car, pa, pq, sp, nu, dn, er)))) (va_Qi (fun (r : Int32) (u : (Nat → Int32)) => r = mWtR al k ∧ u = mWtA al k) (fun (u : (Nat → Int32)) t => zB G (va_A (mk Z b (al, ke, hs, hq, sl, sa, off, car, pa, pq, sp, nu, dn, er)) sz) (mk Z b (u, ke, hs, hq, sl, sa, off, car, pa, pq, sp, nu, dn, er)) t) (va_A (mk Z b (al, ke, hs, hq, sl, sa, off, car, pa, pq, sp, nu, dn, er)) sz)) 0 0 (va_A (mk Z b (al, ke, hs, hq, sl, sa, off, car, pa, pq, sp, nu, dn, er)) sz) := by
  refine Met.ofW (cc := cX8_doWeight) (maxL := 2) (ret := (some .int)) (by decide) rfl ?_
  intro p e s m args below meth c s₁ B hml hv
  have hx := B.exec
  have hb := B.bytes
  have hr := B.returns
  have hts := atoms_spec (ws := wsX8_doWeight) B.pre
  have hown : s.vm.findClass RX8 = some m.cls := findClass_of_methodNamed B.named
  have hlocks := B.notSynchronized
  obtain ⟨rfl, hsz, hP, hK, hD, hA, hS, hSW⟩ := zEnter hv
  subst hsz
  generalize va_A (mk Z b (al, ke, hs, hq, sl, sa, off, car, pa, pq, sp, nu, dn, er)) s.heap.size = A at hD hA hS hSW ⊢
  have k_85 := hts (.constantLong RX8 85 (7)) (List.mem_of_getElem? (i := 1) rfl)
  have k_7 := hts (.fieldLink RX8 7 "WarmRodsModel" "all" "[I") (List.mem_of_getElem? (i := 2) rfl)
  have iX8 : ∀ w ∈ u_ws RX8 TX8 14, w ∈ wsX8_doWeight := fun _ h => List.mem_cons_of_mem _ (List.mem_append_right _ h)
  have hP : va_P G vwCl (mk Z b (al, ke, hs, hq, sl, sa, off, car, pa, pq, sp, nu, dn, er)) s.heap := hP
  have hl := lv_entry ([.ref (b 0), .int k]) (n := 2) (Nat.le_of_ble_eq_true rfl)
  rw [lg_entry_eq]
  generalize (lg_sl ([.ref (b 0), .int k]) ++ List.replicate (2 - (lg_sl ([.ref (b 0), .int k])).length) Slot.unset).toArray = ls at hl ⊢
  have hl : lv_has ls 2 [(0, .ref (b 0)), (1, .int k)] := hl
  refine lv_iload_n hx hb dX8_doWeight_0 rfl (lv_at hl 1 rfl) ?_
  refine lv_i2l (v := k.toInt64) hx hb dX8_doWeight_1 rfl ?_
  refine lv_lconst (v := 0) hx hb dX8_doWeight_2 (by decide) ?_
  refine lv_ldc2 (v := 7) hx hb hown k_85 dX8_doWeight_3 ?_
  refine zCi (S := Unit) (ws1 := fun u => mk Z b (al, ke, hs, hq, sl, sa, off, car, pa, pq, sp, nu, dn, er)) (wr := mk Z b (al, ke, hs, hq, sl, sa, off, car, pa, pq, sp, nu, dn, er)) (va_runS (As := [.long k.toInt64, .long 0, .long 7]) (rest := []) ⟨hx, hb, hml, hown, hts⟩ (m_X8_in l G Z _ k.toInt64 0 7) (va_cwS 3 hts gX8_doWeight_X8_in rfl rfl rfl (by decide +kernel) ⟨Nat.le_of_ble_eq_true rfl, Nat.le_of_ble_eq_true rfl⟩) (zPreS hK hP hD hS hA hSW [] rfl (by decide)) rfl rfl hl.1 rfl (lv_room (Nat.le_of_ble_eq_true rfl)) dX8_doWeight_6 ⟨Nat.le_of_ble_eq_true rfl, Nat.le_of_ble_eq_true rfl⟩) hP hD hS hA [] [0, 1, 2, 3, 4, 5, 6] [0, 1, 2, 3, 4, 5, 6] rfl rfl (by decide) (by decide) (by decide) (fun _ => rfl) (fun r6 u H locs hw6 hP hD hS => ?_)
  try dsimp only at hw6
  subst hw6
  have hP : va_P G vwCl (mk Z b (al, ke, hs, hq, sl, sa, off, car, pa, pq, sp, nu, dn, er)) H := hP
  have hD : va_D A (mk Z b (al, ke, hs, hq, sl, sa, off, car, pa, pq, sp, nu, dn, er)) := hD
  refine lv_if_ne (tgt := 14) hx hb dX8_doWeight_9 (by decide) (fun c9 => ?_) (fun c9 => ?_)
  · refine lv_aload_n hx hb dX8_doWeight_14 rfl (lv_at hl 0 rfl) ?_
    refine va_get (D := G) (ci := 8) (v := .ref (b 1)) (C := RX8) (T := TX8) (N := 14) hx hb hts iX8 hown hK hP 0 rfl rfl 0 (by decide) k_7 (fun _ h9 => h9) rfl dX8_doWeight_15 ?_
    refine lv_bipush (v := 7) hx hb dX8_doWeight_18 (by decide) ?_
    refine lv_dup2_11 hx hb dX8_doWeight_20 rfl rfl ?_
    refine zIald (f := al) hx hb hK hP 1 0 rfl rfl 7 (by decide) (by decide) (by decide) dX8_doWeight_21 ?_
    refine lv_iconst (v := 1) hx hb dX8_doWeight_22 (by decide) ?_
    refine lv_iload_n hx hb dX8_doWeight_23 rfl (lv_at hl 1 rfl) ?_
    refine lv_ishl hx hb dX8_doWeight_24 ?_
    refine lv_ixor hx hb dX8_doWeight_25 ?_
    refine zIast (f := al) hx hb hK hP hD hS 1 0 rfl rfl 7 (by decide) (by decide) (by decide) dX8_doWeight_26 (fun H locs hP hD hS => ?_)
    have hP : va_P G vwCl (mk Z b ((upd al 7 ((al 7) ^^^ (1 <<< (k &&& 31)))), ke, hs, hq, sl, sa, off, car, pa, pq, sp, nu, dn, er)) H := hP
    have hD : va_D A (mk Z b ((upd al 7 ((al 7) ^^^ (1 <<< (k &&& 31)))), ke, hs, hq, sl, sa, off, car, pa, pq, sp, nu, dn, er)) := hD
    refine lv_aload_n hx hb dX8_doWeight_27 rfl (lv_at hl 0 rfl) ?_
    refine va_get (D := G) (ci := 8) (v := .ref (b 1)) (C := RX8) (T := TX8) (N := 14) hx hb hts iX8 hown hK hP 0 rfl rfl 0 (by decide) k_7 (fun _ h9 => h9) rfl dX8_doWeight_28 ?_
    refine lv_bipush (v := 7) hx hb dX8_doWeight_31 (by decide) ?_
    refine zIald (f := (upd al 7 ((al 7) ^^^ (1 <<< (k &&& 31))))) hx hb hK hP 1 0 rfl rfl 7 (by decide) (by decide) (by decide) dX8_doWeight_33 ?_
    refine lv_iload_n hx hb dX8_doWeight_34 rfl (lv_at hl 1 rfl) ?_
    refine lv_ishr hx hb dX8_doWeight_35 ?_
    refine lv_iconst (v := 1) hx hb dX8_doWeight_36 (by decide) ?_
    refine lv_iand hx hb dX8_doWeight_37 ?_
    exact W.iret hx hb hr (zEi (upd al 7 ((al 7) ^^^ (1 <<< (k &&& 31)))) (by
        rw [show mIn k.toInt64 0 7 = mRng k 0 7 from mIn_w k 0 7] at c9
        rw [mWtR, mWtA, if_neg c9, if_neg c9]
        exact ⟨rfl, rfl⟩) hP hD hS) hS.2.2 dX8_doWeight_38
  · refine lv_iconst (v := (-1)) hx hb dX8_doWeight_12 (by decide) ?_
    exact W.iret hx hb hr (zEi al (by
        rw [show mIn k.toInt64 0 7 = mRng k 0 7 from mIn_w k 0 7] at c9
        simp only [mWtR, mWtA, c9, ↓reduceIte, and_self]) hP hD hS) hS.2.2 dX8_doWeight_13

set_option maxHeartbeats 4000000 in
set_option maxRecDepth 100000 in
theorem m_X8_doZero (l : Launch) (G : va_G) (Z : Nat → ClassId) (sz : Nat) (b : Nat → Nat) (al : Nat → Int32) (ke : Nat → Int32) (hs : Nat → Int32) (hq : Nat) (sl : Nat → Int32) (sa : Nat → Int32) (off : Int32) (car : Int32) (pa : Nat → Int32) (pq : Nat) (sp : Nat) (nu : Int32) (dn : Int32) (er : Int32)  : Met l yX8_doZero wsX8_doZero ({ frames := 0, cells := 0, slots := 0, locals := 0 }) (va_Pc [.ref (b 0)] (zWP G Z sz (mk Z b (al, ke, hs, hq, sl, sa, off, car, pa, pq, sp, nu, dn, er)))) (va_Qi (fun (r : Int32) (u : Unit) => r = al 5 + 1000000000) (fun (u : Unit) t => zB G (va_A (mk Z b (al, ke, hs, hq, sl, sa, off, car, pa, pq, sp, nu, dn, er)) sz) (mk Z b ((mZeA al), ke, hs, hq, sl, sa, off, car, pa, pq, sp, nu, dn, er)) t) (va_A (mk Z b (al, ke, hs, hq, sl, sa, off, car, pa, pq, sp, nu, dn, er)) sz)) 0 0 (va_A (mk Z b (al, ke, hs, hq, sl, sa, off, car, pa, pq, sp, nu, dn, er)) sz) := by
  refine Met.ofW (cc := cX8_doZero) (maxL := 2) (ret := (some .int)) (by decide) rfl ?_
  intro p e s m args below meth c s₁ B hml hv
  have hx := B.exec
  have hb := B.bytes
  have hr := B.returns
  have hts := atoms_spec (ws := wsX8_doZero) B.pre
  have hown : s.vm.findClass RX8 = some m.cls := findClass_of_methodNamed B.named
  have hlocks := B.notSynchronized
  obtain ⟨rfl, hsz, hP, hK, hD, hA, hS, hSW⟩ := zEnter hv
  subst hsz
  generalize va_A (mk Z b (al, ke, hs, hq, sl, sa, off, car, pa, pq, sp, nu, dn, er)) s.heap.size = A at hD hA hS hSW ⊢
  have k_7 := hts (.fieldLink RX8 7 "WarmRodsModel" "all" "[I") (List.mem_of_getElem? (i := 1) rfl)
  have iX8 : ∀ w ∈ u_ws RX8 TX8 14, w ∈ wsX8_doZero := fun _ h => List.mem_cons_of_mem _ (List.mem_append_right _ h)
  have k_98 := hts (.constant RX8 98 (1000000000)) (List.mem_of_getElem? (i := 2) rfl)
  have hP : va_P G vwCl (mk Z b (al, ke, hs, hq, sl, sa, off, car, pa, pq, sp, nu, dn, er)) s.heap := hP
  have hl := lv_entry ([.ref (b 0)]) (n := 2) (Nat.le_of_ble_eq_true rfl)
  rw [lg_entry_eq]
  generalize (lg_sl ([.ref (b 0)]) ++ List.replicate (2 - (lg_sl ([.ref (b 0)])).length) Slot.unset).toArray = ls at hl ⊢
  have hl : lv_has ls 2 [(0, .ref (b 0))] := hl
  refine lv_aload_n hx hb dX8_doZero_0 rfl (lv_at hl 0 rfl) ?_
  refine va_get (D := G) (ci := 8) (v := .ref (b 1)) (C := RX8) (T := TX8) (N := 14) hx hb hts iX8 hown hK hP 0 rfl rfl 0 (by decide) k_7 (fun _ h9 => h9) rfl dX8_doZero_1 ?_
  refine lv_iconst (v := 5) hx hb dX8_doZero_4 (by decide) ?_
  refine zIald (f := al) hx hb hK hP 1 0 rfl rfl 5 (by decide) (by decide) (by decide) dX8_doZero_5 ?_
  refine lv_istore_n (lv' := [(1, .int (al 5)), (0, .ref (b 0))]) hx hb dX8_doZero_6 rfl hl (by decide) rfl (fun ls hl => ?_)
  refine lv_aload_n hx hb dX8_doZero_7 rfl (lv_at hl 1 rfl) ?_
  refine va_get (D := G) (ci := 8) (v := .ref (b 1)) (C := RX8) (T := TX8) (N := 14) hx hb hts iX8 hown hK hP 0 rfl rfl 0 (by decide) k_7 (fun _ h9 => h9) rfl dX8_doZero_8 ?_
  refine lv_iconst (v := 5) hx hb dX8_doZero_11 (by decide) ?_
  refine lv_iconst (v := 0) hx hb dX8_doZero_12 (by decide) ?_
  refine zIast (f := al) hx hb hK hP hD hS 1 0 rfl rfl 5 (by decide) (by decide) (by decide) dX8_doZero_13 (fun H locs hP hD hS => ?_)
  have hP : va_P G vwCl (mk Z b ((upd al 5 0), ke, hs, hq, sl, sa, off, car, pa, pq, sp, nu, dn, er)) H := hP
  have hD : va_D A (mk Z b ((upd al 5 0), ke, hs, hq, sl, sa, off, car, pa, pq, sp, nu, dn, er)) := hD
  refine lv_aload_n hx hb dX8_doZero_14 rfl (lv_at hl 1 rfl) ?_
  refine va_get (D := G) (ci := 8) (v := .ref (b 1)) (C := RX8) (T := TX8) (N := 14) hx hb hts iX8 hown hK hP 0 rfl rfl 0 (by decide) k_7 (fun _ h9 => h9) rfl dX8_doZero_15 ?_
  refine lv_bipush (v := 6) hx hb dX8_doZero_18 (by decide) ?_
  refine lv_iconst (v := 0) hx hb dX8_doZero_20 (by decide) ?_
  refine zIast (f := (upd al 5 0)) hx hb hK hP hD hS 1 0 rfl rfl 6 (by decide) (by decide) (by decide) dX8_doZero_21 (fun H locs hP hD hS => ?_)
  have hP : va_P G vwCl (mk Z b ((upd (upd al 5 0) 6 0), ke, hs, hq, sl, sa, off, car, pa, pq, sp, nu, dn, er)) H := hP
  have hD : va_D A (mk Z b ((upd (upd al 5 0) 6 0), ke, hs, hq, sl, sa, off, car, pa, pq, sp, nu, dn, er)) := hD
  refine lv_iload_n hx hb dX8_doZero_22 rfl (lv_at hl 0 rfl) ?_
  refine lv_ldc (v := 1000000000) hx hb hown k_98 dX8_doZero_23 ?_
  refine lv_iadd hx hb dX8_doZero_25 ?_
  exact W.iret hx hb hr (zEi () (by
      rfl) hP hD hS) hS.2.2 dX8_doZero_26

set_option maxHeartbeats 4000000 in
set_option maxRecDepth 100000 in
theorem m_X8_of (l : Launch) (G : va_G) (Z : Nat → ClassId) (sz : Nat) (b : Nat → Nat) (al : Nat → Int32) (ke : Nat → Int32) (hs : Nat → Int32) (hq : Nat) (sl : Nat → Int32) (sa : Nat → Int32) (off : Int32) (car : Int32) (pa : Nat → Int32) (pq : Nat) (sp : Nat) (nu : Int32) (dn : Int32) (er : Int32) (ago : Int32) (what : Int32) (ja : Nat) (jw : Nat) (ha : ago = nI ja) (hw : what = nI jw) (hja : ja < 48) (hjw : jw < 7) : Met l yX8_of wsX8_of ({ frames := 0, cells := 0, slots := 0, locals := 0 }) (va_Pc [.ref (b 0), .int ago, .int what] (zWP G Z sz (mk Z b (al, ke, hs, hq, sl, sa, off, car, pa, pq, sp, nu, dn, er)))) (va_Qi (fun (r : Int32) (u : Unit) => r = al (11 + 7 * ja + jw)) (fun (u : Unit) t => zB G (va_A (mk Z b (al, ke, hs, hq, sl, sa, off, car, pa, pq, sp, nu, dn, er)) sz) (mk Z b (al, ke, hs, hq, sl, sa, off, car, pa, pq, sp, nu, dn, er)) t) (va_A (mk Z b (al, ke, hs, hq, sl, sa, off, car, pa, pq, sp, nu, dn, er)) sz)) 0 0 (va_A (mk Z b (al, ke, hs, hq, sl, sa, off, car, pa, pq, sp, nu, dn, er)) sz) := by
  refine Met.ofW (cc := cX8_of) (maxL := 3) (ret := (some .int)) (by decide) rfl ?_
  intro p e s m args below meth c s₁ B hml hv
  have hx := B.exec
  have hb := B.bytes
  have hr := B.returns
  have hts := atoms_spec (ws := wsX8_of) B.pre
  have hown : s.vm.findClass RX8 = some m.cls := findClass_of_methodNamed B.named
  have hlocks := B.notSynchronized
  obtain ⟨rfl, hsz, hP, hK, hD, hA, hS, hSW⟩ := zEnter hv
  subst hsz
  generalize va_A (mk Z b (al, ke, hs, hq, sl, sa, off, car, pa, pq, sp, nu, dn, er)) s.heap.size = A at hD hA hS hSW ⊢
  have k_7 := hts (.fieldLink RX8 7 "WarmRodsModel" "all" "[I") (List.mem_of_getElem? (i := 1) rfl)
  have iX8 : ∀ w ∈ u_ws RX8 TX8 14, w ∈ wsX8_of := fun _ h => List.mem_cons_of_mem _ (List.mem_append_right _ h)
  have hP : va_P G vwCl (mk Z b (al, ke, hs, hq, sl, sa, off, car, pa, pq, sp, nu, dn, er)) s.heap := hP
  have hl := lv_entry ([.ref (b 0), .int ago, .int what]) (n := 3) (Nat.le_of_ble_eq_true rfl)
  rw [lg_entry_eq]
  generalize (lg_sl ([.ref (b 0), .int ago, .int what]) ++ List.replicate (3 - (lg_sl ([.ref (b 0), .int ago, .int what])).length) Slot.unset).toArray = ls at hl ⊢
  have hl : lv_has ls 3 [(0, .ref (b 0)), (1, .int ago), (2, .int what)] := hl
  refine lv_aload_n hx hb dX8_of_0 rfl (lv_at hl 0 rfl) ?_
  refine va_get (D := G) (ci := 8) (v := .ref (b 1)) (C := RX8) (T := TX8) (N := 14) hx hb hts iX8 hown hK hP 0 rfl rfl 0 (by decide) k_7 (fun _ h9 => h9) rfl dX8_of_1 ?_
  refine lv_bipush (v := 11) hx hb dX8_of_4 (by decide) ?_
  refine lv_bipush (v := 7) hx hb dX8_of_6 (by decide) ?_
  refine lv_iload_n hx hb dX8_of_8 rfl (lv_at hl 1 rfl) ?_
  refine lv_imul hx hb dX8_of_9 ?_
  refine lv_iadd hx hb dX8_of_10 ?_
  refine lv_iload_n hx hb dX8_of_11 rfl (lv_at hl 2 rfl) ?_
  refine lv_iadd hx hb dX8_of_12 ?_
  refine zIald (f := al) hx hb hK hP 1 0 rfl rfl (11 + 7 * ja + jw) (by rw [ha, hw, show (11 : Int32) = nI 11 from rfl, show (7 : Int32) = nI 7 from rfl, pk_mul, nI_add, nI_add]) (by omega) (by decide) dX8_of_13 ?_
  exact W.iret hx hb hr (zEi () (by
      rfl) hP hD hS) hS.2.2 dX8_of_14

set_option maxHeartbeats 4000000 in
set_option maxRecDepth 100000 in
theorem m_X8_doPass (l : Launch) (G : va_G) (Z : Nat → ClassId) (sz : Nat) (b : Nat → Nat) (al : Nat → Int32) (ke : Nat → Int32) (hs : Nat → Int32) (hq : Nat) (sl : Nat → Int32) (sa : Nat → Int32) (off : Int32) (car : Int32) (pa : Nat → Int32) (pq : Nat) (sp : Nat) (nu : Int32) (dn : Int32) (er : Int32) (L : Nat) (ht : Int32) (ar : Int32) (rd : Int32) (mo : Int32) (hL : al 9 = nI L) (hL8 : L ≤ 48) : Met l yX8_doPass wsX8_doPass ({ frames := 3, cells := 0, slots := 0, locals := 73 }) (va_Pc [.ref (b 0), .int ht, .int ar, .int rd, .int mo] (zWP G Z sz (mk Z b (al, ke, hs, hq, sl, sa, off, car, pa, pq, sp, nu, dn, er)))) (va_Qi (fun (r : Int32) (u : (Nat → Int32) × Int32 × Int32) => r = mPaR al L ht ar rd mo ∧ u.1 = mPaA al L ht ar rd mo) (fun (u : (Nat → Int32) × Int32 × Int32) t => zB G (va_A (mk Z b (al, ke, hs, hq, sl, sa, off, car, pa, pq, sp, nu, dn, er)) sz) (mk Z b (u.1, ke, hs, hq, sl, sa, u.2.1, u.2.2, pa, pq, sp, nu, dn, er)) t) (va_A (mk Z b (al, ke, hs, hq, sl, sa, off, car, pa, pq, sp, nu, dn, er)) sz)) 0 0 (va_A (mk Z b (al, ke, hs, hq, sl, sa, off, car, pa, pq, sp, nu, dn, er)) sz) := by
  refine Met.ofW (cc := cX8_doPass) (maxL := 7) (ret := (some .int)) (by decide) rfl ?_
  intro p e s m args below meth c s₁ B hml hv
  have hx := B.exec
  have hb := B.bytes
  have hr := B.returns
  have hts := atoms_spec (ws := wsX8_doPass) B.pre
  have hown : s.vm.findClass RX8 = some m.cls := findClass_of_methodNamed B.named
  have hlocks := B.notSynchronized
  obtain ⟨rfl, hsz, hP, hK, hD, hA, hS, hSW⟩ := zEnter hv
  subst hsz
  generalize va_A (mk Z b (al, ke, hs, hq, sl, sa, off, car, pa, pq, sp, nu, dn, er)) s.heap.size = A at hD hA hS hSW ⊢
  have k_73 := hts (.constantLong RX8 73 (99)) (List.mem_of_getElem? (i := 1) rfl)
  have k_7 := hts (.fieldLink RX8 7 "WarmRodsModel" "all" "[I") (List.mem_of_getElem? (i := 2) rfl)
  have iX8 : ∀ w ∈ u_ws RX8 TX8 14, w ∈ wsX8_doPass := fun _ h => List.mem_cons_of_mem _ (List.mem_append_right _ h)
  have hP : va_P G vwCl (mk Z b (al, ke, hs, hq, sl, sa, off, car, pa, pq, sp, nu, dn, er)) s.heap := hP
  have hl := lv_entry ([.ref (b 0), .int ht, .int ar, .int rd, .int mo]) (n := 7) (Nat.le_of_ble_eq_true rfl)
  rw [lg_entry_eq]
  generalize (lg_sl ([.ref (b 0), .int ht, .int ar, .int rd, .int mo]) ++ List.replicate (7 - (lg_sl ([.ref (b 0), .int ht, .int ar, .int rd, .int mo])).length) Slot.unset).toArray = ls at hl ⊢
  have hl : lv_has ls 7 [(0, .ref (b 0)), (1, .int ht), (2, .int ar), (3, .int rd), (4, .int mo)] := hl
  refine lv_iload_n hx hb dX8_doPass_0 rfl (lv_at hl 1 rfl) ?_
  refine zCi (S := Unit) (ws1 := fun u => mk Z b (al, ke, hs, hq, sl, sa, off, car, pa, pq, sp, nu, dn, er)) (wr := mk Z b (al, ke, hs, hq, sl, sa, off, car, pa, pq, sp, nu, dn, er)) (va_runS (As := [.int ht]) (rest := []) ⟨hx, hb, hml, hown, hts⟩ (m_X8_isHeat l G Z _ ht) (va_cwS 1 hts gX8_doPass_X8_isHeat rfl rfl rfl (by decide +kernel) ⟨Nat.le_of_ble_eq_true rfl, Nat.le_of_ble_eq_true rfl⟩) (zPreS hK hP hD hS hA hSW [] rfl (by decide)) rfl rfl hl.1 rfl (lv_room (Nat.le_of_ble_eq_true rfl)) dX8_doPass_1 ⟨Nat.le_of_ble_eq_true rfl, Nat.le_of_ble_eq_true rfl⟩) hP hD hS hA [] [0, 1, 2, 3, 4, 5, 6] [0, 1, 2, 3, 4, 5, 6] rfl rfl (by decide) (by decide) (by decide) (fun _ => rfl) (fun r1 u H locs hw1 hP hD hS => ?_)
  try dsimp only at hw1
  subst hw1
  have hP : va_P G vwCl (mk Z b (al, ke, hs, hq, sl, sa, off, car, pa, pq, sp, nu, dn, er)) H := hP
  have hD : va_D A (mk Z b (al, ke, hs, hq, sl, sa, off, car, pa, pq, sp, nu, dn, er)) := hD
  refine lv_if_eq (tgt := 37) hx hb dX8_doPass_4 (by decide) (fun c4 => ?_) (fun c4 => ?_)
  · refine lv_bipush (v := (-2)) hx hb dX8_doPass_37 (by decide) ?_
    exact W.iret hx hb hr (zEi (al, off, car) (by
        have h0 : cErrH (al 4) ht ar rd mo = -2 := by rw [cErrH_eq]; simp only [eq_true c4, ↓reduceIte]
        rw [mPaR, mPaA, h0, if_neg (by decide), if_neg (by decide)]
        exact ⟨rfl, rfl⟩) hP hD hS) hS.2.2 dX8_doPass_39
  · refine lv_iload_n hx hb dX8_doPass_7 rfl (lv_at hl 2 rfl) ?_
    refine zCi (S := Unit) (ws1 := fun u => mk Z b (al, ke, hs, hq, sl, sa, off, car, pa, pq, sp, nu, dn, er)) (wr := mk Z b (al, ke, hs, hq, sl, sa, off, car, pa, pq, sp, nu, dn, er)) (va_runS (As := [.int ar]) (rest := []) ⟨hx, hb, hml, hown, hts⟩ (m_X8_isAir l G Z _ ar) (va_cwS 1 hts gX8_doPass_X8_isAir rfl rfl rfl (by decide +kernel) ⟨Nat.le_of_ble_eq_true rfl, Nat.le_of_ble_eq_true rfl⟩) (zPreS hK hP hD hS hA hSW [] rfl (by decide)) rfl rfl hl.1 rfl (lv_room (Nat.le_of_ble_eq_true rfl)) dX8_doPass_8 ⟨Nat.le_of_ble_eq_true rfl, Nat.le_of_ble_eq_true rfl⟩) hP hD hS hA [] [0, 1, 2, 3, 4, 5, 6] [0, 1, 2, 3, 4, 5, 6] rfl rfl (by decide) (by decide) (by decide) (fun _ => rfl) (fun r8 u H locs hw8 hP hD hS => ?_)
    try dsimp only at hw8
    subst hw8
    have hP : va_P G vwCl (mk Z b (al, ke, hs, hq, sl, sa, off, car, pa, pq, sp, nu, dn, er)) H := hP
    have hD : va_D A (mk Z b (al, ke, hs, hq, sl, sa, off, car, pa, pq, sp, nu, dn, er)) := hD
    refine lv_if_eq (tgt := 37) hx hb dX8_doPass_11 (by decide) (fun c11 => ?_) (fun c11 => ?_)
    · refine lv_bipush (v := (-2)) hx hb dX8_doPass_37 (by decide) ?_
      exact W.iret hx hb hr (zEi (al, off, car) (by
          have h0 : cErrH (al 4) ht ar rd mo = -2 := by rw [cErrH_eq]; simp only [c4, eq_true c11, ↓reduceIte]
          rw [mPaR, mPaA, h0, if_neg (by decide), if_neg (by decide)]
          exact ⟨rfl, rfl⟩) hP hD hS) hS.2.2 dX8_doPass_39
    · refine lv_iload_n hx hb dX8_doPass_14 rfl (lv_at hl 3 rfl) ?_
      refine lv_i2l (v := rd.toInt64) hx hb dX8_doPass_15 rfl ?_
      refine lv_lconst (v := 0) hx hb dX8_doPass_16 (by decide) ?_
      refine lv_lconst (v := 1) hx hb dX8_doPass_17 (by decide) ?_
      refine zCi (S := Unit) (ws1 := fun u => mk Z b (al, ke, hs, hq, sl, sa, off, car, pa, pq, sp, nu, dn, er)) (wr := mk Z b (al, ke, hs, hq, sl, sa, off, car, pa, pq, sp, nu, dn, er)) (va_runS (As := [.long rd.toInt64, .long 0, .long 1]) (rest := []) ⟨hx, hb, hml, hown, hts⟩ (m_X8_in l G Z _ rd.toInt64 0 1) (va_cwS 3 hts gX8_doPass_X8_in rfl rfl rfl (by decide +kernel) ⟨Nat.le_of_ble_eq_true rfl, Nat.le_of_ble_eq_true rfl⟩) (zPreS hK hP hD hS hA hSW [] rfl (by decide)) rfl rfl hl.1 rfl (lv_room (Nat.le_of_ble_eq_true rfl)) dX8_doPass_18 ⟨Nat.le_of_ble_eq_true rfl, Nat.le_of_ble_eq_true rfl⟩) hP hD hS hA [] [0, 1, 2, 3, 4, 5, 6] [0, 1, 2, 3, 4, 5, 6] rfl rfl (by decide) (by decide) (by decide) (fun _ => rfl) (fun r18 u H locs hw18 hP hD hS => ?_)
      try dsimp only at hw18
      subst hw18
      have hP : va_P G vwCl (mk Z b (al, ke, hs, hq, sl, sa, off, car, pa, pq, sp, nu, dn, er)) H := hP
      have hD : va_D A (mk Z b (al, ke, hs, hq, sl, sa, off, car, pa, pq, sp, nu, dn, er)) := hD
      refine lv_if_eq (tgt := 37) hx hb dX8_doPass_21 (by decide) (fun c21 => ?_) (fun c21 => ?_)
      · refine lv_bipush (v := (-2)) hx hb dX8_doPass_37 (by decide) ?_
        exact W.iret hx hb hr (zEi (al, off, car) (by
            rw [show mIn rd.toInt64 0 1 = mRng rd 0 1 from mIn_w rd 0 1] at c21
            have h0 : cErrH (al 4) ht ar rd mo = -2 := by rw [cErrH_eq]; simp only [c4, c11, eq_true c21, ↓reduceIte]
            rw [mPaR, mPaA, h0, if_neg (by decide), if_neg (by decide)]
            exact ⟨rfl, rfl⟩) hP hD hS) hS.2.2 dX8_doPass_39
      · refine lv_iload hx hb dX8_doPass_24 (lv_at hl 4 rfl) ?_
        refine lv_i2l (v := mo.toInt64) hx hb dX8_doPass_26 rfl ?_
        refine lv_lconst (v := 1) hx hb dX8_doPass_27 (by decide) ?_
        refine lv_ldc2 (v := 99) hx hb hown k_73 dX8_doPass_28 ?_
        refine zCi (S := Unit) (ws1 := fun u => mk Z b (al, ke, hs, hq, sl, sa, off, car, pa, pq, sp, nu, dn, er)) (wr := mk Z b (al, ke, hs, hq, sl, sa, off, car, pa, pq, sp, nu, dn, er)) (va_runS (As := [.long mo.toInt64, .long 1, .long 99]) (rest := []) ⟨hx, hb, hml, hown, hts⟩ (m_X8_in l G Z _ mo.toInt64 1 99) (va_cwS 3 hts gX8_doPass_X8_in rfl rfl rfl (by decide +kernel) ⟨Nat.le_of_ble_eq_true rfl, Nat.le_of_ble_eq_true rfl⟩) (zPreS hK hP hD hS hA hSW [] rfl (by decide)) rfl rfl hl.1 rfl (lv_room (Nat.le_of_ble_eq_true rfl)) dX8_doPass_31 ⟨Nat.le_of_ble_eq_true rfl, Nat.le_of_ble_eq_true rfl⟩) hP hD hS hA [] [0, 1, 2, 3, 4, 5, 6] [0, 1, 2, 3, 4, 5, 6] rfl rfl (by decide) (by decide) (by decide) (fun _ => rfl) (fun r31 u H locs hw31 hP hD hS => ?_)
        try dsimp only at hw31
        subst hw31
        have hP : va_P G vwCl (mk Z b (al, ke, hs, hq, sl, sa, off, car, pa, pq, sp, nu, dn, er)) H := hP
        have hD : va_D A (mk Z b (al, ke, hs, hq, sl, sa, off, car, pa, pq, sp, nu, dn, er)) := hD
        refine lv_if_ne (tgt := 40) hx hb dX8_doPass_34 (by decide) (fun c34 => ?_) (fun c34 => ?_)
        · refine lv_aload_n hx hb dX8_doPass_40 rfl (lv_at hl 0 rfl) ?_
          refine va_get (D := G) (ci := 8) (v := .ref (b 1)) (C := RX8) (T := TX8) (N := 14) hx hb hts iX8 hown hK hP 0 rfl rfl 0 (by decide) k_7 (fun _ h9 => h9) rfl dX8_doPass_41 ?_
          refine lv_iconst (v := 4) hx hb dX8_doPass_44 (by decide) ?_
          refine zIald (f := al) hx hb hK hP 1 0 rfl rfl 4 (by decide) (by decide) (by decide) dX8_doPass_45 ?_
          refine lv_iload hx hb dX8_doPass_46 (lv_at hl 4 rfl) ?_
          refine lv_iadd hx hb dX8_doPass_48 ?_
          refine lv_sipush (v := 9999) hx hb dX8_doPass_49 (by decide) ?_
          refine lv_icmp_le (tgt := 58) hx hb dX8_doPass_52 (by decide) (fun c52 => ?_) (fun c52 => ?_)
          · rw [show mIn rd.toInt64 0 1 = mRng rd 0 1 from mIn_w rd 0 1] at c21
            rw [show mIn mo.toInt64 1 99 = mRng mo 1 99 from mIn_w mo 1 99] at c34
            have hr99 := zRange (lo := 1) (hi := 99) (by decide) (by decide) c34
            obtain ⟨hmo, hn1, hn99⟩ := hr99
            refine lv_iconst (v := 0) hx hb dX8_doPass_58 (by decide) ?_
            refine lv_istore (lv' := [(5, .int 0), (0, .ref (b 0)), (1, .int ht), (2, .int ar), (3, .int rd), (4, .int mo)]) hx hb dX8_doPass_59 hl (by decide) rfl (fun ls hl => ?_)
            refine lv_iconst (v := 0) hx hb dX8_doPass_61 (by decide) ?_
            refine lv_istore (lv' := [(6, .int 0), (5, .int 0), (0, .ref (b 0)), (1, .int ht), (2, .int ar), (3, .int rd), (4, .int mo)]) hx hb dX8_doPass_62 hl (by decide) rfl (fun ls hl => ?_)
            refine zLoop (σ := Nat × Int32 × Int32) (nL := 7) (fun zx => mk Z b ((mGoN al L ht ar rd zx.1), ke, hs, hq, sl, sa, zx.2.1, zx.2.2, pa, pq, sp, nu, dn, er)) (fun zx => [(6, .int (nI zx.1)), (5, .int (mCntN al L ht ar rd zx.1)), (0, .ref (b 0)), (1, .int ht), (2, .int ar), (3, .int rd), (4, .int mo)]) (fun zx => zx.1 ≤ mo.toNatClampNeg) (fun zx => mo.toNatClampNeg - zx.1) ?_ (0, off, car) (by
                try dsimp only
                omega) hP hD hS (lv_sub hl [0, 1, 2, 3, 4, 5, 6] rfl)
            intro zx hinv64 ih64 H locs ls hP hD hS hl
            obtain ⟨k, o, q⟩ := zx
            try dsimp only at hinv64 ih64
            have hP : va_P G vwCl (mk Z b ((mGoN al L ht ar rd k), ke, hs, hq, sl, sa, o, q, pa, pq, sp, nu, dn, er)) H := hP
            have hD : va_D A (mk Z b ((mGoN al L ht ar rd k), ke, hs, hq, sl, sa, o, q, pa, pq, sp, nu, dn, er)) := hD
            have hl : lv_has ls 7 [(6, .int (nI k)), (5, .int (mCntN al L ht ar rd k)), (0, .ref (b 0)), (1, .int ht), (2, .int ar), (3, .int rd), (4, .int mo)] := hl
            refine lv_iload hx hb dX8_doPass_64 (lv_at hl 0 rfl) ?_
            refine lv_iload hx hb dX8_doPass_66 (lv_at hl 6 rfl) ?_
            refine lv_icmp_ge (tgt := 97) hx hb dX8_doPass_68 (by decide) (fun c68 => ?_) (fun c68 => ?_)
            · refine lv_iload hx hb dX8_doPass_97 (lv_at hl 1 rfl) ?_
              exact W.iret hx hb hr (zEi ((mGoN al L ht ar rd k), o, q) (by
                  have hk : k = mo.toNatClampNeg := by
                    rw [hmo] at c68
                    have := zLe c68 (by omega) (by omega)
                    omega
                  subst hk
                  have h0 : cErrH (al 4) ht ar rd mo = 0 := by rw [cErrH_eq]; simp only [c4, c11, c21, c34, c52, Int32.not_lt.mpr c52, c68, Int32.not_lt.mpr c68, ↓reduceIte]
                  rw [mPaR, mPaA, if_pos h0, if_pos h0]
                  exact ⟨rfl, rfl⟩) hP hD hS) hS.2.2 dX8_doPass_99
            · refine lv_iload hx hb dX8_doPass_71 (lv_at hl 1 rfl) ?_
              refine lv_aload_n hx hb dX8_doPass_73 rfl (lv_at hl 2 rfl) ?_
              refine lv_iload_n hx hb dX8_doPass_74 rfl (lv_at hl 3 rfl) ?_
              refine lv_iload_n hx hb dX8_doPass_75 rfl (lv_at hl 4 rfl) ?_
              refine lv_iload_n hx hb dX8_doPass_76 rfl (lv_at hl 5 rfl) ?_
              refine zCi (S := (Nat → Int32) × Int32 × Int32) (ws1 := fun u => mk Z b (u.1, ke, hs, hq, sl, sa, u.2.1, u.2.2, pa, pq, sp, nu, dn, er)) (wr := []) (va_runV (As := [.int ht, .int ar, .int rd]) (rest := [.int (mCntN al L ht ar rd k)]) ⟨hx, hb, hml, hown, hts⟩ (m_X8_passes l G Z _ b (mGoN al L ht ar rd k) ke hs hq sl sa o q pa pq sp nu dn er (mLenN L k) ht ar rd (by
                  exact mGoN_9 hL k) (by
                  exact mLenN_le hL8 k)) (cwV 3 hts gX8_doPass_X8_passes rfl rfl rfl (by decide +kernel) ⟨Nat.le_of_ble_eq_true rfl, Nat.le_of_ble_eq_true rfl⟩) (zPreV hK hP hD hS hA hSW [0, 1, 2, 3, 4, 5, 6] rfl (by decide) 0 (ci := 8) rfl rfl rfl) rfl rfl hl.1 rfl (lv_room (Nat.le_of_ble_eq_true rfl)) dX8_doPass_77 ⟨Nat.le_of_ble_eq_true rfl, Nat.le_of_ble_eq_true rfl⟩) hP hD hS hA [0, 1, 2, 3, 4, 5, 6] [] [0, 1, 2, 3, 4, 5, 6] rfl rfl (by decide) (by decide) (by decide) (fun _ => rfl) (fun r77 u H locs hw77 hP hD hS => ?_)
              obtain ⟨al1_77, o1_77, c1_77⟩ := u
              try dsimp only at hw77
              obtain ⟨rfl, rfl⟩ := hw77
              have hP : va_P G vwCl (mk Z b ((mGo (mGoN al L ht ar rd k) (mLenN L k) ht ar rd), ke, hs, hq, sl, sa, o1_77, c1_77, pa, pq, sp, nu, dn, er)) H := hP
              have hD : va_D A (mk Z b ((mGo (mGoN al L ht ar rd k) (mLenN L k) ht ar rd), ke, hs, hq, sl, sa, o1_77, c1_77, pa, pq, sp, nu, dn, er)) := hD
              refine lv_if_eq (tgt := 87) hx hb dX8_doPass_80 (by decide) (fun c80 => ?_) (fun c80 => ?_)
              · refine lv_iconst (v := 0) hx hb dX8_doPass_87 (by decide) ?_
                refine lv_iadd hx hb dX8_doPass_88 ?_
                refine lv_istore (lv' := [(5, .int ((mCntN al L ht ar rd k) + 0)), (6, .int (nI k)), (0, .ref (b 0)), (1, .int ht), (2, .int ar), (3, .int rd), (4, .int mo)]) hx hb dX8_doPass_89 hl (by decide) rfl (fun ls hl => ?_)
                refine lv_iinc (v := (nI (k + 1))) (lv' := [(6, .int (nI (k + 1))), (5, .int ((mCntN al L ht ar rd k) + 0)), (0, .ref (b 0)), (1, .int ht), (2, .int ar), (3, .int rd), (4, .int mo)]) hx hb dX8_doPass_91 hl (k := 1) rfl (nI_succ k).symm (by decide) rfl (fun ls hl => ?_)
                refine lv_goto (tgt := 64) hx hb dX8_doPass_94 (by decide) ?_
                have e_k : mCntN al L ht ar rd (k + 1) = mCntN al L ht ar rd k + 0 := by simp only [mCntN, c80, ↓reduceIte]
                rw [← e_k] at hl
                exact ih64 ((k + 1), o1_77, c1_77) (by
                    try dsimp only
                    rw [hmo] at c68
                    have := zNle c68 (by omega) (by omega)
                    omega) (by
                    try dsimp only
                    rw [hmo] at c68
                    have := zNle c68 (by omega) (by omega)
                    omega) _ _ _ hP hD hS (lv_sub hl [0, 1, 2, 3, 4, 5, 6] rfl)
              · refine lv_iconst (v := 1) hx hb dX8_doPass_83 (by decide) ?_
                refine lv_goto (tgt := 88) hx hb dX8_doPass_84 (by decide) ?_
                refine lv_iadd hx hb dX8_doPass_88 ?_
                refine lv_istore (lv' := [(5, .int ((mCntN al L ht ar rd k) + 1)), (6, .int (nI k)), (0, .ref (b 0)), (1, .int ht), (2, .int ar), (3, .int rd), (4, .int mo)]) hx hb dX8_doPass_89 hl (by decide) rfl (fun ls hl => ?_)
                refine lv_iinc (v := (nI (k + 1))) (lv' := [(6, .int (nI (k + 1))), (5, .int ((mCntN al L ht ar rd k) + 1)), (0, .ref (b 0)), (1, .int ht), (2, .int ar), (3, .int rd), (4, .int mo)]) hx hb dX8_doPass_91 hl (k := 1) rfl (nI_succ k).symm (by decide) rfl (fun ls hl => ?_)
                refine lv_goto (tgt := 64) hx hb dX8_doPass_94 (by decide) ?_
                have e_k : mCntN al L ht ar rd (k + 1) = mCntN al L ht ar rd k + 1 := by simp only [mCntN, c80, ↓reduceIte]
                rw [← e_k] at hl
                exact ih64 ((k + 1), o1_77, c1_77) (by
                    try dsimp only
                    rw [hmo] at c68
                    have := zNle c68 (by omega) (by omega)
                    omega) (by
                    try dsimp only
                    rw [hmo] at c68
                    have := zNle c68 (by omega) (by omega)
                    omega) _ _ _ hP hD hS (lv_sub hl [0, 1, 2, 3, 4, 5, 6] rfl)
          · refine lv_bipush (v := (-5)) hx hb dX8_doPass_55 (by decide) ?_
            exact W.iret hx hb hr (zEi (al, off, car) (by
                rw [show mIn rd.toInt64 0 1 = mRng rd 0 1 from mIn_w rd 0 1] at c21
                rw [show mIn mo.toInt64 1 99 = mRng mo 1 99 from mIn_w mo 1 99] at c34
                have h0 : cErrH (al 4) ht ar rd mo = -5 := by rw [cErrH_eq]; simp only [c4, c11, c21, c34, c52, Int32.not_le.mp c52, ↓reduceIte]
                rw [mPaR, mPaA, h0, if_neg (by decide), if_neg (by decide)]
                exact ⟨rfl, rfl⟩) hP hD hS) hS.2.2 dX8_doPass_57
        · refine lv_bipush (v := (-2)) hx hb dX8_doPass_37 (by decide) ?_
          exact W.iret hx hb hr (zEi (al, off, car) (by
              rw [show mIn rd.toInt64 0 1 = mRng rd 0 1 from mIn_w rd 0 1] at c21
              rw [show mIn mo.toInt64 1 99 = mRng mo 1 99 from mIn_w mo 1 99] at c34
              have h0 : cErrH (al 4) ht ar rd mo = -2 := by rw [cErrH_eq]; simp only [c4, c11, c21, eq_true c34, ↓reduceIte]
              rw [mPaR, mPaA, h0, if_neg (by decide), if_neg (by decide)]
              exact ⟨rfl, rfl⟩) hP hD hS) hS.2.2 dX8_doPass_39
