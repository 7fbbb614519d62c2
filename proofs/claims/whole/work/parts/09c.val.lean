set_option maxHeartbeats 4000000 in
set_option maxRecDepth 100000 in
theorem m_X5_readValue (l : Launch) (G : va_G) (Z : Nat → ClassId) (sz : Nat) (a : Nat → Nat) (si : Nat → Int32) (le : Nat) (pp : Nat) (nu : Int32) (od : Int32) (va : Int32) (ai : Int32) (rd : Int32) (hh : Int32) (hp : pp ≤ 80) (hle : le ≤ 80) : Met l yX5_readValue wsX5_readValue ({ frames := 2, cells := 0, slots := 0, locals := 42 }) (va_Pc [.ref (a 0)] (zWP G Z sz (rk Z a (si, le, pp, nu, od, va, ai, rd, hh)))) (va_Qi (fun (r : Int32) (u : Nat × Int32 × Int32) => r = rVaR si le pp ∧ u.1 = rVaP si le pp ∧ u.2.1 = rVaN si le pp ∧ u.2.2 = rVaV si le pp va) (fun (u : Nat × Int32 × Int32) t => zB G (va_A (rk Z a (si, le, pp, nu, od, va, ai, rd, hh)) sz) (rk Z a (si, le, u.1, u.2.1, od, u.2.2, ai, rd, hh)) t) (va_A (rk Z a (si, le, pp, nu, od, va, ai, rd, hh)) sz)) 0 0 (va_A (rk Z a (si, le, pp, nu, od, va, ai, rd, hh)) sz) := by
  refine Met.ofW (cc := cX5_readValue) (maxL := 2) (ret := (some .boolean)) (by decide) rfl ?_
  intro p e s m args below meth c s₁ B hml hv
  have hx := B.exec
  have hb := B.bytes
  have hr := B.returns
  have hts := atoms_spec (ws := wsX5_readValue) B.pre
  have hown : s.vm.findClass RX5 = some m.cls := findClass_of_methodNamed B.named
  have hlocks := B.notSynchronized
  obtain ⟨rfl, hsz, hP, hK, hD, hA, hS, hSW⟩ := zEnter hv
  subst hsz
  generalize va_A (rk Z a (si, le, pp, nu, od, va, ai, rd, hh)) s.heap.size = A at hD hA hS hSW ⊢
  have k_55 := hts (.fieldLink RX5 55 "WarmRods$Reader" "number" "I") (List.mem_of_getElem? (i := 1) rfl)
  have iX5 : ∀ w ∈ u_ws RX5 TX5 8, w ∈ wsX5_readValue := fun _ h => List.mem_cons_of_mem _ (List.mem_append_left _ (List.mem_append_right _ h))
  have k_67 := hts (.fieldLink RX5 67 "WarmRods$Reader" "value" "I") (List.mem_of_getElem? (i := 2) rfl)
  have hP : va_P G vwCl (rk Z a (si, le, pp, nu, od, va, ai, rd, hh)) s.heap := hP
  have hl := lv_entry ([.ref (a 0)]) (n := 2) (Nat.le_of_ble_eq_true rfl)
  rw [lg_entry_eq]
  generalize (lg_sl ([.ref (a 0)]) ++ List.replicate (2 - (lg_sl ([.ref (a 0)])).length) Slot.unset).toArray = ls at hl ⊢
  have hl : lv_has ls 2 [(0, .ref (a 0))] := hl
  refine lv_aload_n hx hb dX5_readValue_0 rfl (lv_at hl 0 rfl) ?_
  refine lv_bipush (v := 45) hx hb dX5_readValue_1 (by decide) ?_
  refine zCi (S := Nat) (ws1 := fun u => rk Z a (si, le, u, nu, od, va, ai, rd, hh)) (wr := []) (va_runV (As := [.int 45]) (rest := []) ⟨hx, hb, hml, hown, hts⟩ (m_X5_readSign l G Z _ a si le pp nu od va ai rd hh 45 (by
      omega) (by
      omega)) (cwV 1 hts gX5_readValue_X5_readSign rfl rfl rfl (by decide +kernel) ⟨Nat.le_of_ble_eq_true rfl, Nat.le_of_ble_eq_true rfl⟩) (zPreV hK hP hD hS hA hSW [0, 1, 2] rfl (by decide) 0 (ci := 5) rfl rfl rfl) rfl rfl hl.1 rfl (lv_room (Nat.le_of_ble_eq_true rfl)) dX5_readValue_3 ⟨Nat.le_of_ble_eq_true rfl, Nat.le_of_ble_eq_true rfl⟩) hP hD hS hA [0, 1, 2] [] [0, 1, 2] rfl rfl (by decide) (by decide) (by decide) (fun _ => rfl) (fun r3 u H locs hw3 hP hD hS => ?_)
  obtain ⟨p1_3, rfl⟩ : ∃ z, z = u := ⟨_, rfl⟩
  try dsimp only at hw3
  obtain ⟨rfl, rfl⟩ := hw3
  have hP : va_P G vwCl (rk Z a (si, le, (rSgP si le pp 45), nu, od, va, ai, rd, hh)) H := hP
  have hD : va_D A (rk Z a (si, le, (rSgP si le pp 45), nu, od, va, ai, rd, hh)) := hD
  refine lv_istore_n (lv' := [(1, .int (rSgR si le pp 45)), (0, .ref (a 0))]) hx hb dX5_readValue_6 rfl hl (by decide) rfl (fun ls hl => ?_)
  refine lv_aload_n hx hb dX5_readValue_7 rfl (lv_at hl 1 rfl) ?_
  refine zCi (S := Nat × Int32) (ws1 := fun u => rk Z a (si, le, u.1, u.2, od, va, ai, rd, hh)) (wr := []) (va_runV (As := []) (rest := []) ⟨hx, hb, hml, hown, hts⟩ (m_X5_readNumber l G Z _ a si le (rSgP si le pp 45) nu od va ai rd hh (by
      exact rSgP_le (by decide) hp) (by
      omega)) (cwV 0 hts gX5_readValue_X5_readNumber rfl rfl rfl (by decide +kernel) ⟨Nat.le_of_ble_eq_true rfl, Nat.le_of_ble_eq_true rfl⟩) (zPreV hK hP hD hS hA hSW [0, 1, 2] rfl (by decide) 0 (ci := 5) rfl rfl rfl) rfl rfl hl.1 rfl (lv_room (Nat.le_of_ble_eq_true rfl)) dX5_readValue_8 ⟨Nat.le_of_ble_eq_true rfl, Nat.le_of_ble_eq_true rfl⟩) hP hD hS hA [0, 1, 2] [] [0, 1, 2] rfl rfl (by decide) (by decide) (by decide) (fun _ => rfl) (fun r8 u H locs hw8 hP hD hS => ?_)
  obtain ⟨p1_8, nu1_8⟩ := u
  try dsimp only at hw8
  obtain ⟨rfl, rfl, rfl⟩ := hw8
  have hP : va_P G vwCl (rk Z a (si, le, (rNumP si le (rSgP si le pp 45)), (rNumN si le (rSgP si le pp 45)), od, va, ai, rd, hh)) H := hP
  have hD : va_D A (rk Z a (si, le, (rNumP si le (rSgP si le pp 45)), (rNumN si le (rSgP si le pp 45)), od, va, ai, rd, hh)) := hD
  refine lv_if_ne (tgt := 16) hx hb dX5_readValue_11 (by decide) (fun c11 => ?_) (fun c11 => ?_)
  · refine lv_aload_n hx hb dX5_readValue_16 rfl (lv_at hl 1 rfl) ?_
    refine lv_iload_n hx hb dX5_readValue_17 rfl (lv_at hl 0 rfl) ?_
    refine lv_if_eq (tgt := 29) hx hb dX5_readValue_18 (by decide) (fun c18 => ?_) (fun c18 => ?_)
    · refine lv_aload_n hx hb dX5_readValue_29 rfl (lv_at hl 1 rfl) ?_
      refine va_get (D := G) (ci := 5) (v := .int (rNumN si le (rSgP si le pp 45))) (C := RX5) (T := TX5) (N := 8) hx hb hts iX5 hown hK hP 0 rfl rfl 2 (by decide) k_55 (fun _ h9 => h9) rfl dX5_readValue_30 ?_
      refine va_put (D := G) (ci := 5) (v := .int (rNumN si le (rSgP si le pp 45))) (ty := .int) (C := RX5) (T := TX5) (N := 8) hx hb hts iX5 tyX5 tyX5_ok nmX5 hown hK hP hD hS 0 rfl rfl 4 (by decide) k_67 (fun _ h9 => h9) rfl (by decide +kernel) rfl rfl (Nat.le_of_ble_eq_true rfl) dX5_readValue_33 (fun H locs hP hD hS => ?_)
      have hP : va_P G vwCl (rk Z a (si, le, (rNumP si le (rSgP si le pp 45)), (rNumN si le (rSgP si le pp 45)), od, (rNumN si le (rSgP si le pp 45)), ai, rd, hh)) H := hP
      have hD : va_D A (rk Z a (si, le, (rNumP si le (rSgP si le pp 45)), (rNumN si le (rSgP si le pp 45)), od, (rNumN si le (rSgP si le pp 45)), ai, rd, hh)) := hD
      refine lv_iconst (v := 1) hx hb dX5_readValue_36 (by decide) ?_
      exact W.zret hx hb hr (rfl) (zEi ((rNumP si le (rSgP si le pp 45)), (rNumN si le (rSgP si le pp 45)), (rNumN si le (rSgP si le pp 45))) (by
          have hR := (rNumR_b si le (rSgP si le pp 45)).resolve_left c11
          simp only [rVaR, rVaP, rVaN, rVaV, hR, c11, eq_true c18, z10, ↓reduceIte, and_self]) hP hD hS) hS.2.2 dX5_readValue_37
    · refine lv_aload_n hx hb dX5_readValue_21 rfl (lv_at hl 1 rfl) ?_
      refine va_get (D := G) (ci := 5) (v := .int (rNumN si le (rSgP si le pp 45))) (C := RX5) (T := TX5) (N := 8) hx hb hts iX5 hown hK hP 0 rfl rfl 2 (by decide) k_55 (fun _ h9 => h9) rfl dX5_readValue_22 ?_
      refine lv_ineg hx hb dX5_readValue_25 ?_
      refine lv_goto (tgt := 33) hx hb dX5_readValue_26 (by decide) ?_
      refine va_put (D := G) (ci := 5) (v := .int (-(rNumN si le (rSgP si le pp 45)))) (ty := .int) (C := RX5) (T := TX5) (N := 8) hx hb hts iX5 tyX5 tyX5_ok nmX5 hown hK hP hD hS 0 rfl rfl 4 (by decide) k_67 (fun _ h9 => h9) rfl (by decide +kernel) rfl rfl (Nat.le_of_ble_eq_true rfl) dX5_readValue_33 (fun H locs hP hD hS => ?_)
      have hP : va_P G vwCl (rk Z a (si, le, (rNumP si le (rSgP si le pp 45)), (rNumN si le (rSgP si le pp 45)), od, (-(rNumN si le (rSgP si le pp 45))), ai, rd, hh)) H := hP
      have hD : va_D A (rk Z a (si, le, (rNumP si le (rSgP si le pp 45)), (rNumN si le (rSgP si le pp 45)), od, (-(rNumN si le (rSgP si le pp 45))), ai, rd, hh)) := hD
      refine lv_iconst (v := 1) hx hb dX5_readValue_36 (by decide) ?_
      exact W.zret hx hb hr (rfl) (zEi ((rNumP si le (rSgP si le pp 45)), (rNumN si le (rSgP si le pp 45)), (-(rNumN si le (rSgP si le pp 45)))) (by
          have hR := (rNumR_b si le (rSgP si le pp 45)).resolve_left c11
          simp only [rVaR, rVaP, rVaN, rVaV, hR, c11, c18, z10, ↓reduceIte, and_self]) hP hD hS) hS.2.2 dX5_readValue_37
  · refine lv_iconst (v := 0) hx hb dX5_readValue_14 (by decide) ?_
    exact W.zret hx hb hr (rfl) (zEi ((rNumP si le (rSgP si le pp 45)), (rNumN si le (rSgP si le pp 45)), va) (by
        have hR := c11
        simp only [rVaR, rVaP, rVaN, rVaV, hR, eq_true c11, z10, ↓reduceIte, and_self]) hP hD hS) hS.2.2 dX5_readValue_15

set_option maxHeartbeats 4000000 in
set_option maxRecDepth 100000 in
theorem m_X5_readWeight (l : Launch) (G : va_G) (Z : Nat → ClassId) (sz : Nat) (a : Nat → Nat) (si : Nat → Int32) (le : Nat) (pp : Nat) (nu : Int32) (od : Int32) (va : Int32) (ai : Int32) (rd : Int32) (hh : Int32) (hp : pp ≤ 80) (hle : le ≤ 80) : Met l yX5_readWeight wsX5_readWeight ({ frames := 1, cells := 0, slots := 0, locals := 21 }) (va_Pc [.ref (a 0)] (zWP G Z sz (rk Z a (si, le, pp, nu, od, va, ai, rd, hh)))) (va_Qi (fun (r : Int32) (u : Nat × Int32) => r = rWtR si le pp ∧ u.1 = rWtP si le pp ∧ u.2 = rWtV si le pp va) (fun (u : Nat × Int32) t => zB G (va_A (rk Z a (si, le, pp, nu, od, va, ai, rd, hh)) sz) (rk Z a (si, le, u.1, nu, od, u.2, ai, rd, hh)) t) (va_A (rk Z a (si, le, pp, nu, od, va, ai, rd, hh)) sz)) 0 0 (va_A (rk Z a (si, le, pp, nu, od, va, ai, rd, hh)) sz) := by
  refine Met.ofW (cc := cX5_readWeight) (maxL := 2) (ret := (some .boolean)) (by decide) rfl ?_
  intro p e s m args below meth c s₁ B hml hv
  have hx := B.exec
  have hb := B.bytes
  have hr := B.returns
  have hts := atoms_spec (ws := wsX5_readWeight) B.pre
  have hown : s.vm.findClass RX5 = some m.cls := findClass_of_methodNamed B.named
  have hlocks := B.notSynchronized
  obtain ⟨rfl, hsz, hP, hK, hD, hA, hS, hSW⟩ := zEnter hv
  subst hsz
  generalize va_A (rk Z a (si, le, pp, nu, od, va, ai, rd, hh)) s.heap.size = A at hD hA hS hSW ⊢
  have k_12 := hts (.fieldLink RX5 12 "WarmRods$Reader" "pad" "LWarmRods$Pad;") (List.mem_of_getElem? (i := 1) rfl)
  have iX5 : ∀ w ∈ u_ws RX5 TX5 8, w ∈ wsX5_readWeight := fun _ h => List.mem_cons_of_mem _ (List.mem_append_left _ (List.mem_append_right _ h))
  have k_18 := hts (.fieldLink RX5 18 "WarmRods$Reader" "place" "I") (List.mem_of_getElem? (i := 2) rfl)
  have k_67 := hts (.fieldLink RX5 67 "WarmRods$Reader" "value" "I") (List.mem_of_getElem? (i := 3) rfl)
  have hP : va_P G vwCl (rk Z a (si, le, pp, nu, od, va, ai, rd, hh)) s.heap := hP
  have hl := lv_entry ([.ref (a 0)]) (n := 2) (Nat.le_of_ble_eq_true rfl)
  rw [lg_entry_eq]
  generalize (lg_sl ([.ref (a 0)]) ++ List.replicate (2 - (lg_sl ([.ref (a 0)])).length) Slot.unset).toArray = ls at hl ⊢
  have hl : lv_has ls 2 [(0, .ref (a 0))] := hl
  refine lv_aload_n hx hb dX5_readWeight_0 rfl (lv_at hl 0 rfl) ?_
  refine va_get (D := G) (ci := 5) (v := .ref (a 1)) (C := RX5) (T := TX5) (N := 8) hx hb hts iX5 hown hK hP 0 rfl rfl 0 (by decide) k_12 (fun _ h9 => h9) rfl dX5_readWeight_1 ?_
  refine lv_aload_n hx hb dX5_readWeight_4 rfl (lv_at hl 0 rfl) ?_
  refine va_get (D := G) (ci := 5) (v := .int (nI pp)) (C := RX5) (T := TX5) (N := 8) hx hb hts iX5 hown hK hP 0 rfl rfl 1 (by decide) k_18 (fun _ h9 => h9) rfl dX5_readWeight_5 ?_
  refine zCi (S := Unit) (ws1 := fun u => rk Z a (si, le, pp, nu, od, va, ai, rd, hh)) (wr := [((a 0), .inr (5, [.ref (a 1), .int (nI pp), .int nu, .int od, .int va, .int ai, .int rd, .int hh]))]) (va_runV (As := [.int (nI pp)]) (rest := []) ⟨hx, hb, hml, hown, hts⟩ (m_X4_signAt l G Z _ (a 1) (a 2) si le pp (by
      omega) (by
      omega)) (cwV 1 hts gX5_readWeight_X4_signAt rfl rfl rfl (by decide +kernel) ⟨Nat.le_of_ble_eq_true rfl, Nat.le_of_ble_eq_true rfl⟩) (zPreV hK hP hD hS hA hSW [1, 2] rfl (by decide) 1 (ci := 4) rfl rfl rfl) rfl rfl hl.1 rfl (lv_room (Nat.le_of_ble_eq_true rfl)) dX5_readWeight_8 ⟨Nat.le_of_ble_eq_true rfl, Nat.le_of_ble_eq_true rfl⟩) hP hD hS hA [1, 2] [0] [0, 1, 2] rfl rfl (by decide) (by decide) (by decide) (fun _ => rfl) (fun r8 u H locs hw8 hP hD hS => ?_)
  try dsimp only at hw8
  subst hw8
  have hP : va_P G vwCl (rk Z a (si, le, pp, nu, od, va, ai, rd, hh)) H := hP
  have hD : va_D A (rk Z a (si, le, pp, nu, od, va, ai, rd, hh)) := hD
  refine lv_bipush (v := 48) hx hb dX5_readWeight_11 (by decide) ?_
  refine lv_isub hx hb dX5_readWeight_13 ?_
  refine lv_istore_n (lv' := [(1, .int ((pSign si le pp) - 48)), (0, .ref (a 0))]) hx hb dX5_readWeight_14 rfl hl (by decide) rfl (fun ls hl => ?_)
  refine lv_iload_n hx hb dX5_readWeight_15 rfl (lv_at hl 0 rfl) ?_
  refine lv_if_lt (tgt := 25) hx hb dX5_readWeight_16 (by decide) (fun c16 => ?_) (fun c16 => ?_)
  · refine lv_iconst (v := 0) hx hb dX5_readWeight_25 (by decide) ?_
    exact W.zret hx hb hr (rfl) (zEi (pp, va) (by
        simp only [rWtR, rWtP, rWtV, z10, c16, Int32.not_le.mpr c16, ↓reduceIte, and_self]) hP hD hS) hS.2.2 dX5_readWeight_26
  · refine lv_iload_n hx hb dX5_readWeight_19 rfl (lv_at hl 0 rfl) ?_
    refine lv_bipush (v := 8) hx hb dX5_readWeight_20 (by decide) ?_
    refine lv_icmp_lt (tgt := 27) hx hb dX5_readWeight_22 (by decide) (fun c22 => ?_) (fun c22 => ?_)
    · refine lv_aload_n hx hb dX5_readWeight_27 rfl (lv_at hl 1 rfl) ?_
      refine lv_iload_n hx hb dX5_readWeight_28 rfl (lv_at hl 0 rfl) ?_
      refine va_put (D := G) (ci := 5) (v := .int ((pSign si le pp) - 48)) (ty := .int) (C := RX5) (T := TX5) (N := 8) hx hb hts iX5 tyX5 tyX5_ok nmX5 hown hK hP hD hS 0 rfl rfl 4 (by decide) k_67 (fun _ h9 => h9) rfl (by decide +kernel) rfl rfl (Nat.le_of_ble_eq_true rfl) dX5_readWeight_29 (fun H locs hP hD hS => ?_)
      have hP : va_P G vwCl (rk Z a (si, le, pp, nu, od, ((pSign si le pp) - 48), ai, rd, hh)) H := hP
      have hD : va_D A (rk Z a (si, le, pp, nu, od, ((pSign si le pp) - 48), ai, rd, hh)) := hD
      refine lv_aload_n hx hb dX5_readWeight_32 rfl (lv_at hl 1 rfl) ?_
      refine lv_dup hx hb dX5_readWeight_33 rfl ?_
      refine va_get (D := G) (ci := 5) (v := .int (nI pp)) (C := RX5) (T := TX5) (N := 8) hx hb hts iX5 hown hK hP 0 rfl rfl 1 (by decide) k_18 (fun _ h9 => h9) rfl dX5_readWeight_34 ?_
      refine lv_iconst (v := 1) hx hb dX5_readWeight_37 (by decide) ?_
      refine lv_iadd hx hb dX5_readWeight_38 ?_
      refine zTopI (y := (nI (pp + 1))) (nI_succ pp).symm ?_
      refine va_put (D := G) (ci := 5) (v := .int (nI (pp + 1))) (ty := .int) (C := RX5) (T := TX5) (N := 8) hx hb hts iX5 tyX5 tyX5_ok nmX5 hown hK hP hD hS 0 rfl rfl 1 (by decide) k_18 (fun _ h9 => h9) rfl (by decide +kernel) rfl rfl (Nat.le_of_ble_eq_true rfl) dX5_readWeight_39 (fun H locs hP hD hS => ?_)
      have hP : va_P G vwCl (rk Z a (si, le, (pp + 1), nu, od, ((pSign si le pp) - 48), ai, rd, hh)) H := hP
      have hD : va_D A (rk Z a (si, le, (pp + 1), nu, od, ((pSign si le pp) - 48), ai, rd, hh)) := hD
      refine lv_iconst (v := 1) hx hb dX5_readWeight_42 (by decide) ?_
      exact W.zret hx hb hr (rfl) (zEi ((pp + 1), ((pSign si le pp) - 48)) (by
          simp only [rWtR, rWtP, rWtV, z10, c16, Int32.not_lt.mp c16, c22, Int32.not_le.mpr c22, ↓reduceIte, and_self]) hP hD hS) hS.2.2 dX5_readWeight_43
    · refine lv_iconst (v := 0) hx hb dX5_readWeight_25 (by decide) ?_
      exact W.zret hx hb hr (rfl) (zEi (pp, va) (by
          simp only [rWtR, rWtP, rWtV, z10, c16, Int32.not_lt.mp c16, c22, Int32.not_lt.mp c22, ↓reduceIte, and_self]) hP hD hS) hS.2.2 dX5_readWeight_26
