set_option maxHeartbeats 4000000 in
set_option maxRecDepth 100000 in
theorem m_X5_readHours (l : Launch) (G : va_G) (Z : Nat → ClassId) (sz : Nat) (a : Nat → Nat) (si : Nat → Int32) (le : Nat) (pp : Nat) (nu : Int32) (od : Int32) (va : Int32) (ai : Int32) (rd : Int32) (hh : Int32) (hp : pp ≤ 80) (hle : le ≤ 80) : Met l yX5_readHours wsX5_readHours ({ frames := 3, cells := 0, slots := 0, locals := 63 }) (va_Pc [.ref (a 0)] (zWP G Z sz (rk Z a (si, le, pp, nu, od, va, ai, rd, hh)))) (va_Qi (fun (r : Int32) (u : Nat × Int32 × Int32 × Int32 × Int32 × Int32) => r = (rHrs si le pp va ai rd hh).1 ∧ u.1 = (rHrs si le pp va ai rd hh).2.1 ∧ u.2.1 = (rHrs si le pp va ai rd hh).2.2.1 ∧ u.2.2.1 = (rHrs si le pp va ai rd hh).2.2.2.1 ∧ u.2.2.2.1 = (rHrs si le pp va ai rd hh).2.2.2.2.1 ∧ u.2.2.2.2.1 = (rHrs si le pp va ai rd hh).2.2.2.2.2.1 ∧ u.2.2.2.2.2 = (rHrs si le pp va ai rd hh).2.2.2.2.2.2) (fun (u : Nat × Int32 × Int32 × Int32 × Int32 × Int32) t => zB G (va_A (rk Z a (si, le, pp, nu, od, va, ai, rd, hh)) sz) (rk Z a (si, le, u.1, u.2.1, od, u.2.2.1, u.2.2.2.1, u.2.2.2.2.1, u.2.2.2.2.2)) t) (va_A (rk Z a (si, le, pp, nu, od, va, ai, rd, hh)) sz)) 0 0 (va_A (rk Z a (si, le, pp, nu, od, va, ai, rd, hh)) sz) := by
  refine Met.ofW (cc := cX5_readHours) (maxL := 1) (ret := (some .boolean)) (by decide) rfl ?_
  intro p e s m args below meth c s₁ B hml hv
  have hx := B.exec
  have hb := B.bytes
  have hr := B.returns
  have hts := atoms_spec (ws := wsX5_readHours) B.pre
  have hown : s.vm.findClass RX5 = some m.cls := findClass_of_methodNamed B.named
  have hlocks := B.notSynchronized
  obtain ⟨rfl, hsz, hP, hK, hD, hA, hS, hSW⟩ := zEnter hv
  subst hsz
  generalize va_A (rk Z a (si, le, pp, nu, od, va, ai, rd, hh)) s.heap.size = A at hD hA hS hSW ⊢
  have k_55 := hts (.fieldLink RX5 55 "WarmRods$Reader" "number" "I") (List.mem_of_getElem? (i := 1) rfl)
  have iX5 : ∀ w ∈ u_ws RX5 TX5 8, w ∈ wsX5_readHours := fun _ h => List.mem_cons_of_mem _ (List.mem_append_left _ (List.mem_append_right _ h))
  have k_58 := hts (.fieldLink RX5 58 "WarmRods$Reader" "air" "I") (List.mem_of_getElem? (i := 2) rfl)
  have k_61 := hts (.fieldLink RX5 61 "WarmRods$Reader" "radio" "I") (List.mem_of_getElem? (i := 3) rfl)
  have k_64 := hts (.fieldLink RX5 64 "WarmRods$Reader" "hours" "I") (List.mem_of_getElem? (i := 4) rfl)
  have hP : va_P G vwCl (rk Z a (si, le, pp, nu, od, va, ai, rd, hh)) s.heap := hP
  have hl := lv_entry ([.ref (a 0)]) (n := 1) (Nat.le_of_ble_eq_true rfl)
  rw [lg_entry_eq]
  generalize (lg_sl ([.ref (a 0)]) ++ List.replicate (1 - (lg_sl ([.ref (a 0)])).length) Slot.unset).toArray = ls at hl ⊢
  have hl : lv_has ls 1 [(0, .ref (a 0))] := hl
  refine lv_aload_n hx hb dX5_readHours_0 rfl (lv_at hl 0 rfl) ?_
  refine zCi (S := Nat × Int32 × Int32) (ws1 := fun u => rk Z a (si, le, u.1, u.2.1, od, u.2.2, ai, rd, hh)) (wr := []) (va_runV (As := []) (rest := []) ⟨hx, hb, hml, hown, hts⟩ (m_X5_readValue l G Z _ a si le pp nu od va ai rd hh (by
      omega) (by
      omega)) (cwV 0 hts gX5_readHours_X5_readValue rfl rfl rfl (by decide +kernel) ⟨Nat.le_of_ble_eq_true rfl, Nat.le_of_ble_eq_true rfl⟩) (zPreV hK hP hD hS hA hSW [0, 1, 2] rfl (by decide) 0 (ci := 5) rfl rfl rfl) rfl rfl hl.1 rfl (lv_room (Nat.le_of_ble_eq_true rfl)) dX5_readHours_1 ⟨Nat.le_of_ble_eq_true rfl, Nat.le_of_ble_eq_true rfl⟩) hP hD hS hA [0, 1, 2] [] [0, 1, 2] rfl rfl (by decide) (by decide) (by decide) (fun _ => rfl) (fun r1 u H locs hw1 hP hD hS => ?_)
  obtain ⟨p1_1, nu1_1, va1_1⟩ := u
  try dsimp only at hw1
  obtain ⟨rfl, rfl, rfl, rfl⟩ := hw1
  have hP : va_P G vwCl (rk Z a (si, le, (rVaP si le pp), (rVaN si le pp), od, (rVaV si le pp va), ai, rd, hh)) H := hP
  have hD : va_D A (rk Z a (si, le, (rVaP si le pp), (rVaN si le pp), od, (rVaV si le pp va), ai, rd, hh)) := hD
  refine lv_if_eq (tgt := 23) hx hb dX5_readHours_4 (by decide) (fun c4 => ?_) (fun c4 => ?_)
  · refine lv_iconst (v := 0) hx hb dX5_readHours_23 (by decide) ?_
    exact W.zret hx hb hr (rfl) (zEi ((rVaP si le pp), (rVaN si le pp), (rVaV si le pp va), ai, rd, hh) (by
        simp only [rHrs, eq_true c4, z10, ↓reduceIte, and_self]) hP hD hS) hS.2.2 dX5_readHours_24
  · refine lv_aload_n hx hb dX5_readHours_7 rfl (lv_at hl 0 rfl) ?_
    refine lv_bipush (v := 44) hx hb dX5_readHours_8 (by decide) ?_
    refine zCi (S := Nat) (ws1 := fun u => rk Z a (si, le, u, (rVaN si le pp), od, (rVaV si le pp va), ai, rd, hh)) (wr := []) (va_runV (As := [.int 44]) (rest := []) ⟨hx, hb, hml, hown, hts⟩ (m_X5_readSign l G Z _ a si le (rVaP si le pp) (rVaN si le pp) od (rVaV si le pp va) ai rd hh 44 (by
        exact rVaP_le hp) (by
        omega)) (cwV 1 hts gX5_readHours_X5_readSign rfl rfl rfl (by decide +kernel) ⟨Nat.le_of_ble_eq_true rfl, Nat.le_of_ble_eq_true rfl⟩) (zPreV hK hP hD hS hA hSW [0, 1, 2] rfl (by decide) 0 (ci := 5) rfl rfl rfl) rfl rfl hl.1 rfl (lv_room (Nat.le_of_ble_eq_true rfl)) dX5_readHours_10 ⟨Nat.le_of_ble_eq_true rfl, Nat.le_of_ble_eq_true rfl⟩) hP hD hS hA [0, 1, 2] [] [0, 1, 2] rfl rfl (by decide) (by decide) (by decide) (fun _ => rfl) (fun r10 u H locs hw10 hP hD hS => ?_)
    obtain ⟨p1_10, rfl⟩ : ∃ z, z = u := ⟨_, rfl⟩
    try dsimp only at hw10
    obtain ⟨rfl, rfl⟩ := hw10
    have hP : va_P G vwCl (rk Z a (si, le, (rSgP si le (rVaP si le pp) 44), (rVaN si le pp), od, (rVaV si le pp va), ai, rd, hh)) H := hP
    have hD : va_D A (rk Z a (si, le, (rSgP si le (rVaP si le pp) 44), (rVaN si le pp), od, (rVaV si le pp va), ai, rd, hh)) := hD
    refine lv_if_eq (tgt := 23) hx hb dX5_readHours_13 (by decide) (fun c13 => ?_) (fun c13 => ?_)
    · refine lv_iconst (v := 0) hx hb dX5_readHours_23 (by decide) ?_
      exact W.zret hx hb hr (rfl) (zEi ((rSgP si le (rVaP si le pp) 44), (rVaN si le pp), (rVaV si le pp va), ai, rd, hh) (by
          simp only [rHrs, c4, eq_true c13, z10, ↓reduceIte, and_self]) hP hD hS) hS.2.2 dX5_readHours_24
    · refine lv_aload_n hx hb dX5_readHours_16 rfl (lv_at hl 0 rfl) ?_
      refine zCi (S := Nat × Int32) (ws1 := fun u => rk Z a (si, le, u.1, u.2, od, (rVaV si le pp va), ai, rd, hh)) (wr := []) (va_runV (As := []) (rest := []) ⟨hx, hb, hml, hown, hts⟩ (m_X5_readNumber l G Z _ a si le (rSgP si le (rVaP si le pp) 44) (rVaN si le pp) od (rVaV si le pp va) ai rd hh (by
          exact (rSgP_le (by decide) (rVaP_le hp))) (by
          omega)) (cwV 0 hts gX5_readHours_X5_readNumber rfl rfl rfl (by decide +kernel) ⟨Nat.le_of_ble_eq_true rfl, Nat.le_of_ble_eq_true rfl⟩) (zPreV hK hP hD hS hA hSW [0, 1, 2] rfl (by decide) 0 (ci := 5) rfl rfl rfl) rfl rfl hl.1 rfl (lv_room (Nat.le_of_ble_eq_true rfl)) dX5_readHours_17 ⟨Nat.le_of_ble_eq_true rfl, Nat.le_of_ble_eq_true rfl⟩) hP hD hS hA [0, 1, 2] [] [0, 1, 2] rfl rfl (by decide) (by decide) (by decide) (fun _ => rfl) (fun r17 u H locs hw17 hP hD hS => ?_)
      obtain ⟨p1_17, nu1_17⟩ := u
      try dsimp only at hw17
      obtain ⟨rfl, rfl, rfl⟩ := hw17
      have hP : va_P G vwCl (rk Z a (si, le, (rNumP si le (rSgP si le (rVaP si le pp) 44)), (rNumN si le (rSgP si le (rVaP si le pp) 44)), od, (rVaV si le pp va), ai, rd, hh)) H := hP
      have hD : va_D A (rk Z a (si, le, (rNumP si le (rSgP si le (rVaP si le pp) 44)), (rNumN si le (rSgP si le (rVaP si le pp) 44)), od, (rVaV si le pp va), ai, rd, hh)) := hD
      refine lv_if_ne (tgt := 25) hx hb dX5_readHours_20 (by decide) (fun c20 => ?_) (fun c20 => ?_)
      · refine lv_aload_n hx hb dX5_readHours_25 rfl (lv_at hl 0 rfl) ?_
        refine lv_aload_n hx hb dX5_readHours_26 rfl (lv_at hl 0 rfl) ?_
        refine va_get (D := G) (ci := 5) (v := .int (rNumN si le (rSgP si le (rVaP si le pp) 44))) (C := RX5) (T := TX5) (N := 8) hx hb hts iX5 hown hK hP 0 rfl rfl 2 (by decide) k_55 (fun _ h9 => h9) rfl dX5_readHours_27 ?_
        refine va_put (D := G) (ci := 5) (v := .int (rNumN si le (rSgP si le (rVaP si le pp) 44))) (ty := .int) (C := RX5) (T := TX5) (N := 8) hx hb hts iX5 tyX5 tyX5_ok nmX5 hown hK hP hD hS 0 rfl rfl 5 (by decide) k_58 (fun _ h9 => h9) rfl (by decide +kernel) rfl rfl (Nat.le_of_ble_eq_true rfl) dX5_readHours_30 (fun H locs hP hD hS => ?_)
        have hP : va_P G vwCl (rk Z a (si, le, (rNumP si le (rSgP si le (rVaP si le pp) 44)), (rNumN si le (rSgP si le (rVaP si le pp) 44)), od, (rVaV si le pp va), (rNumN si le (rSgP si le (rVaP si le pp) 44)), rd, hh)) H := hP
        have hD : va_D A (rk Z a (si, le, (rNumP si le (rSgP si le (rVaP si le pp) 44)), (rNumN si le (rSgP si le (rVaP si le pp) 44)), od, (rVaV si le pp va), (rNumN si le (rSgP si le (rVaP si le pp) 44)), rd, hh)) := hD
        refine lv_aload_n hx hb dX5_readHours_33 rfl (lv_at hl 0 rfl) ?_
        refine lv_aload_n hx hb dX5_readHours_34 rfl (lv_at hl 0 rfl) ?_
        refine lv_bipush (v := 114) hx hb dX5_readHours_35 (by decide) ?_
        refine zCi (S := Nat) (ws1 := fun u => rk Z a (si, le, u, (rNumN si le (rSgP si le (rVaP si le pp) 44)), od, (rVaV si le pp va), (rNumN si le (rSgP si le (rVaP si le pp) 44)), rd, hh)) (wr := []) (va_runV (As := [.int 114]) (rest := [.ref (a 0)]) ⟨hx, hb, hml, hown, hts⟩ (m_X5_readSign l G Z _ a si le (rNumP si le (rSgP si le (rVaP si le pp) 44)) (rNumN si le (rSgP si le (rVaP si le pp) 44)) od (rVaV si le pp va) (rNumN si le (rSgP si le (rVaP si le pp) 44)) rd hh 114 (by
            exact (rNumP_le (rSgP_le (by decide) (rVaP_le hp)))) (by
            omega)) (cwV 1 hts gX5_readHours_X5_readSign rfl rfl rfl (by decide +kernel) ⟨Nat.le_of_ble_eq_true rfl, Nat.le_of_ble_eq_true rfl⟩) (zPreV hK hP hD hS hA hSW [0, 1, 2] rfl (by decide) 0 (ci := 5) rfl rfl rfl) rfl rfl hl.1 rfl (lv_room (Nat.le_of_ble_eq_true rfl)) dX5_readHours_37 ⟨Nat.le_of_ble_eq_true rfl, Nat.le_of_ble_eq_true rfl⟩) hP hD hS hA [0, 1, 2] [] [0, 1, 2] rfl rfl (by decide) (by decide) (by decide) (fun _ => rfl) (fun r37 u H locs hw37 hP hD hS => ?_)
        obtain ⟨p1_37, rfl⟩ : ∃ z, z = u := ⟨_, rfl⟩
        try dsimp only at hw37
        obtain ⟨rfl, rfl⟩ := hw37
        have hP : va_P G vwCl (rk Z a (si, le, (rSgP si le (rNumP si le (rSgP si le (rVaP si le pp) 44)) 114), (rNumN si le (rSgP si le (rVaP si le pp) 44)), od, (rVaV si le pp va), (rNumN si le (rSgP si le (rVaP si le pp) 44)), rd, hh)) H := hP
        have hD : va_D A (rk Z a (si, le, (rSgP si le (rNumP si le (rSgP si le (rVaP si le pp) 44)) 114), (rNumN si le (rSgP si le (rVaP si le pp) 44)), od, (rVaV si le pp va), (rNumN si le (rSgP si le (rVaP si le pp) 44)), rd, hh)) := hD
        refine lv_if_eq (tgt := 47) hx hb dX5_readHours_40 (by decide) (fun c40 => ?_) (fun c40 => ?_)
        · refine lv_iconst (v := 0) hx hb dX5_readHours_47 (by decide) ?_
          refine va_put (D := G) (ci := 5) (v := .int 0) (ty := .int) (C := RX5) (T := TX5) (N := 8) hx hb hts iX5 tyX5 tyX5_ok nmX5 hown hK hP hD hS 0 rfl rfl 6 (by decide) k_61 (fun _ h9 => h9) rfl (by decide +kernel) rfl rfl (Nat.le_of_ble_eq_true rfl) dX5_readHours_48 (fun H locs hP hD hS => ?_)
          have hP : va_P G vwCl (rk Z a (si, le, (rSgP si le (rNumP si le (rSgP si le (rVaP si le pp) 44)) 114), (rNumN si le (rSgP si le (rVaP si le pp) 44)), od, (rVaV si le pp va), (rNumN si le (rSgP si le (rVaP si le pp) 44)), 0, hh)) H := hP
          have hD : va_D A (rk Z a (si, le, (rSgP si le (rNumP si le (rSgP si le (rVaP si le pp) 44)) 114), (rNumN si le (rSgP si le (rVaP si le pp) 44)), od, (rVaV si le pp va), (rNumN si le (rSgP si le (rVaP si le pp) 44)), 0, hh)) := hD
          refine lv_aload_n hx hb dX5_readHours_51 rfl (lv_at hl 0 rfl) ?_
          refine lv_iconst (v := 1) hx hb dX5_readHours_52 (by decide) ?_
          refine va_put (D := G) (ci := 5) (v := .int 1) (ty := .int) (C := RX5) (T := TX5) (N := 8) hx hb hts iX5 tyX5 tyX5_ok nmX5 hown hK hP hD hS 0 rfl rfl 7 (by decide) k_64 (fun _ h9 => h9) rfl (by decide +kernel) rfl rfl (Nat.le_of_ble_eq_true rfl) dX5_readHours_53 (fun H locs hP hD hS => ?_)
          have hP : va_P G vwCl (rk Z a (si, le, (rSgP si le (rNumP si le (rSgP si le (rVaP si le pp) 44)) 114), (rNumN si le (rSgP si le (rVaP si le pp) 44)), od, (rVaV si le pp va), (rNumN si le (rSgP si le (rVaP si le pp) 44)), 0, 1)) H := hP
          have hD : va_D A (rk Z a (si, le, (rSgP si le (rNumP si le (rSgP si le (rVaP si le pp) 44)) 114), (rNumN si le (rSgP si le (rVaP si le pp) 44)), od, (rVaV si le pp va), (rNumN si le (rSgP si le (rVaP si le pp) 44)), 0, 1)) := hD
          refine lv_aload_n hx hb dX5_readHours_56 rfl (lv_at hl 0 rfl) ?_
          refine lv_bipush (v := 42) hx hb dX5_readHours_57 (by decide) ?_
          refine zCi (S := Nat) (ws1 := fun u => rk Z a (si, le, u, (rNumN si le (rSgP si le (rVaP si le pp) 44)), od, (rVaV si le pp va), (rNumN si le (rSgP si le (rVaP si le pp) 44)), 0, 1)) (wr := []) (va_runV (As := [.int 42]) (rest := []) ⟨hx, hb, hml, hown, hts⟩ (m_X5_readSign l G Z _ a si le (rSgP si le (rNumP si le (rSgP si le (rVaP si le pp) 44)) 114) (rNumN si le (rSgP si le (rVaP si le pp) 44)) od (rVaV si le pp va) (rNumN si le (rSgP si le (rVaP si le pp) 44)) 0 1 42 (by
              exact (rSgP_le (by decide) (rNumP_le (rSgP_le (by decide) (rVaP_le hp))))) (by
              omega)) (cwV 1 hts gX5_readHours_X5_readSign rfl rfl rfl (by decide +kernel) ⟨Nat.le_of_ble_eq_true rfl, Nat.le_of_ble_eq_true rfl⟩) (zPreV hK hP hD hS hA hSW [0, 1, 2] rfl (by decide) 0 (ci := 5) rfl rfl rfl) rfl rfl hl.1 rfl (lv_room (Nat.le_of_ble_eq_true rfl)) dX5_readHours_59 ⟨Nat.le_of_ble_eq_true rfl, Nat.le_of_ble_eq_true rfl⟩) hP hD hS hA [0, 1, 2] [] [0, 1, 2] rfl rfl (by decide) (by decide) (by decide) (fun _ => rfl) (fun r59 u H locs hw59 hP hD hS => ?_)
          obtain ⟨p1_59, rfl⟩ : ∃ z, z = u := ⟨_, rfl⟩
          try dsimp only at hw59
          obtain ⟨rfl, rfl⟩ := hw59
          have hP : va_P G vwCl (rk Z a (si, le, (rSgP si le (rSgP si le (rNumP si le (rSgP si le (rVaP si le pp) 44)) 114) 42), (rNumN si le (rSgP si le (rVaP si le pp) 44)), od, (rVaV si le pp va), (rNumN si le (rSgP si le (rVaP si le pp) 44)), 0, 1)) H := hP
          have hD : va_D A (rk Z a (si, le, (rSgP si le (rSgP si le (rNumP si le (rSgP si le (rVaP si le pp) 44)) 114) 42), (rNumN si le (rSgP si le (rVaP si le pp) 44)), od, (rVaV si le pp va), (rNumN si le (rSgP si le (rVaP si le pp) 44)), 0, 1)) := hD
          refine lv_if_ne (tgt := 67) hx hb dX5_readHours_62 (by decide) (fun c62 => ?_) (fun c62 => ?_)
          · refine lv_aload_n hx hb dX5_readHours_67 rfl (lv_at hl 0 rfl) ?_
            refine zCi (S := Nat × Int32) (ws1 := fun u => rk Z a (si, le, u.1, u.2, od, (rVaV si le pp va), (rNumN si le (rSgP si le (rVaP si le pp) 44)), 0, 1)) (wr := []) (va_runV (As := []) (rest := []) ⟨hx, hb, hml, hown, hts⟩ (m_X5_readNumber l G Z _ a si le (rSgP si le (rSgP si le (rNumP si le (rSgP si le (rVaP si le pp) 44)) 114) 42) (rNumN si le (rSgP si le (rVaP si le pp) 44)) od (rVaV si le pp va) (rNumN si le (rSgP si le (rVaP si le pp) 44)) 0 1 (by
                exact (rSgP_le (by decide) (rSgP_le (by decide) (rNumP_le (rSgP_le (by decide) (rVaP_le hp)))))) (by
                omega)) (cwV 0 hts gX5_readHours_X5_readNumber rfl rfl rfl (by decide +kernel) ⟨Nat.le_of_ble_eq_true rfl, Nat.le_of_ble_eq_true rfl⟩) (zPreV hK hP hD hS hA hSW [0, 1, 2] rfl (by decide) 0 (ci := 5) rfl rfl rfl) rfl rfl hl.1 rfl (lv_room (Nat.le_of_ble_eq_true rfl)) dX5_readHours_68 ⟨Nat.le_of_ble_eq_true rfl, Nat.le_of_ble_eq_true rfl⟩) hP hD hS hA [0, 1, 2] [] [0, 1, 2] rfl rfl (by decide) (by decide) (by decide) (fun _ => rfl) (fun r68 u H locs hw68 hP hD hS => ?_)
            obtain ⟨p1_68, nu1_68⟩ := u
            try dsimp only at hw68
            obtain ⟨rfl, rfl, rfl⟩ := hw68
            have hP : va_P G vwCl (rk Z a (si, le, (rNumP si le (rSgP si le (rSgP si le (rNumP si le (rSgP si le (rVaP si le pp) 44)) 114) 42)), (rNumN si le (rSgP si le (rSgP si le (rNumP si le (rSgP si le (rVaP si le pp) 44)) 114) 42)), od, (rVaV si le pp va), (rNumN si le (rSgP si le (rVaP si le pp) 44)), 0, 1)) H := hP
            have hD : va_D A (rk Z a (si, le, (rNumP si le (rSgP si le (rSgP si le (rNumP si le (rSgP si le (rVaP si le pp) 44)) 114) 42)), (rNumN si le (rSgP si le (rSgP si le (rNumP si le (rSgP si le (rVaP si le pp) 44)) 114) 42)), od, (rVaV si le pp va), (rNumN si le (rSgP si le (rVaP si le pp) 44)), 0, 1)) := hD
            refine lv_if_ne (tgt := 76) hx hb dX5_readHours_71 (by decide) (fun c71 => ?_) (fun c71 => ?_)
            · refine lv_aload_n hx hb dX5_readHours_76 rfl (lv_at hl 0 rfl) ?_
              refine lv_aload_n hx hb dX5_readHours_77 rfl (lv_at hl 0 rfl) ?_
              refine va_get (D := G) (ci := 5) (v := .int (rNumN si le (rSgP si le (rSgP si le (rNumP si le (rSgP si le (rVaP si le pp) 44)) 114) 42))) (C := RX5) (T := TX5) (N := 8) hx hb hts iX5 hown hK hP 0 rfl rfl 2 (by decide) k_55 (fun _ h9 => h9) rfl dX5_readHours_78 ?_
              refine va_put (D := G) (ci := 5) (v := .int (rNumN si le (rSgP si le (rSgP si le (rNumP si le (rSgP si le (rVaP si le pp) 44)) 114) 42))) (ty := .int) (C := RX5) (T := TX5) (N := 8) hx hb hts iX5 tyX5 tyX5_ok nmX5 hown hK hP hD hS 0 rfl rfl 7 (by decide) k_64 (fun _ h9 => h9) rfl (by decide +kernel) rfl rfl (Nat.le_of_ble_eq_true rfl) dX5_readHours_81 (fun H locs hP hD hS => ?_)
              have hP : va_P G vwCl (rk Z a (si, le, (rNumP si le (rSgP si le (rSgP si le (rNumP si le (rSgP si le (rVaP si le pp) 44)) 114) 42)), (rNumN si le (rSgP si le (rSgP si le (rNumP si le (rSgP si le (rVaP si le pp) 44)) 114) 42)), od, (rVaV si le pp va), (rNumN si le (rSgP si le (rVaP si le pp) 44)), 0, (rNumN si le (rSgP si le (rSgP si le (rNumP si le (rSgP si le (rVaP si le pp) 44)) 114) 42)))) H := hP
              have hD : va_D A (rk Z a (si, le, (rNumP si le (rSgP si le (rSgP si le (rNumP si le (rSgP si le (rVaP si le pp) 44)) 114) 42)), (rNumN si le (rSgP si le (rSgP si le (rNumP si le (rSgP si le (rVaP si le pp) 44)) 114) 42)), od, (rVaV si le pp va), (rNumN si le (rSgP si le (rVaP si le pp) 44)), 0, (rNumN si le (rSgP si le (rSgP si le (rNumP si le (rSgP si le (rVaP si le pp) 44)) 114) 42)))) := hD
              refine lv_iconst (v := 1) hx hb dX5_readHours_84 (by decide) ?_
              exact W.zret hx hb hr (rfl) (zEi ((rNumP si le (rSgP si le (rSgP si le (rNumP si le (rSgP si le (rVaP si le pp) 44)) 114) 42)), (rNumN si le (rSgP si le (rSgP si le (rNumP si le (rSgP si le (rVaP si le pp) 44)) 114) 42)), (rVaV si le pp va), (rNumN si le (rSgP si le (rVaP si le pp) 44)), 0, (rNumN si le (rSgP si le (rSgP si le (rNumP si le (rSgP si le (rVaP si le pp) 44)) 114) 42))) (by
                  simp only [rHrs, c4, c13, c20, eq_true c40, c62, c71, z10, ↓reduceIte, and_self]) hP hD hS) hS.2.2 dX5_readHours_85
            · refine lv_iconst (v := 0) hx hb dX5_readHours_74 (by decide) ?_
              exact W.zret hx hb hr (rfl) (zEi ((rNumP si le (rSgP si le (rSgP si le (rNumP si le (rSgP si le (rVaP si le pp) 44)) 114) 42)), (rNumN si le (rSgP si le (rSgP si le (rNumP si le (rSgP si le (rVaP si le pp) 44)) 114) 42)), (rVaV si le pp va), (rNumN si le (rSgP si le (rVaP si le pp) 44)), 0, 1) (by
                  simp only [rHrs, c4, c13, c20, eq_true c40, c62, eq_true c71, z10, ↓reduceIte, and_self]) hP hD hS) hS.2.2 dX5_readHours_75
          · refine lv_iconst (v := 1) hx hb dX5_readHours_65 (by decide) ?_
            exact W.zret hx hb hr (rfl) (zEi ((rSgP si le (rSgP si le (rNumP si le (rSgP si le (rVaP si le pp) 44)) 114) 42), (rNumN si le (rSgP si le (rVaP si le pp) 44)), (rVaV si le pp va), (rNumN si le (rSgP si le (rVaP si le pp) 44)), 0, 1) (by
                simp only [rHrs, c4, c13, c20, eq_true c40, eq_true c62, z10, ↓reduceIte, and_self]) hP hD hS) hS.2.2 dX5_readHours_66
        · refine lv_iconst (v := 1) hx hb dX5_readHours_43 (by decide) ?_
          refine lv_goto (tgt := 48) hx hb dX5_readHours_44 (by decide) ?_
          refine va_put (D := G) (ci := 5) (v := .int 1) (ty := .int) (C := RX5) (T := TX5) (N := 8) hx hb hts iX5 tyX5 tyX5_ok nmX5 hown hK hP hD hS 0 rfl rfl 6 (by decide) k_61 (fun _ h9 => h9) rfl (by decide +kernel) rfl rfl (Nat.le_of_ble_eq_true rfl) dX5_readHours_48 (fun H locs hP hD hS => ?_)
          have hP : va_P G vwCl (rk Z a (si, le, (rSgP si le (rNumP si le (rSgP si le (rVaP si le pp) 44)) 114), (rNumN si le (rSgP si le (rVaP si le pp) 44)), od, (rVaV si le pp va), (rNumN si le (rSgP si le (rVaP si le pp) 44)), 1, hh)) H := hP
          have hD : va_D A (rk Z a (si, le, (rSgP si le (rNumP si le (rSgP si le (rVaP si le pp) 44)) 114), (rNumN si le (rSgP si le (rVaP si le pp) 44)), od, (rVaV si le pp va), (rNumN si le (rSgP si le (rVaP si le pp) 44)), 1, hh)) := hD
          refine lv_aload_n hx hb dX5_readHours_51 rfl (lv_at hl 0 rfl) ?_
          refine lv_iconst (v := 1) hx hb dX5_readHours_52 (by decide) ?_
          refine va_put (D := G) (ci := 5) (v := .int 1) (ty := .int) (C := RX5) (T := TX5) (N := 8) hx hb hts iX5 tyX5 tyX5_ok nmX5 hown hK hP hD hS 0 rfl rfl 7 (by decide) k_64 (fun _ h9 => h9) rfl (by decide +kernel) rfl rfl (Nat.le_of_ble_eq_true rfl) dX5_readHours_53 (fun H locs hP hD hS => ?_)
          have hP : va_P G vwCl (rk Z a (si, le, (rSgP si le (rNumP si le (rSgP si le (rVaP si le pp) 44)) 114), (rNumN si le (rSgP si le (rVaP si le pp) 44)), od, (rVaV si le pp va), (rNumN si le (rSgP si le (rVaP si le pp) 44)), 1, 1)) H := hP
          have hD : va_D A (rk Z a (si, le, (rSgP si le (rNumP si le (rSgP si le (rVaP si le pp) 44)) 114), (rNumN si le (rSgP si le (rVaP si le pp) 44)), od, (rVaV si le pp va), (rNumN si le (rSgP si le (rVaP si le pp) 44)), 1, 1)) := hD
          refine lv_aload_n hx hb dX5_readHours_56 rfl (lv_at hl 0 rfl) ?_
          refine lv_bipush (v := 42) hx hb dX5_readHours_57 (by decide) ?_
          refine zCi (S := Nat) (ws1 := fun u => rk Z a (si, le, u, (rNumN si le (rSgP si le (rVaP si le pp) 44)), od, (rVaV si le pp va), (rNumN si le (rSgP si le (rVaP si le pp) 44)), 1, 1)) (wr := []) (va_runV (As := [.int 42]) (rest := []) ⟨hx, hb, hml, hown, hts⟩ (m_X5_readSign l G Z _ a si le (rSgP si le (rNumP si le (rSgP si le (rVaP si le pp) 44)) 114) (rNumN si le (rSgP si le (rVaP si le pp) 44)) od (rVaV si le pp va) (rNumN si le (rSgP si le (rVaP si le pp) 44)) 1 1 42 (by
              exact (rSgP_le (by decide) (rNumP_le (rSgP_le (by decide) (rVaP_le hp))))) (by
              omega)) (cwV 1 hts gX5_readHours_X5_readSign rfl rfl rfl (by decide +kernel) ⟨Nat.le_of_ble_eq_true rfl, Nat.le_of_ble_eq_true rfl⟩) (zPreV hK hP hD hS hA hSW [0, 1, 2] rfl (by decide) 0 (ci := 5) rfl rfl rfl) rfl rfl hl.1 rfl (lv_room (Nat.le_of_ble_eq_true rfl)) dX5_readHours_59 ⟨Nat.le_of_ble_eq_true rfl, Nat.le_of_ble_eq_true rfl⟩) hP hD hS hA [0, 1, 2] [] [0, 1, 2] rfl rfl (by decide) (by decide) (by decide) (fun _ => rfl) (fun r59_2 u H locs hw59_2 hP hD hS => ?_)
          obtain ⟨p1_59_2, rfl⟩ : ∃ z, z = u := ⟨_, rfl⟩
          try dsimp only at hw59_2
          obtain ⟨rfl, rfl⟩ := hw59_2
          have hP : va_P G vwCl (rk Z a (si, le, (rSgP si le (rSgP si le (rNumP si le (rSgP si le (rVaP si le pp) 44)) 114) 42), (rNumN si le (rSgP si le (rVaP si le pp) 44)), od, (rVaV si le pp va), (rNumN si le (rSgP si le (rVaP si le pp) 44)), 1, 1)) H := hP
          have hD : va_D A (rk Z a (si, le, (rSgP si le (rSgP si le (rNumP si le (rSgP si le (rVaP si le pp) 44)) 114) 42), (rNumN si le (rSgP si le (rVaP si le pp) 44)), od, (rVaV si le pp va), (rNumN si le (rSgP si le (rVaP si le pp) 44)), 1, 1)) := hD
          refine lv_if_ne (tgt := 67) hx hb dX5_readHours_62 (by decide) (fun c62 => ?_) (fun c62 => ?_)
          · refine lv_aload_n hx hb dX5_readHours_67 rfl (lv_at hl 0 rfl) ?_
            refine zCi (S := Nat × Int32) (ws1 := fun u => rk Z a (si, le, u.1, u.2, od, (rVaV si le pp va), (rNumN si le (rSgP si le (rVaP si le pp) 44)), 1, 1)) (wr := []) (va_runV (As := []) (rest := []) ⟨hx, hb, hml, hown, hts⟩ (m_X5_readNumber l G Z _ a si le (rSgP si le (rSgP si le (rNumP si le (rSgP si le (rVaP si le pp) 44)) 114) 42) (rNumN si le (rSgP si le (rVaP si le pp) 44)) od (rVaV si le pp va) (rNumN si le (rSgP si le (rVaP si le pp) 44)) 1 1 (by
                exact (rSgP_le (by decide) (rSgP_le (by decide) (rNumP_le (rSgP_le (by decide) (rVaP_le hp)))))) (by
                omega)) (cwV 0 hts gX5_readHours_X5_readNumber rfl rfl rfl (by decide +kernel) ⟨Nat.le_of_ble_eq_true rfl, Nat.le_of_ble_eq_true rfl⟩) (zPreV hK hP hD hS hA hSW [0, 1, 2] rfl (by decide) 0 (ci := 5) rfl rfl rfl) rfl rfl hl.1 rfl (lv_room (Nat.le_of_ble_eq_true rfl)) dX5_readHours_68 ⟨Nat.le_of_ble_eq_true rfl, Nat.le_of_ble_eq_true rfl⟩) hP hD hS hA [0, 1, 2] [] [0, 1, 2] rfl rfl (by decide) (by decide) (by decide) (fun _ => rfl) (fun r68_2 u H locs hw68_2 hP hD hS => ?_)
            obtain ⟨p1_68_2, nu1_68_2⟩ := u
            try dsimp only at hw68_2
            obtain ⟨rfl, rfl, rfl⟩ := hw68_2
            have hP : va_P G vwCl (rk Z a (si, le, (rNumP si le (rSgP si le (rSgP si le (rNumP si le (rSgP si le (rVaP si le pp) 44)) 114) 42)), (rNumN si le (rSgP si le (rSgP si le (rNumP si le (rSgP si le (rVaP si le pp) 44)) 114) 42)), od, (rVaV si le pp va), (rNumN si le (rSgP si le (rVaP si le pp) 44)), 1, 1)) H := hP
            have hD : va_D A (rk Z a (si, le, (rNumP si le (rSgP si le (rSgP si le (rNumP si le (rSgP si le (rVaP si le pp) 44)) 114) 42)), (rNumN si le (rSgP si le (rSgP si le (rNumP si le (rSgP si le (rVaP si le pp) 44)) 114) 42)), od, (rVaV si le pp va), (rNumN si le (rSgP si le (rVaP si le pp) 44)), 1, 1)) := hD
            refine lv_if_ne (tgt := 76) hx hb dX5_readHours_71 (by decide) (fun c71 => ?_) (fun c71 => ?_)
            · refine lv_aload_n hx hb dX5_readHours_76 rfl (lv_at hl 0 rfl) ?_
              refine lv_aload_n hx hb dX5_readHours_77 rfl (lv_at hl 0 rfl) ?_
              refine va_get (D := G) (ci := 5) (v := .int (rNumN si le (rSgP si le (rSgP si le (rNumP si le (rSgP si le (rVaP si le pp) 44)) 114) 42))) (C := RX5) (T := TX5) (N := 8) hx hb hts iX5 hown hK hP 0 rfl rfl 2 (by decide) k_55 (fun _ h9 => h9) rfl dX5_readHours_78 ?_
              refine va_put (D := G) (ci := 5) (v := .int (rNumN si le (rSgP si le (rSgP si le (rNumP si le (rSgP si le (rVaP si le pp) 44)) 114) 42))) (ty := .int) (C := RX5) (T := TX5) (N := 8) hx hb hts iX5 tyX5 tyX5_ok nmX5 hown hK hP hD hS 0 rfl rfl 7 (by decide) k_64 (fun _ h9 => h9) rfl (by decide +kernel) rfl rfl (Nat.le_of_ble_eq_true rfl) dX5_readHours_81 (fun H locs hP hD hS => ?_)
              have hP : va_P G vwCl (rk Z a (si, le, (rNumP si le (rSgP si le (rSgP si le (rNumP si le (rSgP si le (rVaP si le pp) 44)) 114) 42)), (rNumN si le (rSgP si le (rSgP si le (rNumP si le (rSgP si le (rVaP si le pp) 44)) 114) 42)), od, (rVaV si le pp va), (rNumN si le (rSgP si le (rVaP si le pp) 44)), 1, (rNumN si le (rSgP si le (rSgP si le (rNumP si le (rSgP si le (rVaP si le pp) 44)) 114) 42)))) H := hP
              have hD : va_D A (rk Z a (si, le, (rNumP si le (rSgP si le (rSgP si le (rNumP si le (rSgP si le (rVaP si le pp) 44)) 114) 42)), (rNumN si le (rSgP si le (rSgP si le (rNumP si le (rSgP si le (rVaP si le pp) 44)) 114) 42)), od, (rVaV si le pp va), (rNumN si le (rSgP si le (rVaP si le pp) 44)), 1, (rNumN si le (rSgP si le (rSgP si le (rNumP si le (rSgP si le (rVaP si le pp) 44)) 114) 42)))) := hD
              refine lv_iconst (v := 1) hx hb dX5_readHours_84 (by decide) ?_
              exact W.zret hx hb hr (rfl) (zEi ((rNumP si le (rSgP si le (rSgP si le (rNumP si le (rSgP si le (rVaP si le pp) 44)) 114) 42)), (rNumN si le (rSgP si le (rSgP si le (rNumP si le (rSgP si le (rVaP si le pp) 44)) 114) 42)), (rVaV si le pp va), (rNumN si le (rSgP si le (rVaP si le pp) 44)), 1, (rNumN si le (rSgP si le (rSgP si le (rNumP si le (rSgP si le (rVaP si le pp) 44)) 114) 42))) (by
                  simp only [rHrs, c4, c13, c20, c40, c62, c71, z10, ↓reduceIte, and_self]) hP hD hS) hS.2.2 dX5_readHours_85
            · refine lv_iconst (v := 0) hx hb dX5_readHours_74 (by decide) ?_
              exact W.zret hx hb hr (rfl) (zEi ((rNumP si le (rSgP si le (rSgP si le (rNumP si le (rSgP si le (rVaP si le pp) 44)) 114) 42)), (rNumN si le (rSgP si le (rSgP si le (rNumP si le (rSgP si le (rVaP si le pp) 44)) 114) 42)), (rVaV si le pp va), (rNumN si le (rSgP si le (rVaP si le pp) 44)), 1, 1) (by
                  simp only [rHrs, c4, c13, c20, c40, c62, eq_true c71, z10, ↓reduceIte, and_self]) hP hD hS) hS.2.2 dX5_readHours_75
          · refine lv_iconst (v := 1) hx hb dX5_readHours_65 (by decide) ?_
            exact W.zret hx hb hr (rfl) (zEi ((rSgP si le (rSgP si le (rNumP si le (rSgP si le (rVaP si le pp) 44)) 114) 42), (rNumN si le (rSgP si le (rVaP si le pp) 44)), (rVaV si le pp va), (rNumN si le (rSgP si le (rVaP si le pp) 44)), 1, 1) (by
                simp only [rHrs, c4, c13, c20, c40, eq_true c62, z10, ↓reduceIte, and_self]) hP hD hS) hS.2.2 dX5_readHours_66
      · refine lv_iconst (v := 0) hx hb dX5_readHours_23 (by decide) ?_
        exact W.zret hx hb hr (rfl) (zEi ((rNumP si le (rSgP si le (rVaP si le pp) 44)), (rNumN si le (rSgP si le (rVaP si le pp) 44)), (rVaV si le pp va), ai, rd, hh) (by
            simp only [rHrs, c4, c13, eq_true c20, z10, ↓reduceIte, and_self]) hP hD hS) hS.2.2 dX5_readHours_24
