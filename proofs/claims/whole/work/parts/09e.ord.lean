set_option maxHeartbeats 4000000 in
set_option maxRecDepth 100000 in
theorem m_X5_readOrder (l : Launch) (G : va_G) (Z : Nat → ClassId) (sz : Nat) (a : Nat → Nat) (v : RV) (hp : v.2.2.1 ≤ 80) (hle : v.2.1 ≤ 80) : Met l yX5_readOrder wsX5_readOrder ({ frames := 4, cells := 0, slots := 0, locals := 83 }) (va_Pc [.ref (a 0)] (zWP G Z sz (rk Z a v))) (va_Qi (fun (r : Int32) (u : RV) => r = (rOrd v).1 ∧ u = (rOrd v).2) (fun (u : RV) t => zB G (va_A (rk Z a v) sz) (rk Z a u) t) (va_A (rk Z a v) sz)) 0 0 (va_A (rk Z a v) sz) := by
  obtain ⟨si, le, pp, nu, od, va, ai, rd, hh⟩ := v
  refine Met.ofW (cc := cX5_readOrder) (maxL := 1) (ret := (some .boolean)) (by decide) rfl ?_
  intro p e s m args below meth c s₁ B hml hv
  have hx := B.exec
  have hb := B.bytes
  have hr := B.returns
  have hts := atoms_spec (ws := wsX5_readOrder) B.pre
  have hown : s.vm.findClass RX5 = some m.cls := findClass_of_methodNamed B.named
  have hlocks := B.notSynchronized
  obtain ⟨rfl, hsz, hP, hK, hD, hA, hS, hSW⟩ := zEnter hv
  subst hsz
  generalize va_A (rk Z a (si, le, pp, nu, od, va, ai, rd, hh)) s.heap.size = A at hD hA hS hSW ⊢
  have k_12 := hts (.fieldLink RX5 12 "WarmRods$Reader" "pad" "LWarmRods$Pad;") (List.mem_of_getElem? (i := 1) rfl)
  have iX5 : ∀ w ∈ u_ws RX5 TX5 8, w ∈ wsX5_readOrder := fun _ h => List.mem_cons_of_mem _ (List.mem_append_left _ (List.mem_append_right _ h))
  have k_18 := hts (.fieldLink RX5 18 "WarmRods$Reader" "place" "I") (List.mem_of_getElem? (i := 2) rfl)
  have k_40 := hts (.fieldLink RX5 40 "WarmRods$Reader" "order" "I") (List.mem_of_getElem? (i := 3) rfl)
  have hP : va_P G vwCl (rk Z a (si, le, pp, nu, od, va, ai, rd, hh)) s.heap := hP
  have hl := lv_entry ([.ref (a 0)]) (n := 1) (Nat.le_of_ble_eq_true rfl)
  rw [lg_entry_eq]
  generalize (lg_sl ([.ref (a 0)]) ++ List.replicate (1 - (lg_sl ([.ref (a 0)])).length) Slot.unset).toArray = ls at hl ⊢
  have hl : lv_has ls 1 [(0, .ref (a 0))] := hl
  refine lv_aload_n hx hb dX5_readOrder_0 rfl (lv_at hl 0 rfl) ?_
  refine lv_aload_n hx hb dX5_readOrder_1 rfl (lv_at hl 0 rfl) ?_
  refine va_get (D := G) (ci := 5) (v := .ref (a 1)) (C := RX5) (T := TX5) (N := 8) hx hb hts iX5 hown hK hP 0 rfl rfl 0 (by decide) k_12 (fun _ h9 => h9) rfl dX5_readOrder_2 ?_
  refine lv_aload_n hx hb dX5_readOrder_5 rfl (lv_at hl 0 rfl) ?_
  refine va_get (D := G) (ci := 5) (v := .int (nI pp)) (C := RX5) (T := TX5) (N := 8) hx hb hts iX5 hown hK hP 0 rfl rfl 1 (by decide) k_18 (fun _ h9 => h9) rfl dX5_readOrder_6 ?_
  refine zCi (S := Unit) (ws1 := fun u => rk Z a (si, le, pp, nu, od, va, ai, rd, hh)) (wr := [((a 0), .inr (5, [.ref (a 1), .int (nI pp), .int nu, .int od, .int va, .int ai, .int rd, .int hh]))]) (va_runV (As := [.int (nI pp)]) (rest := [.ref (a 0)]) ⟨hx, hb, hml, hown, hts⟩ (m_X4_signAt l G Z _ (a 1) (a 2) si le pp (by
      exact hp) (by
      exact hle)) (cwV 1 hts gX5_readOrder_X4_signAt rfl rfl rfl (by decide +kernel) ⟨Nat.le_of_ble_eq_true rfl, Nat.le_of_ble_eq_true rfl⟩) (zPreV hK hP hD hS hA hSW [1, 2] rfl (by decide) 1 (ci := 4) rfl rfl rfl) rfl rfl hl.1 rfl (lv_room (Nat.le_of_ble_eq_true rfl)) dX5_readOrder_9 ⟨Nat.le_of_ble_eq_true rfl, Nat.le_of_ble_eq_true rfl⟩) hP hD hS hA [1, 2] [0] [0, 1, 2] rfl rfl (by decide) (by decide) (by decide) (fun _ => rfl) (fun r9 u H locs hw9 hP hD hS => ?_)
  try dsimp only at hw9
  subst hw9
  have hP : va_P G vwCl (rk Z a (si, le, pp, nu, od, va, ai, rd, hh)) H := hP
  have hD : va_D A (rk Z a (si, le, pp, nu, od, va, ai, rd, hh)) := hD
  refine va_put (D := G) (ci := 5) (v := .int (pSign si le pp)) (ty := .int) (C := RX5) (T := TX5) (N := 8) hx hb hts iX5 tyX5 tyX5_ok nmX5 hown hK hP hD hS 0 rfl rfl 3 (by decide) k_40 (fun _ h9 => h9) rfl (by decide +kernel) rfl rfl (Nat.le_of_ble_eq_true rfl) dX5_readOrder_12 (fun H locs hP hD hS => ?_)
  have hP : va_P G vwCl (rk Z a (si, le, pp, nu, (pSign si le pp), va, ai, rd, hh)) H := hP
  have hD : va_D A (rk Z a (si, le, pp, nu, (pSign si le pp), va, ai, rd, hh)) := hD
  refine lv_aload_n hx hb dX5_readOrder_15 rfl (lv_at hl 0 rfl) ?_
  refine va_get (D := G) (ci := 5) (v := .int (pSign si le pp)) (C := RX5) (T := TX5) (N := 8) hx hb hts iX5 hown hK hP 0 rfl rfl 3 (by decide) k_40 (fun _ h9 => h9) rfl dX5_readOrder_16 ?_
  by_cases c19_98 : (pSign si le pp) = 98
  · refine lv_lookup (off := 71) (tgt := 90) hx hb dX5_readOrder_19 (by decide) (by rw [c19_98]; decide) (by decide) ?_
    refine lv_aload_n hx hb dX5_readOrder_90 rfl (lv_at hl 0 rfl) ?_
    refine lv_dup hx hb dX5_readOrder_91 rfl ?_
    refine va_get (D := G) (ci := 5) (v := .int (nI pp)) (C := RX5) (T := TX5) (N := 8) hx hb hts iX5 hown hK hP 0 rfl rfl 1 (by decide) k_18 (fun _ h9 => h9) rfl dX5_readOrder_92 ?_
    refine lv_iconst (v := 1) hx hb dX5_readOrder_95 (by decide) ?_
    refine lv_iadd hx hb dX5_readOrder_96 ?_
    refine zTopI (y := (nI (pp + 1))) (nI_succ pp).symm ?_
    refine va_put (D := G) (ci := 5) (v := .int (nI (pp + 1))) (ty := .int) (C := RX5) (T := TX5) (N := 8) hx hb hts iX5 tyX5 tyX5_ok nmX5 hown hK hP hD hS 0 rfl rfl 1 (by decide) k_18 (fun _ h9 => h9) rfl (by decide +kernel) rfl rfl (Nat.le_of_ble_eq_true rfl) dX5_readOrder_97 (fun H locs hP hD hS => ?_)
    have hP : va_P G vwCl (rk Z a (si, le, (pp + 1), nu, (pSign si le pp), va, ai, rd, hh)) H := hP
    have hD : va_D A (rk Z a (si, le, (pp + 1), nu, (pSign si le pp), va, ai, rd, hh)) := hD
    refine lv_aload_n hx hb dX5_readOrder_100 rfl (lv_at hl 0 rfl) ?_
    refine zCi (S := Nat × Int32 × Int32) (ws1 := fun u => rk Z a (si, le, u.1, u.2.1, (pSign si le pp), u.2.2, ai, rd, hh)) (wr := []) (va_runV (As := []) (rest := []) ⟨hx, hb, hml, hown, hts⟩ (m_X5_readValue l G Z _ a si le (pp + 1) nu (pSign si le pp) va ai rd hh (by
        have hs := pSign_in (show ¬ pSign si le pp = 0 by rw [c19_98]; decide)
        omega) (by
        exact hle)) (cwV 0 hts gX5_readOrder_X5_readValue rfl rfl rfl (by decide +kernel) ⟨Nat.le_of_ble_eq_true rfl, Nat.le_of_ble_eq_true rfl⟩) (zPreV hK hP hD hS hA hSW [0, 1, 2] rfl (by decide) 0 (ci := 5) rfl rfl rfl) rfl rfl hl.1 rfl (lv_room (Nat.le_of_ble_eq_true rfl)) dX5_readOrder_101 ⟨Nat.le_of_ble_eq_true rfl, Nat.le_of_ble_eq_true rfl⟩) hP hD hS hA [0, 1, 2] [] [0, 1, 2] rfl rfl (by decide) (by decide) (by decide) (fun _ => rfl) (fun r101 u H locs hw101 hP hD hS => ?_)
    obtain ⟨p1_101, nu1_101, va1_101⟩ := u
    try dsimp only at hw101
    obtain ⟨rfl, rfl, rfl, rfl⟩ := hw101
    have hP : va_P G vwCl (rk Z a (si, le, (rVaP si le (pp + 1)), (rVaN si le (pp + 1)), (pSign si le pp), (rVaV si le (pp + 1) va), ai, rd, hh)) H := hP
    have hD : va_D A (rk Z a (si, le, (rVaP si le (pp + 1)), (rVaN si le (pp + 1)), (pSign si le pp), (rVaV si le (pp + 1) va), ai, rd, hh)) := hD
    exact W.zret hx hb hr (zNarBb (rVaR_b _ _ _)) (zEi (si, le, (rVaP si le (pp + 1)), (rVaN si le (pp + 1)), (pSign si le pp), (rVaV si le (pp + 1) va), ai, rd, hh) (by
        unfold rOrd
        dsimp only
        rw [if_pos c19_98]
        exact ⟨rfl, rfl⟩) hP hD hS) hS.2.2 dX5_readOrder_104
  by_cases c19_104 : (pSign si le pp) = 104
  · refine lv_lookup (off := 41) (tgt := 60) hx hb dX5_readOrder_19 (by decide) (by rw [c19_104]; decide) (by decide) ?_
    refine lv_aload_n hx hb dX5_readOrder_60 rfl (lv_at hl 0 rfl) ?_
    refine lv_dup hx hb dX5_readOrder_61 rfl ?_
    refine va_get (D := G) (ci := 5) (v := .int (nI pp)) (C := RX5) (T := TX5) (N := 8) hx hb hts iX5 hown hK hP 0 rfl rfl 1 (by decide) k_18 (fun _ h9 => h9) rfl dX5_readOrder_62 ?_
    refine lv_iconst (v := 1) hx hb dX5_readOrder_65 (by decide) ?_
    refine lv_iadd hx hb dX5_readOrder_66 ?_
    refine zTopI (y := (nI (pp + 1))) (nI_succ pp).symm ?_
    refine va_put (D := G) (ci := 5) (v := .int (nI (pp + 1))) (ty := .int) (C := RX5) (T := TX5) (N := 8) hx hb hts iX5 tyX5 tyX5_ok nmX5 hown hK hP hD hS 0 rfl rfl 1 (by decide) k_18 (fun _ h9 => h9) rfl (by decide +kernel) rfl rfl (Nat.le_of_ble_eq_true rfl) dX5_readOrder_67 (fun H locs hP hD hS => ?_)
    have hP : va_P G vwCl (rk Z a (si, le, (pp + 1), nu, (pSign si le pp), va, ai, rd, hh)) H := hP
    have hD : va_D A (rk Z a (si, le, (pp + 1), nu, (pSign si le pp), va, ai, rd, hh)) := hD
    refine lv_aload_n hx hb dX5_readOrder_70 rfl (lv_at hl 0 rfl) ?_
    refine zCi (S := Nat × Int32 × Int32 × Int32 × Int32 × Int32) (ws1 := fun u => rk Z a (si, le, u.1, u.2.1, (pSign si le pp), u.2.2.1, u.2.2.2.1, u.2.2.2.2.1, u.2.2.2.2.2)) (wr := []) (va_runV (As := []) (rest := []) ⟨hx, hb, hml, hown, hts⟩ (m_X5_readHours l G Z _ a si le (pp + 1) nu (pSign si le pp) va ai rd hh (by
        have hs := pSign_in (show ¬ pSign si le pp = 0 by rw [c19_104]; decide)
        omega) (by
        exact hle)) (cwV 0 hts gX5_readOrder_X5_readHours rfl rfl rfl (by decide +kernel) ⟨Nat.le_of_ble_eq_true rfl, Nat.le_of_ble_eq_true rfl⟩) (zPreV hK hP hD hS hA hSW [0, 1, 2] rfl (by decide) 0 (ci := 5) rfl rfl rfl) rfl rfl hl.1 rfl (lv_room (Nat.le_of_ble_eq_true rfl)) dX5_readOrder_71 ⟨Nat.le_of_ble_eq_true rfl, Nat.le_of_ble_eq_true rfl⟩) hP hD hS hA [0, 1, 2] [] [0, 1, 2] rfl rfl (by decide) (by decide) (by decide) (fun _ => rfl) (fun r71 u H locs hw71 hP hD hS => ?_)
    obtain ⟨p1_71, nu1_71, va1_71, ai1_71, rd1_71, hh1_71⟩ := u
    try dsimp only at hw71
    obtain ⟨rfl, rfl, rfl, rfl, rfl, rfl, rfl⟩ := hw71
    have hP : va_P G vwCl (rk Z a (si, le, ((rHrs si le (pp + 1) va ai rd hh).2.1), ((rHrs si le (pp + 1) va ai rd hh).2.2.1), (pSign si le pp), ((rHrs si le (pp + 1) va ai rd hh).2.2.2.1), ((rHrs si le (pp + 1) va ai rd hh).2.2.2.2.1), ((rHrs si le (pp + 1) va ai rd hh).2.2.2.2.2.1), ((rHrs si le (pp + 1) va ai rd hh).2.2.2.2.2.2))) H := hP
    have hD : va_D A (rk Z a (si, le, ((rHrs si le (pp + 1) va ai rd hh).2.1), ((rHrs si le (pp + 1) va ai rd hh).2.2.1), (pSign si le pp), ((rHrs si le (pp + 1) va ai rd hh).2.2.2.1), ((rHrs si le (pp + 1) va ai rd hh).2.2.2.2.1), ((rHrs si le (pp + 1) va ai rd hh).2.2.2.2.2.1), ((rHrs si le (pp + 1) va ai rd hh).2.2.2.2.2.2))) := hD
    exact W.zret hx hb hr (zNarBb (rHrs_b _ _ _ _ _ _ _)) (zEi (si, le, ((rHrs si le (pp + 1) va ai rd hh).2.1), ((rHrs si le (pp + 1) va ai rd hh).2.2.1), (pSign si le pp), ((rHrs si le (pp + 1) va ai rd hh).2.2.2.1), ((rHrs si le (pp + 1) va ai rd hh).2.2.2.2.1), ((rHrs si le (pp + 1) va ai rd hh).2.2.2.2.2.1), ((rHrs si le (pp + 1) va ai rd hh).2.2.2.2.2.2)) (by
        unfold rOrd
        dsimp only
        rw [if_neg c19_98, if_pos c19_104]
        exact ⟨rfl, rfl⟩) hP hD hS) hS.2.2 dX5_readOrder_74
  by_cases c19_119 : (pSign si le pp) = 119
  · refine lv_lookup (off := 56) (tgt := 75) hx hb dX5_readOrder_19 (by decide) (by rw [c19_119]; decide) (by decide) ?_
    refine lv_aload_n hx hb dX5_readOrder_75 rfl (lv_at hl 0 rfl) ?_
    refine lv_dup hx hb dX5_readOrder_76 rfl ?_
    refine va_get (D := G) (ci := 5) (v := .int (nI pp)) (C := RX5) (T := TX5) (N := 8) hx hb hts iX5 hown hK hP 0 rfl rfl 1 (by decide) k_18 (fun _ h9 => h9) rfl dX5_readOrder_77 ?_
    refine lv_iconst (v := 1) hx hb dX5_readOrder_80 (by decide) ?_
    refine lv_iadd hx hb dX5_readOrder_81 ?_
    refine zTopI (y := (nI (pp + 1))) (nI_succ pp).symm ?_
    refine va_put (D := G) (ci := 5) (v := .int (nI (pp + 1))) (ty := .int) (C := RX5) (T := TX5) (N := 8) hx hb hts iX5 tyX5 tyX5_ok nmX5 hown hK hP hD hS 0 rfl rfl 1 (by decide) k_18 (fun _ h9 => h9) rfl (by decide +kernel) rfl rfl (Nat.le_of_ble_eq_true rfl) dX5_readOrder_82 (fun H locs hP hD hS => ?_)
    have hP : va_P G vwCl (rk Z a (si, le, (pp + 1), nu, (pSign si le pp), va, ai, rd, hh)) H := hP
    have hD : va_D A (rk Z a (si, le, (pp + 1), nu, (pSign si le pp), va, ai, rd, hh)) := hD
    refine lv_aload_n hx hb dX5_readOrder_85 rfl (lv_at hl 0 rfl) ?_
    refine zCi (S := Nat × Int32) (ws1 := fun u => rk Z a (si, le, u.1, nu, (pSign si le pp), u.2, ai, rd, hh)) (wr := []) (va_runV (As := []) (rest := []) ⟨hx, hb, hml, hown, hts⟩ (m_X5_readWeight l G Z _ a si le (pp + 1) nu (pSign si le pp) va ai rd hh (by
        have hs := pSign_in (show ¬ pSign si le pp = 0 by rw [c19_119]; decide)
        omega) (by
        exact hle)) (cwV 0 hts gX5_readOrder_X5_readWeight rfl rfl rfl (by decide +kernel) ⟨Nat.le_of_ble_eq_true rfl, Nat.le_of_ble_eq_true rfl⟩) (zPreV hK hP hD hS hA hSW [0, 1, 2] rfl (by decide) 0 (ci := 5) rfl rfl rfl) rfl rfl hl.1 rfl (lv_room (Nat.le_of_ble_eq_true rfl)) dX5_readOrder_86 ⟨Nat.le_of_ble_eq_true rfl, Nat.le_of_ble_eq_true rfl⟩) hP hD hS hA [0, 1, 2] [] [0, 1, 2] rfl rfl (by decide) (by decide) (by decide) (fun _ => rfl) (fun r86 u H locs hw86 hP hD hS => ?_)
    obtain ⟨p1_86, va1_86⟩ := u
    try dsimp only at hw86
    obtain ⟨rfl, rfl, rfl⟩ := hw86
    have hP : va_P G vwCl (rk Z a (si, le, (rWtP si le (pp + 1)), nu, (pSign si le pp), (rWtV si le (pp + 1) va), ai, rd, hh)) H := hP
    have hD : va_D A (rk Z a (si, le, (rWtP si le (pp + 1)), nu, (pSign si le pp), (rWtV si le (pp + 1) va), ai, rd, hh)) := hD
    exact W.zret hx hb hr (zNarBb (rWtR_b _ _ _)) (zEi (si, le, (rWtP si le (pp + 1)), nu, (pSign si le pp), (rWtV si le (pp + 1) va), ai, rd, hh) (by
        unfold rOrd
        dsimp only
        rw [if_neg c19_98, if_neg c19_104, if_pos c19_119]
        exact ⟨rfl, rfl⟩) hP hD hS) hS.2.2 dX5_readOrder_89
  by_cases c19_122 : (pSign si le pp) = 122
  · refine lv_lookup (off := 86) (tgt := 105) hx hb dX5_readOrder_19 (by decide) (by rw [c19_122]; decide) (by decide) ?_
    refine lv_aload_n hx hb dX5_readOrder_105 rfl (lv_at hl 0 rfl) ?_
    refine lv_dup hx hb dX5_readOrder_106 rfl ?_
    refine va_get (D := G) (ci := 5) (v := .int (nI pp)) (C := RX5) (T := TX5) (N := 8) hx hb hts iX5 hown hK hP 0 rfl rfl 1 (by decide) k_18 (fun _ h9 => h9) rfl dX5_readOrder_107 ?_
    refine lv_iconst (v := 1) hx hb dX5_readOrder_110 (by decide) ?_
    refine lv_iadd hx hb dX5_readOrder_111 ?_
    refine zTopI (y := (nI (pp + 1))) (nI_succ pp).symm ?_
    refine va_put (D := G) (ci := 5) (v := .int (nI (pp + 1))) (ty := .int) (C := RX5) (T := TX5) (N := 8) hx hb hts iX5 tyX5 tyX5_ok nmX5 hown hK hP hD hS 0 rfl rfl 1 (by decide) k_18 (fun _ h9 => h9) rfl (by decide +kernel) rfl rfl (Nat.le_of_ble_eq_true rfl) dX5_readOrder_112 (fun H locs hP hD hS => ?_)
    have hP : va_P G vwCl (rk Z a (si, le, (pp + 1), nu, (pSign si le pp), va, ai, rd, hh)) H := hP
    have hD : va_D A (rk Z a (si, le, (pp + 1), nu, (pSign si le pp), va, ai, rd, hh)) := hD
    refine lv_iconst (v := 1) hx hb dX5_readOrder_115 (by decide) ?_
    exact W.zret hx hb hr (rfl) (zEi (si, le, (pp + 1), nu, (pSign si le pp), va, ai, rd, hh) (by
        unfold rOrd
        dsimp only
        rw [if_neg c19_98, if_neg c19_104, if_neg c19_119, if_pos c19_122]
        exact ⟨rfl, rfl⟩) hP hD hS) hS.2.2 dX5_readOrder_116
  refine lv_lookup (off := 98) (tgt := 117) hx hb dX5_readOrder_19 (by decide) (by show Op.lookupswitch.offset _ _ _ = _; rw [lv_osw (k := 98) c19_98 (by decide)]; rw [lv_osw (k := 104) c19_104 (by decide)]; rw [lv_osw (k := 119) c19_119 (by decide)]; rw [lv_osw (k := 122) c19_122 (by decide)]; rfl) (by decide) ?_
  refine lv_iconst (v := 0) hx hb dX5_readOrder_117 (by decide) ?_
  exact W.zret hx hb hr (rfl) (zEi (si, le, pp, nu, (pSign si le pp), va, ai, rd, hh) (by
      unfold rOrd
      dsimp only
      rw [if_neg c19_98, if_neg c19_104, if_neg c19_119, if_neg c19_122]
      exact ⟨rfl, rfl⟩) hP hD hS) hS.2.2 dX5_readOrder_118
