set_option maxHeartbeats 4000000 in
set_option maxRecDepth 100000 in
theorem m_X5_readNumber (l : Launch) (G : va_G) (Z : Nat → ClassId) (sz : Nat) (a : Nat → Nat) (si : Nat → Int32) (le : Nat) (pp : Nat) (nu : Int32) (od : Int32) (va : Int32) (ai : Int32) (rd : Int32) (hh : Int32) (hp : pp ≤ 80) (hle : le ≤ 80) : Met l yX5_readNumber wsX5_readNumber ({ frames := 1, cells := 0, slots := 0, locals := 21 }) (va_Pc [.ref (a 0)] (zWP G Z sz (rk Z a (si, le, pp, nu, od, va, ai, rd, hh)))) (va_Qi (fun (r : Int32) (u : Nat × Int32) => r = rNumR si le pp ∧ u.1 = rNumP si le pp ∧ u.2 = rNumN si le pp) (fun (u : Nat × Int32) t => zB G (va_A (rk Z a (si, le, pp, nu, od, va, ai, rd, hh)) sz) (rk Z a (si, le, u.1, u.2, od, va, ai, rd, hh)) t) (va_A (rk Z a (si, le, pp, nu, od, va, ai, rd, hh)) sz)) 0 0 (va_A (rk Z a (si, le, pp, nu, od, va, ai, rd, hh)) sz) := by
  refine Met.ofW (cc := cX5_readNumber) (maxL := 2) (ret := (some .boolean)) (by decide) rfl ?_
  intro p e s m args below meth c s₁ B hml hv
  have hx := B.exec
  have hb := B.bytes
  have hr := B.returns
  have hts := atoms_spec (ws := wsX5_readNumber) B.pre
  have hown : s.vm.findClass RX5 = some m.cls := findClass_of_methodNamed B.named
  have hlocks := B.notSynchronized
  obtain ⟨rfl, hsz, hP, hK, hD, hA, hS, hSW⟩ := zEnter hv
  subst hsz
  generalize va_A (rk Z a (si, le, pp, nu, od, va, ai, rd, hh)) s.heap.size = A at hD hA hS hSW ⊢
  have k_55 := hts (.fieldLink RX5 55 "WarmRods$Reader" "number" "I") (List.mem_of_getElem? (i := 1) rfl)
  have iX5 : ∀ w ∈ u_ws RX5 TX5 8, w ∈ wsX5_readNumber := fun _ h => List.mem_cons_of_mem _ (List.mem_append_left _ (List.mem_append_right _ h))
  have k_12 := hts (.fieldLink RX5 12 "WarmRods$Reader" "pad" "LWarmRods$Pad;") (List.mem_of_getElem? (i := 2) rfl)
  have k_18 := hts (.fieldLink RX5 18 "WarmRods$Reader" "place" "I") (List.mem_of_getElem? (i := 3) rfl)
  have hP : va_P G vwCl (rk Z a (si, le, pp, nu, od, va, ai, rd, hh)) s.heap := hP
  have hl := lv_entry ([.ref (a 0)]) (n := 2) (Nat.le_of_ble_eq_true rfl)
  rw [lg_entry_eq]
  generalize (lg_sl ([.ref (a 0)]) ++ List.replicate (2 - (lg_sl ([.ref (a 0)])).length) Slot.unset).toArray = ls at hl ⊢
  have hl : lv_has ls 2 [(0, .ref (a 0))] := hl
  refine lv_iconst (v := 0) hx hb dX5_readNumber_0 (by decide) ?_
  refine lv_istore_n (lv' := [(1, .int 0), (0, .ref (a 0))]) hx hb dX5_readNumber_1 rfl hl (by decide) rfl (fun ls hl => ?_)
  refine lv_aload_n hx hb dX5_readNumber_2 rfl (lv_at hl 1 rfl) ?_
  refine lv_iconst (v := 0) hx hb dX5_readNumber_3 (by decide) ?_
  refine va_put (D := G) (ci := 5) (v := .int 0) (ty := .int) (C := RX5) (T := TX5) (N := 8) hx hb hts iX5 tyX5 tyX5_ok nmX5 hown hK hP hD hS 0 rfl rfl 2 (by decide) k_55 (fun _ h9 => h9) rfl (by decide +kernel) rfl rfl (Nat.le_of_ble_eq_true rfl) dX5_readNumber_4 (fun H locs hP hD hS => ?_)
  have hP : va_P G vwCl (rk Z a (si, le, pp, 0, od, va, ai, rd, hh)) H := hP
  have hD : va_D A (rk Z a (si, le, pp, 0, od, va, ai, rd, hh)) := hD
  refine zLoop (σ := Nat × Nat × Int32 × Nat) (nL := 2) (fun zx => rk Z a (si, le, zx.2.2.2, zx.2.2.1, od, va, ai, rd, hh)) (fun zx => [(1, .int (nI zx.2.1)), (0, .ref (a 0))]) (fun zx => rN si le zx.1 zx.2.1 zx.2.2.1 zx.2.2.2 = rN si le 4 0 0 pp ∧ zx.2.1 + zx.1 = 4 ∧ zx.2.2.2 ≤ 80) (fun zx => zx.1) ?_ (4, 0, 0, pp) (by
      try dsimp only
      exact ⟨rfl, rfl, hp⟩) hP hD hS (lv_sub hl [0, 1] rfl)
  intro zx hinv7 ih7 H locs ls hP hD hS hl
  obtain ⟨f, d, n, q⟩ := zx
  try dsimp only at hinv7 ih7
  have hP : va_P G vwCl (rk Z a (si, le, q, n, od, va, ai, rd, hh)) H := hP
  have hD : va_D A (rk Z a (si, le, q, n, od, va, ai, rd, hh)) := hD
  have hl : lv_has ls 2 [(1, .int (nI d)), (0, .ref (a 0))] := hl
  refine lv_iload_n hx hb dX5_readNumber_7 rfl (lv_at hl 0 rfl) ?_
  refine lv_iconst (v := 4) hx hb dX5_readNumber_8 (by decide) ?_
  refine lv_icmp_ge (tgt := 82) hx hb dX5_readNumber_9 (by decide) (fun c9 => ?_) (fun c9 => ?_)
  · have he : rN si le 4 0 0 pp = (d, n, q) := by
      have h4 := zLe (a := 4) c9 (by omega) (by omega)
      have hf : f = 0 := by omega
      rw [← hinv7.1, hf]
      rfl
    refine lv_iload_n hx hb dX5_readNumber_82 rfl (lv_at hl 0 rfl) ?_
    refine lv_if_le (tgt := 90) hx hb dX5_readNumber_83 (by decide) (fun c83 => ?_) (fun c83 => ?_)
    · refine lv_iconst (v := 0) hx hb dX5_readNumber_90 (by decide) ?_
      exact W.zret hx hb hr (rfl) (zEi (q, n) (by
          have hd : d = 0 := by
            rcases Nat.eq_zero_or_pos d with h | h
            · exact h
            · exact absurd c83 (nI_nle h (by omega))
          simp only [rNumR, rNumP, rNumN, he, hd, ↓reduceIte, and_self]) hP hD hS) hS.2.2 dX5_readNumber_91
    · refine lv_iconst (v := 1) hx hb dX5_readNumber_86 (by decide) ?_
      refine lv_goto (tgt := 91) hx hb dX5_readNumber_87 (by decide) ?_
      exact W.zret hx hb hr (rfl) (zEi (q, n) (by
          have hd : ¬ d = 0 := fun e => c83 (by rw [e]; decide)
          simp only [rNumR, rNumP, rNumN, he, hd, ↓reduceIte, and_self]) hP hD hS) hS.2.2 dX5_readNumber_91
  · refine lv_aload_n hx hb dX5_readNumber_12 rfl (lv_at hl 1 rfl) ?_
    refine va_get (D := G) (ci := 5) (v := .ref (a 1)) (C := RX5) (T := TX5) (N := 8) hx hb hts iX5 hown hK hP 0 rfl rfl 0 (by decide) k_12 (fun _ h9 => h9) rfl dX5_readNumber_13 ?_
    refine lv_aload_n hx hb dX5_readNumber_16 rfl (lv_at hl 1 rfl) ?_
    refine va_get (D := G) (ci := 5) (v := .int (nI q)) (C := RX5) (T := TX5) (N := 8) hx hb hts iX5 hown hK hP 0 rfl rfl 1 (by decide) k_18 (fun _ h9 => h9) rfl dX5_readNumber_17 ?_
    refine zCi (S := Unit) (ws1 := fun u => rk Z a (si, le, q, n, od, va, ai, rd, hh)) (wr := [((a 0), .inr (5, [.ref (a 1), .int (nI q), .int n, .int od, .int va, .int ai, .int rd, .int hh]))]) (va_runV (As := [.int (nI q)]) (rest := []) ⟨hx, hb, hml, hown, hts⟩ (m_X4_signAt l G Z _ (a 1) (a 2) si le q (by
        omega) (by
        omega)) (cwV 1 hts gX5_readNumber_X4_signAt rfl rfl rfl (by decide +kernel) ⟨Nat.le_of_ble_eq_true rfl, Nat.le_of_ble_eq_true rfl⟩) (zPreV hK hP hD hS hA hSW [1, 2] rfl (by decide) 1 (ci := 4) rfl rfl rfl) rfl rfl hl.1 rfl (lv_room (Nat.le_of_ble_eq_true rfl)) dX5_readNumber_20 ⟨Nat.le_of_ble_eq_true rfl, Nat.le_of_ble_eq_true rfl⟩) hP hD hS hA [1, 2] [0] [0, 1, 2] rfl rfl (by decide) (by decide) (by decide) (fun _ => rfl) (fun r20 u H locs hw20 hP hD hS => ?_)
    try dsimp only at hw20
    subst hw20
    have hP : va_P G vwCl (rk Z a (si, le, q, n, od, va, ai, rd, hh)) H := hP
    have hD : va_D A (rk Z a (si, le, q, n, od, va, ai, rd, hh)) := hD
    refine zCi (S := Unit) (ws1 := fun u => rk Z a (si, le, q, n, od, va, ai, rd, hh)) (wr := rk Z a (si, le, q, n, od, va, ai, rd, hh)) (va_runS (As := [.int (pSign si le q)]) (rest := []) ⟨hx, hb, hml, hown, hts⟩ (m_X5_isDigit l G Z _ (pSign si le q)) (va_cwS 1 hts gX5_readNumber_X5_isDigit rfl rfl rfl (by decide +kernel) ⟨Nat.le_of_ble_eq_true rfl, Nat.le_of_ble_eq_true rfl⟩) (zPreS hK hP hD hS hA hSW [] rfl (by decide)) rfl rfl hl.1 rfl (lv_room (Nat.le_of_ble_eq_true rfl)) dX5_readNumber_23 ⟨Nat.le_of_ble_eq_true rfl, Nat.le_of_ble_eq_true rfl⟩) hP hD hS hA [] [0, 1, 2] [0, 1, 2] rfl rfl (by decide) (by decide) (by decide) (fun _ => rfl) (fun r23 u H locs hw23 hP hD hS => ?_)
    try dsimp only at hw23
    subst hw23
    have hP : va_P G vwCl (rk Z a (si, le, q, n, od, va, ai, rd, hh)) H := hP
    have hD : va_D A (rk Z a (si, le, q, n, od, va, ai, rd, hh)) := hD
    refine lv_if_eq (tgt := 82) hx hb dX5_readNumber_26 (by decide) (fun c26 => ?_) (fun c26 => ?_)
    · have he : rN si le 4 0 0 pp = (d, n, q) := by
        have h4 := zNle (a := 4) c9 (by omega) (by omega)
        obtain ⟨f, rfl⟩ : ∃ j, f = j + 1 := ⟨f - 1, by omega⟩
        rw [← hinv7.1, rN, if_pos c26]
      refine lv_iload_n hx hb dX5_readNumber_82 rfl (lv_at hl 0 rfl) ?_
      refine lv_if_le (tgt := 90) hx hb dX5_readNumber_83 (by decide) (fun c83 => ?_) (fun c83 => ?_)
      · refine lv_iconst (v := 0) hx hb dX5_readNumber_90 (by decide) ?_
        exact W.zret hx hb hr (rfl) (zEi (q, n) (by
            have hd : d = 0 := by
              rcases Nat.eq_zero_or_pos d with h | h
              · exact h
              · exact absurd c83 (nI_nle h (by omega))
            simp only [rNumR, rNumP, rNumN, he, hd, ↓reduceIte, and_self]) hP hD hS) hS.2.2 dX5_readNumber_91
      · refine lv_iconst (v := 1) hx hb dX5_readNumber_86 (by decide) ?_
        refine lv_goto (tgt := 91) hx hb dX5_readNumber_87 (by decide) ?_
        exact W.zret hx hb hr (rfl) (zEi (q, n) (by
            have hd : ¬ d = 0 := fun e => c83 (by rw [e]; decide)
            simp only [rNumR, rNumP, rNumN, he, hd, ↓reduceIte, and_self]) hP hD hS) hS.2.2 dX5_readNumber_91
    · refine lv_iload_n hx hb dX5_readNumber_29 rfl (lv_at hl 0 rfl) ?_
      refine lv_if_eq (tgt := 40) hx hb dX5_readNumber_30 (by decide) (fun c30 => ?_) (fun c30 => ?_)
      · refine lv_aload_n hx hb dX5_readNumber_40 rfl (lv_at hl 1 rfl) ?_
        refine lv_aload_n hx hb dX5_readNumber_41 rfl (lv_at hl 1 rfl) ?_
        refine va_get (D := G) (ci := 5) (v := .int n) (C := RX5) (T := TX5) (N := 8) hx hb hts iX5 hown hK hP 0 rfl rfl 2 (by decide) k_55 (fun _ h9 => h9) rfl dX5_readNumber_42 ?_
        refine lv_bipush (v := 10) hx hb dX5_readNumber_45 (by decide) ?_
        refine lv_imul hx hb dX5_readNumber_47 ?_
        refine lv_aload_n hx hb dX5_readNumber_48 rfl (lv_at hl 1 rfl) ?_
        refine va_get (D := G) (ci := 5) (v := .ref (a 1)) (C := RX5) (T := TX5) (N := 8) hx hb hts iX5 hown hK hP 0 rfl rfl 0 (by decide) k_12 (fun _ h9 => h9) rfl dX5_readNumber_49 ?_
        refine lv_aload_n hx hb dX5_readNumber_52 rfl (lv_at hl 1 rfl) ?_
        refine va_get (D := G) (ci := 5) (v := .int (nI q)) (C := RX5) (T := TX5) (N := 8) hx hb hts iX5 hown hK hP 0 rfl rfl 1 (by decide) k_18 (fun _ h9 => h9) rfl dX5_readNumber_53 ?_
        refine zCi (S := Unit) (ws1 := fun u => rk Z a (si, le, q, n, od, va, ai, rd, hh)) (wr := [((a 0), .inr (5, [.ref (a 1), .int (nI q), .int n, .int od, .int va, .int ai, .int rd, .int hh]))]) (va_runV (As := [.int (nI q)]) (rest := [.int (n * 10), .ref (a 0)]) ⟨hx, hb, hml, hown, hts⟩ (m_X4_signAt l G Z _ (a 1) (a 2) si le q (by
            omega) (by
            omega)) (cwV 1 hts gX5_readNumber_X4_signAt rfl rfl rfl (by decide +kernel) ⟨Nat.le_of_ble_eq_true rfl, Nat.le_of_ble_eq_true rfl⟩) (zPreV hK hP hD hS hA hSW [1, 2] rfl (by decide) 1 (ci := 4) rfl rfl rfl) rfl rfl hl.1 rfl (lv_room (Nat.le_of_ble_eq_true rfl)) dX5_readNumber_56 ⟨Nat.le_of_ble_eq_true rfl, Nat.le_of_ble_eq_true rfl⟩) hP hD hS hA [1, 2] [0] [0, 1, 2] rfl rfl (by decide) (by decide) (by decide) (fun _ => rfl) (fun r56 u H locs hw56 hP hD hS => ?_)
        try dsimp only at hw56
        subst hw56
        have hP : va_P G vwCl (rk Z a (si, le, q, n, od, va, ai, rd, hh)) H := hP
        have hD : va_D A (rk Z a (si, le, q, n, od, va, ai, rd, hh)) := hD
        refine lv_iadd hx hb dX5_readNumber_59 ?_
        refine lv_bipush (v := 48) hx hb dX5_readNumber_60 (by decide) ?_
        refine lv_isub hx hb dX5_readNumber_62 ?_
        refine va_put (D := G) (ci := 5) (v := .int (((n * 10) + (pSign si le q)) - 48)) (ty := .int) (C := RX5) (T := TX5) (N := 8) hx hb hts iX5 tyX5 tyX5_ok nmX5 hown hK hP hD hS 0 rfl rfl 2 (by decide) k_55 (fun _ h9 => h9) rfl (by decide +kernel) rfl rfl (Nat.le_of_ble_eq_true rfl) dX5_readNumber_63 (fun H locs hP hD hS => ?_)
        have hP : va_P G vwCl (rk Z a (si, le, q, (((n * 10) + (pSign si le q)) - 48), od, va, ai, rd, hh)) H := hP
        have hD : va_D A (rk Z a (si, le, q, (((n * 10) + (pSign si le q)) - 48), od, va, ai, rd, hh)) := hD
        refine lv_iinc (v := (nI (d + 1))) (lv' := [(1, .int (nI (d + 1))), (0, .ref (a 0))]) hx hb dX5_readNumber_66 hl (k := 0) rfl (nI_succ d).symm (by decide) rfl (fun ls hl => ?_)
        refine lv_aload_n hx hb dX5_readNumber_69 rfl (lv_at hl 1 rfl) ?_
        refine lv_dup hx hb dX5_readNumber_70 rfl ?_
        refine va_get (D := G) (ci := 5) (v := .int (nI q)) (C := RX5) (T := TX5) (N := 8) hx hb hts iX5 hown hK hP 0 rfl rfl 1 (by decide) k_18 (fun _ h9 => h9) rfl dX5_readNumber_71 ?_
        refine lv_iconst (v := 1) hx hb dX5_readNumber_74 (by decide) ?_
        refine lv_iadd hx hb dX5_readNumber_75 ?_
        refine zTopI (y := (nI (q + 1))) (nI_succ q).symm ?_
        refine va_put (D := G) (ci := 5) (v := .int (nI (q + 1))) (ty := .int) (C := RX5) (T := TX5) (N := 8) hx hb hts iX5 tyX5 tyX5_ok nmX5 hown hK hP hD hS 0 rfl rfl 1 (by decide) k_18 (fun _ h9 => h9) rfl (by decide +kernel) rfl rfl (Nat.le_of_ble_eq_true rfl) dX5_readNumber_76 (fun H locs hP hD hS => ?_)
        have hP : va_P G vwCl (rk Z a (si, le, (q + 1), (((n * 10) + (pSign si le q)) - 48), od, va, ai, rd, hh)) H := hP
        have hD : va_D A (rk Z a (si, le, (q + 1), (((n * 10) + (pSign si le q)) - 48), od, va, ai, rd, hh)) := hD
        refine lv_goto (tgt := 7) hx hb dX5_readNumber_79 (by decide) ?_
        exact ih7 ((f - 1), (d + 1), (n * 10 + pSign si le q - 48), (q + 1)) (by
            try dsimp only
            have h4 := zNle (a := 4) c9 (by omega) (by omega)
            obtain ⟨f, rfl⟩ : ∃ j, f = j + 1 := ⟨f - 1, by omega⟩
            have hs := pSign_in (pDig_nz c26)
            have hd : d = 0 := by
              rcases Nat.eq_zero_or_pos d with h | h
              · exact h
              · exact absurd c30 (nI_ne0 h (by omega))
            have hcond : ¬ (¬ d = 0 ∧ n ≤ 0) := fun h => h.1 hd
            rw [rN, if_neg c26, if_neg hcond] at hinv7
            refine ⟨hinv7.1, ?_, ?_⟩
            · omega
            · omega) (by
            try dsimp only
            have h4 := zNle (a := 4) c9 (by omega) (by omega)
            omega) _ _ _ hP hD hS (lv_sub hl [0, 1] rfl)
      · refine lv_aload_n hx hb dX5_readNumber_33 rfl (lv_at hl 1 rfl) ?_
        refine va_get (D := G) (ci := 5) (v := .int n) (C := RX5) (T := TX5) (N := 8) hx hb hts iX5 hown hK hP 0 rfl rfl 2 (by decide) k_55 (fun _ h9 => h9) rfl dX5_readNumber_34 ?_
        refine lv_if_le (tgt := 82) hx hb dX5_readNumber_37 (by decide) (fun c37 => ?_) (fun c37 => ?_)
        · have he : rN si le 4 0 0 pp = (d, n, q) := by
            have h4 := zNle (a := 4) c9 (by omega) (by omega)
            obtain ⟨f, rfl⟩ : ∃ j, f = j + 1 := ⟨f - 1, by omega⟩
            have hd : ¬ d = 0 := fun e => c30 (by rw [e]; rfl)
            rw [← hinv7.1, rN, if_neg c26, if_pos ⟨hd, c37⟩]
          refine lv_iload_n hx hb dX5_readNumber_82 rfl (lv_at hl 0 rfl) ?_
          refine lv_if_le (tgt := 90) hx hb dX5_readNumber_83 (by decide) (fun c83 => ?_) (fun c83 => ?_)
          · refine lv_iconst (v := 0) hx hb dX5_readNumber_90 (by decide) ?_
            exact W.zret hx hb hr (rfl) (zEi (q, n) (by
                have hd : d = 0 := by
                  rcases Nat.eq_zero_or_pos d with h | h
                  · exact h
                  · exact absurd c83 (nI_nle h (by omega))
                simp only [rNumR, rNumP, rNumN, he, hd, ↓reduceIte, and_self]) hP hD hS) hS.2.2 dX5_readNumber_91
          · refine lv_iconst (v := 1) hx hb dX5_readNumber_86 (by decide) ?_
            refine lv_goto (tgt := 91) hx hb dX5_readNumber_87 (by decide) ?_
            exact W.zret hx hb hr (rfl) (zEi (q, n) (by
                have hd : ¬ d = 0 := fun e => c83 (by rw [e]; decide)
                simp only [rNumR, rNumP, rNumN, he, hd, ↓reduceIte, and_self]) hP hD hS) hS.2.2 dX5_readNumber_91
        · refine lv_aload_n hx hb dX5_readNumber_40 rfl (lv_at hl 1 rfl) ?_
          refine lv_aload_n hx hb dX5_readNumber_41 rfl (lv_at hl 1 rfl) ?_
          refine va_get (D := G) (ci := 5) (v := .int n) (C := RX5) (T := TX5) (N := 8) hx hb hts iX5 hown hK hP 0 rfl rfl 2 (by decide) k_55 (fun _ h9 => h9) rfl dX5_readNumber_42 ?_
          refine lv_bipush (v := 10) hx hb dX5_readNumber_45 (by decide) ?_
          refine lv_imul hx hb dX5_readNumber_47 ?_
          refine lv_aload_n hx hb dX5_readNumber_48 rfl (lv_at hl 1 rfl) ?_
          refine va_get (D := G) (ci := 5) (v := .ref (a 1)) (C := RX5) (T := TX5) (N := 8) hx hb hts iX5 hown hK hP 0 rfl rfl 0 (by decide) k_12 (fun _ h9 => h9) rfl dX5_readNumber_49 ?_
          refine lv_aload_n hx hb dX5_readNumber_52 rfl (lv_at hl 1 rfl) ?_
          refine va_get (D := G) (ci := 5) (v := .int (nI q)) (C := RX5) (T := TX5) (N := 8) hx hb hts iX5 hown hK hP 0 rfl rfl 1 (by decide) k_18 (fun _ h9 => h9) rfl dX5_readNumber_53 ?_
          refine zCi (S := Unit) (ws1 := fun u => rk Z a (si, le, q, n, od, va, ai, rd, hh)) (wr := [((a 0), .inr (5, [.ref (a 1), .int (nI q), .int n, .int od, .int va, .int ai, .int rd, .int hh]))]) (va_runV (As := [.int (nI q)]) (rest := [.int (n * 10), .ref (a 0)]) ⟨hx, hb, hml, hown, hts⟩ (m_X4_signAt l G Z _ (a 1) (a 2) si le q (by
              omega) (by
              omega)) (cwV 1 hts gX5_readNumber_X4_signAt rfl rfl rfl (by decide +kernel) ⟨Nat.le_of_ble_eq_true rfl, Nat.le_of_ble_eq_true rfl⟩) (zPreV hK hP hD hS hA hSW [1, 2] rfl (by decide) 1 (ci := 4) rfl rfl rfl) rfl rfl hl.1 rfl (lv_room (Nat.le_of_ble_eq_true rfl)) dX5_readNumber_56 ⟨Nat.le_of_ble_eq_true rfl, Nat.le_of_ble_eq_true rfl⟩) hP hD hS hA [1, 2] [0] [0, 1, 2] rfl rfl (by decide) (by decide) (by decide) (fun _ => rfl) (fun r56_2 u H locs hw56_2 hP hD hS => ?_)
          try dsimp only at hw56_2
          subst hw56_2
          have hP : va_P G vwCl (rk Z a (si, le, q, n, od, va, ai, rd, hh)) H := hP
          have hD : va_D A (rk Z a (si, le, q, n, od, va, ai, rd, hh)) := hD
          refine lv_iadd hx hb dX5_readNumber_59 ?_
          refine lv_bipush (v := 48) hx hb dX5_readNumber_60 (by decide) ?_
          refine lv_isub hx hb dX5_readNumber_62 ?_
          refine va_put (D := G) (ci := 5) (v := .int (((n * 10) + (pSign si le q)) - 48)) (ty := .int) (C := RX5) (T := TX5) (N := 8) hx hb hts iX5 tyX5 tyX5_ok nmX5 hown hK hP hD hS 0 rfl rfl 2 (by decide) k_55 (fun _ h9 => h9) rfl (by decide +kernel) rfl rfl (Nat.le_of_ble_eq_true rfl) dX5_readNumber_63 (fun H locs hP hD hS => ?_)
          have hP : va_P G vwCl (rk Z a (si, le, q, (((n * 10) + (pSign si le q)) - 48), od, va, ai, rd, hh)) H := hP
          have hD : va_D A (rk Z a (si, le, q, (((n * 10) + (pSign si le q)) - 48), od, va, ai, rd, hh)) := hD
          refine lv_iinc (v := (nI (d + 1))) (lv' := [(1, .int (nI (d + 1))), (0, .ref (a 0))]) hx hb dX5_readNumber_66 hl (k := 0) rfl (nI_succ d).symm (by decide) rfl (fun ls hl => ?_)
          refine lv_aload_n hx hb dX5_readNumber_69 rfl (lv_at hl 1 rfl) ?_
          refine lv_dup hx hb dX5_readNumber_70 rfl ?_
          refine va_get (D := G) (ci := 5) (v := .int (nI q)) (C := RX5) (T := TX5) (N := 8) hx hb hts iX5 hown hK hP 0 rfl rfl 1 (by decide) k_18 (fun _ h9 => h9) rfl dX5_readNumber_71 ?_
          refine lv_iconst (v := 1) hx hb dX5_readNumber_74 (by decide) ?_
          refine lv_iadd hx hb dX5_readNumber_75 ?_
          refine zTopI (y := (nI (q + 1))) (nI_succ q).symm ?_
          refine va_put (D := G) (ci := 5) (v := .int (nI (q + 1))) (ty := .int) (C := RX5) (T := TX5) (N := 8) hx hb hts iX5 tyX5 tyX5_ok nmX5 hown hK hP hD hS 0 rfl rfl 1 (by decide) k_18 (fun _ h9 => h9) rfl (by decide +kernel) rfl rfl (Nat.le_of_ble_eq_true rfl) dX5_readNumber_76 (fun H locs hP hD hS => ?_)
          have hP : va_P G vwCl (rk Z a (si, le, (q + 1), (((n * 10) + (pSign si le q)) - 48), od, va, ai, rd, hh)) H := hP
          have hD : va_D A (rk Z a (si, le, (q + 1), (((n * 10) + (pSign si le q)) - 48), od, va, ai, rd, hh)) := hD
          refine lv_goto (tgt := 7) hx hb dX5_readNumber_79 (by decide) ?_
          exact ih7 ((f - 1), (d + 1), (n * 10 + pSign si le q - 48), (q + 1)) (by
              try dsimp only
              have h4 := zNle (a := 4) c9 (by omega) (by omega)
              obtain ⟨f, rfl⟩ : ∃ j, f = j + 1 := ⟨f - 1, by omega⟩
              have hs := pSign_in (pDig_nz c26)
              have hcond : ¬ (¬ d = 0 ∧ n ≤ 0) := fun h => c37 h.2
              rw [rN, if_neg c26, if_neg hcond] at hinv7
              refine ⟨hinv7.1, ?_, ?_⟩
              · omega
              · omega) (by
              try dsimp only
              have h4 := zNle (a := 4) c9 (by omega) (by omega)
              omega) _ _ _ hP hD hS (lv_sub hl [0, 1] rfl)
