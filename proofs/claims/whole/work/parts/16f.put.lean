set_option maxHeartbeats 4000000 in
set_option maxRecDepth 100000 in
theorem m_X7_codeAt (l : Launch) (G : va_G) (Z : Nat → ClassId) (sz : Nat) (w : Int64) (k : Nat) (hk : k < 8) : Met l yX7_codeAt wsX7_codeAt ({ frames := 0, cells := 0, slots := 0, locals := 0 }) (va_Pc [.long w, .int (nI k)] (zWP G Z sz ([]))) (va_Qi (fun (r : Int32) (u : Unit) => r = nI (qB (w).toBitVec.toNat k)) (fun (u : Unit) t => zB G (va_A ([]) sz) ([]) t) (va_A ([]) sz)) 0 0 (va_A ([]) sz) := by
  refine Met.ofW (cc := cX7_codeAt) (maxL := 3) (ret := (some .int)) (by decide) rfl ?_
  intro p e s m args below meth c s₁ B hml hv
  have hx := B.exec
  have hb := B.bytes
  have hr := B.returns
  have hts := atoms_spec (ws := wsX7_codeAt) B.pre
  have hown : s.vm.findClass RX7 = some m.cls := findClass_of_methodNamed B.named
  have hlocks := B.notSynchronized
  obtain ⟨rfl, hsz, hP, hK, hD, hA, hS, hSW⟩ := zEnter hv
  subst hsz
  generalize va_A ([]) s.heap.size = A at hD hA hS hSW ⊢
  have hP : va_P G vwCl ([]) s.heap := hP
  have hl := lv_entry ([.long w, .int (nI k)]) (n := 3) (Nat.le_of_ble_eq_true rfl)
  rw [lg_entry_eq]
  generalize (lg_sl ([.long w, .int (nI k)]) ++ List.replicate (3 - (lg_sl ([.long w, .int (nI k)])).length) Slot.unset).toArray = ls at hl ⊢
  have hl : lv_has ls 3 [(0, .long w), (2, .int (nI k))] := hl
  refine lv_lload_n hx hb dX7_codeAt_0 rfl (lv_at hl 0 rfl) ?_
  refine lv_bipush (v := 8) hx hb dX7_codeAt_1 (by decide) ?_
  refine lv_iload_n hx hb dX7_codeAt_3 rfl (lv_at hl 1 rfl) ?_
  refine lv_imul hx hb dX7_codeAt_4 ?_
  refine lv_lushr (v := zUshr w (8 * (nI k))) hx hb dX7_codeAt_5 rfl ?_
  refine lv_l2i hx hb dX7_codeAt_6 rfl ?_
  refine lv_sipush (v := 255) hx hb dX7_codeAt_7 (by decide) ?_
  refine lv_iand hx hb dX7_codeAt_10 ?_
  exact W.iret hx hb hr (zEi () (by
      exact zCode w hk) hP hD hS) hS.2.2 dX7_codeAt_11

set_option maxHeartbeats 4000000 in
set_option maxRecDepth 100000 in
theorem m_X7_signsIn (l : Launch) (G : va_G) (Z : Nat → ClassId) (sz : Nat) (w : Int64)  : Met l yX7_signsIn wsX7_signsIn ({ frames := 1, cells := 0, slots := 0, locals := 22 }) (va_Pc [.long w] (zWP G Z sz ([]))) (va_Qi (fun (r : Int32) (u : Unit) => r = nI (qSg (w).toBitVec.toNat 8 0)) (fun (u : Unit) t => zB G (va_A ([]) sz) ([]) t) (va_A ([]) sz)) 0 0 (va_A ([]) sz) := by
  refine Met.ofW (cc := cX7_signsIn) (maxL := 4) (ret := (some .int)) (by decide) rfl ?_
  intro p e s m args below meth c s₁ B hml hv
  have hx := B.exec
  have hb := B.bytes
  have hr := B.returns
  have hts := atoms_spec (ws := wsX7_signsIn) B.pre
  have hown : s.vm.findClass RX7 = some m.cls := findClass_of_methodNamed B.named
  have hlocks := B.notSynchronized
  obtain ⟨rfl, hsz, hP, hK, hD, hA, hS, hSW⟩ := zEnter hv
  subst hsz
  generalize va_A ([]) s.heap.size = A at hD hA hS hSW ⊢
  have hP : va_P G vwCl ([]) s.heap := hP
  have hl := lv_entry ([.long w]) (n := 4) (Nat.le_of_ble_eq_true rfl)
  rw [lg_entry_eq]
  generalize (lg_sl ([.long w]) ++ List.replicate (4 - (lg_sl ([.long w])).length) Slot.unset).toArray = ls at hl ⊢
  have hl : lv_has ls 4 [(0, .long w)] := hl
  refine lv_iconst (v := 0) hx hb dX7_signsIn_0 (by decide) ?_
  refine lv_istore_n (lv' := [(2, .int 0), (0, .long w)]) hx hb dX7_signsIn_1 rfl hl (by decide) rfl (fun ls hl => ?_)
  refine zLoop (σ := Nat) (nL := 4) (fun zx => []) (fun zx => [(2, .int (nI zx)), (0, .long w)]) (fun zx => zx ≤ 8 ∧ qSg w.toBitVec.toNat (8 - zx) zx = qSg w.toBitVec.toNat 8 0) (fun zx => 8 - zx) ?_ 0 (by
      try dsimp only
      exact ⟨by omega, rfl⟩) hP hD hS (lv_sub hl [0, 1] rfl)
  intro zx hinv2 ih2 H locs ls hP hD hS hl
  obtain ⟨k, rfl⟩ : ∃ z, z = zx := ⟨_, rfl⟩
  try dsimp only at hinv2 ih2
  have hP : va_P G vwCl ([]) H := hP
  have hD : va_D A ([]) := hD
  have hl : lv_has ls 4 [(2, .int (nI k)), (0, .long w)] := hl
  refine lv_iload_n hx hb dX7_signsIn_2 rfl (lv_at hl 0 rfl) ?_
  refine lv_bipush (v := 8) hx hb dX7_signsIn_3 (by decide) ?_
  refine lv_icmp_ge (tgt := 55) hx hb dX7_signsIn_5 (by decide) (fun c5 => ?_) (fun c5 => ?_)
  · refine lv_bipush (v := 8) hx hb dX7_signsIn_55 (by decide) ?_
    exact W.iret hx hb hr (zEi () (by
        have hk := zLe (a := 8) c5 (by omega) (by omega)
        obtain rfl : k = 8 := by omega
        rw [← hinv2.2]
        rfl) hP hD hS) hS.2.2 dX7_signsIn_57
  · have hk8 : k < 8 := zNle (a := 8) c5 (by omega) (by omega)
    have hq := hinv2.2
    rw [show 8 - k = (7 - k) + 1 by omega, qSg] at hq
    have hqb := qB_lt w.toBitVec.toNat k
    refine lv_lload_n hx hb dX7_signsIn_8 rfl (lv_at hl 1 rfl) ?_
    refine lv_iload_n hx hb dX7_signsIn_9 rfl (lv_at hl 0 rfl) ?_
    refine zCi (S := Unit) (ws1 := fun u => []) (wr := []) (va_runS (As := [.long w, .int (nI k)]) (rest := []) ⟨hx, hb, hml, hown, hts⟩ (m_X7_codeAt l G Z _ w k (by
        exact hk8)) (va_cwS 2 hts gX7_signsIn_X7_codeAt rfl rfl rfl (by decide +kernel) ⟨Nat.le_of_ble_eq_true rfl, Nat.le_of_ble_eq_true rfl⟩) (zPreS hK hP hD hS hA hSW [] rfl (by decide)) rfl rfl hl.1 rfl (lv_room (Nat.le_of_ble_eq_true rfl)) dX7_signsIn_10 ⟨Nat.le_of_ble_eq_true rfl, Nat.le_of_ble_eq_true rfl⟩) hP hD hS hA [] [] [] rfl rfl (by decide) (by decide) (by decide) (fun _ => rfl) (fun r10 u H locs hw10 hP hD hS => ?_)
    try dsimp only at hw10
    subst hw10
    have hP : va_P G vwCl ([]) H := hP
    have hD : va_D A ([]) := hD
    refine lv_istore_n (lv' := [(3, .int (nI (qB (w).toBitVec.toNat k))), (2, .int (nI k)), (0, .long w)]) hx hb dX7_signsIn_13 rfl hl (by decide) rfl (fun ls hl => ?_)
    refine lv_iload_n hx hb dX7_signsIn_14 rfl (lv_at hl 0 rfl) ?_
    refine lv_if_ne (tgt := 35) hx hb dX7_signsIn_15 (by decide) (fun c15 => ?_) (fun c15 => ?_)
    · refine lv_iload_n hx hb dX7_signsIn_35 rfl (lv_at hl 0 rfl) ?_
      refine lv_bipush (v := 33) hx hb dX7_signsIn_36 (by decide) ?_
      refine lv_icmp_lt (tgt := 47) hx hb dX7_signsIn_38 (by decide) (fun c38 => ?_) (fun c38 => ?_)
      · refine lv_iconst (v := 0) hx hb dX7_signsIn_47 (by decide) ?_
        exact W.iret hx hb hr (zEi () (by
            have h0 : ¬ qB w.toBitVec.toNat k = 0 := fun q => c15 (by rw [q]; rfl)
            rw [if_neg h0] at hq
            rw [if_pos (zLt (b := 33) c38 (by omega) (by omega))] at hq
            rw [← hq]
            rfl) hP hD hS) hS.2.2 dX7_signsIn_48
      · refine lv_iload_n hx hb dX7_signsIn_41 rfl (lv_at hl 0 rfl) ?_
        refine lv_bipush (v := 126) hx hb dX7_signsIn_42 (by decide) ?_
        refine lv_icmp_le (tgt := 49) hx hb dX7_signsIn_44 (by decide) (fun c44 => ?_) (fun c44 => ?_)
        · refine lv_iinc (v := (nI (k + 1))) (lv' := [(2, .int (nI (k + 1))), (3, .int (nI (qB (w).toBitVec.toNat k))), (0, .long w)]) hx hb dX7_signsIn_49 hl (k := 1) rfl (nI_succ k).symm (by decide) rfl (fun ls hl => ?_)
          refine lv_goto (tgt := 2) hx hb dX7_signsIn_52 (by decide) ?_
          exact ih2 (k + 1) (by
              try dsimp only
              have h0 : ¬ qB w.toBitVec.toNat k = 0 := fun q => c15 (by rw [q]; rfl)
              rw [if_neg h0, if_neg (by have := zNlt (b := 33) c38 (by omega) (by omega); omega), if_neg (by have := zLe (b := 126) c44 (by omega) (by omega); omega)] at hq
              exact ⟨by omega, by rw [show 8 - (k + 1) = 7 - k by omega]; exact hq⟩) (by
              try dsimp only
              omega) _ _ _ hP hD hS (lv_sub hl [0, 2] rfl)
        · refine lv_iconst (v := 0) hx hb dX7_signsIn_47 (by decide) ?_
          exact W.iret hx hb hr (zEi () (by
              have h0 : ¬ qB w.toBitVec.toNat k = 0 := fun q => c15 (by rw [q]; rfl)
              rw [if_neg h0] at hq
              rw [if_neg (by have := zNlt (b := 33) c38 (by omega) (by omega); omega), if_pos (zNle (b := 126) c44 (by omega) (by omega))] at hq
              rw [← hq]
              rfl) hP hD hS) hS.2.2 dX7_signsIn_48
    · refine lv_lload_n hx hb dX7_signsIn_18 rfl (lv_at hl 2 rfl) ?_
      refine lv_bipush (v := 8) hx hb dX7_signsIn_19 (by decide) ?_
      refine lv_iload_n hx hb dX7_signsIn_21 rfl (lv_at hl 1 rfl) ?_
      refine lv_imul hx hb dX7_signsIn_22 ?_
      refine lv_lushr (v := zUshr w (8 * (nI k))) hx hb dX7_signsIn_23 rfl ?_
      refine lv_lconst (v := 0) hx hb dX7_signsIn_24 (by decide) ?_
      refine W.lcmp hx hb dX7_signsIn_25 ?_
      refine lv_if_ne (tgt := 33) hx hb dX7_signsIn_26 (by decide) (fun c26 => ?_) (fun c26 => ?_)
      · refine lv_iconst (v := 0) hx hb dX7_signsIn_33 (by decide) ?_
        exact W.iret hx hb hr (zEi () (by
            have h0 : qB w.toBitVec.toNat k = 0 := (nI_eq (b := 0) (by omega) (by decide)).mp c15
            rw [if_pos h0] at hq
            rw [if_neg (fun q => c26 ((zShZ w hk8).mpr q))] at hq
            rw [← hq]
            rfl) hP hD hS) hS.2.2 dX7_signsIn_34
      · refine lv_iload_n hx hb dX7_signsIn_29 rfl (lv_at hl 1 rfl) ?_
        refine lv_goto (tgt := 34) hx hb dX7_signsIn_30 (by decide) ?_
        exact W.iret hx hb hr (zEi () (by
            have h0 : qB w.toBitVec.toNat k = 0 := (nI_eq (b := 0) (by omega) (by decide)).mp c15
            rw [if_pos h0] at hq
            rw [if_pos ((zShZ w hk8).mp c26)] at hq
            rw [← hq]) hP hD hS) hS.2.2 dX7_signsIn_34

set_option maxHeartbeats 4000000 in
set_option maxRecDepth 100000 in
theorem m_X7_put (l : Launch) (G : va_G) (Z : Nat → ClassId) (sz : Nat) (h : Nat) (a : Nat → Nat) (cd : Nat → Nat) (s1 : Nat) (s2 : Nat) (d : Nat → Nat) (g : Nat) (v : RV) (w : Int64) (hle : v.2.1 ≤ 80) : Met l yX7_put wsX7_put ({ frames := 2, cells := 0, slots := 0, locals := 45 }) (va_Pc [.ref h, .long w] (zWP G Z sz ([(h, .inr (7, [.ref (a 0), .ref (cd 0), .ref s1, .ref s2, .ref (d 0), .ref g]))] ++ rk Z d v))) (va_Qi (fun (r : Int32) (u : (Nat → Int32) × Nat) => r = (if qSg (w).toBitVec.toNat 8 0 = 0 then -2 else if 80 < v.2.1 + qSg (w).toBitVec.toNat 8 0 then -4 else nI (v.2.1 + qSg (w).toBitVec.toNat 8 0)) ∧ u.1 = (if qSg (w).toBitVec.toNat 8 0 = 0 then v.1 else if 80 < v.2.1 + qSg (w).toBitVec.toNat 8 0 then v.1 else qAp (w).toBitVec.toNat (qSg (w).toBitVec.toNat 8 0) v.1 v.2.1) ∧ u.2 = (if qSg (w).toBitVec.toNat 8 0 = 0 then v.2.1 else if 80 < v.2.1 + qSg (w).toBitVec.toNat 8 0 then v.2.1 else v.2.1 + qSg (w).toBitVec.toNat 8 0)) (fun (u : (Nat → Int32) × Nat) t => zB G (va_A ([(h, .inr (7, [.ref (a 0), .ref (cd 0), .ref s1, .ref s2, .ref (d 0), .ref g]))] ++ rk Z d v) sz) ([(h, .inr (7, [.ref (a 0), .ref (cd 0), .ref s1, .ref s2, .ref (d 0), .ref g]))] ++ rk Z d (u.1, u.2, v.2.2.1, v.2.2.2.1, v.2.2.2.2.1, v.2.2.2.2.2.1, v.2.2.2.2.2.2.1, v.2.2.2.2.2.2.2.1, v.2.2.2.2.2.2.2.2)) t) (va_A ([(h, .inr (7, [.ref (a 0), .ref (cd 0), .ref s1, .ref s2, .ref (d 0), .ref g]))] ++ rk Z d v) sz)) 0 0 (va_A ([(h, .inr (7, [.ref (a 0), .ref (cd 0), .ref s1, .ref s2, .ref (d 0), .ref g]))] ++ rk Z d v) sz) := by
  obtain ⟨si, le, pp, nu, od, va, ai, rd, hh⟩ := v
  have hle9 : le ≤ 80 := hle
  have g8 := qSg_le w.toBitVec.toNat
  refine Met.ofW (cc := cX7_put) (maxL := 5) (ret := (some .int)) (by decide) rfl ?_
  intro p e s m args below meth c s₁ B hml hv
  have hx := B.exec
  have hb := B.bytes
  have hr := B.returns
  have hts := atoms_spec (ws := wsX7_put) B.pre
  have hown : s.vm.findClass RX7 = some m.cls := findClass_of_methodNamed B.named
  have hlocks := B.notSynchronized
  obtain ⟨rfl, hsz, hP, hK, hD, hA, hS, hSW⟩ := zEnter hv
  subst hsz
  generalize va_A ([(h, .inr (7, [.ref (a 0), .ref (cd 0), .ref s1, .ref s2, .ref (d 0), .ref g]))] ++ rk Z d (si, le, pp, nu, od, va, ai, rd, hh)) s.heap.size = A at hD hA hS hSW ⊢
  have k_36 := hts (.fieldLink RX7 36 "WarmRods" "reader" "LWarmRods$Reader;") (List.mem_of_getElem? (i := 1) rfl)
  have iX7 : ∀ w ∈ u_ws RX7 TX7 6, w ∈ wsX7_put := fun _ h => List.mem_cons_of_mem _ (List.mem_append_left _ (List.mem_append_left _ (List.mem_append_right _ h)))
  have k_118 : (Cond.fieldLinkNest RX7 118 "WarmRods$Reader" "pad" "LWarmRods$Pad;" "WarmRods").before (#[.ref h, .long w] : Array Value) s = true := va_Nw.use rfl (hSW.1.1 _ (List.mem_of_getElem? (i := 19) rfl))
  have iX5 : ∀ w ∈ u_ws RX5 TX5 8, w ∈ wsX7_put := fun _ h => List.mem_cons_of_mem _ (List.mem_append_left _ (List.mem_append_right _ h))
  have k_122 : (Cond.fieldLinkNest RX7 122 "WarmRods$Pad" "length" "I" "WarmRods").before (#[.ref h, .long w] : Array Value) s = true := va_Nw.use rfl (hSW.1.1 _ (List.mem_of_getElem? (i := 18) rfl))
  have iX4 : ∀ w ∈ u_ws RX4 TX4 2, w ∈ wsX7_put := fun _ h => List.mem_cons_of_mem _ (List.mem_append_right _ h)
  have hP : va_P G vwCl ([(h, .inr (7, [.ref (a 0), .ref (cd 0), .ref s1, .ref s2, .ref (d 0), .ref g]))] ++ rk Z d (si, le, pp, nu, od, va, ai, rd, hh)) s.heap := hP
  have hl := lv_entry ([.ref h, .long w]) (n := 5) (Nat.le_of_ble_eq_true rfl)
  rw [lg_entry_eq]
  generalize (lg_sl ([.ref h, .long w]) ++ List.replicate (5 - (lg_sl ([.ref h, .long w])).length) Slot.unset).toArray = ls at hl ⊢
  have hl : lv_has ls 5 [(0, .ref h), (1, .long w)] := hl
  refine lv_lload_n hx hb dX7_put_0 rfl (lv_at hl 1 rfl) ?_
  refine zCi (S := Unit) (ws1 := fun u => [(h, .inr (7, [.ref (a 0), .ref (cd 0), .ref s1, .ref s2, .ref (d 0), .ref g]))] ++ rk Z d (si, le, pp, nu, od, va, ai, rd, hh)) (wr := [(h, .inr (7, [.ref (a 0), .ref (cd 0), .ref s1, .ref s2, .ref (d 0), .ref g]))] ++ rk Z d (si, le, pp, nu, od, va, ai, rd, hh)) (va_runS (As := [.long w]) (rest := []) ⟨hx, hb, hml, hown, hts⟩ (m_X7_signsIn l G Z _ w) (va_cwS 1 hts gX7_put_X7_signsIn rfl rfl rfl (by decide +kernel) ⟨Nat.le_of_ble_eq_true rfl, Nat.le_of_ble_eq_true rfl⟩) (zPreS hK hP hD hS hA hSW [] rfl (by decide)) rfl rfl hl.1 rfl (lv_room (Nat.le_of_ble_eq_true rfl)) dX7_put_1 ⟨Nat.le_of_ble_eq_true rfl, Nat.le_of_ble_eq_true rfl⟩) hP hD hS hA [] [0, 1, 2, 3] [0, 1, 2, 3] rfl rfl (by decide) (by decide) (by decide) (fun _ => rfl) (fun r1 u H locs hw1 hP hD hS => ?_)
  try dsimp only at hw1
  subst hw1
  have hP : va_P G vwCl ([(h, .inr (7, [.ref (a 0), .ref (cd 0), .ref s1, .ref s2, .ref (d 0), .ref g]))] ++ rk Z d (si, le, pp, nu, od, va, ai, rd, hh)) H := hP
  have hD : va_D A ([(h, .inr (7, [.ref (a 0), .ref (cd 0), .ref s1, .ref s2, .ref (d 0), .ref g]))] ++ rk Z d (si, le, pp, nu, od, va, ai, rd, hh)) := hD
  refine lv_istore_n (lv' := [(3, .int (nI (qSg (w).toBitVec.toNat 8 0))), (0, .ref h), (1, .long w)]) hx hb dX7_put_4 rfl hl (by decide) rfl (fun ls hl => ?_)
  refine lv_iload_n hx hb dX7_put_5 rfl (lv_at hl 0 rfl) ?_
  refine lv_if_ne (tgt := 12) hx hb dX7_put_6 (by decide) (fun c6 => ?_) (fun c6 => ?_)
  · refine lv_aload_n hx hb dX7_put_12 rfl (lv_at hl 1 rfl) ?_
    refine va_get (D := G) (ci := 7) (v := .ref (d 0)) (C := RX7) (T := TX7) (N := 6) hx hb hts iX7 hown hK hP 0 rfl rfl 4 (by decide) k_36 (fun _ h9 => h9) rfl dX7_put_13 ?_
    refine va_getN (D := G) (ci := 5) (v := .ref (d 1)) (C := RX5) (T := TX5) (N := 8) hx hb hts iX5 hown hK hP 1 rfl rfl 0 (by decide) k_118 (fun _ h9 => h9) rfl dX7_put_16 ?_
    refine va_getN (D := G) (ci := 4) (v := .int (nI le)) (C := RX4) (T := TX4) (N := 2) hx hb hts iX4 hown hK hP 2 rfl rfl 1 (by decide) k_122 (fun _ h9 => h9) rfl dX7_put_19 ?_
    refine lv_iload_n hx hb dX7_put_22 rfl (lv_at hl 0 rfl) ?_
    refine lv_iadd hx hb dX7_put_23 ?_
    refine lv_bipush (v := 80) hx hb dX7_put_24 (by decide) ?_
    refine lv_icmp_le (tgt := 32) hx hb dX7_put_26 (by decide) (fun c26 => ?_) (fun c26 => ?_)
    · refine lv_iload_n hx hb dX7_put_32 rfl (lv_at hl 0 rfl) ?_
      refine lv_iconst (v := 1) hx hb dX7_put_33 (by decide) ?_
      refine lv_isub hx hb dX7_put_34 ?_
      refine lv_istore (lv' := [(4, .int ((nI (qSg (w).toBitVec.toNat 8 0)) - 1)), (3, .int (nI (qSg (w).toBitVec.toNat 8 0))), (0, .ref h), (1, .long w)]) hx hb dX7_put_35 hl (by decide) rfl (fun ls hl => ?_)
      
      refine zLoop (σ := Nat × (Nat → Int32) × Nat) (nL := 5) (fun zx => [(h, .inr (7, [.ref (a 0), .ref (cd 0), .ref s1, .ref s2, .ref (d 0), .ref g]))] ++ rk Z d (zx.2.1, zx.2.2, pp, nu, od, va, ai, rd, hh)) (fun zx => [(4, .int ((nI zx.1) - 1)), (3, .int (nI (qSg (w).toBitVec.toNat 8 0))), (0, .ref h), (1, .long w)]) (fun zx => qAp w.toBitVec.toNat zx.1 zx.2.1 zx.2.2 = qAp w.toBitVec.toNat (qSg w.toBitVec.toNat 8 0) si le ∧ zx.2.2 + zx.1 = le + (qSg w.toBitVec.toNat 8 0) ∧ zx.1 ≤ (qSg w.toBitVec.toNat 8 0)) (fun zx => zx.1) ?_ ((qSg w.toBitVec.toNat 8 0), si, le) (by
          try dsimp only
          exact ⟨rfl, rfl, Nat.le_refl _⟩) hP hD hS (lv_sub hl [0, 1, 2, 3] rfl)
      intro zx hinv37 ih37 H locs ls hP hD hS hl
      obtain ⟨k, si2, l2⟩ := zx
      try dsimp only at hinv37 ih37
      have hP : va_P G vwCl ([(h, .inr (7, [.ref (a 0), .ref (cd 0), .ref s1, .ref s2, .ref (d 0), .ref g]))] ++ rk Z d (si2, l2, pp, nu, od, va, ai, rd, hh)) H := hP
      have hD : va_D A ([(h, .inr (7, [.ref (a 0), .ref (cd 0), .ref s1, .ref s2, .ref (d 0), .ref g]))] ++ rk Z d (si2, l2, pp, nu, od, va, ai, rd, hh)) := hD
      have hl : lv_has ls 5 [(4, .int ((nI k) - 1)), (3, .int (nI (qSg (w).toBitVec.toNat 8 0))), (0, .ref h), (1, .long w)] := hl
      refine lv_iload hx hb dX7_put_37 (lv_at hl 0 rfl) ?_
      refine lv_if_lt (tgt := 65) hx hb dX7_put_39 (by decide) (fun c39 => ?_) (fun c39 => ?_)
      · obtain rfl : k = 0 := by
          cases k with
          | zero => rfl
          | succ j => rw [nI_pred] at c39; exact absurd c39 (nI_pos (by omega))
        refine lv_aload_n hx hb dX7_put_65 rfl (lv_at hl 2 rfl) ?_
        refine va_get (D := G) (ci := 7) (v := .ref (d 0)) (C := RX7) (T := TX7) (N := 6) hx hb hts iX7 hown hK hP 0 rfl rfl 4 (by decide) k_36 (fun _ h9 => h9) rfl dX7_put_66 ?_
        refine va_getN (D := G) (ci := 5) (v := .ref (d 1)) (C := RX5) (T := TX5) (N := 8) hx hb hts iX5 hown hK hP 1 rfl rfl 0 (by decide) k_118 (fun _ h9 => h9) rfl dX7_put_69 ?_
        refine va_getN (D := G) (ci := 4) (v := .int (nI l2)) (C := RX4) (T := TX4) (N := 2) hx hb hts iX4 hown hK hP 2 rfl rfl 1 (by decide) k_122 (fun _ h9 => h9) rfl dX7_put_72 ?_
        exact W.iret hx hb hr (zEi (si2, l2) (by
            have g8 := qSg_le w.toBitVec.toNat
            have h0 : ¬ qSg w.toBitVec.toNat 8 0 = 0 := fun q => c6 (by rw [q]; rfl)
            have h2 := hinv37.2.1
            have h3 := hinv37.1
            rw [Nat.add_zero] at h2
            rw [nI_add] at c26
            have h1 := zLe (b := 80) c26 (by omega) (by omega)
            rw [qAp] at h3
            simp only [h0, show ¬ 80 < le + qSg w.toBitVec.toNat 8 0 by omega, h2, h3, ↓reduceIte, and_self]) hP hD hS) hS.2.2 dX7_put_75
      · obtain ⟨k, rfl⟩ : ∃ j, k = j + 1 := by
          cases k with
          | zero => exact absurd (by decide) c39
          | succ j => exact ⟨j, rfl⟩
        rw [nI_pred] at hl
        refine lv_aload_n hx hb dX7_put_42 rfl (lv_at hl 2 rfl) ?_
        refine va_get (D := G) (ci := 7) (v := .ref (d 0)) (C := RX7) (T := TX7) (N := 6) hx hb hts iX7 hown hK hP 0 rfl rfl 4 (by decide) k_36 (fun _ h9 => h9) rfl dX7_put_43 ?_
        refine va_getN (D := G) (ci := 5) (v := .ref (d 1)) (C := RX5) (T := TX5) (N := 8) hx hb hts iX5 hown hK hP 1 rfl rfl 0 (by decide) k_118 (fun _ h9 => h9) rfl dX7_put_46 ?_
        refine lv_lload_n hx hb dX7_put_49 rfl (lv_at hl 3 rfl) ?_
        refine lv_iload hx hb dX7_put_50 (lv_at hl 0 rfl) ?_
        refine zCi (S := Unit) (ws1 := fun u => [(h, .inr (7, [.ref (a 0), .ref (cd 0), .ref s1, .ref s2, .ref (d 0), .ref g]))] ++ rk Z d (si2, l2, pp, nu, od, va, ai, rd, hh)) (wr := [(h, .inr (7, [.ref (a 0), .ref (cd 0), .ref s1, .ref s2, .ref (d 0), .ref g]))] ++ rk Z d (si2, l2, pp, nu, od, va, ai, rd, hh)) (va_runS (As := [.long w, .int (nI k)]) (rest := [.ref (d 1)]) ⟨hx, hb, hml, hown, hts⟩ (m_X7_codeAt l G Z _ w k (by
            have := qSg_le w.toBitVec.toNat; omega)) (va_cwS 2 hts gX7_put_X7_codeAt rfl rfl rfl (by decide +kernel) ⟨Nat.le_of_ble_eq_true rfl, Nat.le_of_ble_eq_true rfl⟩) (zPreS hK hP hD hS hA hSW [] rfl (by decide)) rfl rfl hl.1 rfl (lv_room (Nat.le_of_ble_eq_true rfl)) dX7_put_52 ⟨Nat.le_of_ble_eq_true rfl, Nat.le_of_ble_eq_true rfl⟩) hP hD hS hA [] [0, 1, 2, 3] [0, 1, 2, 3] rfl rfl (by decide) (by decide) (by decide) (fun _ => rfl) (fun r52 u H locs hw52 hP hD hS => ?_)
        try dsimp only at hw52
        subst hw52
        have hP : va_P G vwCl ([(h, .inr (7, [.ref (a 0), .ref (cd 0), .ref s1, .ref s2, .ref (d 0), .ref g]))] ++ rk Z d (si2, l2, pp, nu, od, va, ai, rd, hh)) H := hP
        have hD : va_D A ([(h, .inr (7, [.ref (a 0), .ref (cd 0), .ref s1, .ref s2, .ref (d 0), .ref g]))] ++ rk Z d (si2, l2, pp, nu, od, va, ai, rd, hh)) := hD
        refine lv_i2c hx hb dX7_put_55 rfl ?_
        refine zCv (S := (Nat → Int32)) (ws1 := fun u => [(h, .inr (7, [.ref (a 0), .ref (cd 0), .ref s1, .ref s2, .ref (d 0), .ref g]))] ++ rk Z d (u, (l2 + 1), pp, nu, od, va, ai, rd, hh)) (wr := [(h, .inr (7, [.ref (a 0), .ref (cd 0), .ref s1, .ref s2, .ref (d 0), .ref g])), ((d 0), .inr (5, [.ref (d 1), .int (nI pp), .int nu, .int od, .int va, .int ai, .int rd, .int hh]))]) (va_runV (As := [.int (((nI (qB (w).toBitVec.toNat k)).toUInt32 % 65536).toInt32)]) (rest := []) ⟨hx, hb, hml, hown, hts⟩ (m_X4_append l G Z _ (d 1) (d 2) si2 l2 (((nI (qB (w).toBitVec.toNat k)).toUInt32 % 65536).toInt32) (by
            rw [nI_add] at c26
            have := zLe (b := 80) c26 (by have := qSg_le w.toBitVec.toNat; omega) (by omega)
            omega)) (cwV 1 hts gX7_put_X4_append rfl rfl rfl (by decide +kernel) ⟨Nat.le_of_ble_eq_true rfl, Nat.le_of_ble_eq_true rfl⟩) (zPreV hK hP hD hS hA hSW [2, 3] rfl (by decide) 2 (ci := 4) rfl rfl rfl) rfl rfl hl.1 rfl (lv_room (Nat.le_of_ble_eq_true rfl)) dX7_put_56 ⟨Nat.le_of_ble_eq_true rfl, Nat.le_of_ble_eq_true rfl⟩) hP hD hS hA [2, 3] [0, 1] [0, 1, 2, 3] rfl rfl (by decide) (by decide) (by decide) (fun _ => rfl) (fun u H locs hw56 hP hD hS => ?_)
        obtain ⟨si1_56, rfl⟩ : ∃ z, z = u := ⟨_, rfl⟩
        try dsimp only at hw56
        subst hw56
        have hP : va_P G vwCl ([(h, .inr (7, [.ref (a 0), .ref (cd 0), .ref s1, .ref s2, .ref (d 0), .ref g]))] ++ rk Z d ((upd si2 l2 (vp_nar .char (((nI (qB (w).toBitVec.toNat k)).toUInt32 % 65536).toInt32))), (l2 + 1), pp, nu, od, va, ai, rd, hh)) H := hP
        have hD : va_D A ([(h, .inr (7, [.ref (a 0), .ref (cd 0), .ref s1, .ref s2, .ref (d 0), .ref g]))] ++ rk Z d ((upd si2 l2 (vp_nar .char (((nI (qB (w).toBitVec.toNat k)).toUInt32 % 65536).toInt32))), (l2 + 1), pp, nu, od, va, ai, rd, hh)) := hD
        rw [zChr _ (qB_lt w.toBitVec.toNat k)] at hP hD
        refine lv_iinc (v := ((nI k) + (-1))) (lv' := [(4, .int ((nI k) + (-1))), (3, .int (nI (qSg (w).toBitVec.toNat 8 0))), (0, .ref h), (1, .long w)]) hx hb dX7_put_59 hl (k := 0) rfl rfl (by decide) rfl (fun ls hl => ?_)
        refine lv_goto (tgt := 37) hx hb dX7_put_62 (by decide) ?_
        rw [show nI k + (-1) = nI k - 1 from (Int32.sub_eq_add_neg _ _).symm] at hl
        exact ih37 (k, (upd si2 l2 (nI (qB w.toBitVec.toNat k))), (l2 + 1)) (by
            try dsimp only
            refine ⟨hinv37.1, by omega, by omega⟩) (by
            try dsimp only
            omega) _ _ _ hP hD hS (lv_sub hl [0, 1, 2, 3] rfl)
    · refine lv_bipush (v := (-4)) hx hb dX7_put_29 (by decide) ?_
      exact W.iret hx hb hr (zEi (si, le) (by
          have g8 := qSg_le w.toBitVec.toNat
          have h0 : ¬ qSg w.toBitVec.toNat 8 0 = 0 := fun q => c6 (by rw [q]; rfl)
          rw [nI_add] at c26
          have h1 := zNle (b := 80) c26 (by omega) (by omega)
          simp only [h0, h1, ↓reduceIte, and_self]) hP hD hS) hS.2.2 dX7_put_31
  · refine lv_bipush (v := (-2)) hx hb dX7_put_9 (by decide) ?_
    exact W.iret hx hb hr (zEi (si, le) (by
        have h0 : qSg w.toBitVec.toNat 8 0 = 0 := (nI_eq (b := 0) (by have := qSg_le w.toBitVec.toNat; omega) (by decide)).mp c6
        simp only [h0, ↓reduceIte, and_self]) hP hD hS) hS.2.2 dX7_put_11
