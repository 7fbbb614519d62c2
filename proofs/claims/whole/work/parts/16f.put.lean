set_option maxHeartbeats 4000000 in
set_option maxRecDepth 100000 in
theorem m_X7_codeAt (l : Launch) (G : va_G) (Z : Nat → ClassId) (sz : Nat) (w : Int64) (k : Nat) (hk : k < 8) : Met l yX7_codeAt wsX7_codeAt ({ frames := 0, cells := 0, slots := 0, locals := 0 }) (va_Pc [.long w, .int (nI k)] (zWP G Z sz ([]))) (va_Qi (fun (r : Int32) (u : Unit) => r = nI (qB (w).toBitVec.toNat k)) (fun (u : Unit) t => zB G (va_A ([]) sz) ([]) t) (va_A ([]) sz)) 0 0 (va_A ([]) sz) := by
  refine Met.ofW (cc := cX7_codeAt) (maxL := 3) (ret := (some .int)) (by decide) rfl ?_
  intro p e s m args below meth c s₁ B hml hv
  have hx := B.exec
  have hb := B.bytes
  have hr := B.returns
  have hts := atoms_spec (ws := wsX7_codeAt) B.pre
  have hown : s.vm.findClass RX7 = some m.cls := findClass_of_methodNamed B.named
  have hlocks := B.notSynchronized
  obtain ⟨rfl, hsz, hP, hK, hD, hA, hS, hSW⟩ := zEnter hv
  subst hsz
  generalize va_A ([]) s.heap.size = A at hD hA hS hSW ⊢
  have hP : va_P G vwCl ([]) s.heap := hP
  have hl := lv_entry ([.long w, .int (nI k)]) (n := 3) (Nat.le_of_ble_eq_true rfl)
  rw [lg_entry_eq]
  generalize (lg_sl ([.long w, .int (nI k)]) ++ List.replicate (3 - (lg_sl ([.long w, .int (nI k)])).length) Slot.unset).toArray = ls at hl ⊢
  have hl : lv_has ls 3 [(0, .long w), (2, .int (nI k))] := hl
  refine lv_lload_n hx hb dX7_codeAt_0 rfl (lv_at hl 0 rfl) ?_
  refine lv_bipush (v := 8) hx hb dX7_codeAt_1 (by decide) ?_
  refine lv_iload_n hx hb dX7_codeAt_3 rfl (lv_at hl 1 rfl) ?_
  refine lv_imul hx hb dX7_codeAt_4 ?_
  refine lv_lushr (v := zUshr w (8 * (nI k))) hx hb dX7_codeAt_5 rfl ?_
  refine lv_l2i hx hb dX7_codeAt_6 rfl ?_
  refine lv_sipush (v := 255) hx hb dX7_codeAt_7 (by decide) ?_
  refine lv_iand hx hb dX7_codeAt_10 ?_
  exact W.iret hx hb hr (zEi () (by
      exact zCode w hk) hP hD hS) hS.2.2 dX7_codeAt_11

set_option maxHeartbeats 4000000 in
set_option maxRecDepth 100000 in
theorem m_X7_signsIn (l : Launch) (G : va_G) (Z : Nat → ClassId) (sz : Nat) (w : Int64)  : Met l yX7_signsIn wsX7_signsIn ({ frames := 1, cells := 0, slots := 0, locals := 22 }) (va_Pc [.long w] (zWP G Z sz ([]))) (va_Qi (fun (r : Int32) (u : Unit) => r = nI (qSg (w).toBitVec.toNat 8 0)) (fun (u : Unit) t => zB G (va_A ([]) sz) ([]) t) (va_A ([]) sz)) 0 0 (va_A ([]) sz) := by
  refine Met.ofW (cc := cX7_signsIn) (maxL := 4) (ret := (some .int)) (by decide) rfl ?_
  intro p e s m args below meth c s₁ B hml hv
  have hx := B.exec
  have hb := B.bytes
  have hr := B.returns
  have hts := atoms_spec (ws := wsX7_signsIn) B.pre
  have hown : s.vm.findClass RX7 = some m.cls := findClass_of_methodNamed B.named
  have hlocks := B.notSynchronized
  obtain ⟨rfl, hsz, hP, hK, hD, hA, hS, hSW⟩ := zEnter hv
  subst hsz
  generalize va_A ([]) s.heap.size = A at hD hA hS hSW ⊢
  have hP : va_P G vwCl ([]) s.heap := hP
  have hl := lv_entry ([.long w]) (n := 4) (Nat.le_of_ble_eq_true rfl)
  rw [lg_entry_eq]
  generalize (lg_sl ([.long w]) ++ List.replicate (4 - (lg_sl ([.long w])).length) Slot.unset).toArray = ls at hl ⊢
  have hl : lv_has ls 4 [(0, .long w)] := hl
  refine lv_iconst (v := 0) hx hb dX7_signsIn_0 (by decide) ?_
  refine lv_istore_n (lv' := [(2, .int 0), (0, .long w)]) hx hb dX7_signsIn_1 rfl hl (by decide) rfl (fun ls hl => ?_)
  refine zLoop (σ := Nat) (nL := 4) (fun zx => []) (fun zx => [(2, .int (nI zx)), (0, .long w)]) (fun zx => zx ≤ 8 ∧ qSg w.toBitVec.toNat (8 - zx) zx = qSg w.toBitVec.toNat 8 0) (fun zx => 8 - zx) ?_ 0 (by
      try dsimp only
      exact ⟨by omega, rfl⟩) hP hD hS (lv_sub hl [0, 1] rfl)
  intro zx hinv2 ih2 H locs ls hP hD hS hl
  obtain ⟨k, rfl⟩ : ∃ z, z = zx := ⟨_, rfl⟩
  try dsimp only at hinv2 ih2
  have hP : va_P G vwCl ([]) H := hP
  have hD : va_D A ([]) := hD
  have hl : lv_has ls 4 [(2, .int (nI k)), (0, .long w)] := hl
  refine lv_iload_n hx hb dX7_signsIn_2 rfl (lv_at hl 0 rfl) ?_
  refine lv_bipush (v := 8) hx hb dX7_signsIn_3 (by decide) ?_
  refine lv_icmp_ge (tgt := 55) hx hb dX7_signsIn_5 (by decide) (fun c5 => ?_) (fun c5 => ?_)
  · refine lv_bipush (v := 8) hx hb dX7_signsIn_55 (by decide) ?_
    exact W.iret hx hb hr (zEi () (by
        have hk := zLe (a := 8) c5 (by omega) (by omega)
        obtain rfl : k = 8 := by omega
        rw [← hinv2.2]
        rfl) hP hD hS) hS.2.2 dX7_signsIn_57
  · have hk8 : k < 8 := zNle (a := 8) c5 (by omega) (by omega)
    have hq := hinv2.2
    rw [show 8 - k = (7 - k) + 1 by omega, qSg] at hq
    have hqb := qB_lt w.toBitVec.toNat k
    refine lv_lload_n hx hb dX7_signsIn_8 rfl (lv_at hl 1 rfl) ?_
    refine lv_iload_n hx hb dX7_signsIn_9 rfl (lv_at hl 0 rfl) ?_
    refine zCi (S := Unit) (ws1 := fun u => []) (wr := []) (va_runS (As := [.long w, .int (nI k)]) (rest := []) ⟨hx, hb, hml, hown, hts⟩ (m_X7_codeAt l G Z _ w k (by
        exact hk8)) (va_cwS 2 hts gX7_signsIn_X7_codeAt rfl rfl rfl (by decide +kernel) ⟨Nat.le_of_ble_eq_true rfl, Nat.le_of_ble_eq_true rfl⟩) (zPreS hK hP hD hS hA hSW [] rfl (by decide)) rfl rfl hl.1 rfl (lv_room (Nat.le_of_ble_eq_true rfl)) dX7_signsIn_10 ⟨Nat.le_of_ble_eq_true rfl, Nat.le_of_ble_eq_true rfl⟩) hP hD hS hA [] [] [] rfl rfl (by decide) (by decide) (by decide) (fun _ => rfl) (fun r10 u H locs hw10 hP hD hS => ?_)
    try dsimp only at hw10
    subst hw10
    have hP : va_P G vwCl ([]) H := hP
    have hD : va_D A ([]) := hD
    refine lv_istore_n (lv' := [(3, .int (nI (qB (w).toBitVec.toNat k))), (2, .int (nI k)), (0, .long w)]) hx hb dX7_signsIn_13 rfl hl (by decide) rfl (fun ls hl => ?_)
    refine lv_iload_n hx hb dX7_signsIn_14 rfl (lv_at hl 0 rfl) ?_
    refine lv_if_ne (tgt := 35) hx hb dX7_signsIn_15 (by decide) (fun c15 => ?_) (fun c15 => ?_)
    · refine lv_iload_n hx hb dX7_signsIn_35 rfl (lv_at hl 0 rfl) ?_
      refine lv_bipush (v := 33) hx hb dX7_signsIn_36 (by decide) ?_
      refine lv_icmp_lt (tgt := 47) hx hb dX7_signsIn_38 (by decide) (fun c38 => ?_) (fun c38 => ?_)
      · refine lv_iconst (v := 0) hx hb dX7_signsIn_47 (by decide) ?_
        exact W.iret hx hb hr (zEi () (by
            have h0 : ¬ qB w.toBitVec.toNat k = 0 := fun q => c15 (by rw [q]; rfl)
            rw [if_neg h0] at hq
            rw [if_pos (zLt (b := 33) c38 (by omega) (by omega))] at hq
            rw [← hq]
            rfl) hP hD hS) hS.2.2 dX7_signsIn_48
      · refine lv_iload_n hx hb dX7_signsIn_41 rfl (lv_at hl 0 rfl) ?_
        refine lv_bipush (v := 126) hx hb dX7_signsIn_42 (by decide) ?_
        refine lv_icmp_le (tgt := 49) hx hb dX7_signsIn_44 (by decide) (fun c44 => ?_) (fun c44 => ?_)
        · refine lv_iinc (v := (nI (k + 1))) (lv' := [(2, .int (nI (k + 1))), (3, .int (nI (qB (w).toBitVec.toNat k))), (0, .long w)]) hx hb dX7_signsIn_49 hl (k := 1) rfl (nI_succ k).symm (by decide) rfl (fun ls hl => ?_)
          refine lv_goto (tgt := 2) hx hb dX7_signsIn_52 (by decide) ?_
          exact ih2 (k + 1) (by
              try dsimp only
              have h0 : ¬ qB w.toBitVec.toNat k = 0 := fun q => c15 (by rw [q]; rfl)
              rw [if_neg h0, if_neg (by have := zNlt (b := 33) c38 (by omega) (by omega); omega), if_neg (by have := zLe (b := 126) c44 (by omega) (by omega); omega)] at hq
              exact ⟨by omega, by rw [show 8 - (k + 1) = 7 - k by omega]; exact hq⟩) (by
              try dsimp only
              omega) _ _ _ hP hD hS (lv_sub hl [0, 2] rfl)
        · refine lv_iconst (v := 0) hx hb dX7_signsIn_47 (by decide) ?_
          exact W.iret hx hb hr (zEi () (by
              have h0 : ¬ qB w.toBitVec.toNat k = 0 := fun q => c15 (by rw [q]; rfl)
              rw [if_neg h0] at hq
              rw [if_neg (by have := zNlt (b := 33) c38 (by omega) (by omega); omega), if_pos (zNle (b := 126) c44 (by omega) (by omega))] at hq
              rw [← hq]
              rfl) hP hD hS) hS.2.2 dX7_signsIn_48
    · refine lv_lload_n hx hb dX7_signsIn_18 rfl (lv_at hl 2 rfl) ?_
      refine lv_bipush (v := 8) hx hb dX7_signsIn_19 (by decide) ?_
      refine lv_iload_n hx hb dX7_signsIn_21 rfl (lv_at hl 1 rfl) ?_
      refine lv_imul hx hb dX7_signsIn_22 ?_
      refine lv_lushr (v := zUshr w (8 * (nI k))) hx hb dX7_signsIn_23 rfl ?_
      refine lv_lconst (v := 0) hx hb dX7_signsIn_24 (by decide) ?_
      refine W.lcmp hx hb dX7_signsIn_25 ?_
      refine lv_if_ne (tgt := 33) hx hb dX7_signsIn_26 (by decide) (fun c26 => ?_) (fun c26 => ?_)
      · refine lv_iconst (v := 0) hx hb dX7_signsIn_33 (by decide) ?_
        exact W.iret hx hb hr (zEi () (by
            have h0 : qB w.toBitVec.toNat k = 0 := (nI_eq (b := 0) (by omega) (by decide)).mp c15
            rw [if_pos h0] at hq
            rw [if_neg (fun q => c26 ((zShZ w hk8).mpr q))] at hq
            rw [← hq]
            rfl) hP hD hS) hS.2.2 dX7_signsIn_34
      · refine lv_iload_n hx hb dX7_signsIn_29 rfl (lv_at hl 1 rfl) ?_
        refine lv_goto (tgt := 34) hx hb dX7_signsIn_30 (by decide) ?_
        exact W.iret hx hb hr (zEi () (by
            have h0 : qB w.toBitVec.toNat k = 0 := (nI_eq (b := 0) (by omega) (by decide)).mp c15
            rw [if_pos h0] at hq
            rw [if_pos ((zShZ w hk8).mp c26)] at hq
            rw [← hq]) hP hD hS) hS.2.2 dX7_signsIn_34

set_option maxHeartbeats 4000000 in
set_option maxRecDepth 100000 in
theorem m_X7_put (l : Launch) (G : va_G) (Z : Nat → ClassId) (sz : Nat) (h : Nat) (a : Nat → Nat) (cd : Nat → Nat) (s1 : Nat) (s2 : Nat) (d : Nat → Nat) (g : Nat) (v : RV) (w : Int64) (hle : v.2.1 ≤ 80) : Met l yX7_put wsX7_put ({ frames := 2, cells := 0, slots := 0, locals := 45 }) (va_Pc [.ref h, .long w] (zWP G Z sz ([(h, .inr (7, [.ref (a 0), .ref (cd 0), .ref s1, .ref s2, .ref (d 0), .ref g]))] ++ rk Z d v))) (va_Qi (fun (r : Int32) (u : (Nat → Int32) × Nat) => r = (if qSg (w).toBitVec.toNat 8 0 = 0 then -2 else if 80 < v.2.1 + qSg (w).toBitVec.toNat 8 0 then -4 else nI (v.2.1 + qSg (w).toBitVec.toNat 8 0)) ∧ u.1 = (if qSg (w).toBitVec.toNat 8 0 = 0 then v.1 else if 80 < v.2.1 + qSg (w).toBitVec.toNat 8 0 then v.1 else qAp (w).toBitVec.toNat (qSg (w).toBitVec.toNat 8 0) v.1 v.2.1) ∧ u.2 = (if qSg (w).toBitVec.toNat 8 0 = 0 then v.2.1 else if 80 < v.2.1 + qSg (w).toBitVec.toNat 8 0 then v.2.1 else v.2.1 + qSg (w).toBitVec.toNat 8 0)) (fun (u : (Nat → Int32) × Nat) t => zB G (va_A ([(h, .inr (7, [.ref (a 0), .ref (cd 0), .ref s1, .ref s2, .ref (d 0), .ref g]))] ++ rk Z d v) sz) ([(h, .inr (7, [.ref (a 0), .ref (cd 0), .ref s1, .ref s2, .ref (d 0), .ref g]))] ++ rk Z d (u.1, u.2, v.2.2.1, v.2.2.2.1, v.2.2.2.2.1, v.2.2.2.2.2.1, v.2.2.2.2.2.2.1, v.2.2.2.2.2.2.2.1, v.2.2.2.2.2.2.2.2)) t) (va_A ([(h, .inr (7, [.ref (a 0), .ref (cd 0), .ref s1, .ref s2, .ref (d 0), .ref g]))] ++ rk Z d v) sz)) 0 0 (va_A ([(h, .inr (7, [.ref (a 0), .ref (cd 0), .ref s1, .ref s2, .ref (d 0), .ref g]))] ++ rk Z d v) sz) := by
  obtain ⟨si, le, pp, nu, od, va, ai, rd, hh⟩ := v
  have hle9 : le ≤ 80 := hle
  have g8 := qSg_le w.toBitVec.toNat
  refine Met.ofW (cc := cX7_put) (maxL := 5) (ret := (some .int)) (by decide) rfl ?_
  intro p e s m args below meth c s₁ B hml hv
  have hx := B.exec
  have hb := B.bytes
  have hr := B.returns
  have hts := atoms_spec (ws := wsX7_put) B.pre
  have hown : s.vm.findClass RX7 = some m.cls := findClass_of_methodNamed B.named
  have hlocks := B.notSynchronized
  obtain ⟨rfl, hsz, hP, hK, hD, hA, hS, hSW⟩ := zEnter hv
  subst hsz
  generalize va_A ([(h, .inr (7, [.ref (a 0), .ref (cd 0), .ref s1, .ref s2, .ref (d 0), .ref g]))] ++ rk Z d (si, le, pp, nu, od, va, ai, rd, hh)) s.heap.size = A at hD hA hS hSW ⊢
  have k_36 := hts (.fieldLink RX7 36 "WarmRods" "reader" "LWarmRods$Reader;") (List.mem_of_getElem? (i := 1) rfl)
  have iX7 : ∀ w ∈ u_ws RX7 TX7 6, w ∈ wsX7_put := fun _ h => List.mem_cons_of_mem _ (List.mem_append_left _ (List.mem_append_left _ (List.mem_append_right _ h)))
  have k_118 : (Cond.fieldLinkNest RX7 118 "WarmRods$Reader" "pad" "LWarmRods$Pad;" "WarmRods").before (#[.ref h, .long w] : Array Value) s = true := va_Nw.use rfl (hSW.1.1 _ (List.mem_of_getElem? (i := 19) rfl))
  have iX5 : ∀ w ∈ u_ws RX5 TX5 8, w ∈ wsX7_put := fun _ h => List.mem_cons_of_mem _ (List.mem_append_left _ (List.mem_append_right _ h))
  have k_122 : (Cond.fieldLinkNest RX7 122 "WarmRods$Pad" "length" "I" "WarmRods").before (#[.ref h, .long w] : Array Value) s = true := va_Nw.use rfl (hSW.1.1 _ (List.mem_of_getElem? (i := 18) rfl))
  have iX4 : ∀ w ∈ u_ws RX4 TX4 2, w ∈ wsX7_put := fun _ h => List.mem_cons_of_mem _ (List.mem_append_right _ h)
  have hP : va_P G vwCl ([(h, .inr (7, [.ref (a 0), .ref (cd 0), .ref s1, .ref s2, .ref (d 0), .ref g]))] ++ rk Z d (si, le, pp, nu, od, va, ai, rd, hh)) s.heap := hP
  have hl := lv_entry ([.ref h, .long w]) (n := 5) (Nat.le_of_ble_eq_true rfl)
  rw [lg_entry_eq]
  generalize (lg_sl ([.ref h, .long w]) ++ List.replicate (5 - (lg_sl ([.ref h, .long w])).length) Slot.unset).toArray = ls at hl ⊢
  have hl : lv_has ls 5 [(0, .ref h), (1, .long w)] := hl
  refine lv_lload_n hx hb dX7_put_0 rfl (lv_at hl 1 rfl) ?_
  refine zCi (S := Unit) (ws1 := fun u => [(h, .inr (7, [.ref (a 0), .ref (cd 0), .ref s1, .ref s2, .ref (d 0), .ref g]))] ++ rk Z d (si, le, pp, nu, od, va, ai, rd, hh)) (wr := [(h, .inr (7, [.ref (a 0), .ref (cd 0), .ref s1, .ref s2, .ref (d 0), .ref g]))] ++ rk Z d (si, le, pp, nu, od, va, ai, rd, hh)) (va_runS (As := [.long w]) (rest := []) ⟨hx, hb, hml, hown, hts⟩ (m_X7_signsIn l G Z _ w) (va_cwS 1 hts gX7_put_X7_signsIn rfl rfl rfl (by decide +kernel) ⟨Nat.le_of_ble_eq_true rfl, Nat.le_of_ble_eq_true rfl⟩) (zPreS hK hP hD hS hA hSW [] rfl (by decide)) rfl rfl hl.1 rfl (lv_room (Nat.le_of_ble_eq_true rfl)) dX7_put_1 ⟨Nat.le_of_ble_eq_true rfl, Nat.le_of_ble_eq_true rfl⟩) hP hD hS hA [] [0, 1, 2, 3] [0, 1, 2, 3] rfl rfl (by decide) (by decide) (by decide) (fun _ => rfl) (fun r1 u H locs hw1 hP hD hS => ?_)
  try dsimp only at hw1
  subst hw1
  have hP : va_P G vwCl ([(h, .inr (7, [.ref (a 0), .ref (cd 0), .ref s1, .ref s2, .ref (d 0), .ref g]))] ++ rk Z d (si, le, pp, nu, od, va, ai, rd, hh)) H := hP
  have hD : va_D A ([(h, .inr (7, [.ref (a 0), .ref (cd 0), .ref s1, .ref s2, .ref (d 0), .ref g]))] ++ rk Z d (si, le, pp, nu, od, va, ai, rd, hh)) := hD
  refine lv_istore_n (lv' := [(3, .int (nI (qSg (w).toBitVec.toNat 8 0))), (0, .ref h), (1, .long w)]) hx hb dX7_put_4 rfl hl (by decide) rfl (fun ls hl => ?_)
  refine lv_iload_n hx hb dX7_put_5 rfl (lv_at hl 0 rfl) ?_
  refine lv_if_ne (tgt := 12) hx hb dX7_put_6 (by decide) (fun c6 => ?_) (fun c6 => ?_)
  · refine lv_aload_n hx hb dX7_put_12 rfl (lv_at hl 1 rfl) ?_
    refine va_get (D := G) (ci := 7) (v := .ref (d 0)) (C := RX7) (T := TX7) (N := 6) hx hb hts iX7 hown hK hP 0 rfl rfl 4 (by decide) k_36 (fun _ h9 => h9) rfl dX7_put_13 ?_
    refine va_getN (D := G) (ci := 5) (v := .ref (d 1)) (C := RX5) (T := TX5) (N := 8) hx hb hts iX5 hown hK hP 1 rfl rfl 0 (by decide) k_118 (fun _ h9 => h9) rfl dX7_put_16 ?_
    refine va_getN (D := G) (ci := 4) (v := .int (nI le)) (C := RX4) (T := TX4) (N := 2) hx hb hts iX4 hown hK hP 2 rfl rfl 1 (by decide) k_122 (fun _ h9 => h9) rfl dX7_put_19 ?_
    refine lv_iload_n hx hb dX7_put_22 rfl (lv_at hl 0 rfl) ?_
    refine lv_iadd hx hb dX7_put_23 ?_
    refine lv_bipush (v := 80) hx hb dX7_put_24 (by decide) ?_
    refine lv_icmp_le (tgt := 32) hx hb dX7_put_26 (by decide) (fun c26 => ?_) (fun c26 => ?_)
    · refine lv_iload_n hx hb dX7_put_32 rfl (lv_at hl 0 rfl) ?_
      refine lv_iconst (v := 1) hx hb dX7_put_33 (by decide) ?_
      refine lv_isub hx hb dX7_put_34 ?_
      refine lv_istore (lv' := [(4, .int ((nI (qSg (w).toBitVec.toNat 8 0)) - 1)), (3, .int (nI (qSg (w).toBitVec.toNat 8 0))), (0, .ref h), (1, .long w)]) hx hb dX7_put_35 hl (by decide) rfl (fun ls hl => ?_)
      
      refine zLoop (σ := Nat × (Nat → Int32) × Nat) (nL := 5) (fun zx => [(h, .inr (7, [.ref (a 0), .ref (cd 0), .ref s1, .ref s2, .ref (d 0), .ref g]))] ++ rk Z d (zx.2.1, zx.2.2, pp, nu, od, va, ai, rd, hh)) (fun zx => [(4, .int ((nI zx.1) - 1)), (3, .int (nI (qSg (w).toBitVec.toNat 8 0))), (0, .ref h), (1, .long w)]) (fun zx => qAp w.toBitVec.toNat zx.1 zx.2.1 zx.2.2 = qAp w.toBitVec.toNat (qSg w.toBitVec.toNat 8 0) si le ∧ zx.2.2 + zx.1 = le + (qSg w.toBitVec.toNat 8 0) ∧ zx.1 ≤ (qSg w.toBitVec.toNat 8 0)) (fun zx => zx.1) ?_ ((qSg w.toBitVec.toNat 8 0), si, le) (by
          try dsimp only
          exact ⟨rfl, rfl, Nat.le_refl _⟩) hP hD hS (lv_sub hl [0, 1, 2, 3] rfl)
      intro zx hinv37 ih37 H locs ls hP hD hS hl
      obtain ⟨k, si2, l2⟩ := zx
      try dsimp only at hinv37 ih37
      have hP : va_P G vwCl ([(h, .inr (7, [.ref (a 0), .ref (cd 0), .ref s1, .ref s2, .ref (d 0), .ref g]))] ++ rk Z d (si2, l2, pp, nu, od, va, ai, rd, hh)) H := hP
      have hD : va_D A ([(h, .inr (7, [.ref (a 0), .ref (cd 0), .ref s1, .ref s2, .ref (d 0), .ref g]))] ++ rk Z d (si2, l2, pp, nu, od, va, ai, rd, hh)) := hD
      have hl : lv_has ls 5 [(4, .int ((nI k) - 1)), (3, .int (nI (qSg (w).toBitVec.toNat 8 0))), (0, .ref h), (1, .long w)] := hl
      refine lv_iload hx hb dX7_put_37 (lv_at hl 0 rfl) ?_
      refine lv_if_lt (tgt := 65) hx hb dX7_put_39 (by decide) (fun c39 => ?_) (fun c39 => ?_)
      · obtain rfl : k = 0 := by
          cases k with
          | zero => rfl
          | succ j => rw [nI_pred] at c39; exact absurd c39 (nI_pos (by omega))
        refine lv_aload_n hx hb dX7_put_65 rfl (lv_at hl 2 rfl) ?_
        refine va_get (D := G) (ci := 7) (v := .ref (d 0)) (C := RX7) (T := TX7) (N := 6) hx hb hts iX7 hown hK hP 0 rfl rfl 4 (by decide) k_36 (fun _ h9 => h9) rfl dX7_put_66 ?_
        refine va_getN (D := G) (ci := 5) (v := .ref (d 1)) (C := RX5) (T := TX5) (N := 8) hx hb hts iX5 hown hK hP 1 rfl rfl 0 (by decide) k_118 (fun _ h9 => h9) rfl dX7_put_69 ?_
        refine va_getN (D := G) (ci := 4) (v := .int (nI l2)) (C := RX4) (T := TX4) (N := 2) hx hb hts iX4 hown hK hP 2 rfl rfl 1 (by decide) k_122 (fun _ h9 => h9) rfl dX7_put_72 ?_
        exact W.iret hx hb hr (zEi (si2, l2) (by
            have g8 := qSg_le w.toBitVec.toNat
            have h0 : ¬ qSg w.toBitVec.toNat 8 0 = 0 := fun q => c6 (by rw [q]; rfl)
            have h2 := hinv37.2.1
            have h3 := hinv37.1
            rw [Nat.add_zero] at h2
            rw [nI_add] at c26
            have h1 := zLe (b := 80) c26 (by omega) (by omega)
            rw [qAp] at h3
            simp only [h0, show ¬ 80 < le + qSg w.toBitVec.toNat 8 0 by omega, h2, h3, ↓reduceIte, and_self]) hP hD hS) hS.2.2 dX7_put_75
      · obtain ⟨k, rfl⟩ : ∃ j, k = j + 1 := by
          cases k with
          | zero => exact absurd (by decide) c39
          | succ j => exact ⟨j, rfl⟩
        rw [nI_pred] at hl
        refine lv_aload_n hx hb dX7_put_42 rfl (lv_at hl 2 rfl) ?_
        refine va_get (D := G) (ci := 7) (v := .ref (d 0)) (C := RX7) (T := TX7) (N := 6) hx hb hts iX7 hown hK hP 0 rfl rfl 4 (by decide) k_36 (fun _ h9 => h9) rfl dX7_put_43 ?_
        refine va_getN (D := G) (ci := 5) (v := .ref (d 1)) (C := RX5) (T := TX5) (N := 8) hx hb hts iX5 hown hK hP 1 rfl rfl 0 (by decide) k_118 (fun _ h9 => h9) rfl dX7_put_46 ?_
        refine lv_lload_n hx hb dX7_put_49 rfl (lv_at hl 3 rfl) ?_
        refine lv_iload hx hb dX7_put_50 (lv_at hl 0 rfl) ?_
        refine zCi (S := Unit) (ws1 := fun u => [(h, .inr (7, [.ref (a 0), .ref (cd 0), .ref s1, .ref s2, .ref (d 0), .ref g]))] ++ rk Z d (si2, l2, pp, nu, od, va, ai, rd, hh)) (wr := [(h, .inr (7, [.ref (a 0), .ref (cd 0), .ref s1, .ref s2, .ref (d 0), .ref g]))] ++ rk Z d (si2, l2, pp, nu, od, va, ai, rd, hh)) (va_runS (As := [.long w, .int (nI k)]) (rest := [.ref (d 1)]) ⟨hx, hb, hml, hown, hts⟩ (m_X7_codeAt l G Z _ w k (by
            have := qSg_le w.toBitVec.toNat; omega)) (va_cwS 2 hts gX7_put_X7_codeAt rfl rfl rfl (by decide +kernel) ⟨Nat.le_of_ble_eq_true rfl, Nat.le_of_ble_eq_true rfl⟩) (zPreS hK hP hD hS hA hSW [] rfl (by decide)) rfl rfl hl.1 rfl (lv_room (Nat.le_of_ble_eq_true rfl)) dX7_put_52 ⟨Nat.le_of_ble_eq_true rfl, Nat.le_of_ble_eq_true rfl⟩) hP hD hS hA [] [0, 1, 2, 3] [0, 1, 2, 3] rfl rfl (by decide) (by decide) (by decide) (fun _ => rfl) (fun r52 u H locs hw52 hP hD hS => ?_)
        try dsimp only at hw52
        subst hw52
        have hP : va_P G vwCl ([(h, .inr (7, [.ref (a 0), .ref (cd 0), .ref s1, .ref s2, .ref (d 0), .ref g]))] ++ rk Z d (si2, l2, pp, nu, od, va, ai, rd, hh)) H := hP
        have hD : va_D A ([(h, .inr (7, [.ref (a 0), .ref (cd 0), .ref s1, .ref s2, .ref (d 0), .ref g]))] ++ rk Z d (si2, l2, pp, nu, od, va, ai, rd, hh)) := hD
        refine lv_i2c hx hb dX7_put_55 rfl ?_
        refine zCv (S := (Nat → Int32)) (ws1 := fun u => [(h, .inr (7, [.ref (a 0), .ref (cd 0), .ref s1, .ref s2, .ref (d 0), .ref g]))] ++ rk Z d (u, (l2 + 1), pp, nu, od, va, ai, rd, hh)) (wr := [(h, .inr (7, [.ref (a 0), .ref (cd 0), .ref s1, .ref s2, .ref (d 0), .ref g])), ((d 0), .inr (5, [.ref (d 1), .int (nI pp), .int nu, .int od, .int va, .int ai, .int rd, .int hh]))]) (va_runV (As := [.int (((nI (qB (w).toBitVec.toNat k)).toUInt32 % 65536).toInt32)]) (rest := []) ⟨hx, hb, hml, hown, hts⟩ (m_X4_append l G Z _ (d 1) (d 2) si2 l2 (((nI (qB (w).toBitVec.toNat k)).toUInt32 % 65536).toInt32) (by
            rw [nI_add] at c26
            have := zLe (b := 80) c26 (by have := qSg_le w.toBitVec.toNat; omega) (by omega)
            omega)) (cwV 1 hts gX7_put_X4_append rfl rfl rfl (by decide +kernel) ⟨Nat.le_of_ble_eq_true rfl, Nat.le_of_ble_eq_true rfl⟩) (zPreV hK hP hD hS hA hSW [2, 3] rfl (by decide) 2 (ci := 4) rfl rfl rfl) rfl rfl hl.1 rfl (lv_room (Nat.le_of_ble_eq_true rfl)) dX7_put_56 ⟨Nat.le_of_ble_eq_true rfl, Nat.le_of_ble_eq_true rfl⟩) hP hD hS hA [2, 3] [0, 1] [0, 1, 2, 3] rfl rfl (by decide) (by decide) (by decide) (fun _ => rfl) (fun u H locs hw56 hP hD hS => ?_)
        obtain ⟨si1_56, rfl⟩ : ∃ z, z = u := ⟨_, rfl⟩
        try dsimp only at hw56
        subst hw56
        have hP : va_P G vwCl ([(h, .inr (7, [.ref (a 0), .ref (cd 0), .ref s1, .ref s2, .ref (d 0), .ref g]))] ++ rk Z d ((upd si2 l2 (vp_nar .char (((nI (qB (w).toBitVec.toNat k)).toUInt32 % 65536).toInt32))), (l2 + 1), pp, nu, od, va, ai, rd, hh)) H := hP
        have hD : va_D A ([(h, .inr (7, [.ref (a 0), .ref (cd 0), .ref s1, .ref s2, .ref (d 0), .ref g]))] ++ rk Z d ((upd si2 l2 (vp_nar .char (((nI (qB (w).toBitVec.toNat k)).toUInt32 % 65536).toInt32))), (l2 + 1), pp, nu, od, va, ai, rd, hh)) := hD
        rw [zChr _ (qB_lt w.toBitVec.toNat k)] at hP hD
        refine lv_iinc (v := ((nI k) + (-1))) (lv' := [(4, .int ((nI k) + (-1))), (3, .int (nI (qSg (w).toBitVec.toNat 8 0))), (0, .ref h), (1, .long w)]) hx hb dX7_put_59 hl (k := 0) rfl rfl (by decide) rfl (fun ls hl => ?_)
        refine lv_goto (tgt := 37) hx hb dX7_put_62 (by decide) ?_
        rw [show nI k + (-1) = nI k - 1 from (Int32.sub_eq_add_neg _ _).symm] at hl
        exact ih37 (k, (upd si2 l2 (nI (qB w.toBitVec.toNat k))), (l2 + 1)) (by
            try dsimp only
            refine ⟨hinv37.1, by omega, by omega⟩) (by
            try dsimp only
            omega) _ _ _ hP hD hS (lv_sub hl [0, 1, 2, 3] rfl)
    · refine lv_bipush (v := (-4)) hx hb dX7_put_29 (by decide) ?_
      exact W.iret hx hb hr (zEi (si, le) (by
          have g8 := qSg_le w.toBitVec.toNat
          have h0 : ¬ qSg w.toBitVec.toNat 8 0 = 0 := fun q => c6 (by rw [q]; rfl)
          rw [nI_add] at c26
          have h1 := zNle (b := 80) c26 (by omega) (by omega)
          simp only [h0, h1, ↓reduceIte, and_self]) hP hD hS) hS.2.2 dX7_put_31
  · refine lv_bipush (v := (-2)) hx hb dX7_put_9 (by decide) ?_
    exact W.iret hx hb hr (zEi (si, le) (by
        have h0 : qSg w.toBitVec.toNat 8 0 = 0 := (nI_eq (b := 0) (by have := qSg_le w.toBitVec.toNat; omega) (by decide)).mp c6
        simp only [h0, ↓reduceIte, and_self]) hP hD hS) hS.2.2 dX7_put_11

set_option maxHeartbeats 4000000 in
set_option maxRecDepth 100000 in
theorem m_X8_put (l : Launch) (G : va_G) (Z : Nat → ClassId) (sz : Nat) (b : Nat → Nat) (al : Nat → Int32) (ke : Nat → Int32) (hs : Nat → Int32) (hq : Nat) (sl : Nat → Int32) (sa : Nat → Int32) (off : Int32) (car : Int32) (pa : Nat → Int32) (pq : Nat) (sp : Nat) (nu : Int32) (dn : Int32) (er : Int32) (w : Int64) (hpq : pq ≤ 80) : Met l yX8_put wsX8_put ({ frames := 1, cells := 0, slots := 0, locals := 25 }) (va_Pc [.ref (b 0), .long w] (zWP G Z sz (mk Z b (al, ke, hs, hq, sl, sa, off, car, pa, pq, sp, nu, dn, er)))) (va_Qi (fun (r : Int32) (u : (Nat → Int32) × Nat) => r = (if qSg (w).toBitVec.toNat 8 0 = 0 then -2 else if 80 < pq + qSg (w).toBitVec.toNat 8 0 then -4 else nI (pq + qSg (w).toBitVec.toNat 8 0)) ∧ u.1 = (if qSg (w).toBitVec.toNat 8 0 = 0 then pa else if 80 < pq + qSg (w).toBitVec.toNat 8 0 then pa else qAp (w).toBitVec.toNat (qSg (w).toBitVec.toNat 8 0) pa pq) ∧ u.2 = (if qSg (w).toBitVec.toNat 8 0 = 0 then pq else if 80 < pq + qSg (w).toBitVec.toNat 8 0 then pq else pq + qSg (w).toBitVec.toNat 8 0)) (fun (u : (Nat → Int32) × Nat) t => zB G (va_A (mk Z b (al, ke, hs, hq, sl, sa, off, car, pa, pq, sp, nu, dn, er)) sz) (mk Z b (al, ke, hs, hq, sl, sa, off, car, u.1, u.2, sp, nu, dn, er)) t) (va_A (mk Z b (al, ke, hs, hq, sl, sa, off, car, pa, pq, sp, nu, dn, er)) sz)) 0 0 (va_A (mk Z b (al, ke, hs, hq, sl, sa, off, car, pa, pq, sp, nu, dn, er)) sz) := by
  refine Met.ofW (cc := cX8_put) (maxL := 8) (ret := (some .int)) (by decide) rfl ?_
  intro p e s m args below meth c s₁ B hml hv
  have hx := B.exec
  have hb := B.bytes
  have hr := B.returns
  have hts := atoms_spec (ws := wsX8_put) B.pre
  have hown : s.vm.findClass RX8 = some m.cls := findClass_of_methodNamed B.named
  have hlocks := B.notSynchronized
  obtain ⟨rfl, hsz, hP, hK, hD, hA, hS, hSW⟩ := zEnter hv
  subst hsz
  generalize va_A (mk Z b (al, ke, hs, hq, sl, sa, off, car, pa, pq, sp, nu, dn, er)) s.heap.size = A at hD hA hS hSW ⊢
  have k_125 := hts (.fieldLink RX8 125 "WarmRodsModel" "padLong" "I") (List.mem_of_getElem? (i := 4) rfl)
  have iX8 : ∀ w ∈ u_ws RX8 TX8 14, w ∈ wsX8_put := fun _ h => List.mem_cons_of_mem _ (List.mem_append_right _ h)
  have k_25 := hts (.fieldLink RX8 25 "WarmRodsModel" "pad" "[I") (List.mem_of_getElem? (i := 5) rfl)
  have k_154 := hts (.constantLong RX8 154 (255)) (List.mem_of_getElem? (i := 1) rfl)
  have k_156 := hts (.constantLong RX8 156 (33)) (List.mem_of_getElem? (i := 2) rfl)
  have k_158 := hts (.constantLong RX8 158 (126)) (List.mem_of_getElem? (i := 3) rfl)
  have hP : va_P G vwCl (mk Z b (al, ke, hs, hq, sl, sa, off, car, pa, pq, sp, nu, dn, er)) s.heap := hP
  have hl := lv_entry ([.ref (b 0), .long w]) (n := 8) (Nat.le_of_ble_eq_true rfl)
  rw [lg_entry_eq]
  generalize (lg_sl ([.ref (b 0), .long w]) ++ List.replicate (8 - (lg_sl ([.ref (b 0), .long w])).length) Slot.unset).toArray = ls at hl ⊢
  have hl : lv_has ls 8 [(0, .ref (b 0)), (1, .long w)] := hl
  refine lv_iconst (v := 0) hx hb dX8_put_0 (by decide) ?_
  refine lv_istore_n (lv' := [(3, .int 0), (0, .ref (b 0)), (1, .long w)]) hx hb dX8_put_1 rfl hl (by decide) rfl (fun ls hl => ?_)
  refine lv_iconst (v := 1) hx hb dX8_put_2 (by decide) ?_
  refine lv_istore (lv' := [(4, .int 1), (3, .int 0), (0, .ref (b 0)), (1, .long w)]) hx hb dX8_put_3 hl (by decide) rfl (fun ls hl => ?_)
  refine lv_lload_n hx hb dX8_put_5 rfl (lv_at hl 3 rfl) ?_
  refine lv_lstore (lv' := [(5, .long w), (4, .int 1), (3, .int 0), (0, .ref (b 0)), (1, .long w)]) hx hb dX8_put_6 hl (by decide) rfl (fun ls hl => ?_)
  refine zLoop (σ := Nat × Int32 × Int64) (nL := 8) (fun zx => mk Z b (al, ke, hs, hq, sl, sa, off, car, pa, pq, sp, nu, dn, er)) (fun zx => [(5, .long zx.2.2), (4, .int zx.2.1), (3, .int (nI zx.1)), (0, .ref (b 0)), (1, .long w)]) (fun zx => zx.1 ≤ 8 ∧ zx.2.2 = lN (w.toBitVec.toNat / 256 ^ zx.1) ∧ ((zx.2.1 = 1 ∧ qSg w.toBitVec.toNat (8 - zx.1) zx.1 = qSg w.toBitVec.toNat 8 0) ∨ (zx.2.1 = 0 ∧ qSg w.toBitVec.toNat 8 0 = 0))) (fun zx => 8 - zx.1) ?_ (0, 1, w) (by
      try dsimp only
      exact ⟨by omega, by rw [Nat.pow_zero, Nat.div_one]; exact lW w, Or.inl ⟨rfl, rfl⟩⟩) hP hD hS (lv_sub hl [0, 1, 2, 3, 4] rfl)
  intro zx hinv8 ih8 H locs ls hP hD hS hl
  obtain ⟨k, g, R2⟩ := zx
  try dsimp only at hinv8 ih8
  have hP : va_P G vwCl (mk Z b (al, ke, hs, hq, sl, sa, off, car, pa, pq, sp, nu, dn, er)) H := hP
  have hD : va_D A (mk Z b (al, ke, hs, hq, sl, sa, off, car, pa, pq, sp, nu, dn, er)) := hD
  have hl : lv_has ls 8 [(5, .long R2), (4, .int g), (3, .int (nI k)), (0, .ref (b 0)), (1, .long w)] := hl
  refine lv_iload_n hx hb dX8_put_8 rfl (lv_at hl 2 rfl) ?_
  refine lv_bipush (v := 8) hx hb dX8_put_9 (by decide) ?_
  refine lv_icmp_ge (tgt := 68) hx hb dX8_put_11 (by decide) (fun c11 => ?_) (fun c11 => ?_)
  · have hk := zLe (a := 8) c11 (by omega) (by omega)
    have hE := qSg_end (k := k) (qW w) (Or.inl (by omega))
    have hdw2 := Nat.lt_of_le_of_lt (Nat.div_le_self (w.toBitVec.toNat) (256 ^ k)) (qW w)
    refine lv_iload_n hx hb dX8_put_68 rfl (lv_at hl 2 rfl) ?_
    refine lv_if_eq (tgt := 84) hx hb dX8_put_69 (by decide) (fun c69 => ?_) (fun c69 => ?_)
    · refine lv_bipush (v := (-2)) hx hb dX8_put_84 (by decide) ?_
      exact W.iret hx hb hr (zEi (pa, pq) (by
          have hG : qSg w.toBitVec.toNat 8 0 = 0 := by
            rcases hinv8.2.2 with q | q
            · rw [← q.2, hE]
              have : k = 0 := (nI_eq (b := 0) (by omega) (by decide)).mp c69
              rw [this]
              split <;> rfl
            · exact q.2
          simp only [hG, ↓reduceIte, and_self]) hP hD hS) hS.2.2 dX8_put_86
    · refine lv_lload hx hb dX8_put_72 (lv_at hl 0 rfl) ?_
      refine lv_lconst (v := 0) hx hb dX8_put_74 (by decide) ?_
      refine W.lcmp hx hb dX8_put_75 ?_
      refine lv_if_ne (tgt := 84) hx hb dX8_put_76 (by decide) (fun c76 => ?_) (fun c76 => ?_)
      · refine lv_bipush (v := (-2)) hx hb dX8_put_84 (by decide) ?_
        exact W.iret hx hb hr (zEi (pa, pq) (by
            have hG : qSg w.toBitVec.toNat 8 0 = 0 := by
              rcases hinv8.2.2 with q | q
              · rw [← q.2, hE]
                rw [lgc0, hinv8.2.1, lN_0 hdw2] at c76
                rw [if_neg c76]
              · exact q.2
            simp only [hG, ↓reduceIte, and_self]) hP hD hS) hS.2.2 dX8_put_86
      · refine lv_iload hx hb dX8_put_79 (lv_at hl 1 rfl) ?_
        refine lv_if_ne (tgt := 87) hx hb dX8_put_81 (by decide) (fun c81 => ?_) (fun c81 => ?_)
        · rw [lgc0, hinv8.2.1, lN_0 hdw2] at c76
          have hG : qSg w.toBitVec.toNat 8 0 = k := by
            rw [← (hinv8.2.2.resolve_right (fun q => c81 q.1)).2, hE, if_pos c76]
          have hk0 : ¬ k = 0 := fun q => c69 (by rw [q]; rfl)
          have hk8x := hinv8.1
          obtain ⟨n, hn⟩ : ∃ z, z = k := ⟨_, rfl⟩
          rw [← hn] at hl hG hk0 hk8x
          refine lv_aload_n hx hb dX8_put_87 rfl (lv_at hl 3 rfl) ?_
          refine va_get (D := G) (ci := 8) (v := .int (nI pq)) (C := RX8) (T := TX8) (N := 14) hx hb hts iX8 hown hK hP 0 rfl rfl 9 (by decide) k_125 (fun _ h9 => h9) rfl dX8_put_88 ?_
          refine lv_iload_n hx hb dX8_put_91 rfl (lv_at hl 2 rfl) ?_
          refine lv_iadd hx hb dX8_put_92 ?_
          refine lv_bipush (v := 80) hx hb dX8_put_93 (by decide) ?_
          refine lv_icmp_le (tgt := 101) hx hb dX8_put_95 (by decide) (fun c95 => ?_) (fun c95 => ?_)
          · refine lv_iload_n hx hb dX8_put_101 rfl (lv_at hl 2 rfl) ?_
            refine lv_iconst (v := 1) hx hb dX8_put_102 (by decide) ?_
            refine lv_isub hx hb dX8_put_103 ?_
            refine lv_istore (lv' := [(7, .int ((nI n) - 1)), (5, .long R2), (4, .int g), (3, .int (nI n)), (0, .ref (b 0)), (1, .long w)]) hx hb dX8_put_104 hl (by decide) rfl (fun ls hl => ?_)
            
            refine zLoop (σ := Nat × (Nat → Int32) × Nat) (nL := 8) (fun zx => mk Z b (al, ke, hs, hq, sl, sa, off, car, zx.2.1, zx.2.2, sp, nu, dn, er)) (fun zx => [(7, .int ((nI zx.1) - 1)), (5, .long R2), (4, .int g), (3, .int (nI n)), (0, .ref (b 0)), (1, .long w)]) (fun zx => qAp w.toBitVec.toNat zx.1 zx.2.1 zx.2.2 = qAp w.toBitVec.toNat n pa pq ∧ zx.2.2 + zx.1 = pq + n ∧ zx.1 ≤ n) (fun zx => zx.1) ?_ (n, pa, pq) (by
                try dsimp only
                exact ⟨rfl, rfl, Nat.le_refl _⟩) hP hD hS (lv_sub hl [0, 1, 2, 3, 4, 5] rfl)
            intro zx hinv106 ih106 H locs ls hP hD hS hl
            obtain ⟨k2, si2, l2⟩ := zx
            try dsimp only at hinv106 ih106
            have hP : va_P G vwCl (mk Z b (al, ke, hs, hq, sl, sa, off, car, si2, l2, sp, nu, dn, er)) H := hP
            have hD : va_D A (mk Z b (al, ke, hs, hq, sl, sa, off, car, si2, l2, sp, nu, dn, er)) := hD
            have hl : lv_has ls 8 [(7, .int ((nI k2) - 1)), (5, .long R2), (4, .int g), (3, .int (nI n)), (0, .ref (b 0)), (1, .long w)] := hl
            refine lv_iload hx hb dX8_put_106 (lv_at hl 0 rfl) ?_
            refine lv_if_lt (tgt := 148) hx hb dX8_put_108 (by decide) (fun c108 => ?_) (fun c108 => ?_)
            · obtain rfl : k2 = 0 := by
                cases k2 with
                | zero => rfl
                | succ j => rw [nI_pred] at c108; exact absurd c108 (nI_pos (by omega))
              refine lv_aload_n hx hb dX8_put_148 rfl (lv_at hl 4 rfl) ?_
              refine va_get (D := G) (ci := 8) (v := .int (nI l2)) (C := RX8) (T := TX8) (N := 14) hx hb hts iX8 hown hK hP 0 rfl rfl 9 (by decide) k_125 (fun _ h9 => h9) rfl dX8_put_149 ?_
              exact W.iret hx hb hr (zEi (si2, l2) (by
                  have h2 := hinv106.2.1
                  have h3 := hinv106.1
                  rw [Nat.add_zero] at h2
                  rw [nI_add] at c95
                  have h1 := zLe (b := 80) c95 (by omega) (by omega)
                  rw [qAp] at h3
                  rw [hG]
                  simp only [hk0, show ¬ 80 < pq + n by omega, h2, h3, ↓reduceIte, and_self]) hP hD hS) hS.2.2 dX8_put_152
            · obtain ⟨k2, rfl⟩ : ∃ j, k2 = j + 1 := by
                cases k2 with
                | zero => exact absurd (by decide) c108
                | succ j => exact ⟨j, rfl⟩
              rw [nI_pred] at hl
              have hi9 : l2 < 80 := by
                rw [nI_add] at c95
                have := zLe (b := 80) c95 (by omega) (by omega)
                omega
              have hk9 : k2 < 8 := by omega
              refine lv_aload_n hx hb dX8_put_111 rfl (lv_at hl 4 rfl) ?_
              refine va_get (D := G) (ci := 8) (v := .ref (b 6)) (C := RX8) (T := TX8) (N := 14) hx hb hts iX8 hown hK hP 0 rfl rfl 8 (by decide) k_25 (fun _ h9 => h9) rfl dX8_put_112 ?_
              refine lv_aload_n hx hb dX8_put_115 rfl (lv_at hl 4 rfl) ?_
              refine va_get (D := G) (ci := 8) (v := .int (nI l2)) (C := RX8) (T := TX8) (N := 14) hx hb hts iX8 hown hK hP 0 rfl rfl 9 (by decide) k_125 (fun _ h9 => h9) rfl dX8_put_116 ?_
              refine lv_lload_n hx hb dX8_put_119 rfl (lv_at hl 5 rfl) ?_
              refine lv_bipush (v := 8) hx hb dX8_put_120 (by decide) ?_
              refine lv_iload hx hb dX8_put_122 (lv_at hl 0 rfl) ?_
              refine lv_imul hx hb dX8_put_124 ?_
              refine lv_lushr (v := zUshr w (8 * (nI k2))) hx hb dX8_put_125 rfl ?_
              refine lv_ldc2 (v := 255) hx hb hown k_154 dX8_put_126 ?_
              refine lv_land hx hb dX8_put_129 ?_
              refine lv_l2i hx hb dX8_put_130 rfl ?_
              refine zIast (f := si2) hx hb hK hP hD hS 6 0 rfl rfl l2 (rfl) (hi9) (by decide) dX8_put_131 (fun H locs hP hD hS => ?_)
              have hP : va_P G vwCl (mk Z b (al, ke, hs, hq, sl, sa, off, car, (upd si2 l2 (((zUshr w (8 * (nI k2))) &&& 255).toInt32)), l2, sp, nu, dn, er)) H := hP
              have hD : va_D A (mk Z b (al, ke, hs, hq, sl, sa, off, car, (upd si2 l2 (((zUshr w (8 * (nI k2))) &&& 255).toInt32)), l2, sp, nu, dn, er)) := hD
              rw [zCodeL w hk9] at hP hD
              refine lv_aload_n hx hb dX8_put_132 rfl (lv_at hl 4 rfl) ?_
              refine lv_dup hx hb dX8_put_133 rfl ?_
              refine va_get (D := G) (ci := 8) (v := .int (nI l2)) (C := RX8) (T := TX8) (N := 14) hx hb hts iX8 hown hK hP 0 rfl rfl 9 (by decide) k_125 (fun _ h9 => h9) rfl dX8_put_134 ?_
              refine lv_iconst (v := 1) hx hb dX8_put_137 (by decide) ?_
              refine lv_iadd hx hb dX8_put_138 ?_
              refine zTopI (y := (nI (l2 + 1))) (nI_succ l2).symm ?_
              refine va_put (D := G) (ci := 8) (v := .int (nI (l2 + 1))) (ty := .int) (C := RX8) (T := TX8) (N := 14) hx hb hts iX8 tyX8 tyX8_ok nmX8 hown hK hP hD hS 0 rfl rfl 9 (by decide) k_125 (fun _ h9 => h9) rfl (by decide +kernel) rfl rfl (Nat.le_of_ble_eq_true rfl) dX8_put_139 (fun H locs hP hD hS => ?_)
              have hP : va_P G vwCl (mk Z b (al, ke, hs, hq, sl, sa, off, car, (upd si2 l2 (nI (qB w.toBitVec.toNat k2))), (l2 + 1), sp, nu, dn, er)) H := hP
              have hD : va_D A (mk Z b (al, ke, hs, hq, sl, sa, off, car, (upd si2 l2 (nI (qB w.toBitVec.toNat k2))), (l2 + 1), sp, nu, dn, er)) := hD
              refine lv_iinc (v := ((nI k2) + (-1))) (lv' := [(7, .int ((nI k2) + (-1))), (5, .long R2), (4, .int g), (3, .int (nI n)), (0, .ref (b 0)), (1, .long w)]) hx hb dX8_put_142 hl (k := 0) rfl rfl (by decide) rfl (fun ls hl => ?_)
              refine lv_goto (tgt := 106) hx hb dX8_put_145 (by decide) ?_
              rw [show nI k2 + (-1) = nI k2 - 1 from (Int32.sub_eq_add_neg _ _).symm] at hl
              exact ih106 (k2, (upd si2 l2 (nI (qB w.toBitVec.toNat k2))), (l2 + 1)) (by
                  try dsimp only
                  refine ⟨hinv106.1, by omega, by omega⟩) (by
                  try dsimp only
                  omega) _ _ _ hP hD hS (lv_sub hl [0, 1, 2, 3, 4, 5] rfl)
          · refine lv_bipush (v := (-4)) hx hb dX8_put_98 (by decide) ?_
            exact W.iret hx hb hr (zEi (pa, pq) (by
                rw [nI_add] at c95
                have h1 := zNle (b := 80) c95 (by omega) (by omega)
                rw [hG] at *
                simp only [hk0, h1, ↓reduceIte, and_self]) hP hD hS) hS.2.2 dX8_put_100
        · refine lv_bipush (v := (-2)) hx hb dX8_put_84 (by decide) ?_
          exact W.iret hx hb hr (zEi (pa, pq) (by
              have hG : qSg w.toBitVec.toNat 8 0 = 0 := by
                rcases hinv8.2.2 with q | q
                · rw [← q.2, hE]
                  exact absurd (q.1.symm.trans c81) (by decide)
                · exact q.2
              simp only [hG, ↓reduceIte, and_self]) hP hD hS) hS.2.2 dX8_put_86
  · have hk8 : k < 8 := zNle (a := 8) c11 (by omega) (by omega)
    have hqb := qB_lt w.toBitVec.toNat k
    have hdw := Nat.lt_of_le_of_lt (Nat.div_le_self (w.toBitVec.toNat) (256 ^ k)) (qW w)
    have hR2 : R2 &&& 255 = lN (qB w.toBitVec.toNat k) := by rw [hinv8.2.1, lN_255 hdw]; rfl
    refine lv_lload hx hb dX8_put_14 (lv_at hl 0 rfl) ?_
    refine lv_ldc2 (v := 255) hx hb hown k_154 dX8_put_16 ?_
    refine lv_land hx hb dX8_put_19 ?_
    refine lv_lconst (v := 0) hx hb dX8_put_20 (by decide) ?_
    refine W.lcmp hx hb dX8_put_21 ?_
    refine lv_if_eq (tgt := 68) hx hb dX8_put_22 (by decide) (fun c22 => ?_) (fun c22 => ?_)
    · rw [lgc0, hR2] at c22
      have h0 : qB w.toBitVec.toNat k = 0 := (lN_eq (b := 0) (by omega) (by decide)).mp c22
      have hE := qSg_end (k := k) (qW w) (Or.inr ⟨hk8, h0⟩)
      have hdw2 := Nat.lt_of_le_of_lt (Nat.div_le_self (w.toBitVec.toNat) (256 ^ k)) (qW w)
      refine lv_iload_n hx hb dX8_put_68 rfl (lv_at hl 2 rfl) ?_
      refine lv_if_eq (tgt := 84) hx hb dX8_put_69 (by decide) (fun c69 => ?_) (fun c69 => ?_)
      · refine lv_bipush (v := (-2)) hx hb dX8_put_84 (by decide) ?_
        exact W.iret hx hb hr (zEi (pa, pq) (by
            have hG : qSg w.toBitVec.toNat 8 0 = 0 := by
              rcases hinv8.2.2 with q | q
              · rw [← q.2, hE]
                have : k = 0 := (nI_eq (b := 0) (by omega) (by decide)).mp c69
                rw [this]
                split <;> rfl
              · exact q.2
            simp only [hG, ↓reduceIte, and_self]) hP hD hS) hS.2.2 dX8_put_86
      · refine lv_lload hx hb dX8_put_72 (lv_at hl 0 rfl) ?_
        refine lv_lconst (v := 0) hx hb dX8_put_74 (by decide) ?_
        refine W.lcmp hx hb dX8_put_75 ?_
        refine lv_if_ne (tgt := 84) hx hb dX8_put_76 (by decide) (fun c76 => ?_) (fun c76 => ?_)
        · refine lv_bipush (v := (-2)) hx hb dX8_put_84 (by decide) ?_
          exact W.iret hx hb hr (zEi (pa, pq) (by
              have hG : qSg w.toBitVec.toNat 8 0 = 0 := by
                rcases hinv8.2.2 with q | q
                · rw [← q.2, hE]
                  rw [lgc0, hinv8.2.1, lN_0 hdw2] at c76
                  rw [if_neg c76]
                · exact q.2
              simp only [hG, ↓reduceIte, and_self]) hP hD hS) hS.2.2 dX8_put_86
        · refine lv_iload hx hb dX8_put_79 (lv_at hl 1 rfl) ?_
          refine lv_if_ne (tgt := 87) hx hb dX8_put_81 (by decide) (fun c81 => ?_) (fun c81 => ?_)
          · rw [lgc0, hinv8.2.1, lN_0 hdw2] at c76
            have hG : qSg w.toBitVec.toNat 8 0 = k := by
              rw [← (hinv8.2.2.resolve_right (fun q => c81 q.1)).2, hE, if_pos c76]
            have hk0 : ¬ k = 0 := fun q => c69 (by rw [q]; rfl)
            have hk8x := hinv8.1
            obtain ⟨n, hn⟩ : ∃ z, z = k := ⟨_, rfl⟩
            rw [← hn] at hl hG hk0 hk8x
            refine lv_aload_n hx hb dX8_put_87 rfl (lv_at hl 3 rfl) ?_
            refine va_get (D := G) (ci := 8) (v := .int (nI pq)) (C := RX8) (T := TX8) (N := 14) hx hb hts iX8 hown hK hP 0 rfl rfl 9 (by decide) k_125 (fun _ h9 => h9) rfl dX8_put_88 ?_
            refine lv_iload_n hx hb dX8_put_91 rfl (lv_at hl 2 rfl) ?_
            refine lv_iadd hx hb dX8_put_92 ?_
            refine lv_bipush (v := 80) hx hb dX8_put_93 (by decide) ?_
            refine lv_icmp_le (tgt := 101) hx hb dX8_put_95 (by decide) (fun c95 => ?_) (fun c95 => ?_)
            · refine lv_iload_n hx hb dX8_put_101 rfl (lv_at hl 2 rfl) ?_
              refine lv_iconst (v := 1) hx hb dX8_put_102 (by decide) ?_
              refine lv_isub hx hb dX8_put_103 ?_
              refine lv_istore (lv' := [(7, .int ((nI n) - 1)), (5, .long R2), (4, .int g), (3, .int (nI n)), (0, .ref (b 0)), (1, .long w)]) hx hb dX8_put_104 hl (by decide) rfl (fun ls hl => ?_)
              
              refine zLoop (σ := Nat × (Nat → Int32) × Nat) (nL := 8) (fun zx => mk Z b (al, ke, hs, hq, sl, sa, off, car, zx.2.1, zx.2.2, sp, nu, dn, er)) (fun zx => [(7, .int ((nI zx.1) - 1)), (5, .long R2), (4, .int g), (3, .int (nI n)), (0, .ref (b 0)), (1, .long w)]) (fun zx => qAp w.toBitVec.toNat zx.1 zx.2.1 zx.2.2 = qAp w.toBitVec.toNat n pa pq ∧ zx.2.2 + zx.1 = pq + n ∧ zx.1 ≤ n) (fun zx => zx.1) ?_ (n, pa, pq) (by
                  try dsimp only
                  exact ⟨rfl, rfl, Nat.le_refl _⟩) hP hD hS (lv_sub hl [0, 1, 2, 3, 4, 5] rfl)
              intro zx hinv106 ih106 H locs ls hP hD hS hl
              obtain ⟨k2, si2, l2⟩ := zx
              try dsimp only at hinv106 ih106
              have hP : va_P G vwCl (mk Z b (al, ke, hs, hq, sl, sa, off, car, si2, l2, sp, nu, dn, er)) H := hP
              have hD : va_D A (mk Z b (al, ke, hs, hq, sl, sa, off, car, si2, l2, sp, nu, dn, er)) := hD
              have hl : lv_has ls 8 [(7, .int ((nI k2) - 1)), (5, .long R2), (4, .int g), (3, .int (nI n)), (0, .ref (b 0)), (1, .long w)] := hl
              refine lv_iload hx hb dX8_put_106 (lv_at hl 0 rfl) ?_
              refine lv_if_lt (tgt := 148) hx hb dX8_put_108 (by decide) (fun c108 => ?_) (fun c108 => ?_)
              · obtain rfl : k2 = 0 := by
                  cases k2 with
                  | zero => rfl
                  | succ j => rw [nI_pred] at c108; exact absurd c108 (nI_pos (by omega))
                refine lv_aload_n hx hb dX8_put_148 rfl (lv_at hl 4 rfl) ?_
                refine va_get (D := G) (ci := 8) (v := .int (nI l2)) (C := RX8) (T := TX8) (N := 14) hx hb hts iX8 hown hK hP 0 rfl rfl 9 (by decide) k_125 (fun _ h9 => h9) rfl dX8_put_149 ?_
                exact W.iret hx hb hr (zEi (si2, l2) (by
                    have h2 := hinv106.2.1
                    have h3 := hinv106.1
                    rw [Nat.add_zero] at h2
                    rw [nI_add] at c95
                    have h1 := zLe (b := 80) c95 (by omega) (by omega)
                    rw [qAp] at h3
                    rw [hG]
                    simp only [hk0, show ¬ 80 < pq + n by omega, h2, h3, ↓reduceIte, and_self]) hP hD hS) hS.2.2 dX8_put_152
              · obtain ⟨k2, rfl⟩ : ∃ j, k2 = j + 1 := by
                  cases k2 with
                  | zero => exact absurd (by decide) c108
                  | succ j => exact ⟨j, rfl⟩
                rw [nI_pred] at hl
                have hi9 : l2 < 80 := by
                  rw [nI_add] at c95
                  have := zLe (b := 80) c95 (by omega) (by omega)
                  omega
                have hk9 : k2 < 8 := by omega
                refine lv_aload_n hx hb dX8_put_111 rfl (lv_at hl 4 rfl) ?_
                refine va_get (D := G) (ci := 8) (v := .ref (b 6)) (C := RX8) (T := TX8) (N := 14) hx hb hts iX8 hown hK hP 0 rfl rfl 8 (by decide) k_25 (fun _ h9 => h9) rfl dX8_put_112 ?_
                refine lv_aload_n hx hb dX8_put_115 rfl (lv_at hl 4 rfl) ?_
                refine va_get (D := G) (ci := 8) (v := .int (nI l2)) (C := RX8) (T := TX8) (N := 14) hx hb hts iX8 hown hK hP 0 rfl rfl 9 (by decide) k_125 (fun _ h9 => h9) rfl dX8_put_116 ?_
                refine lv_lload_n hx hb dX8_put_119 rfl (lv_at hl 5 rfl) ?_
                refine lv_bipush (v := 8) hx hb dX8_put_120 (by decide) ?_
                refine lv_iload hx hb dX8_put_122 (lv_at hl 0 rfl) ?_
                refine lv_imul hx hb dX8_put_124 ?_
                refine lv_lushr (v := zUshr w (8 * (nI k2))) hx hb dX8_put_125 rfl ?_
                refine lv_ldc2 (v := 255) hx hb hown k_154 dX8_put_126 ?_
                refine lv_land hx hb dX8_put_129 ?_
                refine lv_l2i hx hb dX8_put_130 rfl ?_
                refine zIast (f := si2) hx hb hK hP hD hS 6 0 rfl rfl l2 (rfl) (hi9) (by decide) dX8_put_131 (fun H locs hP hD hS => ?_)
                have hP : va_P G vwCl (mk Z b (al, ke, hs, hq, sl, sa, off, car, (upd si2 l2 (((zUshr w (8 * (nI k2))) &&& 255).toInt32)), l2, sp, nu, dn, er)) H := hP
                have hD : va_D A (mk Z b (al, ke, hs, hq, sl, sa, off, car, (upd si2 l2 (((zUshr w (8 * (nI k2))) &&& 255).toInt32)), l2, sp, nu, dn, er)) := hD
                rw [zCodeL w hk9] at hP hD
                refine lv_aload_n hx hb dX8_put_132 rfl (lv_at hl 4 rfl) ?_
                refine lv_dup hx hb dX8_put_133 rfl ?_
                refine va_get (D := G) (ci := 8) (v := .int (nI l2)) (C := RX8) (T := TX8) (N := 14) hx hb hts iX8 hown hK hP 0 rfl rfl 9 (by decide) k_125 (fun _ h9 => h9) rfl dX8_put_134 ?_
                refine lv_iconst (v := 1) hx hb dX8_put_137 (by decide) ?_
                refine lv_iadd hx hb dX8_put_138 ?_
                refine zTopI (y := (nI (l2 + 1))) (nI_succ l2).symm ?_
                refine va_put (D := G) (ci := 8) (v := .int (nI (l2 + 1))) (ty := .int) (C := RX8) (T := TX8) (N := 14) hx hb hts iX8 tyX8 tyX8_ok nmX8 hown hK hP hD hS 0 rfl rfl 9 (by decide) k_125 (fun _ h9 => h9) rfl (by decide +kernel) rfl rfl (Nat.le_of_ble_eq_true rfl) dX8_put_139 (fun H locs hP hD hS => ?_)
                have hP : va_P G vwCl (mk Z b (al, ke, hs, hq, sl, sa, off, car, (upd si2 l2 (nI (qB w.toBitVec.toNat k2))), (l2 + 1), sp, nu, dn, er)) H := hP
                have hD : va_D A (mk Z b (al, ke, hs, hq, sl, sa, off, car, (upd si2 l2 (nI (qB w.toBitVec.toNat k2))), (l2 + 1), sp, nu, dn, er)) := hD
                refine lv_iinc (v := ((nI k2) + (-1))) (lv' := [(7, .int ((nI k2) + (-1))), (5, .long R2), (4, .int g), (3, .int (nI n)), (0, .ref (b 0)), (1, .long w)]) hx hb dX8_put_142 hl (k := 0) rfl rfl (by decide) rfl (fun ls hl => ?_)
                refine lv_goto (tgt := 106) hx hb dX8_put_145 (by decide) ?_
                rw [show nI k2 + (-1) = nI k2 - 1 from (Int32.sub_eq_add_neg _ _).symm] at hl
                exact ih106 (k2, (upd si2 l2 (nI (qB w.toBitVec.toNat k2))), (l2 + 1)) (by
                    try dsimp only
                    refine ⟨hinv106.1, by omega, by omega⟩) (by
                    try dsimp only
                    omega) _ _ _ hP hD hS (lv_sub hl [0, 1, 2, 3, 4, 5] rfl)
            · refine lv_bipush (v := (-4)) hx hb dX8_put_98 (by decide) ?_
              exact W.iret hx hb hr (zEi (pa, pq) (by
                  rw [nI_add] at c95
                  have h1 := zNle (b := 80) c95 (by omega) (by omega)
                  rw [hG] at *
                  simp only [hk0, h1, ↓reduceIte, and_self]) hP hD hS) hS.2.2 dX8_put_100
          · refine lv_bipush (v := (-2)) hx hb dX8_put_84 (by decide) ?_
            exact W.iret hx hb hr (zEi (pa, pq) (by
                have hG : qSg w.toBitVec.toNat 8 0 = 0 := by
                  rcases hinv8.2.2 with q | q
                  · rw [← q.2, hE]
                    exact absurd (q.1.symm.trans c81) (by decide)
                  · exact q.2
                simp only [hG, ↓reduceIte, and_self]) hP hD hS) hS.2.2 dX8_put_86
    · rw [lgc0, hR2] at c22
      have h0 : ¬ qB w.toBitVec.toNat k = 0 := fun q => c22 (by rw [q]; rfl)
      refine lv_iload hx hb dX8_put_25 (lv_at hl 1 rfl) ?_
      refine lv_if_eq (tgt := 52) hx hb dX8_put_27 (by decide) (fun c27 => ?_) (fun c27 => ?_)
      · refine lv_iconst (v := 0) hx hb dX8_put_52 (by decide) ?_
        refine lv_istore (lv' := [(4, .int 0), (5, .long R2), (3, .int (nI k)), (0, .ref (b 0)), (1, .long w)]) hx hb dX8_put_53 hl (by decide) rfl (fun ls hl => ?_)
        refine lv_lload hx hb dX8_put_55 (lv_at hl 1 rfl) ?_
        refine lv_bipush (v := 8) hx hb dX8_put_57 (by decide) ?_
        refine lv_lushr (v := zUshr R2 8) hx hb dX8_put_59 rfl ?_
        refine lv_lstore (lv' := [(5, .long (zUshr R2 8)), (4, .int 0), (3, .int (nI k)), (0, .ref (b 0)), (1, .long w)]) hx hb dX8_put_60 hl (by decide) rfl (fun ls hl => ?_)
        refine lv_iinc (v := (nI (k + 1))) (lv' := [(3, .int (nI (k + 1))), (5, .long (zUshr R2 8)), (4, .int 0), (0, .ref (b 0)), (1, .long w)]) hx hb dX8_put_62 hl (k := 2) rfl (nI_succ k).symm (by decide) rfl (fun ls hl => ?_)
        refine lv_goto (tgt := 8) hx hb dX8_put_65 (by decide) ?_
        exact ih8 ((k + 1), 0, (zUshr R2 8)) (by
            try dsimp only
            have hn := hinv8.2.2
            rw [show 8 - k = (7 - k) + 1 by omega, qSg, if_neg h0] at hn
            refine ⟨by omega, by rw [hinv8.2.1, zShS (qW w)], ?_⟩
            rw [show 8 - (k + 1) = 7 - k by omega]
            exact Or.inr ⟨rfl, (hn.resolve_left (fun q => absurd (q.1.symm.trans c27) (by decide))).2⟩) (by
            try dsimp only
            omega) _ _ _ hP hD hS (lv_sub hl [1, 2, 0, 3, 4] rfl)
      · refine lv_lload hx hb dX8_put_30 (lv_at hl 0 rfl) ?_
        refine lv_ldc2 (v := 255) hx hb hown k_154 dX8_put_32 ?_
        refine lv_land hx hb dX8_put_35 ?_
        refine lv_ldc2 (v := 33) hx hb hown k_156 dX8_put_36 ?_
        refine lv_ldc2 (v := 126) hx hb hown k_158 dX8_put_39 ?_
        refine zCi (S := Unit) (ws1 := fun u => mk Z b (al, ke, hs, hq, sl, sa, off, car, pa, pq, sp, nu, dn, er)) (wr := mk Z b (al, ke, hs, hq, sl, sa, off, car, pa, pq, sp, nu, dn, er)) (va_runS (As := [.long (R2 &&& 255), .long 33, .long 126]) (rest := []) ⟨hx, hb, hml, hown, hts⟩ (m_X8_in l G Z _ (R2 &&& 255) 33 126) (va_cwS 3 hts gX8_put_X8_in rfl rfl rfl (by decide +kernel) ⟨Nat.le_of_ble_eq_true rfl, Nat.le_of_ble_eq_true rfl⟩) (zPreS hK hP hD hS hA hSW [] rfl (by decide)) rfl rfl hl.1 rfl (lv_room (Nat.le_of_ble_eq_true rfl)) dX8_put_42 ⟨Nat.le_of_ble_eq_true rfl, Nat.le_of_ble_eq_true rfl⟩) hP hD hS hA [] [0, 1, 2, 3, 4, 5, 6] [0, 1, 2, 3, 4, 5, 6] rfl rfl (by decide) (by decide) (by decide) (fun _ => rfl) (fun r42 u H locs hw42 hP hD hS => ?_)
        try dsimp only at hw42
        subst hw42
        have hP : va_P G vwCl (mk Z b (al, ke, hs, hq, sl, sa, off, car, pa, pq, sp, nu, dn, er)) H := hP
        have hD : va_D A (mk Z b (al, ke, hs, hq, sl, sa, off, car, pa, pq, sp, nu, dn, er)) := hD
        refine lv_if_eq (tgt := 52) hx hb dX8_put_45 (by decide) (fun c45 => ?_) (fun c45 => ?_)
        · refine lv_iconst (v := 0) hx hb dX8_put_52 (by decide) ?_
          refine lv_istore (lv' := [(4, .int 0), (5, .long R2), (3, .int (nI k)), (0, .ref (b 0)), (1, .long w)]) hx hb dX8_put_53 hl (by decide) rfl (fun ls hl => ?_)
          refine lv_lload hx hb dX8_put_55 (lv_at hl 1 rfl) ?_
          refine lv_bipush (v := 8) hx hb dX8_put_57 (by decide) ?_
          refine lv_lushr (v := zUshr R2 8) hx hb dX8_put_59 rfl ?_
          refine lv_lstore (lv' := [(5, .long (zUshr R2 8)), (4, .int 0), (3, .int (nI k)), (0, .ref (b 0)), (1, .long w)]) hx hb dX8_put_60 hl (by decide) rfl (fun ls hl => ?_)
          refine lv_iinc (v := (nI (k + 1))) (lv' := [(3, .int (nI (k + 1))), (5, .long (zUshr R2 8)), (4, .int 0), (0, .ref (b 0)), (1, .long w)]) hx hb dX8_put_62 hl (k := 2) rfl (nI_succ k).symm (by decide) rfl (fun ls hl => ?_)
          refine lv_goto (tgt := 8) hx hb dX8_put_65 (by decide) ?_
          exact ih8 ((k + 1), 0, (zUshr R2 8)) (by
              try dsimp only
              have hn := hinv8.2.2
              rw [show 8 - k = (7 - k) + 1 by omega, qSg, if_neg h0] at hn
              refine ⟨by omega, by rw [hinv8.2.1, zShS (qW w)], ?_⟩
              rw [show 8 - (k + 1) = 7 - k by omega]
              have hn2 := (hn.resolve_right (fun q => c27 q.1)).2
              rw [hR2] at c45
              right
              refine ⟨rfl, ?_⟩
              rw [← hn2]
              rcases (zGr hqb).mp c45 with q | q
              · rw [if_pos q]
              · rw [if_neg (by omega), if_pos q]) (by
              try dsimp only
              omega) _ _ _ hP hD hS (lv_sub hl [1, 2, 0, 3, 4] rfl)
        · refine lv_iconst (v := 1) hx hb dX8_put_48 (by decide) ?_
          refine lv_goto (tgt := 53) hx hb dX8_put_49 (by decide) ?_
          refine lv_istore (lv' := [(4, .int 1), (5, .long R2), (3, .int (nI k)), (0, .ref (b 0)), (1, .long w)]) hx hb dX8_put_53 hl (by decide) rfl (fun ls hl => ?_)
          refine lv_lload hx hb dX8_put_55 (lv_at hl 1 rfl) ?_
          refine lv_bipush (v := 8) hx hb dX8_put_57 (by decide) ?_
          refine lv_lushr (v := zUshr R2 8) hx hb dX8_put_59 rfl ?_
          refine lv_lstore (lv' := [(5, .long (zUshr R2 8)), (4, .int 1), (3, .int (nI k)), (0, .ref (b 0)), (1, .long w)]) hx hb dX8_put_60 hl (by decide) rfl (fun ls hl => ?_)
          refine lv_iinc (v := (nI (k + 1))) (lv' := [(3, .int (nI (k + 1))), (5, .long (zUshr R2 8)), (4, .int 1), (0, .ref (b 0)), (1, .long w)]) hx hb dX8_put_62 hl (k := 2) rfl (nI_succ k).symm (by decide) rfl (fun ls hl => ?_)
          refine lv_goto (tgt := 8) hx hb dX8_put_65 (by decide) ?_
          exact ih8 ((k + 1), 1, (zUshr R2 8)) (by
              try dsimp only
              have hn := hinv8.2.2
              rw [show 8 - k = (7 - k) + 1 by omega, qSg, if_neg h0] at hn
              refine ⟨by omega, by rw [hinv8.2.1, zShS (qW w)], ?_⟩
              rw [show 8 - (k + 1) = 7 - k by omega]
              have hn2 := (hn.resolve_right (fun q => c27 q.1)).2
              rw [hR2] at c45
              left
              refine ⟨rfl, ?_⟩
              have q := mt (zGr hqb).mpr c45
              rw [if_neg (by omega), if_neg (by omega)] at hn2
              exact hn2) (by
              try dsimp only
              omega) _ _ _ hP hD hS (lv_sub hl [1, 2, 0, 3, 4] rfl)
