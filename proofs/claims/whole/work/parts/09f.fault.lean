set_option maxHeartbeats 4000000 in
set_option maxRecDepth 100000 in
theorem m_X5_firstFault (l : Launch) (G : va_G) (Z : Nat → ClassId) (sz : Nat) (a : Nat → Nat) (v : RV) (hle : v.2.1 ≤ 80) : Met l yX5_firstFault wsX5_firstFault ({ frames := 5, cells := 0, slots := 0, locals := 103 }) (va_Pc [.ref (a 0)] (zWP G Z sz (rk Z a v))) (va_Qi (fun (r : Int32) (u : RV) => r = (rFa 80 (rAt v 0)).1 ∧ u = (rFa 80 (rAt v 0)).2) (fun (u : RV) t => zB G (va_A (rk Z a v) sz) (rk Z a u) t) (va_A (rk Z a v) sz)) 0 0 (va_A (rk Z a v) sz) := by
  refine Met.ofW (cc := cX5_firstFault) (maxL := 2) (ret := (some .int)) (by decide) rfl ?_
  intro p e s m args below meth c s₁ B hml hv
  have hx := B.exec
  have hb := B.bytes
  have hr := B.returns
  have hts := atoms_spec (ws := wsX5_firstFault) B.pre
  have hown : s.vm.findClass RX5 = some m.cls := findClass_of_methodNamed B.named
  have hlocks := B.notSynchronized
  obtain ⟨rfl, hsz, hP, hK, hD, hA, hS, hSW⟩ := zEnter hv
  subst hsz
  generalize va_A (rk Z a v) s.heap.size = A at hD hA hS hSW ⊢
  have k_18 := hts (.fieldLink RX5 18 "WarmRods$Reader" "place" "I") (List.mem_of_getElem? (i := 1) rfl)
  have iX5 : ∀ w ∈ u_ws RX5 TX5 8, w ∈ wsX5_firstFault := fun _ h => List.mem_cons_of_mem _ (List.mem_append_left _ (List.mem_append_right _ h))
  have k_12 := hts (.fieldLink RX5 12 "WarmRods$Reader" "pad" "LWarmRods$Pad;") (List.mem_of_getElem? (i := 2) rfl)
  have k_29 : (Cond.fieldLinkNest RX5 29 "WarmRods$Pad" "length" "I" "WarmRods").before (#[.ref (a 0)] : Array Value) s = true := va_Nw.use rfl (hSW.1.1 _ (List.mem_of_getElem? (i := 17) rfl))
  have iX4 : ∀ w ∈ u_ws RX4 TX4 2, w ∈ wsX5_firstFault := fun _ h => List.mem_cons_of_mem _ (List.mem_append_right _ h)
  have hP : va_P G vwCl (rk Z a v) s.heap := hP
  have hl := lv_entry ([.ref (a 0)]) (n := 2) (Nat.le_of_ble_eq_true rfl)
  rw [lg_entry_eq]
  generalize (lg_sl ([.ref (a 0)]) ++ List.replicate (2 - (lg_sl ([.ref (a 0)])).length) Slot.unset).toArray = ls at hl ⊢
  have hl : lv_has ls 2 [(0, .ref (a 0))] := hl
  refine lv_aload_n hx hb dX5_firstFault_0 rfl (lv_at hl 0 rfl) ?_
  refine zCv (S := Unit) (ws1 := fun u => rk Z a (v.1, v.2.1, 0, v.2.2.2.1, v.2.2.2.2.1, v.2.2.2.2.2.1, v.2.2.2.2.2.2.1, v.2.2.2.2.2.2.2.1, v.2.2.2.2.2.2.2.2)) (wr := []) (va_runV (As := []) (rest := []) ⟨hx, hb, hml, hown, hts⟩ (m_X5_start l G Z _ a v.1 v.2.1 v.2.2.1 v.2.2.2.1 v.2.2.2.2.1 v.2.2.2.2.2.1 v.2.2.2.2.2.2.1 v.2.2.2.2.2.2.2.1 v.2.2.2.2.2.2.2.2) (cwV 0 hts gX5_firstFault_X5_start rfl rfl rfl (by decide +kernel) ⟨Nat.le_of_ble_eq_true rfl, Nat.le_of_ble_eq_true rfl⟩) (zPreV hK hP hD hS hA hSW [0, 1, 2] rfl (by decide) 0 (ci := 5) rfl rfl rfl) rfl rfl hl.1 rfl (lv_room (Nat.le_of_ble_eq_true rfl)) dX5_firstFault_1 ⟨Nat.le_of_ble_eq_true rfl, Nat.le_of_ble_eq_true rfl⟩) hP hD hS hA [0, 1, 2] [] [0, 1, 2] rfl rfl (by decide) (by decide) (by decide) (fun _ => rfl) (fun u H locs hw1 hP hD hS => ?_)
  try dsimp only at hw1
  have hP : va_P G vwCl (rk Z a (v.1, v.2.1, 0, v.2.2.2.1, v.2.2.2.2.1, v.2.2.2.2.2.1, v.2.2.2.2.2.2.1, v.2.2.2.2.2.2.2.1, v.2.2.2.2.2.2.2.2)) H := hP
  have hD : va_D A (rk Z a (v.1, v.2.1, 0, v.2.2.2.1, v.2.2.2.2.1, v.2.2.2.2.2.1, v.2.2.2.2.2.2.1, v.2.2.2.2.2.2.2.1, v.2.2.2.2.2.2.2.2)) := hD
  refine lv_iconst (v := 0) hx hb dX5_firstFault_4 (by decide) ?_
  refine lv_istore_n (lv' := [(1, .int 0), (0, .ref (a 0))]) hx hb dX5_firstFault_5 rfl hl (by decide) rfl (fun ls hl => ?_)
  refine zLoop (σ := Nat × RV) (nL := 2) (fun zx => rk Z a zx.2) (fun zx => [(1, .int (nI zx.1)), (0, .ref (a 0))]) (fun zx => rFa (80 - zx.1) zx.2 = rFa 80 (rAt v 0) ∧ zx.1 ≤ 80 ∧ (zx.2).2.2.1 ≤ 80 ∧ (zx.2).2.1 = v.2.1) (fun zx => 80 - zx.1) ?_ (0, (rAt v 0)) (by
      try dsimp only
      exact ⟨rfl, by omega, Nat.zero_le _, rfl⟩) hP hD hS (lv_sub hl [0, 1] rfl)
  intro zx hinv6 ih6 H locs ls hP hD hS hl
  obtain ⟨k, w⟩ := zx
  try dsimp only at hinv6 ih6
  have hP : va_P G vwCl (rk Z a w) H := hP
  have hD : va_D A (rk Z a w) := hD
  have hl : lv_has ls 2 [(1, .int (nI k)), (0, .ref (a 0))] := hl
  refine lv_iload_n hx hb dX5_firstFault_6 rfl (lv_at hl 0 rfl) ?_
  refine lv_bipush (v := 80) hx hb dX5_firstFault_7 (by decide) ?_
  refine lv_icmp_ge (tgt := 61) hx hb dX5_firstFault_9 (by decide) (fun c9 => ?_) (fun c9 => ?_)
  · refine lv_aload_n hx hb dX5_firstFault_61 rfl (lv_at hl 1 rfl) ?_
    refine va_get (D := G) (ci := 5) (v := .int (nI w.2.2.1)) (C := RX5) (T := TX5) (N := 8) hx hb hts iX5 hown hK hP 0 rfl rfl 1 (by decide) k_18 (fun _ h9 => h9) rfl dX5_firstFault_62 ?_
    exact W.iret hx hb hr (zEi w (by
        have hk := zLe (a := 80) c9 (by omega) (by omega)
        rw [← hinv6.1, show 80 - k = 0 by omega]
        exact ⟨rfl, rfl⟩) hP hD hS) hS.2.2 dX5_firstFault_65
  · have hk := zNle (a := 80) c9 (by omega) (by omega)
    rw [show 80 - k = (79 - k) + 1 by omega, rFa] at hinv6
    refine lv_aload_n hx hb dX5_firstFault_12 rfl (lv_at hl 1 rfl) ?_
    refine zCi (S := RV) (ws1 := fun u => rk Z a u) (wr := []) (va_runV (As := []) (rest := []) ⟨hx, hb, hml, hown, hts⟩ (m_X5_readOrder l G Z _ a w (by
        exact hinv6.2.2.1) (by
        rw [hinv6.2.2.2]; exact hle)) (cwV 0 hts gX5_firstFault_X5_readOrder rfl rfl rfl (by decide +kernel) ⟨Nat.le_of_ble_eq_true rfl, Nat.le_of_ble_eq_true rfl⟩) (zPreV hK hP hD hS hA hSW [0, 1, 2] rfl (by decide) 0 (ci := 5) rfl rfl rfl) rfl rfl hl.1 rfl (lv_room (Nat.le_of_ble_eq_true rfl)) dX5_firstFault_13 ⟨Nat.le_of_ble_eq_true rfl, Nat.le_of_ble_eq_true rfl⟩) hP hD hS hA [0, 1, 2] [] [0, 1, 2] rfl rfl (by decide) (by decide) (by decide) (fun _ => rfl) (fun r13 u H locs hw13 hP hD hS => ?_)
    obtain ⟨v1_13, rfl⟩ : ∃ z, z = u := ⟨_, rfl⟩
    try dsimp only at hw13
    obtain ⟨rfl, rfl⟩ := hw13
    have hP : va_P G vwCl (rk Z a ((rOrd w).2)) H := hP
    have hD : va_D A (rk Z a ((rOrd w).2)) := hD
    refine lv_if_ne (tgt := 24) hx hb dX5_firstFault_16 (by decide) (fun c16 => ?_) (fun c16 => ?_)
    · refine lv_aload_n hx hb dX5_firstFault_24 rfl (lv_at hl 1 rfl) ?_
      refine va_get (D := G) (ci := 5) (v := .int (nI (((rOrd w).2).2.2.1))) (C := RX5) (T := TX5) (N := 8) hx hb hts iX5 hown hK hP 0 rfl rfl 1 (by decide) k_18 (fun _ h9 => h9) rfl dX5_firstFault_25 ?_
      refine lv_aload_n hx hb dX5_firstFault_28 rfl (lv_at hl 1 rfl) ?_
      refine va_get (D := G) (ci := 5) (v := .ref (a 1)) (C := RX5) (T := TX5) (N := 8) hx hb hts iX5 hown hK hP 0 rfl rfl 0 (by decide) k_12 (fun _ h9 => h9) rfl dX5_firstFault_29 ?_
      refine va_getN (D := G) (ci := 4) (v := .int (nI (((rOrd w).2).2.1))) (C := RX4) (T := TX4) (N := 2) hx hb hts iX4 hown hK hP 1 rfl rfl 1 (by decide) k_29 (fun _ h9 => h9) rfl dX5_firstFault_32 ?_
      refine lv_icmp_ne (tgt := 41) hx hb dX5_firstFault_35 (by decide) (fun c35 => ?_) (fun c35 => ?_)
      · refine lv_aload_n hx hb dX5_firstFault_41 rfl (lv_at hl 1 rfl) ?_
        refine lv_bipush (v := 59) hx hb dX5_firstFault_42 (by decide) ?_
        refine zCi (S := Nat) (ws1 := fun u => rk Z a ((((rOrd w).2).1), (((rOrd w).2).2.1), u, (((rOrd w).2).2.2.2.1), (((rOrd w).2).2.2.2.2.1), (((rOrd w).2).2.2.2.2.2.1), (((rOrd w).2).2.2.2.2.2.2.1), (((rOrd w).2).2.2.2.2.2.2.2.1), (((rOrd w).2).2.2.2.2.2.2.2.2))) (wr := []) (va_runV (As := [.int 59]) (rest := []) ⟨hx, hb, hml, hown, hts⟩ (m_X5_readSign l G Z _ a (((rOrd w).2).1) (((rOrd w).2).2.1) (((rOrd w).2).2.2.1) (((rOrd w).2).2.2.2.1) (((rOrd w).2).2.2.2.2.1) (((rOrd w).2).2.2.2.2.2.1) (((rOrd w).2).2.2.2.2.2.2.1) (((rOrd w).2).2.2.2.2.2.2.2.1) (((rOrd w).2).2.2.2.2.2.2.2.2) 59 (by
            exact rOrd_le hinv6.2.2.1) (by
            rw [rOrd_len, hinv6.2.2.2]; exact hle)) (cwV 1 hts gX5_firstFault_X5_readSign rfl rfl rfl (by decide +kernel) ⟨Nat.le_of_ble_eq_true rfl, Nat.le_of_ble_eq_true rfl⟩) (zPreV hK hP hD hS hA hSW [0, 1, 2] rfl (by decide) 0 (ci := 5) rfl rfl rfl) rfl rfl hl.1 rfl (lv_room (Nat.le_of_ble_eq_true rfl)) dX5_firstFault_44 ⟨Nat.le_of_ble_eq_true rfl, Nat.le_of_ble_eq_true rfl⟩) hP hD hS hA [0, 1, 2] [] [0, 1, 2] rfl rfl (by decide) (by decide) (by decide) (fun _ => rfl) (fun r44 u H locs hw44 hP hD hS => ?_)
        obtain ⟨p1_44, rfl⟩ : ∃ z, z = u := ⟨_, rfl⟩
        try dsimp only at hw44
        obtain ⟨rfl, rfl⟩ := hw44
        have hP : va_P G vwCl (rk Z a ((((rOrd w).2).1), (((rOrd w).2).2.1), (rSgP (((rOrd w).2).1) (((rOrd w).2).2.1) (((rOrd w).2).2.2.1) 59), (((rOrd w).2).2.2.2.1), (((rOrd w).2).2.2.2.2.1), (((rOrd w).2).2.2.2.2.2.1), (((rOrd w).2).2.2.2.2.2.2.1), (((rOrd w).2).2.2.2.2.2.2.2.1), (((rOrd w).2).2.2.2.2.2.2.2.2))) H := hP
        have hD : va_D A (rk Z a ((((rOrd w).2).1), (((rOrd w).2).2.1), (rSgP (((rOrd w).2).1) (((rOrd w).2).2.1) (((rOrd w).2).2.2.1) 59), (((rOrd w).2).2.2.2.1), (((rOrd w).2).2.2.2.2.1), (((rOrd w).2).2.2.2.2.2.1), (((rOrd w).2).2.2.2.2.2.2.1), (((rOrd w).2).2.2.2.2.2.2.2.1), (((rOrd w).2).2.2.2.2.2.2.2.2))) := hD
        refine lv_if_ne (tgt := 55) hx hb dX5_firstFault_47 (by decide) (fun c47 => ?_) (fun c47 => ?_)
        · refine lv_iinc (v := (nI (k + 1))) (lv' := [(1, .int (nI (k + 1))), (0, .ref (a 0))]) hx hb dX5_firstFault_55 hl (k := 0) rfl (nI_succ k).symm (by decide) rfl (fun ls hl => ?_)
          refine lv_goto (tgt := 6) hx hb dX5_firstFault_58 (by decide) ?_
          exact ih6 ((k + 1), (rAt (rOrd w).2 (rSgP (rOrd w).2.1 (rOrd w).2.2.1 (rOrd w).2.2.2.1 59))) (by
              try dsimp only
              rw [if_neg c16, if_neg c35, if_neg c47] at hinv6
              refine ⟨(by rw [show 80 - (k + 1) = 79 - k by omega]; exact hinv6.1), by omega, rSgP_le (by decide) (rOrd_le hinv6.2.2.1), ?_⟩
              rw [rOrd_len]
              exact hinv6.2.2.2) (by
              try dsimp only
              omega) _ _ _ hP hD hS (lv_sub hl [0, 1] rfl)
        · refine lv_aload_n hx hb dX5_firstFault_50 rfl (lv_at hl 1 rfl) ?_
          refine va_get (D := G) (ci := 5) (v := .int (nI (rSgP (((rOrd w).2).1) (((rOrd w).2).2.1) (((rOrd w).2).2.2.1) 59))) (C := RX5) (T := TX5) (N := 8) hx hb hts iX5 hown hK hP 0 rfl rfl 1 (by decide) k_18 (fun _ h9 => h9) rfl dX5_firstFault_51 ?_
          exact W.iret hx hb hr (zEi ((((rOrd w).2).1), (((rOrd w).2).2.1), (rSgP (((rOrd w).2).1) (((rOrd w).2).2.1) (((rOrd w).2).2.2.1) 59), (((rOrd w).2).2.2.2.1), (((rOrd w).2).2.2.2.2.1), (((rOrd w).2).2.2.2.2.2.1), (((rOrd w).2).2.2.2.2.2.2.1), (((rOrd w).2).2.2.2.2.2.2.2.1), (((rOrd w).2).2.2.2.2.2.2.2.2)) (by
              rw [← hinv6.1, if_neg c16, if_neg c35, if_pos c47]
              exact ⟨rfl, rfl⟩) hP hD hS) hS.2.2 dX5_firstFault_54
      · refine lv_bipush (v := (-6)) hx hb dX5_firstFault_38 (by decide) ?_
        exact W.iret hx hb hr (zEi ((rOrd w).2) (by
            rw [← hinv6.1, if_neg c16, if_pos c35]
            exact ⟨rfl, rfl⟩) hP hD hS) hS.2.2 dX5_firstFault_40
    · refine lv_aload_n hx hb dX5_firstFault_19 rfl (lv_at hl 1 rfl) ?_
      refine va_get (D := G) (ci := 5) (v := .int (nI (((rOrd w).2).2.2.1))) (C := RX5) (T := TX5) (N := 8) hx hb hts iX5 hown hK hP 0 rfl rfl 1 (by decide) k_18 (fun _ h9 => h9) rfl dX5_firstFault_20 ?_
      exact W.iret hx hb hr (zEi ((rOrd w).2) (by
          rw [← hinv6.1, if_pos c16]
          exact ⟨rfl, rfl⟩) hP hD hS) hS.2.2 dX5_firstFault_23

set_option maxHeartbeats 4000000 in
set_option maxRecDepth 100000 in
theorem m_X5_init (l : Launch) (G : va_G) (Z : Nat → ClassId) (sz : Nat) (h : Nat) (nu : Int32) (od : Int32) (va : Int32) (ai : Int32) (rd : Int32) (hh : Int32)  : Met l yX5_init wsX5_init ({ frames := 2, cells := 2, slots := 82, locals := 32 }) (va_Pc [.ref h] (zWP G Z sz ([(h, .inr (5, [.null, .int 0, .int nu, .int od, .int va, .int ai, .int rd, .int hh]))]))) (va_Qv (fun (u : Nat × Nat) => True) (fun (u : Nat × Nat) t => zB G (va_A ([(h, .inr (5, [.null, .int 0, .int nu, .int od, .int va, .int ai, .int rd, .int hh]))]) sz) ([(h, .inr (5, [.ref u.1, .int 0, .int nu, .int od, .int va, .int ai, .int rd, .int hh])), (u.1, .inr (4, [.ref u.2, .int 0])), (u.2, .inl (Z 1, 80, .inl (fun _ => 0)))]) t) (va_A ([(h, .inr (5, [.null, .int 0, .int nu, .int od, .int va, .int ai, .int rd, .int hh]))]) sz)) 2 82 (va_A ([(h, .inr (5, [.null, .int 0, .int nu, .int od, .int va, .int ai, .int rd, .int hh]))]) sz) := by
  refine Met.ofW (cc := cX5_init) (maxL := 1) (ret := none) (by decide) rfl ?_
  intro p e s m args below meth c s₁ B hml hv
  have hx := B.exec
  have hb := B.bytes
  have hr := B.returns
  have hts := atoms_spec (ws := wsX5_init) B.pre
  have hown : s.vm.findClass RX5 = some m.cls := findClass_of_methodNamed B.named
  have hlocks := B.notSynchronized
  have hin : meth.name = "<init>" := (name_of_methodNamed B.named B.method).1
  obtain ⟨rfl, hsz, hP, hK, hD, hA, hS, hSW⟩ := zEnter hv
  subst hsz
  generalize va_A ([(h, .inr (5, [.null, .int 0, .int nu, .int od, .int va, .int ai, .int rd, .int hh]))]) s.heap.size = A at hD hA hS hSW ⊢
  have k_3 := hts (.methodLink RX5 3 objectInit) (List.mem_of_getElem? (i := 1) rfl)
  have kio := hts (.instanceMethod objectInit) (List.mem_of_getElem? (i := 2) rfl)
  have kco := hts (.code objectInit ⟨#[0xb1]⟩ 1 none) (List.mem_of_getElem? (i := 3) rfl)
  have k_9 := hts (.classLink RX5 9 RX4) (List.mem_of_getElem? (i := 4) rfl)
  have kin_X4 := hts (.instantiable RX4 2) (List.mem_of_getElem? (i := 5) rfl)
  have kini_X4 := hts (.initialized RX4) (List.mem_of_getElem? (i := 6) rfl)
  have iX4 : ∀ w ∈ u_ws RX4 TX4 2, w ∈ wsX5_init := fun _ h => List.mem_cons_of_mem _ (List.mem_append_left _ (List.mem_append_right _ h))
  have kins_X4_init := hts (.instanceMethod yX4_init) (List.mem_of_getElem? (i := 8) rfl)
  have k_12 := hts (.fieldLink RX5 12 "WarmRods$Reader" "pad" "LWarmRods$Pad;") (List.mem_of_getElem? (i := 7) rfl)
  have iX5 : ∀ w ∈ u_ws RX5 TX5 8, w ∈ wsX5_init := fun _ h => List.mem_cons_of_mem _ (List.mem_append_right _ h)
  have hP : va_P G vwCl ([(h, .inr (5, [.null, .int 0, .int nu, .int od, .int va, .int ai, .int rd, .int hh]))]) s.heap := hP
  have hl := lv_entry ([.ref h]) (n := 1) (Nat.le_of_ble_eq_true rfl)
  rw [lg_entry_eq]
  generalize (lg_sl ([.ref h]) ++ List.replicate (1 - (lg_sl ([.ref h])).length) Slot.unset).toArray = ls at hl ⊢
  have hl : lv_has ls 1 [(0, .ref h)] := hl
  refine lv_aload_n hx hb dX5_init_0 rfl (lv_at hl 0 rfl) ?_
  refine W.objInit hx hb hown k_3 kio kco rfl (by rw [hml]; exact hl.1) rfl dX5_init_1 (Nat.le_of_ble_eq_true rfl) (Nat.le_of_ble_eq_true rfl) ?_
  refine W.eq (g2 := F0 m 4 ls []) rfl ?_
  refine lv_aload_n hx hb dX5_init_4 rfl (lv_at hl 0 rfl) ?_
  refine va_new (ci := 4) (fs := [.null, .int 0]) (C := RX4) (T := TX4) (N := 2) hx hb hts iX4 tyX4 tyX4_ok hown k_9 kin_X4 kini_X4 hK hP hD hS hA rfl (fun j hj => by rcases (show j = 0 ∨ j = 1 by omega) with rfl | rfl <;> rfl) (Nat.le_of_ble_eq_true rfl) (Nat.le_of_ble_eq_true rfl) dX5_init_5 (fun q5 H hP hD hS => ?_)
  have hP : va_P G vwCl ([(h, .inr (5, [.null, .int 0, .int nu, .int od, .int va, .int ai, .int rd, .int hh])), (q5, .inr (4, [.null, .int 0]))]) H := hP
  have hD : va_D A ([(h, .inr (5, [.null, .int 0, .int nu, .int od, .int va, .int ai, .int rd, .int hh])), (q5, .inr (4, [.null, .int 0]))]) := hD
  refine lv_dup hx hb dX5_init_8 rfl ?_
  refine zCv (S := Nat) (ws1 := fun u => [(h, .inr (5, [.null, .int 0, .int nu, .int od, .int va, .int ai, .int rd, .int hh])), (q5, .inr (4, [.ref u, .int 0])), (u, .inl (Z 1, 80, .inl (fun _ => 0)))]) (wr := [(h, .inr (5, [.null, .int 0, .int nu, .int od, .int va, .int ai, .int rd, .int hh]))]) (va_runIN (As := []) (rest := [.ref q5, .ref h]) ⟨hx, hb, hml, hown, hts⟩ (m_X4_init l G Z _ q5) (⟨va_cnB 0 hts ggX5_init_X4_init rfl rfl rfl (hSW.1.1 (.methodLinkNest RX5 11 yX4_init "WarmRods") (List.mem_of_getElem? (i := 16) rfl)) kini_X4 (by decide +kernel) ⟨Nat.le_of_ble_eq_true rfl, Nat.le_of_ble_eq_true rfl⟩, rfl, kins_X4_init⟩) (zPreS hK hP hD hS hA hSW [1] rfl (by decide)) rfl rfl hl.1 rfl (lv_room (Nat.le_of_ble_eq_true rfl)) dX5_init_9 ⟨Nat.le_of_ble_eq_true rfl, Nat.le_of_ble_eq_true rfl⟩) hP hD hS hA [1] [0] [0, 1, 2] rfl rfl (by decide) (by decide) (by decide) (fun _ => rfl) (fun u H locs hw9 hP hD hS => ?_)
  obtain ⟨q_9, rfl⟩ : ∃ z, z = u := ⟨_, rfl⟩
  try dsimp only at hw9
  have hP : va_P G vwCl ([(h, .inr (5, [.null, .int 0, .int nu, .int od, .int va, .int ai, .int rd, .int hh])), (q5, .inr (4, [.ref q_9, .int 0])), (q_9, .inl (Z 1, 80, .inl (fun _ => 0)))]) H := hP
  have hD : va_D A ([(h, .inr (5, [.null, .int 0, .int nu, .int od, .int va, .int ai, .int rd, .int hh])), (q5, .inr (4, [.ref q_9, .int 0])), (q_9, .inl (Z 1, 80, .inl (fun _ => 0)))]) := hD
  refine va_putF (D := G) (ci := 5) (v := .ref q5) (ty := .object "WarmRods$Pad") (C := RX5) (T := TX5) (N := 8) hx hb hts iX5 tyX5 tyX5_ok nmX5 hown hK hP hD hS 0 rfl rfl 0 (by decide) k_12 (fun _ h9 => h9) rfl hin rfl (by decide +kernel) rfl rfl (Nat.le_of_ble_eq_true rfl) dX5_init_12 (fun H locs hP hD hS => ?_)
  have hP : va_P G vwCl ([(h, .inr (5, [.ref q5, .int 0, .int nu, .int od, .int va, .int ai, .int rd, .int hh])), (q5, .inr (4, [.ref q_9, .int 0])), (q_9, .inl (Z 1, 80, .inl (fun _ => 0)))]) H := hP
  have hD : va_D A ([(h, .inr (5, [.ref q5, .int 0, .int nu, .int od, .int va, .int ai, .int rd, .int hh])), (q5, .inr (4, [.ref q_9, .int 0])), (q_9, .inl (Z 1, 80, .inl (fun _ => 0)))]) := hD
  refine W.widen (k := 2) (n := 82) (by omega) (by omega) ?_
  exact W.vret hx hb hr (zEv (q5, q_9) (by
      trivial) hP hD hS) hS.2.2 dX5_init_15
