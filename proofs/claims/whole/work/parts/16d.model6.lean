set_option maxHeartbeats 4000000 in
set_option maxRecDepth 100000 in
theorem m_X8_readsOrder0 (l : Launch) (G : va_G) (Z : Nat → ClassId) (sz : Nat) (b : Nat → Nat) (al : Nat → Int32) (ke : Nat → Int32) (hs : Nat → Int32) (hq : Nat) (sl : Nat → Int32) (sa : Nat → Int32) (off : Int32) (car : Int32) (pa : Nat → Int32) (pq : Nat) (sp : Nat) (nu : Int32) (er : Int32) (hsp : sp ≤ 80) (hpq : pq ≤ 80) : Met l yX8_readsOrder wsX8_readsOrder ({ frames := 5, cells := 0, slots := 0, locals := 114 }) (va_Pc [.ref (b 0)] (zWP G Z sz (mk Z b (al, ke, hs, hq, sl, sa, off, car, pa, pq, sp, nu, 0, er)))) (va_Qi (fun (r : Int32) (u : Nat × Int32) => r = (rOrd (wOf pa pq sp)).1 ∧ u.1 = (rOrd (wOf pa pq sp)).2.2.2.1) (fun (u : Nat × Int32) t => zB G (va_A (mk Z b (al, ke, hs, hq, sl, sa, off, car, pa, pq, sp, nu, 0, er)) sz) (mk Z b (al, ke, hs, hq, sl, sa, off, car, pa, pq, u.1, u.2, 0, er)) t) (va_A (mk Z b (al, ke, hs, hq, sl, sa, off, car, pa, pq, sp, nu, 0, er)) sz)) 0 0 (va_A (mk Z b (al, ke, hs, hq, sl, sa, off, car, pa, pq, sp, nu, 0, er)) sz) := by
  refine Met.ofW (cc := cX8_readsOrder) (maxL := 1) (ret := (some .boolean)) (by decide) rfl ?_
  intro p e s m args below meth c s₁ B hml hv
  have hx := B.exec
  have hb := B.bytes
  have hr := B.returns
  have hts := atoms_spec (ws := wsX8_readsOrder) B.pre
  have hown : s.vm.findClass RX8 = some m.cls := findClass_of_methodNamed B.named
  have hlocks := B.notSynchronized
  obtain ⟨rfl, hsz, hP, hK, hD, hA, hS, hSW⟩ := zEnter hv
  subst hsz
  generalize va_A (mk Z b (al, ke, hs, hq, sl, sa, off, car, pa, pq, sp, nu, 0, er)) s.heap.size = A at hD hA hS hSW ⊢
  have k_181 := hts (.fieldLink RX8 181 "WarmRodsModel" "isDone" "Z") (List.mem_of_getElem? (i := 1) rfl)
  have iX8 : ∀ w ∈ u_ws RX8 TX8 14, w ∈ wsX8_readsOrder := fun _ h => List.mem_cons_of_mem _ (List.mem_append_right _ h)
  have k_160 := hts (.fieldLink RX8 160 "WarmRodsModel" "spot" "I") (List.mem_of_getElem? (i := 3) rfl)
  have hP : va_P G vwCl (mk Z b (al, ke, hs, hq, sl, sa, off, car, pa, pq, sp, nu, 0, er)) s.heap := hP
  have hl := lv_entry ([.ref (b 0)]) (n := 1) (Nat.le_of_ble_eq_true rfl)
  rw [lg_entry_eq]
  generalize (lg_sl ([.ref (b 0)]) ++ List.replicate (1 - (lg_sl ([.ref (b 0)])).length) Slot.unset).toArray = ls at hl ⊢
  have hl : lv_has ls 1 [(0, .ref (b 0))] := hl
  refine lv_aload_n hx hb dX8_readsOrder_0 rfl (lv_at hl 0 rfl) ?_
  refine lv_bipush (v := 122) hx hb dX8_readsOrder_1 (by decide) ?_
  refine zCi (S := Nat) (ws1 := fun u => mk Z b (al, ke, hs, hq, sl, sa, off, car, pa, pq, u, nu, 0, er)) (wr := []) (va_runV (As := [.int 122]) (rest := []) ⟨hx, hb, hml, hown, hts⟩ (m_X8_takes l G Z _ b al ke hs hq sl sa off car pa pq sp nu 0 er 122 (by
      exact hsp) (by
      exact hpq) (by
      decide)) (cwV 1 hts gX8_readsOrder_X8_takes rfl rfl rfl (by decide +kernel) ⟨Nat.le_of_ble_eq_true rfl, Nat.le_of_ble_eq_true rfl⟩) (zPreV hK hP hD hS hA hSW [0, 1, 2, 3, 4, 5, 6] rfl (by decide) 0 (ci := 8) rfl rfl rfl) rfl rfl hl.1 rfl (lv_room (Nat.le_of_ble_eq_true rfl)) dX8_readsOrder_3 ⟨Nat.le_of_ble_eq_true rfl, Nat.le_of_ble_eq_true rfl⟩) hP hD hS hA [0, 1, 2, 3, 4, 5, 6] [] [0, 1, 2, 3, 4, 5, 6] rfl rfl (by decide) (by decide) (by decide) (fun _ => rfl) (fun r3 u H locs hw3 hP hD hS => ?_)
  obtain ⟨sp1_3, rfl⟩ : ∃ z, z = u := ⟨_, rfl⟩
  try dsimp only at hw3
  obtain ⟨rfl, e_sp1_3⟩ := hw3
  have hP : va_P G vwCl (mk Z b (al, ke, hs, hq, sl, sa, off, car, pa, pq, sp1_3, nu, 0, er)) H := hP
  have hD : va_D A (mk Z b (al, ke, hs, hq, sl, sa, off, car, pa, pq, sp1_3, nu, 0, er)) := hD
  refine lv_if_eq (tgt := 26) hx hb dX8_readsOrder_6 (by decide) (fun c6 => ?_) (fun c6 => ?_)
  · have q_sp1_3 : sp1_3 = sp := by rw [e_sp1_3]; exact rSgP_0 (rSgR_0 c6)
    rw [q_sp1_3] at hP hD
    refine lv_aload_n hx hb dX8_readsOrder_26 rfl (lv_at hl 0 rfl) ?_
    refine lv_bipush (v := 119) hx hb dX8_readsOrder_27 (by decide) ?_
    refine zCi (S := Nat) (ws1 := fun u => mk Z b (al, ke, hs, hq, sl, sa, off, car, pa, pq, u, nu, 0, er)) (wr := []) (va_runV (As := [.int 119]) (rest := []) ⟨hx, hb, hml, hown, hts⟩ (m_X8_takes l G Z _ b al ke hs hq sl sa off car pa pq sp nu 0 er 119 (by
        exact hsp) (by
        exact hpq) (by
        decide)) (cwV 1 hts gX8_readsOrder_X8_takes rfl rfl rfl (by decide +kernel) ⟨Nat.le_of_ble_eq_true rfl, Nat.le_of_ble_eq_true rfl⟩) (zPreV hK hP hD hS hA hSW [0, 1, 2, 3, 4, 5, 6] rfl (by decide) 0 (ci := 8) rfl rfl rfl) rfl rfl hl.1 rfl (lv_room (Nat.le_of_ble_eq_true rfl)) dX8_readsOrder_29 ⟨Nat.le_of_ble_eq_true rfl, Nat.le_of_ble_eq_true rfl⟩) hP hD hS hA [0, 1, 2, 3, 4, 5, 6] [] [0, 1, 2, 3, 4, 5, 6] rfl rfl (by decide) (by decide) (by decide) (fun _ => rfl) (fun r29 u H locs hw29 hP hD hS => ?_)
    obtain ⟨sp1_29, rfl⟩ : ∃ z, z = u := ⟨_, rfl⟩
    try dsimp only at hw29
    obtain ⟨rfl, e_sp1_29⟩ := hw29
    have hP : va_P G vwCl (mk Z b (al, ke, hs, hq, sl, sa, off, car, pa, pq, sp1_29, nu, 0, er)) H := hP
    have hD : va_D A (mk Z b (al, ke, hs, hq, sl, sa, off, car, pa, pq, sp1_29, nu, 0, er)) := hD
    refine lv_if_eq (tgt := 87) hx hb dX8_readsOrder_32 (by decide) (fun c32 => ?_) (fun c32 => ?_)
    · have q_sp1_29 : sp1_29 = sp := by rw [e_sp1_29]; exact rSgP_0 (rSgR_0 c32)
      rw [q_sp1_29] at hP hD
      refine lv_aload_n hx hb dX8_readsOrder_87 rfl (lv_at hl 0 rfl) ?_
      refine lv_bipush (v := 98) hx hb dX8_readsOrder_88 (by decide) ?_
      refine zCi (S := Nat) (ws1 := fun u => mk Z b (al, ke, hs, hq, sl, sa, off, car, pa, pq, u, nu, 0, er)) (wr := []) (va_runV (As := [.int 98]) (rest := []) ⟨hx, hb, hml, hown, hts⟩ (m_X8_takes l G Z _ b al ke hs hq sl sa off car pa pq sp nu 0 er 98 (by
          exact hsp) (by
          exact hpq) (by
          decide)) (cwV 1 hts gX8_readsOrder_X8_takes rfl rfl rfl (by decide +kernel) ⟨Nat.le_of_ble_eq_true rfl, Nat.le_of_ble_eq_true rfl⟩) (zPreV hK hP hD hS hA hSW [0, 1, 2, 3, 4, 5, 6] rfl (by decide) 0 (ci := 8) rfl rfl rfl) rfl rfl hl.1 rfl (lv_room (Nat.le_of_ble_eq_true rfl)) dX8_readsOrder_90 ⟨Nat.le_of_ble_eq_true rfl, Nat.le_of_ble_eq_true rfl⟩) hP hD hS hA [0, 1, 2, 3, 4, 5, 6] [] [0, 1, 2, 3, 4, 5, 6] rfl rfl (by decide) (by decide) (by decide) (fun _ => rfl) (fun r90 u H locs hw90 hP hD hS => ?_)
      obtain ⟨sp1_90, rfl⟩ : ∃ z, z = u := ⟨_, rfl⟩
      try dsimp only at hw90
      obtain ⟨rfl, e_sp1_90⟩ := hw90
      have hP : va_P G vwCl (mk Z b (al, ke, hs, hq, sl, sa, off, car, pa, pq, sp1_90, nu, 0, er)) H := hP
      have hD : va_D A (mk Z b (al, ke, hs, hq, sl, sa, off, car, pa, pq, sp1_90, nu, 0, er)) := hD
      refine lv_if_eq (tgt := 127) hx hb dX8_readsOrder_93 (by decide) (fun c93 => ?_) (fun c93 => ?_)
      · have q_sp1_90 : sp1_90 = sp := by rw [e_sp1_90]; exact rSgP_0 (rSgR_0 c93)
        rw [q_sp1_90] at hP hD
        refine lv_aload_n hx hb dX8_readsOrder_127 rfl (lv_at hl 0 rfl) ?_
        refine lv_bipush (v := 104) hx hb dX8_readsOrder_128 (by decide) ?_
        refine zCi (S := Nat) (ws1 := fun u => mk Z b (al, ke, hs, hq, sl, sa, off, car, pa, pq, u, nu, 0, er)) (wr := []) (va_runV (As := [.int 104]) (rest := []) ⟨hx, hb, hml, hown, hts⟩ (m_X8_takes l G Z _ b al ke hs hq sl sa off car pa pq sp nu 0 er 104 (by
            exact hsp) (by
            exact hpq) (by
            decide)) (cwV 1 hts gX8_readsOrder_X8_takes rfl rfl rfl (by decide +kernel) ⟨Nat.le_of_ble_eq_true rfl, Nat.le_of_ble_eq_true rfl⟩) (zPreV hK hP hD hS hA hSW [0, 1, 2, 3, 4, 5, 6] rfl (by decide) 0 (ci := 8) rfl rfl rfl) rfl rfl hl.1 rfl (lv_room (Nat.le_of_ble_eq_true rfl)) dX8_readsOrder_130 ⟨Nat.le_of_ble_eq_true rfl, Nat.le_of_ble_eq_true rfl⟩) hP hD hS hA [0, 1, 2, 3, 4, 5, 6] [] [0, 1, 2, 3, 4, 5, 6] rfl rfl (by decide) (by decide) (by decide) (fun _ => rfl) (fun r130 u H locs hw130 hP hD hS => ?_)
        obtain ⟨sp1_130, rfl⟩ : ∃ z, z = u := ⟨_, rfl⟩
        try dsimp only at hw130
        obtain ⟨rfl, e_sp1_130⟩ := hw130
        have hP : va_P G vwCl (mk Z b (al, ke, hs, hq, sl, sa, off, car, pa, pq, sp1_130, nu, 0, er)) H := hP
        have hD : va_D A (mk Z b (al, ke, hs, hq, sl, sa, off, car, pa, pq, sp1_130, nu, 0, er)) := hD
        refine lv_if_eq (tgt := 147) hx hb dX8_readsOrder_133 (by decide) (fun c133 => ?_) (fun c133 => ?_)
        · refine lv_iconst (v := 0) hx hb dX8_readsOrder_147 (by decide) ?_
          exact W.zret hx hb hr (rfl) (zEi (sp1_130, nu) (by
              have q_l : sp1_130 = sp := by rw [e_sp1_130]; exact rSgP_0 (rSgR_0 c133)
              rw [rOrd_no (rSgR_0 c93) (rSgR_0 c133) (rSgR_0 c32) (rSgR_0 c6), q_l]
              exact ⟨rfl, rfl⟩) hP hD hS) hS.2.2 dX8_readsOrder_148
        · have h104 := rSgR_1 c133
          have q_sp1_130 : sp1_130 = sp + 1 := by rw [e_sp1_130]; exact rSgP_1 h104
          rw [q_sp1_130] at hP hD
          have hb104 : sp + 1 ≤ 80 := by
            have := (pSign_in (si := pa) (le := pq) (p := sp) (by rw [h104]; decide)).2
            omega
          refine lv_aload_n hx hb dX8_readsOrder_136 rfl (lv_at hl 0 rfl) ?_
          refine zCi (S := Nat × Int32) (ws1 := fun u => mk Z b (al, ke, hs, hq, sl, sa, off, car, pa, pq, u.1, u.2, 0, er)) (wr := []) (va_runV (As := []) (rest := []) ⟨hx, hb, hml, hown, hts⟩ (m_X8_readsHours0 l G Z _ b al ke hs hq sl sa off car pa pq (sp + 1) nu er (by
              exact hb104) (by
              exact hpq)) (cwV 0 hts gX8_readsOrder_X8_readsHours rfl rfl rfl (by decide +kernel) ⟨Nat.le_of_ble_eq_true rfl, Nat.le_of_ble_eq_true rfl⟩) (zPreV hK hP hD hS hA hSW [0, 1, 2, 3, 4, 5, 6] rfl (by decide) 0 (ci := 8) rfl rfl rfl) rfl rfl hl.1 rfl (lv_room (Nat.le_of_ble_eq_true rfl)) dX8_readsOrder_137 ⟨Nat.le_of_ble_eq_true rfl, Nat.le_of_ble_eq_true rfl⟩) hP hD hS hA [0, 1, 2, 3, 4, 5, 6] [] [0, 1, 2, 3, 4, 5, 6] rfl rfl (by decide) (by decide) (by decide) (fun _ => rfl) (fun r137 u H locs hw137 hP hD hS => ?_)
          obtain ⟨sp1_137, nu1_137⟩ := u
          try dsimp only at hw137
          obtain ⟨rfl, e_sp1_137⟩ := hw137
          have hP : va_P G vwCl (mk Z b (al, ke, hs, hq, sl, sa, off, car, pa, pq, sp1_137, nu1_137, 0, er)) H := hP
          have hD : va_D A (mk Z b (al, ke, hs, hq, sl, sa, off, car, pa, pq, sp1_137, nu1_137, 0, er)) := hD
          refine lv_if_eq (tgt := 147) hx hb dX8_readsOrder_140 (by decide) (fun c140 => ?_) (fun c140 => ?_)
          · refine lv_iconst (v := 0) hx hb dX8_readsOrder_147 (by decide) ?_
            exact W.zret hx hb hr (rfl) (zEi (sp1_137, nu1_137) (by
                rw [rOrd_104 h104, c140, e_sp1_137]
                exact ⟨rfl, rfl⟩) hP hD hS) hS.2.2 dX8_readsOrder_148
          · refine lv_iconst (v := 1) hx hb dX8_readsOrder_143 (by decide) ?_
            refine lv_goto (tgt := 148) hx hb dX8_readsOrder_144 (by decide) ?_
            exact W.zret hx hb hr (rfl) (zEi (sp1_137, nu1_137) (by
                rw [rOrd_104 h104, (rHrs_b _ _ _ _ _ _ _).resolve_left c140, e_sp1_137]
                exact ⟨rfl, rfl⟩) hP hD hS) hS.2.2 dX8_readsOrder_148
      · have h98 := rSgR_1 c93
        have q_sp1_90 : sp1_90 = sp + 1 := by rw [e_sp1_90]; exact rSgP_1 h98
        rw [q_sp1_90] at hP hD
        have hb98 : sp + 1 ≤ 80 := by
          have := (pSign_in (si := pa) (le := pq) (p := sp) (by rw [h98]; decide)).2
          omega
        refine lv_aload_n hx hb dX8_readsOrder_96 rfl (lv_at hl 0 rfl) ?_
        refine zCi (S := Nat × Int32) (ws1 := fun u => mk Z b (al, ke, hs, hq, sl, sa, off, car, pa, pq, u.1, u.2, 0, er)) (wr := []) (va_runV (As := []) (rest := []) ⟨hx, hb, hml, hown, hts⟩ (m_X8_readsValue l G Z _ b al ke hs hq sl sa off car pa pq (sp + 1) nu 0 er (by
            exact hb98) (by
            exact hpq)) (cwV 0 hts gX8_readsOrder_X8_readsValue rfl rfl rfl (by decide +kernel) ⟨Nat.le_of_ble_eq_true rfl, Nat.le_of_ble_eq_true rfl⟩) (zPreV hK hP hD hS hA hSW [0, 1, 2, 3, 4, 5, 6] rfl (by decide) 0 (ci := 8) rfl rfl rfl) rfl rfl hl.1 rfl (lv_room (Nat.le_of_ble_eq_true rfl)) dX8_readsOrder_97 ⟨Nat.le_of_ble_eq_true rfl, Nat.le_of_ble_eq_true rfl⟩) hP hD hS hA [0, 1, 2, 3, 4, 5, 6] [] [0, 1, 2, 3, 4, 5, 6] rfl rfl (by decide) (by decide) (by decide) (fun _ => rfl) (fun r97 u H locs hw97 hP hD hS => ?_)
        obtain ⟨sp1_97, nu1_97⟩ := u
        try dsimp only at hw97
        obtain ⟨rfl, e_sp1_97, e_nu1_97⟩ := hw97
        have hP : va_P G vwCl (mk Z b (al, ke, hs, hq, sl, sa, off, car, pa, pq, sp1_97, nu1_97, 0, er)) H := hP
        have hD : va_D A (mk Z b (al, ke, hs, hq, sl, sa, off, car, pa, pq, sp1_97, nu1_97, 0, er)) := hD
        refine lv_if_ne (tgt := 105) hx hb dX8_readsOrder_100 (by decide) (fun c100 => ?_) (fun c100 => ?_)
        · refine lv_aload_n hx hb dX8_readsOrder_105 rfl (lv_at hl 0 rfl) ?_
          refine va_get (D := G) (ci := 8) (v := .int 0) (C := RX8) (T := TX8) (N := 14) hx hb hts iX8 hown hK hP 0 rfl rfl 12 (by decide) k_181 (fun _ h9 => h9) rfl dX8_readsOrder_106 ?_
          refine lv_if_eq (tgt := 125) hx hb dX8_readsOrder_109 (by decide) (fun c109 => ?_) (fun c109 => (c109 rfl).elim)
          refine lv_iconst (v := 1) hx hb dX8_readsOrder_125 (by decide) ?_
          exact W.zret hx hb hr (rfl) (zEi (sp1_97, nu1_97) (by
              rw [rOrd_98 h98, (rVaR_b _ _ _).resolve_left c100, e_sp1_97]
              exact ⟨rfl, rfl⟩) hP hD hS) hS.2.2 dX8_readsOrder_126
        · refine lv_iconst (v := 0) hx hb dX8_readsOrder_103 (by decide) ?_
          exact W.zret hx hb hr (rfl) (zEi (sp1_97, nu1_97) (by
              rw [rOrd_98 h98, c100, e_sp1_97]
              exact ⟨rfl, rfl⟩) hP hD hS) hS.2.2 dX8_readsOrder_104
    · have h119 := rSgR_1 c32
      have q_sp1_29 : sp1_29 = sp + 1 := by rw [e_sp1_29]; exact rSgP_1 h119
      rw [q_sp1_29] at hP hD
      have hb119 : sp + 1 ≤ 80 := by
        have := (pSign_in (si := pa) (le := pq) (p := sp) (by rw [h119]; decide)).2
        omega
      refine lv_aload_n hx hb dX8_readsOrder_35 rfl (lv_at hl 0 rfl) ?_
      refine lv_bipush (v := 48) hx hb dX8_readsOrder_36 (by decide) ?_
      refine lv_bipush (v := 55) hx hb dX8_readsOrder_38 (by decide) ?_
      refine zCi (S := Unit) (ws1 := fun u => mk Z b (al, ke, hs, hq, sl, sa, off, car, pa, pq, (sp + 1), nu, 0, er)) (wr := []) (va_runV (As := [.int 48, .int 55]) (rest := []) ⟨hx, hb, hml, hown, hts⟩ (m_X8_isHere l G Z _ b al ke hs hq sl sa off car pa pq (sp + 1) nu 0 er 48 55 (by
          exact hb119) (by
          exact hpq) (by
          decide)) (cwV 2 hts gX8_readsOrder_X8_isHere rfl rfl rfl (by decide +kernel) ⟨Nat.le_of_ble_eq_true rfl, Nat.le_of_ble_eq_true rfl⟩) (zPreV hK hP hD hS hA hSW [0, 1, 2, 3, 4, 5, 6] rfl (by decide) 0 (ci := 8) rfl rfl rfl) rfl rfl hl.1 rfl (lv_room (Nat.le_of_ble_eq_true rfl)) dX8_readsOrder_40 ⟨Nat.le_of_ble_eq_true rfl, Nat.le_of_ble_eq_true rfl⟩) hP hD hS hA [0, 1, 2, 3, 4, 5, 6] [] [0, 1, 2, 3, 4, 5, 6] rfl rfl (by decide) (by decide) (by decide) (fun _ => rfl) (fun r40 u H locs hw40 hP hD hS => ?_)
      try dsimp only at hw40
      subst hw40
      have hP : va_P G vwCl (mk Z b (al, ke, hs, hq, sl, sa, off, car, pa, pq, (sp + 1), nu, 0, er)) H := hP
      have hD : va_D A (mk Z b (al, ke, hs, hq, sl, sa, off, car, pa, pq, (sp + 1), nu, 0, er)) := hD
      refine lv_if_ne (tgt := 48) hx hb dX8_readsOrder_43 (by decide) (fun c43 => ?_) (fun c43 => ?_)
      · refine lv_aload_n hx hb dX8_readsOrder_48 rfl (lv_at hl 0 rfl) ?_
        refine va_get (D := G) (ci := 8) (v := .int 0) (C := RX8) (T := TX8) (N := 14) hx hb hts iX8 hown hK hP 0 rfl rfl 12 (by decide) k_181 (fun _ h9 => h9) rfl dX8_readsOrder_49 ?_
        refine lv_if_eq (tgt := 75) hx hb dX8_readsOrder_52 (by decide) (fun c52 => ?_) (fun c52 => (c52 rfl).elim)
        refine lv_aload_n hx hb dX8_readsOrder_75 rfl (lv_at hl 0 rfl) ?_
        refine lv_dup hx hb dX8_readsOrder_76 rfl ?_
        refine va_get (D := G) (ci := 8) (v := .int (nI (sp + 1))) (C := RX8) (T := TX8) (N := 14) hx hb hts iX8 hown hK hP 0 rfl rfl 10 (by decide) k_160 (fun _ h9 => h9) rfl dX8_readsOrder_77 ?_
        refine lv_iconst (v := 1) hx hb dX8_readsOrder_80 (by decide) ?_
        refine lv_iadd hx hb dX8_readsOrder_81 ?_
        refine zTopI (y := (nI ((sp + 1) + 1))) (nI_succ (sp + 1)).symm ?_
        refine va_put (D := G) (ci := 8) (v := .int (nI ((sp + 1) + 1))) (ty := .int) (C := RX8) (T := TX8) (N := 14) hx hb hts iX8 tyX8 tyX8_ok nmX8 hown hK hP hD hS 0 rfl rfl 10 (by decide) k_160 (fun _ h9 => h9) rfl (by decide +kernel) rfl rfl (Nat.le_of_ble_eq_true rfl) dX8_readsOrder_82 (fun H locs hP hD hS => ?_)
        have hP : va_P G vwCl (mk Z b (al, ke, hs, hq, sl, sa, off, car, pa, pq, ((sp + 1) + 1), nu, 0, er)) H := hP
        have hD : va_D A (mk Z b (al, ke, hs, hq, sl, sa, off, car, pa, pq, ((sp + 1) + 1), nu, 0, er)) := hD
        refine lv_iconst (v := 1) hx hb dX8_readsOrder_85 (by decide) ?_
        exact W.zret hx hb hr (rfl) (zEi (((sp + 1) + 1), nu) (by
            rw [rOrd_119 h119, rWt_r c43, rWt_p (mWt_1 c43).1]
            exact ⟨rfl, rfl⟩) hP hD hS) hS.2.2 dX8_readsOrder_86
      · refine lv_iconst (v := 0) hx hb dX8_readsOrder_46 (by decide) ?_
        exact W.zret hx hb hr (rfl) (zEi ((sp + 1), nu) (by
            rw [rOrd_119 h119, mWt_0 c43, rWt_p0 (mWt_0 c43)]
            exact ⟨rfl, rfl⟩) hP hD hS) hS.2.2 dX8_readsOrder_47
  · have h122 := rSgR_1 c6
    have q_sp1_3 : sp1_3 = sp + 1 := by rw [e_sp1_3]; exact rSgP_1 h122
    rw [q_sp1_3] at hP hD
    have hb122 : sp + 1 ≤ 80 := by
      have := (pSign_in (si := pa) (le := pq) (p := sp) (by rw [h122]; decide)).2
      omega
    refine lv_aload_n hx hb dX8_readsOrder_9 rfl (lv_at hl 0 rfl) ?_
    refine va_get (D := G) (ci := 8) (v := .int 0) (C := RX8) (T := TX8) (N := 14) hx hb hts iX8 hown hK hP 0 rfl rfl 12 (by decide) k_181 (fun _ h9 => h9) rfl dX8_readsOrder_10 ?_
    refine lv_if_eq (tgt := 24) hx hb dX8_readsOrder_13 (by decide) (fun c13 => ?_) (fun c13 => (c13 rfl).elim)
    refine lv_iconst (v := 1) hx hb dX8_readsOrder_24 (by decide) ?_
    exact W.zret hx hb hr (rfl) (zEi ((sp + 1), nu) (by
        rw [rOrd_122 h122]
        exact ⟨rfl, rfl⟩) hP hD hS) hS.2.2 dX8_readsOrder_25

set_option maxHeartbeats 4000000 in
set_option maxRecDepth 100000 in
theorem m_X8_readsOrder1 (l : Launch) (G : va_G) (Z : Nat → ClassId) (sz : Nat) (b : Nat → Nat) (al : Nat → Int32) (ke : Nat → Int32) (hs : Nat → Int32) (hq : Nat) (sl : Nat → Int32) (sa : Nat → Int32) (off : Int32) (car : Int32) (pa : Nat → Int32) (pq : Nat) (sp : Nat) (nu : Int32) (er : Int32) (L : Nat) (hsp : sp ≤ 80) (hpq : pq ≤ 80) (hL : al 9 = nI L) (hL8 : L ≤ 48) (hok : ¬ (rOrd (wOf pa pq sp)).1 = 0) : Met l yX8_readsOrder wsX8_readsOrder ({ frames := 5, cells := 0, slots := 0, locals := 122 }) (va_Pc [.ref (b 0)] (zWP G Z sz (mk Z b (al, ke, hs, hq, sl, sa, off, car, pa, pq, sp, nu, 1, er)))) (va_Qi (fun (r : Int32) (u : Nat × Int32 × (Nat → Int32) × Int32 × Int32 × Int32) => r = 1 ∧ u.1 = (rOrd (wOf pa pq sp)).2.2.2.1 ∧ u.2.2.1 = mActA al L (rOrd (wOf pa pq sp)).2 ∧ u.2.2.2.1 = mActE al L (rOrd (wOf pa pq sp)).2) (fun (u : Nat × Int32 × (Nat → Int32) × Int32 × Int32 × Int32) t => zB G (va_A (mk Z b (al, ke, hs, hq, sl, sa, off, car, pa, pq, sp, nu, 1, er)) sz) (mk Z b (u.2.2.1, ke, hs, hq, sl, sa, u.2.2.2.2.1, u.2.2.2.2.2, pa, pq, u.1, u.2.1, 1, u.2.2.2.1)) t) (va_A (mk Z b (al, ke, hs, hq, sl, sa, off, car, pa, pq, sp, nu, 1, er)) sz)) 0 0 (va_A (mk Z b (al, ke, hs, hq, sl, sa, off, car, pa, pq, sp, nu, 1, er)) sz) := by
  refine Met.ofW (cc := cX8_readsOrder) (maxL := 1) (ret := (some .boolean)) (by decide) rfl ?_
  intro p e s m args below meth c s₁ B hml hv
  have hx := B.exec
  have hb := B.bytes
  have hr := B.returns
  have hts := atoms_spec (ws := wsX8_readsOrder) B.pre
  have hown : s.vm.findClass RX8 = some m.cls := findClass_of_methodNamed B.named
  have hlocks := B.notSynchronized
  obtain ⟨rfl, hsz, hP, hK, hD, hA, hS, hSW⟩ := zEnter hv
  subst hsz
  generalize va_A (mk Z b (al, ke, hs, hq, sl, sa, off, car, pa, pq, sp, nu, 1, er)) s.heap.size = A at hD hA hS hSW ⊢
  have k_181 := hts (.fieldLink RX8 181 "WarmRodsModel" "isDone" "Z") (List.mem_of_getElem? (i := 1) rfl)
  have iX8 : ∀ w ∈ u_ws RX8 TX8 14, w ∈ wsX8_readsOrder := fun _ h => List.mem_cons_of_mem _ (List.mem_append_right _ h)
  have k_166 := hts (.fieldLink RX8 166 "WarmRodsModel" "number" "I") (List.mem_of_getElem? (i := 4) rfl)
  have k_25 := hts (.fieldLink RX8 25 "WarmRodsModel" "pad" "[I") (List.mem_of_getElem? (i := 2) rfl)
  have k_160 := hts (.fieldLink RX8 160 "WarmRodsModel" "spot" "I") (List.mem_of_getElem? (i := 3) rfl)
  have hP : va_P G vwCl (mk Z b (al, ke, hs, hq, sl, sa, off, car, pa, pq, sp, nu, 1, er)) s.heap := hP
  have hl := lv_entry ([.ref (b 0)]) (n := 1) (Nat.le_of_ble_eq_true rfl)
  rw [lg_entry_eq]
  generalize (lg_sl ([.ref (b 0)]) ++ List.replicate (1 - (lg_sl ([.ref (b 0)])).length) Slot.unset).toArray = ls at hl ⊢
  have hl : lv_has ls 1 [(0, .ref (b 0))] := hl
  refine lv_aload_n hx hb dX8_readsOrder_0 rfl (lv_at hl 0 rfl) ?_
  refine lv_bipush (v := 122) hx hb dX8_readsOrder_1 (by decide) ?_
  refine zCi (S := Nat) (ws1 := fun u => mk Z b (al, ke, hs, hq, sl, sa, off, car, pa, pq, u, nu, 1, er)) (wr := []) (va_runV (As := [.int 122]) (rest := []) ⟨hx, hb, hml, hown, hts⟩ (m_X8_takes l G Z _ b al ke hs hq sl sa off car pa pq sp nu 1 er 122 (by
      exact hsp) (by
      exact hpq) (by
      decide)) (cwV 1 hts gX8_readsOrder_X8_takes rfl rfl rfl (by decide +kernel) ⟨Nat.le_of_ble_eq_true rfl, Nat.le_of_ble_eq_true rfl⟩) (zPreV hK hP hD hS hA hSW [0, 1, 2, 3, 4, 5, 6] rfl (by decide) 0 (ci := 8) rfl rfl rfl) rfl rfl hl.1 rfl (lv_room (Nat.le_of_ble_eq_true rfl)) dX8_readsOrder_3 ⟨Nat.le_of_ble_eq_true rfl, Nat.le_of_ble_eq_true rfl⟩) hP hD hS hA [0, 1, 2, 3, 4, 5, 6] [] [0, 1, 2, 3, 4, 5, 6] rfl rfl (by decide) (by decide) (by decide) (fun _ => rfl) (fun r3 u H locs hw3 hP hD hS => ?_)
  obtain ⟨sp1_3, rfl⟩ : ∃ z, z = u := ⟨_, rfl⟩
  try dsimp only at hw3
  obtain ⟨rfl, e_sp1_3⟩ := hw3
  have hP : va_P G vwCl (mk Z b (al, ke, hs, hq, sl, sa, off, car, pa, pq, sp1_3, nu, 1, er)) H := hP
  have hD : va_D A (mk Z b (al, ke, hs, hq, sl, sa, off, car, pa, pq, sp1_3, nu, 1, er)) := hD
  refine lv_if_eq (tgt := 26) hx hb dX8_readsOrder_6 (by decide) (fun c6 => ?_) (fun c6 => ?_)
  · have q_sp1_3 : sp1_3 = sp := by rw [e_sp1_3]; exact rSgP_0 (rSgR_0 c6)
    rw [q_sp1_3] at hP hD
    refine lv_aload_n hx hb dX8_readsOrder_26 rfl (lv_at hl 0 rfl) ?_
    refine lv_bipush (v := 119) hx hb dX8_readsOrder_27 (by decide) ?_
    refine zCi (S := Nat) (ws1 := fun u => mk Z b (al, ke, hs, hq, sl, sa, off, car, pa, pq, u, nu, 1, er)) (wr := []) (va_runV (As := [.int 119]) (rest := []) ⟨hx, hb, hml, hown, hts⟩ (m_X8_takes l G Z _ b al ke hs hq sl sa off car pa pq sp nu 1 er 119 (by
        exact hsp) (by
        exact hpq) (by
        decide)) (cwV 1 hts gX8_readsOrder_X8_takes rfl rfl rfl (by decide +kernel) ⟨Nat.le_of_ble_eq_true rfl, Nat.le_of_ble_eq_true rfl⟩) (zPreV hK hP hD hS hA hSW [0, 1, 2, 3, 4, 5, 6] rfl (by decide) 0 (ci := 8) rfl rfl rfl) rfl rfl hl.1 rfl (lv_room (Nat.le_of_ble_eq_true rfl)) dX8_readsOrder_29 ⟨Nat.le_of_ble_eq_true rfl, Nat.le_of_ble_eq_true rfl⟩) hP hD hS hA [0, 1, 2, 3, 4, 5, 6] [] [0, 1, 2, 3, 4, 5, 6] rfl rfl (by decide) (by decide) (by decide) (fun _ => rfl) (fun r29 u H locs hw29 hP hD hS => ?_)
    obtain ⟨sp1_29, rfl⟩ : ∃ z, z = u := ⟨_, rfl⟩
    try dsimp only at hw29
    obtain ⟨rfl, e_sp1_29⟩ := hw29
    have hP : va_P G vwCl (mk Z b (al, ke, hs, hq, sl, sa, off, car, pa, pq, sp1_29, nu, 1, er)) H := hP
    have hD : va_D A (mk Z b (al, ke, hs, hq, sl, sa, off, car, pa, pq, sp1_29, nu, 1, er)) := hD
    refine lv_if_eq (tgt := 87) hx hb dX8_readsOrder_32 (by decide) (fun c32 => ?_) (fun c32 => ?_)
    · have q_sp1_29 : sp1_29 = sp := by rw [e_sp1_29]; exact rSgP_0 (rSgR_0 c32)
      rw [q_sp1_29] at hP hD
      refine lv_aload_n hx hb dX8_readsOrder_87 rfl (lv_at hl 0 rfl) ?_
      refine lv_bipush (v := 98) hx hb dX8_readsOrder_88 (by decide) ?_
      refine zCi (S := Nat) (ws1 := fun u => mk Z b (al, ke, hs, hq, sl, sa, off, car, pa, pq, u, nu, 1, er)) (wr := []) (va_runV (As := [.int 98]) (rest := []) ⟨hx, hb, hml, hown, hts⟩ (m_X8_takes l G Z _ b al ke hs hq sl sa off car pa pq sp nu 1 er 98 (by
          exact hsp) (by
          exact hpq) (by
          decide)) (cwV 1 hts gX8_readsOrder_X8_takes rfl rfl rfl (by decide +kernel) ⟨Nat.le_of_ble_eq_true rfl, Nat.le_of_ble_eq_true rfl⟩) (zPreV hK hP hD hS hA hSW [0, 1, 2, 3, 4, 5, 6] rfl (by decide) 0 (ci := 8) rfl rfl rfl) rfl rfl hl.1 rfl (lv_room (Nat.le_of_ble_eq_true rfl)) dX8_readsOrder_90 ⟨Nat.le_of_ble_eq_true rfl, Nat.le_of_ble_eq_true rfl⟩) hP hD hS hA [0, 1, 2, 3, 4, 5, 6] [] [0, 1, 2, 3, 4, 5, 6] rfl rfl (by decide) (by decide) (by decide) (fun _ => rfl) (fun r90 u H locs hw90 hP hD hS => ?_)
      obtain ⟨sp1_90, rfl⟩ : ∃ z, z = u := ⟨_, rfl⟩
      try dsimp only at hw90
      obtain ⟨rfl, e_sp1_90⟩ := hw90
      have hP : va_P G vwCl (mk Z b (al, ke, hs, hq, sl, sa, off, car, pa, pq, sp1_90, nu, 1, er)) H := hP
      have hD : va_D A (mk Z b (al, ke, hs, hq, sl, sa, off, car, pa, pq, sp1_90, nu, 1, er)) := hD
      refine lv_if_eq (tgt := 127) hx hb dX8_readsOrder_93 (by decide) (fun c93 => ?_) (fun c93 => ?_)
      · have q_sp1_90 : sp1_90 = sp := by rw [e_sp1_90]; exact rSgP_0 (rSgR_0 c93)
        rw [q_sp1_90] at hP hD
        refine lv_aload_n hx hb dX8_readsOrder_127 rfl (lv_at hl 0 rfl) ?_
        refine lv_bipush (v := 104) hx hb dX8_readsOrder_128 (by decide) ?_
        refine zCi (S := Nat) (ws1 := fun u => mk Z b (al, ke, hs, hq, sl, sa, off, car, pa, pq, u, nu, 1, er)) (wr := []) (va_runV (As := [.int 104]) (rest := []) ⟨hx, hb, hml, hown, hts⟩ (m_X8_takes l G Z _ b al ke hs hq sl sa off car pa pq sp nu 1 er 104 (by
            exact hsp) (by
            exact hpq) (by
            decide)) (cwV 1 hts gX8_readsOrder_X8_takes rfl rfl rfl (by decide +kernel) ⟨Nat.le_of_ble_eq_true rfl, Nat.le_of_ble_eq_true rfl⟩) (zPreV hK hP hD hS hA hSW [0, 1, 2, 3, 4, 5, 6] rfl (by decide) 0 (ci := 8) rfl rfl rfl) rfl rfl hl.1 rfl (lv_room (Nat.le_of_ble_eq_true rfl)) dX8_readsOrder_130 ⟨Nat.le_of_ble_eq_true rfl, Nat.le_of_ble_eq_true rfl⟩) hP hD hS hA [0, 1, 2, 3, 4, 5, 6] [] [0, 1, 2, 3, 4, 5, 6] rfl rfl (by decide) (by decide) (by decide) (fun _ => rfl) (fun r130 u H locs hw130 hP hD hS => ?_)
        obtain ⟨sp1_130, rfl⟩ : ∃ z, z = u := ⟨_, rfl⟩
        try dsimp only at hw130
        obtain ⟨rfl, e_sp1_130⟩ := hw130
        have hP : va_P G vwCl (mk Z b (al, ke, hs, hq, sl, sa, off, car, pa, pq, sp1_130, nu, 1, er)) H := hP
        have hD : va_D A (mk Z b (al, ke, hs, hq, sl, sa, off, car, pa, pq, sp1_130, nu, 1, er)) := hD
        refine lv_if_eq (tgt := 147) hx hb dX8_readsOrder_133 (by decide) (fun c133 => (hok (by rw [rOrd_no (rSgR_0 c93) (rSgR_0 c133) (rSgR_0 c32) (rSgR_0 c6)])).elim) (fun c133 => ?_)
        have h104 := rSgR_1 c133
        have q_sp1_130 : sp1_130 = sp + 1 := by rw [e_sp1_130]; exact rSgP_1 h104
        rw [q_sp1_130] at hP hD
        have hb104 : sp + 1 ≤ 80 := by
          have := (pSign_in (si := pa) (le := pq) (p := sp) (by rw [h104]; decide)).2
          omega
        refine lv_aload_n hx hb dX8_readsOrder_136 rfl (lv_at hl 0 rfl) ?_
        refine zCi (S := Nat × Int32 × (Nat → Int32) × Int32 × Int32 × Int32) (ws1 := fun u => mk Z b (u.2.2.1, ke, hs, hq, sl, sa, u.2.2.2.2.1, u.2.2.2.2.2, pa, pq, u.1, u.2.1, 1, u.2.2.2.1)) (wr := []) (va_runV (As := []) (rest := []) ⟨hx, hb, hml, hown, hts⟩ (m_X8_readsHours1 l G Z _ b al ke hs hq sl sa off car pa pq (sp + 1) nu er L (by
            exact hb104) (by
            exact hpq) (by
            exact hL) (by
            exact hL8) (by
            intro q
            apply hok
            rw [rOrd_104 h104]
            exact q)) (cwV 0 hts gX8_readsOrder_X8_readsHours rfl rfl rfl (by decide +kernel) ⟨Nat.le_of_ble_eq_true rfl, Nat.le_of_ble_eq_true rfl⟩) (zPreV hK hP hD hS hA hSW [0, 1, 2, 3, 4, 5, 6] rfl (by decide) 0 (ci := 8) rfl rfl rfl) rfl rfl hl.1 rfl (lv_room (Nat.le_of_ble_eq_true rfl)) dX8_readsOrder_137 ⟨Nat.le_of_ble_eq_true rfl, Nat.le_of_ble_eq_true rfl⟩) hP hD hS hA [0, 1, 2, 3, 4, 5, 6] [] [0, 1, 2, 3, 4, 5, 6] rfl rfl (by decide) (by decide) (by decide) (fun _ => rfl) (fun r137 u H locs hw137 hP hD hS => ?_)
        obtain ⟨sp1_137, nu1_137, al1_137, er1_137, o1_137, c1_137⟩ := u
        try dsimp only at hw137
        obtain ⟨rfl, e_sp1_137, e_al1_137, e_er1_137⟩ := hw137
        have hP : va_P G vwCl (mk Z b (al1_137, ke, hs, hq, sl, sa, o1_137, c1_137, pa, pq, sp1_137, nu1_137, 1, er1_137)) H := hP
        have hD : va_D A (mk Z b (al1_137, ke, hs, hq, sl, sa, o1_137, c1_137, pa, pq, sp1_137, nu1_137, 1, er1_137)) := hD
        refine lv_if_eq (tgt := 147) hx hb dX8_readsOrder_140 (by decide) (fun c140 => absurd c140 (by decide)) (fun _ => ?_)
        refine lv_iconst (v := 1) hx hb dX8_readsOrder_143 (by decide) ?_
        refine lv_goto (tgt := 148) hx hb dX8_readsOrder_144 (by decide) ?_
        exact W.zret hx hb hr (rfl) (zEi (sp1_137, nu1_137, al1_137, er1_137, o1_137, c1_137) (by
            rw [rOrd_104 h104, (mAct_104 _ _ _ _ _ _ _ _ _ _).1, (mAct_104 _ _ _ _ _ _ _ _ _ _).2]
            simp only [e_sp1_3, e_sp1_29, e_sp1_90, e_sp1_130, e_sp1_137, e_al1_137, e_er1_137, and_self]) hP hD hS) hS.2.2 dX8_readsOrder_148
      · have h98 := rSgR_1 c93
        have q_sp1_90 : sp1_90 = sp + 1 := by rw [e_sp1_90]; exact rSgP_1 h98
        rw [q_sp1_90] at hP hD
        have hb98 : sp + 1 ≤ 80 := by
          have := (pSign_in (si := pa) (le := pq) (p := sp) (by rw [h98]; decide)).2
          omega
        refine lv_aload_n hx hb dX8_readsOrder_96 rfl (lv_at hl 0 rfl) ?_
        refine zCi (S := Nat × Int32) (ws1 := fun u => mk Z b (al, ke, hs, hq, sl, sa, off, car, pa, pq, u.1, u.2, 1, er)) (wr := []) (va_runV (As := []) (rest := []) ⟨hx, hb, hml, hown, hts⟩ (m_X8_readsValue l G Z _ b al ke hs hq sl sa off car pa pq (sp + 1) nu 1 er (by
            exact hb98) (by
            exact hpq)) (cwV 0 hts gX8_readsOrder_X8_readsValue rfl rfl rfl (by decide +kernel) ⟨Nat.le_of_ble_eq_true rfl, Nat.le_of_ble_eq_true rfl⟩) (zPreV hK hP hD hS hA hSW [0, 1, 2, 3, 4, 5, 6] rfl (by decide) 0 (ci := 8) rfl rfl rfl) rfl rfl hl.1 rfl (lv_room (Nat.le_of_ble_eq_true rfl)) dX8_readsOrder_97 ⟨Nat.le_of_ble_eq_true rfl, Nat.le_of_ble_eq_true rfl⟩) hP hD hS hA [0, 1, 2, 3, 4, 5, 6] [] [0, 1, 2, 3, 4, 5, 6] rfl rfl (by decide) (by decide) (by decide) (fun _ => rfl) (fun r97 u H locs hw97 hP hD hS => ?_)
        obtain ⟨sp1_97, nu1_97⟩ := u
        try dsimp only at hw97
        obtain ⟨rfl, e_sp1_97, e_nu1_97⟩ := hw97
        have hP : va_P G vwCl (mk Z b (al, ke, hs, hq, sl, sa, off, car, pa, pq, sp1_97, nu1_97, 1, er)) H := hP
        have hD : va_D A (mk Z b (al, ke, hs, hq, sl, sa, off, car, pa, pq, sp1_97, nu1_97, 1, er)) := hD
        refine lv_if_ne (tgt := 105) hx hb dX8_readsOrder_100 (by decide) (fun c100 => ?_) (fun c100 => (hok (by rw [rOrd_98 h98]; exact c100)).elim)
        refine lv_aload_n hx hb dX8_readsOrder_105 rfl (lv_at hl 0 rfl) ?_
        refine va_get (D := G) (ci := 8) (v := .int 1) (C := RX8) (T := TX8) (N := 14) hx hb hts iX8 hown hK hP 0 rfl rfl 12 (by decide) k_181 (fun _ h9 => h9) rfl dX8_readsOrder_106 ?_
        refine lv_if_eq (tgt := 125) hx hb dX8_readsOrder_109 (by decide) (fun c109 => (show False from absurd c109 (by decide)).elim) (fun c109 => ?_)
        refine lv_aload_n hx hb dX8_readsOrder_112 rfl (lv_at hl 0 rfl) ?_
        refine lv_aload_n hx hb dX8_readsOrder_113 rfl (lv_at hl 0 rfl) ?_
        refine lv_iconst (v := 2) hx hb dX8_readsOrder_114 (by decide) ?_
        refine lv_aload_n hx hb dX8_readsOrder_115 rfl (lv_at hl 0 rfl) ?_
        refine va_get (D := G) (ci := 8) (v := .int nu1_97) (C := RX8) (T := TX8) (N := 14) hx hb hts iX8 hown hK hP 0 rfl rfl 11 (by decide) k_166 (fun _ h9 => h9) rfl dX8_readsOrder_116 ?_
        refine zCi (S := (Nat → Int32)) (ws1 := fun u => mk Z b (u, ke, hs, hq, sl, sa, off, car, pa, pq, sp1_97, nu1_97, 1, er)) (wr := []) (va_runV (As := [.int 2, .int nu1_97]) (rest := [.ref (b 0)]) ⟨hx, hb, hml, hown, hts⟩ (m_X8_doSet l G Z _ b al ke hs hq sl sa off car pa pq sp1_97 nu1_97 1 er 2 nu1_97) (cwV 2 hts gX8_readsOrder_X8_doSet rfl rfl rfl (by decide +kernel) ⟨Nat.le_of_ble_eq_true rfl, Nat.le_of_ble_eq_true rfl⟩) (zPreV hK hP hD hS hA hSW [0, 1, 2, 3, 4, 5, 6] rfl (by decide) 0 (ci := 8) rfl rfl rfl) rfl rfl hl.1 rfl (lv_room (Nat.le_of_ble_eq_true rfl)) dX8_readsOrder_119 ⟨Nat.le_of_ble_eq_true rfl, Nat.le_of_ble_eq_true rfl⟩) hP hD hS hA [0, 1, 2, 3, 4, 5, 6] [] [0, 1, 2, 3, 4, 5, 6] rfl rfl (by decide) (by decide) (by decide) (fun _ => rfl) (fun r119 u H locs hw119 hP hD hS => ?_)
        obtain ⟨al1_119, rfl⟩ : ∃ z, z = u := ⟨_, rfl⟩
        try dsimp only at hw119
        obtain ⟨e_r119, e_al1_119⟩ := hw119
        have hP : va_P G vwCl (mk Z b (al1_119, ke, hs, hq, sl, sa, off, car, pa, pq, sp1_97, nu1_97, 1, er)) H := hP
        have hD : va_D A (mk Z b (al1_119, ke, hs, hq, sl, sa, off, car, pa, pq, sp1_97, nu1_97, 1, er)) := hD
        refine zCv (S := Int32) (ws1 := fun u => mk Z b (al1_119, ke, hs, hq, sl, sa, off, car, pa, pq, sp1_97, nu1_97, 1, u)) (wr := []) (va_runV (As := [.int r119]) (rest := []) ⟨hx, hb, hml, hown, hts⟩ (m_X8_does l G Z _ b al1_119 ke hs hq sl sa off car pa pq sp1_97 nu1_97 1 er r119) (cwV 1 hts gX8_readsOrder_X8_does rfl rfl rfl (by decide +kernel) ⟨Nat.le_of_ble_eq_true rfl, Nat.le_of_ble_eq_true rfl⟩) (zPreV hK hP hD hS hA hSW [0, 1, 2, 3, 4, 5, 6] rfl (by decide) 0 (ci := 8) rfl rfl rfl) rfl rfl hl.1 rfl (lv_room (Nat.le_of_ble_eq_true rfl)) dX8_readsOrder_122 ⟨Nat.le_of_ble_eq_true rfl, Nat.le_of_ble_eq_true rfl⟩) hP hD hS hA [0, 1, 2, 3, 4, 5, 6] [] [0, 1, 2, 3, 4, 5, 6] rfl rfl (by decide) (by decide) (by decide) (fun _ => rfl) (fun u H locs hw122 hP hD hS => ?_)
        obtain ⟨er1_122, rfl⟩ : ∃ z, z = u := ⟨_, rfl⟩
        try dsimp only at hw122
        have e_er1_122 := hw122
        have hP : va_P G vwCl (mk Z b (al1_119, ke, hs, hq, sl, sa, off, car, pa, pq, sp1_97, nu1_97, 1, er1_122)) H := hP
        have hD : va_D A (mk Z b (al1_119, ke, hs, hq, sl, sa, off, car, pa, pq, sp1_97, nu1_97, 1, er1_122)) := hD
        refine lv_iconst (v := 1) hx hb dX8_readsOrder_125 (by decide) ?_
        exact W.zret hx hb hr (rfl) (zEi (sp1_97, nu1_97, al1_119, er1_122, off, car) (by
            rw [rOrd_98 h98, (mAct_98 _ _ _ _ _ _ _ _ _ _).1, (mAct_98 _ _ _ _ _ _ _ _ _ _).2]
            simp only [mErr, e_sp1_3, e_sp1_29, e_sp1_90, e_sp1_97, e_nu1_97, e_r119, e_al1_119, e_er1_122, mVaN_ok nu 0 c100, and_self]) hP hD hS) hS.2.2 dX8_readsOrder_126
    · have h119 := rSgR_1 c32
      have q_sp1_29 : sp1_29 = sp + 1 := by rw [e_sp1_29]; exact rSgP_1 h119
      rw [q_sp1_29] at hP hD
      have hb119 : sp + 1 ≤ 80 := by
        have := (pSign_in (si := pa) (le := pq) (p := sp) (by rw [h119]; decide)).2
        omega
      refine lv_aload_n hx hb dX8_readsOrder_35 rfl (lv_at hl 0 rfl) ?_
      refine lv_bipush (v := 48) hx hb dX8_readsOrder_36 (by decide) ?_
      refine lv_bipush (v := 55) hx hb dX8_readsOrder_38 (by decide) ?_
      refine zCi (S := Unit) (ws1 := fun u => mk Z b (al, ke, hs, hq, sl, sa, off, car, pa, pq, (sp + 1), nu, 1, er)) (wr := []) (va_runV (As := [.int 48, .int 55]) (rest := []) ⟨hx, hb, hml, hown, hts⟩ (m_X8_isHere l G Z _ b al ke hs hq sl sa off car pa pq (sp + 1) nu 1 er 48 55 (by
          exact hb119) (by
          exact hpq) (by
          decide)) (cwV 2 hts gX8_readsOrder_X8_isHere rfl rfl rfl (by decide +kernel) ⟨Nat.le_of_ble_eq_true rfl, Nat.le_of_ble_eq_true rfl⟩) (zPreV hK hP hD hS hA hSW [0, 1, 2, 3, 4, 5, 6] rfl (by decide) 0 (ci := 8) rfl rfl rfl) rfl rfl hl.1 rfl (lv_room (Nat.le_of_ble_eq_true rfl)) dX8_readsOrder_40 ⟨Nat.le_of_ble_eq_true rfl, Nat.le_of_ble_eq_true rfl⟩) hP hD hS hA [0, 1, 2, 3, 4, 5, 6] [] [0, 1, 2, 3, 4, 5, 6] rfl rfl (by decide) (by decide) (by decide) (fun _ => rfl) (fun r40 u H locs hw40 hP hD hS => ?_)
      try dsimp only at hw40
      subst hw40
      have hP : va_P G vwCl (mk Z b (al, ke, hs, hq, sl, sa, off, car, pa, pq, (sp + 1), nu, 1, er)) H := hP
      have hD : va_D A (mk Z b (al, ke, hs, hq, sl, sa, off, car, pa, pq, (sp + 1), nu, 1, er)) := hD
      refine lv_if_ne (tgt := 48) hx hb dX8_readsOrder_43 (by decide) (fun c43 => ?_) (fun c43 => (hok (by rw [rOrd_119 h119]; exact mWt_0 c43)).elim)
      refine lv_aload_n hx hb dX8_readsOrder_48 rfl (lv_at hl 0 rfl) ?_
      refine va_get (D := G) (ci := 8) (v := .int 1) (C := RX8) (T := TX8) (N := 14) hx hb hts iX8 hown hK hP 0 rfl rfl 12 (by decide) k_181 (fun _ h9 => h9) rfl dX8_readsOrder_49 ?_
      refine lv_if_eq (tgt := 75) hx hb dX8_readsOrder_52 (by decide) (fun c52 => (show False from absurd c52 (by decide)).elim) (fun c52 => ?_)
      refine lv_aload_n hx hb dX8_readsOrder_55 rfl (lv_at hl 0 rfl) ?_
      refine lv_aload_n hx hb dX8_readsOrder_56 rfl (lv_at hl 0 rfl) ?_
      refine lv_aload_n hx hb dX8_readsOrder_57 rfl (lv_at hl 0 rfl) ?_
      refine va_get (D := G) (ci := 8) (v := .ref (b 6)) (C := RX8) (T := TX8) (N := 14) hx hb hts iX8 hown hK hP 0 rfl rfl 8 (by decide) k_25 (fun _ h9 => h9) rfl dX8_readsOrder_58 ?_
      refine lv_aload_n hx hb dX8_readsOrder_61 rfl (lv_at hl 0 rfl) ?_
      refine va_get (D := G) (ci := 8) (v := .int (nI (sp + 1))) (C := RX8) (T := TX8) (N := 14) hx hb hts iX8 hown hK hP 0 rfl rfl 10 (by decide) k_160 (fun _ h9 => h9) rfl dX8_readsOrder_62 ?_
      refine zIald (f := pa) hx hb hK hP 6 0 rfl rfl (sp + 1) (rfl) ((mWt_1 c43).2.2.2) (by decide) dX8_readsOrder_65 ?_
      refine lv_bipush (v := 48) hx hb dX8_readsOrder_66 (by decide) ?_
      refine lv_isub hx hb dX8_readsOrder_68 ?_
      refine zCi (S := (Nat → Int32)) (ws1 := fun u => mk Z b (u, ke, hs, hq, sl, sa, off, car, pa, pq, (sp + 1), nu, 1, er)) (wr := []) (va_runV (As := [.int ((pa (sp + 1)) - 48)]) (rest := [.ref (b 0)]) ⟨hx, hb, hml, hown, hts⟩ (m_X8_doWeight l G Z _ b al ke hs hq sl sa off car pa pq (sp + 1) nu 1 er ((pa (sp + 1)) - 48)) (cwV 1 hts gX8_readsOrder_X8_doWeight rfl rfl rfl (by decide +kernel) ⟨Nat.le_of_ble_eq_true rfl, Nat.le_of_ble_eq_true rfl⟩) (zPreV hK hP hD hS hA hSW [0, 1, 2, 3, 4, 5, 6] rfl (by decide) 0 (ci := 8) rfl rfl rfl) rfl rfl hl.1 rfl (lv_room (Nat.le_of_ble_eq_true rfl)) dX8_readsOrder_69 ⟨Nat.le_of_ble_eq_true rfl, Nat.le_of_ble_eq_true rfl⟩) hP hD hS hA [0, 1, 2, 3, 4, 5, 6] [] [0, 1, 2, 3, 4, 5, 6] rfl rfl (by decide) (by decide) (by decide) (fun _ => rfl) (fun r69 u H locs hw69 hP hD hS => ?_)
      obtain ⟨al1_69, rfl⟩ : ∃ z, z = u := ⟨_, rfl⟩
      try dsimp only at hw69
      obtain ⟨e_r69, e_al1_69⟩ := hw69
      have hP : va_P G vwCl (mk Z b (al1_69, ke, hs, hq, sl, sa, off, car, pa, pq, (sp + 1), nu, 1, er)) H := hP
      have hD : va_D A (mk Z b (al1_69, ke, hs, hq, sl, sa, off, car, pa, pq, (sp + 1), nu, 1, er)) := hD
      refine zCv (S := Int32) (ws1 := fun u => mk Z b (al1_69, ke, hs, hq, sl, sa, off, car, pa, pq, (sp + 1), nu, 1, u)) (wr := []) (va_runV (As := [.int r69]) (rest := []) ⟨hx, hb, hml, hown, hts⟩ (m_X8_does l G Z _ b al1_69 ke hs hq sl sa off car pa pq (sp + 1) nu 1 er r69) (cwV 1 hts gX8_readsOrder_X8_does rfl rfl rfl (by decide +kernel) ⟨Nat.le_of_ble_eq_true rfl, Nat.le_of_ble_eq_true rfl⟩) (zPreV hK hP hD hS hA hSW [0, 1, 2, 3, 4, 5, 6] rfl (by decide) 0 (ci := 8) rfl rfl rfl) rfl rfl hl.1 rfl (lv_room (Nat.le_of_ble_eq_true rfl)) dX8_readsOrder_72 ⟨Nat.le_of_ble_eq_true rfl, Nat.le_of_ble_eq_true rfl⟩) hP hD hS hA [0, 1, 2, 3, 4, 5, 6] [] [0, 1, 2, 3, 4, 5, 6] rfl rfl (by decide) (by decide) (by decide) (fun _ => rfl) (fun u H locs hw72 hP hD hS => ?_)
      obtain ⟨er1_72, rfl⟩ : ∃ z, z = u := ⟨_, rfl⟩
      try dsimp only at hw72
      have e_er1_72 := hw72
      have hP : va_P G vwCl (mk Z b (al1_69, ke, hs, hq, sl, sa, off, car, pa, pq, (sp + 1), nu, 1, er1_72)) H := hP
      have hD : va_D A (mk Z b (al1_69, ke, hs, hq, sl, sa, off, car, pa, pq, (sp + 1), nu, 1, er1_72)) := hD
      refine lv_aload_n hx hb dX8_readsOrder_75 rfl (lv_at hl 0 rfl) ?_
      refine lv_dup hx hb dX8_readsOrder_76 rfl ?_
      refine va_get (D := G) (ci := 8) (v := .int (nI (sp + 1))) (C := RX8) (T := TX8) (N := 14) hx hb hts iX8 hown hK hP 0 rfl rfl 10 (by decide) k_160 (fun _ h9 => h9) rfl dX8_readsOrder_77 ?_
      refine lv_iconst (v := 1) hx hb dX8_readsOrder_80 (by decide) ?_
      refine lv_iadd hx hb dX8_readsOrder_81 ?_
      refine zTopI (y := (nI ((sp + 1) + 1))) (nI_succ (sp + 1)).symm ?_
      refine va_put (D := G) (ci := 8) (v := .int (nI ((sp + 1) + 1))) (ty := .int) (C := RX8) (T := TX8) (N := 14) hx hb hts iX8 tyX8 tyX8_ok nmX8 hown hK hP hD hS 0 rfl rfl 10 (by decide) k_160 (fun _ h9 => h9) rfl (by decide +kernel) rfl rfl (Nat.le_of_ble_eq_true rfl) dX8_readsOrder_82 (fun H locs hP hD hS => ?_)
      have hP : va_P G vwCl (mk Z b (al1_69, ke, hs, hq, sl, sa, off, car, pa, pq, ((sp + 1) + 1), nu, 1, er1_72)) H := hP
      have hD : va_D A (mk Z b (al1_69, ke, hs, hq, sl, sa, off, car, pa, pq, ((sp + 1) + 1), nu, 1, er1_72)) := hD
      refine lv_iconst (v := 1) hx hb dX8_readsOrder_85 (by decide) ?_
      exact W.zret hx hb hr (rfl) (zEi (((sp + 1) + 1), nu, al1_69, er1_72, off, car) (by
          rw [rOrd_119 h119, (mAct_119 _ _ _ _ _ _ _ _ _ _).1, (mAct_119 _ _ _ _ _ _ _ _ _ _).2, rWt_v c43, rWt_p (mWt_1 c43).1]
          simp only [mErr, e_sp1_3, e_sp1_29, e_r69, e_al1_69, e_er1_72, and_self]) hP hD hS) hS.2.2 dX8_readsOrder_86
  · have h122 := rSgR_1 c6
    have q_sp1_3 : sp1_3 = sp + 1 := by rw [e_sp1_3]; exact rSgP_1 h122
    rw [q_sp1_3] at hP hD
    have hb122 : sp + 1 ≤ 80 := by
      have := (pSign_in (si := pa) (le := pq) (p := sp) (by rw [h122]; decide)).2
      omega
    refine lv_aload_n hx hb dX8_readsOrder_9 rfl (lv_at hl 0 rfl) ?_
    refine va_get (D := G) (ci := 8) (v := .int 1) (C := RX8) (T := TX8) (N := 14) hx hb hts iX8 hown hK hP 0 rfl rfl 12 (by decide) k_181 (fun _ h9 => h9) rfl dX8_readsOrder_10 ?_
    refine lv_if_eq (tgt := 24) hx hb dX8_readsOrder_13 (by decide) (fun c13 => (show False from absurd c13 (by decide)).elim) (fun c13 => ?_)
    refine lv_aload_n hx hb dX8_readsOrder_16 rfl (lv_at hl 0 rfl) ?_
    refine lv_aload_n hx hb dX8_readsOrder_17 rfl (lv_at hl 0 rfl) ?_
    refine zCi (S := Unit) (ws1 := fun u => mk Z b ((mZeA al), ke, hs, hq, sl, sa, off, car, pa, pq, (sp + 1), nu, 1, er)) (wr := []) (va_runV (As := []) (rest := [.ref (b 0)]) ⟨hx, hb, hml, hown, hts⟩ (m_X8_doZero l G Z _ b al ke hs hq sl sa off car pa pq (sp + 1) nu 1 er) (cwV 0 hts gX8_readsOrder_X8_doZero rfl rfl rfl (by decide +kernel) ⟨Nat.le_of_ble_eq_true rfl, Nat.le_of_ble_eq_true rfl⟩) (zPreV hK hP hD hS hA hSW [0, 1, 2, 3, 4, 5, 6] rfl (by decide) 0 (ci := 8) rfl rfl rfl) rfl rfl hl.1 rfl (lv_room (Nat.le_of_ble_eq_true rfl)) dX8_readsOrder_18 ⟨Nat.le_of_ble_eq_true rfl, Nat.le_of_ble_eq_true rfl⟩) hP hD hS hA [0, 1, 2, 3, 4, 5, 6] [] [0, 1, 2, 3, 4, 5, 6] rfl rfl (by decide) (by decide) (by decide) (fun _ => rfl) (fun r18 u H locs hw18 hP hD hS => ?_)
    try dsimp only at hw18
    have e_r18 := hw18
    have hP : va_P G vwCl (mk Z b ((mZeA al), ke, hs, hq, sl, sa, off, car, pa, pq, (sp + 1), nu, 1, er)) H := hP
    have hD : va_D A (mk Z b ((mZeA al), ke, hs, hq, sl, sa, off, car, pa, pq, (sp + 1), nu, 1, er)) := hD
    refine zCv (S := Int32) (ws1 := fun u => mk Z b ((mZeA al), ke, hs, hq, sl, sa, off, car, pa, pq, (sp + 1), nu, 1, u)) (wr := []) (va_runV (As := [.int r18]) (rest := []) ⟨hx, hb, hml, hown, hts⟩ (m_X8_does l G Z _ b (mZeA al) ke hs hq sl sa off car pa pq (sp + 1) nu 1 er r18) (cwV 1 hts gX8_readsOrder_X8_does rfl rfl rfl (by decide +kernel) ⟨Nat.le_of_ble_eq_true rfl, Nat.le_of_ble_eq_true rfl⟩) (zPreV hK hP hD hS hA hSW [0, 1, 2, 3, 4, 5, 6] rfl (by decide) 0 (ci := 8) rfl rfl rfl) rfl rfl hl.1 rfl (lv_room (Nat.le_of_ble_eq_true rfl)) dX8_readsOrder_21 ⟨Nat.le_of_ble_eq_true rfl, Nat.le_of_ble_eq_true rfl⟩) hP hD hS hA [0, 1, 2, 3, 4, 5, 6] [] [0, 1, 2, 3, 4, 5, 6] rfl rfl (by decide) (by decide) (by decide) (fun _ => rfl) (fun u H locs hw21 hP hD hS => ?_)
    obtain ⟨er1_21, rfl⟩ : ∃ z, z = u := ⟨_, rfl⟩
    try dsimp only at hw21
    have e_er1_21 := hw21
    have hP : va_P G vwCl (mk Z b ((mZeA al), ke, hs, hq, sl, sa, off, car, pa, pq, (sp + 1), nu, 1, er1_21)) H := hP
    have hD : va_D A (mk Z b ((mZeA al), ke, hs, hq, sl, sa, off, car, pa, pq, (sp + 1), nu, 1, er1_21)) := hD
    refine lv_iconst (v := 1) hx hb dX8_readsOrder_24 (by decide) ?_
    exact W.zret hx hb hr (rfl) (zEi ((sp + 1), nu, (mZeA al), er1_21, off, car) (by
        rw [rOrd_122 h122, (mAct_122 _ _ _ _ _ _ _ _ _ _).1, (mAct_122 _ _ _ _ _ _ _ _ _ _).2]
        simp only [mErr, e_sp1_3, e_r18, e_er1_21, and_self]) hP hD hS) hS.2.2 dX8_readsOrder_25

set_option maxHeartbeats 4000000 in
set_option maxRecDepth 100000 in
theorem m_X8_fault (l : Launch) (G : va_G) (Z : Nat → ClassId) (sz : Nat) (b : Nat → Nat) (al : Nat → Int32) (ke : Nat → Int32) (hs : Nat → Int32) (hq : Nat) (sl : Nat → Int32) (sa : Nat → Int32) (off : Int32) (car : Int32) (pa : Nat → Int32) (pq : Nat) (sp : Nat) (nu : Int32) (dn : Int32) (er : Int32) (hpq : pq ≤ 80) : Met l yX8_fault wsX8_fault ({ frames := 6, cells := 0, slots := 0, locals := 134 }) (va_Pc [.ref (b 0)] (zWP G Z sz (mk Z b (al, ke, hs, hq, sl, sa, off, car, pa, pq, sp, nu, dn, er)))) (va_Qi (fun (r : Int32) (u : Nat × Int32) => r = qFa pa pq 80 0) (fun (u : Nat × Int32) t => zB G (va_A (mk Z b (al, ke, hs, hq, sl, sa, off, car, pa, pq, sp, nu, dn, er)) sz) (mk Z b (al, ke, hs, hq, sl, sa, off, car, pa, pq, u.1, u.2, 0, er)) t) (va_A (mk Z b (al, ke, hs, hq, sl, sa, off, car, pa, pq, sp, nu, dn, er)) sz)) 0 0 (va_A (mk Z b (al, ke, hs, hq, sl, sa, off, car, pa, pq, sp, nu, dn, er)) sz) := by
  refine Met.ofW (cc := cX8_fault) (maxL := 2) (ret := (some .int)) (by decide) rfl ?_
  intro p e s m args below meth c s₁ B hml hv
  have hx := B.exec
  have hb := B.bytes
  have hr := B.returns
  have hts := atoms_spec (ws := wsX8_fault) B.pre
  have hown : s.vm.findClass RX8 = some m.cls := findClass_of_methodNamed B.named
  have hlocks := B.notSynchronized
  obtain ⟨rfl, hsz, hP, hK, hD, hA, hS, hSW⟩ := zEnter hv
  subst hsz
  generalize va_A (mk Z b (al, ke, hs, hq, sl, sa, off, car, pa, pq, sp, nu, dn, er)) s.heap.size = A at hD hA hS hSW ⊢
  have k_160 := hts (.fieldLink RX8 160 "WarmRodsModel" "spot" "I") (List.mem_of_getElem? (i := 1) rfl)
  have iX8 : ∀ w ∈ u_ws RX8 TX8 14, w ∈ wsX8_fault := fun _ h => List.mem_cons_of_mem _ (List.mem_append_right _ h)
  have k_181 := hts (.fieldLink RX8 181 "WarmRodsModel" "isDone" "Z") (List.mem_of_getElem? (i := 2) rfl)
  have k_125 := hts (.fieldLink RX8 125 "WarmRodsModel" "padLong" "I") (List.mem_of_getElem? (i := 3) rfl)
  have hP : va_P G vwCl (mk Z b (al, ke, hs, hq, sl, sa, off, car, pa, pq, sp, nu, dn, er)) s.heap := hP
  have hl := lv_entry ([.ref (b 0)]) (n := 2) (Nat.le_of_ble_eq_true rfl)
  rw [lg_entry_eq]
  generalize (lg_sl ([.ref (b 0)]) ++ List.replicate (2 - (lg_sl ([.ref (b 0)])).length) Slot.unset).toArray = ls at hl ⊢
  have hl : lv_has ls 2 [(0, .ref (b 0))] := hl
  refine lv_aload_n hx hb dX8_fault_0 rfl (lv_at hl 0 rfl) ?_
  refine lv_iconst (v := 0) hx hb dX8_fault_1 (by decide) ?_
  refine va_put (D := G) (ci := 8) (v := .int 0) (ty := .int) (C := RX8) (T := TX8) (N := 14) hx hb hts iX8 tyX8 tyX8_ok nmX8 hown hK hP hD hS 0 rfl rfl 10 (by decide) k_160 (fun _ h9 => h9) rfl (by decide +kernel) rfl rfl (Nat.le_of_ble_eq_true rfl) dX8_fault_2 (fun H locs hP hD hS => ?_)
  have hP : va_P G vwCl (mk Z b (al, ke, hs, hq, sl, sa, off, car, pa, pq, 0, nu, dn, er)) H := hP
  have hD : va_D A (mk Z b (al, ke, hs, hq, sl, sa, off, car, pa, pq, 0, nu, dn, er)) := hD
  refine lv_aload_n hx hb dX8_fault_5 rfl (lv_at hl 0 rfl) ?_
  refine lv_iconst (v := 0) hx hb dX8_fault_6 (by decide) ?_
  refine va_put (D := G) (ci := 8) (v := .int 0) (ty := .boolean) (C := RX8) (T := TX8) (N := 14) hx hb hts iX8 tyX8 tyX8_ok nmX8 hown hK hP hD hS 0 rfl rfl 12 (by decide) k_181 (fun _ h9 => h9) rfl (by decide +kernel) rfl rfl (Nat.le_of_ble_eq_true rfl) dX8_fault_7 (fun H locs hP hD hS => ?_)
  have hP : va_P G vwCl (mk Z b (al, ke, hs, hq, sl, sa, off, car, pa, pq, 0, nu, 0, er)) H := hP
  have hD : va_D A (mk Z b (al, ke, hs, hq, sl, sa, off, car, pa, pq, 0, nu, 0, er)) := hD
  refine lv_iconst (v := 1) hx hb dX8_fault_10 (by decide) ?_
  refine lv_istore_n (lv' := [(1, .int 1), (0, .ref (b 0))]) hx hb dX8_fault_11 rfl hl (by decide) rfl (fun ls hl => ?_)
  refine zLoop (σ := Nat × Nat × Int32 × Int32) (nL := 2) (fun zx => mk Z b (al, ke, hs, hq, sl, sa, off, car, pa, pq, zx.2.1, zx.2.2.1, 0, er)) (fun zx => [(1, .int zx.2.2.2), (0, .ref (b 0))]) (fun zx => ((zx.2.2.2 = 1 ∧ qFa pa pq zx.1 zx.2.1 = qFa pa pq 80 0 ∧ 80 ≤ zx.1 + zx.2.1) ∨ (zx.2.2.2 = 0 ∧ (if nI zx.2.1 = nI pq then -6 else nI zx.2.1) = qFa pa pq 80 0)) ∧ zx.2.1 ≤ 80) (fun zx => (if zx.2.2.2 = 0 then 0 else zx.1 + 1)) ?_ (80, 0, nu, 1) (by
      try dsimp only
      exact ⟨Or.inl ⟨rfl, rfl, by decide⟩, by decide⟩) hP hD hS (lv_sub hl [0, 1] rfl)
  intro zx hinv12 ih12 H locs ls hP hD hS hl
  obtain ⟨f, sq, nn, g⟩ := zx
  try dsimp only at hinv12 ih12
  have hP : va_P G vwCl (mk Z b (al, ke, hs, hq, sl, sa, off, car, pa, pq, sq, nn, 0, er)) H := hP
  have hD : va_D A (mk Z b (al, ke, hs, hq, sl, sa, off, car, pa, pq, sq, nn, 0, er)) := hD
  have hl : lv_has ls 2 [(1, .int g), (0, .ref (b 0))] := hl
  refine lv_iload_n hx hb dX8_fault_12 rfl (lv_at hl 0 rfl) ?_
  refine lv_if_eq (tgt := 38) hx hb dX8_fault_13 (by decide) (fun c13 => ?_) (fun c13 => ?_)
  · refine lv_aload_n hx hb dX8_fault_38 rfl (lv_at hl 1 rfl) ?_
    refine va_get (D := G) (ci := 8) (v := .int (nI sq)) (C := RX8) (T := TX8) (N := 14) hx hb hts iX8 hown hK hP 0 rfl rfl 10 (by decide) k_160 (fun _ h9 => h9) rfl dX8_fault_39 ?_
    refine lv_aload_n hx hb dX8_fault_42 rfl (lv_at hl 1 rfl) ?_
    refine va_get (D := G) (ci := 8) (v := .int (nI pq)) (C := RX8) (T := TX8) (N := 14) hx hb hts iX8 hown hK hP 0 rfl rfl 9 (by decide) k_125 (fun _ h9 => h9) rfl dX8_fault_43 ?_
    refine lv_icmp_ne (tgt := 54) hx hb dX8_fault_46 (by decide) (fun c46 => ?_) (fun c46 => ?_)
    · refine lv_aload_n hx hb dX8_fault_54 rfl (lv_at hl 1 rfl) ?_
      refine va_get (D := G) (ci := 8) (v := .int (nI sq)) (C := RX8) (T := TX8) (N := 14) hx hb hts iX8 hown hK hP 0 rfl rfl 10 (by decide) k_160 (fun _ h9 => h9) rfl dX8_fault_55 ?_
      exact W.iret hx hb hr (zEi (sq, nn) (by
          have h38 := (hinv12.1.resolve_left (fun q => absurd (q.1.symm.trans c13) (by decide))).2
          rw [← h38]
          simp only [eq_true c13, c46, ↓reduceIte]) hP hD hS) hS.2.2 dX8_fault_58
    · refine lv_bipush (v := (-6)) hx hb dX8_fault_49 (by decide) ?_
      refine lv_goto (tgt := 58) hx hb dX8_fault_51 (by decide) ?_
      exact W.iret hx hb hr (zEi (sq, nn) (by
          have h38 := (hinv12.1.resolve_left (fun q => absurd (q.1.symm.trans c13) (by decide))).2
          rw [← h38]
          simp only [eq_true c13, eq_true c46, ↓reduceIte]) hP hD hS) hS.2.2 dX8_fault_58
  · have h16 := (hinv12.1.resolve_right (fun q => c13 q.1)).2
    refine lv_aload_n hx hb dX8_fault_16 rfl (lv_at hl 1 rfl) ?_
    refine zCi (S := Nat × Int32) (ws1 := fun u => mk Z b (al, ke, hs, hq, sl, sa, off, car, pa, pq, u.1, u.2, 0, er)) (wr := []) (va_runV (As := []) (rest := []) ⟨hx, hb, hml, hown, hts⟩ (m_X8_readsOrder0 l G Z _ b al ke hs hq sl sa off car pa pq sq nn er (by
        exact hinv12.2) (by
        exact hpq)) (cwV 0 hts gX8_fault_X8_readsOrder rfl rfl rfl (by decide +kernel) ⟨Nat.le_of_ble_eq_true rfl, Nat.le_of_ble_eq_true rfl⟩) (zPreV hK hP hD hS hA hSW [0, 1, 2, 3, 4, 5, 6] rfl (by decide) 0 (ci := 8) rfl rfl rfl) rfl rfl hl.1 rfl (lv_room (Nat.le_of_ble_eq_true rfl)) dX8_fault_17 ⟨Nat.le_of_ble_eq_true rfl, Nat.le_of_ble_eq_true rfl⟩) hP hD hS hA [0, 1, 2, 3, 4, 5, 6] [] [0, 1, 2, 3, 4, 5, 6] rfl rfl (by decide) (by decide) (by decide) (fun _ => rfl) (fun r17 u H locs hw17 hP hD hS => ?_)
    obtain ⟨sp1_17, nu1_17⟩ := u
    try dsimp only at hw17
    obtain ⟨rfl, e_sp1_17⟩ := hw17
    have hP : va_P G vwCl (mk Z b (al, ke, hs, hq, sl, sa, off, car, pa, pq, sp1_17, nu1_17, 0, er)) H := hP
    have hD : va_D A (mk Z b (al, ke, hs, hq, sl, sa, off, car, pa, pq, sp1_17, nu1_17, 0, er)) := hD
    refine lv_if_ne (tgt := 28) hx hb dX8_fault_20 (by decide) (fun c20 => ?_) (fun c20 => ?_)
    · obtain ⟨f0, hf0, h28, h29⟩ := qFa_ok h16.2 c20
      have h30 : sp1_17 ≤ 80 := by rw [e_sp1_17]; exact rOrd_le hinv12.2
      have h31 := h16.1
      rw [hf0, qFa, if_neg c20] at h31
      refine lv_aload_n hx hb dX8_fault_28 rfl (lv_at hl 1 rfl) ?_
      refine lv_bipush (v := 59) hx hb dX8_fault_29 (by decide) ?_
      refine zCi (S := Nat) (ws1 := fun u => mk Z b (al, ke, hs, hq, sl, sa, off, car, pa, pq, u, nu1_17, 0, er)) (wr := []) (va_runV (As := [.int 59]) (rest := []) ⟨hx, hb, hml, hown, hts⟩ (m_X8_takes l G Z _ b al ke hs hq sl sa off car pa pq sp1_17 nu1_17 0 er 59 (by
          exact h30) (by
          exact hpq) (by
          decide)) (cwV 1 hts gX8_fault_X8_takes rfl rfl rfl (by decide +kernel) ⟨Nat.le_of_ble_eq_true rfl, Nat.le_of_ble_eq_true rfl⟩) (zPreV hK hP hD hS hA hSW [0, 1, 2, 3, 4, 5, 6] rfl (by decide) 0 (ci := 8) rfl rfl rfl) rfl rfl hl.1 rfl (lv_room (Nat.le_of_ble_eq_true rfl)) dX8_fault_31 ⟨Nat.le_of_ble_eq_true rfl, Nat.le_of_ble_eq_true rfl⟩) hP hD hS hA [0, 1, 2, 3, 4, 5, 6] [] [0, 1, 2, 3, 4, 5, 6] rfl rfl (by decide) (by decide) (by decide) (fun _ => rfl) (fun r31 u H locs hw31 hP hD hS => ?_)
      obtain ⟨sp1_31, rfl⟩ : ∃ z, z = u := ⟨_, rfl⟩
      try dsimp only at hw31
      obtain ⟨rfl, e_sp1_31⟩ := hw31
      have hP : va_P G vwCl (mk Z b (al, ke, hs, hq, sl, sa, off, car, pa, pq, sp1_31, nu1_17, 0, er)) H := hP
      have hD : va_D A (mk Z b (al, ke, hs, hq, sl, sa, off, car, pa, pq, sp1_31, nu1_17, 0, er)) := hD
      refine lv_istore_n (lv' := [(1, .int (rSgR pa pq sp1_17 59)), (0, .ref (b 0))]) hx hb dX8_fault_34 rfl hl (by decide) rfl (fun ls hl => ?_)
      refine lv_goto (tgt := 12) hx hb dX8_fault_35 (by decide) ?_
      exact ih12 (f0, sp1_31, nu1_17, (rSgR pa pq sp1_17 59)) (by
          try dsimp only
          have h32 : sp1_31 ≤ 80 := by rw [e_sp1_31]; exact rSgP_le (by decide) h30
          refine ⟨?_, h32⟩
          by_cases q : rSgR pa pq sp1_17 59 = 0
          · right
            refine ⟨q, ?_⟩
            rw [e_sp1_17] at q
            rw [← h31, if_pos q, e_sp1_31, e_sp1_17, rSgP_0 (rSgR_0 q)]
          · left
            refine ⟨(rSgR_b _ _ _ _).resolve_left q, ?_, ?_⟩
            · rw [e_sp1_17] at q
              rw [← h31, if_neg q, e_sp1_31, e_sp1_17]
            · rw [e_sp1_31, rSgP_1 (rSgR_1 q), e_sp1_17]
              omega) (by
          try dsimp only
          rw [if_neg c13]
          split <;> omega) _ _ _ hP hD hS (lv_sub hl [0, 1] rfl)
    · refine lv_aload_n hx hb dX8_fault_23 rfl (lv_at hl 1 rfl) ?_
      refine va_get (D := G) (ci := 8) (v := .int (nI sp1_17)) (C := RX8) (T := TX8) (N := 14) hx hb hts iX8 hown hK hP 0 rfl rfl 10 (by decide) k_160 (fun _ h9 => h9) rfl dX8_fault_24 ?_
      exact W.iret hx hb hr (zEi (sp1_17, nu1_17) (by
          rw [← h16.1, qFa_fail h16.2 c20, e_sp1_17]) hP hD hS) hS.2.2 dX8_fault_27

set_option maxHeartbeats 4000000 in
set_option maxRecDepth 100000 in
theorem m_X8_carryOut (l : Launch) (G : va_G) (Z : Nat → ClassId) (sz : Nat) (b : Nat → Nat) (al : Nat → Int32) (ke : Nat → Int32) (hs : Nat → Int32) (hq : Nat) (sl : Nat → Int32) (sa : Nat → Int32) (off : Int32) (car : Int32) (pa : Nat → Int32) (pq : Nat) (sp : Nat) (nu : Int32) (dn : Int32) (er : Int32) (L : Nat) (hpq : pq ≤ 80) (hhq : hq ≤ 6) (hL : al 9 = nI L) (hL8 : L ≤ 48) : Met l yX8_carryOut wsX8_carryOut ({ frames := 7, cells := 0, slots := 0, locals := 155 }) (va_Pc [.ref (b 0)] (zWP G Z sz (mk Z b (al, ke, hs, hq, sl, sa, off, car, pa, pq, sp, nu, dn, er)))) (va_Qi (fun (r : Int32) (u : (Nat → Int32) × (Nat → Int32) × (Nat → Int32) × Nat × Int32 × Int32 × Nat × Nat × Int32 × Int32 × Int32) => r = (if qFa pa pq 80 0 = -6 then (mRun pa pq 80 0 al 0).2 else -3) ∧ u.1 = (if qFa pa pq 80 0 = -6 then (mRun pa pq 80 0 al 0).1 else al) ∧ u.2.2.1 = (if qFa pa pq 80 0 = -6 then mHs hs al hq else hs) ∧ u.2.2.2.1 = (if qFa pa pq 80 0 = -6 then mHq hq else hq) ∧ u.2.2.2.2.2.2.1 = (if qFa pa pq 80 0 = -6 then 0 else pq)) (fun (u : (Nat → Int32) × (Nat → Int32) × (Nat → Int32) × Nat × Int32 × Int32 × Nat × Nat × Int32 × Int32 × Int32) t => zB G (va_A (mk Z b (al, ke, hs, hq, sl, sa, off, car, pa, pq, sp, nu, dn, er)) sz) (mk Z b (u.1, u.2.1, u.2.2.1, u.2.2.2.1, sl, sa, u.2.2.2.2.1, u.2.2.2.2.2.1, pa, u.2.2.2.2.2.2.1, u.2.2.2.2.2.2.2.1, u.2.2.2.2.2.2.2.2.1, u.2.2.2.2.2.2.2.2.2.1, u.2.2.2.2.2.2.2.2.2.2)) t) (va_A (mk Z b (al, ke, hs, hq, sl, sa, off, car, pa, pq, sp, nu, dn, er)) sz)) 0 0 (va_A (mk Z b (al, ke, hs, hq, sl, sa, off, car, pa, pq, sp, nu, dn, er)) sz) := by
  refine Met.ofW (cc := cX8_carryOut) (maxL := 4) (ret := (some .int)) (by decide) rfl ?_
  intro p e s m args below meth c s₁ B hml hv
  have hx := B.exec
  have hb := B.bytes
  have hr := B.returns
  have hts := atoms_spec (ws := wsX8_carryOut) B.pre
  have hown : s.vm.findClass RX8 = some m.cls := findClass_of_methodNamed B.named
  have hlocks := B.notSynchronized
  obtain ⟨rfl, hsz, hP, hK, hD, hA, hS, hSW⟩ := zEnter hv
  subst hsz
  generalize va_A (mk Z b (al, ke, hs, hq, sl, sa, off, car, pa, pq, sp, nu, dn, er)) s.heap.size = A at hD hA hS hSW ⊢
  have k_160 := hts (.fieldLink RX8 160 "WarmRodsModel" "spot" "I") (List.mem_of_getElem? (i := 1) rfl)
  have iX8 : ∀ w ∈ u_ws RX8 TX8 14, w ∈ wsX8_carryOut := fun _ h => List.mem_cons_of_mem _ (List.mem_append_right _ h)
  have k_181 := hts (.fieldLink RX8 181 "WarmRodsModel" "isDone" "Z") (List.mem_of_getElem? (i := 2) rfl)
  have k_175 := hts (.fieldLink RX8 175 "WarmRodsModel" "error" "I") (List.mem_of_getElem? (i := 3) rfl)
  have k_125 := hts (.fieldLink RX8 125 "WarmRodsModel" "padLong" "I") (List.mem_of_getElem? (i := 4) rfl)
  have hP : va_P G vwCl (mk Z b (al, ke, hs, hq, sl, sa, off, car, pa, pq, sp, nu, dn, er)) s.heap := hP
  have hl := lv_entry ([.ref (b 0)]) (n := 4) (Nat.le_of_ble_eq_true rfl)
  rw [lg_entry_eq]
  generalize (lg_sl ([.ref (b 0)]) ++ List.replicate (4 - (lg_sl ([.ref (b 0)])).length) Slot.unset).toArray = ls at hl ⊢
  have hl : lv_has ls 4 [(0, .ref (b 0))] := hl
  refine lv_aload_n hx hb dX8_carryOut_0 rfl (lv_at hl 0 rfl) ?_
  refine zCi (S := Nat × Int32) (ws1 := fun u => mk Z b (al, ke, hs, hq, sl, sa, off, car, pa, pq, u.1, u.2, 0, er)) (wr := []) (va_runV (As := []) (rest := []) ⟨hx, hb, hml, hown, hts⟩ (m_X8_fault l G Z _ b al ke hs hq sl sa off car pa pq sp nu dn er (by
      exact hpq)) (cwV 0 hts gX8_carryOut_X8_fault rfl rfl rfl (by decide +kernel) ⟨Nat.le_of_ble_eq_true rfl, Nat.le_of_ble_eq_true rfl⟩) (zPreV hK hP hD hS hA hSW [0, 1, 2, 3, 4, 5, 6] rfl (by decide) 0 (ci := 8) rfl rfl rfl) rfl rfl hl.1 rfl (lv_room (Nat.le_of_ble_eq_true rfl)) dX8_carryOut_1 ⟨Nat.le_of_ble_eq_true rfl, Nat.le_of_ble_eq_true rfl⟩) hP hD hS hA [0, 1, 2, 3, 4, 5, 6] [] [0, 1, 2, 3, 4, 5, 6] rfl rfl (by decide) (by decide) (by decide) (fun _ => rfl) (fun r1 u H locs hw1 hP hD hS => ?_)
  obtain ⟨sp1_1, nu1_1⟩ := u
  try dsimp only at hw1
  subst hw1
  have hP : va_P G vwCl (mk Z b (al, ke, hs, hq, sl, sa, off, car, pa, pq, sp1_1, nu1_1, 0, er)) H := hP
  have hD : va_D A (mk Z b (al, ke, hs, hq, sl, sa, off, car, pa, pq, sp1_1, nu1_1, 0, er)) := hD
  refine lv_bipush (v := (-6)) hx hb dX8_carryOut_4 (by decide) ?_
  refine lv_icmp_eq (tgt := 12) hx hb dX8_carryOut_6 (by decide) (fun c6 => ?_) (fun c6 => ?_)
  · refine lv_aload_n hx hb dX8_carryOut_12 rfl (lv_at hl 0 rfl) ?_
    refine zCv (S := Unit) (ws1 := fun u => mk Z b (al, (mCp al ke 347), hs, hq, sl, sa, off, car, pa, pq, sp1_1, nu1_1, 0, er)) (wr := []) (va_runV (As := []) (rest := []) ⟨hx, hb, hml, hown, hts⟩ (m_X8_keep l G Z _ b al ke hs hq sl sa off car pa pq sp1_1 nu1_1 0 er) (cwV 0 hts gX8_carryOut_X8_keep rfl rfl rfl (by decide +kernel) ⟨Nat.le_of_ble_eq_true rfl, Nat.le_of_ble_eq_true rfl⟩) (zPreV hK hP hD hS hA hSW [0, 1, 2, 3, 4, 5, 6] rfl (by decide) 0 (ci := 8) rfl rfl rfl) rfl rfl hl.1 rfl (lv_room (Nat.le_of_ble_eq_true rfl)) dX8_carryOut_13 ⟨Nat.le_of_ble_eq_true rfl, Nat.le_of_ble_eq_true rfl⟩) hP hD hS hA [0, 1, 2, 3, 4, 5, 6] [] [0, 1, 2, 3, 4, 5, 6] rfl rfl (by decide) (by decide) (by decide) (fun _ => rfl) (fun u H locs hw13 hP hD hS => ?_)
    try dsimp only at hw13
    have hP : va_P G vwCl (mk Z b (al, (mCp al ke 347), hs, hq, sl, sa, off, car, pa, pq, sp1_1, nu1_1, 0, er)) H := hP
    have hD : va_D A (mk Z b (al, (mCp al ke 347), hs, hq, sl, sa, off, car, pa, pq, sp1_1, nu1_1, 0, er)) := hD
    refine lv_aload_n hx hb dX8_carryOut_16 rfl (lv_at hl 0 rfl) ?_
    refine lv_iconst (v := 0) hx hb dX8_carryOut_17 (by decide) ?_
    refine va_put (D := G) (ci := 8) (v := .int 0) (ty := .int) (C := RX8) (T := TX8) (N := 14) hx hb hts iX8 tyX8 tyX8_ok nmX8 hown hK hP hD hS 0 rfl rfl 10 (by decide) k_160 (fun _ h9 => h9) rfl (by decide +kernel) rfl rfl (Nat.le_of_ble_eq_true rfl) dX8_carryOut_18 (fun H locs hP hD hS => ?_)
    have hP : va_P G vwCl (mk Z b (al, (mCp al ke 347), hs, hq, sl, sa, off, car, pa, pq, 0, nu1_1, 0, er)) H := hP
    have hD : va_D A (mk Z b (al, (mCp al ke 347), hs, hq, sl, sa, off, car, pa, pq, 0, nu1_1, 0, er)) := hD
    refine lv_aload_n hx hb dX8_carryOut_21 rfl (lv_at hl 0 rfl) ?_
    refine lv_iconst (v := 1) hx hb dX8_carryOut_22 (by decide) ?_
    refine va_put (D := G) (ci := 8) (v := .int 1) (ty := .boolean) (C := RX8) (T := TX8) (N := 14) hx hb hts iX8 tyX8 tyX8_ok nmX8 hown hK hP hD hS 0 rfl rfl 12 (by decide) k_181 (fun _ h9 => h9) rfl (by decide +kernel) rfl rfl (Nat.le_of_ble_eq_true rfl) dX8_carryOut_23 (fun H locs hP hD hS => ?_)
    have hP : va_P G vwCl (mk Z b (al, (mCp al ke 347), hs, hq, sl, sa, off, car, pa, pq, 0, nu1_1, 1, er)) H := hP
    have hD : va_D A (mk Z b (al, (mCp al ke 347), hs, hq, sl, sa, off, car, pa, pq, 0, nu1_1, 1, er)) := hD
    refine lv_aload_n hx hb dX8_carryOut_26 rfl (lv_at hl 0 rfl) ?_
    refine lv_iconst (v := 0) hx hb dX8_carryOut_27 (by decide) ?_
    refine va_put (D := G) (ci := 8) (v := .int 0) (ty := .int) (C := RX8) (T := TX8) (N := 14) hx hb hts iX8 tyX8 tyX8_ok nmX8 hown hK hP hD hS 0 rfl rfl 13 (by decide) k_175 (fun _ h9 => h9) rfl (by decide +kernel) rfl rfl (Nat.le_of_ble_eq_true rfl) dX8_carryOut_28 (fun H locs hP hD hS => ?_)
    have hP : va_P G vwCl (mk Z b (al, (mCp al ke 347), hs, hq, sl, sa, off, car, pa, pq, 0, nu1_1, 1, 0)) H := hP
    have hD : va_D A (mk Z b (al, (mCp al ke 347), hs, hq, sl, sa, off, car, pa, pq, 0, nu1_1, 1, 0)) := hD
    refine lv_iconst (v := 0) hx hb dX8_carryOut_31 (by decide) ?_
    refine lv_istore_n (lv' := [(1, .int 0), (0, .ref (b 0))]) hx hb dX8_carryOut_32 rfl hl (by decide) rfl (fun ls hl => ?_)
    refine lv_iconst (v := 1) hx hb dX8_carryOut_33 (by decide) ?_
    refine lv_istore_n (lv' := [(2, .int 1), (1, .int 0), (0, .ref (b 0))]) hx hb dX8_carryOut_34 rfl hl (by decide) rfl (fun ls hl => ?_)
    refine zLoop (σ := Nat × Nat × (Nat → Int32) × Int32 × Int32 × Int32 × Int32 × Int32 × Int32) (nL := 4) (fun zx => mk Z b (zx.2.2.1, (mCp al ke 347), hs, hq, sl, sa, zx.2.2.2.1, zx.2.2.2.2.1, pa, pq, zx.2.1, zx.2.2.2.2.2.1, 1, zx.2.2.2.2.2.2.1)) (fun zx => [(2, .int zx.2.2.2.2.2.2.2.2), (1, .int zx.2.2.2.2.2.2.2.1), (0, .ref (b 0))]) (fun zx => ((zx.2.2.2.2.2.2.2.2 = 1 ∧ mRun pa pq zx.1 zx.2.1 zx.2.2.1 zx.2.2.2.2.2.2.2.1 = mRun pa pq 80 0 al 0 ∧ qFa pa pq zx.1 zx.2.1 = -6 ∧ 80 ≤ zx.1 + zx.2.1) ∨ (zx.2.2.2.2.2.2.2.2 = 0 ∧ (zx.2.2.1, zx.2.2.2.2.2.2.2.1) = mRun pa pq 80 0 al 0)) ∧ zx.2.1 ≤ 80 ∧ zx.2.2.1 9 = nI (zx.2.2.1 9).toNatClampNeg ∧ (zx.2.2.1 9).toNatClampNeg ≤ 48) (fun zx => (if zx.2.2.2.2.2.2.2.2 = 0 then 0 else zx.1 + 1)) ?_ (80, 0, al, off, car, nu1_1, 0, 0, 1) (by
        try dsimp only
        have hq : al 9 = nI (al 9).toNatClampNeg ∧ (al 9).toNatClampNeg ≤ 48 := by rw [hL, nI_clamp (by omega)]; exact ⟨rfl, hL8⟩
        exact ⟨Or.inl ⟨rfl, rfl, c6, by decide⟩, by decide, hq⟩) hP hD hS (lv_sub hl [0, 1, 2] rfl)
    intro zx hinv35 ih35 H locs ls hP hD hS hl
    obtain ⟨f, sq, al2, oo, cc2, nn, ee, nc, g⟩ := zx
    try dsimp only at hinv35 ih35
    have hP : va_P G vwCl (mk Z b (al2, (mCp al ke 347), hs, hq, sl, sa, oo, cc2, pa, pq, sq, nn, 1, ee)) H := hP
    have hD : va_D A (mk Z b (al2, (mCp al ke 347), hs, hq, sl, sa, oo, cc2, pa, pq, sq, nn, 1, ee)) := hD
    have hl : lv_has ls 4 [(2, .int g), (1, .int nc), (0, .ref (b 0))] := hl
    refine lv_iload_n hx hb dX8_carryOut_35 rfl (lv_at hl 0 rfl) ?_
    refine lv_if_eq (tgt := 84) hx hb dX8_carryOut_36 (by decide) (fun c36 => ?_) (fun c36 => ?_)
    · refine lv_aload_n hx hb dX8_carryOut_84 rfl (lv_at hl 2 rfl) ?_
      refine lv_iconst (v := 0) hx hb dX8_carryOut_85 (by decide) ?_
      refine va_put (D := G) (ci := 8) (v := .int 0) (ty := .int) (C := RX8) (T := TX8) (N := 14) hx hb hts iX8 tyX8 tyX8_ok nmX8 hown hK hP hD hS 0 rfl rfl 9 (by decide) k_125 (fun _ h9 => h9) rfl (by decide +kernel) rfl rfl (Nat.le_of_ble_eq_true rfl) dX8_carryOut_86 (fun H locs hP hD hS => ?_)
      have hP : va_P G vwCl (mk Z b (al2, (mCp al ke 347), hs, hq, sl, sa, oo, cc2, pa, 0, sq, nn, 1, ee)) H := hP
      have hD : va_D A (mk Z b (al2, (mCp al ke 347), hs, hq, sl, sa, oo, cc2, pa, 0, sq, nn, 1, ee)) := hD
      refine lv_aload_n hx hb dX8_carryOut_89 rfl (lv_at hl 2 rfl) ?_
      refine lv_iload_n hx hb dX8_carryOut_90 rfl (lv_at hl 1 rfl) ?_
      refine zCi (S := (Nat → Int32) × Nat) (ws1 := fun u => mk Z b (al2, (mCp al ke 347), u.1, u.2, sl, sa, oo, cc2, pa, 0, sq, nn, 1, ee)) (wr := []) (va_runV (As := [.int nc]) (rest := []) ⟨hx, hb, hml, hown, hts⟩ (m_X8_changed l G Z _ b al2 (mCp al ke 347) hs hq sl sa oo cc2 pa 0 sq nn 1 ee nc (by
          exact hhq)) (cwV 1 hts gX8_carryOut_X8_changed rfl rfl rfl (by decide +kernel) ⟨Nat.le_of_ble_eq_true rfl, Nat.le_of_ble_eq_true rfl⟩) (zPreV hK hP hD hS hA hSW [0, 1, 2, 3, 4, 5, 6] rfl (by decide) 0 (ci := 8) rfl rfl rfl) rfl rfl hl.1 rfl (lv_room (Nat.le_of_ble_eq_true rfl)) dX8_carryOut_91 ⟨Nat.le_of_ble_eq_true rfl, Nat.le_of_ble_eq_true rfl⟩) hP hD hS hA [0, 1, 2, 3, 4, 5, 6] [] [0, 1, 2, 3, 4, 5, 6] rfl rfl (by decide) (by decide) (by decide) (fun _ => rfl) (fun r91 u H locs hw91 hP hD hS => ?_)
      obtain ⟨hs1_91, hq1_91⟩ := u
      try dsimp only at hw91
      obtain ⟨rfl, rfl, rfl⟩ := hw91
      have hP : va_P G vwCl (mk Z b (al2, (mCp al ke 347), (mHs hs (mCp al ke 347) hq), (mHq hq), sl, sa, oo, cc2, pa, 0, sq, nn, 1, ee)) H := hP
      have hD : va_D A (mk Z b (al2, (mCp al ke 347), (mHs hs (mCp al ke 347) hq), (mHq hq), sl, sa, oo, cc2, pa, 0, sq, nn, 1, ee)) := hD
      exact W.iret hx hb hr (zEi (al2, (mCp al ke 347), (mHs hs (mCp al ke 347) hq), (mHq hq), oo, cc2, 0, sq, nn, 1, ee) (by
          have h38 := (hinv35.1.resolve_left (fun q => absurd (q.1.symm.trans c36) (by decide))).2
          simp only [c6, ← h38, mHs_cp, ↓reduceIte, and_self]) hP hD hS) hS.2.2 dX8_carryOut_94
    · have h16 := (hinv35.1.resolve_right (fun q => c36 q.1)).2
      obtain ⟨hok1, f0, hf0, hst⟩ := qOk_step hinv35.2.1 h16.2.2 h16.2.1
      have h31 := h16.1
      rw [hf0, mRun] at h31
      refine lv_aload_n hx hb dX8_carryOut_39 rfl (lv_at hl 2 rfl) ?_
      refine zCi (S := Nat × Int32 × (Nat → Int32) × Int32 × Int32 × Int32) (ws1 := fun u => mk Z b (u.2.2.1, (mCp al ke 347), hs, hq, sl, sa, u.2.2.2.2.1, u.2.2.2.2.2, pa, pq, u.1, u.2.1, 1, u.2.2.2.1)) (wr := []) (va_runV (As := []) (rest := []) ⟨hx, hb, hml, hown, hts⟩ (m_X8_readsOrder1 l G Z _ b al2 (mCp al ke 347) hs hq sl sa oo cc2 pa pq sq nn ee ((al2 9).toNatClampNeg) (by
          exact hinv35.2.1) (by
          exact hpq) (by
          exact hinv35.2.2.1) (by
          exact hinv35.2.2.2) (by
          exact hok1)) (cwV 0 hts gX8_carryOut_X8_readsOrder rfl rfl rfl (by decide +kernel) ⟨Nat.le_of_ble_eq_true rfl, Nat.le_of_ble_eq_true rfl⟩) (zPreV hK hP hD hS hA hSW [0, 1, 2, 3, 4, 5, 6] rfl (by decide) 0 (ci := 8) rfl rfl rfl) rfl rfl hl.1 rfl (lv_room (Nat.le_of_ble_eq_true rfl)) dX8_carryOut_40 ⟨Nat.le_of_ble_eq_true rfl, Nat.le_of_ble_eq_true rfl⟩) hP hD hS hA [0, 1, 2, 3, 4, 5, 6] [] [0, 1, 2, 3, 4, 5, 6] rfl rfl (by decide) (by decide) (by decide) (fun _ => rfl) (fun r40 u H locs hw40 hP hD hS => ?_)
      obtain ⟨sp1_40, nu1_40, al1_40, er1_40, o1_40, c1_40⟩ := u
      try dsimp only at hw40
      obtain ⟨rfl, e_sp1_40, e_al1_40, e_er1_40⟩ := hw40
      have hP : va_P G vwCl (mk Z b (al1_40, (mCp al ke 347), hs, hq, sl, sa, o1_40, c1_40, pa, pq, sp1_40, nu1_40, 1, er1_40)) H := hP
      have hD : va_D A (mk Z b (al1_40, (mCp al ke 347), hs, hq, sl, sa, o1_40, c1_40, pa, pq, sp1_40, nu1_40, 1, er1_40)) := hD
      have h30 : sp1_40 ≤ 80 := by rw [e_sp1_40]; exact rOrd_le hinv35.2.1
      refine lv_istore_n (lv' := [(3, .int 1), (2, .int g), (1, .int nc), (0, .ref (b 0))]) hx hb dX8_carryOut_43 rfl hl (by decide) rfl (fun ls hl => ?_)
      refine lv_iload_n hx hb dX8_carryOut_44 rfl (lv_at hl 2 rfl) ?_
      refine lv_aload_n hx hb dX8_carryOut_45 rfl (lv_at hl 3 rfl) ?_
      refine va_get (D := G) (ci := 8) (v := .int er1_40) (C := RX8) (T := TX8) (N := 14) hx hb hts iX8 hown hK hP 0 rfl rfl 13 (by decide) k_175 (fun _ h9 => h9) rfl dX8_carryOut_46 ?_
      refine lv_if_ne (tgt := 56) hx hb dX8_carryOut_49 (by decide) (fun c49 => ?_) (fun c49 => ?_)
      · refine lv_iconst (v := 0) hx hb dX8_carryOut_56 (by decide) ?_
        refine lv_iadd hx hb dX8_carryOut_57 ?_
        refine lv_istore_n (lv' := [(1, .int (nc + 0)), (3, .int 1), (2, .int g), (0, .ref (b 0))]) hx hb dX8_carryOut_58 rfl hl (by decide) rfl (fun ls hl => ?_)
        refine lv_aload_n hx hb dX8_carryOut_59 rfl (lv_at hl 3 rfl) ?_
        refine va_get (D := G) (ci := 8) (v := .int er1_40) (C := RX8) (T := TX8) (N := 14) hx hb hts iX8 hown hK hP 0 rfl rfl 13 (by decide) k_175 (fun _ h9 => h9) rfl dX8_carryOut_60 ?_
        refine lv_if_ne (tgt := 79) hx hb dX8_carryOut_63 (by decide) (fun c63 => ?_) (fun c63 => (c49 c63).elim)
        refine lv_iconst (v := 0) hx hb dX8_carryOut_79 (by decide) ?_
        refine lv_istore_n (lv' := [(2, .int 0), (1, .int (nc + 0)), (3, .int 1), (0, .ref (b 0))]) hx hb dX8_carryOut_80 rfl hl (by decide) rfl (fun ls hl => ?_)
        refine lv_goto (tgt := 35) hx hb dX8_carryOut_81 (by decide) ?_
        exact ih35 (f0, sp1_40, al1_40, o1_40, c1_40, nu1_40, er1_40, (nc + 0), 0) (by
            try dsimp only
            have hn9 : al1_40 9 = nI (al1_40 9).toNatClampNeg ∧ (al1_40 9).toNatClampNeg ≤ 48 := by rw [e_al1_40]; exact mActA_9 hinv35.2.2.1 hinv35.2.2.2 _
            rw [e_er1_40] at c49
            rw [if_neg c49] at h31
            exact ⟨Or.inr ⟨rfl, by rw [← h31, e_al1_40, Int32.add_zero]⟩, h30, hn9⟩) (by
            try dsimp only
            rw [if_neg c36, hf0]
            rw [if_pos rfl]
            omega) _ _ _ hP hD hS (lv_sub hl [0, 1, 3] rfl)
      · refine lv_iconst (v := 1) hx hb dX8_carryOut_52 (by decide) ?_
        refine lv_goto (tgt := 57) hx hb dX8_carryOut_53 (by decide) ?_
        refine lv_iadd hx hb dX8_carryOut_57 ?_
        refine lv_istore_n (lv' := [(1, .int (nc + 1)), (3, .int 1), (2, .int g), (0, .ref (b 0))]) hx hb dX8_carryOut_58 rfl hl (by decide) rfl (fun ls hl => ?_)
        refine lv_aload_n hx hb dX8_carryOut_59 rfl (lv_at hl 3 rfl) ?_
        refine va_get (D := G) (ci := 8) (v := .int er1_40) (C := RX8) (T := TX8) (N := 14) hx hb hts iX8 hown hK hP 0 rfl rfl 13 (by decide) k_175 (fun _ h9 => h9) rfl dX8_carryOut_60 ?_
        refine lv_if_ne (tgt := 79) hx hb dX8_carryOut_63 (by decide) (fun c63 => (c63 c49).elim) (fun c63 => ?_)
        refine lv_aload_n hx hb dX8_carryOut_66 rfl (lv_at hl 3 rfl) ?_
        refine lv_bipush (v := 59) hx hb dX8_carryOut_67 (by decide) ?_
        refine zCi (S := Nat) (ws1 := fun u => mk Z b (al1_40, (mCp al ke 347), hs, hq, sl, sa, o1_40, c1_40, pa, pq, u, nu1_40, 1, er1_40)) (wr := []) (va_runV (As := [.int 59]) (rest := []) ⟨hx, hb, hml, hown, hts⟩ (m_X8_takes l G Z _ b al1_40 (mCp al ke 347) hs hq sl sa o1_40 c1_40 pa pq sp1_40 nu1_40 1 er1_40 59 (by
            exact h30) (by
            exact hpq) (by
            decide)) (cwV 1 hts gX8_carryOut_X8_takes rfl rfl rfl (by decide +kernel) ⟨Nat.le_of_ble_eq_true rfl, Nat.le_of_ble_eq_true rfl⟩) (zPreV hK hP hD hS hA hSW [0, 1, 2, 3, 4, 5, 6] rfl (by decide) 0 (ci := 8) rfl rfl rfl) rfl rfl hl.1 rfl (lv_room (Nat.le_of_ble_eq_true rfl)) dX8_carryOut_69 ⟨Nat.le_of_ble_eq_true rfl, Nat.le_of_ble_eq_true rfl⟩) hP hD hS hA [0, 1, 2, 3, 4, 5, 6] [] [0, 1, 2, 3, 4, 5, 6] rfl rfl (by decide) (by decide) (by decide) (fun _ => rfl) (fun r69 u H locs hw69 hP hD hS => ?_)
        obtain ⟨sp1_69, rfl⟩ : ∃ z, z = u := ⟨_, rfl⟩
        try dsimp only at hw69
        obtain ⟨rfl, e_sp1_69⟩ := hw69
        have hP : va_P G vwCl (mk Z b (al1_40, (mCp al ke 347), hs, hq, sl, sa, o1_40, c1_40, pa, pq, sp1_69, nu1_40, 1, er1_40)) H := hP
        have hD : va_D A (mk Z b (al1_40, (mCp al ke 347), hs, hq, sl, sa, o1_40, c1_40, pa, pq, sp1_69, nu1_40, 1, er1_40)) := hD
        refine lv_if_eq (tgt := 79) hx hb dX8_carryOut_72 (by decide) (fun c72 => ?_) (fun c72 => ?_)
        · refine lv_iconst (v := 0) hx hb dX8_carryOut_79 (by decide) ?_
          refine lv_istore_n (lv' := [(2, .int 0), (1, .int (nc + 1)), (3, .int 1), (0, .ref (b 0))]) hx hb dX8_carryOut_80 rfl hl (by decide) rfl (fun ls hl => ?_)
          refine lv_goto (tgt := 35) hx hb dX8_carryOut_81 (by decide) ?_
          exact ih35 (f0, sp1_69, al1_40, o1_40, c1_40, nu1_40, er1_40, (nc + 1), 0) (by
              try dsimp only
              have hn9 : al1_40 9 = nI (al1_40 9).toNatClampNeg ∧ (al1_40 9).toNatClampNeg ≤ 48 := by rw [e_al1_40]; exact mActA_9 hinv35.2.2.1 hinv35.2.2.2 _
              rw [e_er1_40] at c49
              rw [if_pos c49] at h31
              have h32 : sp1_69 ≤ 80 := by rw [e_sp1_69]; exact rSgP_le (by decide) h30
              rw [e_sp1_40] at c72
              rw [if_pos c72] at h31
              exact ⟨Or.inr ⟨rfl, by rw [← h31, e_al1_40]⟩, h32, hn9⟩) (by
              try dsimp only
              rw [if_neg c36, hf0]
              rw [if_pos rfl]
              omega) _ _ _ hP hD hS (lv_sub hl [0, 1, 3] rfl)
        · refine lv_iconst (v := 1) hx hb dX8_carryOut_75 (by decide) ?_
          refine lv_goto (tgt := 80) hx hb dX8_carryOut_76 (by decide) ?_
          refine lv_istore_n (lv' := [(2, .int 1), (1, .int (nc + 1)), (3, .int 1), (0, .ref (b 0))]) hx hb dX8_carryOut_80 rfl hl (by decide) rfl (fun ls hl => ?_)
          refine lv_goto (tgt := 35) hx hb dX8_carryOut_81 (by decide) ?_
          exact ih35 (f0, sp1_69, al1_40, o1_40, c1_40, nu1_40, er1_40, (nc + 1), 1) (by
              try dsimp only
              have hn9 : al1_40 9 = nI (al1_40 9).toNatClampNeg ∧ (al1_40 9).toNatClampNeg ≤ 48 := by rw [e_al1_40]; exact mActA_9 hinv35.2.2.1 hinv35.2.2.2 _
              rw [e_er1_40] at c49
              rw [if_pos c49] at h31
              have h32 : sp1_69 ≤ 80 := by rw [e_sp1_69]; exact rSgP_le (by decide) h30
              rw [e_sp1_40] at c72
              rw [if_neg c72] at h31
              have h33 := hst c72
              rw [← e_sp1_40, ← e_sp1_69] at h33
              refine ⟨Or.inl ⟨rfl, ?_, h33.1, h33.2⟩, h32, hn9⟩
              rw [← h31, e_al1_40, e_sp1_69, e_sp1_40]) (by
              try dsimp only
              rw [if_neg c36, hf0]
              rw [if_neg (by decide)]
              omega) _ _ _ hP hD hS (lv_sub hl [0, 1, 3] rfl)
  · refine lv_bipush (v := (-3)) hx hb dX8_carryOut_9 (by decide) ?_
    exact W.iret hx hb hr (zEi (al, ke, hs, hq, off, car, pq, sp1_1, nu1_1, 0, er) (by
        simp only [c6, ↓reduceIte, and_self]) hP hD hS) hS.2.2 dX8_carryOut_11
