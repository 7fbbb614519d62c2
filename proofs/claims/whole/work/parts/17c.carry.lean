set_option maxHeartbeats 4000000 in
set_option maxRecDepth 100000 in
theorem m_X7_carryOut (l : Launch) (G : va_G) (Z : Nat → ClassId) (sz : Nat) (h : Nat) (a : Nat → Nat) (cd : Nat → Nat) (s1 : Nat) (s2 : Nat) (d : Nat → Nat) (g : Nat) (v : CV) (kp : Nat) (Y : HV) (w : RV) (hkp : kp ≤ 6) (hle : w.2.1 ≤ 80) : Met l yX7_carryOut wsX7_carryOut ({ frames := 6, cells := 0, slots := 0, locals := 136 }) (va_Pc [.ref h] (zWP G Z sz ([(h, .inr (7, [.ref (a 0), .ref (cd 0), .ref s1, .ref s2, .ref (d 0), .ref g]))] ++ (ck Z a v ++ (hk Z cd (kp, Y) ++ rk Z d w))))) (va_Qi (fun (r : Int32) (u : CV × Nat × HV × RV) => r = (if (rFa 80 (rAt w 0)).1 = -6 then (cRun 80 v (rAt (rFa 80 (rAt w 0)).2 0) 0).2.1 else -3) ∧ u.1 = (if (rFa 80 (rAt w 0)).1 = -6 then (cRun 80 v (rAt (rFa 80 (rAt w 0)).2 0) 0).1 else v) ∧ u.2.1 = (if (rFa 80 (rAt w 0)).1 = -6 then hKp kp else kp) ∧ u.2.2.1 = (if (rFa 80 (rAt w 0)).1 = -6 then hRec Y v else Y) ∧ u.2.2.2 = (if (rFa 80 (rAt w 0)).1 = -6 then ((cRun 80 v (rAt (rFa 80 (rAt w 0)).2 0) 0).2.2.1, 0, (cRun 80 v (rAt (rFa 80 (rAt w 0)).2 0) 0).2.2.2.2) else (rFa 80 (rAt w 0)).2)) (fun (u : CV × Nat × HV × RV) t => zB G (va_A ([(h, .inr (7, [.ref (a 0), .ref (cd 0), .ref s1, .ref s2, .ref (d 0), .ref g]))] ++ (ck Z a v ++ (hk Z cd (kp, Y) ++ rk Z d w))) sz) ([(h, .inr (7, [.ref (a 0), .ref (cd 0), .ref s1, .ref s2, .ref (d 0), .ref g]))] ++ (ck Z a u.1 ++ (hk Z cd (u.2.1, u.2.2.1) ++ rk Z d u.2.2.2))) t) (va_A ([(h, .inr (7, [.ref (a 0), .ref (cd 0), .ref s1, .ref s2, .ref (d 0), .ref g]))] ++ (ck Z a v ++ (hk Z cd (kp, Y) ++ rk Z d w))) sz)) 0 0 (va_A ([(h, .inr (7, [.ref (a 0), .ref (cd 0), .ref s1, .ref s2, .ref (d 0), .ref g]))] ++ (ck Z a v ++ (hk Z cd (kp, Y) ++ rk Z d w))) sz) := by
  refine Met.ofW (cc := cX7_carryOut) (maxL := 3) (ret := (some .int)) (by decide) rfl ?_
  intro p e s m args below meth c s₁ B hml hv
  have hx := B.exec
  have hb := B.bytes
  have hr := B.returns
  have hts := atoms_spec (ws := wsX7_carryOut) B.pre
  have hown : s.vm.findClass RX7 = some m.cls := findClass_of_methodNamed B.named
  have hlocks := B.notSynchronized
  obtain ⟨rfl, hsz, hP, hK, hD, hA, hS, hSW⟩ := zEnter hv
  subst hsz
  generalize va_A ([(h, .inr (7, [.ref (a 0), .ref (cd 0), .ref s1, .ref s2, .ref (d 0), .ref g]))] ++ (ck Z a v ++ (hk Z cd (kp, Y) ++ rk Z d w))) s.heap.size = A at hD hA hS hSW ⊢
  have k_36 := hts (.fieldLink RX7 36 "WarmRods" "reader" "LWarmRods$Reader;") (List.mem_of_getElem? (i := 1) rfl)
  have iX7 : ∀ w ∈ u_ws RX7 TX7 6, w ∈ wsX7_carryOut := fun _ h => List.mem_cons_of_mem _ (List.mem_append_left _ (List.mem_append_left _ (List.mem_append_left _ (List.mem_append_left _ (List.mem_append_left _ (List.mem_append_left _ (List.mem_append_right _ h)))))))
  have k_19 := hts (.fieldLink RX7 19 "WarmRods" "history" "LWarmRods$History;") (List.mem_of_getElem? (i := 2) rfl)
  have k_10 := hts (.fieldLink RX7 10 "WarmRods" "clock" "LWarmRods$Clock;") (List.mem_of_getElem? (i := 3) rfl)
  have k_118 : (Cond.fieldLinkNest RX7 118 "WarmRods$Reader" "pad" "LWarmRods$Pad;" "WarmRods").before (#[.ref h] : Array Value) s = true := va_Nw.use rfl (hSW.1.1 _ (List.mem_of_getElem? (i := 19) rfl))
  have iX5 : ∀ w ∈ u_ws RX5 TX5 8, w ∈ wsX7_carryOut := fun _ h => List.mem_cons_of_mem _ (List.mem_append_left _ (List.mem_append_left _ (List.mem_append_left _ (List.mem_append_left _ (List.mem_append_left _ (List.mem_append_right _ h))))))
  have k_122 : (Cond.fieldLinkNest RX7 122 "WarmRods$Pad" "length" "I" "WarmRods").before (#[.ref h] : Array Value) s = true := va_Nw.use rfl (hSW.1.1 _ (List.mem_of_getElem? (i := 18) rfl))
  have iX4 : ∀ w ∈ u_ws RX4 TX4 2, w ∈ wsX7_carryOut := fun _ h => List.mem_cons_of_mem _ (List.mem_append_left _ (List.mem_append_left _ (List.mem_append_left _ (List.mem_append_left _ (List.mem_append_right _ h)))))
  have hP : va_P G vwCl ([(h, .inr (7, [.ref (a 0), .ref (cd 0), .ref s1, .ref s2, .ref (d 0), .ref g]))] ++ (ck Z a v ++ (hk Z cd (kp, Y) ++ rk Z d w))) s.heap := hP
  have hl := lv_entry ([.ref h]) (n := 3) (Nat.le_of_ble_eq_true rfl)
  rw [lg_entry_eq]
  generalize (lg_sl ([.ref h]) ++ List.replicate (3 - (lg_sl ([.ref h])).length) Slot.unset).toArray = ls at hl ⊢
  have hl : lv_has ls 3 [(0, .ref h)] := hl
  refine lv_aload_n hx hb dX7_carryOut_0 rfl (lv_at hl 0 rfl) ?_
  refine va_get (D := G) (ci := 7) (v := .ref (d 0)) (C := RX7) (T := TX7) (N := 6) hx hb hts iX7 hown hK hP 0 rfl rfl 4 (by decide) k_36 (fun _ h9 => h9) rfl dX7_carryOut_1 ?_
  refine zCi (S := RV) (ws1 := fun u => [(h, .inr (7, [.ref (a 0), .ref (cd 0), .ref s1, .ref s2, .ref (d 0), .ref g]))] ++ (ck Z a v ++ (hk Z cd (kp, Y) ++ rk Z d u))) (wr := [(h, .inr (7, [.ref (a 0), .ref (cd 0), .ref s1, .ref s2, .ref (d 0), .ref g]))] ++ (ck Z a v ++ hk Z cd (kp, Y))) (va_runV (As := []) (rest := []) ⟨hx, hb, hml, hown, hts⟩ (m_X5_firstFault l G Z _ d w (by
      exact hle)) (cwV 0 hts gX7_carryOut_X5_firstFault rfl rfl rfl (by decide +kernel) ⟨Nat.le_of_ble_eq_true rfl, Nat.le_of_ble_eq_true rfl⟩) (zPreV hK hP hD hS hA hSW [38, 39, 40] rfl (by decide) 38 (ci := 5) rfl rfl rfl) rfl rfl hl.1 rfl (lv_room (Nat.le_of_ble_eq_true rfl)) dX7_carryOut_4 ⟨Nat.le_of_ble_eq_true rfl, Nat.le_of_ble_eq_true rfl⟩) hP hD hS hA [38, 39, 40] [0, 1, 2, 3, 4, 5, 6, 7, 8, 9, 10, 11, 12, 13, 14, 15, 16, 17, 18, 19, 20, 21, 22, 23, 24, 25, 26, 27, 28, 29, 30, 31, 32, 33, 34, 35, 36, 37] [0, 1, 2, 3, 4, 5, 6, 7, 8, 9, 10, 11, 12, 13, 14, 15, 16, 17, 18, 19, 20, 21, 22, 23, 24, 25, 26, 27, 28, 29, 30, 31, 32, 33, 34, 35, 36, 37, 38, 39, 40] rfl rfl (by decide) (by decide) (by decide) (fun _ => rfl) (fun r4 u H locs hw4 hP hD hS => ?_)
  obtain ⟨v1_4, rfl⟩ : ∃ z, z = u := ⟨_, rfl⟩
  try dsimp only at hw4
  obtain ⟨rfl, rfl⟩ := hw4
  have hP : va_P G vwCl ([(h, .inr (7, [.ref (a 0), .ref (cd 0), .ref s1, .ref s2, .ref (d 0), .ref g]))] ++ (ck Z a v ++ (hk Z cd (kp, Y) ++ rk Z d ((rFa 80 (rAt w 0)).2)))) H := hP
  have hD : va_D A ([(h, .inr (7, [.ref (a 0), .ref (cd 0), .ref s1, .ref s2, .ref (d 0), .ref g]))] ++ (ck Z a v ++ (hk Z cd (kp, Y) ++ rk Z d ((rFa 80 (rAt w 0)).2)))) := hD
  refine lv_bipush (v := (-6)) hx hb dX7_carryOut_7 (by decide) ?_
  refine lv_icmp_eq (tgt := 15) hx hb dX7_carryOut_9 (by decide) (fun c9 => ?_) (fun c9 => ?_)
  · have hle2 : (rFa 80 (rAt w 0)).2.2.1 ≤ 80 := by rw [rFa_len]; exact hle
    refine lv_aload_n hx hb dX7_carryOut_15 rfl (lv_at hl 0 rfl) ?_
    refine va_get (D := G) (ci := 7) (v := .ref (cd 0)) (C := RX7) (T := TX7) (N := 6) hx hb hts iX7 hown hK hP 0 rfl rfl 1 (by decide) k_19 (fun _ h9 => h9) rfl dX7_carryOut_16 ?_
    refine lv_aload_n hx hb dX7_carryOut_19 rfl (lv_at hl 0 rfl) ?_
    refine va_get (D := G) (ci := 7) (v := .ref (a 0)) (C := RX7) (T := TX7) (N := 6) hx hb hts iX7 hown hK hP 0 rfl rfl 0 (by decide) k_10 (fun _ h9 => h9) rfl dX7_carryOut_20 ?_
    refine zCv (S := Nat × HV) (ws1 := fun u => [(h, .inr (7, [.ref (a 0), .ref (cd 0), .ref s1, .ref s2, .ref (d 0), .ref g]))] ++ (ck Z a v ++ (hk Z cd (u.1, u.2) ++ rk Z d ((rFa 80 (rAt w 0)).2)))) (wr := [(h, .inr (7, [.ref (a 0), .ref (cd 0), .ref s1, .ref s2, .ref (d 0), .ref g]))] ++ rk Z d ((rFa 80 (rAt w 0)).2)) (va_runV (As := [.ref (a 0)]) (rest := []) ⟨hx, hb, hml, hown, hts⟩ (m_X2_record l G Z _ cd kp Y a v (by
        exact hkp)) (cwV 1 hts gX7_carryOut_X2_record rfl rfl rfl (by decide +kernel) ⟨Nat.le_of_ble_eq_true rfl, Nat.le_of_ble_eq_true rfl⟩) (zPreV hK hP hD hS hA hSW [6, 7, 8, 9, 10, 11, 12, 13, 14, 15, 16, 17, 18, 19, 20, 21, 22, 23, 24, 25, 26, 27, 28, 29, 30, 31, 32, 33, 34, 35, 36, 37, 1, 2, 3, 4, 5] rfl (by decide) 6 (ci := 2) rfl rfl rfl) rfl rfl hl.1 rfl (lv_room (Nat.le_of_ble_eq_true rfl)) dX7_carryOut_23 ⟨Nat.le_of_ble_eq_true rfl, Nat.le_of_ble_eq_true rfl⟩) hP hD hS hA [6, 7, 8, 9, 10, 11, 12, 13, 14, 15, 16, 17, 18, 19, 20, 21, 22, 23, 24, 25, 26, 27, 28, 29, 30, 31, 32, 33, 34, 35, 36, 37, 1, 2, 3, 4, 5] [0, 38, 39, 40] [0, 36, 37, 38, 39, 40, 4, 5, 6, 7, 8, 9, 10, 11, 12, 13, 14, 15, 16, 17, 18, 19, 20, 21, 22, 23, 24, 25, 26, 27, 28, 29, 30, 31, 32, 33, 34, 35, 1, 2, 3] rfl rfl (by decide) (by decide) (by decide) (fun _ => rfl) (fun u H locs hw23 hP hD hS => ?_)
    obtain ⟨kp1_23, H1_23⟩ := u
    try dsimp only at hw23
    obtain ⟨rfl, rfl⟩ := hw23
    have hP : va_P G vwCl ([(h, .inr (7, [.ref (a 0), .ref (cd 0), .ref s1, .ref s2, .ref (d 0), .ref g]))] ++ (ck Z a v ++ (hk Z cd ((hKp kp), (hRec Y v)) ++ rk Z d ((rFa 80 (rAt w 0)).2)))) H := hP
    have hD : va_D A ([(h, .inr (7, [.ref (a 0), .ref (cd 0), .ref s1, .ref s2, .ref (d 0), .ref g]))] ++ (ck Z a v ++ (hk Z cd ((hKp kp), (hRec Y v)) ++ rk Z d ((rFa 80 (rAt w 0)).2)))) := hD
    refine lv_iconst (v := 0) hx hb dX7_carryOut_26 (by decide) ?_
    refine lv_istore_n (lv' := [(1, .int 0), (0, .ref h)]) hx hb dX7_carryOut_27 rfl hl (by decide) rfl (fun ls hl => ?_)
    refine lv_aload_n hx hb dX7_carryOut_28 rfl (lv_at hl 1 rfl) ?_
    refine va_get (D := G) (ci := 7) (v := .ref (d 0)) (C := RX7) (T := TX7) (N := 6) hx hb hts iX7 hown hK hP 0 rfl rfl 4 (by decide) k_36 (fun _ h9 => h9) rfl dX7_carryOut_29 ?_
    refine zCv (S := Unit) (ws1 := fun u => [(h, .inr (7, [.ref (a 0), .ref (cd 0), .ref s1, .ref s2, .ref (d 0), .ref g]))] ++ (ck Z a v ++ (hk Z cd ((hKp kp), (hRec Y v)) ++ rk Z d ((((rFa 80 (rAt w 0)).2).1), (((rFa 80 (rAt w 0)).2).2.1), 0, (((rFa 80 (rAt w 0)).2).2.2.2.1), (((rFa 80 (rAt w 0)).2).2.2.2.2.1), (((rFa 80 (rAt w 0)).2).2.2.2.2.2.1), (((rFa 80 (rAt w 0)).2).2.2.2.2.2.2.1), (((rFa 80 (rAt w 0)).2).2.2.2.2.2.2.2.1), (((rFa 80 (rAt w 0)).2).2.2.2.2.2.2.2.2))))) (wr := [(h, .inr (7, [.ref (a 0), .ref (cd 0), .ref s1, .ref s2, .ref (d 0), .ref g]))] ++ (ck Z a v ++ hk Z cd ((hKp kp), (hRec Y v)))) (va_runV (As := []) (rest := []) ⟨hx, hb, hml, hown, hts⟩ (m_X5_start l G Z _ d (((rFa 80 (rAt w 0)).2).1) (((rFa 80 (rAt w 0)).2).2.1) (((rFa 80 (rAt w 0)).2).2.2.1) (((rFa 80 (rAt w 0)).2).2.2.2.1) (((rFa 80 (rAt w 0)).2).2.2.2.2.1) (((rFa 80 (rAt w 0)).2).2.2.2.2.2.1) (((rFa 80 (rAt w 0)).2).2.2.2.2.2.2.1) (((rFa 80 (rAt w 0)).2).2.2.2.2.2.2.2.1) (((rFa 80 (rAt w 0)).2).2.2.2.2.2.2.2.2)) (cwV 0 hts gX7_carryOut_X5_start rfl rfl rfl (by decide +kernel) ⟨Nat.le_of_ble_eq_true rfl, Nat.le_of_ble_eq_true rfl⟩) (zPreV hK hP hD hS hA hSW [38, 39, 40] rfl (by decide) 38 (ci := 5) rfl rfl rfl) rfl rfl hl.1 rfl (lv_room (Nat.le_of_ble_eq_true rfl)) dX7_carryOut_32 ⟨Nat.le_of_ble_eq_true rfl, Nat.le_of_ble_eq_true rfl⟩) hP hD hS hA [38, 39, 40] [0, 1, 2, 3, 4, 5, 6, 7, 8, 9, 10, 11, 12, 13, 14, 15, 16, 17, 18, 19, 20, 21, 22, 23, 24, 25, 26, 27, 28, 29, 30, 31, 32, 33, 34, 35, 36, 37] [0, 1, 2, 3, 4, 5, 6, 7, 8, 9, 10, 11, 12, 13, 14, 15, 16, 17, 18, 19, 20, 21, 22, 23, 24, 25, 26, 27, 28, 29, 30, 31, 32, 33, 34, 35, 36, 37, 38, 39, 40] rfl rfl (by decide) (by decide) (by decide) (fun _ => rfl) (fun u H locs hw32 hP hD hS => ?_)
    try dsimp only at hw32
    have hP : va_P G vwCl ([(h, .inr (7, [.ref (a 0), .ref (cd 0), .ref s1, .ref s2, .ref (d 0), .ref g]))] ++ (ck Z a v ++ (hk Z cd ((hKp kp), (hRec Y v)) ++ rk Z d ((((rFa 80 (rAt w 0)).2).1), (((rFa 80 (rAt w 0)).2).2.1), 0, (((rFa 80 (rAt w 0)).2).2.2.2.1), (((rFa 80 (rAt w 0)).2).2.2.2.2.1), (((rFa 80 (rAt w 0)).2).2.2.2.2.2.1), (((rFa 80 (rAt w 0)).2).2.2.2.2.2.2.1), (((rFa 80 (rAt w 0)).2).2.2.2.2.2.2.2.1), (((rFa 80 (rAt w 0)).2).2.2.2.2.2.2.2.2))))) H := hP
    have hD : va_D A ([(h, .inr (7, [.ref (a 0), .ref (cd 0), .ref s1, .ref s2, .ref (d 0), .ref g]))] ++ (ck Z a v ++ (hk Z cd ((hKp kp), (hRec Y v)) ++ rk Z d ((((rFa 80 (rAt w 0)).2).1), (((rFa 80 (rAt w 0)).2).2.1), 0, (((rFa 80 (rAt w 0)).2).2.2.2.1), (((rFa 80 (rAt w 0)).2).2.2.2.2.1), (((rFa 80 (rAt w 0)).2).2.2.2.2.2.1), (((rFa 80 (rAt w 0)).2).2.2.2.2.2.2.1), (((rFa 80 (rAt w 0)).2).2.2.2.2.2.2.2.1), (((rFa 80 (rAt w 0)).2).2.2.2.2.2.2.2.2))))) := hD
    refine lv_iconst (v := 0) hx hb dX7_carryOut_35 (by decide) ?_
    refine lv_istore_n (lv' := [(2, .int 0), (1, .int 0), (0, .ref h)]) hx hb dX7_carryOut_36 rfl hl (by decide) rfl (fun ls hl => ?_)
    refine zLoop (σ := Nat × CV × RV × Int32) (nL := 3) (fun zx => [(h, .inr (7, [.ref (a 0), .ref (cd 0), .ref s1, .ref s2, .ref (d 0), .ref g]))] ++ (ck Z a zx.2.1 ++ (hk Z cd ((hKp kp), (hRec Y v)) ++ rk Z d zx.2.2.1))) (fun zx => [(2, .int (nI zx.1)), (1, .int zx.2.2.2), (0, .ref h)]) (fun zx => cRun (80 - zx.1) zx.2.1 zx.2.2.1 zx.2.2.2 = cRun 80 v (rAt (rFa 80 (rAt w 0)).2 0) 0 ∧ zx.1 ≤ 80 ∧ (zx.2.2.1).2.2.1 ≤ 80 ∧ (zx.2.2.1).2.1 = (rFa 80 (rAt w 0)).2.2.1) (fun zx => 80 - zx.1) ?_ (0, v, (rAt (rFa 80 (rAt w 0)).2 0), 0) (by
        try dsimp only
        exact ⟨rfl, by omega, Nat.zero_le _, rfl⟩) hP hD hS (lv_sub hl [0, 1, 2] rfl)
    intro zx hinv37 ih37 H locs ls hP hD hS hl
    obtain ⟨k, v2, w2, nc⟩ := zx
    try dsimp only at hinv37 ih37
    have hP : va_P G vwCl ([(h, .inr (7, [.ref (a 0), .ref (cd 0), .ref s1, .ref s2, .ref (d 0), .ref g]))] ++ (ck Z a v2 ++ (hk Z cd ((hKp kp), (hRec Y v)) ++ rk Z d w2))) H := hP
    have hD : va_D A ([(h, .inr (7, [.ref (a 0), .ref (cd 0), .ref s1, .ref s2, .ref (d 0), .ref g]))] ++ (ck Z a v2 ++ (hk Z cd ((hKp kp), (hRec Y v)) ++ rk Z d w2))) := hD
    have hl : lv_has ls 3 [(2, .int (nI k)), (1, .int nc), (0, .ref h)] := hl
    refine lv_iload_n hx hb dX7_carryOut_37 rfl (lv_at hl 0 rfl) ?_
    refine lv_bipush (v := 80) hx hb dX7_carryOut_38 (by decide) ?_
    refine lv_icmp_ge (tgt := 87) hx hb dX7_carryOut_40 (by decide) (fun c40 => ?_) (fun c40 => ?_)
    · refine lv_aload_n hx hb dX7_carryOut_87 rfl (lv_at hl 2 rfl) ?_
      refine va_get (D := G) (ci := 7) (v := .ref (d 0)) (C := RX7) (T := TX7) (N := 6) hx hb hts iX7 hown hK hP 0 rfl rfl 4 (by decide) k_36 (fun _ h9 => h9) rfl dX7_carryOut_88 ?_
      refine va_getN (D := G) (ci := 5) (v := .ref (d 1)) (C := RX5) (T := TX5) (N := 8) hx hb hts iX5 hown hK hP 38 rfl rfl 0 (by decide) k_118 (fun _ h9 => h9) rfl dX7_carryOut_91 ?_
      refine lv_iconst (v := 0) hx hb dX7_carryOut_94 (by decide) ?_
      refine va_putN (D := G) (ci := 4) (v := .int 0) (ty := .int) (C := RX4) (T := TX4) (N := 2) hx hb hts iX4 tyX4 tyX4_ok nmX4 hown hK hP hD hS 39 rfl rfl 1 (by decide) k_122 (fun _ h9 => h9) rfl (by decide +kernel) rfl rfl (Nat.le_of_ble_eq_true rfl) dX7_carryOut_95 (fun H locs hP hD hS => ?_)
      have hP : va_P G vwCl ([(h, .inr (7, [.ref (a 0), .ref (cd 0), .ref s1, .ref s2, .ref (d 0), .ref g]))] ++ (ck Z a v2 ++ (hk Z cd ((hKp kp), (hRec Y v)) ++ rk Z d (w2.1, 0, w2.2.2.1, w2.2.2.2.1, w2.2.2.2.2.1, w2.2.2.2.2.2.1, w2.2.2.2.2.2.2.1, w2.2.2.2.2.2.2.2.1, w2.2.2.2.2.2.2.2.2)))) H := hP
      have hD : va_D A ([(h, .inr (7, [.ref (a 0), .ref (cd 0), .ref s1, .ref s2, .ref (d 0), .ref g]))] ++ (ck Z a v2 ++ (hk Z cd ((hKp kp), (hRec Y v)) ++ rk Z d (w2.1, 0, w2.2.2.1, w2.2.2.2.1, w2.2.2.2.2.1, w2.2.2.2.2.2.1, w2.2.2.2.2.2.2.1, w2.2.2.2.2.2.2.2.1, w2.2.2.2.2.2.2.2.2)))) := hD
      refine lv_iload_n hx hb dX7_carryOut_98 rfl (lv_at hl 1 rfl) ?_
      exact W.iret hx hb hr (zEi (v2, (hKp kp), (hRec Y v), (w2.1, 0, w2.2.2.1, w2.2.2.2.1, w2.2.2.2.2.1, w2.2.2.2.2.2.1, w2.2.2.2.2.2.2.1, w2.2.2.2.2.2.2.2.1, w2.2.2.2.2.2.2.2.2)) (by
          simp only [show (rFa 80 (rAt w 0)).1 = -6 from c9, ↓reduceIte]
          have hk9 := zLe (a := 80) c40 (by omega) (by omega)
          have h31 := hinv37.1
          rw [show 80 - k = 0 by omega, cRun] at h31
          rw [← h31]
          simp only [and_self]) hP hD hS) hS.2.2 dX7_carryOut_99
    · have hk9 := zNle (a := 80) c40 (by omega) (by omega)
      have h31 := hinv37.1
      rw [show 80 - k = (79 - k) + 1 by omega, cRun] at h31
      refine lv_aload_n hx hb dX7_carryOut_43 rfl (lv_at hl 2 rfl) ?_
      refine va_get (D := G) (ci := 7) (v := .ref (d 0)) (C := RX7) (T := TX7) (N := 6) hx hb hts iX7 hown hK hP 0 rfl rfl 4 (by decide) k_36 (fun _ h9 => h9) rfl dX7_carryOut_44 ?_
      refine zCi (S := RV) (ws1 := fun u => [(h, .inr (7, [.ref (a 0), .ref (cd 0), .ref s1, .ref s2, .ref (d 0), .ref g]))] ++ (ck Z a v2 ++ (hk Z cd ((hKp kp), (hRec Y v)) ++ rk Z d u))) (wr := [(h, .inr (7, [.ref (a 0), .ref (cd 0), .ref s1, .ref s2, .ref (d 0), .ref g]))] ++ (ck Z a v2 ++ hk Z cd ((hKp kp), (hRec Y v)))) (va_runV (As := []) (rest := []) ⟨hx, hb, hml, hown, hts⟩ (m_X5_readOrder l G Z _ d w2 (by
          exact hinv37.2.2.1) (by
          rw [hinv37.2.2.2]; exact hle2)) (cwV 0 hts gX7_carryOut_X5_readOrder rfl rfl rfl (by decide +kernel) ⟨Nat.le_of_ble_eq_true rfl, Nat.le_of_ble_eq_true rfl⟩) (zPreV hK hP hD hS hA hSW [38, 39, 40] rfl (by decide) 38 (ci := 5) rfl rfl rfl) rfl rfl hl.1 rfl (lv_room (Nat.le_of_ble_eq_true rfl)) dX7_carryOut_47 ⟨Nat.le_of_ble_eq_true rfl, Nat.le_of_ble_eq_true rfl⟩) hP hD hS hA [38, 39, 40] [0, 1, 2, 3, 4, 5, 6, 7, 8, 9, 10, 11, 12, 13, 14, 15, 16, 17, 18, 19, 20, 21, 22, 23, 24, 25, 26, 27, 28, 29, 30, 31, 32, 33, 34, 35, 36, 37] [0, 1, 2, 3, 4, 5, 6, 7, 8, 9, 10, 11, 12, 13, 14, 15, 16, 17, 18, 19, 20, 21, 22, 23, 24, 25, 26, 27, 28, 29, 30, 31, 32, 33, 34, 35, 36, 37, 38, 39, 40] rfl rfl (by decide) (by decide) (by decide) (fun _ => rfl) (fun r47 u H locs hw47 hP hD hS => ?_)
      obtain ⟨v1_47, rfl⟩ : ∃ z, z = u := ⟨_, rfl⟩
      try dsimp only at hw47
      obtain ⟨rfl, rfl⟩ := hw47
      have hP : va_P G vwCl ([(h, .inr (7, [.ref (a 0), .ref (cd 0), .ref s1, .ref s2, .ref (d 0), .ref g]))] ++ (ck Z a v2 ++ (hk Z cd ((hKp kp), (hRec Y v)) ++ rk Z d ((rOrd w2).2)))) H := hP
      have hD : va_D A ([(h, .inr (7, [.ref (a 0), .ref (cd 0), .ref s1, .ref s2, .ref (d 0), .ref g]))] ++ (ck Z a v2 ++ (hk Z cd ((hKp kp), (hRec Y v)) ++ rk Z d ((rOrd w2).2)))) := hD
      refine lv_if_eq (tgt := 87) hx hb dX7_carryOut_50 (by decide) (fun c50 => ?_) (fun c50 => ?_)
      · refine lv_aload_n hx hb dX7_carryOut_87 rfl (lv_at hl 2 rfl) ?_
        refine va_get (D := G) (ci := 7) (v := .ref (d 0)) (C := RX7) (T := TX7) (N := 6) hx hb hts iX7 hown hK hP 0 rfl rfl 4 (by decide) k_36 (fun _ h9 => h9) rfl dX7_carryOut_88 ?_
        refine va_getN (D := G) (ci := 5) (v := .ref (d 1)) (C := RX5) (T := TX5) (N := 8) hx hb hts iX5 hown hK hP 38 rfl rfl 0 (by decide) k_118 (fun _ h9 => h9) rfl dX7_carryOut_91 ?_
        refine lv_iconst (v := 0) hx hb dX7_carryOut_94 (by decide) ?_
        refine va_putN (D := G) (ci := 4) (v := .int 0) (ty := .int) (C := RX4) (T := TX4) (N := 2) hx hb hts iX4 tyX4 tyX4_ok nmX4 hown hK hP hD hS 39 rfl rfl 1 (by decide) k_122 (fun _ h9 => h9) rfl (by decide +kernel) rfl rfl (Nat.le_of_ble_eq_true rfl) dX7_carryOut_95 (fun H locs hP hD hS => ?_)
        have hP : va_P G vwCl ([(h, .inr (7, [.ref (a 0), .ref (cd 0), .ref s1, .ref s2, .ref (d 0), .ref g]))] ++ (ck Z a v2 ++ (hk Z cd ((hKp kp), (hRec Y v)) ++ rk Z d (((rOrd w2).2).1, 0, ((rOrd w2).2).2.2.1, ((rOrd w2).2).2.2.2.1, ((rOrd w2).2).2.2.2.2.1, ((rOrd w2).2).2.2.2.2.2.1, ((rOrd w2).2).2.2.2.2.2.2.1, ((rOrd w2).2).2.2.2.2.2.2.2.1, ((rOrd w2).2).2.2.2.2.2.2.2.2)))) H := hP
        have hD : va_D A ([(h, .inr (7, [.ref (a 0), .ref (cd 0), .ref s1, .ref s2, .ref (d 0), .ref g]))] ++ (ck Z a v2 ++ (hk Z cd ((hKp kp), (hRec Y v)) ++ rk Z d (((rOrd w2).2).1, 0, ((rOrd w2).2).2.2.1, ((rOrd w2).2).2.2.2.1, ((rOrd w2).2).2.2.2.2.1, ((rOrd w2).2).2.2.2.2.2.1, ((rOrd w2).2).2.2.2.2.2.2.1, ((rOrd w2).2).2.2.2.2.2.2.2.1, ((rOrd w2).2).2.2.2.2.2.2.2.2)))) := hD
        refine lv_iload_n hx hb dX7_carryOut_98 rfl (lv_at hl 1 rfl) ?_
        exact W.iret hx hb hr (zEi (v2, (hKp kp), (hRec Y v), (((rOrd w2).2).1, 0, ((rOrd w2).2).2.2.1, ((rOrd w2).2).2.2.2.1, ((rOrd w2).2).2.2.2.2.1, ((rOrd w2).2).2.2.2.2.2.1, ((rOrd w2).2).2.2.2.2.2.2.1, ((rOrd w2).2).2.2.2.2.2.2.2.1, ((rOrd w2).2).2.2.2.2.2.2.2.2)) (by
            simp only [show (rFa 80 (rAt w 0)).1 = -6 from c9, ↓reduceIte]
            rw [if_pos c50] at h31
            rw [← h31]
            simp only [and_self]) hP hD hS) hS.2.2 dX7_carryOut_99
      · refine lv_aload_n hx hb dX7_carryOut_53 rfl (lv_at hl 2 rfl) ?_
        refine zCi (S := CV) (ws1 := fun u => [(h, .inr (7, [.ref (a 0), .ref (cd 0), .ref s1, .ref s2, .ref (d 0), .ref g]))] ++ (ck Z a u ++ (hk Z cd ((hKp kp), (hRec Y v)) ++ rk Z d ((rOrd w2).2)))) (wr := hk Z cd ((hKp kp), (hRec Y v))) (va_runV (As := []) (rest := []) ⟨hx, hb, hml, hown, hts⟩ (m_X7_carryOutOrder l G Z _ h a cd s1 s2 d g v2 ((rOrd w2).2)) (cwV 0 hts gX7_carryOut_X7_carryOutOrder rfl rfl rfl (by decide +kernel) ⟨Nat.le_of_ble_eq_true rfl, Nat.le_of_ble_eq_true rfl⟩) (zPreV hK hP hD hS hA hSW [0, 1, 2, 3, 4, 5, 38, 39, 40] rfl (by decide) 0 (ci := 7) rfl rfl rfl) rfl rfl hl.1 rfl (lv_room (Nat.le_of_ble_eq_true rfl)) dX7_carryOut_54 ⟨Nat.le_of_ble_eq_true rfl, Nat.le_of_ble_eq_true rfl⟩) hP hD hS hA [0, 1, 2, 3, 4, 5, 38, 39, 40] [6, 7, 8, 9, 10, 11, 12, 13, 14, 15, 16, 17, 18, 19, 20, 21, 22, 23, 24, 25, 26, 27, 28, 29, 30, 31, 32, 33, 34, 35, 36, 37] [32, 33, 34, 35, 36, 37, 0, 1, 2, 3, 4, 5, 6, 7, 8, 9, 10, 11, 12, 13, 14, 15, 16, 17, 18, 19, 20, 21, 22, 23, 24, 25, 26, 27, 28, 29, 30, 31, 38, 39, 40] rfl rfl (by decide) (by decide) (by decide) (fun _ => rfl) (fun r54 u H locs hw54 hP hD hS => ?_)
        obtain ⟨v1_54, rfl⟩ : ∃ z, z = u := ⟨_, rfl⟩
        try dsimp only at hw54
        obtain ⟨rfl, rfl⟩ := hw54
        have hP : va_P G vwCl ([(h, .inr (7, [.ref (a 0), .ref (cd 0), .ref s1, .ref s2, .ref (d 0), .ref g]))] ++ (ck Z a (cActV v2 ((rOrd w2).2)) ++ (hk Z cd ((hKp kp), (hRec Y v)) ++ rk Z d ((rOrd w2).2)))) H := hP
        have hD : va_D A ([(h, .inr (7, [.ref (a 0), .ref (cd 0), .ref s1, .ref s2, .ref (d 0), .ref g]))] ++ (ck Z a (cActV v2 ((rOrd w2).2)) ++ (hk Z cd ((hKp kp), (hRec Y v)) ++ rk Z d ((rOrd w2).2)))) := hD
        refine lv_if_ne (tgt := 63) hx hb dX7_carryOut_57 (by decide) (fun c57 => ?_) (fun c57 => ?_)
        · refine lv_iinc (v := (nc + 1)) (lv' := [(1, .int (nc + 1)), (2, .int (nI k)), (0, .ref h)]) hx hb dX7_carryOut_63 hl (k := 1) rfl rfl (by decide) rfl (fun ls hl => ?_)
          refine lv_aload_n hx hb dX7_carryOut_66 rfl (lv_at hl 2 rfl) ?_
          refine va_get (D := G) (ci := 7) (v := .ref (d 0)) (C := RX7) (T := TX7) (N := 6) hx hb hts iX7 hown hK hP 0 rfl rfl 4 (by decide) k_36 (fun _ h9 => h9) rfl dX7_carryOut_67 ?_
          refine lv_bipush (v := 59) hx hb dX7_carryOut_70 (by decide) ?_
          refine zCi (S := Nat) (ws1 := fun u => [(h, .inr (7, [.ref (a 0), .ref (cd 0), .ref s1, .ref s2, .ref (d 0), .ref g]))] ++ (ck Z a (cActV v2 ((rOrd w2).2)) ++ (hk Z cd ((hKp kp), (hRec Y v)) ++ rk Z d ((((rOrd w2).2).1), (((rOrd w2).2).2.1), u, (((rOrd w2).2).2.2.2.1), (((rOrd w2).2).2.2.2.2.1), (((rOrd w2).2).2.2.2.2.2.1), (((rOrd w2).2).2.2.2.2.2.2.1), (((rOrd w2).2).2.2.2.2.2.2.2.1), (((rOrd w2).2).2.2.2.2.2.2.2.2))))) (wr := [(h, .inr (7, [.ref (a 0), .ref (cd 0), .ref s1, .ref s2, .ref (d 0), .ref g]))] ++ (ck Z a (cActV v2 ((rOrd w2).2)) ++ hk Z cd ((hKp kp), (hRec Y v)))) (va_runV (As := [.int 59]) (rest := []) ⟨hx, hb, hml, hown, hts⟩ (m_X5_readSign l G Z _ d (((rOrd w2).2).1) (((rOrd w2).2).2.1) (((rOrd w2).2).2.2.1) (((rOrd w2).2).2.2.2.1) (((rOrd w2).2).2.2.2.2.1) (((rOrd w2).2).2.2.2.2.2.1) (((rOrd w2).2).2.2.2.2.2.2.1) (((rOrd w2).2).2.2.2.2.2.2.2.1) (((rOrd w2).2).2.2.2.2.2.2.2.2) 59 (by
              exact rOrd_le hinv37.2.2.1) (by
              rw [rOrd_len, hinv37.2.2.2]; exact hle2)) (cwV 1 hts gX7_carryOut_X5_readSign rfl rfl rfl (by decide +kernel) ⟨Nat.le_of_ble_eq_true rfl, Nat.le_of_ble_eq_true rfl⟩) (zPreV hK hP hD hS hA hSW [38, 39, 40] rfl (by decide) 38 (ci := 5) rfl rfl rfl) rfl rfl hl.1 rfl (lv_room (Nat.le_of_ble_eq_true rfl)) dX7_carryOut_72 ⟨Nat.le_of_ble_eq_true rfl, Nat.le_of_ble_eq_true rfl⟩) hP hD hS hA [38, 39, 40] [0, 1, 2, 3, 4, 5, 6, 7, 8, 9, 10, 11, 12, 13, 14, 15, 16, 17, 18, 19, 20, 21, 22, 23, 24, 25, 26, 27, 28, 29, 30, 31, 32, 33, 34, 35, 36, 37] [0, 1, 2, 3, 4, 5, 6, 7, 8, 9, 10, 11, 12, 13, 14, 15, 16, 17, 18, 19, 20, 21, 22, 23, 24, 25, 26, 27, 28, 29, 30, 31, 32, 33, 34, 35, 36, 37, 38, 39, 40] rfl rfl (by decide) (by decide) (by decide) (fun _ => rfl) (fun r72 u H locs hw72 hP hD hS => ?_)
          obtain ⟨p1_72, rfl⟩ : ∃ z, z = u := ⟨_, rfl⟩
          try dsimp only at hw72
          obtain ⟨rfl, rfl⟩ := hw72
          have hP : va_P G vwCl ([(h, .inr (7, [.ref (a 0), .ref (cd 0), .ref s1, .ref s2, .ref (d 0), .ref g]))] ++ (ck Z a (cActV v2 ((rOrd w2).2)) ++ (hk Z cd ((hKp kp), (hRec Y v)) ++ rk Z d ((((rOrd w2).2).1), (((rOrd w2).2).2.1), (rSgP (((rOrd w2).2).1) (((rOrd w2).2).2.1) (((rOrd w2).2).2.2.1) 59), (((rOrd w2).2).2.2.2.1), (((rOrd w2).2).2.2.2.2.1), (((rOrd w2).2).2.2.2.2.2.1), (((rOrd w2).2).2.2.2.2.2.2.1), (((rOrd w2).2).2.2.2.2.2.2.2.1), (((rOrd w2).2).2.2.2.2.2.2.2.2))))) H := hP
          have hD : va_D A ([(h, .inr (7, [.ref (a 0), .ref (cd 0), .ref s1, .ref s2, .ref (d 0), .ref g]))] ++ (ck Z a (cActV v2 ((rOrd w2).2)) ++ (hk Z cd ((hKp kp), (hRec Y v)) ++ rk Z d ((((rOrd w2).2).1), (((rOrd w2).2).2.1), (rSgP (((rOrd w2).2).1) (((rOrd w2).2).2.1) (((rOrd w2).2).2.2.1) 59), (((rOrd w2).2).2.2.2.1), (((rOrd w2).2).2.2.2.2.1), (((rOrd w2).2).2.2.2.2.2.1), (((rOrd w2).2).2.2.2.2.2.2.1), (((rOrd w2).2).2.2.2.2.2.2.2.1), (((rOrd w2).2).2.2.2.2.2.2.2.2))))) := hD
          refine lv_if_ne (tgt := 81) hx hb dX7_carryOut_75 (by decide) (fun c75 => ?_) (fun c75 => ?_)
          · refine lv_iinc (v := (nI (k + 1))) (lv' := [(2, .int (nI (k + 1))), (1, .int (nc + 1)), (0, .ref h)]) hx hb dX7_carryOut_81 hl (k := 1) rfl (nI_succ k).symm (by decide) rfl (fun ls hl => ?_)
            refine lv_goto (tgt := 37) hx hb dX7_carryOut_84 (by decide) ?_
            exact ih37 ((k + 1), (cActV v2 (rOrd w2).2), (rAt (rOrd w2).2 (rSgP (rOrd w2).2.1 (rOrd w2).2.2.1 (rOrd w2).2.2.2.1 59)), (nc + 1)) (by
                try dsimp only
                rw [if_neg c50, if_neg c57, if_neg c75] at h31
                refine ⟨(by rw [show 80 - (k + 1) = 79 - k by omega]; exact h31), by omega, rSgP_le (by decide) (rOrd_le hinv37.2.2.1), ?_⟩
                show (rOrd w2).2.2.1 = _
                rw [rOrd_len]
                exact hinv37.2.2.2) (by
                try dsimp only
                omega) _ _ _ hP hD hS (lv_sub hl [0, 1, 2] rfl)
          · refine lv_goto (tgt := 87) hx hb dX7_carryOut_78 (by decide) ?_
            refine lv_aload_n hx hb dX7_carryOut_87 rfl (lv_at hl 2 rfl) ?_
            refine va_get (D := G) (ci := 7) (v := .ref (d 0)) (C := RX7) (T := TX7) (N := 6) hx hb hts iX7 hown hK hP 0 rfl rfl 4 (by decide) k_36 (fun _ h9 => h9) rfl dX7_carryOut_88 ?_
            refine va_getN (D := G) (ci := 5) (v := .ref (d 1)) (C := RX5) (T := TX5) (N := 8) hx hb hts iX5 hown hK hP 38 rfl rfl 0 (by decide) k_118 (fun _ h9 => h9) rfl dX7_carryOut_91 ?_
            refine lv_iconst (v := 0) hx hb dX7_carryOut_94 (by decide) ?_
            refine va_putN (D := G) (ci := 4) (v := .int 0) (ty := .int) (C := RX4) (T := TX4) (N := 2) hx hb hts iX4 tyX4 tyX4_ok nmX4 hown hK hP hD hS 39 rfl rfl 1 (by decide) k_122 (fun _ h9 => h9) rfl (by decide +kernel) rfl rfl (Nat.le_of_ble_eq_true rfl) dX7_carryOut_95 (fun H locs hP hD hS => ?_)
            have hP : va_P G vwCl ([(h, .inr (7, [.ref (a 0), .ref (cd 0), .ref s1, .ref s2, .ref (d 0), .ref g]))] ++ (ck Z a (cActV v2 ((rOrd w2).2)) ++ (hk Z cd ((hKp kp), (hRec Y v)) ++ rk Z d ((((rOrd w2).2).1), 0, (rSgP (((rOrd w2).2).1) (((rOrd w2).2).2.1) (((rOrd w2).2).2.2.1) 59), (((rOrd w2).2).2.2.2.1), (((rOrd w2).2).2.2.2.2.1), (((rOrd w2).2).2.2.2.2.2.1), (((rOrd w2).2).2.2.2.2.2.2.1), (((rOrd w2).2).2.2.2.2.2.2.2.1), (((rOrd w2).2).2.2.2.2.2.2.2.2))))) H := hP
            have hD : va_D A ([(h, .inr (7, [.ref (a 0), .ref (cd 0), .ref s1, .ref s2, .ref (d 0), .ref g]))] ++ (ck Z a (cActV v2 ((rOrd w2).2)) ++ (hk Z cd ((hKp kp), (hRec Y v)) ++ rk Z d ((((rOrd w2).2).1), 0, (rSgP (((rOrd w2).2).1) (((rOrd w2).2).2.1) (((rOrd w2).2).2.2.1) 59), (((rOrd w2).2).2.2.2.1), (((rOrd w2).2).2.2.2.2.1), (((rOrd w2).2).2.2.2.2.2.1), (((rOrd w2).2).2.2.2.2.2.2.1), (((rOrd w2).2).2.2.2.2.2.2.2.1), (((rOrd w2).2).2.2.2.2.2.2.2.2))))) := hD
            refine lv_iload_n hx hb dX7_carryOut_98 rfl (lv_at hl 0 rfl) ?_
            exact W.iret hx hb hr (zEi ((cActV v2 ((rOrd w2).2)), (hKp kp), (hRec Y v), ((((rOrd w2).2).1), 0, (rSgP (((rOrd w2).2).1) (((rOrd w2).2).2.1) (((rOrd w2).2).2.2.1) 59), (((rOrd w2).2).2.2.2.1), (((rOrd w2).2).2.2.2.2.1), (((rOrd w2).2).2.2.2.2.2.1), (((rOrd w2).2).2.2.2.2.2.2.1), (((rOrd w2).2).2.2.2.2.2.2.2.1), (((rOrd w2).2).2.2.2.2.2.2.2.2))) (by
                simp only [show (rFa 80 (rAt w 0)).1 = -6 from c9, ↓reduceIte]
                rw [if_neg c50, if_neg c57, if_pos c75] at h31
                rw [← h31]
                simp only [and_self]) hP hD hS) hS.2.2 dX7_carryOut_99
        · refine lv_goto (tgt := 87) hx hb dX7_carryOut_60 (by decide) ?_
          refine lv_aload_n hx hb dX7_carryOut_87 rfl (lv_at hl 2 rfl) ?_
          refine va_get (D := G) (ci := 7) (v := .ref (d 0)) (C := RX7) (T := TX7) (N := 6) hx hb hts iX7 hown hK hP 0 rfl rfl 4 (by decide) k_36 (fun _ h9 => h9) rfl dX7_carryOut_88 ?_
          refine va_getN (D := G) (ci := 5) (v := .ref (d 1)) (C := RX5) (T := TX5) (N := 8) hx hb hts iX5 hown hK hP 38 rfl rfl 0 (by decide) k_118 (fun _ h9 => h9) rfl dX7_carryOut_91 ?_
          refine lv_iconst (v := 0) hx hb dX7_carryOut_94 (by decide) ?_
          refine va_putN (D := G) (ci := 4) (v := .int 0) (ty := .int) (C := RX4) (T := TX4) (N := 2) hx hb hts iX4 tyX4 tyX4_ok nmX4 hown hK hP hD hS 39 rfl rfl 1 (by decide) k_122 (fun _ h9 => h9) rfl (by decide +kernel) rfl rfl (Nat.le_of_ble_eq_true rfl) dX7_carryOut_95 (fun H locs hP hD hS => ?_)
          have hP : va_P G vwCl ([(h, .inr (7, [.ref (a 0), .ref (cd 0), .ref s1, .ref s2, .ref (d 0), .ref g]))] ++ (ck Z a (cActV v2 ((rOrd w2).2)) ++ (hk Z cd ((hKp kp), (hRec Y v)) ++ rk Z d (((rOrd w2).2).1, 0, ((rOrd w2).2).2.2.1, ((rOrd w2).2).2.2.2.1, ((rOrd w2).2).2.2.2.2.1, ((rOrd w2).2).2.2.2.2.2.1, ((rOrd w2).2).2.2.2.2.2.2.1, ((rOrd w2).2).2.2.2.2.2.2.2.1, ((rOrd w2).2).2.2.2.2.2.2.2.2)))) H := hP
          have hD : va_D A ([(h, .inr (7, [.ref (a 0), .ref (cd 0), .ref s1, .ref s2, .ref (d 0), .ref g]))] ++ (ck Z a (cActV v2 ((rOrd w2).2)) ++ (hk Z cd ((hKp kp), (hRec Y v)) ++ rk Z d (((rOrd w2).2).1, 0, ((rOrd w2).2).2.2.1, ((rOrd w2).2).2.2.2.1, ((rOrd w2).2).2.2.2.2.1, ((rOrd w2).2).2.2.2.2.2.1, ((rOrd w2).2).2.2.2.2.2.2.1, ((rOrd w2).2).2.2.2.2.2.2.2.1, ((rOrd w2).2).2.2.2.2.2.2.2.2)))) := hD
          refine lv_iload_n hx hb dX7_carryOut_98 rfl (lv_at hl 1 rfl) ?_
          exact W.iret hx hb hr (zEi ((cActV v2 ((rOrd w2).2)), (hKp kp), (hRec Y v), (((rOrd w2).2).1, 0, ((rOrd w2).2).2.2.1, ((rOrd w2).2).2.2.2.1, ((rOrd w2).2).2.2.2.2.1, ((rOrd w2).2).2.2.2.2.2.1, ((rOrd w2).2).2.2.2.2.2.2.1, ((rOrd w2).2).2.2.2.2.2.2.2.1, ((rOrd w2).2).2.2.2.2.2.2.2.2)) (by
              simp only [show (rFa 80 (rAt w 0)).1 = -6 from c9, ↓reduceIte]
              rw [if_neg c50, if_pos c57] at h31
              rw [← h31]
              simp only [and_self]) hP hD hS) hS.2.2 dX7_carryOut_99
  · refine lv_bipush (v := (-3)) hx hb dX7_carryOut_12 (by decide) ?_
    exact W.iret hx hb hr (zEi (v, kp, Y, ((rFa 80 (rAt w 0)).2)) (by
        simp only [show ¬ (rFa 80 (rAt w 0)).1 = -6 from c9, ↓reduceIte, and_self]) hP hD hS) hS.2.2 dX7_carryOut_14
