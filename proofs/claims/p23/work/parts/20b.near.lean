set_option maxHeartbeats 4000000 in
set_option maxRecDepth 100000 in
theorem m_L_isNear (l : Launch) (G : va_G) (Z : Nat → ClassId) (sz : Nat) (h : Nat) (a : Nat → Nat) (cd : Nat → Nat) (s1 : Nat) (s2 : Nat) (d : Nat → Nat) (g : Nat) (v : CV) (kp : Nat) (Y : HV) (w : RV) (go : Int32) (gc : Int32) (al : Nat → Int32) (hh : Nat) (hRo : RS v al hh) : Met l yL_isNear wsL_isNear ({ frames := 4, cells := 0, slots := 0, locals := 90 }) (va_Pc [.ref h] (zWP G Z sz ([(h, .inr (7, [.ref (a 0), .ref (cd 0), .ref s1, .ref s2, .ref (d 0), .ref g]))] ++ (ck Z a v ++ (hk Z cd (kp, Y) ++ (rk Z d w ++ [(g, .inr (1, [.int go, .int gc]))])))))) (va_Qi (fun (r : Int32) (u : Int32 × Int32) => r = 1) (fun (u : Int32 × Int32) t => zB G (va_A ([(h, .inr (7, [.ref (a 0), .ref (cd 0), .ref s1, .ref s2, .ref (d 0), .ref g]))] ++ (ck Z a v ++ (hk Z cd (kp, Y) ++ (rk Z d w ++ [(g, .inr (1, [.int go, .int gc]))])))) sz) ([(h, .inr (7, [.ref (a 0), .ref (cd 0), .ref s1, .ref s2, .ref (d 0), .ref g]))] ++ (ck Z a v ++ (hk Z cd (kp, Y) ++ (rk Z d w ++ [(g, .inr (1, [.int u.1, .int u.2]))])))) t) (va_A ([(h, .inr (7, [.ref (a 0), .ref (cd 0), .ref s1, .ref s2, .ref (d 0), .ref g]))] ++ (ck Z a v ++ (hk Z cd (kp, Y) ++ (rk Z d w ++ [(g, .inr (1, [.int go, .int gc]))])))) sz)) 0 0 (va_A ([(h, .inr (7, [.ref (a 0), .ref (cd 0), .ref s1, .ref s2, .ref (d 0), .ref g]))] ++ (ck Z a v ++ (hk Z cd (kp, Y) ++ (rk Z d w ++ [(g, .inr (1, [.int go, .int gc]))])))) sz) := by
  have hRr := rate_i hRo (ht := 25) (ar := 1010) (by decide) (by decide)
  refine Met.ofW (cc := cL_isNear) (maxL := 10) (ret := (some .boolean)) (by decide) rfl ?_
  intro p e s m args below meth c s₁ B hml hv
  have hx := B.exec
  have hb := B.bytes
  have hr := B.returns
  have hts := atoms_spec (ws := wsL_isNear) B.pre
  have hown : s.vm.findClass RL = some m.cls := findClass_of_methodNamed B.named
  have hlocks := B.notSynchronized
  obtain ⟨rfl, hsz, hP, hK, hD, hA, hS, hSW⟩ := zEnter hv
  subst hsz
  generalize va_A ([(h, .inr (7, [.ref (a 0), .ref (cd 0), .ref s1, .ref s2, .ref (d 0), .ref g]))] ++ (ck Z a v ++ (hk Z cd (kp, Y) ++ (rk Z d w ++ [(g, .inr (1, [.int go, .int gc]))])))) s.heap.size = A at hD hA hS hSW ⊢
  have k_39 := hts (.constant RL 39 (100000)) (List.mem_of_getElem? (i := 1) rfl)
  have k_38 := hts (.constant RL 38 (1000000000)) (List.mem_of_getElem? (i := 2) rfl)
  have hP : va_P G vwCl ([(h, .inr (7, [.ref (a 0), .ref (cd 0), .ref s1, .ref s2, .ref (d 0), .ref g]))] ++ (ck Z a v ++ (hk Z cd (kp, Y) ++ (rk Z d w ++ [(g, .inr (1, [.int go, .int gc]))])))) s.heap := hP
  have hl := lv_entry ([.ref h]) (n := 10) (Nat.le_of_ble_eq_true rfl)
  rw [lg_entry_eq]
  generalize (lg_sl ([.ref h]) ++ List.replicate (10 - (lg_sl ([.ref h])).length) Slot.unset).toArray = ls at hl ⊢
  have hl : lv_has ls 10 [(0, .ref h)] := hl
  refine lv_aload_n hx hb dL_isNear_0 rfl (lv_at hl 0 rfl) ?_
  refine lv_bipush (v := 25) hx hb dL_isNear_1 (by decide) ?_
  refine lv_sipush (v := 1010) hx hb dL_isNear_3 (by decide) ?_
  refine zCi (S := Unit) (ws1 := fun u => [(h, .inr (7, [.ref (a 0), .ref (cd 0), .ref s1, .ref s2, .ref (d 0), .ref g]))] ++ (ck Z a v ++ (hk Z cd (kp, Y) ++ (rk Z d w ++ [(g, .inr (1, [.int go, .int gc]))])))) (wr := hk Z cd (kp, Y) ++ (rk Z d w ++ [(g, .inr (1, [.int go, .int gc]))])) (va_runV (As := [.int 25, .int 1010]) (rest := []) ⟨hx, hb, hml, hown, hts⟩ (m_X7_rate l G Z _ h a cd s1 s2 d g v 25 1010) (cwV 2 hts gL_isNear_X7_rate rfl rfl rfl (by decide +kernel) ⟨Nat.le_of_ble_eq_true rfl, Nat.le_of_ble_eq_true rfl⟩) (zPreV hK hP hD hS hA hSW [0, 1, 2, 3, 4, 5] rfl (by decide) 0 (ci := 7) rfl rfl rfl) rfl rfl hl.1 rfl (lv_room (Nat.le_of_ble_eq_true rfl)) dL_isNear_6 ⟨Nat.le_of_ble_eq_true rfl, Nat.le_of_ble_eq_true rfl⟩) hP hD hS hA [0, 1, 2, 3, 4, 5] [6, 7, 8, 9, 10, 11, 12, 13, 14, 15, 16, 17, 18, 19, 20, 21, 22, 23, 24, 25, 26, 27, 28, 29, 30, 31, 32, 33, 34, 35, 36, 37, 38, 39, 40, 41] [36, 37, 38, 39, 40, 41, 0, 1, 2, 3, 4, 5, 6, 7, 8, 9, 10, 11, 12, 13, 14, 15, 16, 17, 18, 19, 20, 21, 22, 23, 24, 25, 26, 27, 28, 29, 30, 31, 32, 33, 34, 35] rfl rfl (by decide) (by decide) (by decide) (fun _ => rfl) (fun r6 u H locs hw6 hP hD hS => ?_)
  try dsimp only at hw6
  subst hw6
  have hP : va_P G vwCl ([(h, .inr (7, [.ref (a 0), .ref (cd 0), .ref s1, .ref s2, .ref (d 0), .ref g]))] ++ (ck Z a v ++ (hk Z cd (kp, Y) ++ (rk Z d w ++ [(g, .inr (1, [.int go, .int gc]))])))) H := hP
  have hD : va_D A ([(h, .inr (7, [.ref (a 0), .ref (cd 0), .ref s1, .ref s2, .ref (d 0), .ref g]))] ++ (ck Z a v ++ (hk Z cd (kp, Y) ++ (rk Z d w ++ [(g, .inr (1, [.int go, .int gc]))])))) := hD
  refine zTopI (y := ((cBare al 25 1010 + al 7) + 100000)) (oRate hRo (by decide) (by decide)) ?_
  refine lv_ldc (v := 100000) hx hb hown k_39 dL_isNear_9 ?_
  refine lv_isub hx hb dL_isNear_11 ?_
  refine zTopI (y := (cBare al 25 1010 + al 7)) (Int32.add_sub_cancel _ _) ?_
  refine lv_istore_n (lv' := [(1, .int (cBare al 25 1010 + al 7)), (0, .ref h)]) hx hb dL_isNear_12 rfl hl (by decide) rfl (fun ls hl => ?_)
  refine lv_aload_n hx hb dL_isNear_13 rfl (lv_at hl 1 rfl) ?_
  refine lv_bipush (v := 25) hx hb dL_isNear_14 (by decide) ?_
  refine lv_sipush (v := 1010) hx hb dL_isNear_16 (by decide) ?_
  refine lv_iconst (v := 1) hx hb dL_isNear_19 (by decide) ?_
  refine zCi (S := Unit) (ws1 := fun u => [(h, .inr (7, [.ref (a 0), .ref (cd 0), .ref s1, .ref s2, .ref (d 0), .ref g]))] ++ (ck Z a v ++ (hk Z cd (kp, Y) ++ (rk Z d w ++ [(g, .inr (1, [.int go, .int gc]))])))) (wr := hk Z cd (kp, Y) ++ (rk Z d w ++ [(g, .inr (1, [.int go, .int gc]))])) (va_runV (As := [.int 25, .int 1010, .int 1]) (rest := []) ⟨hx, hb, hml, hown, hts⟩ (m_X7_bestWeights l G Z _ h a cd s1 s2 d g v 25 1010 1) (cwV 3 hts gL_isNear_X7_bestWeights rfl rfl rfl (by decide +kernel) ⟨Nat.le_of_ble_eq_true rfl, Nat.le_of_ble_eq_true rfl⟩) (zPreV hK hP hD hS hA hSW [0, 1, 2, 3, 4, 5] rfl (by decide) 0 (ci := 7) rfl rfl rfl) rfl rfl hl.1 rfl (lv_room (Nat.le_of_ble_eq_true rfl)) dL_isNear_20 ⟨Nat.le_of_ble_eq_true rfl, Nat.le_of_ble_eq_true rfl⟩) hP hD hS hA [0, 1, 2, 3, 4, 5] [6, 7, 8, 9, 10, 11, 12, 13, 14, 15, 16, 17, 18, 19, 20, 21, 22, 23, 24, 25, 26, 27, 28, 29, 30, 31, 32, 33, 34, 35, 36, 37, 38, 39, 40, 41] [36, 37, 38, 39, 40, 41, 0, 1, 2, 3, 4, 5, 6, 7, 8, 9, 10, 11, 12, 13, 14, 15, 16, 17, 18, 19, 20, 21, 22, 23, 24, 25, 26, 27, 28, 29, 30, 31, 32, 33, 34, 35] rfl rfl (by decide) (by decide) (by decide) (fun _ => rfl) (fun r20 u H locs hw20 hP hD hS => ?_)
  try dsimp only at hw20
  subst hw20
  have hP : va_P G vwCl ([(h, .inr (7, [.ref (a 0), .ref (cd 0), .ref s1, .ref s2, .ref (d 0), .ref g]))] ++ (ck Z a v ++ (hk Z cd (kp, Y) ++ (rk Z d w ++ [(g, .inr (1, [.int go, .int gc]))])))) H := hP
  have hD : va_D A ([(h, .inr (7, [.ref (a 0), .ref (cd 0), .ref s1, .ref s2, .ref (d 0), .ref g]))] ++ (ck Z a v ++ (hk Z cd (kp, Y) ++ (rk Z d w ++ [(g, .inr (1, [.int go, .int gc]))])))) := hD
  refine zTopI (y := ((cBare al 25 1010 + mBw (cBare al 25 1010) 255) + 100000)) (oBest hRo (by decide) (by decide)) ?_
  refine lv_ldc (v := 100000) hx hb hown k_39 dL_isNear_23 ?_
  refine lv_isub hx hb dL_isNear_25 ?_
  refine zTopI (y := (cBare al 25 1010 + mBw (cBare al 25 1010) 255)) (Int32.add_sub_cancel _ _) ?_
  refine lv_istore_n (lv' := [(2, .int (cBare al 25 1010 + mBw (cBare al 25 1010) 255)), (1, .int (cBare al 25 1010 + al 7)), (0, .ref h)]) hx hb dL_isNear_26 rfl hl (by decide) rfl (fun ls hl => ?_)
  refine lv_aload_n hx hb dL_isNear_27 rfl (lv_at hl 2 rfl) ?_
  refine lv_iconst (v := 1) hx hb dL_isNear_28 (by decide) ?_
  refine zCi (S := Unit) (ws1 := fun u => [(h, .inr (7, [.ref (a 0), .ref (cd 0), .ref s1, .ref s2, .ref (d 0), .ref g]))] ++ (ck Z a v ++ (hk Z cd (kp, Y) ++ (rk Z d w ++ [(g, .inr (1, [.int go, .int gc]))])))) (wr := [(g, .inr (1, [.int go, .int gc]))]) (va_runV (As := [.int 1]) (rest := []) ⟨hx, hb, hml, hown, hts⟩ (m_X7_count l G Z _ h a cd s1 s2 d g v kp Y w 1) (cwV 1 hts gL_isNear_X7_count rfl rfl rfl (by decide +kernel) ⟨Nat.le_of_ble_eq_true rfl, Nat.le_of_ble_eq_true rfl⟩) (zPreV hK hP hD hS hA hSW [0, 1, 2, 3, 4, 5, 6, 7, 8, 9, 10, 11, 12, 13, 14, 15, 16, 17, 18, 19, 20, 21, 22, 23, 24, 25, 26, 27, 28, 29, 30, 31, 32, 33, 34, 35, 36, 37, 38, 39, 40] rfl (by decide) 0 (ci := 7) rfl rfl rfl) rfl rfl hl.1 rfl (lv_room (Nat.le_of_ble_eq_true rfl)) dL_isNear_29 ⟨Nat.le_of_ble_eq_true rfl, Nat.le_of_ble_eq_true rfl⟩) hP hD hS hA [0, 1, 2, 3, 4, 5, 6, 7, 8, 9, 10, 11, 12, 13, 14, 15, 16, 17, 18, 19, 20, 21, 22, 23, 24, 25, 26, 27, 28, 29, 30, 31, 32, 33, 34, 35, 36, 37, 38, 39, 40] [41] [1, 2, 3, 4, 5, 6, 7, 8, 9, 10, 11, 12, 13, 14, 15, 16, 17, 18, 19, 20, 21, 22, 23, 24, 25, 26, 27, 28, 29, 30, 31, 32, 33, 34, 35, 36, 37, 38, 39, 40, 41, 0] rfl rfl (by decide) (by decide) (by decide) (fun _ => rfl) (fun r29 u H locs hw29 hP hD hS => ?_)
  try dsimp only at hw29
  subst hw29
  have hP : va_P G vwCl ([(h, .inr (7, [.ref (a 0), .ref (cd 0), .ref s1, .ref s2, .ref (d 0), .ref g]))] ++ (ck Z a v ++ (hk Z cd (kp, Y) ++ (rk Z d w ++ [(g, .inr (1, [.int go, .int gc]))])))) H := hP
  have hD : va_D A ([(h, .inr (7, [.ref (a 0), .ref (cd 0), .ref s1, .ref s2, .ref (d 0), .ref g]))] ++ (ck Z a v ++ (hk Z cd (kp, Y) ++ (rk Z d w ++ [(g, .inr (1, [.int go, .int gc]))])))) := hD
  refine zTopI (y := (al 5 + 1000000000)) (oc1 hRo _ _) ?_
  refine lv_ldc (v := 1000000000) hx hb hown k_38 dL_isNear_32 ?_
  refine lv_isub hx hb dL_isNear_34 ?_
  refine zTopI (y := (al 5)) (Int32.add_sub_cancel _ _) ?_
  refine lv_istore_n (lv' := [(3, .int (al 5)), (2, .int (cBare al 25 1010 + mBw (cBare al 25 1010) 255)), (1, .int (cBare al 25 1010 + al 7)), (0, .ref h)]) hx hb dL_isNear_35 rfl hl (by decide) rfl (fun ls hl => ?_)
  refine lv_aload_n hx hb dL_isNear_36 rfl (lv_at hl 3 rfl) ?_
  refine lv_bipush (v := 10) hx hb dL_isNear_37 (by decide) ?_
  refine zCi (S := Unit) (ws1 := fun u => [(h, .inr (7, [.ref (a 0), .ref (cd 0), .ref s1, .ref s2, .ref (d 0), .ref g]))] ++ (ck Z a v ++ (hk Z cd (kp, Y) ++ (rk Z d w ++ [(g, .inr (1, [.int go, .int gc]))])))) (wr := [(g, .inr (1, [.int go, .int gc]))]) (va_runV (As := [.int 10]) (rest := []) ⟨hx, hb, hml, hown, hts⟩ (m_X7_count l G Z _ h a cd s1 s2 d g v kp Y w 10) (cwV 1 hts gL_isNear_X7_count rfl rfl rfl (by decide +kernel) ⟨Nat.le_of_ble_eq_true rfl, Nat.le_of_ble_eq_true rfl⟩) (zPreV hK hP hD hS hA hSW [0, 1, 2, 3, 4, 5, 6, 7, 8, 9, 10, 11, 12, 13, 14, 15, 16, 17, 18, 19, 20, 21, 22, 23, 24, 25, 26, 27, 28, 29, 30, 31, 32, 33, 34, 35, 36, 37, 38, 39, 40] rfl (by decide) 0 (ci := 7) rfl rfl rfl) rfl rfl hl.1 rfl (lv_room (Nat.le_of_ble_eq_true rfl)) dL_isNear_39 ⟨Nat.le_of_ble_eq_true rfl, Nat.le_of_ble_eq_true rfl⟩) hP hD hS hA [0, 1, 2, 3, 4, 5, 6, 7, 8, 9, 10, 11, 12, 13, 14, 15, 16, 17, 18, 19, 20, 21, 22, 23, 24, 25, 26, 27, 28, 29, 30, 31, 32, 33, 34, 35, 36, 37, 38, 39, 40] [41] [1, 2, 3, 4, 5, 6, 7, 8, 9, 10, 11, 12, 13, 14, 15, 16, 17, 18, 19, 20, 21, 22, 23, 24, 25, 26, 27, 28, 29, 30, 31, 32, 33, 34, 35, 36, 37, 38, 39, 40, 41, 0] rfl rfl (by decide) (by decide) (by decide) (fun _ => rfl) (fun r39 u H locs hw39 hP hD hS => ?_)
  try dsimp only at hw39
  subst hw39
  have hP : va_P G vwCl ([(h, .inr (7, [.ref (a 0), .ref (cd 0), .ref s1, .ref s2, .ref (d 0), .ref g]))] ++ (ck Z a v ++ (hk Z cd (kp, Y) ++ (rk Z d w ++ [(g, .inr (1, [.int go, .int gc]))])))) H := hP
  have hD : va_D A ([(h, .inr (7, [.ref (a 0), .ref (cd 0), .ref s1, .ref s2, .ref (d 0), .ref g]))] ++ (ck Z a v ++ (hk Z cd (kp, Y) ++ (rk Z d w ++ [(g, .inr (1, [.int go, .int gc]))])))) := hD
  refine zTopI (y := (al 3 + 1000)) (oc10 hRo _ _) ?_
  refine lv_sipush (v := 1000) hx hb dL_isNear_42 (by decide) ?_
  refine lv_isub hx hb dL_isNear_45 ?_
  refine zTopI (y := (al 3)) (Int32.add_sub_cancel _ _) ?_
  refine lv_istore (lv' := [(4, .int (al 3)), (3, .int (al 5)), (2, .int (cBare al 25 1010 + mBw (cBare al 25 1010) 255)), (1, .int (cBare al 25 1010 + al 7)), (0, .ref h)]) hx hb dL_isNear_46 hl (by decide) rfl (fun ls hl => ?_)
  refine lv_aload_n hx hb dL_isNear_48 rfl (lv_at hl 4 rfl) ?_
  refine lv_bipush (v := 25) hx hb dL_isNear_49 (by decide) ?_
  refine lv_sipush (v := 1010) hx hb dL_isNear_51 (by decide) ?_
  refine zCi (S := Int32 × Int32) (ws1 := fun u => [(h, .inr (7, [.ref (a 0), .ref (cd 0), .ref s1, .ref s2, .ref (d 0), .ref g]))] ++ (ck Z a v ++ (hk Z cd (kp, Y) ++ (rk Z d w ++ [(g, .inr (1, [.int u.1, .int u.2]))])))) (wr := hk Z cd (kp, Y) ++ rk Z d w) (va_runV (As := [.int 25, .int 1010]) (rest := []) ⟨hx, hb, hml, hown, hts⟩ (m_X7_offIn l G Z _ h a cd s1 s2 d g v go gc 25 1010) (cwV 2 hts gL_isNear_X7_offIn rfl rfl rfl (by decide +kernel) ⟨Nat.le_of_ble_eq_true rfl, Nat.le_of_ble_eq_true rfl⟩) (zPreV hK hP hD hS hA hSW [0, 1, 2, 3, 4, 5, 41] rfl (by decide) 0 (ci := 7) rfl rfl rfl) rfl rfl hl.1 rfl (lv_room (Nat.le_of_ble_eq_true rfl)) dL_isNear_54 ⟨Nat.le_of_ble_eq_true rfl, Nat.le_of_ble_eq_true rfl⟩) hP hD hS hA [0, 1, 2, 3, 4, 5, 41] [6, 7, 8, 9, 10, 11, 12, 13, 14, 15, 16, 17, 18, 19, 20, 21, 22, 23, 24, 25, 26, 27, 28, 29, 30, 31, 32, 33, 34, 35, 36, 37, 38, 39, 40] [35, 36, 37, 38, 39, 40, 0, 1, 2, 3, 4, 5, 6, 7, 8, 9, 10, 11, 12, 13, 14, 15, 16, 17, 18, 19, 20, 21, 22, 23, 24, 25, 26, 27, 28, 29, 30, 31, 32, 33, 34, 41] rfl rfl (by decide) (by decide) (by decide) (fun _ => rfl) (fun r54 u H locs hw54 hP hD hS => ?_)
  obtain ⟨go1_54, gc1_54⟩ := u
  try dsimp only at hw54
  subst hw54
  have hP : va_P G vwCl ([(h, .inr (7, [.ref (a 0), .ref (cd 0), .ref s1, .ref s2, .ref (d 0), .ref g]))] ++ (ck Z a v ++ (hk Z cd (kp, Y) ++ (rk Z d w ++ [(g, .inr (1, [.int go1_54, .int gc1_54]))])))) H := hP
  have hD : va_D A ([(h, .inr (7, [.ref (a 0), .ref (cd 0), .ref s1, .ref s2, .ref (d 0), .ref g]))] ++ (ck Z a v ++ (hk Z cd (kp, Y) ++ (rk Z d w ++ [(g, .inr (1, [.int go1_54, .int gc1_54]))])))) := hD
  refine zTopI (y := (mOf (cBare al 25 1010 + al 7) (al 3) 5001 (al 5) (al 6) 0)) (oOffIn hRo (by decide) (by decide)) ?_
  refine lv_istore (lv' := [(5, .int (mOf (cBare al 25 1010 + al 7) (al 3) 5001 (al 5) (al 6) 0)), (4, .int (al 3)), (3, .int (al 5)), (2, .int (cBare al 25 1010 + mBw (cBare al 25 1010) 255)), (1, .int (cBare al 25 1010 + al 7)), (0, .ref h)]) hx hb dL_isNear_57 hl (by decide) rfl (fun ls hl => ?_)
  refine zJoin (G := G) (A := A) (σ := Unit) (nL := 10) 77 (fun zx => [(h, .inr (7, [.ref (a 0), .ref (cd 0), .ref s1, .ref s2, .ref (d 0), .ref g]))] ++ (ck Z a v ++ (hk Z cd (kp, Y) ++ (rk Z d w ++ [(g, .inr (1, [.int go1_54, .int gc1_54]))])))) (fun zx => [(5, .int (mOf (cBare al 25 1010 + al 7) (al 3) 5001 (al 5) (al 6) 0)), (4, .int (al 3)), (3, .int (al 5)), (2, .int (cBare al 25 1010 + mBw (cBare al 25 1010) 255)), (1, .int (cBare al 25 1010 + al 7)), (0, .ref h)]) (fun zx => [.int (dMore (al 5) (al 3))]) (fun zx => True) ?_ ?_
  · intro zx hj77 H locs ls hP hD hS hl
    try dsimp only at hj77
    have hP : va_P G vwCl ([(h, .inr (7, [.ref (a 0), .ref (cd 0), .ref s1, .ref s2, .ref (d 0), .ref g]))] ++ (ck Z a v ++ (hk Z cd (kp, Y) ++ (rk Z d w ++ [(g, .inr (1, [.int go1_54, .int gc1_54]))])))) H := hP
    have hD : va_D A ([(h, .inr (7, [.ref (a 0), .ref (cd 0), .ref s1, .ref s2, .ref (d 0), .ref g]))] ++ (ck Z a v ++ (hk Z cd (kp, Y) ++ (rk Z d w ++ [(g, .inr (1, [.int go1_54, .int gc1_54]))])))) := hD
    have hl : lv_has ls 10 [(5, .int (mOf (cBare al 25 1010 + al 7) (al 3) 5001 (al 5) (al 6) 0)), (4, .int (al 3)), (3, .int (al 5)), (2, .int (cBare al 25 1010 + mBw (cBare al 25 1010) 255)), (1, .int (cBare al 25 1010 + al 7)), (0, .ref h)] := hl
    refine lv_istore (lv' := [(6, .int (dMore (al 5) (al 3))), (5, .int (mOf (cBare al 25 1010 + al 7) (al 3) 5001 (al 5) (al 6) 0)), (4, .int (al 3)), (3, .int (al 5)), (2, .int (cBare al 25 1010 + mBw (cBare al 25 1010) 255)), (1, .int (cBare al 25 1010 + al 7)), (0, .ref h)]) hx hb dL_isNear_77 hl (by decide) rfl (fun ls hl => ?_)
    refine zJoin (G := G) (A := A) (σ := Unit) (nL := 10) 89 (fun zx => [(h, .inr (7, [.ref (a 0), .ref (cd 0), .ref s1, .ref s2, .ref (d 0), .ref g]))] ++ (ck Z a v ++ (hk Z cd (kp, Y) ++ (rk Z d w ++ [(g, .inr (1, [.int go1_54, .int gc1_54]))])))) (fun zx => [(6, .int (dMore (al 5) (al 3))), (5, .int (mOf (cBare al 25 1010 + al 7) (al 3) 5001 (al 5) (al 6) 0)), (4, .int (al 3)), (3, .int (al 5)), (2, .int (cBare al 25 1010 + mBw (cBare al 25 1010) 255)), (1, .int (cBare al 25 1010 + al 7)), (0, .ref h)]) (fun zx => [.int (mSize (cBare al 25 1010 + al 7))]) (fun zx => True) ?_ ?_
    · intro zx hj89 H locs ls hP hD hS hl
      try dsimp only at hj89
      have hP : va_P G vwCl ([(h, .inr (7, [.ref (a 0), .ref (cd 0), .ref s1, .ref s2, .ref (d 0), .ref g]))] ++ (ck Z a v ++ (hk Z cd (kp, Y) ++ (rk Z d w ++ [(g, .inr (1, [.int go1_54, .int gc1_54]))])))) H := hP
      have hD : va_D A ([(h, .inr (7, [.ref (a 0), .ref (cd 0), .ref s1, .ref s2, .ref (d 0), .ref g]))] ++ (ck Z a v ++ (hk Z cd (kp, Y) ++ (rk Z d w ++ [(g, .inr (1, [.int go1_54, .int gc1_54]))])))) := hD
      have hl : lv_has ls 10 [(6, .int (dMore (al 5) (al 3))), (5, .int (mOf (cBare al 25 1010 + al 7) (al 3) 5001 (al 5) (al 6) 0)), (4, .int (al 3)), (3, .int (al 5)), (2, .int (cBare al 25 1010 + mBw (cBare al 25 1010) 255)), (1, .int (cBare al 25 1010 + al 7)), (0, .ref h)] := hl
      refine lv_istore (lv' := [(7, .int (mSize (cBare al 25 1010 + al 7))), (6, .int (dMore (al 5) (al 3))), (5, .int (mOf (cBare al 25 1010 + al 7) (al 3) 5001 (al 5) (al 6) 0)), (4, .int (al 3)), (3, .int (al 5)), (2, .int (cBare al 25 1010 + mBw (cBare al 25 1010) 255)), (1, .int (cBare al 25 1010 + al 7)), (0, .ref h)]) hx hb dL_isNear_89 hl (by decide) rfl (fun ls hl => ?_)
      refine lv_iload hx hb dL_isNear_91 (lv_at hl 0 rfl) ?_
      refine lv_bipush (v := 36) hx hb dL_isNear_93 (by decide) ?_
      refine lv_imul hx hb dL_isNear_95 ?_
      refine lv_bipush (v := 10) hx hb dL_isNear_96 (by decide) ?_
      refine lv_idiv hx hb dL_isNear_98 (by decide) ?_
      refine lv_iconst (v := 1) hx hb dL_isNear_99 (by decide) ?_
      refine lv_iadd hx hb dL_isNear_100 ?_
      refine lv_istore (lv' := [(8, .int ((((mSize (cBare al 25 1010 + al 7)) * 36) / 10) + 1)), (7, .int (mSize (cBare al 25 1010 + al 7))), (6, .int (dMore (al 5) (al 3))), (5, .int (mOf (cBare al 25 1010 + al 7) (al 3) 5001 (al 5) (al 6) 0)), (4, .int (al 3)), (3, .int (al 5)), (2, .int (cBare al 25 1010 + mBw (cBare al 25 1010) 255)), (1, .int (cBare al 25 1010 + al 7)), (0, .ref h)]) hx hb dL_isNear_101 hl (by decide) rfl (fun ls hl => ?_)
      refine lv_iload hx hb dL_isNear_103 (lv_at hl 4 rfl) ?_
      refine lv_iconst (v := 1) hx hb dL_isNear_105 (by decide) ?_
      refine lv_iadd hx hb dL_isNear_106 ?_
      refine zJoin (G := G) (A := A) (σ := Unit) (nL := 10) 117 (fun zx => [(h, .inr (7, [.ref (a 0), .ref (cd 0), .ref s1, .ref s2, .ref (d 0), .ref g]))] ++ (ck Z a v ++ (hk Z cd (kp, Y) ++ (rk Z d w ++ [(g, .inr (1, [.int go1_54, .int gc1_54]))])))) (fun zx => [(8, .int ((((mSize (cBare al 25 1010 + al 7)) * 36) / 10) + 1)), (7, .int (mSize (cBare al 25 1010 + al 7))), (6, .int (dMore (al 5) (al 3))), (5, .int (mOf (cBare al 25 1010 + al 7) (al 3) 5001 (al 5) (al 6) 0)), (4, .int (al 3)), (3, .int (al 5)), (2, .int (cBare al 25 1010 + mBw (cBare al 25 1010) 255)), (1, .int (cBare al 25 1010 + al 7)), (0, .ref h)]) (fun zx => [.int (mSize (al 5)), .int ((al 3) + 1)]) (fun zx => True) ?_ ?_
      · intro zx hj117 H locs ls hP hD hS hl
        try dsimp only at hj117
        have hP : va_P G vwCl ([(h, .inr (7, [.ref (a 0), .ref (cd 0), .ref s1, .ref s2, .ref (d 0), .ref g]))] ++ (ck Z a v ++ (hk Z cd (kp, Y) ++ (rk Z d w ++ [(g, .inr (1, [.int go1_54, .int gc1_54]))])))) H := hP
        have hD : va_D A ([(h, .inr (7, [.ref (a 0), .ref (cd 0), .ref s1, .ref s2, .ref (d 0), .ref g]))] ++ (ck Z a v ++ (hk Z cd (kp, Y) ++ (rk Z d w ++ [(g, .inr (1, [.int go1_54, .int gc1_54]))])))) := hD
        have hl : lv_has ls 10 [(8, .int ((((mSize (cBare al 25 1010 + al 7)) * 36) / 10) + 1)), (7, .int (mSize (cBare al 25 1010 + al 7))), (6, .int (dMore (al 5) (al 3))), (5, .int (mOf (cBare al 25 1010 + al 7) (al 3) 5001 (al 5) (al 6) 0)), (4, .int (al 3)), (3, .int (al 5)), (2, .int (cBare al 25 1010 + mBw (cBare al 25 1010) 255)), (1, .int (cBare al 25 1010 + al 7)), (0, .ref h)] := hl
        refine lv_isub hx hb dL_isNear_117 ?_
        refine lv_istore (lv' := [(9, .int (((al 3) + 1) - (mSize (al 5)))), (8, .int ((((mSize (cBare al 25 1010 + al 7)) * 36) / 10) + 1)), (7, .int (mSize (cBare al 25 1010 + al 7))), (6, .int (dMore (al 5) (al 3))), (5, .int (mOf (cBare al 25 1010 + al 7) (al 3) 5001 (al 5) (al 6) 0)), (4, .int (al 3)), (3, .int (al 5)), (2, .int (cBare al 25 1010 + mBw (cBare al 25 1010) 255)), (1, .int (cBare al 25 1010 + al 7)), (0, .ref h)]) hx hb dL_isNear_118 hl (by decide) rfl (fun ls hl => ?_)
        refine zJoin (G := G) (A := A) (σ := Unit) (nL := 10) 130 (fun zx => [(h, .inr (7, [.ref (a 0), .ref (cd 0), .ref s1, .ref s2, .ref (d 0), .ref g]))] ++ (ck Z a v ++ (hk Z cd (kp, Y) ++ (rk Z d w ++ [(g, .inr (1, [.int go1_54, .int gc1_54]))])))) (fun zx => [(9, .int (((al 3) + 1) - (mSize (al 5)))), (8, .int ((((mSize (cBare al 25 1010 + al 7)) * 36) / 10) + 1)), (7, .int (mSize (cBare al 25 1010 + al 7))), (6, .int (dMore (al 5) (al 3))), (5, .int (mOf (cBare al 25 1010 + al 7) (al 3) 5001 (al 5) (al 6) 0)), (4, .int (al 3)), (3, .int (al 5)), (2, .int (cBare al 25 1010 + mBw (cBare al 25 1010) 255)), (1, .int (cBare al 25 1010 + al 7)), (0, .ref h)]) (fun zx => [.int (mSize (cBare al 25 1010 + mBw (cBare al 25 1010) 255))]) (fun zx => True) ?_ ?_
        · intro zx hj130 H locs ls hP hD hS hl
          try dsimp only at hj130
          have hP : va_P G vwCl ([(h, .inr (7, [.ref (a 0), .ref (cd 0), .ref s1, .ref s2, .ref (d 0), .ref g]))] ++ (ck Z a v ++ (hk Z cd (kp, Y) ++ (rk Z d w ++ [(g, .inr (1, [.int go1_54, .int gc1_54]))])))) H := hP
          have hD : va_D A ([(h, .inr (7, [.ref (a 0), .ref (cd 0), .ref s1, .ref s2, .ref (d 0), .ref g]))] ++ (ck Z a v ++ (hk Z cd (kp, Y) ++ (rk Z d w ++ [(g, .inr (1, [.int go1_54, .int gc1_54]))])))) := hD
          have hl : lv_has ls 10 [(9, .int (((al 3) + 1) - (mSize (al 5)))), (8, .int ((((mSize (cBare al 25 1010 + al 7)) * 36) / 10) + 1)), (7, .int (mSize (cBare al 25 1010 + al 7))), (6, .int (dMore (al 5) (al 3))), (5, .int (mOf (cBare al 25 1010 + al 7) (al 3) 5001 (al 5) (al 6) 0)), (4, .int (al 3)), (3, .int (al 5)), (2, .int (cBare al 25 1010 + mBw (cBare al 25 1010) 255)), (1, .int (cBare al 25 1010 + al 7)), (0, .ref h)] := hl
          refine lv_iload hx hb dL_isNear_130 (lv_at hl 2 rfl) ?_
          refine lv_icmp_gt (tgt := 212) hx hb dL_isNear_132 (by decide) (fun c132 => (oNear hRo _ c132).elim) (fun c132 => ?_)
          refine zJoin (G := G) (A := A) (σ := Unit) (nL := 10) 174 (fun zx => [(h, .inr (7, [.ref (a 0), .ref (cd 0), .ref s1, .ref s2, .ref (d 0), .ref g]))] ++ (ck Z a v ++ (hk Z cd (kp, Y) ++ (rk Z d w ++ [(g, .inr (1, [.int go1_54, .int gc1_54]))])))) (fun zx => [(9, .int (((al 3) + 1) - (mSize (al 5)))), (8, .int ((((mSize (cBare al 25 1010 + al 7)) * 36) / 10) + 1)), (7, .int (mSize (cBare al 25 1010 + al 7))), (6, .int (dMore (al 5) (al 3))), (5, .int (mOf (cBare al 25 1010 + al 7) (al 3) 5001 (al 5) (al 6) 0)), (4, .int (al 3)), (3, .int (al 5)), (2, .int (cBare al 25 1010 + mBw (cBare al 25 1010) 255)), (1, .int (cBare al 25 1010 + al 7)), (0, .ref h)]) (fun zx => []) (fun zx => True) ?_ ?_
          · intro zx hj174 H locs ls hP hD hS hl
            try dsimp only at hj174
            have hP : va_P G vwCl ([(h, .inr (7, [.ref (a 0), .ref (cd 0), .ref s1, .ref s2, .ref (d 0), .ref g]))] ++ (ck Z a v ++ (hk Z cd (kp, Y) ++ (rk Z d w ++ [(g, .inr (1, [.int go1_54, .int gc1_54]))])))) H := hP
            have hD : va_D A ([(h, .inr (7, [.ref (a 0), .ref (cd 0), .ref s1, .ref s2, .ref (d 0), .ref g]))] ++ (ck Z a v ++ (hk Z cd (kp, Y) ++ (rk Z d w ++ [(g, .inr (1, [.int go1_54, .int gc1_54]))])))) := hD
            have hl : lv_has ls 10 [(9, .int (((al 3) + 1) - (mSize (al 5)))), (8, .int ((((mSize (cBare al 25 1010 + al 7)) * 36) / 10) + 1)), (7, .int (mSize (cBare al 25 1010 + al 7))), (6, .int (dMore (al 5) (al 3))), (5, .int (mOf (cBare al 25 1010 + al 7) (al 3) 5001 (al 5) (al 6) 0)), (4, .int (al 3)), (3, .int (al 5)), (2, .int (cBare al 25 1010 + mBw (cBare al 25 1010) 255)), (1, .int (cBare al 25 1010 + al 7)), (0, .ref h)] := hl
            refine lv_aload_n hx hb dL_isNear_174 rfl (lv_at hl 9 rfl) ?_
            refine lv_sipush (v := 1010) hx hb dL_isNear_175 (by decide) ?_
            refine zCi (S := Unit) (ws1 := fun u => [(h, .inr (7, [.ref (a 0), .ref (cd 0), .ref s1, .ref s2, .ref (d 0), .ref g]))] ++ (ck Z a v ++ (hk Z cd (kp, Y) ++ (rk Z d w ++ [(g, .inr (1, [.int go1_54, .int gc1_54]))])))) (wr := hk Z cd (kp, Y) ++ (rk Z d w ++ [(g, .inr (1, [.int go1_54, .int gc1_54]))])) (va_runV (As := [.int 1010]) (rest := []) ⟨hx, hb, hml, hown, hts⟩ (m_X7_coolest l G Z _ h a cd s1 s2 d g v 1010) (cwV 1 hts gL_isNear_X7_coolest rfl rfl rfl (by decide +kernel) ⟨Nat.le_of_ble_eq_true rfl, Nat.le_of_ble_eq_true rfl⟩) (zPreV hK hP hD hS hA hSW [0, 1, 2, 3, 4, 5] rfl (by decide) 0 (ci := 7) rfl rfl rfl) rfl rfl hl.1 rfl (lv_room (Nat.le_of_ble_eq_true rfl)) dL_isNear_178 ⟨Nat.le_of_ble_eq_true rfl, Nat.le_of_ble_eq_true rfl⟩) hP hD hS hA [0, 1, 2, 3, 4, 5] [6, 7, 8, 9, 10, 11, 12, 13, 14, 15, 16, 17, 18, 19, 20, 21, 22, 23, 24, 25, 26, 27, 28, 29, 30, 31, 32, 33, 34, 35, 36, 37, 38, 39, 40, 41] [36, 37, 38, 39, 40, 41, 0, 1, 2, 3, 4, 5, 6, 7, 8, 9, 10, 11, 12, 13, 14, 15, 16, 17, 18, 19, 20, 21, 22, 23, 24, 25, 26, 27, 28, 29, 30, 31, 32, 33, 34, 35] rfl rfl (by decide) (by decide) (by decide) (fun _ => rfl) (fun r178 u H locs hw178 hP hD hS => ?_)
            try dsimp only at hw178
            subst hw178
            have hP : va_P G vwCl ([(h, .inr (7, [.ref (a 0), .ref (cd 0), .ref s1, .ref s2, .ref (d 0), .ref g]))] ++ (ck Z a v ++ (hk Z cd (kp, Y) ++ (rk Z d w ++ [(g, .inr (1, [.int go1_54, .int gc1_54]))])))) H := hP
            have hD : va_D A ([(h, .inr (7, [.ref (a 0), .ref (cd 0), .ref s1, .ref s2, .ref (d 0), .ref g]))] ++ (ck Z a v ++ (hk Z cd (kp, Y) ++ (rk Z d w ++ [(g, .inr (1, [.int go1_54, .int gc1_54]))])))) := hD
            refine zTopI (y := (mCo (fun h => cBare al h 1010 + al 7) 71 (-20))) (oCool hRo (by decide)) ?_
            refine lv_bipush (v := (-6)) hx hb dL_isNear_181 (by decide) ?_
            refine lv_icmp_eq (tgt := 208) hx hb dL_isNear_183 (by decide) (fun c183 => ?_) (fun c183 => ?_)
            · refine lv_iconst (v := 1) hx hb dL_isNear_208 (by decide) ?_
              refine lv_goto (tgt := 213) hx hb dL_isNear_209 (by decide) ?_
              exact W.zret hx hb hr (rfl) (zEi (go1_54, gc1_54) (by
                  rfl) hP hD hS) hS.2.2 dL_isNear_213
            · obtain ⟨x9, hx1, hx2, hx3⟩ := oCool2 c183
              refine lv_aload_n hx hb dL_isNear_186 rfl (lv_at hl 9 rfl) ?_
              refine lv_aload_n hx hb dL_isNear_187 rfl (lv_at hl 9 rfl) ?_
              refine lv_sipush (v := 1010) hx hb dL_isNear_188 (by decide) ?_
              refine zCi (S := Unit) (ws1 := fun u => [(h, .inr (7, [.ref (a 0), .ref (cd 0), .ref s1, .ref s2, .ref (d 0), .ref g]))] ++ (ck Z a v ++ (hk Z cd (kp, Y) ++ (rk Z d w ++ [(g, .inr (1, [.int go1_54, .int gc1_54]))])))) (wr := hk Z cd (kp, Y) ++ (rk Z d w ++ [(g, .inr (1, [.int go1_54, .int gc1_54]))])) (va_runV (As := [.int 1010]) (rest := [.ref h]) ⟨hx, hb, hml, hown, hts⟩ (m_X7_coolest l G Z _ h a cd s1 s2 d g v 1010) (cwV 1 hts gL_isNear_X7_coolest rfl rfl rfl (by decide +kernel) ⟨Nat.le_of_ble_eq_true rfl, Nat.le_of_ble_eq_true rfl⟩) (zPreV hK hP hD hS hA hSW [0, 1, 2, 3, 4, 5] rfl (by decide) 0 (ci := 7) rfl rfl rfl) rfl rfl hl.1 rfl (lv_room (Nat.le_of_ble_eq_true rfl)) dL_isNear_191 ⟨Nat.le_of_ble_eq_true rfl, Nat.le_of_ble_eq_true rfl⟩) hP hD hS hA [0, 1, 2, 3, 4, 5] [6, 7, 8, 9, 10, 11, 12, 13, 14, 15, 16, 17, 18, 19, 20, 21, 22, 23, 24, 25, 26, 27, 28, 29, 30, 31, 32, 33, 34, 35, 36, 37, 38, 39, 40, 41] [36, 37, 38, 39, 40, 41, 0, 1, 2, 3, 4, 5, 6, 7, 8, 9, 10, 11, 12, 13, 14, 15, 16, 17, 18, 19, 20, 21, 22, 23, 24, 25, 26, 27, 28, 29, 30, 31, 32, 33, 34, 35] rfl rfl (by decide) (by decide) (by decide) (fun _ => rfl) (fun r191 u H locs hw191 hP hD hS => ?_)
              try dsimp only at hw191
              subst hw191
              have hP : va_P G vwCl ([(h, .inr (7, [.ref (a 0), .ref (cd 0), .ref s1, .ref s2, .ref (d 0), .ref g]))] ++ (ck Z a v ++ (hk Z cd (kp, Y) ++ (rk Z d w ++ [(g, .inr (1, [.int go1_54, .int gc1_54]))])))) H := hP
              have hD : va_D A ([(h, .inr (7, [.ref (a 0), .ref (cd 0), .ref s1, .ref s2, .ref (d 0), .ref g]))] ++ (ck Z a v ++ (hk Z cd (kp, Y) ++ (rk Z d w ++ [(g, .inr (1, [.int go1_54, .int gc1_54]))])))) := hD
              refine zTopI (y := (x9 + 100)) ((oCool hRo (by decide)).trans hx2) ?_
              refine lv_bipush (v := 100) hx hb dL_isNear_194 (by decide) ?_
              refine lv_isub hx hb dL_isNear_196 ?_
              refine zTopI (y := x9) (Int32.add_sub_cancel _ _) ?_
              refine lv_sipush (v := 1010) hx hb dL_isNear_197 (by decide) ?_
              refine zCi (S := Unit) (ws1 := fun u => [(h, .inr (7, [.ref (a 0), .ref (cd 0), .ref s1, .ref s2, .ref (d 0), .ref g]))] ++ (ck Z a v ++ (hk Z cd (kp, Y) ++ (rk Z d w ++ [(g, .inr (1, [.int go1_54, .int gc1_54]))])))) (wr := hk Z cd (kp, Y) ++ (rk Z d w ++ [(g, .inr (1, [.int go1_54, .int gc1_54]))])) (va_runV (As := [.int x9, .int 1010]) (rest := []) ⟨hx, hb, hml, hown, hts⟩ (m_X7_rate l G Z _ h a cd s1 s2 d g v x9 1010) (cwV 2 hts gL_isNear_X7_rate rfl rfl rfl (by decide +kernel) ⟨Nat.le_of_ble_eq_true rfl, Nat.le_of_ble_eq_true rfl⟩) (zPreV hK hP hD hS hA hSW [0, 1, 2, 3, 4, 5] rfl (by decide) 0 (ci := 7) rfl rfl rfl) rfl rfl hl.1 rfl (lv_room (Nat.le_of_ble_eq_true rfl)) dL_isNear_200 ⟨Nat.le_of_ble_eq_true rfl, Nat.le_of_ble_eq_true rfl⟩) hP hD hS hA [0, 1, 2, 3, 4, 5] [6, 7, 8, 9, 10, 11, 12, 13, 14, 15, 16, 17, 18, 19, 20, 21, 22, 23, 24, 25, 26, 27, 28, 29, 30, 31, 32, 33, 34, 35, 36, 37, 38, 39, 40, 41] [36, 37, 38, 39, 40, 41, 0, 1, 2, 3, 4, 5, 6, 7, 8, 9, 10, 11, 12, 13, 14, 15, 16, 17, 18, 19, 20, 21, 22, 23, 24, 25, 26, 27, 28, 29, 30, 31, 32, 33, 34, 35] rfl rfl (by decide) (by decide) (by decide) (fun _ => rfl) (fun r200 u H locs hw200 hP hD hS => ?_)
              try dsimp only at hw200
              subst hw200
              have hP : va_P G vwCl ([(h, .inr (7, [.ref (a 0), .ref (cd 0), .ref s1, .ref s2, .ref (d 0), .ref g]))] ++ (ck Z a v ++ (hk Z cd (kp, Y) ++ (rk Z d w ++ [(g, .inr (1, [.int go1_54, .int gc1_54]))])))) H := hP
              have hD : va_D A ([(h, .inr (7, [.ref (a 0), .ref (cd 0), .ref s1, .ref s2, .ref (d 0), .ref g]))] ++ (ck Z a v ++ (hk Z cd (kp, Y) ++ (rk Z d w ++ [(g, .inr (1, [.int go1_54, .int gc1_54]))])))) := hD
              refine zTopI (y := (cBare al x9 1010 + al 7 + 100000)) (oRate hRo hx1 (by decide)) ?_
              refine lv_ldc (v := 100000) hx hb hown k_39 dL_isNear_203 ?_
              refine lv_icmp_gt (tgt := 212) hx hb dL_isNear_205 (by decide) (fun c205 => (oCool3 (rate_i hRo hx1 (by decide)) hx3 c205).elim) (fun c205 => ?_)
              refine lv_iconst (v := 1) hx hb dL_isNear_208 (by decide) ?_
              refine lv_goto (tgt := 213) hx hb dL_isNear_209 (by decide) ?_
              exact W.zret hx hb hr (rfl) (zEi (go1_54, gc1_54) (by
                  rfl) hP hD hS) hS.2.2 dL_isNear_213
          · intro K174
            refine lv_iload hx hb dL_isNear_135 (lv_at hl 4 rfl) ?_
            refine lv_if_ne (tgt := 144) hx hb dL_isNear_137 (by decide) (fun c137 => ?_) (fun c137 => ?_)
            · refine lv_iconst (v := 0) hx hb dL_isNear_144 (by decide) ?_
              refine lv_iload hx hb dL_isNear_145 (lv_at hl 3 rfl) ?_
              refine lv_icmp_ne (tgt := 212) hx hb dL_isNear_147 (by decide) (fun c147 => (c147 ((dMore_b _ _).resolve_right (fun q => c137 (oFar1 hRo (by rw [q]; decide)))).symm).elim) (fun c147 => ?_)
              refine lv_iload hx hb dL_isNear_150 (lv_at hl 3 rfl) ?_
              refine lv_if_ne (tgt := 174) hx hb dL_isNear_152 (by decide) (fun c152 => ?_) (fun c152 => ?_)
              · exact K174 () trivial _ _ _ hP hD hS (lv_sub hl [0, 1, 2, 3, 4, 5, 6, 7, 8, 9] rfl)
              · refine lv_iload hx hb dL_isNear_155 (lv_at hl 4 rfl) ?_
                refine lv_if_lt (tgt := 174) hx hb dL_isNear_157 (by decide) (fun c157 => ?_) (fun c157 => ?_)
                · exact K174 () trivial _ _ _ hP hD hS (lv_sub hl [0, 1, 2, 3, 4, 5, 6, 7, 8, 9] rfl)
                · refine lv_iload hx hb dL_isNear_160 (lv_at hl 4 rfl) ?_
                  refine lv_i2l (v := (mOf (cBare al 25 1010 + al 7) (al 3) 5001 (al 5) (al 6) 0).toInt64) hx hb dL_isNear_162 rfl ?_
                  refine lv_iload hx hb dL_isNear_163 (lv_at hl 1 rfl) ?_
                  refine lv_i2l (v := ((((mSize (cBare al 25 1010 + al 7)) * 36) / 10) + 1).toInt64) hx hb dL_isNear_165 rfl ?_
                  refine lv_lmul hx hb dL_isNear_166 ?_
                  refine lv_iload hx hb dL_isNear_167 (lv_at hl 0 rfl) ?_
                  refine lv_i2l (v := (((al 3) + 1) - (mSize (al 5))).toInt64) hx hb dL_isNear_169 rfl ?_
                  refine W.lcmp hx hb dL_isNear_170 ?_
                  refine lv_if_lt (tgt := 212) hx hb dL_isNear_171 (by decide) (fun c171 => (oEnough hRo hRr c152 c157 c171).elim) (fun c171 => ?_)
                  exact K174 () trivial _ _ _ hP hD hS (lv_sub hl [0, 1, 2, 3, 4, 5, 6, 7, 8, 9] rfl)
            · refine lv_iconst (v := 1) hx hb dL_isNear_140 (by decide) ?_
              refine lv_goto (tgt := 145) hx hb dL_isNear_141 (by decide) ?_
              refine lv_iload hx hb dL_isNear_145 (lv_at hl 3 rfl) ?_
              refine lv_icmp_ne (tgt := 212) hx hb dL_isNear_147 (by decide) (fun c147 => (c147 ((dMore_b _ _).resolve_left (fun q => oFar0 hRo hRr q c137)).symm).elim) (fun c147 => ?_)
              refine lv_iload hx hb dL_isNear_150 (lv_at hl 3 rfl) ?_
              refine lv_if_ne (tgt := 174) hx hb dL_isNear_152 (by decide) (fun c152 => ?_) (fun c152 => ?_)
              · exact K174 () trivial _ _ _ hP hD hS (lv_sub hl [0, 1, 2, 3, 4, 5, 6, 7, 8, 9] rfl)
              · refine lv_iload hx hb dL_isNear_155 (lv_at hl 4 rfl) ?_
                refine lv_if_lt (tgt := 174) hx hb dL_isNear_157 (by decide) (fun c157 => ?_) (fun c157 => ?_)
                · exact K174 () trivial _ _ _ hP hD hS (lv_sub hl [0, 1, 2, 3, 4, 5, 6, 7, 8, 9] rfl)
                · refine lv_iload hx hb dL_isNear_160 (lv_at hl 4 rfl) ?_
                  refine lv_i2l (v := (mOf (cBare al 25 1010 + al 7) (al 3) 5001 (al 5) (al 6) 0).toInt64) hx hb dL_isNear_162 rfl ?_
                  refine lv_iload hx hb dL_isNear_163 (lv_at hl 1 rfl) ?_
                  refine lv_i2l (v := ((((mSize (cBare al 25 1010 + al 7)) * 36) / 10) + 1).toInt64) hx hb dL_isNear_165 rfl ?_
                  refine lv_lmul hx hb dL_isNear_166 ?_
                  refine lv_iload hx hb dL_isNear_167 (lv_at hl 0 rfl) ?_
                  refine lv_i2l (v := (((al 3) + 1) - (mSize (al 5))).toInt64) hx hb dL_isNear_169 rfl ?_
                  refine W.lcmp hx hb dL_isNear_170 ?_
                  refine lv_if_lt (tgt := 212) hx hb dL_isNear_171 (by decide) (fun c171 => (oEnough hRo hRr c152 c157 c171).elim) (fun c171 => ?_)
                  exact K174 () trivial _ _ _ hP hD hS (lv_sub hl [0, 1, 2, 3, 4, 5, 6, 7, 8, 9] rfl)
        · intro K130
          refine lv_iload_n hx hb dL_isNear_120 rfl (lv_at hl 7 rfl) ?_
          refine lv_if_ge (tgt := 129) hx hb dL_isNear_121 (by decide) (fun c121 => ?_) (fun c121 => ?_)
          · refine lv_iload_n hx hb dL_isNear_129 rfl (lv_at hl 7 rfl) ?_
            refine zTopI (y := (mSize (cBare al 25 1010 + mBw (cBare al 25 1010) 255))) ((if_pos c121).symm) ?_
            exact K130 () trivial _ _ _ hP hD hS (lv_sub hl [0, 1, 2, 3, 4, 5, 6, 7, 8, 9] rfl)
          · refine lv_iload_n hx hb dL_isNear_124 rfl (lv_at hl 7 rfl) ?_
            refine lv_ineg hx hb dL_isNear_125 ?_
            refine lv_goto (tgt := 130) hx hb dL_isNear_126 (by decide) ?_
            refine zTopI (y := (mSize (cBare al 25 1010 + mBw (cBare al 25 1010) 255))) ((if_neg c121).symm) ?_
            exact K130 () trivial _ _ _ hP hD hS (lv_sub hl [0, 1, 2, 3, 4, 5, 6, 7, 8, 9] rfl)
      · intro K117
        refine lv_iload_n hx hb dL_isNear_107 rfl (lv_at hl 5 rfl) ?_
        refine lv_if_ge (tgt := 116) hx hb dL_isNear_108 (by decide) (fun c108 => ?_) (fun c108 => ?_)
        · refine lv_iload_n hx hb dL_isNear_116 rfl (lv_at hl 5 rfl) ?_
          refine zTopI (y := (mSize (al 5))) ((if_pos c108).symm) ?_
          exact K117 () trivial _ _ _ hP hD hS (lv_sub hl [0, 1, 2, 3, 4, 5, 6, 7, 8] rfl)
        · refine lv_iload_n hx hb dL_isNear_111 rfl (lv_at hl 5 rfl) ?_
          refine lv_ineg hx hb dL_isNear_112 ?_
          refine lv_goto (tgt := 117) hx hb dL_isNear_113 (by decide) ?_
          refine zTopI (y := (mSize (al 5))) ((if_neg c108).symm) ?_
          exact K117 () trivial _ _ _ hP hD hS (lv_sub hl [0, 1, 2, 3, 4, 5, 6, 7, 8] rfl)
    · intro K89
      refine lv_iload_n hx hb dL_isNear_79 rfl (lv_at hl 5 rfl) ?_
      refine lv_if_ge (tgt := 88) hx hb dL_isNear_80 (by decide) (fun c80 => ?_) (fun c80 => ?_)
      · refine lv_iload_n hx hb dL_isNear_88 rfl (lv_at hl 5 rfl) ?_
        refine zTopI (y := (mSize (cBare al 25 1010 + al 7))) ((if_pos c80).symm) ?_
        exact K89 () trivial _ _ _ hP hD hS (lv_sub hl [0, 1, 2, 3, 4, 5, 6] rfl)
      · refine lv_iload_n hx hb dL_isNear_83 rfl (lv_at hl 5 rfl) ?_
        refine lv_ineg hx hb dL_isNear_84 ?_
        refine lv_goto (tgt := 89) hx hb dL_isNear_85 (by decide) ?_
        refine zTopI (y := (mSize (cBare al 25 1010 + al 7))) ((if_neg c80).symm) ?_
        exact K89 () trivial _ _ _ hP hD hS (lv_sub hl [0, 1, 2, 3, 4, 5, 6] rfl)
  · intro K77
    refine lv_iload_n hx hb dL_isNear_59 rfl (lv_at hl 2 rfl) ?_
    refine lv_iload hx hb dL_isNear_60 (lv_at hl 1 rfl) ?_
    refine lv_icmp_gt (tgt := 72) hx hb dL_isNear_62 (by decide) (fun c62 => ?_) (fun c62 => ?_)
    · refine lv_iconst (v := 1) hx hb dL_isNear_72 (by decide) ?_
      refine lv_goto (tgt := 77) hx hb dL_isNear_73 (by decide) ?_
      refine zTopI (y := (dMore (al 5) (al 3))) (by simp only [dMore, c62, Int32.not_le.mpr c62, ↓reduceIte]) ?_
      exact K77 () trivial _ _ _ hP hD hS (lv_sub hl [0, 1, 2, 3, 4, 5] rfl)
    · refine lv_iload_n hx hb dL_isNear_65 rfl (lv_at hl 2 rfl) ?_
      refine lv_iload hx hb dL_isNear_66 (lv_at hl 1 rfl) ?_
      refine lv_ineg hx hb dL_isNear_68 ?_
      refine lv_icmp_ge (tgt := 76) hx hb dL_isNear_69 (by decide) (fun c69 => ?_) (fun c69 => ?_)
      · refine lv_iconst (v := 0) hx hb dL_isNear_76 (by decide) ?_
        refine zTopI (y := (dMore (al 5) (al 3))) (by simp only [dMore, c62, Int32.not_lt.mp c62, c69, Int32.not_lt.mpr c69, ↓reduceIte]) ?_
        exact K77 () trivial _ _ _ hP hD hS (lv_sub hl [0, 1, 2, 3, 4, 5] rfl)
      · refine lv_iconst (v := 1) hx hb dL_isNear_72 (by decide) ?_
        refine lv_goto (tgt := 77) hx hb dL_isNear_73 (by decide) ?_
        refine zTopI (y := (dMore (al 5) (al 3))) (by simp only [dMore, c62, Int32.not_lt.mp c62, c69, Int32.not_le.mp c69, ↓reduceIte]) ?_
        exact K77 () trivial _ _ _ hP hD hS (lv_sub hl [0, 1, 2, 3, 4, 5] rfl)
