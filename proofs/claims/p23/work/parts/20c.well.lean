set_option maxHeartbeats 4000000 in
set_option maxRecDepth 100000 in
theorem m_L_isWell (l : Launch) (G : va_G) (Z : Nat → ClassId) (sz : Nat) (h : Nat) (a : Nat → Nat) (cd : Nat → Nat) (s1 : Nat) (s2 : Nat) (d : Nat → Nat) (g : Nat) (v : CV) (kp : Nat) (Y : HV) (w : RV) (go : Int32) (gc : Int32) (al : Nat → Int32) (hh : Nat) (hRo : RS v al hh) (hWI : WI al hh) : Met l yL_isWell wsL_isWell ({ frames := 5, cells := 0, slots := 0, locals := 119 }) (va_Pc [.ref h] (zWP G Z sz ([(h, .inr (7, [.ref (a 0), .ref (cd 0), .ref s1, .ref s2, .ref (d 0), .ref g]))] ++ (ck Z a v ++ (hk Z cd (kp, Y) ++ (rk Z d w ++ [(g, .inr (1, [.int go, .int gc]))])))))) (va_Qi (fun (r : Int32) (u : Int32 × Int32) => r = 1) (fun (u : Int32 × Int32) t => zB G (va_A ([(h, .inr (7, [.ref (a 0), .ref (cd 0), .ref s1, .ref s2, .ref (d 0), .ref g]))] ++ (ck Z a v ++ (hk Z cd (kp, Y) ++ (rk Z d w ++ [(g, .inr (1, [.int go, .int gc]))])))) sz) ([(h, .inr (7, [.ref (a 0), .ref (cd 0), .ref s1, .ref s2, .ref (d 0), .ref g]))] ++ (ck Z a v ++ (hk Z cd (kp, Y) ++ (rk Z d w ++ [(g, .inr (1, [.int u.1, .int u.2]))])))) t) (va_A ([(h, .inr (7, [.ref (a 0), .ref (cd 0), .ref s1, .ref s2, .ref (d 0), .ref g]))] ++ (ck Z a v ++ (hk Z cd (kp, Y) ++ (rk Z d w ++ [(g, .inr (1, [.int go, .int gc]))])))) sz)) 0 0 (va_A ([(h, .inr (7, [.ref (a 0), .ref (cd 0), .ref s1, .ref s2, .ref (d 0), .ref g]))] ++ (ck Z a v ++ (hk Z cd (kp, Y) ++ (rk Z d w ++ [(g, .inr (1, [.int go, .int gc]))])))) sz) := by
  obtain ⟨-, a8⟩ := id hWI
  have hh9 := hRo.hh
  refine Met.ofW (cc := cL_isWell) (maxL := 12) (ret := (some .boolean)) (by decide) rfl ?_
  intro p e s m args below meth c s₁ B hml hv
  have hx := B.exec
  have hb := B.bytes
  have hr := B.returns
  have hts := atoms_spec (ws := wsL_isWell) B.pre
  have hown : s.vm.findClass RL = some m.cls := findClass_of_methodNamed B.named
  have hlocks := B.notSynchronized
  obtain ⟨rfl, hsz, hP, hK, hD, hA, hS, hSW⟩ := zEnter hv
  subst hsz
  generalize va_A ([(h, .inr (7, [.ref (a 0), .ref (cd 0), .ref s1, .ref s2, .ref (d 0), .ref g]))] ++ (ck Z a v ++ (hk Z cd (kp, Y) ++ (rk Z d w ++ [(g, .inr (1, [.int go, .int gc]))])))) s.heap.size = A at hD hA hS hSW ⊢
  have k_39 := hts (.constant RL 39 (100000)) (List.mem_of_getElem? (i := 1) rfl)
  have k_38 := hts (.constant RL 38 (1000000000)) (List.mem_of_getElem? (i := 2) rfl)
  have hP : va_P G vwCl ([(h, .inr (7, [.ref (a 0), .ref (cd 0), .ref s1, .ref s2, .ref (d 0), .ref g]))] ++ (ck Z a v ++ (hk Z cd (kp, Y) ++ (rk Z d w ++ [(g, .inr (1, [.int go, .int gc]))])))) s.heap := hP
  have hl := lv_entry ([.ref h]) (n := 12) (Nat.le_of_ble_eq_true rfl)
  rw [lg_entry_eq]
  generalize (lg_sl ([.ref h]) ++ List.replicate (12 - (lg_sl ([.ref h])).length) Slot.unset).toArray = ls at hl ⊢
  have hl : lv_has ls 12 [(0, .ref h)] := hl
  refine lv_aload_n hx hb dL_isWell_0 rfl (lv_at hl 0 rfl) ?_
  refine lv_iconst (v := 5) hx hb dL_isWell_1 (by decide) ?_
  refine zCi (S := Unit) (ws1 := fun u => [(h, .inr (7, [.ref (a 0), .ref (cd 0), .ref s1, .ref s2, .ref (d 0), .ref g]))] ++ (ck Z a v ++ (hk Z cd (kp, Y) ++ (rk Z d w ++ [(g, .inr (1, [.int go, .int gc]))])))) (wr := [(g, .inr (1, [.int go, .int gc]))]) (va_runV (As := [.int 5]) (rest := []) ⟨hx, hb, hml, hown, hts⟩ (m_X7_count l G Z _ h a cd s1 s2 d g v kp Y w 5) (cwV 1 hts gL_isWell_X7_count rfl rfl rfl (by decide +kernel) ⟨Nat.le_of_ble_eq_true rfl, Nat.le_of_ble_eq_true rfl⟩) (zPreV hK hP hD hS hA hSW [0, 1, 2, 3, 4, 5, 6, 7, 8, 9, 10, 11, 12, 13, 14, 15, 16, 17, 18, 19, 20, 21, 22, 23, 24, 25, 26, 27, 28, 29, 30, 31, 32, 33, 34, 35, 36, 37, 38, 39, 40] rfl (by decide) 0 (ci := 7) rfl rfl rfl) rfl rfl hl.1 rfl (lv_room (Nat.le_of_ble_eq_true rfl)) dL_isWell_2 ⟨Nat.le_of_ble_eq_true rfl, Nat.le_of_ble_eq_true rfl⟩) hP hD hS hA [0, 1, 2, 3, 4, 5, 6, 7, 8, 9, 10, 11, 12, 13, 14, 15, 16, 17, 18, 19, 20, 21, 22, 23, 24, 25, 26, 27, 28, 29, 30, 31, 32, 33, 34, 35, 36, 37, 38, 39, 40] [41] [1, 2, 3, 4, 5, 6, 7, 8, 9, 10, 11, 12, 13, 14, 15, 16, 17, 18, 19, 20, 21, 22, 23, 24, 25, 26, 27, 28, 29, 30, 31, 32, 33, 34, 35, 36, 37, 38, 39, 40, 41, 0] rfl rfl (by decide) (by decide) (by decide) (fun _ => rfl) (fun r2 u H locs hw2 hP hD hS => ?_)
  try dsimp only at hw2
  subst hw2
  have hP : va_P G vwCl ([(h, .inr (7, [.ref (a 0), .ref (cd 0), .ref s1, .ref s2, .ref (d 0), .ref g]))] ++ (ck Z a v ++ (hk Z cd (kp, Y) ++ (rk Z d w ++ [(g, .inr (1, [.int go, .int gc]))])))) H := hP
  have hD : va_D A ([(h, .inr (7, [.ref (a 0), .ref (cd 0), .ref s1, .ref s2, .ref (d 0), .ref g]))] ++ (ck Z a v ++ (hk Z cd (kp, Y) ++ (rk Z d w ++ [(g, .inr (1, [.int go, .int gc]))])))) := hD
  refine zTopI (y := (nI (min hh 48))) (oc5 hRo _ _) ?_
  refine lv_istore_n (lv' := [(1, .int (nI (min hh 48))), (0, .ref h)]) hx hb dL_isWell_5 rfl hl (by decide) rfl (fun ls hl => ?_)
  refine lv_iconst (v := 0) hx hb dL_isWell_6 (by decide) ?_
  refine lv_istore_n (lv' := [(2, .int 0), (1, .int (nI (min hh 48))), (0, .ref h)]) hx hb dL_isWell_7 rfl hl (by decide) rfl (fun ls hl => ?_)
  refine lv_iconst (v := 0) hx hb dL_isWell_8 (by decide) ?_
  refine lv_istore_n (lv' := [(3, .int 0), (2, .int 0), (1, .int (nI (min hh 48))), (0, .ref h)]) hx hb dL_isWell_9 rfl hl (by decide) rfl (fun ls hl => ?_)
  refine lv_iconst (v := 0) hx hb dL_isWell_10 (by decide) ?_
  refine lv_istore (lv' := [(4, .int 0), (3, .int 0), (2, .int 0), (1, .int (nI (min hh 48))), (0, .ref h)]) hx hb dL_isWell_11 hl (by decide) rfl (fun ls hl => ?_)
  refine lv_iconst (v := 0) hx hb dL_isWell_13 (by decide) ?_
  refine lv_istore (lv' := [(5, .int 0), (4, .int 0), (3, .int 0), (2, .int 0), (1, .int (nI (min hh 48))), (0, .ref h)]) hx hb dL_isWell_14 hl (by decide) rfl (fun ls hl => ?_)
  refine lv_aload_n hx hb dL_isWell_16 rfl (lv_at hl 5 rfl) ?_
  refine lv_iconst (v := 2) hx hb dL_isWell_17 (by decide) ?_
  refine zCi (S := Unit) (ws1 := fun u => [(h, .inr (7, [.ref (a 0), .ref (cd 0), .ref s1, .ref s2, .ref (d 0), .ref g]))] ++ (ck Z a v ++ (hk Z cd (kp, Y) ++ (rk Z d w ++ [(g, .inr (1, [.int go, .int gc]))])))) (wr := [(g, .inr (1, [.int go, .int gc]))]) (va_runV (As := [.int 2]) (rest := []) ⟨hx, hb, hml, hown, hts⟩ (m_X7_count l G Z _ h a cd s1 s2 d g v kp Y w 2) (cwV 1 hts gL_isWell_X7_count rfl rfl rfl (by decide +kernel) ⟨Nat.le_of_ble_eq_true rfl, Nat.le_of_ble_eq_true rfl⟩) (zPreV hK hP hD hS hA hSW [0, 1, 2, 3, 4, 5, 6, 7, 8, 9, 10, 11, 12, 13, 14, 15, 16, 17, 18, 19, 20, 21, 22, 23, 24, 25, 26, 27, 28, 29, 30, 31, 32, 33, 34, 35, 36, 37, 38, 39, 40] rfl (by decide) 0 (ci := 7) rfl rfl rfl) rfl rfl hl.1 rfl (lv_room (Nat.le_of_ble_eq_true rfl)) dL_isWell_18 ⟨Nat.le_of_ble_eq_true rfl, Nat.le_of_ble_eq_true rfl⟩) hP hD hS hA [0, 1, 2, 3, 4, 5, 6, 7, 8, 9, 10, 11, 12, 13, 14, 15, 16, 17, 18, 19, 20, 21, 22, 23, 24, 25, 26, 27, 28, 29, 30, 31, 32, 33, 34, 35, 36, 37, 38, 39, 40] [41] [1, 2, 3, 4, 5, 6, 7, 8, 9, 10, 11, 12, 13, 14, 15, 16, 17, 18, 19, 20, 21, 22, 23, 24, 25, 26, 27, 28, 29, 30, 31, 32, 33, 34, 35, 36, 37, 38, 39, 40, 41, 0] rfl rfl (by decide) (by decide) (by decide) (fun _ => rfl) (fun r18 u H locs hw18 hP hD hS => ?_)
  try dsimp only at hw18
  subst hw18
  have hP : va_P G vwCl ([(h, .inr (7, [.ref (a 0), .ref (cd 0), .ref s1, .ref s2, .ref (d 0), .ref g]))] ++ (ck Z a v ++ (hk Z cd (kp, Y) ++ (rk Z d w ++ [(g, .inr (1, [.int go, .int gc]))])))) H := hP
  have hD : va_D A ([(h, .inr (7, [.ref (a 0), .ref (cd 0), .ref s1, .ref s2, .ref (d 0), .ref g]))] ++ (ck Z a v ++ (hk Z cd (kp, Y) ++ (rk Z d w ++ [(g, .inr (1, [.int go, .int gc]))])))) := hD
  refine zTopI (y := (al 6 + 1000)) (oc2 hRo _ _) ?_
  refine lv_sipush (v := 1000) hx hb dL_isWell_21 (by decide) ?_
  refine lv_isub hx hb dL_isWell_24 ?_
  refine zTopI (y := (al 6)) (Int32.add_sub_cancel _ _) ?_
  refine lv_istore (lv' := [(6, .int (al 6)), (5, .int 0), (4, .int 0), (3, .int 0), (2, .int 0), (1, .int (nI (min hh 48))), (0, .ref h)]) hx hb dL_isWell_25 hl (by decide) rfl (fun ls hl => ?_)
  refine zJoin (G := G) (A := A) (σ := Unit) (nL := 12) 51 (fun zx => [(h, .inr (7, [.ref (a 0), .ref (cd 0), .ref s1, .ref s2, .ref (d 0), .ref g]))] ++ (ck Z a v ++ (hk Z cd (kp, Y) ++ (rk Z d w ++ [(g, .inr (1, [.int go, .int gc]))])))) (fun zx => [(6, .int (al 6)), (5, .int 0), (4, .int 0), (3, .int 0), (2, .int 0), (1, .int (nI (min hh 48))), (0, .ref h)]) (fun zx => []) (fun zx => True) ?_ ?_
  · intro zx hj51 H locs ls hP hD hS hl
    try dsimp only at hj51
    have hP : va_P G vwCl ([(h, .inr (7, [.ref (a 0), .ref (cd 0), .ref s1, .ref s2, .ref (d 0), .ref g]))] ++ (ck Z a v ++ (hk Z cd (kp, Y) ++ (rk Z d w ++ [(g, .inr (1, [.int go, .int gc]))])))) H := hP
    have hD : va_D A ([(h, .inr (7, [.ref (a 0), .ref (cd 0), .ref s1, .ref s2, .ref (d 0), .ref g]))] ++ (ck Z a v ++ (hk Z cd (kp, Y) ++ (rk Z d w ++ [(g, .inr (1, [.int go, .int gc]))])))) := hD
    have hl : lv_has ls 12 [(6, .int (al 6)), (5, .int 0), (4, .int 0), (3, .int 0), (2, .int 0), (1, .int (nI (min hh 48))), (0, .ref h)] := hl
    refine lv_iload hx hb dL_isWell_51 (lv_at hl 0 rfl) ?_
    refine lv_sipush (v := (-1000)) hx hb dL_isWell_53 (by decide) ?_
    refine lv_icmp_le (tgt := 118) hx hb dL_isWell_56 (by decide) (fun c56 => (oCar1 hRo c56).elim) (fun c56 => ?_)
    refine lv_iload hx hb dL_isWell_59 (lv_at hl 0 rfl) ?_
    refine lv_sipush (v := 1000) hx hb dL_isWell_61 (by decide) ?_
    refine lv_icmp_ge (tgt := 118) hx hb dL_isWell_64 (by decide) (fun c64 => (oCar2 hRo c64).elim) (fun c64 => ?_)
    refine lv_aload_n hx hb dL_isWell_67 rfl (lv_at hl 6 rfl) ?_
    refine lv_bipush (v := 6) hx hb dL_isWell_68 (by decide) ?_
    refine zCi (S := Unit) (ws1 := fun u => [(h, .inr (7, [.ref (a 0), .ref (cd 0), .ref s1, .ref s2, .ref (d 0), .ref g]))] ++ (ck Z a v ++ (hk Z cd (kp, Y) ++ (rk Z d w ++ [(g, .inr (1, [.int go, .int gc]))])))) (wr := [(g, .inr (1, [.int go, .int gc]))]) (va_runV (As := [.int 6]) (rest := []) ⟨hx, hb, hml, hown, hts⟩ (m_X7_count l G Z _ h a cd s1 s2 d g v kp Y w 6) (cwV 1 hts gL_isWell_X7_count rfl rfl rfl (by decide +kernel) ⟨Nat.le_of_ble_eq_true rfl, Nat.le_of_ble_eq_true rfl⟩) (zPreV hK hP hD hS hA hSW [0, 1, 2, 3, 4, 5, 6, 7, 8, 9, 10, 11, 12, 13, 14, 15, 16, 17, 18, 19, 20, 21, 22, 23, 24, 25, 26, 27, 28, 29, 30, 31, 32, 33, 34, 35, 36, 37, 38, 39, 40] rfl (by decide) 0 (ci := 7) rfl rfl rfl) rfl rfl hl.1 rfl (lv_room (Nat.le_of_ble_eq_true rfl)) dL_isWell_70 ⟨Nat.le_of_ble_eq_true rfl, Nat.le_of_ble_eq_true rfl⟩) hP hD hS hA [0, 1, 2, 3, 4, 5, 6, 7, 8, 9, 10, 11, 12, 13, 14, 15, 16, 17, 18, 19, 20, 21, 22, 23, 24, 25, 26, 27, 28, 29, 30, 31, 32, 33, 34, 35, 36, 37, 38, 39, 40] [41] [1, 2, 3, 4, 5, 6, 7, 8, 9, 10, 11, 12, 13, 14, 15, 16, 17, 18, 19, 20, 21, 22, 23, 24, 25, 26, 27, 28, 29, 30, 31, 32, 33, 34, 35, 36, 37, 38, 39, 40, 41, 0] rfl rfl (by decide) (by decide) (by decide) (fun _ => rfl) (fun r70 u H locs hw70 hP hD hS => ?_)
    try dsimp only at hw70
    subst hw70
    have hP : va_P G vwCl ([(h, .inr (7, [.ref (a 0), .ref (cd 0), .ref s1, .ref s2, .ref (d 0), .ref g]))] ++ (ck Z a v ++ (hk Z cd (kp, Y) ++ (rk Z d w ++ [(g, .inr (1, [.int go, .int gc]))])))) H := hP
    have hD : va_D A ([(h, .inr (7, [.ref (a 0), .ref (cd 0), .ref s1, .ref s2, .ref (d 0), .ref g]))] ++ (ck Z a v ++ (hk Z cd (kp, Y) ++ (rk Z d w ++ [(g, .inr (1, [.int go, .int gc]))])))) := hD
    refine zTopI (y := (al 10)) (oc6 hRo _ _) ?_
    refine lv_aload_n hx hb dL_isWell_73 rfl (lv_at hl 6 rfl) ?_
    refine lv_iconst (v := 0) hx hb dL_isWell_74 (by decide) ?_
    refine zCi (S := Unit) (ws1 := fun u => [(h, .inr (7, [.ref (a 0), .ref (cd 0), .ref s1, .ref s2, .ref (d 0), .ref g]))] ++ (ck Z a v ++ (hk Z cd (kp, Y) ++ (rk Z d w ++ [(g, .inr (1, [.int go, .int gc]))])))) (wr := [(g, .inr (1, [.int go, .int gc]))]) (va_runV (As := [.int 0]) (rest := [.int (al 10)]) ⟨hx, hb, hml, hown, hts⟩ (m_X7_count l G Z _ h a cd s1 s2 d g v kp Y w 0) (cwV 1 hts gL_isWell_X7_count rfl rfl rfl (by decide +kernel) ⟨Nat.le_of_ble_eq_true rfl, Nat.le_of_ble_eq_true rfl⟩) (zPreV hK hP hD hS hA hSW [0, 1, 2, 3, 4, 5, 6, 7, 8, 9, 10, 11, 12, 13, 14, 15, 16, 17, 18, 19, 20, 21, 22, 23, 24, 25, 26, 27, 28, 29, 30, 31, 32, 33, 34, 35, 36, 37, 38, 39, 40] rfl (by decide) 0 (ci := 7) rfl rfl rfl) rfl rfl hl.1 rfl (lv_room (Nat.le_of_ble_eq_true rfl)) dL_isWell_75 ⟨Nat.le_of_ble_eq_true rfl, Nat.le_of_ble_eq_true rfl⟩) hP hD hS hA [0, 1, 2, 3, 4, 5, 6, 7, 8, 9, 10, 11, 12, 13, 14, 15, 16, 17, 18, 19, 20, 21, 22, 23, 24, 25, 26, 27, 28, 29, 30, 31, 32, 33, 34, 35, 36, 37, 38, 39, 40] [41] [1, 2, 3, 4, 5, 6, 7, 8, 9, 10, 11, 12, 13, 14, 15, 16, 17, 18, 19, 20, 21, 22, 23, 24, 25, 26, 27, 28, 29, 30, 31, 32, 33, 34, 35, 36, 37, 38, 39, 40, 41, 0] rfl rfl (by decide) (by decide) (by decide) (fun _ => rfl) (fun r75 u H locs hw75 hP hD hS => ?_)
    try dsimp only at hw75
    subst hw75
    have hP : va_P G vwCl ([(h, .inr (7, [.ref (a 0), .ref (cd 0), .ref s1, .ref s2, .ref (d 0), .ref g]))] ++ (ck Z a v ++ (hk Z cd (kp, Y) ++ (rk Z d w ++ [(g, .inr (1, [.int go, .int gc]))])))) H := hP
    have hD : va_D A ([(h, .inr (7, [.ref (a 0), .ref (cd 0), .ref s1, .ref s2, .ref (d 0), .ref g]))] ++ (ck Z a v ++ (hk Z cd (kp, Y) ++ (rk Z d w ++ [(g, .inr (1, [.int go, .int gc]))])))) := hD
    refine zTopI (y := (nI hh)) (oc0 hRo _ _) ?_
    refine lv_icmp_gt (tgt := 118) hx hb dL_isWell_78 (by decide) (fun c78 => (oRadH hRo hWI c78).elim) (fun c78 => ?_)
    refine lv_aload_n hx hb dL_isWell_81 rfl (lv_at hl 6 rfl) ?_
    refine lv_iconst (v := 4) hx hb dL_isWell_82 (by decide) ?_
    refine zCi (S := Unit) (ws1 := fun u => [(h, .inr (7, [.ref (a 0), .ref (cd 0), .ref s1, .ref s2, .ref (d 0), .ref g]))] ++ (ck Z a v ++ (hk Z cd (kp, Y) ++ (rk Z d w ++ [(g, .inr (1, [.int go, .int gc]))])))) (wr := [(g, .inr (1, [.int go, .int gc]))]) (va_runV (As := [.int 4]) (rest := []) ⟨hx, hb, hml, hown, hts⟩ (m_X7_count l G Z _ h a cd s1 s2 d g v kp Y w 4) (cwV 1 hts gL_isWell_X7_count rfl rfl rfl (by decide +kernel) ⟨Nat.le_of_ble_eq_true rfl, Nat.le_of_ble_eq_true rfl⟩) (zPreV hK hP hD hS hA hSW [0, 1, 2, 3, 4, 5, 6, 7, 8, 9, 10, 11, 12, 13, 14, 15, 16, 17, 18, 19, 20, 21, 22, 23, 24, 25, 26, 27, 28, 29, 30, 31, 32, 33, 34, 35, 36, 37, 38, 39, 40] rfl (by decide) 0 (ci := 7) rfl rfl rfl) rfl rfl hl.1 rfl (lv_room (Nat.le_of_ble_eq_true rfl)) dL_isWell_83 ⟨Nat.le_of_ble_eq_true rfl, Nat.le_of_ble_eq_true rfl⟩) hP hD hS hA [0, 1, 2, 3, 4, 5, 6, 7, 8, 9, 10, 11, 12, 13, 14, 15, 16, 17, 18, 19, 20, 21, 22, 23, 24, 25, 26, 27, 28, 29, 30, 31, 32, 33, 34, 35, 36, 37, 38, 39, 40] [41] [1, 2, 3, 4, 5, 6, 7, 8, 9, 10, 11, 12, 13, 14, 15, 16, 17, 18, 19, 20, 21, 22, 23, 24, 25, 26, 27, 28, 29, 30, 31, 32, 33, 34, 35, 36, 37, 38, 39, 40, 41, 0] rfl rfl (by decide) (by decide) (by decide) (fun _ => rfl) (fun r83 u H locs hw83 hP hD hS => ?_)
    try dsimp only at hw83
    subst hw83
    have hP : va_P G vwCl ([(h, .inr (7, [.ref (a 0), .ref (cd 0), .ref s1, .ref s2, .ref (d 0), .ref g]))] ++ (ck Z a v ++ (hk Z cd (kp, Y) ++ (rk Z d w ++ [(g, .inr (1, [.int go, .int gc]))])))) H := hP
    have hD : va_D A ([(h, .inr (7, [.ref (a 0), .ref (cd 0), .ref s1, .ref s2, .ref (d 0), .ref g]))] ++ (ck Z a v ++ (hk Z cd (kp, Y) ++ (rk Z d w ++ [(g, .inr (1, [.int go, .int gc]))])))) := hD
    refine zTopI (y := (al 8)) (oc4 hRo _ _) ?_
    refine lv_aload_n hx hb dL_isWell_86 rfl (lv_at hl 6 rfl) ?_
    refine lv_bipush (v := 6) hx hb dL_isWell_87 (by decide) ?_
    refine zCi (S := Unit) (ws1 := fun u => [(h, .inr (7, [.ref (a 0), .ref (cd 0), .ref s1, .ref s2, .ref (d 0), .ref g]))] ++ (ck Z a v ++ (hk Z cd (kp, Y) ++ (rk Z d w ++ [(g, .inr (1, [.int go, .int gc]))])))) (wr := [(g, .inr (1, [.int go, .int gc]))]) (va_runV (As := [.int 6]) (rest := [.int (al 8)]) ⟨hx, hb, hml, hown, hts⟩ (m_X7_count l G Z _ h a cd s1 s2 d g v kp Y w 6) (cwV 1 hts gL_isWell_X7_count rfl rfl rfl (by decide +kernel) ⟨Nat.le_of_ble_eq_true rfl, Nat.le_of_ble_eq_true rfl⟩) (zPreV hK hP hD hS hA hSW [0, 1, 2, 3, 4, 5, 6, 7, 8, 9, 10, 11, 12, 13, 14, 15, 16, 17, 18, 19, 20, 21, 22, 23, 24, 25, 26, 27, 28, 29, 30, 31, 32, 33, 34, 35, 36, 37, 38, 39, 40] rfl (by decide) 0 (ci := 7) rfl rfl rfl) rfl rfl hl.1 rfl (lv_room (Nat.le_of_ble_eq_true rfl)) dL_isWell_89 ⟨Nat.le_of_ble_eq_true rfl, Nat.le_of_ble_eq_true rfl⟩) hP hD hS hA [0, 1, 2, 3, 4, 5, 6, 7, 8, 9, 10, 11, 12, 13, 14, 15, 16, 17, 18, 19, 20, 21, 22, 23, 24, 25, 26, 27, 28, 29, 30, 31, 32, 33, 34, 35, 36, 37, 38, 39, 40] [41] [1, 2, 3, 4, 5, 6, 7, 8, 9, 10, 11, 12, 13, 14, 15, 16, 17, 18, 19, 20, 21, 22, 23, 24, 25, 26, 27, 28, 29, 30, 31, 32, 33, 34, 35, 36, 37, 38, 39, 40, 41, 0] rfl rfl (by decide) (by decide) (by decide) (fun _ => rfl) (fun r89 u H locs hw89 hP hD hS => ?_)
    try dsimp only at hw89
    subst hw89
    have hP : va_P G vwCl ([(h, .inr (7, [.ref (a 0), .ref (cd 0), .ref s1, .ref s2, .ref (d 0), .ref g]))] ++ (ck Z a v ++ (hk Z cd (kp, Y) ++ (rk Z d w ++ [(g, .inr (1, [.int go, .int gc]))])))) H := hP
    have hD : va_D A ([(h, .inr (7, [.ref (a 0), .ref (cd 0), .ref s1, .ref s2, .ref (d 0), .ref g]))] ++ (ck Z a v ++ (hk Z cd (kp, Y) ++ (rk Z d w ++ [(g, .inr (1, [.int go, .int gc]))])))) := hD
    refine zTopI (y := (al 10)) (oc6 hRo _ _) ?_
    refine lv_icmp_gt (tgt := 118) hx hb dL_isWell_92 (by decide) (fun c92 => (oSetR hRo hWI c92).elim) (fun c92 => ?_)
    refine lv_aload_n hx hb dL_isWell_95 rfl (lv_at hl 6 rfl) ?_
    refine lv_iconst (v := 3) hx hb dL_isWell_96 (by decide) ?_
    refine zCi (S := Unit) (ws1 := fun u => [(h, .inr (7, [.ref (a 0), .ref (cd 0), .ref s1, .ref s2, .ref (d 0), .ref g]))] ++ (ck Z a v ++ (hk Z cd (kp, Y) ++ (rk Z d w ++ [(g, .inr (1, [.int go, .int gc]))])))) (wr := [(g, .inr (1, [.int go, .int gc]))]) (va_runV (As := [.int 3]) (rest := []) ⟨hx, hb, hml, hown, hts⟩ (m_X7_count l G Z _ h a cd s1 s2 d g v kp Y w 3) (cwV 1 hts gL_isWell_X7_count rfl rfl rfl (by decide +kernel) ⟨Nat.le_of_ble_eq_true rfl, Nat.le_of_ble_eq_true rfl⟩) (zPreV hK hP hD hS hA hSW [0, 1, 2, 3, 4, 5, 6, 7, 8, 9, 10, 11, 12, 13, 14, 15, 16, 17, 18, 19, 20, 21, 22, 23, 24, 25, 26, 27, 28, 29, 30, 31, 32, 33, 34, 35, 36, 37, 38, 39, 40] rfl (by decide) 0 (ci := 7) rfl rfl rfl) rfl rfl hl.1 rfl (lv_room (Nat.le_of_ble_eq_true rfl)) dL_isWell_97 ⟨Nat.le_of_ble_eq_true rfl, Nat.le_of_ble_eq_true rfl⟩) hP hD hS hA [0, 1, 2, 3, 4, 5, 6, 7, 8, 9, 10, 11, 12, 13, 14, 15, 16, 17, 18, 19, 20, 21, 22, 23, 24, 25, 26, 27, 28, 29, 30, 31, 32, 33, 34, 35, 36, 37, 38, 39, 40] [41] [1, 2, 3, 4, 5, 6, 7, 8, 9, 10, 11, 12, 13, 14, 15, 16, 17, 18, 19, 20, 21, 22, 23, 24, 25, 26, 27, 28, 29, 30, 31, 32, 33, 34, 35, 36, 37, 38, 39, 40, 41, 0] rfl rfl (by decide) (by decide) (by decide) (fun _ => rfl) (fun r97 u H locs hw97 hP hD hS => ?_)
    try dsimp only at hw97
    subst hw97
    have hP : va_P G vwCl ([(h, .inr (7, [.ref (a 0), .ref (cd 0), .ref s1, .ref s2, .ref (d 0), .ref g]))] ++ (ck Z a v ++ (hk Z cd (kp, Y) ++ (rk Z d w ++ [(g, .inr (1, [.int go, .int gc]))])))) H := hP
    have hD : va_D A ([(h, .inr (7, [.ref (a 0), .ref (cd 0), .ref s1, .ref s2, .ref (d 0), .ref g]))] ++ (ck Z a v ++ (hk Z cd (kp, Y) ++ (rk Z d w ++ [(g, .inr (1, [.int go, .int gc]))])))) := hD
    refine zTopI (y := (al 7)) (oc3 hRo _ _) ?_
    refine lv_if_lt (tgt := 118) hx hb dL_isWell_100 (by decide) (fun c100 => (oTr1 hRo c100).elim) (fun c100 => ?_)
    refine lv_aload_n hx hb dL_isWell_103 rfl (lv_at hl 6 rfl) ?_
    refine lv_iconst (v := 3) hx hb dL_isWell_104 (by decide) ?_
    refine zCi (S := Unit) (ws1 := fun u => [(h, .inr (7, [.ref (a 0), .ref (cd 0), .ref s1, .ref s2, .ref (d 0), .ref g]))] ++ (ck Z a v ++ (hk Z cd (kp, Y) ++ (rk Z d w ++ [(g, .inr (1, [.int go, .int gc]))])))) (wr := [(g, .inr (1, [.int go, .int gc]))]) (va_runV (As := [.int 3]) (rest := []) ⟨hx, hb, hml, hown, hts⟩ (m_X7_count l G Z _ h a cd s1 s2 d g v kp Y w 3) (cwV 1 hts gL_isWell_X7_count rfl rfl rfl (by decide +kernel) ⟨Nat.le_of_ble_eq_true rfl, Nat.le_of_ble_eq_true rfl⟩) (zPreV hK hP hD hS hA hSW [0, 1, 2, 3, 4, 5, 6, 7, 8, 9, 10, 11, 12, 13, 14, 15, 16, 17, 18, 19, 20, 21, 22, 23, 24, 25, 26, 27, 28, 29, 30, 31, 32, 33, 34, 35, 36, 37, 38, 39, 40] rfl (by decide) 0 (ci := 7) rfl rfl rfl) rfl rfl hl.1 rfl (lv_room (Nat.le_of_ble_eq_true rfl)) dL_isWell_105 ⟨Nat.le_of_ble_eq_true rfl, Nat.le_of_ble_eq_true rfl⟩) hP hD hS hA [0, 1, 2, 3, 4, 5, 6, 7, 8, 9, 10, 11, 12, 13, 14, 15, 16, 17, 18, 19, 20, 21, 22, 23, 24, 25, 26, 27, 28, 29, 30, 31, 32, 33, 34, 35, 36, 37, 38, 39, 40] [41] [1, 2, 3, 4, 5, 6, 7, 8, 9, 10, 11, 12, 13, 14, 15, 16, 17, 18, 19, 20, 21, 22, 23, 24, 25, 26, 27, 28, 29, 30, 31, 32, 33, 34, 35, 36, 37, 38, 39, 40, 41, 0] rfl rfl (by decide) (by decide) (by decide) (fun _ => rfl) (fun r105 u H locs hw105 hP hD hS => ?_)
    try dsimp only at hw105
    subst hw105
    have hP : va_P G vwCl ([(h, .inr (7, [.ref (a 0), .ref (cd 0), .ref s1, .ref s2, .ref (d 0), .ref g]))] ++ (ck Z a v ++ (hk Z cd (kp, Y) ++ (rk Z d w ++ [(g, .inr (1, [.int go, .int gc]))])))) H := hP
    have hD : va_D A ([(h, .inr (7, [.ref (a 0), .ref (cd 0), .ref s1, .ref s2, .ref (d 0), .ref g]))] ++ (ck Z a v ++ (hk Z cd (kp, Y) ++ (rk Z d w ++ [(g, .inr (1, [.int go, .int gc]))])))) := hD
    refine zTopI (y := (al 7)) (oc3 hRo _ _) ?_
    refine lv_sipush (v := 256) hx hb dL_isWell_108 (by decide) ?_
    refine lv_icmp_ge (tgt := 118) hx hb dL_isWell_111 (by decide) (fun c111 => (oTr2 hRo c111).elim) (fun c111 => ?_)
    refine lv_iconst (v := 1) hx hb dL_isWell_114 (by decide) ?_
    refine lv_goto (tgt := 119) hx hb dL_isWell_115 (by decide) ?_
    refine lv_istore (lv' := [(7, .int 1), (6, .int (al 6)), (5, .int 0), (4, .int 0), (3, .int 0), (2, .int 0), (1, .int (nI (min hh 48))), (0, .ref h)]) hx hb dL_isWell_119 hl (by decide) rfl (fun ls hl => ?_)
    refine lv_iconst (v := 0) hx hb dL_isWell_121 (by decide) ?_
    refine lv_istore (lv' := [(8, .int 0), (7, .int 1), (6, .int (al 6)), (5, .int 0), (4, .int 0), (3, .int 0), (2, .int 0), (1, .int (nI (min hh 48))), (0, .ref h)]) hx hb dL_isWell_122 hl (by decide) rfl (fun ls hl => ?_)
    refine zLoop (σ := Nat) (nL := 12) (fun zx => [(h, .inr (7, [.ref (a 0), .ref (cd 0), .ref s1, .ref s2, .ref (d 0), .ref g]))] ++ (ck Z a v ++ (hk Z cd (kp, Y) ++ (rk Z d w ++ [(g, .inr (1, [.int go, .int gc]))])))) (fun zx => [(8, .int (nI zx)), (7, .int 1), (6, .int (al 6)), (5, .int (mRad al zx)), (4, .int (mOth al (zx - 1))), (3, .int (mSets al zx)), (2, .int (mFast al zx)), (1, .int (nI (min hh 48))), (0, .ref h)]) (fun zx => zx ≤ min hh 48) (fun zx => min hh 48 - zx) ?_ 0 (by
        try dsimp only
        omega) hP hD hS (lv_sub hl [0, 1, 2, 3, 4, 5, 6, 7, 8] rfl)
    intro zx hinv124 ih124 H locs ls hP hD hS hl
    obtain ⟨k, rfl⟩ : ∃ z, z = zx := ⟨_, rfl⟩
    try dsimp only at hinv124 ih124
    have hP : va_P G vwCl ([(h, .inr (7, [.ref (a 0), .ref (cd 0), .ref s1, .ref s2, .ref (d 0), .ref g]))] ++ (ck Z a v ++ (hk Z cd (kp, Y) ++ (rk Z d w ++ [(g, .inr (1, [.int go, .int gc]))])))) H := hP
    have hD : va_D A ([(h, .inr (7, [.ref (a 0), .ref (cd 0), .ref s1, .ref s2, .ref (d 0), .ref g]))] ++ (ck Z a v ++ (hk Z cd (kp, Y) ++ (rk Z d w ++ [(g, .inr (1, [.int go, .int gc]))])))) := hD
    have hl : lv_has ls 12 [(8, .int (nI k)), (7, .int 1), (6, .int (al 6)), (5, .int (mRad al k)), (4, .int (mOth al (k - 1))), (3, .int (mSets al k)), (2, .int (mFast al k)), (1, .int (nI (min hh 48))), (0, .ref h)] := hl
    refine lv_iload hx hb dL_isWell_124 (lv_at hl 0 rfl) ?_
    refine lv_iload_n hx hb dL_isWell_126 rfl (lv_at hl 7 rfl) ?_
    refine lv_icmp_ge (tgt := 311) hx hb dL_isWell_127 (by decide) (fun c127 => ?_) (fun c127 => ?_)
    · have hke : k = min hh 48 := by
        have h9 := zLe c127 (by omega) (by omega)
        omega
      rw [hke] at hl
      refine lv_iload hx hb dL_isWell_311 (lv_at hl 1 rfl) ?_
      refine lv_if_eq (tgt := 421) hx hb dL_isWell_313 (by decide) (fun c313 => absurd c313 (by decide)) (fun _ => ?_)
      refine zJoin (G := G) (A := A) (σ := Unit) (nL := 12) 361 (fun zx => [(h, .inr (7, [.ref (a 0), .ref (cd 0), .ref s1, .ref s2, .ref (d 0), .ref g]))] ++ (ck Z a v ++ (hk Z cd (kp, Y) ++ (rk Z d w ++ [(g, .inr (1, [.int go, .int gc]))])))) (fun zx => [(8, .int (nI (min hh 48))), (7, .int 1), (6, .int (al 6)), (5, .int (mRad al (min hh 48))), (4, .int (mOth al ((min hh 48) - 1))), (3, .int (mSets al (min hh 48))), (2, .int (mFast al (min hh 48))), (1, .int (nI (min hh 48))), (0, .ref h)]) (fun zx => []) (fun zx => True) ?_ ?_
      · intro zx hj361 H locs ls hP hD hS hl
        try dsimp only at hj361
        have hP : va_P G vwCl ([(h, .inr (7, [.ref (a 0), .ref (cd 0), .ref s1, .ref s2, .ref (d 0), .ref g]))] ++ (ck Z a v ++ (hk Z cd (kp, Y) ++ (rk Z d w ++ [(g, .inr (1, [.int go, .int gc]))])))) H := hP
        have hD : va_D A ([(h, .inr (7, [.ref (a 0), .ref (cd 0), .ref s1, .ref s2, .ref (d 0), .ref g]))] ++ (ck Z a v ++ (hk Z cd (kp, Y) ++ (rk Z d w ++ [(g, .inr (1, [.int go, .int gc]))])))) := hD
        have hl : lv_has ls 12 [(8, .int (nI (min hh 48))), (7, .int 1), (6, .int (al 6)), (5, .int (mRad al (min hh 48))), (4, .int (mOth al ((min hh 48) - 1))), (3, .int (mSets al (min hh 48))), (2, .int (mFast al (min hh 48))), (1, .int (nI (min hh 48))), (0, .ref h)] := hl
        refine lv_iload_n hx hb dL_isWell_361 rfl (lv_at hl 5 rfl) ?_
        refine lv_aload_n hx hb dL_isWell_362 rfl (lv_at hl 8 rfl) ?_
        refine lv_iconst (v := 4) hx hb dL_isWell_363 (by decide) ?_
        refine zCi (S := Unit) (ws1 := fun u => [(h, .inr (7, [.ref (a 0), .ref (cd 0), .ref s1, .ref s2, .ref (d 0), .ref g]))] ++ (ck Z a v ++ (hk Z cd (kp, Y) ++ (rk Z d w ++ [(g, .inr (1, [.int go, .int gc]))])))) (wr := [(g, .inr (1, [.int go, .int gc]))]) (va_runV (As := [.int 4]) (rest := [.int (mSets al (min hh 48))]) ⟨hx, hb, hml, hown, hts⟩ (m_X7_count l G Z _ h a cd s1 s2 d g v kp Y w 4) (cwV 1 hts gL_isWell_X7_count rfl rfl rfl (by decide +kernel) ⟨Nat.le_of_ble_eq_true rfl, Nat.le_of_ble_eq_true rfl⟩) (zPreV hK hP hD hS hA hSW [0, 1, 2, 3, 4, 5, 6, 7, 8, 9, 10, 11, 12, 13, 14, 15, 16, 17, 18, 19, 20, 21, 22, 23, 24, 25, 26, 27, 28, 29, 30, 31, 32, 33, 34, 35, 36, 37, 38, 39, 40] rfl (by decide) 0 (ci := 7) rfl rfl rfl) rfl rfl hl.1 rfl (lv_room (Nat.le_of_ble_eq_true rfl)) dL_isWell_364 ⟨Nat.le_of_ble_eq_true rfl, Nat.le_of_ble_eq_true rfl⟩) hP hD hS hA [0, 1, 2, 3, 4, 5, 6, 7, 8, 9, 10, 11, 12, 13, 14, 15, 16, 17, 18, 19, 20, 21, 22, 23, 24, 25, 26, 27, 28, 29, 30, 31, 32, 33, 34, 35, 36, 37, 38, 39, 40] [41] [1, 2, 3, 4, 5, 6, 7, 8, 9, 10, 11, 12, 13, 14, 15, 16, 17, 18, 19, 20, 21, 22, 23, 24, 25, 26, 27, 28, 29, 30, 31, 32, 33, 34, 35, 36, 37, 38, 39, 40, 41, 0] rfl rfl (by decide) (by decide) (by decide) (fun _ => rfl) (fun r364 u H locs hw364 hP hD hS => ?_)
        try dsimp only at hw364
        subst hw364
        have hP : va_P G vwCl ([(h, .inr (7, [.ref (a 0), .ref (cd 0), .ref s1, .ref s2, .ref (d 0), .ref g]))] ++ (ck Z a v ++ (hk Z cd (kp, Y) ++ (rk Z d w ++ [(g, .inr (1, [.int go, .int gc]))])))) H := hP
        have hD : va_D A ([(h, .inr (7, [.ref (a 0), .ref (cd 0), .ref s1, .ref s2, .ref (d 0), .ref g]))] ++ (ck Z a v ++ (hk Z cd (kp, Y) ++ (rk Z d w ++ [(g, .inr (1, [.int go, .int gc]))])))) := hD
        refine zTopI (y := (al 8)) (oc4 hRo _ _) ?_
        refine lv_icmp_gt (tgt := 421) hx hb dL_isWell_367 (by decide) (fun c367 => (oS1 hRo hWI c367).elim) (fun c367 => ?_)
        refine lv_iload hx hb dL_isWell_370 (lv_at hl 3 rfl) ?_
        refine lv_aload_n hx hb dL_isWell_372 rfl (lv_at hl 8 rfl) ?_
        refine lv_bipush (v := 6) hx hb dL_isWell_373 (by decide) ?_
        refine zCi (S := Unit) (ws1 := fun u => [(h, .inr (7, [.ref (a 0), .ref (cd 0), .ref s1, .ref s2, .ref (d 0), .ref g]))] ++ (ck Z a v ++ (hk Z cd (kp, Y) ++ (rk Z d w ++ [(g, .inr (1, [.int go, .int gc]))])))) (wr := [(g, .inr (1, [.int go, .int gc]))]) (va_runV (As := [.int 6]) (rest := [.int (mRad al (min hh 48))]) ⟨hx, hb, hml, hown, hts⟩ (m_X7_count l G Z _ h a cd s1 s2 d g v kp Y w 6) (cwV 1 hts gL_isWell_X7_count rfl rfl rfl (by decide +kernel) ⟨Nat.le_of_ble_eq_true rfl, Nat.le_of_ble_eq_true rfl⟩) (zPreV hK hP hD hS hA hSW [0, 1, 2, 3, 4, 5, 6, 7, 8, 9, 10, 11, 12, 13, 14, 15, 16, 17, 18, 19, 20, 21, 22, 23, 24, 25, 26, 27, 28, 29, 30, 31, 32, 33, 34, 35, 36, 37, 38, 39, 40] rfl (by decide) 0 (ci := 7) rfl rfl rfl) rfl rfl hl.1 rfl (lv_room (Nat.le_of_ble_eq_true rfl)) dL_isWell_375 ⟨Nat.le_of_ble_eq_true rfl, Nat.le_of_ble_eq_true rfl⟩) hP hD hS hA [0, 1, 2, 3, 4, 5, 6, 7, 8, 9, 10, 11, 12, 13, 14, 15, 16, 17, 18, 19, 20, 21, 22, 23, 24, 25, 26, 27, 28, 29, 30, 31, 32, 33, 34, 35, 36, 37, 38, 39, 40] [41] [1, 2, 3, 4, 5, 6, 7, 8, 9, 10, 11, 12, 13, 14, 15, 16, 17, 18, 19, 20, 21, 22, 23, 24, 25, 26, 27, 28, 29, 30, 31, 32, 33, 34, 35, 36, 37, 38, 39, 40, 41, 0] rfl rfl (by decide) (by decide) (by decide) (fun _ => rfl) (fun r375 u H locs hw375 hP hD hS => ?_)
        try dsimp only at hw375
        subst hw375
        have hP : va_P G vwCl ([(h, .inr (7, [.ref (a 0), .ref (cd 0), .ref s1, .ref s2, .ref (d 0), .ref g]))] ++ (ck Z a v ++ (hk Z cd (kp, Y) ++ (rk Z d w ++ [(g, .inr (1, [.int go, .int gc]))])))) H := hP
        have hD : va_D A ([(h, .inr (7, [.ref (a 0), .ref (cd 0), .ref s1, .ref s2, .ref (d 0), .ref g]))] ++ (ck Z a v ++ (hk Z cd (kp, Y) ++ (rk Z d w ++ [(g, .inr (1, [.int go, .int gc]))])))) := hD
        refine zTopI (y := (al 10)) (oc6 hRo _ _) ?_
        refine lv_icmp_gt (tgt := 421) hx hb dL_isWell_378 (by decide) (fun c378 => (oR1 hRo hWI c378).elim) (fun c378 => ?_)
        refine zJoin (G := G) (A := A) (σ := Unit) (nL := 12) 410 (fun zx => [(h, .inr (7, [.ref (a 0), .ref (cd 0), .ref s1, .ref s2, .ref (d 0), .ref g]))] ++ (ck Z a v ++ (hk Z cd (kp, Y) ++ (rk Z d w ++ [(g, .inr (1, [.int go, .int gc]))])))) (fun zx => [(8, .int (nI (min hh 48))), (7, .int 1), (6, .int (al 6)), (5, .int (mRad al (min hh 48))), (4, .int (mOth al ((min hh 48) - 1))), (3, .int (mSets al (min hh 48))), (2, .int (mFast al (min hh 48))), (1, .int (nI (min hh 48))), (0, .ref h)]) (fun zx => []) (fun zx => True) ?_ ?_
        · intro zx hj410 H locs ls hP hD hS hl
          try dsimp only at hj410
          have hP : va_P G vwCl ([(h, .inr (7, [.ref (a 0), .ref (cd 0), .ref s1, .ref s2, .ref (d 0), .ref g]))] ++ (ck Z a v ++ (hk Z cd (kp, Y) ++ (rk Z d w ++ [(g, .inr (1, [.int go, .int gc]))])))) H := hP
          have hD : va_D A ([(h, .inr (7, [.ref (a 0), .ref (cd 0), .ref s1, .ref s2, .ref (d 0), .ref g]))] ++ (ck Z a v ++ (hk Z cd (kp, Y) ++ (rk Z d w ++ [(g, .inr (1, [.int go, .int gc]))])))) := hD
          have hl : lv_has ls 12 [(8, .int (nI (min hh 48))), (7, .int 1), (6, .int (al 6)), (5, .int (mRad al (min hh 48))), (4, .int (mOth al ((min hh 48) - 1))), (3, .int (mSets al (min hh 48))), (2, .int (mFast al (min hh 48))), (1, .int (nI (min hh 48))), (0, .ref h)] := hl
          refine lv_aload_n hx hb dL_isWell_410 rfl (lv_at hl 8 rfl) ?_
          refine zCi (S := Int32 × Int32) (ws1 := fun u => [(h, .inr (7, [.ref (a 0), .ref (cd 0), .ref s1, .ref s2, .ref (d 0), .ref g]))] ++ (ck Z a v ++ (hk Z cd (kp, Y) ++ (rk Z d w ++ [(g, .inr (1, [.int u.1, .int u.2]))])))) (wr := []) (va_runS (As := [.ref h]) (rest := []) ⟨hx, hb, hml, hown, hts⟩ (m_L_isNear l G Z _ h a cd s1 s2 d g v kp Y w go gc al hh (by
              exact hRo)) (va_cwS 1 hts gL_isWell_L_isNear rfl rfl rfl (by decide +kernel) ⟨Nat.le_of_ble_eq_true rfl, Nat.le_of_ble_eq_true rfl⟩) (zPreS hK hP hD hS hA hSW [0, 1, 2, 3, 4, 5, 6, 7, 8, 9, 10, 11, 12, 13, 14, 15, 16, 17, 18, 19, 20, 21, 22, 23, 24, 25, 26, 27, 28, 29, 30, 31, 32, 33, 34, 35, 36, 37, 38, 39, 40, 41] rfl (by decide)) rfl rfl hl.1 rfl (lv_room (Nat.le_of_ble_eq_true rfl)) dL_isWell_411 ⟨Nat.le_of_ble_eq_true rfl, Nat.le_of_ble_eq_true rfl⟩) hP hD hS hA [0, 1, 2, 3, 4, 5, 6, 7, 8, 9, 10, 11, 12, 13, 14, 15, 16, 17, 18, 19, 20, 21, 22, 23, 24, 25, 26, 27, 28, 29, 30, 31, 32, 33, 34, 35, 36, 37, 38, 39, 40, 41] [] [0, 1, 2, 3, 4, 5, 6, 7, 8, 9, 10, 11, 12, 13, 14, 15, 16, 17, 18, 19, 20, 21, 22, 23, 24, 25, 26, 27, 28, 29, 30, 31, 32, 33, 34, 35, 36, 37, 38, 39, 40, 41] rfl rfl (by decide) (by decide) (by decide) (fun _ => rfl) (fun r411 u H locs hw411 hP hD hS => ?_)
          obtain ⟨go1_411, gc1_411⟩ := u
          try dsimp only at hw411
          subst hw411
          have hP : va_P G vwCl ([(h, .inr (7, [.ref (a 0), .ref (cd 0), .ref s1, .ref s2, .ref (d 0), .ref g]))] ++ (ck Z a v ++ (hk Z cd (kp, Y) ++ (rk Z d w ++ [(g, .inr (1, [.int go1_411, .int gc1_411]))])))) H := hP
          have hD : va_D A ([(h, .inr (7, [.ref (a 0), .ref (cd 0), .ref s1, .ref s2, .ref (d 0), .ref g]))] ++ (ck Z a v ++ (hk Z cd (kp, Y) ++ (rk Z d w ++ [(g, .inr (1, [.int go1_411, .int gc1_411]))])))) := hD
          refine lv_if_eq (tgt := 421) hx hb dL_isWell_414 (by decide) (fun c414 => absurd c414 (by decide)) (fun _ => ?_)
          refine lv_iconst (v := 1) hx hb dL_isWell_417 (by decide) ?_
          refine lv_goto (tgt := 422) hx hb dL_isWell_418 (by decide) ?_
          exact W.zret hx hb hr (rfl) (zEi (go1_411, gc1_411) (by
              rfl) hP hD hS) hS.2.2 dL_isWell_422
        · intro K410
          refine lv_iload_n hx hb dL_isWell_381 rfl (lv_at hl 7 rfl) ?_
          refine lv_aload_n hx hb dL_isWell_382 rfl (lv_at hl 8 rfl) ?_
          refine lv_iconst (v := 0) hx hb dL_isWell_383 (by decide) ?_
          refine zCi (S := Unit) (ws1 := fun u => [(h, .inr (7, [.ref (a 0), .ref (cd 0), .ref s1, .ref s2, .ref (d 0), .ref g]))] ++ (ck Z a v ++ (hk Z cd (kp, Y) ++ (rk Z d w ++ [(g, .inr (1, [.int go, .int gc]))])))) (wr := [(g, .inr (1, [.int go, .int gc]))]) (va_runV (As := [.int 0]) (rest := [.int (nI (min hh 48))]) ⟨hx, hb, hml, hown, hts⟩ (m_X7_count l G Z _ h a cd s1 s2 d g v kp Y w 0) (cwV 1 hts gL_isWell_X7_count rfl rfl rfl (by decide +kernel) ⟨Nat.le_of_ble_eq_true rfl, Nat.le_of_ble_eq_true rfl⟩) (zPreV hK hP hD hS hA hSW [0, 1, 2, 3, 4, 5, 6, 7, 8, 9, 10, 11, 12, 13, 14, 15, 16, 17, 18, 19, 20, 21, 22, 23, 24, 25, 26, 27, 28, 29, 30, 31, 32, 33, 34, 35, 36, 37, 38, 39, 40] rfl (by decide) 0 (ci := 7) rfl rfl rfl) rfl rfl hl.1 rfl (lv_room (Nat.le_of_ble_eq_true rfl)) dL_isWell_384 ⟨Nat.le_of_ble_eq_true rfl, Nat.le_of_ble_eq_true rfl⟩) hP hD hS hA [0, 1, 2, 3, 4, 5, 6, 7, 8, 9, 10, 11, 12, 13, 14, 15, 16, 17, 18, 19, 20, 21, 22, 23, 24, 25, 26, 27, 28, 29, 30, 31, 32, 33, 34, 35, 36, 37, 38, 39, 40] [41] [1, 2, 3, 4, 5, 6, 7, 8, 9, 10, 11, 12, 13, 14, 15, 16, 17, 18, 19, 20, 21, 22, 23, 24, 25, 26, 27, 28, 29, 30, 31, 32, 33, 34, 35, 36, 37, 38, 39, 40, 41, 0] rfl rfl (by decide) (by decide) (by decide) (fun _ => rfl) (fun r384 u H locs hw384 hP hD hS => ?_)
          try dsimp only at hw384
          subst hw384
          have hP : va_P G vwCl ([(h, .inr (7, [.ref (a 0), .ref (cd 0), .ref s1, .ref s2, .ref (d 0), .ref g]))] ++ (ck Z a v ++ (hk Z cd (kp, Y) ++ (rk Z d w ++ [(g, .inr (1, [.int go, .int gc]))])))) H := hP
          have hD : va_D A ([(h, .inr (7, [.ref (a 0), .ref (cd 0), .ref s1, .ref s2, .ref (d 0), .ref g]))] ++ (ck Z a v ++ (hk Z cd (kp, Y) ++ (rk Z d w ++ [(g, .inr (1, [.int go, .int gc]))])))) := hD
          refine zTopI (y := (nI hh)) (oc0 hRo _ _) ?_
          refine lv_icmp_lt (tgt := 410) hx hb dL_isWell_387 (by decide) (fun c387 => ?_) (fun c387 => ?_)
          · exact K410 () trivial _ _ _ hP hD hS (lv_sub hl [0, 1, 2, 3, 4, 5, 6, 7, 8] rfl)
          · refine lv_iload_n hx hb dL_isWell_390 rfl (lv_at hl 5 rfl) ?_
            refine lv_aload_n hx hb dL_isWell_391 rfl (lv_at hl 8 rfl) ?_
            refine lv_iconst (v := 4) hx hb dL_isWell_392 (by decide) ?_
            refine zCi (S := Unit) (ws1 := fun u => [(h, .inr (7, [.ref (a 0), .ref (cd 0), .ref s1, .ref s2, .ref (d 0), .ref g]))] ++ (ck Z a v ++ (hk Z cd (kp, Y) ++ (rk Z d w ++ [(g, .inr (1, [.int go, .int gc]))])))) (wr := [(g, .inr (1, [.int go, .int gc]))]) (va_runV (As := [.int 4]) (rest := [.int (mSets al (min hh 48))]) ⟨hx, hb, hml, hown, hts⟩ (m_X7_count l G Z _ h a cd s1 s2 d g v kp Y w 4) (cwV 1 hts gL_isWell_X7_count rfl rfl rfl (by decide +kernel) ⟨Nat.le_of_ble_eq_true rfl, Nat.le_of_ble_eq_true rfl⟩) (zPreV hK hP hD hS hA hSW [0, 1, 2, 3, 4, 5, 6, 7, 8, 9, 10, 11, 12, 13, 14, 15, 16, 17, 18, 19, 20, 21, 22, 23, 24, 25, 26, 27, 28, 29, 30, 31, 32, 33, 34, 35, 36, 37, 38, 39, 40] rfl (by decide) 0 (ci := 7) rfl rfl rfl) rfl rfl hl.1 rfl (lv_room (Nat.le_of_ble_eq_true rfl)) dL_isWell_393 ⟨Nat.le_of_ble_eq_true rfl, Nat.le_of_ble_eq_true rfl⟩) hP hD hS hA [0, 1, 2, 3, 4, 5, 6, 7, 8, 9, 10, 11, 12, 13, 14, 15, 16, 17, 18, 19, 20, 21, 22, 23, 24, 25, 26, 27, 28, 29, 30, 31, 32, 33, 34, 35, 36, 37, 38, 39, 40] [41] [1, 2, 3, 4, 5, 6, 7, 8, 9, 10, 11, 12, 13, 14, 15, 16, 17, 18, 19, 20, 21, 22, 23, 24, 25, 26, 27, 28, 29, 30, 31, 32, 33, 34, 35, 36, 37, 38, 39, 40, 41, 0] rfl rfl (by decide) (by decide) (by decide) (fun _ => rfl) (fun r393 u H locs hw393 hP hD hS => ?_)
            try dsimp only at hw393
            subst hw393
            have hP : va_P G vwCl ([(h, .inr (7, [.ref (a 0), .ref (cd 0), .ref s1, .ref s2, .ref (d 0), .ref g]))] ++ (ck Z a v ++ (hk Z cd (kp, Y) ++ (rk Z d w ++ [(g, .inr (1, [.int go, .int gc]))])))) H := hP
            have hD : va_D A ([(h, .inr (7, [.ref (a 0), .ref (cd 0), .ref s1, .ref s2, .ref (d 0), .ref g]))] ++ (ck Z a v ++ (hk Z cd (kp, Y) ++ (rk Z d w ++ [(g, .inr (1, [.int go, .int gc]))])))) := hD
            refine zTopI (y := (al 8)) (oc4 hRo _ _) ?_
            refine lv_icmp_ne (tgt := 421) hx hb dL_isWell_396 (by decide) (fun c396 => (c396 (oS2 hRo hWI (by have h9 := zNlt c387 (by omega) (by omega); omega))).elim) (fun c396 => ?_)
            refine lv_iload hx hb dL_isWell_399 (lv_at hl 3 rfl) ?_
            refine lv_aload_n hx hb dL_isWell_401 rfl (lv_at hl 8 rfl) ?_
            refine lv_bipush (v := 6) hx hb dL_isWell_402 (by decide) ?_
            refine zCi (S := Unit) (ws1 := fun u => [(h, .inr (7, [.ref (a 0), .ref (cd 0), .ref s1, .ref s2, .ref (d 0), .ref g]))] ++ (ck Z a v ++ (hk Z cd (kp, Y) ++ (rk Z d w ++ [(g, .inr (1, [.int go, .int gc]))])))) (wr := [(g, .inr (1, [.int go, .int gc]))]) (va_runV (As := [.int 6]) (rest := [.int (mRad al (min hh 48))]) ⟨hx, hb, hml, hown, hts⟩ (m_X7_count l G Z _ h a cd s1 s2 d g v kp Y w 6) (cwV 1 hts gL_isWell_X7_count rfl rfl rfl (by decide +kernel) ⟨Nat.le_of_ble_eq_true rfl, Nat.le_of_ble_eq_true rfl⟩) (zPreV hK hP hD hS hA hSW [0, 1, 2, 3, 4, 5, 6, 7, 8, 9, 10, 11, 12, 13, 14, 15, 16, 17, 18, 19, 20, 21, 22, 23, 24, 25, 26, 27, 28, 29, 30, 31, 32, 33, 34, 35, 36, 37, 38, 39, 40] rfl (by decide) 0 (ci := 7) rfl rfl rfl) rfl rfl hl.1 rfl (lv_room (Nat.le_of_ble_eq_true rfl)) dL_isWell_404 ⟨Nat.le_of_ble_eq_true rfl, Nat.le_of_ble_eq_true rfl⟩) hP hD hS hA [0, 1, 2, 3, 4, 5, 6, 7, 8, 9, 10, 11, 12, 13, 14, 15, 16, 17, 18, 19, 20, 21, 22, 23, 24, 25, 26, 27, 28, 29, 30, 31, 32, 33, 34, 35, 36, 37, 38, 39, 40] [41] [1, 2, 3, 4, 5, 6, 7, 8, 9, 10, 11, 12, 13, 14, 15, 16, 17, 18, 19, 20, 21, 22, 23, 24, 25, 26, 27, 28, 29, 30, 31, 32, 33, 34, 35, 36, 37, 38, 39, 40, 41, 0] rfl rfl (by decide) (by decide) (by decide) (fun _ => rfl) (fun r404 u H locs hw404 hP hD hS => ?_)
            try dsimp only at hw404
            subst hw404
            have hP : va_P G vwCl ([(h, .inr (7, [.ref (a 0), .ref (cd 0), .ref s1, .ref s2, .ref (d 0), .ref g]))] ++ (ck Z a v ++ (hk Z cd (kp, Y) ++ (rk Z d w ++ [(g, .inr (1, [.int go, .int gc]))])))) H := hP
            have hD : va_D A ([(h, .inr (7, [.ref (a 0), .ref (cd 0), .ref s1, .ref s2, .ref (d 0), .ref g]))] ++ (ck Z a v ++ (hk Z cd (kp, Y) ++ (rk Z d w ++ [(g, .inr (1, [.int go, .int gc]))])))) := hD
            refine zTopI (y := (al 10)) (oc6 hRo _ _) ?_
            refine lv_icmp_ne (tgt := 421) hx hb dL_isWell_407 (by decide) (fun c407 => (c407 (oR2 hWI (by have h9 := zNlt c387 (by omega) (by omega); omega))).elim) (fun c407 => ?_)
            exact K410 () trivial _ _ _ hP hD hS (lv_sub hl [0, 1, 2, 3, 4, 5, 6, 7, 8] rfl)
      · intro K361
        refine lv_iload_n hx hb dL_isWell_316 rfl (lv_at hl 7 rfl) ?_
        refine lv_if_ne (tgt := 333) hx hb dL_isWell_317 (by decide) (fun c317 => ?_) (fun c317 => ?_)
        · have hp9 : 0 < min hh 48 := oNz c317
          refine lv_iload_n hx hb dL_isWell_333 rfl (lv_at hl 6 rfl) ?_
          refine lv_aload_n hx hb dL_isWell_334 rfl (lv_at hl 8 rfl) ?_
          refine lv_iconst (v := 2) hx hb dL_isWell_335 (by decide) ?_
          refine zCi (S := Unit) (ws1 := fun u => [(h, .inr (7, [.ref (a 0), .ref (cd 0), .ref s1, .ref s2, .ref (d 0), .ref g]))] ++ (ck Z a v ++ (hk Z cd (kp, Y) ++ (rk Z d w ++ [(g, .inr (1, [.int go, .int gc]))])))) (wr := hk Z cd (kp, Y) ++ (rk Z d w ++ [(g, .inr (1, [.int go, .int gc]))])) (va_runV (As := [.int 2]) (rest := [.int (mFast al (min hh 48))]) ⟨hx, hb, hml, hown, hts⟩ (m_X7_ofLog l G Z _ h a cd s1 s2 d g v (min hh 48) 2 (by
              omega) (by
              rw [RS.wr hRo]
              exact zMin48 (RS.hh hRo))) (cwV 1 hts gL_isWell_X7_ofLog rfl rfl rfl (by decide +kernel) ⟨Nat.le_of_ble_eq_true rfl, Nat.le_of_ble_eq_true rfl⟩) (zPreV hK hP hD hS hA hSW [0, 1, 2, 3, 4, 5] rfl (by decide) 0 (ci := 7) rfl rfl rfl) rfl rfl hl.1 rfl (lv_room (Nat.le_of_ble_eq_true rfl)) dL_isWell_336 ⟨Nat.le_of_ble_eq_true rfl, Nat.le_of_ble_eq_true rfl⟩) hP hD hS hA [0, 1, 2, 3, 4, 5] [6, 7, 8, 9, 10, 11, 12, 13, 14, 15, 16, 17, 18, 19, 20, 21, 22, 23, 24, 25, 26, 27, 28, 29, 30, 31, 32, 33, 34, 35, 36, 37, 38, 39, 40, 41] [36, 37, 38, 39, 40, 41, 0, 1, 2, 3, 4, 5, 6, 7, 8, 9, 10, 11, 12, 13, 14, 15, 16, 17, 18, 19, 20, 21, 22, 23, 24, 25, 26, 27, 28, 29, 30, 31, 32, 33, 34, 35] rfl rfl (by decide) (by decide) (by decide) (fun _ => rfl) (fun r336 u H locs hw336 hP hD hS => ?_)
          try dsimp only at hw336
          subst hw336
          have hP : va_P G vwCl ([(h, .inr (7, [.ref (a 0), .ref (cd 0), .ref s1, .ref s2, .ref (d 0), .ref g]))] ++ (ck Z a v ++ (hk Z cd (kp, Y) ++ (rk Z d w ++ [(g, .inr (1, [.int go, .int gc]))])))) H := hP
          have hD : va_D A ([(h, .inr (7, [.ref (a 0), .ref (cd 0), .ref s1, .ref s2, .ref (d 0), .ref g]))] ++ (ck Z a v ++ (hk Z cd (kp, Y) ++ (rk Z d w ++ [(g, .inr (1, [.int go, .int gc]))])))) := hD
          refine zTopI (y := (mFast al (min hh 48))) (oLog2 hRo hp9) ?_
          refine lv_icmp_ne (tgt := 421) hx hb dL_isWell_339 (by decide) (fun c339 => (c339 rfl).elim) (fun c339 => ?_)
          refine lv_iload_n hx hb dL_isWell_342 rfl (lv_at hl 5 rfl) ?_
          refine lv_aload_n hx hb dL_isWell_343 rfl (lv_at hl 8 rfl) ?_
          refine lv_iconst (v := 3) hx hb dL_isWell_344 (by decide) ?_
          refine zCi (S := Unit) (ws1 := fun u => [(h, .inr (7, [.ref (a 0), .ref (cd 0), .ref s1, .ref s2, .ref (d 0), .ref g]))] ++ (ck Z a v ++ (hk Z cd (kp, Y) ++ (rk Z d w ++ [(g, .inr (1, [.int go, .int gc]))])))) (wr := hk Z cd (kp, Y) ++ (rk Z d w ++ [(g, .inr (1, [.int go, .int gc]))])) (va_runV (As := [.int 3]) (rest := [.int (mSets al (min hh 48))]) ⟨hx, hb, hml, hown, hts⟩ (m_X7_ofLog l G Z _ h a cd s1 s2 d g v (min hh 48) 3 (by
              omega) (by
              rw [RS.wr hRo]
              exact zMin48 (RS.hh hRo))) (cwV 1 hts gL_isWell_X7_ofLog rfl rfl rfl (by decide +kernel) ⟨Nat.le_of_ble_eq_true rfl, Nat.le_of_ble_eq_true rfl⟩) (zPreV hK hP hD hS hA hSW [0, 1, 2, 3, 4, 5] rfl (by decide) 0 (ci := 7) rfl rfl rfl) rfl rfl hl.1 rfl (lv_room (Nat.le_of_ble_eq_true rfl)) dL_isWell_345 ⟨Nat.le_of_ble_eq_true rfl, Nat.le_of_ble_eq_true rfl⟩) hP hD hS hA [0, 1, 2, 3, 4, 5] [6, 7, 8, 9, 10, 11, 12, 13, 14, 15, 16, 17, 18, 19, 20, 21, 22, 23, 24, 25, 26, 27, 28, 29, 30, 31, 32, 33, 34, 35, 36, 37, 38, 39, 40, 41] [36, 37, 38, 39, 40, 41, 0, 1, 2, 3, 4, 5, 6, 7, 8, 9, 10, 11, 12, 13, 14, 15, 16, 17, 18, 19, 20, 21, 22, 23, 24, 25, 26, 27, 28, 29, 30, 31, 32, 33, 34, 35] rfl rfl (by decide) (by decide) (by decide) (fun _ => rfl) (fun r345 u H locs hw345 hP hD hS => ?_)
          try dsimp only at hw345
          subst hw345
          have hP : va_P G vwCl ([(h, .inr (7, [.ref (a 0), .ref (cd 0), .ref s1, .ref s2, .ref (d 0), .ref g]))] ++ (ck Z a v ++ (hk Z cd (kp, Y) ++ (rk Z d w ++ [(g, .inr (1, [.int go, .int gc]))])))) H := hP
          have hD : va_D A ([(h, .inr (7, [.ref (a 0), .ref (cd 0), .ref s1, .ref s2, .ref (d 0), .ref g]))] ++ (ck Z a v ++ (hk Z cd (kp, Y) ++ (rk Z d w ++ [(g, .inr (1, [.int go, .int gc]))])))) := hD
          refine zTopI (y := (mSets al (min hh 48))) (oLog3 hRo hp9) ?_
          refine lv_icmp_ne (tgt := 421) hx hb dL_isWell_348 (by decide) (fun c348 => (c348 rfl).elim) (fun c348 => ?_)
          refine lv_iload hx hb dL_isWell_351 (lv_at hl 4 rfl) ?_
          refine lv_aload_n hx hb dL_isWell_353 rfl (lv_at hl 8 rfl) ?_
          refine lv_iconst (v := 4) hx hb dL_isWell_354 (by decide) ?_
          refine zCi (S := Unit) (ws1 := fun u => [(h, .inr (7, [.ref (a 0), .ref (cd 0), .ref s1, .ref s2, .ref (d 0), .ref g]))] ++ (ck Z a v ++ (hk Z cd (kp, Y) ++ (rk Z d w ++ [(g, .inr (1, [.int go, .int gc]))])))) (wr := hk Z cd (kp, Y) ++ (rk Z d w ++ [(g, .inr (1, [.int go, .int gc]))])) (va_runV (As := [.int 4]) (rest := [.int (mOth al ((min hh 48) - 1))]) ⟨hx, hb, hml, hown, hts⟩ (m_X7_ofLog l G Z _ h a cd s1 s2 d g v (min hh 48) 4 (by
              omega) (by
              rw [RS.wr hRo]
              exact zMin48 (RS.hh hRo))) (cwV 1 hts gL_isWell_X7_ofLog rfl rfl rfl (by decide +kernel) ⟨Nat.le_of_ble_eq_true rfl, Nat.le_of_ble_eq_true rfl⟩) (zPreV hK hP hD hS hA hSW [0, 1, 2, 3, 4, 5] rfl (by decide) 0 (ci := 7) rfl rfl rfl) rfl rfl hl.1 rfl (lv_room (Nat.le_of_ble_eq_true rfl)) dL_isWell_355 ⟨Nat.le_of_ble_eq_true rfl, Nat.le_of_ble_eq_true rfl⟩) hP hD hS hA [0, 1, 2, 3, 4, 5] [6, 7, 8, 9, 10, 11, 12, 13, 14, 15, 16, 17, 18, 19, 20, 21, 22, 23, 24, 25, 26, 27, 28, 29, 30, 31, 32, 33, 34, 35, 36, 37, 38, 39, 40, 41] [36, 37, 38, 39, 40, 41, 0, 1, 2, 3, 4, 5, 6, 7, 8, 9, 10, 11, 12, 13, 14, 15, 16, 17, 18, 19, 20, 21, 22, 23, 24, 25, 26, 27, 28, 29, 30, 31, 32, 33, 34, 35] rfl rfl (by decide) (by decide) (by decide) (fun _ => rfl) (fun r355 u H locs hw355 hP hD hS => ?_)
          try dsimp only at hw355
          subst hw355
          have hP : va_P G vwCl ([(h, .inr (7, [.ref (a 0), .ref (cd 0), .ref s1, .ref s2, .ref (d 0), .ref g]))] ++ (ck Z a v ++ (hk Z cd (kp, Y) ++ (rk Z d w ++ [(g, .inr (1, [.int go, .int gc]))])))) H := hP
          have hD : va_D A ([(h, .inr (7, [.ref (a 0), .ref (cd 0), .ref s1, .ref s2, .ref (d 0), .ref g]))] ++ (ck Z a v ++ (hk Z cd (kp, Y) ++ (rk Z d w ++ [(g, .inr (1, [.int go, .int gc]))])))) := hD
          refine zTopI (y := (mOth al (min hh 48 - 1))) (oLog4 hRo hp9) ?_
          refine lv_icmp_ne (tgt := 421) hx hb dL_isWell_358 (by decide) (fun c358 => (c358 rfl).elim) (fun c358 => ?_)
          exact K361 () trivial _ _ _ hP hD hS (lv_sub hl [0, 1, 2, 3, 4, 5, 6, 7, 8] rfl)
        · have hz9 : min hh 48 = 0 := (nI_eq (b := 0) (by omega) (by decide)).mp c317
          refine lv_aload_n hx hb dL_isWell_320 rfl (lv_at hl 8 rfl) ?_
          refine lv_iconst (v := 2) hx hb dL_isWell_321 (by decide) ?_
          refine zCi (S := Unit) (ws1 := fun u => [(h, .inr (7, [.ref (a 0), .ref (cd 0), .ref s1, .ref s2, .ref (d 0), .ref g]))] ++ (ck Z a v ++ (hk Z cd (kp, Y) ++ (rk Z d w ++ [(g, .inr (1, [.int go, .int gc]))])))) (wr := hk Z cd (kp, Y) ++ (rk Z d w ++ [(g, .inr (1, [.int go, .int gc]))])) (va_runV (As := [.int 2]) (rest := []) ⟨hx, hb, hml, hown, hts⟩ (m_X7_ofLog l G Z _ h a cd s1 s2 d g v (min hh 48) 2 (by
              omega) (by
              rw [RS.wr hRo]
              exact zMin48 (RS.hh hRo))) (cwV 1 hts gL_isWell_X7_ofLog rfl rfl rfl (by decide +kernel) ⟨Nat.le_of_ble_eq_true rfl, Nat.le_of_ble_eq_true rfl⟩) (zPreV hK hP hD hS hA hSW [0, 1, 2, 3, 4, 5] rfl (by decide) 0 (ci := 7) rfl rfl rfl) rfl rfl hl.1 rfl (lv_room (Nat.le_of_ble_eq_true rfl)) dL_isWell_322 ⟨Nat.le_of_ble_eq_true rfl, Nat.le_of_ble_eq_true rfl⟩) hP hD hS hA [0, 1, 2, 3, 4, 5] [6, 7, 8, 9, 10, 11, 12, 13, 14, 15, 16, 17, 18, 19, 20, 21, 22, 23, 24, 25, 26, 27, 28, 29, 30, 31, 32, 33, 34, 35, 36, 37, 38, 39, 40, 41] [36, 37, 38, 39, 40, 41, 0, 1, 2, 3, 4, 5, 6, 7, 8, 9, 10, 11, 12, 13, 14, 15, 16, 17, 18, 19, 20, 21, 22, 23, 24, 25, 26, 27, 28, 29, 30, 31, 32, 33, 34, 35] rfl rfl (by decide) (by decide) (by decide) (fun _ => rfl) (fun r322 u H locs hw322 hP hD hS => ?_)
          try dsimp only at hw322
          subst hw322
          have hP : va_P G vwCl ([(h, .inr (7, [.ref (a 0), .ref (cd 0), .ref s1, .ref s2, .ref (d 0), .ref g]))] ++ (ck Z a v ++ (hk Z cd (kp, Y) ++ (rk Z d w ++ [(g, .inr (1, [.int go, .int gc]))])))) H := hP
          have hD : va_D A ([(h, .inr (7, [.ref (a 0), .ref (cd 0), .ref s1, .ref s2, .ref (d 0), .ref g]))] ++ (ck Z a v ++ (hk Z cd (kp, Y) ++ (rk Z d w ++ [(g, .inr (1, [.int go, .int gc]))])))) := hD
          refine zTopI (y := (-6)) (oLogN hRo hz9) ?_
          refine lv_bipush (v := (-6)) hx hb dL_isWell_325 (by decide) ?_
          refine lv_icmp_ne (tgt := 421) hx hb dL_isWell_327 (by decide) (fun c327 => absurd c327 (by decide)) (fun _ => ?_)
          refine lv_goto (tgt := 361) hx hb dL_isWell_330 (by decide) ?_
          exact K361 () trivial _ _ _ hP hD hS (lv_sub hl [0, 1, 2, 3, 4, 5, 6, 7, 8] rfl)
    · refine lv_iload hx hb dL_isWell_130 (lv_at hl 1 rfl) ?_
      refine lv_if_eq (tgt := 311) hx hb dL_isWell_132 (by decide) (fun c132 => absurd c132 (by decide)) (fun _ => ?_)
      have hk9 : k < min hh 48 := zNle c127 (by omega) (by omega)
      refine lv_aload_n hx hb dL_isWell_135 rfl (lv_at hl 8 rfl) ?_
      refine lv_iload hx hb dL_isWell_136 (lv_at hl 0 rfl) ?_
      refine lv_iconst (v := 3) hx hb dL_isWell_138 (by decide) ?_
      refine zCi (S := Unit) (ws1 := fun u => [(h, .inr (7, [.ref (a 0), .ref (cd 0), .ref s1, .ref s2, .ref (d 0), .ref g]))] ++ (ck Z a v ++ (hk Z cd (kp, Y) ++ (rk Z d w ++ [(g, .inr (1, [.int go, .int gc]))])))) (wr := hk Z cd (kp, Y) ++ (rk Z d w ++ [(g, .inr (1, [.int go, .int gc]))])) (va_runV (As := [.int (nI k), .int 3]) (rest := []) ⟨hx, hb, hml, hown, hts⟩ (m_X7_hour l G Z _ h a cd s1 s2 d g v (nI k) 3) (cwV 2 hts gL_isWell_X7_hour rfl rfl rfl (by decide +kernel) ⟨Nat.le_of_ble_eq_true rfl, Nat.le_of_ble_eq_true rfl⟩) (zPreV hK hP hD hS hA hSW [0, 1, 2, 3, 4, 5] rfl (by decide) 0 (ci := 7) rfl rfl rfl) rfl rfl hl.1 rfl (lv_room (Nat.le_of_ble_eq_true rfl)) dL_isWell_139 ⟨Nat.le_of_ble_eq_true rfl, Nat.le_of_ble_eq_true rfl⟩) hP hD hS hA [0, 1, 2, 3, 4, 5] [6, 7, 8, 9, 10, 11, 12, 13, 14, 15, 16, 17, 18, 19, 20, 21, 22, 23, 24, 25, 26, 27, 28, 29, 30, 31, 32, 33, 34, 35, 36, 37, 38, 39, 40, 41] [36, 37, 38, 39, 40, 41, 0, 1, 2, 3, 4, 5, 6, 7, 8, 9, 10, 11, 12, 13, 14, 15, 16, 17, 18, 19, 20, 21, 22, 23, 24, 25, 26, 27, 28, 29, 30, 31, 32, 33, 34, 35] rfl rfl (by decide) (by decide) (by decide) (fun _ => rfl) (fun r139 u H locs hw139 hP hD hS => ?_)
      try dsimp only at hw139
      subst hw139
      have hP : va_P G vwCl ([(h, .inr (7, [.ref (a 0), .ref (cd 0), .ref s1, .ref s2, .ref (d 0), .ref g]))] ++ (ck Z a v ++ (hk Z cd (kp, Y) ++ (rk Z d w ++ [(g, .inr (1, [.int go, .int gc]))])))) H := hP
      have hD : va_D A ([(h, .inr (7, [.ref (a 0), .ref (cd 0), .ref s1, .ref s2, .ref (d 0), .ref g]))] ++ (ck Z a v ++ (hk Z cd (kp, Y) ++ (rk Z d w ++ [(g, .inr (1, [.int go, .int gc]))])))) := hD
      refine zTopI (y := (al (11 + 7 * k + 3) + 100000)) (oHour3 hRo hk9) ?_
      refine lv_ldc (v := 100000) hx hb hown k_39 dL_isWell_142 ?_
      refine lv_isub hx hb dL_isWell_144 ?_
      refine zTopI (y := (al (11 + 7 * k + 3))) (Int32.add_sub_cancel _ _) ?_
      refine lv_istore (lv' := [(9, .int (al (11 + 7 * k + 3))), (8, .int (nI k)), (7, .int 1), (6, .int (al 6)), (5, .int (mRad al k)), (4, .int (mOth al (k - 1))), (3, .int (mSets al k)), (2, .int (mFast al k)), (1, .int (nI (min hh 48))), (0, .ref h)]) hx hb dL_isWell_145 hl (by decide) rfl (fun ls hl => ?_)
      refine lv_aload_n hx hb dL_isWell_147 rfl (lv_at hl 9 rfl) ?_
      refine lv_iload hx hb dL_isWell_148 (lv_at hl 1 rfl) ?_
      refine lv_iconst (v := 4) hx hb dL_isWell_150 (by decide) ?_
      refine zCi (S := Unit) (ws1 := fun u => [(h, .inr (7, [.ref (a 0), .ref (cd 0), .ref s1, .ref s2, .ref (d 0), .ref g]))] ++ (ck Z a v ++ (hk Z cd (kp, Y) ++ (rk Z d w ++ [(g, .inr (1, [.int go, .int gc]))])))) (wr := hk Z cd (kp, Y) ++ (rk Z d w ++ [(g, .inr (1, [.int go, .int gc]))])) (va_runV (As := [.int (nI k), .int 4]) (rest := []) ⟨hx, hb, hml, hown, hts⟩ (m_X7_hour l G Z _ h a cd s1 s2 d g v (nI k) 4) (cwV 2 hts gL_isWell_X7_hour rfl rfl rfl (by decide +kernel) ⟨Nat.le_of_ble_eq_true rfl, Nat.le_of_ble_eq_true rfl⟩) (zPreV hK hP hD hS hA hSW [0, 1, 2, 3, 4, 5] rfl (by decide) 0 (ci := 7) rfl rfl rfl) rfl rfl hl.1 rfl (lv_room (Nat.le_of_ble_eq_true rfl)) dL_isWell_151 ⟨Nat.le_of_ble_eq_true rfl, Nat.le_of_ble_eq_true rfl⟩) hP hD hS hA [0, 1, 2, 3, 4, 5] [6, 7, 8, 9, 10, 11, 12, 13, 14, 15, 16, 17, 18, 19, 20, 21, 22, 23, 24, 25, 26, 27, 28, 29, 30, 31, 32, 33, 34, 35, 36, 37, 38, 39, 40, 41] [36, 37, 38, 39, 40, 41, 0, 1, 2, 3, 4, 5, 6, 7, 8, 9, 10, 11, 12, 13, 14, 15, 16, 17, 18, 19, 20, 21, 22, 23, 24, 25, 26, 27, 28, 29, 30, 31, 32, 33, 34, 35] rfl rfl (by decide) (by decide) (by decide) (fun _ => rfl) (fun r151 u H locs hw151 hP hD hS => ?_)
      try dsimp only at hw151
      subst hw151
      have hP : va_P G vwCl ([(h, .inr (7, [.ref (a 0), .ref (cd 0), .ref s1, .ref s2, .ref (d 0), .ref g]))] ++ (ck Z a v ++ (hk Z cd (kp, Y) ++ (rk Z d w ++ [(g, .inr (1, [.int go, .int gc]))])))) H := hP
      have hD : va_D A ([(h, .inr (7, [.ref (a 0), .ref (cd 0), .ref s1, .ref s2, .ref (d 0), .ref g]))] ++ (ck Z a v ++ (hk Z cd (kp, Y) ++ (rk Z d w ++ [(g, .inr (1, [.int go, .int gc]))])))) := hD
      refine zTopI (y := (al (11 + 7 * k + 4) + 1000000000)) (oHour4 hRo hk9) ?_
      refine lv_ldc (v := 1000000000) hx hb hown k_38 dL_isWell_154 ?_
      refine lv_isub hx hb dL_isWell_156 ?_
      refine zTopI (y := (al (11 + 7 * k + 4))) (Int32.add_sub_cancel _ _) ?_
      refine lv_istore (lv' := [(10, .int (al (11 + 7 * k + 4))), (9, .int (al (11 + 7 * k + 3))), (8, .int (nI k)), (7, .int 1), (6, .int (al 6)), (5, .int (mRad al k)), (4, .int (mOth al (k - 1))), (3, .int (mSets al k)), (2, .int (mFast al k)), (1, .int (nI (min hh 48))), (0, .ref h)]) hx hb dL_isWell_157 hl (by decide) rfl (fun ls hl => ?_)
      refine zJoin (G := G) (A := A) (σ := Unit) (nL := 12) 175 (fun zx => [(h, .inr (7, [.ref (a 0), .ref (cd 0), .ref s1, .ref s2, .ref (d 0), .ref g]))] ++ (ck Z a v ++ (hk Z cd (kp, Y) ++ (rk Z d w ++ [(g, .inr (1, [.int go, .int gc]))])))) (fun zx => [(10, .int (al (11 + 7 * k + 4))), (9, .int (al (11 + 7 * k + 3))), (8, .int (nI k)), (7, .int 1), (6, .int (al 6)), (5, .int (mRad al k)), (4, .int (mOth al (k - 1))), (3, .int (mSets al k)), (2, .int (mFast al k)), (1, .int (nI (min hh 48))), (0, .ref h)]) (fun zx => [.int (al (11 + 7 * k + 5))]) (fun zx => True) ?_ ?_
      · intro zx hj175 H locs ls hP hD hS hl
        try dsimp only at hj175
        have hP : va_P G vwCl ([(h, .inr (7, [.ref (a 0), .ref (cd 0), .ref s1, .ref s2, .ref (d 0), .ref g]))] ++ (ck Z a v ++ (hk Z cd (kp, Y) ++ (rk Z d w ++ [(g, .inr (1, [.int go, .int gc]))])))) H := hP
        have hD : va_D A ([(h, .inr (7, [.ref (a 0), .ref (cd 0), .ref s1, .ref s2, .ref (d 0), .ref g]))] ++ (ck Z a v ++ (hk Z cd (kp, Y) ++ (rk Z d w ++ [(g, .inr (1, [.int go, .int gc]))])))) := hD
        have hl : lv_has ls 12 [(10, .int (al (11 + 7 * k + 4))), (9, .int (al (11 + 7 * k + 3))), (8, .int (nI k)), (7, .int 1), (6, .int (al 6)), (5, .int (mRad al k)), (4, .int (mOth al (k - 1))), (3, .int (mSets al k)), (2, .int (mFast al k)), (1, .int (nI (min hh 48))), (0, .ref h)] := hl
        refine lv_istore (lv' := [(11, .int (al (11 + 7 * k + 5))), (10, .int (al (11 + 7 * k + 4))), (9, .int (al (11 + 7 * k + 3))), (8, .int (nI k)), (7, .int 1), (6, .int (al 6)), (5, .int (mRad al k)), (4, .int (mOth al (k - 1))), (3, .int (mSets al k)), (2, .int (mFast al k)), (1, .int (nI (min hh 48))), (0, .ref h)]) hx hb dL_isWell_175 hl (by decide) rfl (fun ls hl => ?_)
        refine lv_iload_n hx hb dL_isWell_177 rfl (lv_at hl 9 rfl) ?_
        refine zJoin (G := G) (A := A) (σ := Unit) (nL := 12) 188 (fun zx => [(h, .inr (7, [.ref (a 0), .ref (cd 0), .ref s1, .ref s2, .ref (d 0), .ref g]))] ++ (ck Z a v ++ (hk Z cd (kp, Y) ++ (rk Z d w ++ [(g, .inr (1, [.int go, .int gc]))])))) (fun zx => [(11, .int (al (11 + 7 * k + 5))), (10, .int (al (11 + 7 * k + 4))), (9, .int (al (11 + 7 * k + 3))), (8, .int (nI k)), (7, .int 1), (6, .int (al 6)), (5, .int (mRad al k)), (4, .int (mOth al (k - 1))), (3, .int (mSets al k)), (2, .int (mFast al k)), (1, .int (nI (min hh 48))), (0, .ref h)]) (fun zx => [.int (if al (11 + 7 * k + 3) ≤ 0 then (0 : Int32) else 1), .int (mFast al k)]) (fun zx => True) ?_ ?_
        · intro zx hj188 H locs ls hP hD hS hl
          try dsimp only at hj188
          have hP : va_P G vwCl ([(h, .inr (7, [.ref (a 0), .ref (cd 0), .ref s1, .ref s2, .ref (d 0), .ref g]))] ++ (ck Z a v ++ (hk Z cd (kp, Y) ++ (rk Z d w ++ [(g, .inr (1, [.int go, .int gc]))])))) H := hP
          have hD : va_D A ([(h, .inr (7, [.ref (a 0), .ref (cd 0), .ref s1, .ref s2, .ref (d 0), .ref g]))] ++ (ck Z a v ++ (hk Z cd (kp, Y) ++ (rk Z d w ++ [(g, .inr (1, [.int go, .int gc]))])))) := hD
          have hl : lv_has ls 12 [(11, .int (al (11 + 7 * k + 5))), (10, .int (al (11 + 7 * k + 4))), (9, .int (al (11 + 7 * k + 3))), (8, .int (nI k)), (7, .int 1), (6, .int (al 6)), (5, .int (mRad al k)), (4, .int (mOth al (k - 1))), (3, .int (mSets al k)), (2, .int (mFast al k)), (1, .int (nI (min hh 48))), (0, .ref h)] := hl
          refine lv_iadd hx hb dL_isWell_188 ?_
          refine zTopI (y := (mFast al (k + 1))) (rfl) ?_
          refine lv_istore_n (lv' := [(2, .int (mFast al (k + 1))), (11, .int (al (11 + 7 * k + 5))), (10, .int (al (11 + 7 * k + 4))), (9, .int (al (11 + 7 * k + 3))), (8, .int (nI k)), (7, .int 1), (6, .int (al 6)), (5, .int (mRad al k)), (4, .int (mOth al (k - 1))), (3, .int (mSets al k)), (1, .int (nI (min hh 48))), (0, .ref h)]) hx hb dL_isWell_189 rfl hl (by decide) rfl (fun ls hl => ?_)
          refine lv_iload_n hx hb dL_isWell_190 rfl (lv_at hl 9 rfl) ?_
          refine zJoin (G := G) (A := A) (σ := Unit) (nL := 12) 201 (fun zx => [(h, .inr (7, [.ref (a 0), .ref (cd 0), .ref s1, .ref s2, .ref (d 0), .ref g]))] ++ (ck Z a v ++ (hk Z cd (kp, Y) ++ (rk Z d w ++ [(g, .inr (1, [.int go, .int gc]))])))) (fun zx => [(2, .int (mFast al (k + 1))), (11, .int (al (11 + 7 * k + 5))), (10, .int (al (11 + 7 * k + 4))), (9, .int (al (11 + 7 * k + 3))), (8, .int (nI k)), (7, .int 1), (6, .int (al 6)), (5, .int (mRad al k)), (4, .int (mOth al (k - 1))), (3, .int (mSets al k)), (1, .int (nI (min hh 48))), (0, .ref h)]) (fun zx => [.int (al (11 + 7 * k + 5)), .int (mSets al k)]) (fun zx => True) ?_ ?_
          · intro zx hj201 H locs ls hP hD hS hl
            try dsimp only at hj201
            have hP : va_P G vwCl ([(h, .inr (7, [.ref (a 0), .ref (cd 0), .ref s1, .ref s2, .ref (d 0), .ref g]))] ++ (ck Z a v ++ (hk Z cd (kp, Y) ++ (rk Z d w ++ [(g, .inr (1, [.int go, .int gc]))])))) H := hP
            have hD : va_D A ([(h, .inr (7, [.ref (a 0), .ref (cd 0), .ref s1, .ref s2, .ref (d 0), .ref g]))] ++ (ck Z a v ++ (hk Z cd (kp, Y) ++ (rk Z d w ++ [(g, .inr (1, [.int go, .int gc]))])))) := hD
            have hl : lv_has ls 12 [(2, .int (mFast al (k + 1))), (11, .int (al (11 + 7 * k + 5))), (10, .int (al (11 + 7 * k + 4))), (9, .int (al (11 + 7 * k + 3))), (8, .int (nI k)), (7, .int 1), (6, .int (al 6)), (5, .int (mRad al k)), (4, .int (mOth al (k - 1))), (3, .int (mSets al k)), (1, .int (nI (min hh 48))), (0, .ref h)] := hl
            refine lv_iadd hx hb dL_isWell_201 ?_
            refine zTopI (y := (mSets al (k + 1))) (rfl) ?_
            refine lv_istore_n (lv' := [(3, .int (mSets al (k + 1))), (2, .int (mFast al (k + 1))), (11, .int (al (11 + 7 * k + 5))), (10, .int (al (11 + 7 * k + 4))), (9, .int (al (11 + 7 * k + 3))), (8, .int (nI k)), (7, .int 1), (6, .int (al 6)), (5, .int (mRad al k)), (4, .int (mOth al (k - 1))), (1, .int (nI (min hh 48))), (0, .ref h)]) hx hb dL_isWell_202 rfl hl (by decide) rfl (fun ls hl => ?_)
            refine lv_iload hx hb dL_isWell_203 (lv_at hl 8 rfl) ?_
            refine lv_aload_n hx hb dL_isWell_205 rfl (lv_at hl 11 rfl) ?_
            refine lv_iload hx hb dL_isWell_206 (lv_at hl 5 rfl) ?_
            refine lv_iconst (v := 2) hx hb dL_isWell_208 (by decide) ?_
            refine zCi (S := Unit) (ws1 := fun u => [(h, .inr (7, [.ref (a 0), .ref (cd 0), .ref s1, .ref s2, .ref (d 0), .ref g]))] ++ (ck Z a v ++ (hk Z cd (kp, Y) ++ (rk Z d w ++ [(g, .inr (1, [.int go, .int gc]))])))) (wr := hk Z cd (kp, Y) ++ (rk Z d w ++ [(g, .inr (1, [.int go, .int gc]))])) (va_runV (As := [.int (nI k), .int 2]) (rest := [.int (mRad al k)]) ⟨hx, hb, hml, hown, hts⟩ (m_X7_hour l G Z _ h a cd s1 s2 d g v (nI k) 2) (cwV 2 hts gL_isWell_X7_hour rfl rfl rfl (by decide +kernel) ⟨Nat.le_of_ble_eq_true rfl, Nat.le_of_ble_eq_true rfl⟩) (zPreV hK hP hD hS hA hSW [0, 1, 2, 3, 4, 5] rfl (by decide) 0 (ci := 7) rfl rfl rfl) rfl rfl hl.1 rfl (lv_room (Nat.le_of_ble_eq_true rfl)) dL_isWell_209 ⟨Nat.le_of_ble_eq_true rfl, Nat.le_of_ble_eq_true rfl⟩) hP hD hS hA [0, 1, 2, 3, 4, 5] [6, 7, 8, 9, 10, 11, 12, 13, 14, 15, 16, 17, 18, 19, 20, 21, 22, 23, 24, 25, 26, 27, 28, 29, 30, 31, 32, 33, 34, 35, 36, 37, 38, 39, 40, 41] [36, 37, 38, 39, 40, 41, 0, 1, 2, 3, 4, 5, 6, 7, 8, 9, 10, 11, 12, 13, 14, 15, 16, 17, 18, 19, 20, 21, 22, 23, 24, 25, 26, 27, 28, 29, 30, 31, 32, 33, 34, 35] rfl rfl (by decide) (by decide) (by decide) (fun _ => rfl) (fun r209 u H locs hw209 hP hD hS => ?_)
            try dsimp only at hw209
            subst hw209
            have hP : va_P G vwCl ([(h, .inr (7, [.ref (a 0), .ref (cd 0), .ref s1, .ref s2, .ref (d 0), .ref g]))] ++ (ck Z a v ++ (hk Z cd (kp, Y) ++ (rk Z d w ++ [(g, .inr (1, [.int go, .int gc]))])))) H := hP
            have hD : va_D A ([(h, .inr (7, [.ref (a 0), .ref (cd 0), .ref s1, .ref s2, .ref (d 0), .ref g]))] ++ (ck Z a v ++ (hk Z cd (kp, Y) ++ (rk Z d w ++ [(g, .inr (1, [.int go, .int gc]))])))) := hD
            refine zTopI (y := (al (11 + 7 * k + 2))) (oHour2 hRo hk9) ?_
            refine lv_iadd hx hb dL_isWell_212 ?_
            refine zTopI (y := (mRad al (k + 1))) (rfl) ?_
            refine lv_istore (lv' := [(5, .int (mRad al (k + 1))), (3, .int (mSets al (k + 1))), (2, .int (mFast al (k + 1))), (11, .int (al (11 + 7 * k + 5))), (10, .int (al (11 + 7 * k + 4))), (9, .int (al (11 + 7 * k + 3))), (8, .int (nI k)), (7, .int 1), (6, .int (al 6)), (4, .int (mOth al (k - 1))), (1, .int (nI (min hh 48))), (0, .ref h)]) hx hb dL_isWell_213 hl (by decide) rfl (fun ls hl => ?_)
            refine zJoin (G := G) (A := A) (σ := Unit) (nL := 12) 236 (fun zx => [(h, .inr (7, [.ref (a 0), .ref (cd 0), .ref s1, .ref s2, .ref (d 0), .ref g]))] ++ (ck Z a v ++ (hk Z cd (kp, Y) ++ (rk Z d w ++ [(g, .inr (1, [.int go, .int gc]))])))) (fun zx => [(5, .int (mRad al (k + 1))), (3, .int (mSets al (k + 1))), (2, .int (mFast al (k + 1))), (11, .int (al (11 + 7 * k + 5))), (10, .int (al (11 + 7 * k + 4))), (9, .int (al (11 + 7 * k + 3))), (8, .int (nI k)), (7, .int 1), (6, .int (al 6)), (4, .int (mOth al (k - 1))), (1, .int (nI (min hh 48))), (0, .ref h)]) (fun zx => []) (fun zx => True) ?_ ?_
            · intro zx hj236 H locs ls hP hD hS hl
              try dsimp only at hj236
              have hP : va_P G vwCl ([(h, .inr (7, [.ref (a 0), .ref (cd 0), .ref s1, .ref s2, .ref (d 0), .ref g]))] ++ (ck Z a v ++ (hk Z cd (kp, Y) ++ (rk Z d w ++ [(g, .inr (1, [.int go, .int gc]))])))) H := hP
              have hD : va_D A ([(h, .inr (7, [.ref (a 0), .ref (cd 0), .ref s1, .ref s2, .ref (d 0), .ref g]))] ++ (ck Z a v ++ (hk Z cd (kp, Y) ++ (rk Z d w ++ [(g, .inr (1, [.int go, .int gc]))])))) := hD
              have hl : lv_has ls 12 [(5, .int (mRad al (k + 1))), (3, .int (mSets al (k + 1))), (2, .int (mFast al (k + 1))), (11, .int (al (11 + 7 * k + 5))), (10, .int (al (11 + 7 * k + 4))), (9, .int (al (11 + 7 * k + 3))), (8, .int (nI k)), (7, .int 1), (6, .int (al 6)), (4, .int (mOth al (k - 1))), (1, .int (nI (min hh 48))), (0, .ref h)] := hl
              refine lv_iload hx hb dL_isWell_236 (lv_at hl 5 rfl) ?_
              refine lv_ldc (v := 100000) hx hb hown k_39 dL_isWell_238 ?_
              refine lv_iadd hx hb dL_isWell_240 ?_
              refine lv_aload_n hx hb dL_isWell_241 rfl (lv_at hl 11 rfl) ?_
              refine lv_iconst (v := 0) hx hb dL_isWell_242 (by decide) ?_
              refine zCi (S := Unit) (ws1 := fun u => [(h, .inr (7, [.ref (a 0), .ref (cd 0), .ref s1, .ref s2, .ref (d 0), .ref g]))] ++ (ck Z a v ++ (hk Z cd (kp, Y) ++ (rk Z d w ++ [(g, .inr (1, [.int go, .int gc]))])))) (wr := hk Z cd (kp, Y) ++ (rk Z d w ++ [(g, .inr (1, [.int go, .int gc]))])) (va_runV (As := [.int 0]) (rest := [.int ((al (11 + 7 * k + 3)) + 100000)]) ⟨hx, hb, hml, hown, hts⟩ (m_X7_ofLog l G Z _ h a cd s1 s2 d g v (min hh 48) 0 (by
                  omega) (by
                  rw [RS.wr hRo]
                  exact zMin48 (RS.hh hRo))) (cwV 1 hts gL_isWell_X7_ofLog rfl rfl rfl (by decide +kernel) ⟨Nat.le_of_ble_eq_true rfl, Nat.le_of_ble_eq_true rfl⟩) (zPreV hK hP hD hS hA hSW [0, 1, 2, 3, 4, 5] rfl (by decide) 0 (ci := 7) rfl rfl rfl) rfl rfl hl.1 rfl (lv_room (Nat.le_of_ble_eq_true rfl)) dL_isWell_243 ⟨Nat.le_of_ble_eq_true rfl, Nat.le_of_ble_eq_true rfl⟩) hP hD hS hA [0, 1, 2, 3, 4, 5] [6, 7, 8, 9, 10, 11, 12, 13, 14, 15, 16, 17, 18, 19, 20, 21, 22, 23, 24, 25, 26, 27, 28, 29, 30, 31, 32, 33, 34, 35, 36, 37, 38, 39, 40, 41] [36, 37, 38, 39, 40, 41, 0, 1, 2, 3, 4, 5, 6, 7, 8, 9, 10, 11, 12, 13, 14, 15, 16, 17, 18, 19, 20, 21, 22, 23, 24, 25, 26, 27, 28, 29, 30, 31, 32, 33, 34, 35] rfl rfl (by decide) (by decide) (by decide) (fun _ => rfl) (fun r243 u H locs hw243 hP hD hS => ?_)
              try dsimp only at hw243
              subst hw243
              have hP : va_P G vwCl ([(h, .inr (7, [.ref (a 0), .ref (cd 0), .ref s1, .ref s2, .ref (d 0), .ref g]))] ++ (ck Z a v ++ (hk Z cd (kp, Y) ++ (rk Z d w ++ [(g, .inr (1, [.int go, .int gc]))])))) H := hP
              have hD : va_D A ([(h, .inr (7, [.ref (a 0), .ref (cd 0), .ref s1, .ref s2, .ref (d 0), .ref g]))] ++ (ck Z a v ++ (hk Z cd (kp, Y) ++ (rk Z d w ++ [(g, .inr (1, [.int go, .int gc]))])))) := hD
              refine zTopI (y := (mMax al (min hh 48 - 1) + 100000)) (oLog0 hRo (by omega)) ?_
              refine lv_icmp_gt (tgt := 266) hx hb dL_isWell_246 (by decide) (fun c246 => (oMaxN hWI hk9 c246).elim) (fun c246 => ?_)
              refine lv_iload hx hb dL_isWell_249 (lv_at hl 5 rfl) ?_
              refine lv_ldc (v := 100000) hx hb hown k_39 dL_isWell_251 ?_
              refine lv_iadd hx hb dL_isWell_253 ?_
              refine lv_aload_n hx hb dL_isWell_254 rfl (lv_at hl 11 rfl) ?_
              refine lv_iconst (v := 1) hx hb dL_isWell_255 (by decide) ?_
              refine zCi (S := Unit) (ws1 := fun u => [(h, .inr (7, [.ref (a 0), .ref (cd 0), .ref s1, .ref s2, .ref (d 0), .ref g]))] ++ (ck Z a v ++ (hk Z cd (kp, Y) ++ (rk Z d w ++ [(g, .inr (1, [.int go, .int gc]))])))) (wr := hk Z cd (kp, Y) ++ (rk Z d w ++ [(g, .inr (1, [.int go, .int gc]))])) (va_runV (As := [.int 1]) (rest := [.int ((al (11 + 7 * k + 3)) + 100000)]) ⟨hx, hb, hml, hown, hts⟩ (m_X7_ofLog l G Z _ h a cd s1 s2 d g v (min hh 48) 1 (by
                  omega) (by
                  rw [RS.wr hRo]
                  exact zMin48 (RS.hh hRo))) (cwV 1 hts gL_isWell_X7_ofLog rfl rfl rfl (by decide +kernel) ⟨Nat.le_of_ble_eq_true rfl, Nat.le_of_ble_eq_true rfl⟩) (zPreV hK hP hD hS hA hSW [0, 1, 2, 3, 4, 5] rfl (by decide) 0 (ci := 7) rfl rfl rfl) rfl rfl hl.1 rfl (lv_room (Nat.le_of_ble_eq_true rfl)) dL_isWell_256 ⟨Nat.le_of_ble_eq_true rfl, Nat.le_of_ble_eq_true rfl⟩) hP hD hS hA [0, 1, 2, 3, 4, 5] [6, 7, 8, 9, 10, 11, 12, 13, 14, 15, 16, 17, 18, 19, 20, 21, 22, 23, 24, 25, 26, 27, 28, 29, 30, 31, 32, 33, 34, 35, 36, 37, 38, 39, 40, 41] [36, 37, 38, 39, 40, 41, 0, 1, 2, 3, 4, 5, 6, 7, 8, 9, 10, 11, 12, 13, 14, 15, 16, 17, 18, 19, 20, 21, 22, 23, 24, 25, 26, 27, 28, 29, 30, 31, 32, 33, 34, 35] rfl rfl (by decide) (by decide) (by decide) (fun _ => rfl) (fun r256 u H locs hw256 hP hD hS => ?_)
              try dsimp only at hw256
              subst hw256
              have hP : va_P G vwCl ([(h, .inr (7, [.ref (a 0), .ref (cd 0), .ref s1, .ref s2, .ref (d 0), .ref g]))] ++ (ck Z a v ++ (hk Z cd (kp, Y) ++ (rk Z d w ++ [(g, .inr (1, [.int go, .int gc]))])))) H := hP
              have hD : va_D A ([(h, .inr (7, [.ref (a 0), .ref (cd 0), .ref s1, .ref s2, .ref (d 0), .ref g]))] ++ (ck Z a v ++ (hk Z cd (kp, Y) ++ (rk Z d w ++ [(g, .inr (1, [.int go, .int gc]))])))) := hD
              refine zTopI (y := (mMin al (min hh 48 - 1) + 100000)) (oLog1 hRo (by omega)) ?_
              refine lv_icmp_lt (tgt := 266) hx hb dL_isWell_259 (by decide) (fun c259 => (oMinN hWI hk9 c259).elim) (fun c259 => ?_)
              refine lv_iconst (v := 1) hx hb dL_isWell_262 (by decide) ?_
              refine lv_goto (tgt := 267) hx hb dL_isWell_263 (by decide) ?_
              refine lv_istore (lv' := [(7, .int 1), (5, .int (mRad al (k + 1))), (3, .int (mSets al (k + 1))), (2, .int (mFast al (k + 1))), (11, .int (al (11 + 7 * k + 5))), (10, .int (al (11 + 7 * k + 4))), (9, .int (al (11 + 7 * k + 3))), (8, .int (nI k)), (6, .int (al 6)), (4, .int (mOth al (k - 1))), (1, .int (nI (min hh 48))), (0, .ref h)]) hx hb dL_isWell_267 hl (by decide) rfl (fun ls hl => ?_)
              refine zJoin (G := G) (A := A) (σ := Unit) (nL := 12) 305 (fun zx => [(h, .inr (7, [.ref (a 0), .ref (cd 0), .ref s1, .ref s2, .ref (d 0), .ref g]))] ++ (ck Z a v ++ (hk Z cd (kp, Y) ++ (rk Z d w ++ [(g, .inr (1, [.int go, .int gc]))])))) (fun zx => [(7, .int 1), (5, .int (mRad al (k + 1))), (3, .int (mSets al (k + 1))), (2, .int (mFast al (k + 1))), (11, .int (al (11 + 7 * k + 5))), (10, .int (al (11 + 7 * k + 4))), (9, .int (al (11 + 7 * k + 3))), (8, .int (nI k)), (6, .int (al 6)), (4, .int (mOth al k)), (1, .int (nI (min hh 48))), (0, .ref h)]) (fun zx => []) (fun zx => True) ?_ ?_
              · intro zx hj305 H locs ls hP hD hS hl
                try dsimp only at hj305
                have hP : va_P G vwCl ([(h, .inr (7, [.ref (a 0), .ref (cd 0), .ref s1, .ref s2, .ref (d 0), .ref g]))] ++ (ck Z a v ++ (hk Z cd (kp, Y) ++ (rk Z d w ++ [(g, .inr (1, [.int go, .int gc]))])))) H := hP
                have hD : va_D A ([(h, .inr (7, [.ref (a 0), .ref (cd 0), .ref s1, .ref s2, .ref (d 0), .ref g]))] ++ (ck Z a v ++ (hk Z cd (kp, Y) ++ (rk Z d w ++ [(g, .inr (1, [.int go, .int gc]))])))) := hD
                have hl : lv_has ls 12 [(7, .int 1), (5, .int (mRad al (k + 1))), (3, .int (mSets al (k + 1))), (2, .int (mFast al (k + 1))), (11, .int (al (11 + 7 * k + 5))), (10, .int (al (11 + 7 * k + 4))), (9, .int (al (11 + 7 * k + 3))), (8, .int (nI k)), (6, .int (al 6)), (4, .int (mOth al k)), (1, .int (nI (min hh 48))), (0, .ref h)] := hl
                refine lv_iinc (v := (nI (k + 1))) (lv' := [(8, .int (nI (k + 1))), (7, .int 1), (5, .int (mRad al (k + 1))), (3, .int (mSets al (k + 1))), (2, .int (mFast al (k + 1))), (11, .int (al (11 + 7 * k + 5))), (10, .int (al (11 + 7 * k + 4))), (9, .int (al (11 + 7 * k + 3))), (6, .int (al 6)), (4, .int (mOth al k)), (1, .int (nI (min hh 48))), (0, .ref h)]) hx hb dL_isWell_305 hl (k := 7) rfl (nI_succ k).symm (by decide) rfl (fun ls hl => ?_)
                refine lv_goto (tgt := 124) hx hb dL_isWell_308 (by decide) ?_
                exact ih124 (k + 1) (by
                    try dsimp only
                    omega) (by
                    try dsimp only
                    omega) _ _ _ hP hD hS (lv_sub hl [0, 1, 8, 2, 9, 3, 4, 10, 11] rfl)
              · intro K305
                refine lv_iload hx hb dL_isWell_269 (lv_at hl 7 rfl) ?_
                refine lv_if_le (tgt := 305) hx hb dL_isWell_271 (by decide) (fun c271 => ?_) (fun c271 => ?_)
                · have hk0 : k = 0 := oZer c271 (by omega)
                  rw [show mOth al (k - 1) = mOth al k by rw [hk0]] at hl
                  exact K305 () trivial _ _ _ hP hD hS (lv_sub hl [0, 1, 2, 3, 4, 5, 6, 7, 8, 9, 10, 11] rfl)
                · refine lv_iload hx hb dL_isWell_274 (lv_at hl 9 rfl) ?_
                  refine zJoin (G := G) (A := A) (σ := Unit) (nL := 12) 302 (fun zx => [(h, .inr (7, [.ref (a 0), .ref (cd 0), .ref s1, .ref s2, .ref (d 0), .ref g]))] ++ (ck Z a v ++ (hk Z cd (kp, Y) ++ (rk Z d w ++ [(g, .inr (1, [.int go, .int gc]))])))) (fun zx => [(7, .int 1), (5, .int (mRad al (k + 1))), (3, .int (mSets al (k + 1))), (2, .int (mFast al (k + 1))), (11, .int (al (11 + 7 * k + 5))), (10, .int (al (11 + 7 * k + 4))), (9, .int (al (11 + 7 * k + 3))), (8, .int (nI k)), (6, .int (al 6)), (4, .int (mOth al (k - 1))), (1, .int (nI (min hh 48))), (0, .ref h)]) (fun zx => [.int (if al (11 + 7 * k + 6) = al (11 + 7 * (k - 1) + 6) then (0 : Int32) else 1), .int (mOth al (k - 1))]) (fun zx => True) ?_ ?_
                  · intro zx hj302 H locs ls hP hD hS hl
                    try dsimp only at hj302
                    have hP : va_P G vwCl ([(h, .inr (7, [.ref (a 0), .ref (cd 0), .ref s1, .ref s2, .ref (d 0), .ref g]))] ++ (ck Z a v ++ (hk Z cd (kp, Y) ++ (rk Z d w ++ [(g, .inr (1, [.int go, .int gc]))])))) H := hP
                    have hD : va_D A ([(h, .inr (7, [.ref (a 0), .ref (cd 0), .ref s1, .ref s2, .ref (d 0), .ref g]))] ++ (ck Z a v ++ (hk Z cd (kp, Y) ++ (rk Z d w ++ [(g, .inr (1, [.int go, .int gc]))])))) := hD
                    have hl : lv_has ls 12 [(7, .int 1), (5, .int (mRad al (k + 1))), (3, .int (mSets al (k + 1))), (2, .int (mFast al (k + 1))), (11, .int (al (11 + 7 * k + 5))), (10, .int (al (11 + 7 * k + 4))), (9, .int (al (11 + 7 * k + 3))), (8, .int (nI k)), (6, .int (al 6)), (4, .int (mOth al (k - 1))), (1, .int (nI (min hh 48))), (0, .ref h)] := hl
                    refine lv_iadd hx hb dL_isWell_302 ?_
                    refine zTopI (y := (mOth al k)) (oOth al (oPos c271)) ?_
                    refine lv_istore (lv' := [(4, .int (mOth al k)), (7, .int 1), (5, .int (mRad al (k + 1))), (3, .int (mSets al (k + 1))), (2, .int (mFast al (k + 1))), (11, .int (al (11 + 7 * k + 5))), (10, .int (al (11 + 7 * k + 4))), (9, .int (al (11 + 7 * k + 3))), (8, .int (nI k)), (6, .int (al 6)), (1, .int (nI (min hh 48))), (0, .ref h)]) hx hb dL_isWell_303 hl (by decide) rfl (fun ls hl => ?_)
                    exact K305 () trivial _ _ _ hP hD hS (lv_sub hl [1, 2, 3, 4, 5, 6, 7, 8, 9, 0, 10, 11] rfl)
                  · intro K302
                    refine lv_aload_n hx hb dL_isWell_276 rfl (lv_at hl 11 rfl) ?_
                    refine lv_iload hx hb dL_isWell_277 (lv_at hl 7 rfl) ?_
                    refine lv_bipush (v := 6) hx hb dL_isWell_279 (by decide) ?_
                    refine zCi (S := Unit) (ws1 := fun u => [(h, .inr (7, [.ref (a 0), .ref (cd 0), .ref s1, .ref s2, .ref (d 0), .ref g]))] ++ (ck Z a v ++ (hk Z cd (kp, Y) ++ (rk Z d w ++ [(g, .inr (1, [.int go, .int gc]))])))) (wr := hk Z cd (kp, Y) ++ (rk Z d w ++ [(g, .inr (1, [.int go, .int gc]))])) (va_runV (As := [.int (nI k), .int 6]) (rest := [.int (mOth al (k - 1))]) ⟨hx, hb, hml, hown, hts⟩ (m_X7_hour l G Z _ h a cd s1 s2 d g v (nI k) 6) (cwV 2 hts gL_isWell_X7_hour rfl rfl rfl (by decide +kernel) ⟨Nat.le_of_ble_eq_true rfl, Nat.le_of_ble_eq_true rfl⟩) (zPreV hK hP hD hS hA hSW [0, 1, 2, 3, 4, 5] rfl (by decide) 0 (ci := 7) rfl rfl rfl) rfl rfl hl.1 rfl (lv_room (Nat.le_of_ble_eq_true rfl)) dL_isWell_281 ⟨Nat.le_of_ble_eq_true rfl, Nat.le_of_ble_eq_true rfl⟩) hP hD hS hA [0, 1, 2, 3, 4, 5] [6, 7, 8, 9, 10, 11, 12, 13, 14, 15, 16, 17, 18, 19, 20, 21, 22, 23, 24, 25, 26, 27, 28, 29, 30, 31, 32, 33, 34, 35, 36, 37, 38, 39, 40, 41] [36, 37, 38, 39, 40, 41, 0, 1, 2, 3, 4, 5, 6, 7, 8, 9, 10, 11, 12, 13, 14, 15, 16, 17, 18, 19, 20, 21, 22, 23, 24, 25, 26, 27, 28, 29, 30, 31, 32, 33, 34, 35] rfl rfl (by decide) (by decide) (by decide) (fun _ => rfl) (fun r281 u H locs hw281 hP hD hS => ?_)
                    try dsimp only at hw281
                    subst hw281
                    have hP : va_P G vwCl ([(h, .inr (7, [.ref (a 0), .ref (cd 0), .ref s1, .ref s2, .ref (d 0), .ref g]))] ++ (ck Z a v ++ (hk Z cd (kp, Y) ++ (rk Z d w ++ [(g, .inr (1, [.int go, .int gc]))])))) H := hP
                    have hD : va_D A ([(h, .inr (7, [.ref (a 0), .ref (cd 0), .ref s1, .ref s2, .ref (d 0), .ref g]))] ++ (ck Z a v ++ (hk Z cd (kp, Y) ++ (rk Z d w ++ [(g, .inr (1, [.int go, .int gc]))])))) := hD
                    refine zTopI (y := (al (11 + 7 * k + 6))) (oHour6 hRo hk9) ?_
                    refine lv_aload_n hx hb dL_isWell_284 rfl (lv_at hl 11 rfl) ?_
                    refine lv_iload hx hb dL_isWell_285 (lv_at hl 7 rfl) ?_
                    refine lv_iconst (v := 1) hx hb dL_isWell_287 (by decide) ?_
                    refine lv_isub hx hb dL_isWell_288 ?_
                    refine zTopI (y := (nI (k - 1))) (oPred (oPos c271)) ?_
                    refine lv_bipush (v := 6) hx hb dL_isWell_289 (by decide) ?_
                    refine zCi (S := Unit) (ws1 := fun u => [(h, .inr (7, [.ref (a 0), .ref (cd 0), .ref s1, .ref s2, .ref (d 0), .ref g]))] ++ (ck Z a v ++ (hk Z cd (kp, Y) ++ (rk Z d w ++ [(g, .inr (1, [.int go, .int gc]))])))) (wr := hk Z cd (kp, Y) ++ (rk Z d w ++ [(g, .inr (1, [.int go, .int gc]))])) (va_runV (As := [.int (nI (k - 1)), .int 6]) (rest := [.int (al (11 + 7 * k + 6)), .int (mOth al (k - 1))]) ⟨hx, hb, hml, hown, hts⟩ (m_X7_hour l G Z _ h a cd s1 s2 d g v (nI (k - 1)) 6) (cwV 2 hts gL_isWell_X7_hour rfl rfl rfl (by decide +kernel) ⟨Nat.le_of_ble_eq_true rfl, Nat.le_of_ble_eq_true rfl⟩) (zPreV hK hP hD hS hA hSW [0, 1, 2, 3, 4, 5] rfl (by decide) 0 (ci := 7) rfl rfl rfl) rfl rfl hl.1 rfl (lv_room (Nat.le_of_ble_eq_true rfl)) dL_isWell_291 ⟨Nat.le_of_ble_eq_true rfl, Nat.le_of_ble_eq_true rfl⟩) hP hD hS hA [0, 1, 2, 3, 4, 5] [6, 7, 8, 9, 10, 11, 12, 13, 14, 15, 16, 17, 18, 19, 20, 21, 22, 23, 24, 25, 26, 27, 28, 29, 30, 31, 32, 33, 34, 35, 36, 37, 38, 39, 40, 41] [36, 37, 38, 39, 40, 41, 0, 1, 2, 3, 4, 5, 6, 7, 8, 9, 10, 11, 12, 13, 14, 15, 16, 17, 18, 19, 20, 21, 22, 23, 24, 25, 26, 27, 28, 29, 30, 31, 32, 33, 34, 35] rfl rfl (by decide) (by decide) (by decide) (fun _ => rfl) (fun r291 u H locs hw291 hP hD hS => ?_)
                    try dsimp only at hw291
                    subst hw291
                    have hP : va_P G vwCl ([(h, .inr (7, [.ref (a 0), .ref (cd 0), .ref s1, .ref s2, .ref (d 0), .ref g]))] ++ (ck Z a v ++ (hk Z cd (kp, Y) ++ (rk Z d w ++ [(g, .inr (1, [.int go, .int gc]))])))) H := hP
                    have hD : va_D A ([(h, .inr (7, [.ref (a 0), .ref (cd 0), .ref s1, .ref s2, .ref (d 0), .ref g]))] ++ (ck Z a v ++ (hk Z cd (kp, Y) ++ (rk Z d w ++ [(g, .inr (1, [.int go, .int gc]))])))) := hD
                    refine zTopI (y := (al (11 + 7 * (k - 1) + 6))) (oHour6 hRo (by omega)) ?_
                    refine lv_icmp_eq (tgt := 301) hx hb dL_isWell_294 (by decide) (fun c294 => ?_) (fun c294 => ?_)
                    · refine lv_iconst (v := 0) hx hb dL_isWell_301 (by decide) ?_
                      refine zTopI (y := (if al (11 + 7 * k + 6) = al (11 + 7 * (k - 1) + 6) then (0 : Int32) else 1)) ((if_pos c294).symm) ?_
                      exact K302 () trivial _ _ _ hP hD hS (lv_sub hl [0, 1, 2, 3, 4, 5, 6, 7, 8, 9, 10, 11] rfl)
                    · refine lv_iconst (v := 1) hx hb dL_isWell_297 (by decide) ?_
                      refine lv_goto (tgt := 302) hx hb dL_isWell_298 (by decide) ?_
                      refine zTopI (y := (if al (11 + 7 * k + 6) = al (11 + 7 * (k - 1) + 6) then (0 : Int32) else 1)) ((if_neg c294).symm) ?_
                      exact K302 () trivial _ _ _ hP hD hS (lv_sub hl [0, 1, 2, 3, 4, 5, 6, 7, 8, 9, 10, 11] rfl)
            · intro K236
              refine lv_iload hx hb dL_isWell_215 (lv_at hl 3 rfl) ?_
              refine lv_if_eq (tgt := 236) hx hb dL_isWell_217 (by decide) (fun c217 => ?_) (fun c217 => ?_)
              · exact K236 () trivial _ _ _ hP hD hS (lv_sub hl [0, 1, 2, 3, 4, 5, 6, 7, 8, 9, 10, 11] rfl)
              · refine lv_aload_n hx hb dL_isWell_220 rfl (lv_at hl 11 rfl) ?_
                refine lv_iload hx hb dL_isWell_221 (lv_at hl 6 rfl) ?_
                refine lv_iconst (v := 2) hx hb dL_isWell_223 (by decide) ?_
                refine zCi (S := Unit) (ws1 := fun u => [(h, .inr (7, [.ref (a 0), .ref (cd 0), .ref s1, .ref s2, .ref (d 0), .ref g]))] ++ (ck Z a v ++ (hk Z cd (kp, Y) ++ (rk Z d w ++ [(g, .inr (1, [.int go, .int gc]))])))) (wr := hk Z cd (kp, Y) ++ (rk Z d w ++ [(g, .inr (1, [.int go, .int gc]))])) (va_runV (As := [.int (nI k), .int 2]) (rest := []) ⟨hx, hb, hml, hown, hts⟩ (m_X7_hour l G Z _ h a cd s1 s2 d g v (nI k) 2) (cwV 2 hts gL_isWell_X7_hour rfl rfl rfl (by decide +kernel) ⟨Nat.le_of_ble_eq_true rfl, Nat.le_of_ble_eq_true rfl⟩) (zPreV hK hP hD hS hA hSW [0, 1, 2, 3, 4, 5] rfl (by decide) 0 (ci := 7) rfl rfl rfl) rfl rfl hl.1 rfl (lv_room (Nat.le_of_ble_eq_true rfl)) dL_isWell_224 ⟨Nat.le_of_ble_eq_true rfl, Nat.le_of_ble_eq_true rfl⟩) hP hD hS hA [0, 1, 2, 3, 4, 5] [6, 7, 8, 9, 10, 11, 12, 13, 14, 15, 16, 17, 18, 19, 20, 21, 22, 23, 24, 25, 26, 27, 28, 29, 30, 31, 32, 33, 34, 35, 36, 37, 38, 39, 40, 41] [36, 37, 38, 39, 40, 41, 0, 1, 2, 3, 4, 5, 6, 7, 8, 9, 10, 11, 12, 13, 14, 15, 16, 17, 18, 19, 20, 21, 22, 23, 24, 25, 26, 27, 28, 29, 30, 31, 32, 33, 34, 35] rfl rfl (by decide) (by decide) (by decide) (fun _ => rfl) (fun r224 u H locs hw224 hP hD hS => ?_)
                try dsimp only at hw224
                subst hw224
                have hP : va_P G vwCl ([(h, .inr (7, [.ref (a 0), .ref (cd 0), .ref s1, .ref s2, .ref (d 0), .ref g]))] ++ (ck Z a v ++ (hk Z cd (kp, Y) ++ (rk Z d w ++ [(g, .inr (1, [.int go, .int gc]))])))) H := hP
                have hD : va_D A ([(h, .inr (7, [.ref (a 0), .ref (cd 0), .ref s1, .ref s2, .ref (d 0), .ref g]))] ++ (ck Z a v ++ (hk Z cd (kp, Y) ++ (rk Z d w ++ [(g, .inr (1, [.int go, .int gc]))])))) := hD
                refine zTopI (y := (al (11 + 7 * k + 2))) (oHour2 hRo hk9) ?_
                refine lv_iconst (v := 1) hx hb dL_isWell_227 (by decide) ?_
                refine lv_icmp_ne (tgt := 266) hx hb dL_isWell_228 (by decide) (fun c228 => (c228 ((a8 k hk9).2.2 ((hRo.fl k hk9).resolve_left c217)).1).elim) (fun c228 => ?_)
                refine lv_iload hx hb dL_isWell_231 (lv_at hl 4 rfl) ?_
                refine lv_if_eq (tgt := 266) hx hb dL_isWell_233 (by decide) (fun c233 => (((a8 k hk9).2.2 ((hRo.fl k hk9).resolve_left c217)).2 c233).elim) (fun c233 => ?_)
                exact K236 () trivial _ _ _ hP hD hS (lv_sub hl [0, 1, 2, 3, 4, 5, 6, 7, 8, 9, 10, 11] rfl)
          · intro K201
            refine lv_iload hx hb dL_isWell_191 (lv_at hl 1 rfl) ?_
            refine lv_if_eq (tgt := 200) hx hb dL_isWell_193 (by decide) (fun c193 => ?_) (fun c193 => ?_)
            · refine lv_iconst (v := 0) hx hb dL_isWell_200 (by decide) ?_
              refine zTopI (y := (al (11 + 7 * k + 5))) (c193.symm) ?_
              exact K201 () trivial _ _ _ hP hD hS (lv_sub hl [0, 1, 2, 3, 4, 5, 6, 7, 8, 9, 10, 11] rfl)
            · refine lv_iconst (v := 1) hx hb dL_isWell_196 (by decide) ?_
              refine lv_goto (tgt := 201) hx hb dL_isWell_197 (by decide) ?_
              refine zTopI (y := (al (11 + 7 * k + 5))) (((hRo.fl k hk9).resolve_left c193).symm) ?_
              exact K201 () trivial _ _ _ hP hD hS (lv_sub hl [0, 1, 2, 3, 4, 5, 6, 7, 8, 9, 10, 11] rfl)
        · intro K188
          refine lv_iload hx hb dL_isWell_178 (lv_at hl 2 rfl) ?_
          refine lv_if_le (tgt := 187) hx hb dL_isWell_180 (by decide) (fun c180 => ?_) (fun c180 => ?_)
          · refine lv_iconst (v := 0) hx hb dL_isWell_187 (by decide) ?_
            refine zTopI (y := (if al (11 + 7 * k + 3) ≤ 0 then (0 : Int32) else 1)) ((if_pos c180).symm) ?_
            exact K188 () trivial _ _ _ hP hD hS (lv_sub hl [0, 1, 2, 3, 4, 5, 6, 7, 8, 9, 10, 11] rfl)
          · refine lv_iconst (v := 1) hx hb dL_isWell_183 (by decide) ?_
            refine lv_goto (tgt := 188) hx hb dL_isWell_184 (by decide) ?_
            refine zTopI (y := (if al (11 + 7 * k + 3) ≤ 0 then (0 : Int32) else 1)) ((if_neg c180).symm) ?_
            exact K188 () trivial _ _ _ hP hD hS (lv_sub hl [0, 1, 2, 3, 4, 5, 6, 7, 8, 9, 10, 11] rfl)
      · intro K175
        refine lv_aload_n hx hb dL_isWell_159 rfl (lv_at hl 10 rfl) ?_
        refine lv_iload hx hb dL_isWell_160 (lv_at hl 2 rfl) ?_
        refine lv_iconst (v := 5) hx hb dL_isWell_162 (by decide) ?_
        refine zCi (S := Unit) (ws1 := fun u => [(h, .inr (7, [.ref (a 0), .ref (cd 0), .ref s1, .ref s2, .ref (d 0), .ref g]))] ++ (ck Z a v ++ (hk Z cd (kp, Y) ++ (rk Z d w ++ [(g, .inr (1, [.int go, .int gc]))])))) (wr := hk Z cd (kp, Y) ++ (rk Z d w ++ [(g, .inr (1, [.int go, .int gc]))])) (va_runV (As := [.int (nI k), .int 5]) (rest := []) ⟨hx, hb, hml, hown, hts⟩ (m_X7_hour l G Z _ h a cd s1 s2 d g v (nI k) 5) (cwV 2 hts gL_isWell_X7_hour rfl rfl rfl (by decide +kernel) ⟨Nat.le_of_ble_eq_true rfl, Nat.le_of_ble_eq_true rfl⟩) (zPreV hK hP hD hS hA hSW [0, 1, 2, 3, 4, 5] rfl (by decide) 0 (ci := 7) rfl rfl rfl) rfl rfl hl.1 rfl (lv_room (Nat.le_of_ble_eq_true rfl)) dL_isWell_163 ⟨Nat.le_of_ble_eq_true rfl, Nat.le_of_ble_eq_true rfl⟩) hP hD hS hA [0, 1, 2, 3, 4, 5] [6, 7, 8, 9, 10, 11, 12, 13, 14, 15, 16, 17, 18, 19, 20, 21, 22, 23, 24, 25, 26, 27, 28, 29, 30, 31, 32, 33, 34, 35, 36, 37, 38, 39, 40, 41] [36, 37, 38, 39, 40, 41, 0, 1, 2, 3, 4, 5, 6, 7, 8, 9, 10, 11, 12, 13, 14, 15, 16, 17, 18, 19, 20, 21, 22, 23, 24, 25, 26, 27, 28, 29, 30, 31, 32, 33, 34, 35] rfl rfl (by decide) (by decide) (by decide) (fun _ => rfl) (fun r163 u H locs hw163 hP hD hS => ?_)
        try dsimp only at hw163
        subst hw163
        have hP : va_P G vwCl ([(h, .inr (7, [.ref (a 0), .ref (cd 0), .ref s1, .ref s2, .ref (d 0), .ref g]))] ++ (ck Z a v ++ (hk Z cd (kp, Y) ++ (rk Z d w ++ [(g, .inr (1, [.int go, .int gc]))])))) H := hP
        have hD : va_D A ([(h, .inr (7, [.ref (a 0), .ref (cd 0), .ref s1, .ref s2, .ref (d 0), .ref g]))] ++ (ck Z a v ++ (hk Z cd (kp, Y) ++ (rk Z d w ++ [(g, .inr (1, [.int go, .int gc]))])))) := hD
        refine zTopI (y := (al (11 + 7 * k + 5))) (oHour5 hRo hk9) ?_
        refine lv_iconst (v := 1) hx hb dL_isWell_166 (by decide) ?_
        refine lv_icmp_ne (tgt := 174) hx hb dL_isWell_167 (by decide) (fun c167 => ?_) (fun c167 => ?_)
        · refine lv_iconst (v := 0) hx hb dL_isWell_174 (by decide) ?_
          refine zTopI (y := (al (11 + 7 * k + 5))) (((hRo.fl k hk9).resolve_right c167).symm) ?_
          exact K175 () trivial _ _ _ hP hD hS (lv_sub hl [0, 1, 2, 3, 4, 5, 6, 7, 8, 9, 10] rfl)
        · refine lv_iconst (v := 1) hx hb dL_isWell_170 (by decide) ?_
          refine lv_goto (tgt := 175) hx hb dL_isWell_171 (by decide) ?_
          refine zTopI (y := (al (11 + 7 * k + 5))) (c167.symm) ?_
          exact K175 () trivial _ _ _ hP hD hS (lv_sub hl [0, 1, 2, 3, 4, 5, 6, 7, 8, 9, 10] rfl)
  · intro K51
    refine lv_iload_n hx hb dL_isWell_27 rfl (lv_at hl 5 rfl) ?_
    refine lv_aload_n hx hb dL_isWell_28 rfl (lv_at hl 6 rfl) ?_
    refine lv_iconst (v := 0) hx hb dL_isWell_29 (by decide) ?_
    refine zCi (S := Unit) (ws1 := fun u => [(h, .inr (7, [.ref (a 0), .ref (cd 0), .ref s1, .ref s2, .ref (d 0), .ref g]))] ++ (ck Z a v ++ (hk Z cd (kp, Y) ++ (rk Z d w ++ [(g, .inr (1, [.int go, .int gc]))])))) (wr := [(g, .inr (1, [.int go, .int gc]))]) (va_runV (As := [.int 0]) (rest := [.int (nI (min hh 48))]) ⟨hx, hb, hml, hown, hts⟩ (m_X7_count l G Z _ h a cd s1 s2 d g v kp Y w 0) (cwV 1 hts gL_isWell_X7_count rfl rfl rfl (by decide +kernel) ⟨Nat.le_of_ble_eq_true rfl, Nat.le_of_ble_eq_true rfl⟩) (zPreV hK hP hD hS hA hSW [0, 1, 2, 3, 4, 5, 6, 7, 8, 9, 10, 11, 12, 13, 14, 15, 16, 17, 18, 19, 20, 21, 22, 23, 24, 25, 26, 27, 28, 29, 30, 31, 32, 33, 34, 35, 36, 37, 38, 39, 40] rfl (by decide) 0 (ci := 7) rfl rfl rfl) rfl rfl hl.1 rfl (lv_room (Nat.le_of_ble_eq_true rfl)) dL_isWell_30 ⟨Nat.le_of_ble_eq_true rfl, Nat.le_of_ble_eq_true rfl⟩) hP hD hS hA [0, 1, 2, 3, 4, 5, 6, 7, 8, 9, 10, 11, 12, 13, 14, 15, 16, 17, 18, 19, 20, 21, 22, 23, 24, 25, 26, 27, 28, 29, 30, 31, 32, 33, 34, 35, 36, 37, 38, 39, 40] [41] [1, 2, 3, 4, 5, 6, 7, 8, 9, 10, 11, 12, 13, 14, 15, 16, 17, 18, 19, 20, 21, 22, 23, 24, 25, 26, 27, 28, 29, 30, 31, 32, 33, 34, 35, 36, 37, 38, 39, 40, 41, 0] rfl rfl (by decide) (by decide) (by decide) (fun _ => rfl) (fun r30 u H locs hw30 hP hD hS => ?_)
    try dsimp only at hw30
    subst hw30
    have hP : va_P G vwCl ([(h, .inr (7, [.ref (a 0), .ref (cd 0), .ref s1, .ref s2, .ref (d 0), .ref g]))] ++ (ck Z a v ++ (hk Z cd (kp, Y) ++ (rk Z d w ++ [(g, .inr (1, [.int go, .int gc]))])))) H := hP
    have hD : va_D A ([(h, .inr (7, [.ref (a 0), .ref (cd 0), .ref s1, .ref s2, .ref (d 0), .ref g]))] ++ (ck Z a v ++ (hk Z cd (kp, Y) ++ (rk Z d w ++ [(g, .inr (1, [.int go, .int gc]))])))) := hD
    refine zTopI (y := (nI hh)) (oc0 hRo _ _) ?_
    refine lv_bipush (v := 48) hx hb dL_isWell_33 (by decide) ?_
    refine lv_icmp_ge (tgt := 46) hx hb dL_isWell_35 (by decide) (fun c35 => ?_) (fun c35 => ?_)
    · refine lv_bipush (v := 48) hx hb dL_isWell_46 (by decide) ?_
      refine lv_icmp_ne (tgt := 118) hx hb dL_isWell_48 (by decide) (fun c48 => (c48 (by rw [show min hh 48 = 48 by (have h9 := zLe (a := 48) c35 (by decide) (by omega)); omega]; rfl)).elim) (fun c48 => ?_)
      exact K51 () trivial _ _ _ hP hD hS (lv_sub hl [0, 1, 2, 3, 4, 5, 6] rfl)
    · refine lv_aload_n hx hb dL_isWell_38 rfl (lv_at hl 6 rfl) ?_
      refine lv_iconst (v := 0) hx hb dL_isWell_39 (by decide) ?_
      refine zCi (S := Unit) (ws1 := fun u => [(h, .inr (7, [.ref (a 0), .ref (cd 0), .ref s1, .ref s2, .ref (d 0), .ref g]))] ++ (ck Z a v ++ (hk Z cd (kp, Y) ++ (rk Z d w ++ [(g, .inr (1, [.int go, .int gc]))])))) (wr := [(g, .inr (1, [.int go, .int gc]))]) (va_runV (As := [.int 0]) (rest := [.int (nI (min hh 48))]) ⟨hx, hb, hml, hown, hts⟩ (m_X7_count l G Z _ h a cd s1 s2 d g v kp Y w 0) (cwV 1 hts gL_isWell_X7_count rfl rfl rfl (by decide +kernel) ⟨Nat.le_of_ble_eq_true rfl, Nat.le_of_ble_eq_true rfl⟩) (zPreV hK hP hD hS hA hSW [0, 1, 2, 3, 4, 5, 6, 7, 8, 9, 10, 11, 12, 13, 14, 15, 16, 17, 18, 19, 20, 21, 22, 23, 24, 25, 26, 27, 28, 29, 30, 31, 32, 33, 34, 35, 36, 37, 38, 39, 40] rfl (by decide) 0 (ci := 7) rfl rfl rfl) rfl rfl hl.1 rfl (lv_room (Nat.le_of_ble_eq_true rfl)) dL_isWell_40 ⟨Nat.le_of_ble_eq_true rfl, Nat.le_of_ble_eq_true rfl⟩) hP hD hS hA [0, 1, 2, 3, 4, 5, 6, 7, 8, 9, 10, 11, 12, 13, 14, 15, 16, 17, 18, 19, 20, 21, 22, 23, 24, 25, 26, 27, 28, 29, 30, 31, 32, 33, 34, 35, 36, 37, 38, 39, 40] [41] [1, 2, 3, 4, 5, 6, 7, 8, 9, 10, 11, 12, 13, 14, 15, 16, 17, 18, 19, 20, 21, 22, 23, 24, 25, 26, 27, 28, 29, 30, 31, 32, 33, 34, 35, 36, 37, 38, 39, 40, 41, 0] rfl rfl (by decide) (by decide) (by decide) (fun _ => rfl) (fun r40 u H locs hw40 hP hD hS => ?_)
      try dsimp only at hw40
      subst hw40
      have hP : va_P G vwCl ([(h, .inr (7, [.ref (a 0), .ref (cd 0), .ref s1, .ref s2, .ref (d 0), .ref g]))] ++ (ck Z a v ++ (hk Z cd (kp, Y) ++ (rk Z d w ++ [(g, .inr (1, [.int go, .int gc]))])))) H := hP
      have hD : va_D A ([(h, .inr (7, [.ref (a 0), .ref (cd 0), .ref s1, .ref s2, .ref (d 0), .ref g]))] ++ (ck Z a v ++ (hk Z cd (kp, Y) ++ (rk Z d w ++ [(g, .inr (1, [.int go, .int gc]))])))) := hD
      refine zTopI (y := (nI hh)) (oc0 hRo _ _) ?_
      refine lv_goto (tgt := 48) hx hb dL_isWell_43 (by decide) ?_
      refine lv_icmp_ne (tgt := 118) hx hb dL_isWell_48 (by decide) (fun c48 => (c48 (by rw [show min hh 48 = hh by (have h9 := zNle (a := 48) c35 (by decide) (by omega)); omega])).elim) (fun c48 => ?_)
      exact K51 () trivial _ _ _ hP hD hS (lv_sub hl [0, 1, 2, 3, 4, 5, 6] rfl)
