set_option maxHeartbeats 4000000 in
set_option maxRecDepth 100000 in
theorem m_L_isStep (l : Launch) (G : va_G) (Z : Nat → ClassId) (sz : Nat) (h : Nat) (a : Nat → Nat) (cd : Nat → Nat) (s1 : Nat) (s2 : Nat) (d : Nat → Nat) (g : Nat) (v : CV) (kp : Nat) (Y : HV) (w : RV) (bh : Nat) (ba : Nat → Nat) (bcd : Nat → Nat) (bs1 : Nat) (bs2 : Nat) (bd : Nat → Nat) (bg : Nat) (bv : CV) (bkp : Nat) (bY : HV) (al : Nat → Int32) (hh : Nat) (x : Int32) (hRo : RS v al hh) (hRp : RS bv al hh) (hWI : WI al hh) (hk6 : kp ≤ 6) (hbk6 : bkp ≤ 6) (hhB : hh + 30 ≤ 9999) : Met l yL_isStep wsL_isStep ({ frames := 6, cells := 0, slots := 0, locals := 141 }) (va_Pc [.ref h, .ref bh, .int x] (zWP G Z sz ([(h, .inr (7, [.ref (a 0), .ref (cd 0), .ref s1, .ref s2, .ref (d 0), .ref g]))] ++ (ck Z a v ++ (hk Z cd (kp, Y) ++ (rk Z d w ++ ([(bh, .inr (7, [.ref (ba 0), .ref (bcd 0), .ref bs1, .ref bs2, .ref (bd 0), .ref bg]))] ++ (ck Z ba bv ++ hk Z bcd (bkp, bY))))))))) (va_Qi (fun (r : Int32) (u : CV × Nat × HV × CV × Nat × HV) => r = 1 ∧ oStp hh u.1 u.2.2.2.1 u.2.1 u.2.2.2.2.1) (fun (u : CV × Nat × HV × CV × Nat × HV) t => zB G (va_A ([(h, .inr (7, [.ref (a 0), .ref (cd 0), .ref s1, .ref s2, .ref (d 0), .ref g]))] ++ (ck Z a v ++ (hk Z cd (kp, Y) ++ (rk Z d w ++ ([(bh, .inr (7, [.ref (ba 0), .ref (bcd 0), .ref bs1, .ref bs2, .ref (bd 0), .ref bg]))] ++ (ck Z ba bv ++ hk Z bcd (bkp, bY))))))) sz) ([(h, .inr (7, [.ref (a 0), .ref (cd 0), .ref s1, .ref s2, .ref (d 0), .ref g]))] ++ (ck Z a u.1 ++ (hk Z cd (u.2.1, u.2.2.1) ++ (rk Z d w ++ ([(bh, .inr (7, [.ref (ba 0), .ref (bcd 0), .ref bs1, .ref bs2, .ref (bd 0), .ref bg]))] ++ (ck Z ba u.2.2.2.1 ++ hk Z bcd (u.2.2.2.2.1, u.2.2.2.2.2))))))) t) (va_A ([(h, .inr (7, [.ref (a 0), .ref (cd 0), .ref s1, .ref s2, .ref (d 0), .ref g]))] ++ (ck Z a v ++ (hk Z cd (kp, Y) ++ (rk Z d w ++ ([(bh, .inr (7, [.ref (ba 0), .ref (bcd 0), .ref bs1, .ref bs2, .ref (bd 0), .ref bg]))] ++ (ck Z ba bv ++ hk Z bcd (bkp, bY))))))) sz)) 0 0 (va_A ([(h, .inr (7, [.ref (a 0), .ref (cd 0), .ref s1, .ref s2, .ref (d 0), .ref g]))] ++ (ck Z a v ++ (hk Z cd (kp, Y) ++ (rk Z d w ++ ([(bh, .inr (7, [.ref (ba 0), .ref (bcd 0), .ref bs1, .ref bs2, .ref (bd 0), .ref bg]))] ++ (ck Z ba bv ++ hk Z bcd (bkp, bY))))))) sz) := by
  refine Met.ofW (cc := cL_isStep) (maxL := 16) (ret := (some .boolean)) (by decide) rfl ?_
  intro p e s m args below meth c s₁ B hml hv
  have hx := B.exec
  have hb := B.bytes
  have hr := B.returns
  have hts := atoms_spec (ws := wsL_isStep) B.pre
  have hown : s.vm.findClass RL = some m.cls := findClass_of_methodNamed B.named
  have hlocks := B.notSynchronized
  obtain ⟨rfl, hsz, hP, hK, hD, hA, hS, hSW⟩ := zEnter hv
  subst hsz
  generalize va_A ([(h, .inr (7, [.ref (a 0), .ref (cd 0), .ref s1, .ref s2, .ref (d 0), .ref g]))] ++ (ck Z a v ++ (hk Z cd (kp, Y) ++ (rk Z d w ++ ([(bh, .inr (7, [.ref (ba 0), .ref (bcd 0), .ref bs1, .ref bs2, .ref (bd 0), .ref bg]))] ++ (ck Z ba bv ++ hk Z bcd (bkp, bY))))))) s.heap.size = A at hD hA hS hSW ⊢
  have k_38 := hts (.constant RL 38 (1000000000)) (List.mem_of_getElem? (i := 1) rfl)
  have k_39 := hts (.constant RL 39 (100000)) (List.mem_of_getElem? (i := 2) rfl)
  have hP : va_P G vwCl ([(h, .inr (7, [.ref (a 0), .ref (cd 0), .ref s1, .ref s2, .ref (d 0), .ref g]))] ++ (ck Z a v ++ (hk Z cd (kp, Y) ++ (rk Z d w ++ ([(bh, .inr (7, [.ref (ba 0), .ref (bcd 0), .ref bs1, .ref bs2, .ref (bd 0), .ref bg]))] ++ (ck Z ba bv ++ hk Z bcd (bkp, bY))))))) s.heap := hP
  have hl := lv_entry ([.ref h, .ref bh, .int x]) (n := 16) (Nat.le_of_ble_eq_true rfl)
  rw [lg_entry_eq]
  generalize (lg_sl ([.ref h, .ref bh, .int x]) ++ List.replicate (16 - (lg_sl ([.ref h, .ref bh, .int x])).length) Slot.unset).toArray = ls at hl ⊢
  have hl : lv_has ls 16 [(0, .ref h), (1, .ref bh), (2, .int x)] := hl
  refine lv_iload_n hx hb dL_isStep_0 rfl (lv_at hl 2 rfl) ?_
  refine lv_iconst (v := 4) hx hb dL_isStep_1 (by decide) ?_
  refine lv_ishr hx hb dL_isStep_2 ?_
  refine lv_istore_n (lv' := [(3, .int (x >>> (4 &&& 31))), (0, .ref h), (1, .ref bh), (2, .int x)]) hx hb dL_isStep_3 rfl hl (by decide) rfl (fun ls hl => ?_)
  refine lv_aload_n hx hb dL_isStep_4 rfl (lv_at hl 1 rfl) ?_
  refine lv_iconst (v := 0) hx hb dL_isStep_5 (by decide) ?_
  refine zCi (S := Unit) (ws1 := fun u => [(h, .inr (7, [.ref (a 0), .ref (cd 0), .ref s1, .ref s2, .ref (d 0), .ref g]))] ++ (ck Z a v ++ (hk Z cd (kp, Y) ++ (rk Z d w ++ ([(bh, .inr (7, [.ref (ba 0), .ref (bcd 0), .ref bs1, .ref bs2, .ref (bd 0), .ref bg]))] ++ (ck Z ba bv ++ hk Z bcd (bkp, bY))))))) (wr := [(bh, .inr (7, [.ref (ba 0), .ref (bcd 0), .ref bs1, .ref bs2, .ref (bd 0), .ref bg]))] ++ (ck Z ba bv ++ hk Z bcd (bkp, bY))) (va_runV (As := [.int 0]) (rest := []) ⟨hx, hb, hml, hown, hts⟩ (m_X7_count l G Z _ h a cd s1 s2 d g v kp Y w 0) (cwV 1 hts gL_isStep_X7_count rfl rfl rfl (by decide +kernel) ⟨Nat.le_of_ble_eq_true rfl, Nat.le_of_ble_eq_true rfl⟩) (zPreV hK hP hD hS hA hSW [0, 1, 2, 3, 4, 5, 6, 7, 8, 9, 10, 11, 12, 13, 14, 15, 16, 17, 18, 19, 20, 21, 22, 23, 24, 25, 26, 27, 28, 29, 30, 31, 32, 33, 34, 35, 36, 37, 38, 39, 40] rfl (by decide) 0 (ci := 7) rfl rfl rfl) rfl rfl hl.1 rfl (lv_room (Nat.le_of_ble_eq_true rfl)) dL_isStep_6 ⟨Nat.le_of_ble_eq_true rfl, Nat.le_of_ble_eq_true rfl⟩) hP hD hS hA [0, 1, 2, 3, 4, 5, 6, 7, 8, 9, 10, 11, 12, 13, 14, 15, 16, 17, 18, 19, 20, 21, 22, 23, 24, 25, 26, 27, 28, 29, 30, 31, 32, 33, 34, 35, 36, 37, 38, 39, 40] [41, 42, 43, 44, 45, 46, 47, 48, 49, 50, 51, 52, 53, 54, 55, 56, 57, 58, 59, 60, 61, 62, 63, 64, 65, 66, 67, 68, 69, 70, 71, 72, 73, 74, 75, 76, 77, 78] [38, 39, 40, 41, 42, 43, 44, 45, 46, 47, 48, 49, 50, 51, 52, 53, 54, 55, 56, 57, 58, 59, 60, 61, 62, 63, 64, 65, 66, 67, 68, 69, 70, 71, 72, 73, 74, 75, 76, 77, 78, 0, 1, 2, 3, 4, 5, 6, 7, 8, 9, 10, 11, 12, 13, 14, 15, 16, 17, 18, 19, 20, 21, 22, 23, 24, 25, 26, 27, 28, 29, 30, 31, 32, 33, 34, 35, 36, 37] rfl rfl (by decide) (by decide) (by decide) (fun _ => rfl) (fun r6 u H locs hw6 hP hD hS => ?_)
  try dsimp only at hw6
  subst hw6
  have hP : va_P G vwCl ([(h, .inr (7, [.ref (a 0), .ref (cd 0), .ref s1, .ref s2, .ref (d 0), .ref g]))] ++ (ck Z a v ++ (hk Z cd (kp, Y) ++ (rk Z d w ++ ([(bh, .inr (7, [.ref (ba 0), .ref (bcd 0), .ref bs1, .ref bs2, .ref (bd 0), .ref bg]))] ++ (ck Z ba bv ++ hk Z bcd (bkp, bY))))))) H := hP
  have hD : va_D A ([(h, .inr (7, [.ref (a 0), .ref (cd 0), .ref s1, .ref s2, .ref (d 0), .ref g]))] ++ (ck Z a v ++ (hk Z cd (kp, Y) ++ (rk Z d w ++ ([(bh, .inr (7, [.ref (ba 0), .ref (bcd 0), .ref bs1, .ref bs2, .ref (bd 0), .ref bg]))] ++ (ck Z ba bv ++ hk Z bcd (bkp, bY))))))) := hD
  refine zTopI (y := (nI hh)) (oc0 hRo _ _) ?_
  refine lv_istore (lv' := [(4, .int (nI hh)), (3, .int (x >>> (4 &&& 31))), (0, .ref h), (1, .ref bh), (2, .int x)]) hx hb dL_isStep_9 hl (by decide) rfl (fun ls hl => ?_)
  refine lv_aload_n hx hb dL_isStep_11 rfl (lv_at hl 2 rfl) ?_
  refine lv_iconst (v := 3) hx hb dL_isStep_12 (by decide) ?_
  refine zCi (S := Unit) (ws1 := fun u => [(h, .inr (7, [.ref (a 0), .ref (cd 0), .ref s1, .ref s2, .ref (d 0), .ref g]))] ++ (ck Z a v ++ (hk Z cd (kp, Y) ++ (rk Z d w ++ ([(bh, .inr (7, [.ref (ba 0), .ref (bcd 0), .ref bs1, .ref bs2, .ref (bd 0), .ref bg]))] ++ (ck Z ba bv ++ hk Z bcd (bkp, bY))))))) (wr := [(bh, .inr (7, [.ref (ba 0), .ref (bcd 0), .ref bs1, .ref bs2, .ref (bd 0), .ref bg]))] ++ (ck Z ba bv ++ hk Z bcd (bkp, bY))) (va_runV (As := [.int 3]) (rest := []) ⟨hx, hb, hml, hown, hts⟩ (m_X7_count l G Z _ h a cd s1 s2 d g v kp Y w 3) (cwV 1 hts gL_isStep_X7_count rfl rfl rfl (by decide +kernel) ⟨Nat.le_of_ble_eq_true rfl, Nat.le_of_ble_eq_true rfl⟩) (zPreV hK hP hD hS hA hSW [0, 1, 2, 3, 4, 5, 6, 7, 8, 9, 10, 11, 12, 13, 14, 15, 16, 17, 18, 19, 20, 21, 22, 23, 24, 25, 26, 27, 28, 29, 30, 31, 32, 33, 34, 35, 36, 37, 38, 39, 40] rfl (by decide) 0 (ci := 7) rfl rfl rfl) rfl rfl hl.1 rfl (lv_room (Nat.le_of_ble_eq_true rfl)) dL_isStep_13 ⟨Nat.le_of_ble_eq_true rfl, Nat.le_of_ble_eq_true rfl⟩) hP hD hS hA [0, 1, 2, 3, 4, 5, 6, 7, 8, 9, 10, 11, 12, 13, 14, 15, 16, 17, 18, 19, 20, 21, 22, 23, 24, 25, 26, 27, 28, 29, 30, 31, 32, 33, 34, 35, 36, 37, 38, 39, 40] [41, 42, 43, 44, 45, 46, 47, 48, 49, 50, 51, 52, 53, 54, 55, 56, 57, 58, 59, 60, 61, 62, 63, 64, 65, 66, 67, 68, 69, 70, 71, 72, 73, 74, 75, 76, 77, 78] [38, 39, 40, 41, 42, 43, 44, 45, 46, 47, 48, 49, 50, 51, 52, 53, 54, 55, 56, 57, 58, 59, 60, 61, 62, 63, 64, 65, 66, 67, 68, 69, 70, 71, 72, 73, 74, 75, 76, 77, 78, 0, 1, 2, 3, 4, 5, 6, 7, 8, 9, 10, 11, 12, 13, 14, 15, 16, 17, 18, 19, 20, 21, 22, 23, 24, 25, 26, 27, 28, 29, 30, 31, 32, 33, 34, 35, 36, 37] rfl rfl (by decide) (by decide) (by decide) (fun _ => rfl) (fun r13 u H locs hw13 hP hD hS => ?_)
  try dsimp only at hw13
  subst hw13
  have hP : va_P G vwCl ([(h, .inr (7, [.ref (a 0), .ref (cd 0), .ref s1, .ref s2, .ref (d 0), .ref g]))] ++ (ck Z a v ++ (hk Z cd (kp, Y) ++ (rk Z d w ++ ([(bh, .inr (7, [.ref (ba 0), .ref (bcd 0), .ref bs1, .ref bs2, .ref (bd 0), .ref bg]))] ++ (ck Z ba bv ++ hk Z bcd (bkp, bY))))))) H := hP
  have hD : va_D A ([(h, .inr (7, [.ref (a 0), .ref (cd 0), .ref s1, .ref s2, .ref (d 0), .ref g]))] ++ (ck Z a v ++ (hk Z cd (kp, Y) ++ (rk Z d w ++ ([(bh, .inr (7, [.ref (ba 0), .ref (bcd 0), .ref bs1, .ref bs2, .ref (bd 0), .ref bg]))] ++ (ck Z ba bv ++ hk Z bcd (bkp, bY))))))) := hD
  refine zTopI (y := (al 7)) (oc3 hRo _ _) ?_
  refine lv_istore (lv' := [(5, .int (al 7)), (4, .int (nI hh)), (3, .int (x >>> (4 &&& 31))), (0, .ref h), (1, .ref bh), (2, .int x)]) hx hb dL_isStep_16 hl (by decide) rfl (fun ls hl => ?_)
  refine zJoin (G := G) (A := A) (σ := Unit) (nL := 16) 84 (fun zx => [(h, .inr (7, [.ref (a 0), .ref (cd 0), .ref s1, .ref s2, .ref (d 0), .ref g]))] ++ (ck Z a v ++ (hk Z cd (kp, Y) ++ (rk Z d w ++ ([(bh, .inr (7, [.ref (ba 0), .ref (bcd 0), .ref bs1, .ref bs2, .ref (bd 0), .ref bg]))] ++ (ck Z ba bv ++ hk Z bcd (bkp, bY))))))) (fun zx => [(5, .int (al 7)), (4, .int (nI hh)), (3, .int (x >>> (4 &&& 31))), (0, .ref h), (1, .ref bh), (2, .int x)]) (fun zx => []) (fun zx => True) ?_ ?_
  · intro zx hj84 H locs ls hP hD hS hl
    try dsimp only at hj84
    have hP : va_P G vwCl ([(h, .inr (7, [.ref (a 0), .ref (cd 0), .ref s1, .ref s2, .ref (d 0), .ref g]))] ++ (ck Z a v ++ (hk Z cd (kp, Y) ++ (rk Z d w ++ ([(bh, .inr (7, [.ref (ba 0), .ref (bcd 0), .ref bs1, .ref bs2, .ref (bd 0), .ref bg]))] ++ (ck Z ba bv ++ hk Z bcd (bkp, bY))))))) H := hP
    have hD : va_D A ([(h, .inr (7, [.ref (a 0), .ref (cd 0), .ref s1, .ref s2, .ref (d 0), .ref g]))] ++ (ck Z a v ++ (hk Z cd (kp, Y) ++ (rk Z d w ++ ([(bh, .inr (7, [.ref (ba 0), .ref (bcd 0), .ref bs1, .ref bs2, .ref (bd 0), .ref bg]))] ++ (ck Z ba bv ++ hk Z bcd (bkp, bY))))))) := hD
    have hl : lv_has ls 16 [(5, .int (al 7)), (4, .int (nI hh)), (3, .int (x >>> (4 &&& 31))), (0, .ref h), (1, .ref bh), (2, .int x)] := hl
    refine zJoin (G := G) (A := A) (σ := Int32) (nL := 16) 117 (fun zx => [(h, .inr (7, [.ref (a 0), .ref (cd 0), .ref s1, .ref s2, .ref (d 0), .ref g]))] ++ (ck Z a v ++ (hk Z cd (kp, Y) ++ (rk Z d w ++ ([(bh, .inr (7, [.ref (ba 0), .ref (bcd 0), .ref bs1, .ref bs2, .ref (bd 0), .ref bg]))] ++ (ck Z ba bv ++ hk Z bcd (bkp, bY))))))) (fun zx => [(5, .int (al 7)), (4, .int (nI hh)), (3, .int (x >>> (4 &&& 31))), (0, .ref h), (1, .ref bh), (2, .int x)]) (fun zx => [.int zx]) (fun zx => ¬ zHeat zx = 0) ?_ ?_
    · intro zx hj117 H locs ls hP hD hS hl
      obtain ⟨ht, rfl⟩ : ∃ z, z = zx := ⟨_, rfl⟩
      try dsimp only at hj117
      have hP : va_P G vwCl ([(h, .inr (7, [.ref (a 0), .ref (cd 0), .ref s1, .ref s2, .ref (d 0), .ref g]))] ++ (ck Z a v ++ (hk Z cd (kp, Y) ++ (rk Z d w ++ ([(bh, .inr (7, [.ref (ba 0), .ref (bcd 0), .ref bs1, .ref bs2, .ref (bd 0), .ref bg]))] ++ (ck Z ba bv ++ hk Z bcd (bkp, bY))))))) H := hP
      have hD : va_D A ([(h, .inr (7, [.ref (a 0), .ref (cd 0), .ref s1, .ref s2, .ref (d 0), .ref g]))] ++ (ck Z a v ++ (hk Z cd (kp, Y) ++ (rk Z d w ++ ([(bh, .inr (7, [.ref (ba 0), .ref (bcd 0), .ref bs1, .ref bs2, .ref (bd 0), .ref bg]))] ++ (ck Z ba bv ++ hk Z bcd (bkp, bY))))))) := hD
      have hl : lv_has ls 16 [(5, .int (al 7)), (4, .int (nI hh)), (3, .int (x >>> (4 &&& 31))), (0, .ref h), (1, .ref bh), (2, .int x)] := hl
      refine lv_istore (lv' := [(6, .int ht), (5, .int (al 7)), (4, .int (nI hh)), (3, .int (x >>> (4 &&& 31))), (0, .ref h), (1, .ref bh), (2, .int x)]) hx hb dL_isStep_117 hl (by decide) rfl (fun ls hl => ?_)
      refine zJoin (G := G) (A := A) (σ := Int32) (nL := 16) 159 (fun zx => [(h, .inr (7, [.ref (a 0), .ref (cd 0), .ref s1, .ref s2, .ref (d 0), .ref g]))] ++ (ck Z a v ++ (hk Z cd (kp, Y) ++ (rk Z d w ++ ([(bh, .inr (7, [.ref (ba 0), .ref (bcd 0), .ref bs1, .ref bs2, .ref (bd 0), .ref bg]))] ++ (ck Z ba bv ++ hk Z bcd (bkp, bY))))))) (fun zx => [(6, .int ht), (5, .int (al 7)), (4, .int (nI hh)), (3, .int (x >>> (4 &&& 31))), (0, .ref h), (1, .ref bh), (2, .int x)]) (fun zx => [.int zx]) (fun zx => ¬ zAir zx = 0) ?_ ?_
      · intro zx hj159 H locs ls hP hD hS hl
        obtain ⟨ar, rfl⟩ : ∃ z, z = zx := ⟨_, rfl⟩
        try dsimp only at hj159
        have hP : va_P G vwCl ([(h, .inr (7, [.ref (a 0), .ref (cd 0), .ref s1, .ref s2, .ref (d 0), .ref g]))] ++ (ck Z a v ++ (hk Z cd (kp, Y) ++ (rk Z d w ++ ([(bh, .inr (7, [.ref (ba 0), .ref (bcd 0), .ref bs1, .ref bs2, .ref (bd 0), .ref bg]))] ++ (ck Z ba bv ++ hk Z bcd (bkp, bY))))))) H := hP
        have hD : va_D A ([(h, .inr (7, [.ref (a 0), .ref (cd 0), .ref s1, .ref s2, .ref (d 0), .ref g]))] ++ (ck Z a v ++ (hk Z cd (kp, Y) ++ (rk Z d w ++ ([(bh, .inr (7, [.ref (ba 0), .ref (bcd 0), .ref bs1, .ref bs2, .ref (bd 0), .ref bg]))] ++ (ck Z ba bv ++ hk Z bcd (bkp, bY))))))) := hD
        have hl : lv_has ls 16 [(6, .int ht), (5, .int (al 7)), (4, .int (nI hh)), (3, .int (x >>> (4 &&& 31))), (0, .ref h), (1, .ref bh), (2, .int x)] := hl
        refine lv_istore (lv' := [(7, .int ar), (6, .int ht), (5, .int (al 7)), (4, .int (nI hh)), (3, .int (x >>> (4 &&& 31))), (0, .ref h), (1, .ref bh), (2, .int x)]) hx hb dL_isStep_159 hl (by decide) rfl (fun ls hl => ?_)
        refine lv_iload_n hx hb dL_isStep_161 rfl (lv_at hl 4 rfl) ?_
        refine lv_bipush (v := 10) hx hb dL_isStep_162 (by decide) ?_
        refine lv_ishr hx hb dL_isStep_164 ?_
        refine lv_iconst (v := 2) hx hb dL_isStep_165 (by decide) ?_
        refine zCi (S := Nat) (ws1 := fun u => [(h, .inr (7, [.ref (a 0), .ref (cd 0), .ref s1, .ref s2, .ref (d 0), .ref g]))] ++ (ck Z a v ++ (hk Z cd (kp, Y) ++ (rk Z d w ++ ([(bh, .inr (7, [.ref (ba 0), .ref (bcd 0), .ref bs1, .ref bs2, .ref (bd 0), .ref bg]))] ++ (ck Z ba bv ++ hk Z bcd (bkp, bY))))))) (wr := [(h, .inr (7, [.ref (a 0), .ref (cd 0), .ref s1, .ref s2, .ref (d 0), .ref g]))] ++ (ck Z a v ++ (hk Z cd (kp, Y) ++ (rk Z d w ++ ([(bh, .inr (7, [.ref (ba 0), .ref (bcd 0), .ref bs1, .ref bs2, .ref (bd 0), .ref bg]))] ++ (ck Z ba bv ++ hk Z bcd (bkp, bY))))))) (va_runS (As := [.int ((x >>> (4 &&& 31)) >>> (10 &&& 31)), .int 2]) (rest := []) ⟨hx, hb, hml, hown, hts⟩ (m_L_up l G Z _ ((x >>> (4 &&& 31)) >>> (10 &&& 31)) 2 (by
            decide) (by
            decide)) (va_cwS 2 hts gL_isStep_L_up rfl rfl rfl (by decide +kernel) ⟨Nat.le_of_ble_eq_true rfl, Nat.le_of_ble_eq_true rfl⟩) (zPreS hK hP hD hS hA hSW [] rfl (by decide)) rfl rfl hl.1 rfl (lv_room (Nat.le_of_ble_eq_true rfl)) dL_isStep_166 ⟨Nat.le_of_ble_eq_true rfl, Nat.le_of_ble_eq_true rfl⟩) hP hD hS hA [] [0, 1, 2, 3, 4, 5, 6, 7, 8, 9, 10, 11, 12, 13, 14, 15, 16, 17, 18, 19, 20, 21, 22, 23, 24, 25, 26, 27, 28, 29, 30, 31, 32, 33, 34, 35, 36, 37, 38, 39, 40, 41, 42, 43, 44, 45, 46, 47, 48, 49, 50, 51, 52, 53, 54, 55, 56, 57, 58, 59, 60, 61, 62, 63, 64, 65, 66, 67, 68, 69, 70, 71, 72, 73, 74, 75, 76, 77, 78] [0, 1, 2, 3, 4, 5, 6, 7, 8, 9, 10, 11, 12, 13, 14, 15, 16, 17, 18, 19, 20, 21, 22, 23, 24, 25, 26, 27, 28, 29, 30, 31, 32, 33, 34, 35, 36, 37, 38, 39, 40, 41, 42, 43, 44, 45, 46, 47, 48, 49, 50, 51, 52, 53, 54, 55, 56, 57, 58, 59, 60, 61, 62, 63, 64, 65, 66, 67, 68, 69, 70, 71, 72, 73, 74, 75, 76, 77, 78] rfl rfl (by decide) (by decide) (by decide) (fun _ => rfl) (fun r166 u H locs hw166 hP hD hS => ?_)
        obtain ⟨k_166, rfl⟩ : ∃ z, z = u := ⟨_, rfl⟩
        try dsimp only at hw166
        have hP : va_P G vwCl ([(h, .inr (7, [.ref (a 0), .ref (cd 0), .ref s1, .ref s2, .ref (d 0), .ref g]))] ++ (ck Z a v ++ (hk Z cd (kp, Y) ++ (rk Z d w ++ ([(bh, .inr (7, [.ref (ba 0), .ref (bcd 0), .ref bs1, .ref bs2, .ref (bd 0), .ref bg]))] ++ (ck Z ba bv ++ hk Z bcd (bkp, bY))))))) H := hP
        have hD : va_D A ([(h, .inr (7, [.ref (a 0), .ref (cd 0), .ref s1, .ref s2, .ref (d 0), .ref g]))] ++ (ck Z a v ++ (hk Z cd (kp, Y) ++ (rk Z d w ++ ([(bh, .inr (7, [.ref (ba 0), .ref (bcd 0), .ref bs1, .ref bs2, .ref (bd 0), .ref bg]))] ++ (ck Z ba bv ++ hk Z bcd (bkp, bY))))))) := hD
        obtain ⟨rfl, hk_166⟩ := hw166
        refine lv_istore (lv' := [(8, .int (nI k_166)), (7, .int ar), (6, .int ht), (5, .int (al 7)), (4, .int (nI hh)), (3, .int (x >>> (4 &&& 31))), (0, .ref h), (1, .ref bh), (2, .int x)]) hx hb dL_isStep_169 hl (by decide) rfl (fun ls hl => ?_)
        refine lv_iconst (v := 1) hx hb dL_isStep_171 (by decide) ?_
        refine lv_iload_n hx hb dL_isStep_172 rfl (lv_at hl 5 rfl) ?_
        refine lv_bipush (v := 12) hx hb dL_isStep_173 (by decide) ?_
        refine lv_ishr hx hb dL_isStep_175 ?_
        refine zJoin (G := G) (A := A) (σ := Nat) (nL := 16) 193 (fun zx => [(h, .inr (7, [.ref (a 0), .ref (cd 0), .ref s1, .ref s2, .ref (d 0), .ref g]))] ++ (ck Z a v ++ (hk Z cd (kp, Y) ++ (rk Z d w ++ ([(bh, .inr (7, [.ref (ba 0), .ref (bcd 0), .ref bs1, .ref bs2, .ref (bd 0), .ref bg]))] ++ (ck Z ba bv ++ hk Z bcd (bkp, bY))))))) (fun zx => [(8, .int (nI k_166)), (7, .int ar), (6, .int ht), (5, .int (al 7)), (4, .int (nI hh)), (3, .int (x >>> (4 &&& 31))), (0, .ref h), (1, .ref bh), (2, .int x)]) (fun zx => [.int (nI zx), .int ((x >>> (4 &&& 31)) >>> (12 &&& 31)), .int 1]) (fun zx => 0 < zx ∧ zx ≤ 30) ?_ ?_
        · intro zx hj193 H locs ls hP hD hS hl
          obtain ⟨N9, rfl⟩ : ∃ z, z = zx := ⟨_, rfl⟩
          try dsimp only at hj193
          have hP : va_P G vwCl ([(h, .inr (7, [.ref (a 0), .ref (cd 0), .ref s1, .ref s2, .ref (d 0), .ref g]))] ++ (ck Z a v ++ (hk Z cd (kp, Y) ++ (rk Z d w ++ ([(bh, .inr (7, [.ref (ba 0), .ref (bcd 0), .ref bs1, .ref bs2, .ref (bd 0), .ref bg]))] ++ (ck Z ba bv ++ hk Z bcd (bkp, bY))))))) H := hP
          have hD : va_D A ([(h, .inr (7, [.ref (a 0), .ref (cd 0), .ref s1, .ref s2, .ref (d 0), .ref g]))] ++ (ck Z a v ++ (hk Z cd (kp, Y) ++ (rk Z d w ++ ([(bh, .inr (7, [.ref (ba 0), .ref (bcd 0), .ref bs1, .ref bs2, .ref (bd 0), .ref bg]))] ++ (ck Z ba bv ++ hk Z bcd (bkp, bY))))))) := hD
          have hl : lv_has ls 16 [(8, .int (nI k_166)), (7, .int ar), (6, .int ht), (5, .int (al 7)), (4, .int (nI hh)), (3, .int (x >>> (4 &&& 31))), (0, .ref h), (1, .ref bh), (2, .int x)] := hl
          refine zCi (S := Nat) (ws1 := fun u => [(h, .inr (7, [.ref (a 0), .ref (cd 0), .ref s1, .ref s2, .ref (d 0), .ref g]))] ++ (ck Z a v ++ (hk Z cd (kp, Y) ++ (rk Z d w ++ ([(bh, .inr (7, [.ref (ba 0), .ref (bcd 0), .ref bs1, .ref bs2, .ref (bd 0), .ref bg]))] ++ (ck Z ba bv ++ hk Z bcd (bkp, bY))))))) (wr := [(h, .inr (7, [.ref (a 0), .ref (cd 0), .ref s1, .ref s2, .ref (d 0), .ref g]))] ++ (ck Z a v ++ (hk Z cd (kp, Y) ++ (rk Z d w ++ ([(bh, .inr (7, [.ref (ba 0), .ref (bcd 0), .ref bs1, .ref bs2, .ref (bd 0), .ref bg]))] ++ (ck Z ba bv ++ hk Z bcd (bkp, bY))))))) (va_runS (As := [.int ((x >>> (4 &&& 31)) >>> (12 &&& 31)), .int (nI N9)]) (rest := [.int 1]) ⟨hx, hb, hml, hown, hts⟩ (m_L_up l G Z _ ((x >>> (4 &&& 31)) >>> (12 &&& 31)) N9 (by
              exact hj193.1) (by
              omega)) (va_cwS 2 hts gL_isStep_L_up rfl rfl rfl (by decide +kernel) ⟨Nat.le_of_ble_eq_true rfl, Nat.le_of_ble_eq_true rfl⟩) (zPreS hK hP hD hS hA hSW [] rfl (by decide)) rfl rfl hl.1 rfl (lv_room (Nat.le_of_ble_eq_true rfl)) dL_isStep_193 ⟨Nat.le_of_ble_eq_true rfl, Nat.le_of_ble_eq_true rfl⟩) hP hD hS hA [] [0, 1, 2, 3, 4, 5, 6, 7, 8, 9, 10, 11, 12, 13, 14, 15, 16, 17, 18, 19, 20, 21, 22, 23, 24, 25, 26, 27, 28, 29, 30, 31, 32, 33, 34, 35, 36, 37, 38, 39, 40, 41, 42, 43, 44, 45, 46, 47, 48, 49, 50, 51, 52, 53, 54, 55, 56, 57, 58, 59, 60, 61, 62, 63, 64, 65, 66, 67, 68, 69, 70, 71, 72, 73, 74, 75, 76, 77, 78] [0, 1, 2, 3, 4, 5, 6, 7, 8, 9, 10, 11, 12, 13, 14, 15, 16, 17, 18, 19, 20, 21, 22, 23, 24, 25, 26, 27, 28, 29, 30, 31, 32, 33, 34, 35, 36, 37, 38, 39, 40, 41, 42, 43, 44, 45, 46, 47, 48, 49, 50, 51, 52, 53, 54, 55, 56, 57, 58, 59, 60, 61, 62, 63, 64, 65, 66, 67, 68, 69, 70, 71, 72, 73, 74, 75, 76, 77, 78] rfl rfl (by decide) (by decide) (by decide) (fun _ => rfl) (fun r193 u H locs hw193 hP hD hS => ?_)
          obtain ⟨k_193, rfl⟩ : ∃ z, z = u := ⟨_, rfl⟩
          try dsimp only at hw193
          have hP : va_P G vwCl ([(h, .inr (7, [.ref (a 0), .ref (cd 0), .ref s1, .ref s2, .ref (d 0), .ref g]))] ++ (ck Z a v ++ (hk Z cd (kp, Y) ++ (rk Z d w ++ ([(bh, .inr (7, [.ref (ba 0), .ref (bcd 0), .ref bs1, .ref bs2, .ref (bd 0), .ref bg]))] ++ (ck Z ba bv ++ hk Z bcd (bkp, bY))))))) H := hP
          have hD : va_D A ([(h, .inr (7, [.ref (a 0), .ref (cd 0), .ref s1, .ref s2, .ref (d 0), .ref g]))] ++ (ck Z a v ++ (hk Z cd (kp, Y) ++ (rk Z d w ++ ([(bh, .inr (7, [.ref (ba 0), .ref (bcd 0), .ref bs1, .ref bs2, .ref (bd 0), .ref bg]))] ++ (ck Z ba bv ++ hk Z bcd (bkp, bY))))))) := hD
          obtain ⟨rfl, hk_193⟩ := hw193
          refine lv_iadd hx hb dL_isStep_196 ?_
          refine zTopI (y := (nI (k_193 + 1))) ((Int32.add_comm _ _).trans (nI_succ k_193).symm) ?_
          refine lv_istore (lv' := [(9, .int (nI (k_193 + 1))), (8, .int (nI k_166)), (7, .int ar), (6, .int ht), (5, .int (al 7)), (4, .int (nI hh)), (3, .int (x >>> (4 &&& 31))), (0, .ref h), (1, .ref bh), (2, .int x)]) hx hb dL_isStep_197 hl (by decide) rfl (fun ls hl => ?_)
          refine lv_aload_n hx hb dL_isStep_199 rfl (lv_at hl 7 rfl) ?_
          refine lv_iload hx hb dL_isStep_200 (lv_at hl 3 rfl) ?_
          refine lv_iload hx hb dL_isStep_202 (lv_at hl 2 rfl) ?_
          refine lv_iload hx hb dL_isStep_204 (lv_at hl 1 rfl) ?_
          refine lv_iload hx hb dL_isStep_206 (lv_at hl 0 rfl) ?_
          refine zCi (S := CV × Nat × HV) (ws1 := fun u => [(h, .inr (7, [.ref (a 0), .ref (cd 0), .ref s1, .ref s2, .ref (d 0), .ref g]))] ++ (ck Z a u.1 ++ (hk Z cd (u.2.1, u.2.2) ++ (rk Z d w ++ ([(bh, .inr (7, [.ref (ba 0), .ref (bcd 0), .ref bs1, .ref bs2, .ref (bd 0), .ref bg]))] ++ (ck Z ba bv ++ hk Z bcd (bkp, bY))))))) (wr := rk Z d w ++ ([(bh, .inr (7, [.ref (ba 0), .ref (bcd 0), .ref bs1, .ref bs2, .ref (bd 0), .ref bg]))] ++ (ck Z ba bv ++ hk Z bcd (bkp, bY)))) (va_runV (As := [.int ht, .int ar, .int (nI k_166), .int (nI (k_193 + 1))]) (rest := []) ⟨hx, hb, hml, hown, hts⟩ (m_X7_pass l G Z _ h a cd s1 s2 d g v kp Y ht ar (nI k_166) (nI (k_193 + 1)) (by
              exact hk6)) (cwV 4 hts gL_isStep_X7_pass rfl rfl rfl (by decide +kernel) ⟨Nat.le_of_ble_eq_true rfl, Nat.le_of_ble_eq_true rfl⟩) (zPreV hK hP hD hS hA hSW [0, 1, 2, 3, 4, 5, 6, 7, 8, 9, 10, 11, 12, 13, 14, 15, 16, 17, 18, 19, 20, 21, 22, 23, 24, 25, 26, 27, 28, 29, 30, 31, 32, 33, 34, 35, 36, 37] rfl (by decide) 0 (ci := 7) rfl rfl rfl) rfl rfl hl.1 rfl (lv_room (Nat.le_of_ble_eq_true rfl)) dL_isStep_208 ⟨Nat.le_of_ble_eq_true rfl, Nat.le_of_ble_eq_true rfl⟩) hP hD hS hA [0, 1, 2, 3, 4, 5, 6, 7, 8, 9, 10, 11, 12, 13, 14, 15, 16, 17, 18, 19, 20, 21, 22, 23, 24, 25, 26, 27, 28, 29, 30, 31, 32, 33, 34, 35, 36, 37] [38, 39, 40, 41, 42, 43, 44, 45, 46, 47, 48, 49, 50, 51, 52, 53, 54, 55, 56, 57, 58, 59, 60, 61, 62, 63, 64, 65, 66, 67, 68, 69, 70, 71, 72, 73, 74, 75, 76, 77, 78] [41, 42, 43, 44, 45, 46, 47, 48, 49, 50, 51, 52, 53, 54, 55, 56, 57, 58, 59, 60, 61, 62, 63, 64, 65, 66, 67, 68, 69, 70, 71, 72, 73, 74, 75, 76, 77, 78, 0, 1, 2, 3, 4, 5, 6, 7, 8, 9, 10, 11, 12, 13, 14, 15, 16, 17, 18, 19, 20, 21, 22, 23, 24, 25, 26, 27, 28, 29, 30, 31, 32, 33, 34, 35, 36, 37, 38, 39, 40] rfl rfl (by decide) (by decide) (by decide) (fun _ => rfl) (fun r208 u H locs hw208 hP hD hS => ?_)
          obtain ⟨v1_208, kp1_208, Y1_208⟩ := u
          try dsimp only at hw208
          obtain ⟨rfl, e_v1_208, e_kp1_208, e_Y1_208⟩ := hw208
          have hP : va_P G vwCl ([(h, .inr (7, [.ref (a 0), .ref (cd 0), .ref s1, .ref s2, .ref (d 0), .ref g]))] ++ (ck Z a v1_208 ++ (hk Z cd (kp1_208, Y1_208) ++ (rk Z d w ++ ([(bh, .inr (7, [.ref (ba 0), .ref (bcd 0), .ref bs1, .ref bs2, .ref (bd 0), .ref bg]))] ++ (ck Z ba bv ++ hk Z bcd (bkp, bY))))))) H := hP
          have hD : va_D A ([(h, .inr (7, [.ref (a 0), .ref (cd 0), .ref s1, .ref s2, .ref (d 0), .ref g]))] ++ (ck Z a v1_208 ++ (hk Z cd (kp1_208, Y1_208) ++ (rk Z d w ++ ([(bh, .inr (7, [.ref (ba 0), .ref (bcd 0), .ref bs1, .ref bs2, .ref (bd 0), .ref bg]))] ++ (ck Z ba bv ++ hk Z bcd (bkp, bY))))))) := hD
          have hR208 : RS v1_208 (mGoN al (min hh 48) ht ar (nI k_166) (k_193 + 1)) (hh + (k_193 + 1)) := by
            rw [e_v1_208]
            exact (oPass hRo hj117 hj159 (oBit hk_166) (n := k_193 + 1) (by omega) (by omega) (by omega)).2
          have hk208 : kp1_208 ≤ 6 := by
            rw [e_kp1_208]
            exact oKp hk6
          refine zTopI (y := (mCntN al (min hh 48) ht ar (nI k_166) (k_193 + 1))) ((oPass hRo hj117 hj159 (oBit hk_166) (n := k_193 + 1) (by omega) (by omega) (by omega)).1) ?_
          refine lv_istore (lv' := [(10, .int (mCntN al (min hh 48) ht ar (nI k_166) (k_193 + 1))), (9, .int (nI (k_193 + 1))), (8, .int (nI k_166)), (7, .int ar), (6, .int ht), (5, .int (al 7)), (4, .int (nI hh)), (3, .int (x >>> (4 &&& 31))), (0, .ref h), (1, .ref bh), (2, .int x)]) hx hb dL_isStep_211 hl (by decide) rfl (fun ls hl => ?_)
          refine lv_iconst (v := 0) hx hb dL_isStep_213 (by decide) ?_
          refine lv_istore (lv' := [(11, .int 0), (10, .int (mCntN al (min hh 48) ht ar (nI k_166) (k_193 + 1))), (9, .int (nI (k_193 + 1))), (8, .int (nI k_166)), (7, .int ar), (6, .int ht), (5, .int (al 7)), (4, .int (nI hh)), (3, .int (x >>> (4 &&& 31))), (0, .ref h), (1, .ref bh), (2, .int x)]) hx hb dL_isStep_214 hl (by decide) rfl (fun ls hl => ?_)
          refine lv_iconst (v := 1) hx hb dL_isStep_216 (by decide) ?_
          refine lv_istore (lv' := [(12, .int 1), (11, .int 0), (10, .int (mCntN al (min hh 48) ht ar (nI k_166) (k_193 + 1))), (9, .int (nI (k_193 + 1))), (8, .int (nI k_166)), (7, .int ar), (6, .int ht), (5, .int (al 7)), (4, .int (nI hh)), (3, .int (x >>> (4 &&& 31))), (0, .ref h), (1, .ref bh), (2, .int x)]) hx hb dL_isStep_217 hl (by decide) rfl (fun ls hl => ?_)
          refine lv_iconst (v := 0) hx hb dL_isStep_219 (by decide) ?_
          refine lv_istore (lv' := [(13, .int 0), (12, .int 1), (11, .int 0), (10, .int (mCntN al (min hh 48) ht ar (nI k_166) (k_193 + 1))), (9, .int (nI (k_193 + 1))), (8, .int (nI k_166)), (7, .int ar), (6, .int ht), (5, .int (al 7)), (4, .int (nI hh)), (3, .int (x >>> (4 &&& 31))), (0, .ref h), (1, .ref bh), (2, .int x)]) hx hb dL_isStep_220 hl (by decide) rfl (fun ls hl => ?_)
          refine zLoop (σ := Nat × CV × Nat × HV) (nL := 16) (fun zx => [(h, .inr (7, [.ref (a 0), .ref (cd 0), .ref s1, .ref s2, .ref (d 0), .ref g]))] ++ (ck Z a v1_208 ++ (hk Z cd (kp1_208, Y1_208) ++ (rk Z d w ++ ([(bh, .inr (7, [.ref (ba 0), .ref (bcd 0), .ref bs1, .ref bs2, .ref (bd 0), .ref bg]))] ++ (ck Z ba zx.2.1 ++ hk Z bcd (zx.2.2.1, zx.2.2.2))))))) (fun zx => [(13, .int (nI zx.1)), (12, .int 1), (11, .int (mCntN al (min hh 48) ht ar (nI k_166) zx.1)), (10, .int (mCntN al (min hh 48) ht ar (nI k_166) (k_193 + 1))), (9, .int (nI (k_193 + 1))), (8, .int (nI k_166)), (7, .int ar), (6, .int ht), (5, .int (al 7)), (4, .int (nI hh)), (3, .int (x >>> (4 &&& 31))), (0, .ref h), (1, .ref bh), (2, .int x)]) (fun zx => zx.1 ≤ k_193 + 1 ∧ RS zx.2.1 (mGoN al (min hh 48) ht ar (nI k_166) zx.1) (hh + zx.1) ∧ zx.2.2.1 ≤ 6) (fun zx => k_193 + 1 - zx.1) ?_ (0, bv, bkp, bY) (by
              try dsimp only
              exact ⟨Nat.zero_le _, hRp, hbk6⟩) hP hD hS (lv_sub hl [0, 1, 2, 3, 4, 5, 6, 7, 8, 9, 10, 11, 12, 13] rfl)
          intro zx hinv222 ih222 H locs ls hP hD hS hl
          obtain ⟨k, bv2, bkp2, bY2⟩ := zx
          try dsimp only at hinv222 ih222
          have hP : va_P G vwCl ([(h, .inr (7, [.ref (a 0), .ref (cd 0), .ref s1, .ref s2, .ref (d 0), .ref g]))] ++ (ck Z a v1_208 ++ (hk Z cd (kp1_208, Y1_208) ++ (rk Z d w ++ ([(bh, .inr (7, [.ref (ba 0), .ref (bcd 0), .ref bs1, .ref bs2, .ref (bd 0), .ref bg]))] ++ (ck Z ba bv2 ++ hk Z bcd (bkp2, bY2))))))) H := hP
          have hD : va_D A ([(h, .inr (7, [.ref (a 0), .ref (cd 0), .ref s1, .ref s2, .ref (d 0), .ref g]))] ++ (ck Z a v1_208 ++ (hk Z cd (kp1_208, Y1_208) ++ (rk Z d w ++ ([(bh, .inr (7, [.ref (ba 0), .ref (bcd 0), .ref bs1, .ref bs2, .ref (bd 0), .ref bg]))] ++ (ck Z ba bv2 ++ hk Z bcd (bkp2, bY2))))))) := hD
          have hl : lv_has ls 16 [(13, .int (nI k)), (12, .int 1), (11, .int (mCntN al (min hh 48) ht ar (nI k_166) k)), (10, .int (mCntN al (min hh 48) ht ar (nI k_166) (k_193 + 1))), (9, .int (nI (k_193 + 1))), (8, .int (nI k_166)), (7, .int ar), (6, .int ht), (5, .int (al 7)), (4, .int (nI hh)), (3, .int (x >>> (4 &&& 31))), (0, .ref h), (1, .ref bh), (2, .int x)] := hl
          refine lv_iload hx hb dL_isStep_222 (lv_at hl 0 rfl) ?_
          refine lv_iload hx hb dL_isStep_224 (lv_at hl 4 rfl) ?_
          refine lv_icmp_ge (tgt := 340) hx hb dL_isStep_226 (by decide) (fun c226 => ?_) (fun c226 => ?_)
          · have hke : k = k_193 + 1 := by
              have h1 := zLe c226 (by omega) (by omega)
              have h2 := hinv222.1
              omega
            refine lv_iload hx hb dL_isStep_340 (lv_at hl 1 rfl) ?_
            refine lv_if_eq (tgt := 380) hx hb dL_isStep_342 (by decide) (fun c342 => absurd c342 (by decide)) (fun _ => ?_)
            refine lv_iload hx hb dL_isStep_345 (lv_at hl 3 rfl) ?_
            refine lv_iload hx hb dL_isStep_347 (lv_at hl 2 rfl) ?_
            refine lv_icmp_ne (tgt := 380) hx hb dL_isStep_349 (by decide) (fun c349 => (c349 (by rw [hke])).elim) (fun c349 => ?_)
            refine lv_iload hx hb dL_isStep_352 (lv_at hl 5 rfl) ?_
            refine lv_iconst (v := 1) hx hb dL_isStep_354 (by decide) ?_
            refine lv_icmp_eq (tgt := 363) hx hb dL_isStep_355 (by decide) (fun c355 => ?_) (fun c355 => ?_)
            · refine lv_aload_n hx hb dL_isStep_363 rfl (lv_at hl 11 rfl) ?_
              refine lv_iconst (v := 0) hx hb dL_isStep_364 (by decide) ?_
              refine zCi (S := Unit) (ws1 := fun u => [(h, .inr (7, [.ref (a 0), .ref (cd 0), .ref s1, .ref s2, .ref (d 0), .ref g]))] ++ (ck Z a v1_208 ++ (hk Z cd (kp1_208, Y1_208) ++ (rk Z d w ++ ([(bh, .inr (7, [.ref (ba 0), .ref (bcd 0), .ref bs1, .ref bs2, .ref (bd 0), .ref bg]))] ++ (ck Z ba bv2 ++ hk Z bcd (bkp2, bY2))))))) (wr := [(bh, .inr (7, [.ref (ba 0), .ref (bcd 0), .ref bs1, .ref bs2, .ref (bd 0), .ref bg]))] ++ (ck Z ba bv2 ++ hk Z bcd (bkp2, bY2))) (va_runV (As := [.int 0]) (rest := []) ⟨hx, hb, hml, hown, hts⟩ (m_X7_count l G Z _ h a cd s1 s2 d g v1_208 kp1_208 Y1_208 w 0) (cwV 1 hts gL_isStep_X7_count rfl rfl rfl (by decide +kernel) ⟨Nat.le_of_ble_eq_true rfl, Nat.le_of_ble_eq_true rfl⟩) (zPreV hK hP hD hS hA hSW [0, 1, 2, 3, 4, 5, 6, 7, 8, 9, 10, 11, 12, 13, 14, 15, 16, 17, 18, 19, 20, 21, 22, 23, 24, 25, 26, 27, 28, 29, 30, 31, 32, 33, 34, 35, 36, 37, 38, 39, 40] rfl (by decide) 0 (ci := 7) rfl rfl rfl) rfl rfl hl.1 rfl (lv_room (Nat.le_of_ble_eq_true rfl)) dL_isStep_365 ⟨Nat.le_of_ble_eq_true rfl, Nat.le_of_ble_eq_true rfl⟩) hP hD hS hA [0, 1, 2, 3, 4, 5, 6, 7, 8, 9, 10, 11, 12, 13, 14, 15, 16, 17, 18, 19, 20, 21, 22, 23, 24, 25, 26, 27, 28, 29, 30, 31, 32, 33, 34, 35, 36, 37, 38, 39, 40] [41, 42, 43, 44, 45, 46, 47, 48, 49, 50, 51, 52, 53, 54, 55, 56, 57, 58, 59, 60, 61, 62, 63, 64, 65, 66, 67, 68, 69, 70, 71, 72, 73, 74, 75, 76, 77, 78] [38, 39, 40, 41, 42, 43, 44, 45, 46, 47, 48, 49, 50, 51, 52, 53, 54, 55, 56, 57, 58, 59, 60, 61, 62, 63, 64, 65, 66, 67, 68, 69, 70, 71, 72, 73, 74, 75, 76, 77, 78, 0, 1, 2, 3, 4, 5, 6, 7, 8, 9, 10, 11, 12, 13, 14, 15, 16, 17, 18, 19, 20, 21, 22, 23, 24, 25, 26, 27, 28, 29, 30, 31, 32, 33, 34, 35, 36, 37] rfl rfl (by decide) (by decide) (by decide) (fun _ => rfl) (fun r365 u H locs hw365 hP hD hS => ?_)
              try dsimp only at hw365
              subst hw365
              have hP : va_P G vwCl ([(h, .inr (7, [.ref (a 0), .ref (cd 0), .ref s1, .ref s2, .ref (d 0), .ref g]))] ++ (ck Z a v1_208 ++ (hk Z cd (kp1_208, Y1_208) ++ (rk Z d w ++ ([(bh, .inr (7, [.ref (ba 0), .ref (bcd 0), .ref bs1, .ref bs2, .ref (bd 0), .ref bg]))] ++ (ck Z ba bv2 ++ hk Z bcd (bkp2, bY2))))))) H := hP
              have hD : va_D A ([(h, .inr (7, [.ref (a 0), .ref (cd 0), .ref s1, .ref s2, .ref (d 0), .ref g]))] ++ (ck Z a v1_208 ++ (hk Z cd (kp1_208, Y1_208) ++ (rk Z d w ++ ([(bh, .inr (7, [.ref (ba 0), .ref (bcd 0), .ref bs1, .ref bs2, .ref (bd 0), .ref bg]))] ++ (ck Z ba bv2 ++ hk Z bcd (bkp2, bY2))))))) := hD
              refine zTopI (y := (nI (hh + (k_193 + 1)))) (oc0 hR208 _ _) ?_
              refine lv_iload hx hb dL_isStep_368 (lv_at hl 9 rfl) ?_
              refine lv_iload hx hb dL_isStep_370 (lv_at hl 4 rfl) ?_
              refine lv_iadd hx hb dL_isStep_372 ?_
              refine lv_icmp_ne (tgt := 380) hx hb dL_isStep_373 (by decide) (fun c373 => (c373 (nI_add hh (k_193 + 1)).symm).elim) (fun c373 => ?_)
              refine lv_iconst (v := 1) hx hb dL_isStep_376 (by decide) ?_
              refine lv_goto (tgt := 381) hx hb dL_isStep_377 (by decide) ?_
              exact W.zret hx hb hr (rfl) (zEi (v1_208, kp1_208, Y1_208, bv2, bkp2, bY2) (by
                  refine ⟨rfl, ?_⟩
                  unfold oStp
                  have hb9 := hinv222.2.1
                  rw [hke] at hb9
                  exact ⟨_, _, hR208, hb9, WI_goN hRo hWI hj117 hj159 (oBit hk_166) (k_193 + 1) (by omega), by omega, hk208, hinv222.2.2⟩) hP hD hS) hS.2.2 dL_isStep_381
            · refine lv_iload hx hb dL_isStep_358 (lv_at hl 3 rfl) ?_
              refine lv_if_ne (tgt := 380) hx hb dL_isStep_360 (by decide) (fun c360 => (c360 (mCnt_no _ _ c355 _)).elim) (fun c360 => ?_)
              refine lv_aload_n hx hb dL_isStep_363 rfl (lv_at hl 11 rfl) ?_
              refine lv_iconst (v := 0) hx hb dL_isStep_364 (by decide) ?_
              refine zCi (S := Unit) (ws1 := fun u => [(h, .inr (7, [.ref (a 0), .ref (cd 0), .ref s1, .ref s2, .ref (d 0), .ref g]))] ++ (ck Z a v1_208 ++ (hk Z cd (kp1_208, Y1_208) ++ (rk Z d w ++ ([(bh, .inr (7, [.ref (ba 0), .ref (bcd 0), .ref bs1, .ref bs2, .ref (bd 0), .ref bg]))] ++ (ck Z ba bv2 ++ hk Z bcd (bkp2, bY2))))))) (wr := [(bh, .inr (7, [.ref (ba 0), .ref (bcd 0), .ref bs1, .ref bs2, .ref (bd 0), .ref bg]))] ++ (ck Z ba bv2 ++ hk Z bcd (bkp2, bY2))) (va_runV (As := [.int 0]) (rest := []) ⟨hx, hb, hml, hown, hts⟩ (m_X7_count l G Z _ h a cd s1 s2 d g v1_208 kp1_208 Y1_208 w 0) (cwV 1 hts gL_isStep_X7_count rfl rfl rfl (by decide +kernel) ⟨Nat.le_of_ble_eq_true rfl, Nat.le_of_ble_eq_true rfl⟩) (zPreV hK hP hD hS hA hSW [0, 1, 2, 3, 4, 5, 6, 7, 8, 9, 10, 11, 12, 13, 14, 15, 16, 17, 18, 19, 20, 21, 22, 23, 24, 25, 26, 27, 28, 29, 30, 31, 32, 33, 34, 35, 36, 37, 38, 39, 40] rfl (by decide) 0 (ci := 7) rfl rfl rfl) rfl rfl hl.1 rfl (lv_room (Nat.le_of_ble_eq_true rfl)) dL_isStep_365 ⟨Nat.le_of_ble_eq_true rfl, Nat.le_of_ble_eq_true rfl⟩) hP hD hS hA [0, 1, 2, 3, 4, 5, 6, 7, 8, 9, 10, 11, 12, 13, 14, 15, 16, 17, 18, 19, 20, 21, 22, 23, 24, 25, 26, 27, 28, 29, 30, 31, 32, 33, 34, 35, 36, 37, 38, 39, 40] [41, 42, 43, 44, 45, 46, 47, 48, 49, 50, 51, 52, 53, 54, 55, 56, 57, 58, 59, 60, 61, 62, 63, 64, 65, 66, 67, 68, 69, 70, 71, 72, 73, 74, 75, 76, 77, 78] [38, 39, 40, 41, 42, 43, 44, 45, 46, 47, 48, 49, 50, 51, 52, 53, 54, 55, 56, 57, 58, 59, 60, 61, 62, 63, 64, 65, 66, 67, 68, 69, 70, 71, 72, 73, 74, 75, 76, 77, 78, 0, 1, 2, 3, 4, 5, 6, 7, 8, 9, 10, 11, 12, 13, 14, 15, 16, 17, 18, 19, 20, 21, 22, 23, 24, 25, 26, 27, 28, 29, 30, 31, 32, 33, 34, 35, 36, 37] rfl rfl (by decide) (by decide) (by decide) (fun _ => rfl) (fun r365_2 u H locs hw365_2 hP hD hS => ?_)
              try dsimp only at hw365_2
              subst hw365_2
              have hP : va_P G vwCl ([(h, .inr (7, [.ref (a 0), .ref (cd 0), .ref s1, .ref s2, .ref (d 0), .ref g]))] ++ (ck Z a v1_208 ++ (hk Z cd (kp1_208, Y1_208) ++ (rk Z d w ++ ([(bh, .inr (7, [.ref (ba 0), .ref (bcd 0), .ref bs1, .ref bs2, .ref (bd 0), .ref bg]))] ++ (ck Z ba bv2 ++ hk Z bcd (bkp2, bY2))))))) H := hP
              have hD : va_D A ([(h, .inr (7, [.ref (a 0), .ref (cd 0), .ref s1, .ref s2, .ref (d 0), .ref g]))] ++ (ck Z a v1_208 ++ (hk Z cd (kp1_208, Y1_208) ++ (rk Z d w ++ ([(bh, .inr (7, [.ref (ba 0), .ref (bcd 0), .ref bs1, .ref bs2, .ref (bd 0), .ref bg]))] ++ (ck Z ba bv2 ++ hk Z bcd (bkp2, bY2))))))) := hD
              refine zTopI (y := (nI (hh + (k_193 + 1)))) (oc0 hR208 _ _) ?_
              refine lv_iload hx hb dL_isStep_368 (lv_at hl 9 rfl) ?_
              refine lv_iload hx hb dL_isStep_370 (lv_at hl 4 rfl) ?_
              refine lv_iadd hx hb dL_isStep_372 ?_
              refine lv_icmp_ne (tgt := 380) hx hb dL_isStep_373 (by decide) (fun c373 => (c373 (nI_add hh (k_193 + 1)).symm).elim) (fun c373 => ?_)
              refine lv_iconst (v := 1) hx hb dL_isStep_376 (by decide) ?_
              refine lv_goto (tgt := 381) hx hb dL_isStep_377 (by decide) ?_
              exact W.zret hx hb hr (rfl) (zEi (v1_208, kp1_208, Y1_208, bv2, bkp2, bY2) (by
                  refine ⟨rfl, ?_⟩
                  unfold oStp
                  have hb9 := hinv222.2.1
                  rw [hke] at hb9
                  exact ⟨_, _, hR208, hb9, WI_goN hRo hWI hj117 hj159 (oBit hk_166) (k_193 + 1) (by omega), by omega, hk208, hinv222.2.2⟩) hP hD hS) hS.2.2 dL_isStep_381
          · have hk9 : k < k_193 + 1 := zNle c226 (by omega) (by omega)
            refine lv_iload hx hb dL_isStep_229 (lv_at hl 1 rfl) ?_
            refine lv_if_eq (tgt := 340) hx hb dL_isStep_231 (by decide) (fun c231 => absurd c231 (by decide)) (fun _ => ?_)
            refine lv_iload_n hx hb dL_isStep_234 rfl (lv_at hl 13 rfl) ?_
            refine lv_iload hx hb dL_isStep_235 (lv_at hl 0 rfl) ?_
            refine lv_bipush (v := 7) hx hb dL_isStep_237 (by decide) ?_
            refine lv_irem hx hb dL_isStep_239 (by decide) ?_
            refine lv_ishr hx hb dL_isStep_240 ?_
            refine lv_bipush (v := 8) hx hb dL_isStep_241 (by decide) ?_
            refine zCi (S := Nat) (ws1 := fun u => [(h, .inr (7, [.ref (a 0), .ref (cd 0), .ref s1, .ref s2, .ref (d 0), .ref g]))] ++ (ck Z a v1_208 ++ (hk Z cd (kp1_208, Y1_208) ++ (rk Z d w ++ ([(bh, .inr (7, [.ref (ba 0), .ref (bcd 0), .ref bs1, .ref bs2, .ref (bd 0), .ref bg]))] ++ (ck Z ba bv2 ++ hk Z bcd (bkp2, bY2))))))) (wr := [(h, .inr (7, [.ref (a 0), .ref (cd 0), .ref s1, .ref s2, .ref (d 0), .ref g]))] ++ (ck Z a v1_208 ++ (hk Z cd (kp1_208, Y1_208) ++ (rk Z d w ++ ([(bh, .inr (7, [.ref (ba 0), .ref (bcd 0), .ref bs1, .ref bs2, .ref (bd 0), .ref bg]))] ++ (ck Z ba bv2 ++ hk Z bcd (bkp2, bY2))))))) (va_runS (As := [.int (x >>> (((nI k) - (nI k) / 7 * 7) &&& 31)), .int 8]) (rest := []) ⟨hx, hb, hml, hown, hts⟩ (m_L_up l G Z _ (x >>> (((nI k) - (nI k) / 7 * 7) &&& 31)) 8 (by
                decide) (by
                decide)) (va_cwS 2 hts gL_isStep_L_up rfl rfl rfl (by decide +kernel) ⟨Nat.le_of_ble_eq_true rfl, Nat.le_of_ble_eq_true rfl⟩) (zPreS hK hP hD hS hA hSW [] rfl (by decide)) rfl rfl hl.1 rfl (lv_room (Nat.le_of_ble_eq_true rfl)) dL_isStep_243 ⟨Nat.le_of_ble_eq_true rfl, Nat.le_of_ble_eq_true rfl⟩) hP hD hS hA [] [0, 1, 2, 3, 4, 5, 6, 7, 8, 9, 10, 11, 12, 13, 14, 15, 16, 17, 18, 19, 20, 21, 22, 23, 24, 25, 26, 27, 28, 29, 30, 31, 32, 33, 34, 35, 36, 37, 38, 39, 40, 41, 42, 43, 44, 45, 46, 47, 48, 49, 50, 51, 52, 53, 54, 55, 56, 57, 58, 59, 60, 61, 62, 63, 64, 65, 66, 67, 68, 69, 70, 71, 72, 73, 74, 75, 76, 77, 78] [0, 1, 2, 3, 4, 5, 6, 7, 8, 9, 10, 11, 12, 13, 14, 15, 16, 17, 18, 19, 20, 21, 22, 23, 24, 25, 26, 27, 28, 29, 30, 31, 32, 33, 34, 35, 36, 37, 38, 39, 40, 41, 42, 43, 44, 45, 46, 47, 48, 49, 50, 51, 52, 53, 54, 55, 56, 57, 58, 59, 60, 61, 62, 63, 64, 65, 66, 67, 68, 69, 70, 71, 72, 73, 74, 75, 76, 77, 78] rfl rfl (by decide) (by decide) (by decide) (fun _ => rfl) (fun r243 u H locs hw243 hP hD hS => ?_)
            obtain ⟨k_243, rfl⟩ : ∃ z, z = u := ⟨_, rfl⟩
            try dsimp only at hw243
            have hP : va_P G vwCl ([(h, .inr (7, [.ref (a 0), .ref (cd 0), .ref s1, .ref s2, .ref (d 0), .ref g]))] ++ (ck Z a v1_208 ++ (hk Z cd (kp1_208, Y1_208) ++ (rk Z d w ++ ([(bh, .inr (7, [.ref (ba 0), .ref (bcd 0), .ref bs1, .ref bs2, .ref (bd 0), .ref bg]))] ++ (ck Z ba bv2 ++ hk Z bcd (bkp2, bY2))))))) H := hP
            have hD : va_D A ([(h, .inr (7, [.ref (a 0), .ref (cd 0), .ref s1, .ref s2, .ref (d 0), .ref g]))] ++ (ck Z a v1_208 ++ (hk Z cd (kp1_208, Y1_208) ++ (rk Z d w ++ ([(bh, .inr (7, [.ref (ba 0), .ref (bcd 0), .ref bs1, .ref bs2, .ref (bd 0), .ref bg]))] ++ (ck Z ba bv2 ++ hk Z bcd (bkp2, bY2))))))) := hD
            obtain ⟨rfl, hk_243⟩ := hw243
            refine lv_istore (lv' := [(14, .int (nI k_243)), (13, .int (nI k)), (12, .int 1), (11, .int (mCntN al (min hh 48) ht ar (nI k_166) k)), (10, .int (mCntN al (min hh 48) ht ar (nI k_166) (k_193 + 1))), (9, .int (nI (k_193 + 1))), (8, .int (nI k_166)), (7, .int ar), (6, .int ht), (5, .int (al 7)), (4, .int (nI hh)), (3, .int (x >>> (4 &&& 31))), (0, .ref h), (1, .ref bh), (2, .int x)]) hx hb dL_isStep_246 hl (by decide) rfl (fun ls hl => ?_)
            refine lv_aload_n hx hb dL_isStep_248 rfl (lv_at hl 13 rfl) ?_
            refine lv_iload hx hb dL_isStep_249 (lv_at hl 8 rfl) ?_
            refine lv_iload hx hb dL_isStep_251 (lv_at hl 7 rfl) ?_
            refine zCi (S := Unit) (ws1 := fun u => [(h, .inr (7, [.ref (a 0), .ref (cd 0), .ref s1, .ref s2, .ref (d 0), .ref g]))] ++ (ck Z a v1_208 ++ (hk Z cd (kp1_208, Y1_208) ++ (rk Z d w ++ ([(bh, .inr (7, [.ref (ba 0), .ref (bcd 0), .ref bs1, .ref bs2, .ref (bd 0), .ref bg]))] ++ (ck Z ba bv2 ++ hk Z bcd (bkp2, bY2))))))) (wr := [(h, .inr (7, [.ref (a 0), .ref (cd 0), .ref s1, .ref s2, .ref (d 0), .ref g]))] ++ (ck Z a v1_208 ++ (hk Z cd (kp1_208, Y1_208) ++ (rk Z d w ++ hk Z bcd (bkp2, bY2))))) (va_runV (As := [.int ht, .int ar]) (rest := []) ⟨hx, hb, hml, hown, hts⟩ (m_X7_rate l G Z _ bh ba bcd bs1 bs2 bd bg bv2 ht ar) (cwV 2 hts gL_isStep_X7_rate rfl rfl rfl (by decide +kernel) ⟨Nat.le_of_ble_eq_true rfl, Nat.le_of_ble_eq_true rfl⟩) (zPreV hK hP hD hS hA hSW [41, 42, 43, 44, 45, 46] rfl (by decide) 41 (ci := 7) rfl rfl rfl) rfl rfl hl.1 rfl (lv_room (Nat.le_of_ble_eq_true rfl)) dL_isStep_253 ⟨Nat.le_of_ble_eq_true rfl, Nat.le_of_ble_eq_true rfl⟩) hP hD hS hA [41, 42, 43, 44, 45, 46] [0, 1, 2, 3, 4, 5, 6, 7, 8, 9, 10, 11, 12, 13, 14, 15, 16, 17, 18, 19, 20, 21, 22, 23, 24, 25, 26, 27, 28, 29, 30, 31, 32, 33, 34, 35, 36, 37, 38, 39, 40, 47, 48, 49, 50, 51, 52, 53, 54, 55, 56, 57, 58, 59, 60, 61, 62, 63, 64, 65, 66, 67, 68, 69, 70, 71, 72, 73, 74, 75, 76, 77, 78] [0, 1, 2, 3, 4, 5, 6, 7, 8, 9, 10, 11, 12, 13, 14, 15, 16, 17, 18, 19, 20, 21, 22, 23, 24, 25, 26, 27, 28, 29, 30, 31, 32, 33, 34, 35, 36, 37, 38, 39, 40, 73, 74, 75, 76, 77, 78, 41, 42, 43, 44, 45, 46, 47, 48, 49, 50, 51, 52, 53, 54, 55, 56, 57, 58, 59, 60, 61, 62, 63, 64, 65, 66, 67, 68, 69, 70, 71, 72] rfl rfl (by decide) (by decide) (by decide) (fun _ => rfl) (fun r253 u H locs hw253 hP hD hS => ?_)
            try dsimp only at hw253
            subst hw253
            have hP : va_P G vwCl ([(h, .inr (7, [.ref (a 0), .ref (cd 0), .ref s1, .ref s2, .ref (d 0), .ref g]))] ++ (ck Z a v1_208 ++ (hk Z cd (kp1_208, Y1_208) ++ (rk Z d w ++ ([(bh, .inr (7, [.ref (ba 0), .ref (bcd 0), .ref bs1, .ref bs2, .ref (bd 0), .ref bg]))] ++ (ck Z ba bv2 ++ hk Z bcd (bkp2, bY2))))))) H := hP
            have hD : va_D A ([(h, .inr (7, [.ref (a 0), .ref (cd 0), .ref s1, .ref s2, .ref (d 0), .ref g]))] ++ (ck Z a v1_208 ++ (hk Z cd (kp1_208, Y1_208) ++ (rk Z d w ++ ([(bh, .inr (7, [.ref (ba 0), .ref (bcd 0), .ref bs1, .ref bs2, .ref (bd 0), .ref bg]))] ++ (ck Z ba bv2 ++ hk Z bcd (bkp2, bY2))))))) := hD
            refine zTopI (y := (cBare (mGoN al (min hh 48) ht ar (nI k_166) k) ht ar + (mGoN al (min hh 48) ht ar (nI k_166) k) 7 + 100000)) (oRate hinv222.2.1 (hj117) (hj159)) ?_
            refine lv_istore (lv' := [(15, .int (cBare (mGoN al (min hh 48) ht ar (nI k_166) k) ht ar + (mGoN al (min hh 48) ht ar (nI k_166) k) 7 + 100000)), (14, .int (nI k_243)), (13, .int (nI k)), (12, .int 1), (11, .int (mCntN al (min hh 48) ht ar (nI k_166) k)), (10, .int (mCntN al (min hh 48) ht ar (nI k_166) (k_193 + 1))), (9, .int (nI (k_193 + 1))), (8, .int (nI k_166)), (7, .int ar), (6, .int ht), (5, .int (al 7)), (4, .int (nI hh)), (3, .int (x >>> (4 &&& 31))), (0, .ref h), (1, .ref bh), (2, .int x)]) hx hb dL_isStep_256 hl (by decide) rfl (fun ls hl => ?_)
            refine lv_aload_n hx hb dL_isStep_258 rfl (lv_at hl 14 rfl) ?_
            refine lv_iload hx hb dL_isStep_259 (lv_at hl 1 rfl) ?_
            refine zCi (S := CV × Nat × HV) (ws1 := fun u => [(h, .inr (7, [.ref (a 0), .ref (cd 0), .ref s1, .ref s2, .ref (d 0), .ref g]))] ++ (ck Z a v1_208 ++ (hk Z cd (kp1_208, Y1_208) ++ (rk Z d w ++ ([(bh, .inr (7, [.ref (ba 0), .ref (bcd 0), .ref bs1, .ref bs2, .ref (bd 0), .ref bg]))] ++ (ck Z ba u.1 ++ hk Z bcd (u.2.1, u.2.2))))))) (wr := [(h, .inr (7, [.ref (a 0), .ref (cd 0), .ref s1, .ref s2, .ref (d 0), .ref g]))] ++ (ck Z a v1_208 ++ (hk Z cd (kp1_208, Y1_208) ++ rk Z d w))) (va_runV (As := [.int (nI k_243)]) (rest := []) ⟨hx, hb, hml, hown, hts⟩ (m_X7_weight l G Z _ bh ba bcd bs1 bs2 bd bg bv2 bkp2 bY2 (nI k_243) (by
                exact hinv222.2.2)) (cwV 1 hts gL_isStep_X7_weight rfl rfl rfl (by decide +kernel) ⟨Nat.le_of_ble_eq_true rfl, Nat.le_of_ble_eq_true rfl⟩) (zPreV hK hP hD hS hA hSW [41, 42, 43, 44, 45, 46, 47, 48, 49, 50, 51, 52, 53, 54, 55, 56, 57, 58, 59, 60, 61, 62, 63, 64, 65, 66, 67, 68, 69, 70, 71, 72, 73, 74, 75, 76, 77, 78] rfl (by decide) 41 (ci := 7) rfl rfl rfl) rfl rfl hl.1 rfl (lv_room (Nat.le_of_ble_eq_true rfl)) dL_isStep_261 ⟨Nat.le_of_ble_eq_true rfl, Nat.le_of_ble_eq_true rfl⟩) hP hD hS hA [41, 42, 43, 44, 45, 46, 47, 48, 49, 50, 51, 52, 53, 54, 55, 56, 57, 58, 59, 60, 61, 62, 63, 64, 65, 66, 67, 68, 69, 70, 71, 72, 73, 74, 75, 76, 77, 78] [0, 1, 2, 3, 4, 5, 6, 7, 8, 9, 10, 11, 12, 13, 14, 15, 16, 17, 18, 19, 20, 21, 22, 23, 24, 25, 26, 27, 28, 29, 30, 31, 32, 33, 34, 35, 36, 37, 38, 39, 40] [0, 1, 2, 3, 4, 5, 6, 7, 8, 9, 10, 11, 12, 13, 14, 15, 16, 17, 18, 19, 20, 21, 22, 23, 24, 25, 26, 27, 28, 29, 30, 31, 32, 33, 34, 35, 36, 37, 38, 39, 40, 41, 42, 43, 44, 45, 46, 47, 48, 49, 50, 51, 52, 53, 54, 55, 56, 57, 58, 59, 60, 61, 62, 63, 64, 65, 66, 67, 68, 69, 70, 71, 72, 73, 74, 75, 76, 77, 78] rfl rfl (by decide) (by decide) (by decide) (fun _ => rfl) (fun r261 u H locs hw261 hP hD hS => ?_)
            obtain ⟨v1_261, kp1_261, Y1_261⟩ := u
            try dsimp only at hw261
            obtain ⟨rfl, e_v1_261, e_kp1_261, e_Y1_261⟩ := hw261
            have hP : va_P G vwCl ([(h, .inr (7, [.ref (a 0), .ref (cd 0), .ref s1, .ref s2, .ref (d 0), .ref g]))] ++ (ck Z a v1_208 ++ (hk Z cd (kp1_208, Y1_208) ++ (rk Z d w ++ ([(bh, .inr (7, [.ref (ba 0), .ref (bcd 0), .ref bs1, .ref bs2, .ref (bd 0), .ref bg]))] ++ (ck Z ba v1_261 ++ hk Z bcd (kp1_261, Y1_261))))))) H := hP
            have hD : va_D A ([(h, .inr (7, [.ref (a 0), .ref (cd 0), .ref s1, .ref s2, .ref (d 0), .ref g]))] ++ (ck Z a v1_208 ++ (hk Z cd (kp1_208, Y1_208) ++ (rk Z d w ++ ([(bh, .inr (7, [.ref (ba 0), .ref (bcd 0), .ref bs1, .ref bs2, .ref (bd 0), .ref bg]))] ++ (ck Z ba v1_261 ++ hk Z bcd (kp1_261, Y1_261))))))) := hD
            have hR261 : RS v1_261 (upd (mGoN al (min hh 48) ht ar (nI k_166) k) 7 (cMvT ((mGoN al (min hh 48) ht ar (nI k_166) k) 7) (nI k_243))) (hh + k) := by
              rw [e_v1_261]
              exact (oWt hinv222.2.1 hk_243).2
            have hk261 : kp1_261 ≤ 6 := by
              rw [e_kp1_261]
              exact oKp hinv222.2.2
            refine zTopI (y := (cMvR ((mGoN al (min hh 48) ht ar (nI k_166) k) 7) (nI k_243))) ((oWt hinv222.2.1 hk_243).1) ?_
            refine lv_aload_n hx hb dL_isStep_264 rfl (lv_at hl 14 rfl) ?_
            refine lv_iload hx hb dL_isStep_265 (lv_at hl 1 rfl) ?_
            refine zCi (S := CV × Nat × HV) (ws1 := fun u => [(h, .inr (7, [.ref (a 0), .ref (cd 0), .ref s1, .ref s2, .ref (d 0), .ref g]))] ++ (ck Z a v1_208 ++ (hk Z cd (kp1_208, Y1_208) ++ (rk Z d w ++ ([(bh, .inr (7, [.ref (ba 0), .ref (bcd 0), .ref bs1, .ref bs2, .ref (bd 0), .ref bg]))] ++ (ck Z ba u.1 ++ hk Z bcd (u.2.1, u.2.2))))))) (wr := [(h, .inr (7, [.ref (a 0), .ref (cd 0), .ref s1, .ref s2, .ref (d 0), .ref g]))] ++ (ck Z a v1_208 ++ (hk Z cd (kp1_208, Y1_208) ++ rk Z d w))) (va_runV (As := [.int (nI k_243)]) (rest := [.int (cMvR ((mGoN al (min hh 48) ht ar (nI k_166) k) 7) (nI k_243))]) ⟨hx, hb, hml, hown, hts⟩ (m_X7_weight l G Z _ bh ba bcd bs1 bs2 bd bg v1_261 kp1_261 Y1_261 (nI k_243) (by
                exact hk261)) (cwV 1 hts gL_isStep_X7_weight rfl rfl rfl (by decide +kernel) ⟨Nat.le_of_ble_eq_true rfl, Nat.le_of_ble_eq_true rfl⟩) (zPreV hK hP hD hS hA hSW [41, 42, 43, 44, 45, 46, 47, 48, 49, 50, 51, 52, 53, 54, 55, 56, 57, 58, 59, 60, 61, 62, 63, 64, 65, 66, 67, 68, 69, 70, 71, 72, 73, 74, 75, 76, 77, 78] rfl (by decide) 41 (ci := 7) rfl rfl rfl) rfl rfl hl.1 rfl (lv_room (Nat.le_of_ble_eq_true rfl)) dL_isStep_267 ⟨Nat.le_of_ble_eq_true rfl, Nat.le_of_ble_eq_true rfl⟩) hP hD hS hA [41, 42, 43, 44, 45, 46, 47, 48, 49, 50, 51, 52, 53, 54, 55, 56, 57, 58, 59, 60, 61, 62, 63, 64, 65, 66, 67, 68, 69, 70, 71, 72, 73, 74, 75, 76, 77, 78] [0, 1, 2, 3, 4, 5, 6, 7, 8, 9, 10, 11, 12, 13, 14, 15, 16, 17, 18, 19, 20, 21, 22, 23, 24, 25, 26, 27, 28, 29, 30, 31, 32, 33, 34, 35, 36, 37, 38, 39, 40] [0, 1, 2, 3, 4, 5, 6, 7, 8, 9, 10, 11, 12, 13, 14, 15, 16, 17, 18, 19, 20, 21, 22, 23, 24, 25, 26, 27, 28, 29, 30, 31, 32, 33, 34, 35, 36, 37, 38, 39, 40, 41, 42, 43, 44, 45, 46, 47, 48, 49, 50, 51, 52, 53, 54, 55, 56, 57, 58, 59, 60, 61, 62, 63, 64, 65, 66, 67, 68, 69, 70, 71, 72, 73, 74, 75, 76, 77, 78] rfl rfl (by decide) (by decide) (by decide) (fun _ => rfl) (fun r267 u H locs hw267 hP hD hS => ?_)
            obtain ⟨v1_267, kp1_267, Y1_267⟩ := u
            try dsimp only at hw267
            obtain ⟨rfl, e_v1_267, e_kp1_267, e_Y1_267⟩ := hw267
            have hP : va_P G vwCl ([(h, .inr (7, [.ref (a 0), .ref (cd 0), .ref s1, .ref s2, .ref (d 0), .ref g]))] ++ (ck Z a v1_208 ++ (hk Z cd (kp1_208, Y1_208) ++ (rk Z d w ++ ([(bh, .inr (7, [.ref (ba 0), .ref (bcd 0), .ref bs1, .ref bs2, .ref (bd 0), .ref bg]))] ++ (ck Z ba v1_267 ++ hk Z bcd (kp1_267, Y1_267))))))) H := hP
            have hD : va_D A ([(h, .inr (7, [.ref (a 0), .ref (cd 0), .ref s1, .ref s2, .ref (d 0), .ref g]))] ++ (ck Z a v1_208 ++ (hk Z cd (kp1_208, Y1_208) ++ (rk Z d w ++ ([(bh, .inr (7, [.ref (ba 0), .ref (bcd 0), .ref bs1, .ref bs2, .ref (bd 0), .ref bg]))] ++ (ck Z ba v1_267 ++ hk Z bcd (kp1_267, Y1_267))))))) := hD
            have hR267 : RS v1_267 (mGoN al (min hh 48) ht ar (nI k_166) k) (hh + k) := by
              rw [e_v1_267]
              have hx9 := (oWt hR261 hk_243).2
              rw [updBack] at hx9
              exact hx9
            have hk267 : kp1_267 ≤ 6 := by
              rw [e_kp1_267]
              exact oKp hk261
            refine zTopI (y := (cMvR ((upd (mGoN al (min hh 48) ht ar (nI k_166) k) 7 (cMvT ((mGoN al (min hh 48) ht ar (nI k_166) k) 7) (nI k_243))) 7) (nI k_243))) ((oWt hR261 hk_243).1) ?_
            refine lv_iadd hx hb dL_isStep_270 ?_
            refine zTopI (y := 1) (oSum hinv222.2.1 hk_243) ?_
            refine lv_iconst (v := 1) hx hb dL_isStep_271 (by decide) ?_
            refine lv_icmp_ne (tgt := 292) hx hb dL_isStep_272 (by decide) (fun c272 => absurd c272 (by decide)) (fun _ => ?_)
            refine lv_iload hx hb dL_isStep_275 (lv_at hl 0 rfl) ?_
            refine lv_aload_n hx hb dL_isStep_277 rfl (lv_at hl 14 rfl) ?_
            refine lv_iload hx hb dL_isStep_278 (lv_at hl 9 rfl) ?_
            refine lv_iload hx hb dL_isStep_280 (lv_at hl 8 rfl) ?_
            refine zCi (S := Unit) (ws1 := fun u => [(h, .inr (7, [.ref (a 0), .ref (cd 0), .ref s1, .ref s2, .ref (d 0), .ref g]))] ++ (ck Z a v1_208 ++ (hk Z cd (kp1_208, Y1_208) ++ (rk Z d w ++ ([(bh, .inr (7, [.ref (ba 0), .ref (bcd 0), .ref bs1, .ref bs2, .ref (bd 0), .ref bg]))] ++ (ck Z ba v1_267 ++ hk Z bcd (kp1_267, Y1_267))))))) (wr := [(h, .inr (7, [.ref (a 0), .ref (cd 0), .ref s1, .ref s2, .ref (d 0), .ref g]))] ++ (ck Z a v1_208 ++ (hk Z cd (kp1_208, Y1_208) ++ (rk Z d w ++ hk Z bcd (kp1_267, Y1_267))))) (va_runV (As := [.int ht, .int ar]) (rest := [.int (cBare (mGoN al (min hh 48) ht ar (nI k_166) k) ht ar + (mGoN al (min hh 48) ht ar (nI k_166) k) 7 + 100000)]) ⟨hx, hb, hml, hown, hts⟩ (m_X7_rate l G Z _ bh ba bcd bs1 bs2 bd bg v1_267 ht ar) (cwV 2 hts gL_isStep_X7_rate rfl rfl rfl (by decide +kernel) ⟨Nat.le_of_ble_eq_true rfl, Nat.le_of_ble_eq_true rfl⟩) (zPreV hK hP hD hS hA hSW [41, 42, 43, 44, 45, 46] rfl (by decide) 41 (ci := 7) rfl rfl rfl) rfl rfl hl.1 rfl (lv_room (Nat.le_of_ble_eq_true rfl)) dL_isStep_282 ⟨Nat.le_of_ble_eq_true rfl, Nat.le_of_ble_eq_true rfl⟩) hP hD hS hA [41, 42, 43, 44, 45, 46] [0, 1, 2, 3, 4, 5, 6, 7, 8, 9, 10, 11, 12, 13, 14, 15, 16, 17, 18, 19, 20, 21, 22, 23, 24, 25, 26, 27, 28, 29, 30, 31, 32, 33, 34, 35, 36, 37, 38, 39, 40, 47, 48, 49, 50, 51, 52, 53, 54, 55, 56, 57, 58, 59, 60, 61, 62, 63, 64, 65, 66, 67, 68, 69, 70, 71, 72, 73, 74, 75, 76, 77, 78] [0, 1, 2, 3, 4, 5, 6, 7, 8, 9, 10, 11, 12, 13, 14, 15, 16, 17, 18, 19, 20, 21, 22, 23, 24, 25, 26, 27, 28, 29, 30, 31, 32, 33, 34, 35, 36, 37, 38, 39, 40, 73, 74, 75, 76, 77, 78, 41, 42, 43, 44, 45, 46, 47, 48, 49, 50, 51, 52, 53, 54, 55, 56, 57, 58, 59, 60, 61, 62, 63, 64, 65, 66, 67, 68, 69, 70, 71, 72] rfl rfl (by decide) (by decide) (by decide) (fun _ => rfl) (fun r282 u H locs hw282 hP hD hS => ?_)
            try dsimp only at hw282
            subst hw282
            have hP : va_P G vwCl ([(h, .inr (7, [.ref (a 0), .ref (cd 0), .ref s1, .ref s2, .ref (d 0), .ref g]))] ++ (ck Z a v1_208 ++ (hk Z cd (kp1_208, Y1_208) ++ (rk Z d w ++ ([(bh, .inr (7, [.ref (ba 0), .ref (bcd 0), .ref bs1, .ref bs2, .ref (bd 0), .ref bg]))] ++ (ck Z ba v1_267 ++ hk Z bcd (kp1_267, Y1_267))))))) H := hP
            have hD : va_D A ([(h, .inr (7, [.ref (a 0), .ref (cd 0), .ref s1, .ref s2, .ref (d 0), .ref g]))] ++ (ck Z a v1_208 ++ (hk Z cd (kp1_208, Y1_208) ++ (rk Z d w ++ ([(bh, .inr (7, [.ref (ba 0), .ref (bcd 0), .ref bs1, .ref bs2, .ref (bd 0), .ref bg]))] ++ (ck Z ba v1_267 ++ hk Z bcd (kp1_267, Y1_267))))))) := hD
            refine zTopI (y := (cBare (mGoN al (min hh 48) ht ar (nI k_166) k) ht ar + (mGoN al (min hh 48) ht ar (nI k_166) k) 7 + 100000)) (oRate hR267 (hj117) (hj159)) ?_
            refine lv_icmp_ne (tgt := 292) hx hb dL_isStep_285 (by decide) (fun c285 => (c285 rfl).elim) (fun c285 => ?_)
            refine lv_iconst (v := 1) hx hb dL_isStep_288 (by decide) ?_
            refine lv_goto (tgt := 293) hx hb dL_isStep_289 (by decide) ?_
            refine lv_istore (lv' := [(12, .int 1), (15, .int (cBare (mGoN al (min hh 48) ht ar (nI k_166) k) ht ar + (mGoN al (min hh 48) ht ar (nI k_166) k) 7 + 100000)), (14, .int (nI k_243)), (13, .int (nI k)), (11, .int (mCntN al (min hh 48) ht ar (nI k_166) k)), (10, .int (mCntN al (min hh 48) ht ar (nI k_166) (k_193 + 1))), (9, .int (nI (k_193 + 1))), (8, .int (nI k_166)), (7, .int ar), (6, .int ht), (5, .int (al 7)), (4, .int (nI hh)), (3, .int (x >>> (4 &&& 31))), (0, .ref h), (1, .ref bh), (2, .int x)]) hx hb dL_isStep_293 hl (by decide) rfl (fun ls hl => ?_)
            refine lv_iload hx hb dL_isStep_295 (lv_at hl 4 rfl) ?_
            refine lv_aload_n hx hb dL_isStep_297 rfl (lv_at hl 14 rfl) ?_
            refine lv_iload hx hb dL_isStep_298 (lv_at hl 9 rfl) ?_
            refine lv_iload hx hb dL_isStep_300 (lv_at hl 8 rfl) ?_
            refine lv_iload hx hb dL_isStep_302 (lv_at hl 7 rfl) ?_
            refine lv_iconst (v := 1) hx hb dL_isStep_304 (by decide) ?_
            refine zTopI (y := (nI 1)) (rfl) ?_
            refine zCi (S := CV × Nat × HV) (ws1 := fun u => [(h, .inr (7, [.ref (a 0), .ref (cd 0), .ref s1, .ref s2, .ref (d 0), .ref g]))] ++ (ck Z a v1_208 ++ (hk Z cd (kp1_208, Y1_208) ++ (rk Z d w ++ ([(bh, .inr (7, [.ref (ba 0), .ref (bcd 0), .ref bs1, .ref bs2, .ref (bd 0), .ref bg]))] ++ (ck Z ba u.1 ++ hk Z bcd (u.2.1, u.2.2))))))) (wr := [(h, .inr (7, [.ref (a 0), .ref (cd 0), .ref s1, .ref s2, .ref (d 0), .ref g]))] ++ (ck Z a v1_208 ++ (hk Z cd (kp1_208, Y1_208) ++ rk Z d w))) (va_runV (As := [.int ht, .int ar, .int (nI k_166), .int (nI 1)]) (rest := [.int (mCntN al (min hh 48) ht ar (nI k_166) k)]) ⟨hx, hb, hml, hown, hts⟩ (m_X7_pass l G Z _ bh ba bcd bs1 bs2 bd bg v1_267 kp1_267 Y1_267 ht ar (nI k_166) (nI 1) (by
                exact hk267)) (cwV 4 hts gL_isStep_X7_pass rfl rfl rfl (by decide +kernel) ⟨Nat.le_of_ble_eq_true rfl, Nat.le_of_ble_eq_true rfl⟩) (zPreV hK hP hD hS hA hSW [41, 42, 43, 44, 45, 46, 47, 48, 49, 50, 51, 52, 53, 54, 55, 56, 57, 58, 59, 60, 61, 62, 63, 64, 65, 66, 67, 68, 69, 70, 71, 72, 73, 74, 75, 76, 77, 78] rfl (by decide) 41 (ci := 7) rfl rfl rfl) rfl rfl hl.1 rfl (lv_room (Nat.le_of_ble_eq_true rfl)) dL_isStep_305 ⟨Nat.le_of_ble_eq_true rfl, Nat.le_of_ble_eq_true rfl⟩) hP hD hS hA [41, 42, 43, 44, 45, 46, 47, 48, 49, 50, 51, 52, 53, 54, 55, 56, 57, 58, 59, 60, 61, 62, 63, 64, 65, 66, 67, 68, 69, 70, 71, 72, 73, 74, 75, 76, 77, 78] [0, 1, 2, 3, 4, 5, 6, 7, 8, 9, 10, 11, 12, 13, 14, 15, 16, 17, 18, 19, 20, 21, 22, 23, 24, 25, 26, 27, 28, 29, 30, 31, 32, 33, 34, 35, 36, 37, 38, 39, 40] [0, 1, 2, 3, 4, 5, 6, 7, 8, 9, 10, 11, 12, 13, 14, 15, 16, 17, 18, 19, 20, 21, 22, 23, 24, 25, 26, 27, 28, 29, 30, 31, 32, 33, 34, 35, 36, 37, 38, 39, 40, 41, 42, 43, 44, 45, 46, 47, 48, 49, 50, 51, 52, 53, 54, 55, 56, 57, 58, 59, 60, 61, 62, 63, 64, 65, 66, 67, 68, 69, 70, 71, 72, 73, 74, 75, 76, 77, 78] rfl rfl (by decide) (by decide) (by decide) (fun _ => rfl) (fun r305 u H locs hw305 hP hD hS => ?_)
            obtain ⟨v1_305, kp1_305, Y1_305⟩ := u
            try dsimp only at hw305
            obtain ⟨rfl, e_v1_305, e_kp1_305, e_Y1_305⟩ := hw305
            have hP : va_P G vwCl ([(h, .inr (7, [.ref (a 0), .ref (cd 0), .ref s1, .ref s2, .ref (d 0), .ref g]))] ++ (ck Z a v1_208 ++ (hk Z cd (kp1_208, Y1_208) ++ (rk Z d w ++ ([(bh, .inr (7, [.ref (ba 0), .ref (bcd 0), .ref bs1, .ref bs2, .ref (bd 0), .ref bg]))] ++ (ck Z ba v1_305 ++ hk Z bcd (kp1_305, Y1_305))))))) H := hP
            have hD : va_D A ([(h, .inr (7, [.ref (a 0), .ref (cd 0), .ref s1, .ref s2, .ref (d 0), .ref g]))] ++ (ck Z a v1_208 ++ (hk Z cd (kp1_208, Y1_208) ++ (rk Z d w ++ ([(bh, .inr (7, [.ref (ba 0), .ref (bcd 0), .ref bs1, .ref bs2, .ref (bd 0), .ref bg]))] ++ (ck Z ba v1_305 ++ hk Z bcd (kp1_305, Y1_305))))))) := hD
            have hR305 : RS v1_305 (mGoN al (min hh 48) ht ar (nI k_166) (k + 1)) (hh + (k + 1)) := by
              rw [e_v1_305]
              have hx9 := (oPass hR267 hj117 hj159 (oBit hk_166) (n := 1) (by decide) (by decide) (by omega)).2
              rw [oStep1] at hx9
              exact hx9
            have hk305 : kp1_305 ≤ 6 := by
              rw [e_kp1_305]
              exact oKp hk267
            refine zTopI (y := (mCntN (mGoN al (min hh 48) ht ar (nI k_166) k) (min (hh + k) 48) ht ar (nI k_166) 1)) ((oPass hR267 hj117 hj159 (oBit hk_166) (n := 1) (by decide) (by decide) (by omega)).1) ?_
            refine lv_iadd hx hb dL_isStep_308 ?_
            refine zTopI (y := (mCntN al (min hh 48) ht ar (nI k_166) (k + 1))) (oCnt1 al hh k ht ar (nI k_166)) ?_
            refine lv_istore (lv' := [(11, .int (mCntN al (min hh 48) ht ar (nI k_166) (k + 1))), (12, .int 1), (15, .int (cBare (mGoN al (min hh 48) ht ar (nI k_166) k) ht ar + (mGoN al (min hh 48) ht ar (nI k_166) k) 7 + 100000)), (14, .int (nI k_243)), (13, .int (nI k)), (10, .int (mCntN al (min hh 48) ht ar (nI k_166) (k_193 + 1))), (9, .int (nI (k_193 + 1))), (8, .int (nI k_166)), (7, .int ar), (6, .int ht), (5, .int (al 7)), (4, .int (nI hh)), (3, .int (x >>> (4 &&& 31))), (0, .ref h), (1, .ref bh), (2, .int x)]) hx hb dL_isStep_309 hl (by decide) rfl (fun ls hl => ?_)
            refine lv_iload hx hb dL_isStep_311 (lv_at hl 1 rfl) ?_
            refine lv_if_eq (tgt := 331) hx hb dL_isStep_313 (by decide) (fun c313 => absurd c313 (by decide)) (fun _ => ?_)
            refine lv_aload_n hx hb dL_isStep_316 rfl (lv_at hl 14 rfl) ?_
            refine lv_iconst (v := 0) hx hb dL_isStep_317 (by decide) ?_
            refine lv_iconst (v := 3) hx hb dL_isStep_318 (by decide) ?_
            refine zCi (S := Unit) (ws1 := fun u => [(h, .inr (7, [.ref (a 0), .ref (cd 0), .ref s1, .ref s2, .ref (d 0), .ref g]))] ++ (ck Z a v1_208 ++ (hk Z cd (kp1_208, Y1_208) ++ (rk Z d w ++ ([(bh, .inr (7, [.ref (ba 0), .ref (bcd 0), .ref bs1, .ref bs2, .ref (bd 0), .ref bg]))] ++ (ck Z ba v1_305 ++ hk Z bcd (kp1_305, Y1_305))))))) (wr := [(h, .inr (7, [.ref (a 0), .ref (cd 0), .ref s1, .ref s2, .ref (d 0), .ref g]))] ++ (ck Z a v1_208 ++ (hk Z cd (kp1_208, Y1_208) ++ (rk Z d w ++ hk Z bcd (kp1_305, Y1_305))))) (va_runV (As := [.int 0, .int 3]) (rest := []) ⟨hx, hb, hml, hown, hts⟩ (m_X7_hour l G Z _ bh ba bcd bs1 bs2 bd bg v1_305 0 3) (cwV 2 hts gL_isStep_X7_hour rfl rfl rfl (by decide +kernel) ⟨Nat.le_of_ble_eq_true rfl, Nat.le_of_ble_eq_true rfl⟩) (zPreV hK hP hD hS hA hSW [41, 42, 43, 44, 45, 46] rfl (by decide) 41 (ci := 7) rfl rfl rfl) rfl rfl hl.1 rfl (lv_room (Nat.le_of_ble_eq_true rfl)) dL_isStep_319 ⟨Nat.le_of_ble_eq_true rfl, Nat.le_of_ble_eq_true rfl⟩) hP hD hS hA [41, 42, 43, 44, 45, 46] [0, 1, 2, 3, 4, 5, 6, 7, 8, 9, 10, 11, 12, 13, 14, 15, 16, 17, 18, 19, 20, 21, 22, 23, 24, 25, 26, 27, 28, 29, 30, 31, 32, 33, 34, 35, 36, 37, 38, 39, 40, 47, 48, 49, 50, 51, 52, 53, 54, 55, 56, 57, 58, 59, 60, 61, 62, 63, 64, 65, 66, 67, 68, 69, 70, 71, 72, 73, 74, 75, 76, 77, 78] [0, 1, 2, 3, 4, 5, 6, 7, 8, 9, 10, 11, 12, 13, 14, 15, 16, 17, 18, 19, 20, 21, 22, 23, 24, 25, 26, 27, 28, 29, 30, 31, 32, 33, 34, 35, 36, 37, 38, 39, 40, 73, 74, 75, 76, 77, 78, 41, 42, 43, 44, 45, 46, 47, 48, 49, 50, 51, 52, 53, 54, 55, 56, 57, 58, 59, 60, 61, 62, 63, 64, 65, 66, 67, 68, 69, 70, 71, 72] rfl rfl (by decide) (by decide) (by decide) (fun _ => rfl) (fun r319 u H locs hw319 hP hD hS => ?_)
            try dsimp only at hw319
            subst hw319
            have hP : va_P G vwCl ([(h, .inr (7, [.ref (a 0), .ref (cd 0), .ref s1, .ref s2, .ref (d 0), .ref g]))] ++ (ck Z a v1_208 ++ (hk Z cd (kp1_208, Y1_208) ++ (rk Z d w ++ ([(bh, .inr (7, [.ref (ba 0), .ref (bcd 0), .ref bs1, .ref bs2, .ref (bd 0), .ref bg]))] ++ (ck Z ba v1_305 ++ hk Z bcd (kp1_305, Y1_305))))))) H := hP
            have hD : va_D A ([(h, .inr (7, [.ref (a 0), .ref (cd 0), .ref s1, .ref s2, .ref (d 0), .ref g]))] ++ (ck Z a v1_208 ++ (hk Z cd (kp1_208, Y1_208) ++ (rk Z d w ++ ([(bh, .inr (7, [.ref (ba 0), .ref (bcd 0), .ref bs1, .ref bs2, .ref (bd 0), .ref bg]))] ++ (ck Z ba v1_305 ++ hk Z bcd (kp1_305, Y1_305))))))) := hD
            refine zTopI (y := (cBare (mGoN al (min hh 48) ht ar (nI k_166) k) ht ar + (mGoN al (min hh 48) ht ar (nI k_166) k) 7 + 100000)) (oNew hR305) ?_
            refine lv_iload hx hb dL_isStep_322 (lv_at hl 2 rfl) ?_
            refine lv_icmp_ne (tgt := 331) hx hb dL_isStep_324 (by decide) (fun c324 => (c324 rfl).elim) (fun c324 => ?_)
            refine lv_iconst (v := 1) hx hb dL_isStep_327 (by decide) ?_
            refine lv_goto (tgt := 332) hx hb dL_isStep_328 (by decide) ?_
            refine lv_istore (lv' := [(12, .int 1), (11, .int (mCntN al (min hh 48) ht ar (nI k_166) (k + 1))), (15, .int (cBare (mGoN al (min hh 48) ht ar (nI k_166) k) ht ar + (mGoN al (min hh 48) ht ar (nI k_166) k) 7 + 100000)), (14, .int (nI k_243)), (13, .int (nI k)), (10, .int (mCntN al (min hh 48) ht ar (nI k_166) (k_193 + 1))), (9, .int (nI (k_193 + 1))), (8, .int (nI k_166)), (7, .int ar), (6, .int ht), (5, .int (al 7)), (4, .int (nI hh)), (3, .int (x >>> (4 &&& 31))), (0, .ref h), (1, .ref bh), (2, .int x)]) hx hb dL_isStep_332 hl (by decide) rfl (fun ls hl => ?_)
            refine lv_iinc (v := (nI (k + 1))) (lv' := [(13, .int (nI (k + 1))), (12, .int 1), (11, .int (mCntN al (min hh 48) ht ar (nI k_166) (k + 1))), (15, .int (cBare (mGoN al (min hh 48) ht ar (nI k_166) k) ht ar + (mGoN al (min hh 48) ht ar (nI k_166) k) 7 + 100000)), (14, .int (nI k_243)), (10, .int (mCntN al (min hh 48) ht ar (nI k_166) (k_193 + 1))), (9, .int (nI (k_193 + 1))), (8, .int (nI k_166)), (7, .int ar), (6, .int ht), (5, .int (al 7)), (4, .int (nI hh)), (3, .int (x >>> (4 &&& 31))), (0, .ref h), (1, .ref bh), (2, .int x)]) hx hb dL_isStep_334 hl (k := 4) rfl (nI_succ k).symm (by decide) rfl (fun ls hl => ?_)
            refine lv_goto (tgt := 222) hx hb dL_isStep_337 (by decide) ?_
            exact ih222 ((k + 1), v1_305, kp1_305, Y1_305) (by
                try dsimp only
                have h9 := zNle c226 (by omega) (by omega)
                exact ⟨by omega, hR305, hk305⟩) (by
                try dsimp only
                have h9 := zNle c226 (by omega) (by omega)
                omega) _ _ _ hP hD hS (lv_sub hl [0, 1, 2, 5, 6, 7, 8, 9, 10, 11, 12, 13, 14, 15] rfl)
        · intro K193
          refine lv_iload_n hx hb dL_isStep_176 rfl (lv_at hl 5 rfl) ?_
          refine lv_bipush (v := 11) hx hb dL_isStep_177 (by decide) ?_
          refine lv_ishr hx hb dL_isStep_179 ?_
          refine lv_iconst (v := 3) hx hb dL_isStep_180 (by decide) ?_
          refine zCi (S := Nat) (ws1 := fun u => [(h, .inr (7, [.ref (a 0), .ref (cd 0), .ref s1, .ref s2, .ref (d 0), .ref g]))] ++ (ck Z a v ++ (hk Z cd (kp, Y) ++ (rk Z d w ++ ([(bh, .inr (7, [.ref (ba 0), .ref (bcd 0), .ref bs1, .ref bs2, .ref (bd 0), .ref bg]))] ++ (ck Z ba bv ++ hk Z bcd (bkp, bY))))))) (wr := [(h, .inr (7, [.ref (a 0), .ref (cd 0), .ref s1, .ref s2, .ref (d 0), .ref g]))] ++ (ck Z a v ++ (hk Z cd (kp, Y) ++ (rk Z d w ++ ([(bh, .inr (7, [.ref (ba 0), .ref (bcd 0), .ref bs1, .ref bs2, .ref (bd 0), .ref bg]))] ++ (ck Z ba bv ++ hk Z bcd (bkp, bY))))))) (va_runS (As := [.int ((x >>> (4 &&& 31)) >>> (11 &&& 31)), .int 3]) (rest := [.int ((x >>> (4 &&& 31)) >>> (12 &&& 31)), .int 1]) ⟨hx, hb, hml, hown, hts⟩ (m_L_up l G Z _ ((x >>> (4 &&& 31)) >>> (11 &&& 31)) 3 (by
              decide) (by
              decide)) (va_cwS 2 hts gL_isStep_L_up rfl rfl rfl (by decide +kernel) ⟨Nat.le_of_ble_eq_true rfl, Nat.le_of_ble_eq_true rfl⟩) (zPreS hK hP hD hS hA hSW [] rfl (by decide)) rfl rfl hl.1 rfl (lv_room (Nat.le_of_ble_eq_true rfl)) dL_isStep_181 ⟨Nat.le_of_ble_eq_true rfl, Nat.le_of_ble_eq_true rfl⟩) hP hD hS hA [] [0, 1, 2, 3, 4, 5, 6, 7, 8, 9, 10, 11, 12, 13, 14, 15, 16, 17, 18, 19, 20, 21, 22, 23, 24, 25, 26, 27, 28, 29, 30, 31, 32, 33, 34, 35, 36, 37, 38, 39, 40, 41, 42, 43, 44, 45, 46, 47, 48, 49, 50, 51, 52, 53, 54, 55, 56, 57, 58, 59, 60, 61, 62, 63, 64, 65, 66, 67, 68, 69, 70, 71, 72, 73, 74, 75, 76, 77, 78] [0, 1, 2, 3, 4, 5, 6, 7, 8, 9, 10, 11, 12, 13, 14, 15, 16, 17, 18, 19, 20, 21, 22, 23, 24, 25, 26, 27, 28, 29, 30, 31, 32, 33, 34, 35, 36, 37, 38, 39, 40, 41, 42, 43, 44, 45, 46, 47, 48, 49, 50, 51, 52, 53, 54, 55, 56, 57, 58, 59, 60, 61, 62, 63, 64, 65, 66, 67, 68, 69, 70, 71, 72, 73, 74, 75, 76, 77, 78] rfl rfl (by decide) (by decide) (by decide) (fun _ => rfl) (fun r181 u H locs hw181 hP hD hS => ?_)
          obtain ⟨k_181, rfl⟩ : ∃ z, z = u := ⟨_, rfl⟩
          try dsimp only at hw181
          have hP : va_P G vwCl ([(h, .inr (7, [.ref (a 0), .ref (cd 0), .ref s1, .ref s2, .ref (d 0), .ref g]))] ++ (ck Z a v ++ (hk Z cd (kp, Y) ++ (rk Z d w ++ ([(bh, .inr (7, [.ref (ba 0), .ref (bcd 0), .ref bs1, .ref bs2, .ref (bd 0), .ref bg]))] ++ (ck Z ba bv ++ hk Z bcd (bkp, bY))))))) H := hP
          have hD : va_D A ([(h, .inr (7, [.ref (a 0), .ref (cd 0), .ref s1, .ref s2, .ref (d 0), .ref g]))] ++ (ck Z a v ++ (hk Z cd (kp, Y) ++ (rk Z d w ++ ([(bh, .inr (7, [.ref (ba 0), .ref (bcd 0), .ref bs1, .ref bs2, .ref (bd 0), .ref bg]))] ++ (ck Z ba bv ++ hk Z bcd (bkp, bY))))))) := hD
          obtain ⟨rfl, hk_181⟩ := hw181
          refine lv_if_ne (tgt := 192) hx hb dL_isStep_184 (by decide) (fun c184 => ?_) (fun c184 => ?_)
          · refine lv_iconst (v := 3) hx hb dL_isStep_192 (by decide) ?_
            exact K193 3 (by
                try dsimp only
                decide) _ _ _ hP hD hS (lv_sub hl [0, 1, 2, 3, 4, 5, 6, 7, 8] rfl)
          · refine lv_bipush (v := 30) hx hb dL_isStep_187 (by decide) ?_
            refine lv_goto (tgt := 193) hx hb dL_isStep_189 (by decide) ?_
            exact K193 30 (by
                try dsimp only
                decide) _ _ _ hP hD hS (lv_sub hl [0, 1, 2, 3, 4, 5, 6, 7, 8] rfl)
      · intro K159
        refine lv_iload_n hx hb dL_isStep_119 rfl (lv_at hl 3 rfl) ?_
        refine lv_iconst (v := 5) hx hb dL_isStep_120 (by decide) ?_
        refine lv_ishr hx hb dL_isStep_121 ?_
        refine lv_iconst (v := 3) hx hb dL_isStep_122 (by decide) ?_
        refine zCi (S := Nat) (ws1 := fun u => [(h, .inr (7, [.ref (a 0), .ref (cd 0), .ref s1, .ref s2, .ref (d 0), .ref g]))] ++ (ck Z a v ++ (hk Z cd (kp, Y) ++ (rk Z d w ++ ([(bh, .inr (7, [.ref (ba 0), .ref (bcd 0), .ref bs1, .ref bs2, .ref (bd 0), .ref bg]))] ++ (ck Z ba bv ++ hk Z bcd (bkp, bY))))))) (wr := [(h, .inr (7, [.ref (a 0), .ref (cd 0), .ref s1, .ref s2, .ref (d 0), .ref g]))] ++ (ck Z a v ++ (hk Z cd (kp, Y) ++ (rk Z d w ++ ([(bh, .inr (7, [.ref (ba 0), .ref (bcd 0), .ref bs1, .ref bs2, .ref (bd 0), .ref bg]))] ++ (ck Z ba bv ++ hk Z bcd (bkp, bY))))))) (va_runS (As := [.int ((x >>> (4 &&& 31)) >>> (5 &&& 31)), .int 3]) (rest := []) ⟨hx, hb, hml, hown, hts⟩ (m_L_up l G Z _ ((x >>> (4 &&& 31)) >>> (5 &&& 31)) 3 (by
            decide) (by
            decide)) (va_cwS 2 hts gL_isStep_L_up rfl rfl rfl (by decide +kernel) ⟨Nat.le_of_ble_eq_true rfl, Nat.le_of_ble_eq_true rfl⟩) (zPreS hK hP hD hS hA hSW [] rfl (by decide)) rfl rfl hl.1 rfl (lv_room (Nat.le_of_ble_eq_true rfl)) dL_isStep_123 ⟨Nat.le_of_ble_eq_true rfl, Nat.le_of_ble_eq_true rfl⟩) hP hD hS hA [] [0, 1, 2, 3, 4, 5, 6, 7, 8, 9, 10, 11, 12, 13, 14, 15, 16, 17, 18, 19, 20, 21, 22, 23, 24, 25, 26, 27, 28, 29, 30, 31, 32, 33, 34, 35, 36, 37, 38, 39, 40, 41, 42, 43, 44, 45, 46, 47, 48, 49, 50, 51, 52, 53, 54, 55, 56, 57, 58, 59, 60, 61, 62, 63, 64, 65, 66, 67, 68, 69, 70, 71, 72, 73, 74, 75, 76, 77, 78] [0, 1, 2, 3, 4, 5, 6, 7, 8, 9, 10, 11, 12, 13, 14, 15, 16, 17, 18, 19, 20, 21, 22, 23, 24, 25, 26, 27, 28, 29, 30, 31, 32, 33, 34, 35, 36, 37, 38, 39, 40, 41, 42, 43, 44, 45, 46, 47, 48, 49, 50, 51, 52, 53, 54, 55, 56, 57, 58, 59, 60, 61, 62, 63, 64, 65, 66, 67, 68, 69, 70, 71, 72, 73, 74, 75, 76, 77, 78] rfl rfl (by decide) (by decide) (by decide) (fun _ => rfl) (fun r123 u H locs hw123 hP hD hS => ?_)
        obtain ⟨k_123, rfl⟩ : ∃ z, z = u := ⟨_, rfl⟩
        try dsimp only at hw123
        have hP : va_P G vwCl ([(h, .inr (7, [.ref (a 0), .ref (cd 0), .ref s1, .ref s2, .ref (d 0), .ref g]))] ++ (ck Z a v ++ (hk Z cd (kp, Y) ++ (rk Z d w ++ ([(bh, .inr (7, [.ref (ba 0), .ref (bcd 0), .ref bs1, .ref bs2, .ref (bd 0), .ref bg]))] ++ (ck Z ba bv ++ hk Z bcd (bkp, bY))))))) H := hP
        have hD : va_D A ([(h, .inr (7, [.ref (a 0), .ref (cd 0), .ref s1, .ref s2, .ref (d 0), .ref g]))] ++ (ck Z a v ++ (hk Z cd (kp, Y) ++ (rk Z d w ++ ([(bh, .inr (7, [.ref (ba 0), .ref (bcd 0), .ref bs1, .ref bs2, .ref (bd 0), .ref bg]))] ++ (ck Z ba bv ++ hk Z bcd (bkp, bY))))))) := hD
        obtain ⟨rfl, hk_123⟩ := hw123
        refine lv_if_ne (tgt := 146) hx hb dL_isStep_126 (by decide) (fun c126 => ?_) (fun c126 => ?_)
        · refine lv_sipush (v := 990) hx hb dL_isStep_146 (by decide) ?_
          refine lv_iload_n hx hb dL_isStep_149 rfl (lv_at hl 3 rfl) ?_
          refine lv_bipush (v := 6) hx hb dL_isStep_150 (by decide) ?_
          refine lv_ishr hx hb dL_isStep_152 ?_
          refine lv_bipush (v := 22) hx hb dL_isStep_153 (by decide) ?_
          refine zCi (S := Nat) (ws1 := fun u => [(h, .inr (7, [.ref (a 0), .ref (cd 0), .ref s1, .ref s2, .ref (d 0), .ref g]))] ++ (ck Z a v ++ (hk Z cd (kp, Y) ++ (rk Z d w ++ ([(bh, .inr (7, [.ref (ba 0), .ref (bcd 0), .ref bs1, .ref bs2, .ref (bd 0), .ref bg]))] ++ (ck Z ba bv ++ hk Z bcd (bkp, bY))))))) (wr := [(h, .inr (7, [.ref (a 0), .ref (cd 0), .ref s1, .ref s2, .ref (d 0), .ref g]))] ++ (ck Z a v ++ (hk Z cd (kp, Y) ++ (rk Z d w ++ ([(bh, .inr (7, [.ref (ba 0), .ref (bcd 0), .ref bs1, .ref bs2, .ref (bd 0), .ref bg]))] ++ (ck Z ba bv ++ hk Z bcd (bkp, bY))))))) (va_runS (As := [.int ((x >>> (4 &&& 31)) >>> (6 &&& 31)), .int 22]) (rest := [.int 990]) ⟨hx, hb, hml, hown, hts⟩ (m_L_up l G Z _ ((x >>> (4 &&& 31)) >>> (6 &&& 31)) 22 (by
              decide) (by
              decide)) (va_cwS 2 hts gL_isStep_L_up rfl rfl rfl (by decide +kernel) ⟨Nat.le_of_ble_eq_true rfl, Nat.le_of_ble_eq_true rfl⟩) (zPreS hK hP hD hS hA hSW [] rfl (by decide)) rfl rfl hl.1 rfl (lv_room (Nat.le_of_ble_eq_true rfl)) dL_isStep_155 ⟨Nat.le_of_ble_eq_true rfl, Nat.le_of_ble_eq_true rfl⟩) hP hD hS hA [] [0, 1, 2, 3, 4, 5, 6, 7, 8, 9, 10, 11, 12, 13, 14, 15, 16, 17, 18, 19, 20, 21, 22, 23, 24, 25, 26, 27, 28, 29, 30, 31, 32, 33, 34, 35, 36, 37, 38, 39, 40, 41, 42, 43, 44, 45, 46, 47, 48, 49, 50, 51, 52, 53, 54, 55, 56, 57, 58, 59, 60, 61, 62, 63, 64, 65, 66, 67, 68, 69, 70, 71, 72, 73, 74, 75, 76, 77, 78] [0, 1, 2, 3, 4, 5, 6, 7, 8, 9, 10, 11, 12, 13, 14, 15, 16, 17, 18, 19, 20, 21, 22, 23, 24, 25, 26, 27, 28, 29, 30, 31, 32, 33, 34, 35, 36, 37, 38, 39, 40, 41, 42, 43, 44, 45, 46, 47, 48, 49, 50, 51, 52, 53, 54, 55, 56, 57, 58, 59, 60, 61, 62, 63, 64, 65, 66, 67, 68, 69, 70, 71, 72, 73, 74, 75, 76, 77, 78] rfl rfl (by decide) (by decide) (by decide) (fun _ => rfl) (fun r155 u H locs hw155 hP hD hS => ?_)
          obtain ⟨k_155, rfl⟩ : ∃ z, z = u := ⟨_, rfl⟩
          try dsimp only at hw155
          have hP : va_P G vwCl ([(h, .inr (7, [.ref (a 0), .ref (cd 0), .ref s1, .ref s2, .ref (d 0), .ref g]))] ++ (ck Z a v ++ (hk Z cd (kp, Y) ++ (rk Z d w ++ ([(bh, .inr (7, [.ref (ba 0), .ref (bcd 0), .ref bs1, .ref bs2, .ref (bd 0), .ref bg]))] ++ (ck Z ba bv ++ hk Z bcd (bkp, bY))))))) H := hP
          have hD : va_D A ([(h, .inr (7, [.ref (a 0), .ref (cd 0), .ref s1, .ref s2, .ref (d 0), .ref g]))] ++ (ck Z a v ++ (hk Z cd (kp, Y) ++ (rk Z d w ++ ([(bh, .inr (7, [.ref (ba 0), .ref (bcd 0), .ref bs1, .ref bs2, .ref (bd 0), .ref bg]))] ++ (ck Z ba bv ++ hk Z bcd (bkp, bY))))))) := hD
          obtain ⟨rfl, hk_155⟩ := hw155
          refine lv_iadd hx hb dL_isStep_158 ?_
          exact K159 (990 + (nI k_155)) (by
              try dsimp only
              exact dAi2 _ hk_155) _ _ _ hP hD hS (lv_sub hl [0, 1, 2, 3, 4, 5, 6] rfl)
        · refine lv_sipush (v := 800) hx hb dL_isStep_129 (by decide) ?_
          refine lv_iload_n hx hb dL_isStep_132 rfl (lv_at hl 3 rfl) ?_
          refine lv_bipush (v := 6) hx hb dL_isStep_133 (by decide) ?_
          refine lv_ishr hx hb dL_isStep_135 ?_
          refine lv_sipush (v := 401) hx hb dL_isStep_136 (by decide) ?_
          refine zCi (S := Nat) (ws1 := fun u => [(h, .inr (7, [.ref (a 0), .ref (cd 0), .ref s1, .ref s2, .ref (d 0), .ref g]))] ++ (ck Z a v ++ (hk Z cd (kp, Y) ++ (rk Z d w ++ ([(bh, .inr (7, [.ref (ba 0), .ref (bcd 0), .ref bs1, .ref bs2, .ref (bd 0), .ref bg]))] ++ (ck Z ba bv ++ hk Z bcd (bkp, bY))))))) (wr := [(h, .inr (7, [.ref (a 0), .ref (cd 0), .ref s1, .ref s2, .ref (d 0), .ref g]))] ++ (ck Z a v ++ (hk Z cd (kp, Y) ++ (rk Z d w ++ ([(bh, .inr (7, [.ref (ba 0), .ref (bcd 0), .ref bs1, .ref bs2, .ref (bd 0), .ref bg]))] ++ (ck Z ba bv ++ hk Z bcd (bkp, bY))))))) (va_runS (As := [.int ((x >>> (4 &&& 31)) >>> (6 &&& 31)), .int 401]) (rest := [.int 800]) ⟨hx, hb, hml, hown, hts⟩ (m_L_up l G Z _ ((x >>> (4 &&& 31)) >>> (6 &&& 31)) 401 (by
              decide) (by
              decide)) (va_cwS 2 hts gL_isStep_L_up rfl rfl rfl (by decide +kernel) ⟨Nat.le_of_ble_eq_true rfl, Nat.le_of_ble_eq_true rfl⟩) (zPreS hK hP hD hS hA hSW [] rfl (by decide)) rfl rfl hl.1 rfl (lv_room (Nat.le_of_ble_eq_true rfl)) dL_isStep_139 ⟨Nat.le_of_ble_eq_true rfl, Nat.le_of_ble_eq_true rfl⟩) hP hD hS hA [] [0, 1, 2, 3, 4, 5, 6, 7, 8, 9, 10, 11, 12, 13, 14, 15, 16, 17, 18, 19, 20, 21, 22, 23, 24, 25, 26, 27, 28, 29, 30, 31, 32, 33, 34, 35, 36, 37, 38, 39, 40, 41, 42, 43, 44, 45, 46, 47, 48, 49, 50, 51, 52, 53, 54, 55, 56, 57, 58, 59, 60, 61, 62, 63, 64, 65, 66, 67, 68, 69, 70, 71, 72, 73, 74, 75, 76, 77, 78] [0, 1, 2, 3, 4, 5, 6, 7, 8, 9, 10, 11, 12, 13, 14, 15, 16, 17, 18, 19, 20, 21, 22, 23, 24, 25, 26, 27, 28, 29, 30, 31, 32, 33, 34, 35, 36, 37, 38, 39, 40, 41, 42, 43, 44, 45, 46, 47, 48, 49, 50, 51, 52, 53, 54, 55, 56, 57, 58, 59, 60, 61, 62, 63, 64, 65, 66, 67, 68, 69, 70, 71, 72, 73, 74, 75, 76, 77, 78] rfl rfl (by decide) (by decide) (by decide) (fun _ => rfl) (fun r139 u H locs hw139 hP hD hS => ?_)
          obtain ⟨k_139, rfl⟩ : ∃ z, z = u := ⟨_, rfl⟩
          try dsimp only at hw139
          have hP : va_P G vwCl ([(h, .inr (7, [.ref (a 0), .ref (cd 0), .ref s1, .ref s2, .ref (d 0), .ref g]))] ++ (ck Z a v ++ (hk Z cd (kp, Y) ++ (rk Z d w ++ ([(bh, .inr (7, [.ref (ba 0), .ref (bcd 0), .ref bs1, .ref bs2, .ref (bd 0), .ref bg]))] ++ (ck Z ba bv ++ hk Z bcd (bkp, bY))))))) H := hP
          have hD : va_D A ([(h, .inr (7, [.ref (a 0), .ref (cd 0), .ref s1, .ref s2, .ref (d 0), .ref g]))] ++ (ck Z a v ++ (hk Z cd (kp, Y) ++ (rk Z d w ++ ([(bh, .inr (7, [.ref (ba 0), .ref (bcd 0), .ref bs1, .ref bs2, .ref (bd 0), .ref bg]))] ++ (ck Z ba bv ++ hk Z bcd (bkp, bY))))))) := hD
          obtain ⟨rfl, hk_139⟩ := hw139
          refine lv_iadd hx hb dL_isStep_142 ?_
          refine lv_goto (tgt := 159) hx hb dL_isStep_143 (by decide) ?_
          exact K159 (800 + (nI k_139)) (by
              try dsimp only
              exact dAi1 _ hk_139) _ _ _ hP hD hS (lv_sub hl [0, 1, 2, 3, 4, 5, 6] rfl)
    · intro K117
      refine lv_iload_n hx hb dL_isStep_84 rfl (lv_at hl 2 rfl) ?_
      refine lv_iconst (v := 4) hx hb dL_isStep_85 (by decide) ?_
      refine zCi (S := Nat) (ws1 := fun u => [(h, .inr (7, [.ref (a 0), .ref (cd 0), .ref s1, .ref s2, .ref (d 0), .ref g]))] ++ (ck Z a v ++ (hk Z cd (kp, Y) ++ (rk Z d w ++ ([(bh, .inr (7, [.ref (ba 0), .ref (bcd 0), .ref bs1, .ref bs2, .ref (bd 0), .ref bg]))] ++ (ck Z ba bv ++ hk Z bcd (bkp, bY))))))) (wr := [(h, .inr (7, [.ref (a 0), .ref (cd 0), .ref s1, .ref s2, .ref (d 0), .ref g]))] ++ (ck Z a v ++ (hk Z cd (kp, Y) ++ (rk Z d w ++ ([(bh, .inr (7, [.ref (ba 0), .ref (bcd 0), .ref bs1, .ref bs2, .ref (bd 0), .ref bg]))] ++ (ck Z ba bv ++ hk Z bcd (bkp, bY))))))) (va_runS (As := [.int (x >>> (4 &&& 31)), .int 4]) (rest := []) ⟨hx, hb, hml, hown, hts⟩ (m_L_up l G Z _ (x >>> (4 &&& 31)) 4 (by
          decide) (by
          decide)) (va_cwS 2 hts gL_isStep_L_up rfl rfl rfl (by decide +kernel) ⟨Nat.le_of_ble_eq_true rfl, Nat.le_of_ble_eq_true rfl⟩) (zPreS hK hP hD hS hA hSW [] rfl (by decide)) rfl rfl hl.1 rfl (lv_room (Nat.le_of_ble_eq_true rfl)) dL_isStep_86 ⟨Nat.le_of_ble_eq_true rfl, Nat.le_of_ble_eq_true rfl⟩) hP hD hS hA [] [0, 1, 2, 3, 4, 5, 6, 7, 8, 9, 10, 11, 12, 13, 14, 15, 16, 17, 18, 19, 20, 21, 22, 23, 24, 25, 26, 27, 28, 29, 30, 31, 32, 33, 34, 35, 36, 37, 38, 39, 40, 41, 42, 43, 44, 45, 46, 47, 48, 49, 50, 51, 52, 53, 54, 55, 56, 57, 58, 59, 60, 61, 62, 63, 64, 65, 66, 67, 68, 69, 70, 71, 72, 73, 74, 75, 76, 77, 78] [0, 1, 2, 3, 4, 5, 6, 7, 8, 9, 10, 11, 12, 13, 14, 15, 16, 17, 18, 19, 20, 21, 22, 23, 24, 25, 26, 27, 28, 29, 30, 31, 32, 33, 34, 35, 36, 37, 38, 39, 40, 41, 42, 43, 44, 45, 46, 47, 48, 49, 50, 51, 52, 53, 54, 55, 56, 57, 58, 59, 60, 61, 62, 63, 64, 65, 66, 67, 68, 69, 70, 71, 72, 73, 74, 75, 76, 77, 78] rfl rfl (by decide) (by decide) (by decide) (fun _ => rfl) (fun r86 u H locs hw86 hP hD hS => ?_)
      obtain ⟨k_86, rfl⟩ : ∃ z, z = u := ⟨_, rfl⟩
      try dsimp only at hw86
      have hP : va_P G vwCl ([(h, .inr (7, [.ref (a 0), .ref (cd 0), .ref s1, .ref s2, .ref (d 0), .ref g]))] ++ (ck Z a v ++ (hk Z cd (kp, Y) ++ (rk Z d w ++ ([(bh, .inr (7, [.ref (ba 0), .ref (bcd 0), .ref bs1, .ref bs2, .ref (bd 0), .ref bg]))] ++ (ck Z ba bv ++ hk Z bcd (bkp, bY))))))) H := hP
      have hD : va_D A ([(h, .inr (7, [.ref (a 0), .ref (cd 0), .ref s1, .ref s2, .ref (d 0), .ref g]))] ++ (ck Z a v ++ (hk Z cd (kp, Y) ++ (rk Z d w ++ ([(bh, .inr (7, [.ref (ba 0), .ref (bcd 0), .ref bs1, .ref bs2, .ref (bd 0), .ref bg]))] ++ (ck Z ba bv ++ hk Z bcd (bkp, bY))))))) := hD
      obtain ⟨rfl, hk_86⟩ := hw86
      refine lv_if_ne (tgt := 106) hx hb dL_isStep_89 (by decide) (fun c89 => ?_) (fun c89 => ?_)
      · refine lv_bipush (v := 15) hx hb dL_isStep_106 (by decide) ?_
        refine lv_iload_n hx hb dL_isStep_108 rfl (lv_at hl 2 rfl) ?_
        refine lv_iconst (v := 2) hx hb dL_isStep_109 (by decide) ?_
        refine lv_ishr hx hb dL_isStep_110 ?_
        refine lv_bipush (v := 14) hx hb dL_isStep_111 (by decide) ?_
        refine zCi (S := Nat) (ws1 := fun u => [(h, .inr (7, [.ref (a 0), .ref (cd 0), .ref s1, .ref s2, .ref (d 0), .ref g]))] ++ (ck Z a v ++ (hk Z cd (kp, Y) ++ (rk Z d w ++ ([(bh, .inr (7, [.ref (ba 0), .ref (bcd 0), .ref bs1, .ref bs2, .ref (bd 0), .ref bg]))] ++ (ck Z ba bv ++ hk Z bcd (bkp, bY))))))) (wr := [(h, .inr (7, [.ref (a 0), .ref (cd 0), .ref s1, .ref s2, .ref (d 0), .ref g]))] ++ (ck Z a v ++ (hk Z cd (kp, Y) ++ (rk Z d w ++ ([(bh, .inr (7, [.ref (ba 0), .ref (bcd 0), .ref bs1, .ref bs2, .ref (bd 0), .ref bg]))] ++ (ck Z ba bv ++ hk Z bcd (bkp, bY))))))) (va_runS (As := [.int ((x >>> (4 &&& 31)) >>> (2 &&& 31)), .int 14]) (rest := [.int 15]) ⟨hx, hb, hml, hown, hts⟩ (m_L_up l G Z _ ((x >>> (4 &&& 31)) >>> (2 &&& 31)) 14 (by
            decide) (by
            decide)) (va_cwS 2 hts gL_isStep_L_up rfl rfl rfl (by decide +kernel) ⟨Nat.le_of_ble_eq_true rfl, Nat.le_of_ble_eq_true rfl⟩) (zPreS hK hP hD hS hA hSW [] rfl (by decide)) rfl rfl hl.1 rfl (lv_room (Nat.le_of_ble_eq_true rfl)) dL_isStep_113 ⟨Nat.le_of_ble_eq_true rfl, Nat.le_of_ble_eq_true rfl⟩) hP hD hS hA [] [0, 1, 2, 3, 4, 5, 6, 7, 8, 9, 10, 11, 12, 13, 14, 15, 16, 17, 18, 19, 20, 21, 22, 23, 24, 25, 26, 27, 28, 29, 30, 31, 32, 33, 34, 35, 36, 37, 38, 39, 40, 41, 42, 43, 44, 45, 46, 47, 48, 49, 50, 51, 52, 53, 54, 55, 56, 57, 58, 59, 60, 61, 62, 63, 64, 65, 66, 67, 68, 69, 70, 71, 72, 73, 74, 75, 76, 77, 78] [0, 1, 2, 3, 4, 5, 6, 7, 8, 9, 10, 11, 12, 13, 14, 15, 16, 17, 18, 19, 20, 21, 22, 23, 24, 25, 26, 27, 28, 29, 30, 31, 32, 33, 34, 35, 36, 37, 38, 39, 40, 41, 42, 43, 44, 45, 46, 47, 48, 49, 50, 51, 52, 53, 54, 55, 56, 57, 58, 59, 60, 61, 62, 63, 64, 65, 66, 67, 68, 69, 70, 71, 72, 73, 74, 75, 76, 77, 78] rfl rfl (by decide) (by decide) (by decide) (fun _ => rfl) (fun r113 u H locs hw113 hP hD hS => ?_)
        obtain ⟨k_113, rfl⟩ : ∃ z, z = u := ⟨_, rfl⟩
        try dsimp only at hw113
        have hP : va_P G vwCl ([(h, .inr (7, [.ref (a 0), .ref (cd 0), .ref s1, .ref s2, .ref (d 0), .ref g]))] ++ (ck Z a v ++ (hk Z cd (kp, Y) ++ (rk Z d w ++ ([(bh, .inr (7, [.ref (ba 0), .ref (bcd 0), .ref bs1, .ref bs2, .ref (bd 0), .ref bg]))] ++ (ck Z ba bv ++ hk Z bcd (bkp, bY))))))) H := hP
        have hD : va_D A ([(h, .inr (7, [.ref (a 0), .ref (cd 0), .ref s1, .ref s2, .ref (d 0), .ref g]))] ++ (ck Z a v ++ (hk Z cd (kp, Y) ++ (rk Z d w ++ ([(bh, .inr (7, [.ref (ba 0), .ref (bcd 0), .ref bs1, .ref bs2, .ref (bd 0), .ref bg]))] ++ (ck Z ba bv ++ hk Z bcd (bkp, bY))))))) := hD
        obtain ⟨rfl, hk_113⟩ := hw113
        refine lv_iadd hx hb dL_isStep_116 ?_
        exact K117 (15 + (nI k_113)) (by
            try dsimp only
            exact dHe2 _ hk_113) _ _ _ hP hD hS (lv_sub hl [0, 1, 2, 3, 4, 5] rfl)
      · refine lv_iload_n hx hb dL_isStep_92 rfl (lv_at hl 2 rfl) ?_
        refine lv_iconst (v := 2) hx hb dL_isStep_93 (by decide) ?_
        refine lv_ishr hx hb dL_isStep_94 ?_
        refine lv_bipush (v := 71) hx hb dL_isStep_95 (by decide) ?_
        refine zCi (S := Nat) (ws1 := fun u => [(h, .inr (7, [.ref (a 0), .ref (cd 0), .ref s1, .ref s2, .ref (d 0), .ref g]))] ++ (ck Z a v ++ (hk Z cd (kp, Y) ++ (rk Z d w ++ ([(bh, .inr (7, [.ref (ba 0), .ref (bcd 0), .ref bs1, .ref bs2, .ref (bd 0), .ref bg]))] ++ (ck Z ba bv ++ hk Z bcd (bkp, bY))))))) (wr := [(h, .inr (7, [.ref (a 0), .ref (cd 0), .ref s1, .ref s2, .ref (d 0), .ref g]))] ++ (ck Z a v ++ (hk Z cd (kp, Y) ++ (rk Z d w ++ ([(bh, .inr (7, [.ref (ba 0), .ref (bcd 0), .ref bs1, .ref bs2, .ref (bd 0), .ref bg]))] ++ (ck Z ba bv ++ hk Z bcd (bkp, bY))))))) (va_runS (As := [.int ((x >>> (4 &&& 31)) >>> (2 &&& 31)), .int 71]) (rest := []) ⟨hx, hb, hml, hown, hts⟩ (m_L_up l G Z _ ((x >>> (4 &&& 31)) >>> (2 &&& 31)) 71 (by
            decide) (by
            decide)) (va_cwS 2 hts gL_isStep_L_up rfl rfl rfl (by decide +kernel) ⟨Nat.le_of_ble_eq_true rfl, Nat.le_of_ble_eq_true rfl⟩) (zPreS hK hP hD hS hA hSW [] rfl (by decide)) rfl rfl hl.1 rfl (lv_room (Nat.le_of_ble_eq_true rfl)) dL_isStep_97 ⟨Nat.le_of_ble_eq_true rfl, Nat.le_of_ble_eq_true rfl⟩) hP hD hS hA [] [0, 1, 2, 3, 4, 5, 6, 7, 8, 9, 10, 11, 12, 13, 14, 15, 16, 17, 18, 19, 20, 21, 22, 23, 24, 25, 26, 27, 28, 29, 30, 31, 32, 33, 34, 35, 36, 37, 38, 39, 40, 41, 42, 43, 44, 45, 46, 47, 48, 49, 50, 51, 52, 53, 54, 55, 56, 57, 58, 59, 60, 61, 62, 63, 64, 65, 66, 67, 68, 69, 70, 71, 72, 73, 74, 75, 76, 77, 78] [0, 1, 2, 3, 4, 5, 6, 7, 8, 9, 10, 11, 12, 13, 14, 15, 16, 17, 18, 19, 20, 21, 22, 23, 24, 25, 26, 27, 28, 29, 30, 31, 32, 33, 34, 35, 36, 37, 38, 39, 40, 41, 42, 43, 44, 45, 46, 47, 48, 49, 50, 51, 52, 53, 54, 55, 56, 57, 58, 59, 60, 61, 62, 63, 64, 65, 66, 67, 68, 69, 70, 71, 72, 73, 74, 75, 76, 77, 78] rfl rfl (by decide) (by decide) (by decide) (fun _ => rfl) (fun r97 u H locs hw97 hP hD hS => ?_)
        obtain ⟨k_97, rfl⟩ : ∃ z, z = u := ⟨_, rfl⟩
        try dsimp only at hw97
        have hP : va_P G vwCl ([(h, .inr (7, [.ref (a 0), .ref (cd 0), .ref s1, .ref s2, .ref (d 0), .ref g]))] ++ (ck Z a v ++ (hk Z cd (kp, Y) ++ (rk Z d w ++ ([(bh, .inr (7, [.ref (ba 0), .ref (bcd 0), .ref bs1, .ref bs2, .ref (bd 0), .ref bg]))] ++ (ck Z ba bv ++ hk Z bcd (bkp, bY))))))) H := hP
        have hD : va_D A ([(h, .inr (7, [.ref (a 0), .ref (cd 0), .ref s1, .ref s2, .ref (d 0), .ref g]))] ++ (ck Z a v ++ (hk Z cd (kp, Y) ++ (rk Z d w ++ ([(bh, .inr (7, [.ref (ba 0), .ref (bcd 0), .ref bs1, .ref bs2, .ref (bd 0), .ref bg]))] ++ (ck Z ba bv ++ hk Z bcd (bkp, bY))))))) := hD
        obtain ⟨rfl, hk_97⟩ := hw97
        refine lv_bipush (v := 20) hx hb dL_isStep_100 (by decide) ?_
        refine lv_isub hx hb dL_isStep_102 ?_
        refine lv_goto (tgt := 117) hx hb dL_isStep_103 (by decide) ?_
        exact K117 ((nI k_97) - 20) (by
            try dsimp only
            exact dHe1 _ hk_97) _ _ _ hP hD hS (lv_sub hl [0, 1, 2, 3, 4, 5] rfl)
  · intro K84
    refine lv_iload_n hx hb dL_isStep_18 rfl (lv_at hl 5 rfl) ?_
    refine zJoin (G := G) (A := A) (σ := Unit) (nL := 16) 382 (fun zx => [(h, .inr (7, [.ref (a 0), .ref (cd 0), .ref s1, .ref s2, .ref (d 0), .ref g]))] ++ (ck Z a v ++ (hk Z cd (kp, Y) ++ (rk Z d w ++ ([(bh, .inr (7, [.ref (ba 0), .ref (bcd 0), .ref bs1, .ref bs2, .ref (bd 0), .ref bg]))] ++ (ck Z ba bv ++ hk Z bcd (bkp, bY))))))) (fun zx => [(5, .int (al 7)), (4, .int (nI hh)), (3, .int (x >>> (4 &&& 31))), (0, .ref h), (1, .ref bh), (2, .int x)]) (fun zx => []) (fun zx => True) ?_ ?_
    · intro zx hj382 H locs ls hP hD hS hl
      try dsimp only at hj382
      have hP : va_P G vwCl ([(h, .inr (7, [.ref (a 0), .ref (cd 0), .ref s1, .ref s2, .ref (d 0), .ref g]))] ++ (ck Z a v ++ (hk Z cd (kp, Y) ++ (rk Z d w ++ ([(bh, .inr (7, [.ref (ba 0), .ref (bcd 0), .ref bs1, .ref bs2, .ref (bd 0), .ref bg]))] ++ (ck Z ba bv ++ hk Z bcd (bkp, bY))))))) H := hP
      have hD : va_D A ([(h, .inr (7, [.ref (a 0), .ref (cd 0), .ref s1, .ref s2, .ref (d 0), .ref g]))] ++ (ck Z a v ++ (hk Z cd (kp, Y) ++ (rk Z d w ++ ([(bh, .inr (7, [.ref (ba 0), .ref (bcd 0), .ref bs1, .ref bs2, .ref (bd 0), .ref bg]))] ++ (ck Z ba bv ++ hk Z bcd (bkp, bY))))))) := hD
      have hl : lv_has ls 16 [(5, .int (al 7)), (4, .int (nI hh)), (3, .int (x >>> (4 &&& 31))), (0, .ref h), (1, .ref bh), (2, .int x)] := hl
      refine lv_iload_n hx hb dL_isStep_382 rfl (lv_at hl 2 rfl) ?_
      refine lv_bipush (v := 8) hx hb dL_isStep_383 (by decide) ?_
      refine zCi (S := Nat) (ws1 := fun u => [(h, .inr (7, [.ref (a 0), .ref (cd 0), .ref s1, .ref s2, .ref (d 0), .ref g]))] ++ (ck Z a v ++ (hk Z cd (kp, Y) ++ (rk Z d w ++ ([(bh, .inr (7, [.ref (ba 0), .ref (bcd 0), .ref bs1, .ref bs2, .ref (bd 0), .ref bg]))] ++ (ck Z ba bv ++ hk Z bcd (bkp, bY))))))) (wr := [(h, .inr (7, [.ref (a 0), .ref (cd 0), .ref s1, .ref s2, .ref (d 0), .ref g]))] ++ (ck Z a v ++ (hk Z cd (kp, Y) ++ (rk Z d w ++ ([(bh, .inr (7, [.ref (ba 0), .ref (bcd 0), .ref bs1, .ref bs2, .ref (bd 0), .ref bg]))] ++ (ck Z ba bv ++ hk Z bcd (bkp, bY))))))) (va_runS (As := [.int (x >>> (4 &&& 31)), .int 8]) (rest := []) ⟨hx, hb, hml, hown, hts⟩ (m_L_up l G Z _ (x >>> (4 &&& 31)) 8 (by
          decide) (by
          decide)) (va_cwS 2 hts gL_isStep_L_up rfl rfl rfl (by decide +kernel) ⟨Nat.le_of_ble_eq_true rfl, Nat.le_of_ble_eq_true rfl⟩) (zPreS hK hP hD hS hA hSW [] rfl (by decide)) rfl rfl hl.1 rfl (lv_room (Nat.le_of_ble_eq_true rfl)) dL_isStep_385 ⟨Nat.le_of_ble_eq_true rfl, Nat.le_of_ble_eq_true rfl⟩) hP hD hS hA [] [0, 1, 2, 3, 4, 5, 6, 7, 8, 9, 10, 11, 12, 13, 14, 15, 16, 17, 18, 19, 20, 21, 22, 23, 24, 25, 26, 27, 28, 29, 30, 31, 32, 33, 34, 35, 36, 37, 38, 39, 40, 41, 42, 43, 44, 45, 46, 47, 48, 49, 50, 51, 52, 53, 54, 55, 56, 57, 58, 59, 60, 61, 62, 63, 64, 65, 66, 67, 68, 69, 70, 71, 72, 73, 74, 75, 76, 77, 78] [0, 1, 2, 3, 4, 5, 6, 7, 8, 9, 10, 11, 12, 13, 14, 15, 16, 17, 18, 19, 20, 21, 22, 23, 24, 25, 26, 27, 28, 29, 30, 31, 32, 33, 34, 35, 36, 37, 38, 39, 40, 41, 42, 43, 44, 45, 46, 47, 48, 49, 50, 51, 52, 53, 54, 55, 56, 57, 58, 59, 60, 61, 62, 63, 64, 65, 66, 67, 68, 69, 70, 71, 72, 73, 74, 75, 76, 77, 78] rfl rfl (by decide) (by decide) (by decide) (fun _ => rfl) (fun r385 u H locs hw385 hP hD hS => ?_)
      obtain ⟨k_385, rfl⟩ : ∃ z, z = u := ⟨_, rfl⟩
      try dsimp only at hw385
      have hP : va_P G vwCl ([(h, .inr (7, [.ref (a 0), .ref (cd 0), .ref s1, .ref s2, .ref (d 0), .ref g]))] ++ (ck Z a v ++ (hk Z cd (kp, Y) ++ (rk Z d w ++ ([(bh, .inr (7, [.ref (ba 0), .ref (bcd 0), .ref bs1, .ref bs2, .ref (bd 0), .ref bg]))] ++ (ck Z ba bv ++ hk Z bcd (bkp, bY))))))) H := hP
      have hD : va_D A ([(h, .inr (7, [.ref (a 0), .ref (cd 0), .ref s1, .ref s2, .ref (d 0), .ref g]))] ++ (ck Z a v ++ (hk Z cd (kp, Y) ++ (rk Z d w ++ ([(bh, .inr (7, [.ref (ba 0), .ref (bcd 0), .ref bs1, .ref bs2, .ref (bd 0), .ref bg]))] ++ (ck Z ba bv ++ hk Z bcd (bkp, bY))))))) := hD
      obtain ⟨rfl, hk_385⟩ := hw385
      refine lv_istore (lv' := [(6, .int (nI k_385)), (5, .int (al 7)), (4, .int (nI hh)), (3, .int (x >>> (4 &&& 31))), (0, .ref h), (1, .ref bh), (2, .int x)]) hx hb dL_isStep_388 hl (by decide) rfl (fun ls hl => ?_)
      refine lv_aload_n hx hb dL_isStep_390 rfl (lv_at hl 4 rfl) ?_
      refine lv_iload hx hb dL_isStep_391 (lv_at hl 0 rfl) ?_
      refine zCi (S := CV × Nat × HV) (ws1 := fun u => [(h, .inr (7, [.ref (a 0), .ref (cd 0), .ref s1, .ref s2, .ref (d 0), .ref g]))] ++ (ck Z a u.1 ++ (hk Z cd (u.2.1, u.2.2) ++ (rk Z d w ++ ([(bh, .inr (7, [.ref (ba 0), .ref (bcd 0), .ref bs1, .ref bs2, .ref (bd 0), .ref bg]))] ++ (ck Z ba bv ++ hk Z bcd (bkp, bY))))))) (wr := rk Z d w ++ ([(bh, .inr (7, [.ref (ba 0), .ref (bcd 0), .ref bs1, .ref bs2, .ref (bd 0), .ref bg]))] ++ (ck Z ba bv ++ hk Z bcd (bkp, bY)))) (va_runV (As := [.int (nI k_385)]) (rest := []) ⟨hx, hb, hml, hown, hts⟩ (m_X7_weight l G Z _ h a cd s1 s2 d g v kp Y (nI k_385) (by
          exact hk6)) (cwV 1 hts gL_isStep_X7_weight rfl rfl rfl (by decide +kernel) ⟨Nat.le_of_ble_eq_true rfl, Nat.le_of_ble_eq_true rfl⟩) (zPreV hK hP hD hS hA hSW [0, 1, 2, 3, 4, 5, 6, 7, 8, 9, 10, 11, 12, 13, 14, 15, 16, 17, 18, 19, 20, 21, 22, 23, 24, 25, 26, 27, 28, 29, 30, 31, 32, 33, 34, 35, 36, 37] rfl (by decide) 0 (ci := 7) rfl rfl rfl) rfl rfl hl.1 rfl (lv_room (Nat.le_of_ble_eq_true rfl)) dL_isStep_393 ⟨Nat.le_of_ble_eq_true rfl, Nat.le_of_ble_eq_true rfl⟩) hP hD hS hA [0, 1, 2, 3, 4, 5, 6, 7, 8, 9, 10, 11, 12, 13, 14, 15, 16, 17, 18, 19, 20, 21, 22, 23, 24, 25, 26, 27, 28, 29, 30, 31, 32, 33, 34, 35, 36, 37] [38, 39, 40, 41, 42, 43, 44, 45, 46, 47, 48, 49, 50, 51, 52, 53, 54, 55, 56, 57, 58, 59, 60, 61, 62, 63, 64, 65, 66, 67, 68, 69, 70, 71, 72, 73, 74, 75, 76, 77, 78] [41, 42, 43, 44, 45, 46, 47, 48, 49, 50, 51, 52, 53, 54, 55, 56, 57, 58, 59, 60, 61, 62, 63, 64, 65, 66, 67, 68, 69, 70, 71, 72, 73, 74, 75, 76, 77, 78, 0, 1, 2, 3, 4, 5, 6, 7, 8, 9, 10, 11, 12, 13, 14, 15, 16, 17, 18, 19, 20, 21, 22, 23, 24, 25, 26, 27, 28, 29, 30, 31, 32, 33, 34, 35, 36, 37, 38, 39, 40] rfl rfl (by decide) (by decide) (by decide) (fun _ => rfl) (fun r393 u H locs hw393 hP hD hS => ?_)
      obtain ⟨v1_393, kp1_393, Y1_393⟩ := u
      try dsimp only at hw393
      obtain ⟨rfl, e_v1_393, e_kp1_393, e_Y1_393⟩ := hw393
      have hP : va_P G vwCl ([(h, .inr (7, [.ref (a 0), .ref (cd 0), .ref s1, .ref s2, .ref (d 0), .ref g]))] ++ (ck Z a v1_393 ++ (hk Z cd (kp1_393, Y1_393) ++ (rk Z d w ++ ([(bh, .inr (7, [.ref (ba 0), .ref (bcd 0), .ref bs1, .ref bs2, .ref (bd 0), .ref bg]))] ++ (ck Z ba bv ++ hk Z bcd (bkp, bY))))))) H := hP
      have hD : va_D A ([(h, .inr (7, [.ref (a 0), .ref (cd 0), .ref s1, .ref s2, .ref (d 0), .ref g]))] ++ (ck Z a v1_393 ++ (hk Z cd (kp1_393, Y1_393) ++ (rk Z d w ++ ([(bh, .inr (7, [.ref (ba 0), .ref (bcd 0), .ref bs1, .ref bs2, .ref (bd 0), .ref bg]))] ++ (ck Z ba bv ++ hk Z bcd (bkp, bY))))))) := hD
      have hR393 : RS v1_393 (upd al 7 (cMvT (al 7) (nI k_385))) hh := by
        rw [e_v1_393]
        exact (oWt hRo hk_385).2
      have hk393 : kp1_393 ≤ 6 := by
        rw [e_kp1_393]
        exact oKp hk6
      refine zTopI (y := (cMvR (al 7) (nI k_385))) ((oWt hRo hk_385).1) ?_
      refine lv_istore (lv' := [(7, .int (cMvR (al 7) (nI k_385))), (6, .int (nI k_385)), (5, .int (al 7)), (4, .int (nI hh)), (3, .int (x >>> (4 &&& 31))), (0, .ref h), (1, .ref bh), (2, .int x)]) hx hb dL_isStep_396 hl (by decide) rfl (fun ls hl => ?_)
      refine lv_iload hx hb dL_isStep_398 (lv_at hl 0 rfl) ?_
      refine lv_aload_n hx hb dL_isStep_400 rfl (lv_at hl 6 rfl) ?_
      refine lv_iload hx hb dL_isStep_401 (lv_at hl 1 rfl) ?_
      refine zCi (S := CV × Nat × HV) (ws1 := fun u => [(h, .inr (7, [.ref (a 0), .ref (cd 0), .ref s1, .ref s2, .ref (d 0), .ref g]))] ++ (ck Z a v1_393 ++ (hk Z cd (kp1_393, Y1_393) ++ (rk Z d w ++ ([(bh, .inr (7, [.ref (ba 0), .ref (bcd 0), .ref bs1, .ref bs2, .ref (bd 0), .ref bg]))] ++ (ck Z ba u.1 ++ hk Z bcd (u.2.1, u.2.2))))))) (wr := [(h, .inr (7, [.ref (a 0), .ref (cd 0), .ref s1, .ref s2, .ref (d 0), .ref g]))] ++ (ck Z a v1_393 ++ (hk Z cd (kp1_393, Y1_393) ++ rk Z d w))) (va_runV (As := [.int (nI k_385)]) (rest := [.int (cMvR (al 7) (nI k_385))]) ⟨hx, hb, hml, hown, hts⟩ (m_X7_weight l G Z _ bh ba bcd bs1 bs2 bd bg bv bkp bY (nI k_385) (by
          exact hbk6)) (cwV 1 hts gL_isStep_X7_weight rfl rfl rfl (by decide +kernel) ⟨Nat.le_of_ble_eq_true rfl, Nat.le_of_ble_eq_true rfl⟩) (zPreV hK hP hD hS hA hSW [41, 42, 43, 44, 45, 46, 47, 48, 49, 50, 51, 52, 53, 54, 55, 56, 57, 58, 59, 60, 61, 62, 63, 64, 65, 66, 67, 68, 69, 70, 71, 72, 73, 74, 75, 76, 77, 78] rfl (by decide) 41 (ci := 7) rfl rfl rfl) rfl rfl hl.1 rfl (lv_room (Nat.le_of_ble_eq_true rfl)) dL_isStep_403 ⟨Nat.le_of_ble_eq_true rfl, Nat.le_of_ble_eq_true rfl⟩) hP hD hS hA [41, 42, 43, 44, 45, 46, 47, 48, 49, 50, 51, 52, 53, 54, 55, 56, 57, 58, 59, 60, 61, 62, 63, 64, 65, 66, 67, 68, 69, 70, 71, 72, 73, 74, 75, 76, 77, 78] [0, 1, 2, 3, 4, 5, 6, 7, 8, 9, 10, 11, 12, 13, 14, 15, 16, 17, 18, 19, 20, 21, 22, 23, 24, 25, 26, 27, 28, 29, 30, 31, 32, 33, 34, 35, 36, 37, 38, 39, 40] [0, 1, 2, 3, 4, 5, 6, 7, 8, 9, 10, 11, 12, 13, 14, 15, 16, 17, 18, 19, 20, 21, 22, 23, 24, 25, 26, 27, 28, 29, 30, 31, 32, 33, 34, 35, 36, 37, 38, 39, 40, 41, 42, 43, 44, 45, 46, 47, 48, 49, 50, 51, 52, 53, 54, 55, 56, 57, 58, 59, 60, 61, 62, 63, 64, 65, 66, 67, 68, 69, 70, 71, 72, 73, 74, 75, 76, 77, 78] rfl rfl (by decide) (by decide) (by decide) (fun _ => rfl) (fun r403 u H locs hw403 hP hD hS => ?_)
      obtain ⟨v1_403, kp1_403, Y1_403⟩ := u
      try dsimp only at hw403
      obtain ⟨rfl, e_v1_403, e_kp1_403, e_Y1_403⟩ := hw403
      have hP : va_P G vwCl ([(h, .inr (7, [.ref (a 0), .ref (cd 0), .ref s1, .ref s2, .ref (d 0), .ref g]))] ++ (ck Z a v1_393 ++ (hk Z cd (kp1_393, Y1_393) ++ (rk Z d w ++ ([(bh, .inr (7, [.ref (ba 0), .ref (bcd 0), .ref bs1, .ref bs2, .ref (bd 0), .ref bg]))] ++ (ck Z ba v1_403 ++ hk Z bcd (kp1_403, Y1_403))))))) H := hP
      have hD : va_D A ([(h, .inr (7, [.ref (a 0), .ref (cd 0), .ref s1, .ref s2, .ref (d 0), .ref g]))] ++ (ck Z a v1_393 ++ (hk Z cd (kp1_393, Y1_393) ++ (rk Z d w ++ ([(bh, .inr (7, [.ref (ba 0), .ref (bcd 0), .ref bs1, .ref bs2, .ref (bd 0), .ref bg]))] ++ (ck Z ba v1_403 ++ hk Z bcd (kp1_403, Y1_403))))))) := hD
      have hR403 : RS v1_403 (upd al 7 (cMvT (al 7) (nI k_385))) hh := by
        rw [e_v1_403]
        exact (oWt hRp hk_385).2
      have hk403 : kp1_403 ≤ 6 := by
        rw [e_kp1_403]
        exact oKp hbk6
      refine zTopI (y := (cMvR (al 7) (nI k_385))) ((oWt hRp hk_385).1) ?_
      refine lv_icmp_ne (tgt := 443) hx hb dL_isStep_406 (by decide) (fun c406 => (c406 rfl).elim) (fun c406 => ?_)
      refine lv_aload_n hx hb dL_isStep_409 rfl (lv_at hl 5 rfl) ?_
      refine lv_iconst (v := 3) hx hb dL_isStep_410 (by decide) ?_
      refine zCi (S := Unit) (ws1 := fun u => [(h, .inr (7, [.ref (a 0), .ref (cd 0), .ref s1, .ref s2, .ref (d 0), .ref g]))] ++ (ck Z a v1_393 ++ (hk Z cd (kp1_393, Y1_393) ++ (rk Z d w ++ ([(bh, .inr (7, [.ref (ba 0), .ref (bcd 0), .ref bs1, .ref bs2, .ref (bd 0), .ref bg]))] ++ (ck Z ba v1_403 ++ hk Z bcd (kp1_403, Y1_403))))))) (wr := [(bh, .inr (7, [.ref (ba 0), .ref (bcd 0), .ref bs1, .ref bs2, .ref (bd 0), .ref bg]))] ++ (ck Z ba v1_403 ++ hk Z bcd (kp1_403, Y1_403))) (va_runV (As := [.int 3]) (rest := []) ⟨hx, hb, hml, hown, hts⟩ (m_X7_count l G Z _ h a cd s1 s2 d g v1_393 kp1_393 Y1_393 w 3) (cwV 1 hts gL_isStep_X7_count rfl rfl rfl (by decide +kernel) ⟨Nat.le_of_ble_eq_true rfl, Nat.le_of_ble_eq_true rfl⟩) (zPreV hK hP hD hS hA hSW [0, 1, 2, 3, 4, 5, 6, 7, 8, 9, 10, 11, 12, 13, 14, 15, 16, 17, 18, 19, 20, 21, 22, 23, 24, 25, 26, 27, 28, 29, 30, 31, 32, 33, 34, 35, 36, 37, 38, 39, 40] rfl (by decide) 0 (ci := 7) rfl rfl rfl) rfl rfl hl.1 rfl (lv_room (Nat.le_of_ble_eq_true rfl)) dL_isStep_411 ⟨Nat.le_of_ble_eq_true rfl, Nat.le_of_ble_eq_true rfl⟩) hP hD hS hA [0, 1, 2, 3, 4, 5, 6, 7, 8, 9, 10, 11, 12, 13, 14, 15, 16, 17, 18, 19, 20, 21, 22, 23, 24, 25, 26, 27, 28, 29, 30, 31, 32, 33, 34, 35, 36, 37, 38, 39, 40] [41, 42, 43, 44, 45, 46, 47, 48, 49, 50, 51, 52, 53, 54, 55, 56, 57, 58, 59, 60, 61, 62, 63, 64, 65, 66, 67, 68, 69, 70, 71, 72, 73, 74, 75, 76, 77, 78] [38, 39, 40, 41, 42, 43, 44, 45, 46, 47, 48, 49, 50, 51, 52, 53, 54, 55, 56, 57, 58, 59, 60, 61, 62, 63, 64, 65, 66, 67, 68, 69, 70, 71, 72, 73, 74, 75, 76, 77, 78, 0, 1, 2, 3, 4, 5, 6, 7, 8, 9, 10, 11, 12, 13, 14, 15, 16, 17, 18, 19, 20, 21, 22, 23, 24, 25, 26, 27, 28, 29, 30, 31, 32, 33, 34, 35, 36, 37] rfl rfl (by decide) (by decide) (by decide) (fun _ => rfl) (fun r411 u H locs hw411 hP hD hS => ?_)
      try dsimp only at hw411
      subst hw411
      have hP : va_P G vwCl ([(h, .inr (7, [.ref (a 0), .ref (cd 0), .ref s1, .ref s2, .ref (d 0), .ref g]))] ++ (ck Z a v1_393 ++ (hk Z cd (kp1_393, Y1_393) ++ (rk Z d w ++ ([(bh, .inr (7, [.ref (ba 0), .ref (bcd 0), .ref bs1, .ref bs2, .ref (bd 0), .ref bg]))] ++ (ck Z ba v1_403 ++ hk Z bcd (kp1_403, Y1_403))))))) H := hP
      have hD : va_D A ([(h, .inr (7, [.ref (a 0), .ref (cd 0), .ref s1, .ref s2, .ref (d 0), .ref g]))] ++ (ck Z a v1_393 ++ (hk Z cd (kp1_393, Y1_393) ++ (rk Z d w ++ ([(bh, .inr (7, [.ref (ba 0), .ref (bcd 0), .ref bs1, .ref bs2, .ref (bd 0), .ref bg]))] ++ (ck Z ba v1_403 ++ hk Z bcd (kp1_403, Y1_403))))))) := hD
      refine zTopI (y := ((upd al 7 (cMvT (al 7) (nI k_385))) 7)) (oc3 hR393 _ _) ?_
      refine lv_iload hx hb dL_isStep_414 (lv_at hl 2 rfl) ?_
      refine lv_iconst (v := 1) hx hb dL_isStep_416 (by decide) ?_
      refine lv_iload hx hb dL_isStep_417 (lv_at hl 1 rfl) ?_
      refine lv_ishl hx hb dL_isStep_419 ?_
      refine lv_ixor hx hb dL_isStep_420 ?_
      refine lv_icmp_ne (tgt := 443) hx hb dL_isStep_421 (by decide) (fun c421 => (c421 (updS.trans rfl)).elim) (fun c421 => ?_)
      refine lv_iload hx hb dL_isStep_424 (lv_at hl 0 rfl) ?_
      refine lv_aload_n hx hb dL_isStep_426 rfl (lv_at hl 5 rfl) ?_
      refine lv_iconst (v := 3) hx hb dL_isStep_427 (by decide) ?_
      refine zCi (S := Unit) (ws1 := fun u => [(h, .inr (7, [.ref (a 0), .ref (cd 0), .ref s1, .ref s2, .ref (d 0), .ref g]))] ++ (ck Z a v1_393 ++ (hk Z cd (kp1_393, Y1_393) ++ (rk Z d w ++ ([(bh, .inr (7, [.ref (ba 0), .ref (bcd 0), .ref bs1, .ref bs2, .ref (bd 0), .ref bg]))] ++ (ck Z ba v1_403 ++ hk Z bcd (kp1_403, Y1_403))))))) (wr := [(bh, .inr (7, [.ref (ba 0), .ref (bcd 0), .ref bs1, .ref bs2, .ref (bd 0), .ref bg]))] ++ (ck Z ba v1_403 ++ hk Z bcd (kp1_403, Y1_403))) (va_runV (As := [.int 3]) (rest := [.int (cMvR (al 7) (nI k_385))]) ⟨hx, hb, hml, hown, hts⟩ (m_X7_count l G Z _ h a cd s1 s2 d g v1_393 kp1_393 Y1_393 w 3) (cwV 1 hts gL_isStep_X7_count rfl rfl rfl (by decide +kernel) ⟨Nat.le_of_ble_eq_true rfl, Nat.le_of_ble_eq_true rfl⟩) (zPreV hK hP hD hS hA hSW [0, 1, 2, 3, 4, 5, 6, 7, 8, 9, 10, 11, 12, 13, 14, 15, 16, 17, 18, 19, 20, 21, 22, 23, 24, 25, 26, 27, 28, 29, 30, 31, 32, 33, 34, 35, 36, 37, 38, 39, 40] rfl (by decide) 0 (ci := 7) rfl rfl rfl) rfl rfl hl.1 rfl (lv_room (Nat.le_of_ble_eq_true rfl)) dL_isStep_428 ⟨Nat.le_of_ble_eq_true rfl, Nat.le_of_ble_eq_true rfl⟩) hP hD hS hA [0, 1, 2, 3, 4, 5, 6, 7, 8, 9, 10, 11, 12, 13, 14, 15, 16, 17, 18, 19, 20, 21, 22, 23, 24, 25, 26, 27, 28, 29, 30, 31, 32, 33, 34, 35, 36, 37, 38, 39, 40] [41, 42, 43, 44, 45, 46, 47, 48, 49, 50, 51, 52, 53, 54, 55, 56, 57, 58, 59, 60, 61, 62, 63, 64, 65, 66, 67, 68, 69, 70, 71, 72, 73, 74, 75, 76, 77, 78] [38, 39, 40, 41, 42, 43, 44, 45, 46, 47, 48, 49, 50, 51, 52, 53, 54, 55, 56, 57, 58, 59, 60, 61, 62, 63, 64, 65, 66, 67, 68, 69, 70, 71, 72, 73, 74, 75, 76, 77, 78, 0, 1, 2, 3, 4, 5, 6, 7, 8, 9, 10, 11, 12, 13, 14, 15, 16, 17, 18, 19, 20, 21, 22, 23, 24, 25, 26, 27, 28, 29, 30, 31, 32, 33, 34, 35, 36, 37] rfl rfl (by decide) (by decide) (by decide) (fun _ => rfl) (fun r428 u H locs hw428 hP hD hS => ?_)
      try dsimp only at hw428
      subst hw428
      have hP : va_P G vwCl ([(h, .inr (7, [.ref (a 0), .ref (cd 0), .ref s1, .ref s2, .ref (d 0), .ref g]))] ++ (ck Z a v1_393 ++ (hk Z cd (kp1_393, Y1_393) ++ (rk Z d w ++ ([(bh, .inr (7, [.ref (ba 0), .ref (bcd 0), .ref bs1, .ref bs2, .ref (bd 0), .ref bg]))] ++ (ck Z ba v1_403 ++ hk Z bcd (kp1_403, Y1_403))))))) H := hP
      have hD : va_D A ([(h, .inr (7, [.ref (a 0), .ref (cd 0), .ref s1, .ref s2, .ref (d 0), .ref g]))] ++ (ck Z a v1_393 ++ (hk Z cd (kp1_393, Y1_393) ++ (rk Z d w ++ ([(bh, .inr (7, [.ref (ba 0), .ref (bcd 0), .ref bs1, .ref bs2, .ref (bd 0), .ref bg]))] ++ (ck Z ba v1_403 ++ hk Z bcd (kp1_403, Y1_403))))))) := hD
      refine zTopI (y := ((upd al 7 (cMvT (al 7) (nI k_385))) 7)) (oc3 hR393 _ _) ?_
      refine lv_iload hx hb dL_isStep_431 (lv_at hl 1 rfl) ?_
      refine lv_ishr hx hb dL_isStep_433 ?_
      refine lv_iconst (v := 1) hx hb dL_isStep_434 (by decide) ?_
      refine lv_iand hx hb dL_isStep_435 ?_
      refine lv_icmp_ne (tgt := 443) hx hb dL_isStep_436 (by decide) (fun c436 => (c436 (by rw [updS]; rfl)).elim) (fun c436 => ?_)
      refine lv_iconst (v := 1) hx hb dL_isStep_439 (by decide) ?_
      refine lv_goto (tgt := 444) hx hb dL_isStep_440 (by decide) ?_
      exact W.zret hx hb hr (rfl) (zEi (v1_393, kp1_393, Y1_393, v1_403, kp1_403, Y1_403) (by
          refine ⟨rfl, ?_⟩
          unfold oStp
          exact ⟨_, _, hR393, hR403, WI_cg hWI (fun j hj => updN (by omega)), by omega, hk393, hk403⟩) hP hD hS) hS.2.2 dL_isStep_444
    · intro K382
      refine lv_bipush (v := 14) hx hb dL_isStep_19 (by decide) ?_
      refine zCi (S := Nat) (ws1 := fun u => [(h, .inr (7, [.ref (a 0), .ref (cd 0), .ref s1, .ref s2, .ref (d 0), .ref g]))] ++ (ck Z a v ++ (hk Z cd (kp, Y) ++ (rk Z d w ++ ([(bh, .inr (7, [.ref (ba 0), .ref (bcd 0), .ref bs1, .ref bs2, .ref (bd 0), .ref bg]))] ++ (ck Z ba bv ++ hk Z bcd (bkp, bY))))))) (wr := [(h, .inr (7, [.ref (a 0), .ref (cd 0), .ref s1, .ref s2, .ref (d 0), .ref g]))] ++ (ck Z a v ++ (hk Z cd (kp, Y) ++ (rk Z d w ++ ([(bh, .inr (7, [.ref (ba 0), .ref (bcd 0), .ref bs1, .ref bs2, .ref (bd 0), .ref bg]))] ++ (ck Z ba bv ++ hk Z bcd (bkp, bY))))))) (va_runS (As := [.int x, .int 14]) (rest := []) ⟨hx, hb, hml, hown, hts⟩ (m_L_up l G Z _ x 14 (by
          decide) (by
          decide)) (va_cwS 2 hts gL_isStep_L_up rfl rfl rfl (by decide +kernel) ⟨Nat.le_of_ble_eq_true rfl, Nat.le_of_ble_eq_true rfl⟩) (zPreS hK hP hD hS hA hSW [] rfl (by decide)) rfl rfl hl.1 rfl (lv_room (Nat.le_of_ble_eq_true rfl)) dL_isStep_21 ⟨Nat.le_of_ble_eq_true rfl, Nat.le_of_ble_eq_true rfl⟩) hP hD hS hA [] [0, 1, 2, 3, 4, 5, 6, 7, 8, 9, 10, 11, 12, 13, 14, 15, 16, 17, 18, 19, 20, 21, 22, 23, 24, 25, 26, 27, 28, 29, 30, 31, 32, 33, 34, 35, 36, 37, 38, 39, 40, 41, 42, 43, 44, 45, 46, 47, 48, 49, 50, 51, 52, 53, 54, 55, 56, 57, 58, 59, 60, 61, 62, 63, 64, 65, 66, 67, 68, 69, 70, 71, 72, 73, 74, 75, 76, 77, 78] [0, 1, 2, 3, 4, 5, 6, 7, 8, 9, 10, 11, 12, 13, 14, 15, 16, 17, 18, 19, 20, 21, 22, 23, 24, 25, 26, 27, 28, 29, 30, 31, 32, 33, 34, 35, 36, 37, 38, 39, 40, 41, 42, 43, 44, 45, 46, 47, 48, 49, 50, 51, 52, 53, 54, 55, 56, 57, 58, 59, 60, 61, 62, 63, 64, 65, 66, 67, 68, 69, 70, 71, 72, 73, 74, 75, 76, 77, 78] rfl rfl (by decide) (by decide) (by decide) (fun _ => rfl) (fun r21 u H locs hw21 hP hD hS => ?_)
      obtain ⟨k_21, rfl⟩ : ∃ z, z = u := ⟨_, rfl⟩
      try dsimp only at hw21
      have hP : va_P G vwCl ([(h, .inr (7, [.ref (a 0), .ref (cd 0), .ref s1, .ref s2, .ref (d 0), .ref g]))] ++ (ck Z a v ++ (hk Z cd (kp, Y) ++ (rk Z d w ++ ([(bh, .inr (7, [.ref (ba 0), .ref (bcd 0), .ref bs1, .ref bs2, .ref (bd 0), .ref bg]))] ++ (ck Z ba bv ++ hk Z bcd (bkp, bY))))))) H := hP
      have hD : va_D A ([(h, .inr (7, [.ref (a 0), .ref (cd 0), .ref s1, .ref s2, .ref (d 0), .ref g]))] ++ (ck Z a v ++ (hk Z cd (kp, Y) ++ (rk Z d w ++ ([(bh, .inr (7, [.ref (ba 0), .ref (bcd 0), .ref bs1, .ref bs2, .ref (bd 0), .ref bg]))] ++ (ck Z ba bv ++ hk Z bcd (bkp, bY))))))) := hD
      obtain ⟨rfl, hk_21⟩ := hw21
      by_cases c24_0 : (nI k_21) = 0
      · refine lv_tableIn (off := 60) (tgt := 84) hx hb dL_isStep_24 (zTin1 c24_0 (by decide)) (zTin2 c24_0 (by decide)) (zTin3 c24_0 (by decide)) (by decide) ?_
        exact K84 () trivial _ _ _ hP hD hS (lv_sub hl [0, 1, 2, 3, 4, 5] rfl)
      by_cases c24_1 : (nI k_21) = 1
      · refine lv_tableIn (off := 60) (tgt := 84) hx hb dL_isStep_24 (zTin1 c24_1 (by decide)) (zTin2 c24_1 (by decide)) (zTin3 c24_1 (by decide)) (by decide) ?_
        exact K84 () trivial _ _ _ hP hD hS (lv_sub hl [0, 1, 2, 3, 4, 5] rfl)
      by_cases c24_2 : (nI k_21) = 2
      · refine lv_tableIn (off := 60) (tgt := 84) hx hb dL_isStep_24 (zTin1 c24_2 (by decide)) (zTin2 c24_2 (by decide)) (zTin3 c24_2 (by decide)) (by decide) ?_
        exact K84 () trivial _ _ _ hP hD hS (lv_sub hl [0, 1, 2, 3, 4, 5] rfl)
      by_cases c24_3 : (nI k_21) = 3
      · refine lv_tableIn (off := 60) (tgt := 84) hx hb dL_isStep_24 (zTin1 c24_3 (by decide)) (zTin2 c24_3 (by decide)) (zTin3 c24_3 (by decide)) (by decide) ?_
        exact K84 () trivial _ _ _ hP hD hS (lv_sub hl [0, 1, 2, 3, 4, 5] rfl)
      by_cases c24_4 : (nI k_21) = 4
      · refine lv_tableIn (off := 60) (tgt := 84) hx hb dL_isStep_24 (zTin1 c24_4 (by decide)) (zTin2 c24_4 (by decide)) (zTin3 c24_4 (by decide)) (by decide) ?_
        exact K84 () trivial _ _ _ hP hD hS (lv_sub hl [0, 1, 2, 3, 4, 5] rfl)
      by_cases c24_5 : (nI k_21) = 5
      · refine lv_tableIn (off := 60) (tgt := 84) hx hb dL_isStep_24 (zTin1 c24_5 (by decide)) (zTin2 c24_5 (by decide)) (zTin3 c24_5 (by decide)) (by decide) ?_
        exact K84 () trivial _ _ _ hP hD hS (lv_sub hl [0, 1, 2, 3, 4, 5] rfl)
      by_cases c24_6 : (nI k_21) = 6
      · refine lv_tableIn (off := 358) (tgt := 382) hx hb dL_isStep_24 (zTin1 c24_6 (by decide)) (zTin2 c24_6 (by decide)) (zTin3 c24_6 (by decide)) (by decide) ?_
        exact K382 () trivial _ _ _ hP hD hS (lv_sub hl [0, 1, 2, 3, 4, 5] rfl)
      by_cases c24_7 : (nI k_21) = 7
      · refine lv_tableIn (off := 358) (tgt := 382) hx hb dL_isStep_24 (zTin1 c24_7 (by decide)) (zTin2 c24_7 (by decide)) (zTin3 c24_7 (by decide)) (by decide) ?_
        exact K382 () trivial _ _ _ hP hD hS (lv_sub hl [0, 1, 2, 3, 4, 5] rfl)
      by_cases c24_8 : (nI k_21) = 8
      · refine lv_tableIn (off := 358) (tgt := 382) hx hb dL_isStep_24 (zTin1 c24_8 (by decide)) (zTin2 c24_8 (by decide)) (zTin3 c24_8 (by decide)) (by decide) ?_
        exact K382 () trivial _ _ _ hP hD hS (lv_sub hl [0, 1, 2, 3, 4, 5] rfl)
      by_cases c24_9 : (nI k_21) = 9
      · refine lv_tableIn (off := 421) (tgt := 445) hx hb dL_isStep_24 (zTin1 c24_9 (by decide)) (zTin2 c24_9 (by decide)) (zTin3 c24_9 (by decide)) (by decide) ?_
        refine lv_iload_n hx hb dL_isStep_445 rfl (lv_at hl 2 rfl) ?_
        refine lv_iconst (v := 3) hx hb dL_isStep_446 (by decide) ?_
        refine zCi (S := Nat) (ws1 := fun u => [(h, .inr (7, [.ref (a 0), .ref (cd 0), .ref s1, .ref s2, .ref (d 0), .ref g]))] ++ (ck Z a v ++ (hk Z cd (kp, Y) ++ (rk Z d w ++ ([(bh, .inr (7, [.ref (ba 0), .ref (bcd 0), .ref bs1, .ref bs2, .ref (bd 0), .ref bg]))] ++ (ck Z ba bv ++ hk Z bcd (bkp, bY))))))) (wr := [(h, .inr (7, [.ref (a 0), .ref (cd 0), .ref s1, .ref s2, .ref (d 0), .ref g]))] ++ (ck Z a v ++ (hk Z cd (kp, Y) ++ (rk Z d w ++ ([(bh, .inr (7, [.ref (ba 0), .ref (bcd 0), .ref bs1, .ref bs2, .ref (bd 0), .ref bg]))] ++ (ck Z ba bv ++ hk Z bcd (bkp, bY))))))) (va_runS (As := [.int (x >>> (4 &&& 31)), .int 3]) (rest := []) ⟨hx, hb, hml, hown, hts⟩ (m_L_up l G Z _ (x >>> (4 &&& 31)) 3 (by
            decide) (by
            decide)) (va_cwS 2 hts gL_isStep_L_up rfl rfl rfl (by decide +kernel) ⟨Nat.le_of_ble_eq_true rfl, Nat.le_of_ble_eq_true rfl⟩) (zPreS hK hP hD hS hA hSW [] rfl (by decide)) rfl rfl hl.1 rfl (lv_room (Nat.le_of_ble_eq_true rfl)) dL_isStep_447 ⟨Nat.le_of_ble_eq_true rfl, Nat.le_of_ble_eq_true rfl⟩) hP hD hS hA [] [0, 1, 2, 3, 4, 5, 6, 7, 8, 9, 10, 11, 12, 13, 14, 15, 16, 17, 18, 19, 20, 21, 22, 23, 24, 25, 26, 27, 28, 29, 30, 31, 32, 33, 34, 35, 36, 37, 38, 39, 40, 41, 42, 43, 44, 45, 46, 47, 48, 49, 50, 51, 52, 53, 54, 55, 56, 57, 58, 59, 60, 61, 62, 63, 64, 65, 66, 67, 68, 69, 70, 71, 72, 73, 74, 75, 76, 77, 78] [0, 1, 2, 3, 4, 5, 6, 7, 8, 9, 10, 11, 12, 13, 14, 15, 16, 17, 18, 19, 20, 21, 22, 23, 24, 25, 26, 27, 28, 29, 30, 31, 32, 33, 34, 35, 36, 37, 38, 39, 40, 41, 42, 43, 44, 45, 46, 47, 48, 49, 50, 51, 52, 53, 54, 55, 56, 57, 58, 59, 60, 61, 62, 63, 64, 65, 66, 67, 68, 69, 70, 71, 72, 73, 74, 75, 76, 77, 78] rfl rfl (by decide) (by decide) (by decide) (fun _ => rfl) (fun r447 u H locs hw447 hP hD hS => ?_)
        obtain ⟨k_447, rfl⟩ : ∃ z, z = u := ⟨_, rfl⟩
        try dsimp only at hw447
        have hP : va_P G vwCl ([(h, .inr (7, [.ref (a 0), .ref (cd 0), .ref s1, .ref s2, .ref (d 0), .ref g]))] ++ (ck Z a v ++ (hk Z cd (kp, Y) ++ (rk Z d w ++ ([(bh, .inr (7, [.ref (ba 0), .ref (bcd 0), .ref bs1, .ref bs2, .ref (bd 0), .ref bg]))] ++ (ck Z ba bv ++ hk Z bcd (bkp, bY))))))) H := hP
        have hD : va_D A ([(h, .inr (7, [.ref (a 0), .ref (cd 0), .ref s1, .ref s2, .ref (d 0), .ref g]))] ++ (ck Z a v ++ (hk Z cd (kp, Y) ++ (rk Z d w ++ ([(bh, .inr (7, [.ref (ba 0), .ref (bcd 0), .ref bs1, .ref bs2, .ref (bd 0), .ref bg]))] ++ (ck Z ba bv ++ hk Z bcd (bkp, bY))))))) := hD
        obtain ⟨rfl, hk_447⟩ := hw447
        refine lv_if_gt (tgt := 485) hx hb dL_isStep_450 (by decide) (fun c450 => ?_) (fun c450 => ?_)
        · refine lv_iconst (v := 1) hx hb dL_isStep_485 (by decide) ?_
          refine lv_goto (tgt := 490) hx hb dL_isStep_486 (by decide) ?_
          exact W.zret hx hb hr (rfl) (zEi (v, kp, Y, bv, bkp, bY) (by
              refine ⟨rfl, ?_⟩
              unfold oStp
              exact ⟨_, _, hRo, hRp, hWI, by omega, hk6, hbk6⟩) hP hD hS) hS.2.2 dL_isStep_490
        · refine lv_aload_n hx hb dL_isStep_453 rfl (lv_at hl 3 rfl) ?_
          refine zCi (S := CV × Nat × HV) (ws1 := fun u => [(h, .inr (7, [.ref (a 0), .ref (cd 0), .ref s1, .ref s2, .ref (d 0), .ref g]))] ++ (ck Z a u.1 ++ (hk Z cd (u.2.1, u.2.2) ++ (rk Z d w ++ ([(bh, .inr (7, [.ref (ba 0), .ref (bcd 0), .ref bs1, .ref bs2, .ref (bd 0), .ref bg]))] ++ (ck Z ba bv ++ hk Z bcd (bkp, bY))))))) (wr := rk Z d w ++ ([(bh, .inr (7, [.ref (ba 0), .ref (bcd 0), .ref bs1, .ref bs2, .ref (bd 0), .ref bg]))] ++ (ck Z ba bv ++ hk Z bcd (bkp, bY)))) (va_runV (As := []) (rest := []) ⟨hx, hb, hml, hown, hts⟩ (m_X7_zero l G Z _ h a cd s1 s2 d g v kp Y (by
              exact hk6)) (cwV 0 hts gL_isStep_X7_zero rfl rfl rfl (by decide +kernel) ⟨Nat.le_of_ble_eq_true rfl, Nat.le_of_ble_eq_true rfl⟩) (zPreV hK hP hD hS hA hSW [0, 1, 2, 3, 4, 5, 6, 7, 8, 9, 10, 11, 12, 13, 14, 15, 16, 17, 18, 19, 20, 21, 22, 23, 24, 25, 26, 27, 28, 29, 30, 31, 32, 33, 34, 35, 36, 37] rfl (by decide) 0 (ci := 7) rfl rfl rfl) rfl rfl hl.1 rfl (lv_room (Nat.le_of_ble_eq_true rfl)) dL_isStep_454 ⟨Nat.le_of_ble_eq_true rfl, Nat.le_of_ble_eq_true rfl⟩) hP hD hS hA [0, 1, 2, 3, 4, 5, 6, 7, 8, 9, 10, 11, 12, 13, 14, 15, 16, 17, 18, 19, 20, 21, 22, 23, 24, 25, 26, 27, 28, 29, 30, 31, 32, 33, 34, 35, 36, 37] [38, 39, 40, 41, 42, 43, 44, 45, 46, 47, 48, 49, 50, 51, 52, 53, 54, 55, 56, 57, 58, 59, 60, 61, 62, 63, 64, 65, 66, 67, 68, 69, 70, 71, 72, 73, 74, 75, 76, 77, 78] [41, 42, 43, 44, 45, 46, 47, 48, 49, 50, 51, 52, 53, 54, 55, 56, 57, 58, 59, 60, 61, 62, 63, 64, 65, 66, 67, 68, 69, 70, 71, 72, 73, 74, 75, 76, 77, 78, 0, 1, 2, 3, 4, 5, 6, 7, 8, 9, 10, 11, 12, 13, 14, 15, 16, 17, 18, 19, 20, 21, 22, 23, 24, 25, 26, 27, 28, 29, 30, 31, 32, 33, 34, 35, 36, 37, 38, 39, 40] rfl rfl (by decide) (by decide) (by decide) (fun _ => rfl) (fun r454 u H locs hw454 hP hD hS => ?_)
          obtain ⟨v1_454, kp1_454, Y1_454⟩ := u
          try dsimp only at hw454
          obtain ⟨rfl, e_v1_454, e_kp1_454, e_Y1_454⟩ := hw454
          have hP : va_P G vwCl ([(h, .inr (7, [.ref (a 0), .ref (cd 0), .ref s1, .ref s2, .ref (d 0), .ref g]))] ++ (ck Z a v1_454 ++ (hk Z cd (kp1_454, Y1_454) ++ (rk Z d w ++ ([(bh, .inr (7, [.ref (ba 0), .ref (bcd 0), .ref bs1, .ref bs2, .ref (bd 0), .ref bg]))] ++ (ck Z ba bv ++ hk Z bcd (bkp, bY))))))) H := hP
          have hD : va_D A ([(h, .inr (7, [.ref (a 0), .ref (cd 0), .ref s1, .ref s2, .ref (d 0), .ref g]))] ++ (ck Z a v1_454 ++ (hk Z cd (kp1_454, Y1_454) ++ (rk Z d w ++ ([(bh, .inr (7, [.ref (ba 0), .ref (bcd 0), .ref bs1, .ref bs2, .ref (bd 0), .ref bg]))] ++ (ck Z ba bv ++ hk Z bcd (bkp, bY))))))) := hD
          have hR454 : RS v1_454 (mZeA al) hh := by
            rw [e_v1_454]
            exact RS_ze hRo
          have hk454 : kp1_454 ≤ 6 := by
            rw [e_kp1_454]
            exact oKz hk6
          refine zTopI (y := (al 5 + 1000000000)) (congrArg (· + 1000000000) hRo.off) ?_
          refine lv_aload_n hx hb dL_isStep_457 rfl (lv_at hl 4 rfl) ?_
          refine zCi (S := CV × Nat × HV) (ws1 := fun u => [(h, .inr (7, [.ref (a 0), .ref (cd 0), .ref s1, .ref s2, .ref (d 0), .ref g]))] ++ (ck Z a v1_454 ++ (hk Z cd (kp1_454, Y1_454) ++ (rk Z d w ++ ([(bh, .inr (7, [.ref (ba 0), .ref (bcd 0), .ref bs1, .ref bs2, .ref (bd 0), .ref bg]))] ++ (ck Z ba u.1 ++ hk Z bcd (u.2.1, u.2.2))))))) (wr := [(h, .inr (7, [.ref (a 0), .ref (cd 0), .ref s1, .ref s2, .ref (d 0), .ref g]))] ++ (ck Z a v1_454 ++ (hk Z cd (kp1_454, Y1_454) ++ rk Z d w))) (va_runV (As := []) (rest := [.int (al 5 + 1000000000)]) ⟨hx, hb, hml, hown, hts⟩ (m_X7_zero l G Z _ bh ba bcd bs1 bs2 bd bg bv bkp bY (by
              exact hbk6)) (cwV 0 hts gL_isStep_X7_zero rfl rfl rfl (by decide +kernel) ⟨Nat.le_of_ble_eq_true rfl, Nat.le_of_ble_eq_true rfl⟩) (zPreV hK hP hD hS hA hSW [41, 42, 43, 44, 45, 46, 47, 48, 49, 50, 51, 52, 53, 54, 55, 56, 57, 58, 59, 60, 61, 62, 63, 64, 65, 66, 67, 68, 69, 70, 71, 72, 73, 74, 75, 76, 77, 78] rfl (by decide) 41 (ci := 7) rfl rfl rfl) rfl rfl hl.1 rfl (lv_room (Nat.le_of_ble_eq_true rfl)) dL_isStep_458 ⟨Nat.le_of_ble_eq_true rfl, Nat.le_of_ble_eq_true rfl⟩) hP hD hS hA [41, 42, 43, 44, 45, 46, 47, 48, 49, 50, 51, 52, 53, 54, 55, 56, 57, 58, 59, 60, 61, 62, 63, 64, 65, 66, 67, 68, 69, 70, 71, 72, 73, 74, 75, 76, 77, 78] [0, 1, 2, 3, 4, 5, 6, 7, 8, 9, 10, 11, 12, 13, 14, 15, 16, 17, 18, 19, 20, 21, 22, 23, 24, 25, 26, 27, 28, 29, 30, 31, 32, 33, 34, 35, 36, 37, 38, 39, 40] [0, 1, 2, 3, 4, 5, 6, 7, 8, 9, 10, 11, 12, 13, 14, 15, 16, 17, 18, 19, 20, 21, 22, 23, 24, 25, 26, 27, 28, 29, 30, 31, 32, 33, 34, 35, 36, 37, 38, 39, 40, 41, 42, 43, 44, 45, 46, 47, 48, 49, 50, 51, 52, 53, 54, 55, 56, 57, 58, 59, 60, 61, 62, 63, 64, 65, 66, 67, 68, 69, 70, 71, 72, 73, 74, 75, 76, 77, 78] rfl rfl (by decide) (by decide) (by decide) (fun _ => rfl) (fun r458 u H locs hw458 hP hD hS => ?_)
          obtain ⟨v1_458, kp1_458, Y1_458⟩ := u
          try dsimp only at hw458
          obtain ⟨rfl, e_v1_458, e_kp1_458, e_Y1_458⟩ := hw458
          have hP : va_P G vwCl ([(h, .inr (7, [.ref (a 0), .ref (cd 0), .ref s1, .ref s2, .ref (d 0), .ref g]))] ++ (ck Z a v1_454 ++ (hk Z cd (kp1_454, Y1_454) ++ (rk Z d w ++ ([(bh, .inr (7, [.ref (ba 0), .ref (bcd 0), .ref bs1, .ref bs2, .ref (bd 0), .ref bg]))] ++ (ck Z ba v1_458 ++ hk Z bcd (kp1_458, Y1_458))))))) H := hP
          have hD : va_D A ([(h, .inr (7, [.ref (a 0), .ref (cd 0), .ref s1, .ref s2, .ref (d 0), .ref g]))] ++ (ck Z a v1_454 ++ (hk Z cd (kp1_454, Y1_454) ++ (rk Z d w ++ ([(bh, .inr (7, [.ref (ba 0), .ref (bcd 0), .ref bs1, .ref bs2, .ref (bd 0), .ref bg]))] ++ (ck Z ba v1_458 ++ hk Z bcd (kp1_458, Y1_458))))))) := hD
          have hR458 : RS v1_458 (mZeA al) hh := by
            rw [e_v1_458]
            exact RS_ze hRp
          have hk458 : kp1_458 ≤ 6 := by
            rw [e_kp1_458]
            exact oKz hbk6
          refine zTopI (y := (al 5 + 1000000000)) (congrArg (· + 1000000000) hRp.off) ?_
          refine lv_icmp_ne (tgt := 489) hx hb dL_isStep_461 (by decide) (fun c461 => (c461 rfl).elim) (fun c461 => ?_)
          refine lv_aload_n hx hb dL_isStep_464 rfl (lv_at hl 3 rfl) ?_
          refine lv_iconst (v := 1) hx hb dL_isStep_465 (by decide) ?_
          refine zCi (S := Unit) (ws1 := fun u => [(h, .inr (7, [.ref (a 0), .ref (cd 0), .ref s1, .ref s2, .ref (d 0), .ref g]))] ++ (ck Z a v1_454 ++ (hk Z cd (kp1_454, Y1_454) ++ (rk Z d w ++ ([(bh, .inr (7, [.ref (ba 0), .ref (bcd 0), .ref bs1, .ref bs2, .ref (bd 0), .ref bg]))] ++ (ck Z ba v1_458 ++ hk Z bcd (kp1_458, Y1_458))))))) (wr := [(bh, .inr (7, [.ref (ba 0), .ref (bcd 0), .ref bs1, .ref bs2, .ref (bd 0), .ref bg]))] ++ (ck Z ba v1_458 ++ hk Z bcd (kp1_458, Y1_458))) (va_runV (As := [.int 1]) (rest := []) ⟨hx, hb, hml, hown, hts⟩ (m_X7_count l G Z _ h a cd s1 s2 d g v1_454 kp1_454 Y1_454 w 1) (cwV 1 hts gL_isStep_X7_count rfl rfl rfl (by decide +kernel) ⟨Nat.le_of_ble_eq_true rfl, Nat.le_of_ble_eq_true rfl⟩) (zPreV hK hP hD hS hA hSW [0, 1, 2, 3, 4, 5, 6, 7, 8, 9, 10, 11, 12, 13, 14, 15, 16, 17, 18, 19, 20, 21, 22, 23, 24, 25, 26, 27, 28, 29, 30, 31, 32, 33, 34, 35, 36, 37, 38, 39, 40] rfl (by decide) 0 (ci := 7) rfl rfl rfl) rfl rfl hl.1 rfl (lv_room (Nat.le_of_ble_eq_true rfl)) dL_isStep_466 ⟨Nat.le_of_ble_eq_true rfl, Nat.le_of_ble_eq_true rfl⟩) hP hD hS hA [0, 1, 2, 3, 4, 5, 6, 7, 8, 9, 10, 11, 12, 13, 14, 15, 16, 17, 18, 19, 20, 21, 22, 23, 24, 25, 26, 27, 28, 29, 30, 31, 32, 33, 34, 35, 36, 37, 38, 39, 40] [41, 42, 43, 44, 45, 46, 47, 48, 49, 50, 51, 52, 53, 54, 55, 56, 57, 58, 59, 60, 61, 62, 63, 64, 65, 66, 67, 68, 69, 70, 71, 72, 73, 74, 75, 76, 77, 78] [38, 39, 40, 41, 42, 43, 44, 45, 46, 47, 48, 49, 50, 51, 52, 53, 54, 55, 56, 57, 58, 59, 60, 61, 62, 63, 64, 65, 66, 67, 68, 69, 70, 71, 72, 73, 74, 75, 76, 77, 78, 0, 1, 2, 3, 4, 5, 6, 7, 8, 9, 10, 11, 12, 13, 14, 15, 16, 17, 18, 19, 20, 21, 22, 23, 24, 25, 26, 27, 28, 29, 30, 31, 32, 33, 34, 35, 36, 37] rfl rfl (by decide) (by decide) (by decide) (fun _ => rfl) (fun r466 u H locs hw466 hP hD hS => ?_)
          try dsimp only at hw466
          subst hw466
          have hP : va_P G vwCl ([(h, .inr (7, [.ref (a 0), .ref (cd 0), .ref s1, .ref s2, .ref (d 0), .ref g]))] ++ (ck Z a v1_454 ++ (hk Z cd (kp1_454, Y1_454) ++ (rk Z d w ++ ([(bh, .inr (7, [.ref (ba 0), .ref (bcd 0), .ref bs1, .ref bs2, .ref (bd 0), .ref bg]))] ++ (ck Z ba v1_458 ++ hk Z bcd (kp1_458, Y1_458))))))) H := hP
          have hD : va_D A ([(h, .inr (7, [.ref (a 0), .ref (cd 0), .ref s1, .ref s2, .ref (d 0), .ref g]))] ++ (ck Z a v1_454 ++ (hk Z cd (kp1_454, Y1_454) ++ (rk Z d w ++ ([(bh, .inr (7, [.ref (ba 0), .ref (bcd 0), .ref bs1, .ref bs2, .ref (bd 0), .ref bg]))] ++ (ck Z ba v1_458 ++ hk Z bcd (kp1_458, Y1_458))))))) := hD
          refine zTopI (y := ((mZeA al) 5 + 1000000000)) (oc1 hR454 _ _) ?_
          refine lv_ldc (v := 1000000000) hx hb hown k_38 dL_isStep_469 ?_
          refine lv_icmp_ne (tgt := 489) hx hb dL_isStep_471 (by decide) (fun c471 => (c471 (Int32.zero_add _)).elim) (fun c471 => ?_)
          refine lv_aload_n hx hb dL_isStep_474 rfl (lv_at hl 3 rfl) ?_
          refine lv_iconst (v := 2) hx hb dL_isStep_475 (by decide) ?_
          refine zCi (S := Unit) (ws1 := fun u => [(h, .inr (7, [.ref (a 0), .ref (cd 0), .ref s1, .ref s2, .ref (d 0), .ref g]))] ++ (ck Z a v1_454 ++ (hk Z cd (kp1_454, Y1_454) ++ (rk Z d w ++ ([(bh, .inr (7, [.ref (ba 0), .ref (bcd 0), .ref bs1, .ref bs2, .ref (bd 0), .ref bg]))] ++ (ck Z ba v1_458 ++ hk Z bcd (kp1_458, Y1_458))))))) (wr := [(bh, .inr (7, [.ref (ba 0), .ref (bcd 0), .ref bs1, .ref bs2, .ref (bd 0), .ref bg]))] ++ (ck Z ba v1_458 ++ hk Z bcd (kp1_458, Y1_458))) (va_runV (As := [.int 2]) (rest := []) ⟨hx, hb, hml, hown, hts⟩ (m_X7_count l G Z _ h a cd s1 s2 d g v1_454 kp1_454 Y1_454 w 2) (cwV 1 hts gL_isStep_X7_count rfl rfl rfl (by decide +kernel) ⟨Nat.le_of_ble_eq_true rfl, Nat.le_of_ble_eq_true rfl⟩) (zPreV hK hP hD hS hA hSW [0, 1, 2, 3, 4, 5, 6, 7, 8, 9, 10, 11, 12, 13, 14, 15, 16, 17, 18, 19, 20, 21, 22, 23, 24, 25, 26, 27, 28, 29, 30, 31, 32, 33, 34, 35, 36, 37, 38, 39, 40] rfl (by decide) 0 (ci := 7) rfl rfl rfl) rfl rfl hl.1 rfl (lv_room (Nat.le_of_ble_eq_true rfl)) dL_isStep_476 ⟨Nat.le_of_ble_eq_true rfl, Nat.le_of_ble_eq_true rfl⟩) hP hD hS hA [0, 1, 2, 3, 4, 5, 6, 7, 8, 9, 10, 11, 12, 13, 14, 15, 16, 17, 18, 19, 20, 21, 22, 23, 24, 25, 26, 27, 28, 29, 30, 31, 32, 33, 34, 35, 36, 37, 38, 39, 40] [41, 42, 43, 44, 45, 46, 47, 48, 49, 50, 51, 52, 53, 54, 55, 56, 57, 58, 59, 60, 61, 62, 63, 64, 65, 66, 67, 68, 69, 70, 71, 72, 73, 74, 75, 76, 77, 78] [38, 39, 40, 41, 42, 43, 44, 45, 46, 47, 48, 49, 50, 51, 52, 53, 54, 55, 56, 57, 58, 59, 60, 61, 62, 63, 64, 65, 66, 67, 68, 69, 70, 71, 72, 73, 74, 75, 76, 77, 78, 0, 1, 2, 3, 4, 5, 6, 7, 8, 9, 10, 11, 12, 13, 14, 15, 16, 17, 18, 19, 20, 21, 22, 23, 24, 25, 26, 27, 28, 29, 30, 31, 32, 33, 34, 35, 36, 37] rfl rfl (by decide) (by decide) (by decide) (fun _ => rfl) (fun r476 u H locs hw476 hP hD hS => ?_)
          try dsimp only at hw476
          subst hw476
          have hP : va_P G vwCl ([(h, .inr (7, [.ref (a 0), .ref (cd 0), .ref s1, .ref s2, .ref (d 0), .ref g]))] ++ (ck Z a v1_454 ++ (hk Z cd (kp1_454, Y1_454) ++ (rk Z d w ++ ([(bh, .inr (7, [.ref (ba 0), .ref (bcd 0), .ref bs1, .ref bs2, .ref (bd 0), .ref bg]))] ++ (ck Z ba v1_458 ++ hk Z bcd (kp1_458, Y1_458))))))) H := hP
          have hD : va_D A ([(h, .inr (7, [.ref (a 0), .ref (cd 0), .ref s1, .ref s2, .ref (d 0), .ref g]))] ++ (ck Z a v1_454 ++ (hk Z cd (kp1_454, Y1_454) ++ (rk Z d w ++ ([(bh, .inr (7, [.ref (ba 0), .ref (bcd 0), .ref bs1, .ref bs2, .ref (bd 0), .ref bg]))] ++ (ck Z ba v1_458 ++ hk Z bcd (kp1_458, Y1_458))))))) := hD
          refine zTopI (y := ((mZeA al) 6 + 1000)) (oc2 hR454 _ _) ?_
          refine lv_sipush (v := 1000) hx hb dL_isStep_479 (by decide) ?_
          refine lv_icmp_ne (tgt := 489) hx hb dL_isStep_482 (by decide) (fun c482 => (c482 (Int32.zero_add _)).elim) (fun c482 => ?_)
          refine lv_iconst (v := 1) hx hb dL_isStep_485 (by decide) ?_
          refine lv_goto (tgt := 490) hx hb dL_isStep_486 (by decide) ?_
          exact W.zret hx hb hr (rfl) (zEi (v1_454, kp1_454, Y1_454, v1_458, kp1_458, Y1_458) (by
              refine ⟨rfl, ?_⟩
              unfold oStp
              exact ⟨_, _, hR454, hR458, WI_cg hWI (fun j hj => by unfold mZeA; rw [updN (by omega), updN (by omega)]), by omega, hk454, hk458⟩) hP hD hS) hS.2.2 dL_isStep_490
      by_cases c24_10 : (nI k_21) = 10
      · refine lv_tableIn (off := 467) (tgt := 491) hx hb dL_isStep_24 (zTin1 c24_10 (by decide)) (zTin2 c24_10 (by decide)) (zTin3 c24_10 (by decide)) (by decide) ?_
        refine lv_iload_n hx hb dL_isStep_491 rfl (lv_at hl 2 rfl) ?_
        refine lv_bipush (v := 71) hx hb dL_isStep_492 (by decide) ?_
        refine zCi (S := Nat) (ws1 := fun u => [(h, .inr (7, [.ref (a 0), .ref (cd 0), .ref s1, .ref s2, .ref (d 0), .ref g]))] ++ (ck Z a v ++ (hk Z cd (kp, Y) ++ (rk Z d w ++ ([(bh, .inr (7, [.ref (ba 0), .ref (bcd 0), .ref bs1, .ref bs2, .ref (bd 0), .ref bg]))] ++ (ck Z ba bv ++ hk Z bcd (bkp, bY))))))) (wr := [(h, .inr (7, [.ref (a 0), .ref (cd 0), .ref s1, .ref s2, .ref (d 0), .ref g]))] ++ (ck Z a v ++ (hk Z cd (kp, Y) ++ (rk Z d w ++ ([(bh, .inr (7, [.ref (ba 0), .ref (bcd 0), .ref bs1, .ref bs2, .ref (bd 0), .ref bg]))] ++ (ck Z ba bv ++ hk Z bcd (bkp, bY))))))) (va_runS (As := [.int (x >>> (4 &&& 31)), .int 71]) (rest := []) ⟨hx, hb, hml, hown, hts⟩ (m_L_up l G Z _ (x >>> (4 &&& 31)) 71 (by
            decide) (by
            decide)) (va_cwS 2 hts gL_isStep_L_up rfl rfl rfl (by decide +kernel) ⟨Nat.le_of_ble_eq_true rfl, Nat.le_of_ble_eq_true rfl⟩) (zPreS hK hP hD hS hA hSW [] rfl (by decide)) rfl rfl hl.1 rfl (lv_room (Nat.le_of_ble_eq_true rfl)) dL_isStep_494 ⟨Nat.le_of_ble_eq_true rfl, Nat.le_of_ble_eq_true rfl⟩) hP hD hS hA [] [0, 1, 2, 3, 4, 5, 6, 7, 8, 9, 10, 11, 12, 13, 14, 15, 16, 17, 18, 19, 20, 21, 22, 23, 24, 25, 26, 27, 28, 29, 30, 31, 32, 33, 34, 35, 36, 37, 38, 39, 40, 41, 42, 43, 44, 45, 46, 47, 48, 49, 50, 51, 52, 53, 54, 55, 56, 57, 58, 59, 60, 61, 62, 63, 64, 65, 66, 67, 68, 69, 70, 71, 72, 73, 74, 75, 76, 77, 78] [0, 1, 2, 3, 4, 5, 6, 7, 8, 9, 10, 11, 12, 13, 14, 15, 16, 17, 18, 19, 20, 21, 22, 23, 24, 25, 26, 27, 28, 29, 30, 31, 32, 33, 34, 35, 36, 37, 38, 39, 40, 41, 42, 43, 44, 45, 46, 47, 48, 49, 50, 51, 52, 53, 54, 55, 56, 57, 58, 59, 60, 61, 62, 63, 64, 65, 66, 67, 68, 69, 70, 71, 72, 73, 74, 75, 76, 77, 78] rfl rfl (by decide) (by decide) (by decide) (fun _ => rfl) (fun r494 u H locs hw494 hP hD hS => ?_)
        obtain ⟨k_494, rfl⟩ : ∃ z, z = u := ⟨_, rfl⟩
        try dsimp only at hw494
        have hP : va_P G vwCl ([(h, .inr (7, [.ref (a 0), .ref (cd 0), .ref s1, .ref s2, .ref (d 0), .ref g]))] ++ (ck Z a v ++ (hk Z cd (kp, Y) ++ (rk Z d w ++ ([(bh, .inr (7, [.ref (ba 0), .ref (bcd 0), .ref bs1, .ref bs2, .ref (bd 0), .ref bg]))] ++ (ck Z ba bv ++ hk Z bcd (bkp, bY))))))) H := hP
        have hD : va_D A ([(h, .inr (7, [.ref (a 0), .ref (cd 0), .ref s1, .ref s2, .ref (d 0), .ref g]))] ++ (ck Z a v ++ (hk Z cd (kp, Y) ++ (rk Z d w ++ ([(bh, .inr (7, [.ref (ba 0), .ref (bcd 0), .ref bs1, .ref bs2, .ref (bd 0), .ref bg]))] ++ (ck Z ba bv ++ hk Z bcd (bkp, bY))))))) := hD
        obtain ⟨rfl, hk_494⟩ := hw494
        refine lv_bipush (v := 20) hx hb dL_isStep_497 (by decide) ?_
        refine lv_isub hx hb dL_isStep_499 ?_
        refine lv_istore (lv' := [(6, .int ((nI k_494) - 20)), (5, .int (al 7)), (4, .int (nI hh)), (3, .int (x >>> (4 &&& 31))), (0, .ref h), (1, .ref bh), (2, .int x)]) hx hb dL_isStep_500 hl (by decide) rfl (fun ls hl => ?_)
        refine lv_sipush (v := 800) hx hb dL_isStep_502 (by decide) ?_
        refine lv_iload_n hx hb dL_isStep_505 rfl (lv_at hl 3 rfl) ?_
        refine lv_bipush (v := 6) hx hb dL_isStep_506 (by decide) ?_
        refine lv_ishr hx hb dL_isStep_508 ?_
        refine lv_sipush (v := 401) hx hb dL_isStep_509 (by decide) ?_
        refine zCi (S := Nat) (ws1 := fun u => [(h, .inr (7, [.ref (a 0), .ref (cd 0), .ref s1, .ref s2, .ref (d 0), .ref g]))] ++ (ck Z a v ++ (hk Z cd (kp, Y) ++ (rk Z d w ++ ([(bh, .inr (7, [.ref (ba 0), .ref (bcd 0), .ref bs1, .ref bs2, .ref (bd 0), .ref bg]))] ++ (ck Z ba bv ++ hk Z bcd (bkp, bY))))))) (wr := [(h, .inr (7, [.ref (a 0), .ref (cd 0), .ref s1, .ref s2, .ref (d 0), .ref g]))] ++ (ck Z a v ++ (hk Z cd (kp, Y) ++ (rk Z d w ++ ([(bh, .inr (7, [.ref (ba 0), .ref (bcd 0), .ref bs1, .ref bs2, .ref (bd 0), .ref bg]))] ++ (ck Z ba bv ++ hk Z bcd (bkp, bY))))))) (va_runS (As := [.int ((x >>> (4 &&& 31)) >>> (6 &&& 31)), .int 401]) (rest := [.int 800]) ⟨hx, hb, hml, hown, hts⟩ (m_L_up l G Z _ ((x >>> (4 &&& 31)) >>> (6 &&& 31)) 401 (by
            decide) (by
            decide)) (va_cwS 2 hts gL_isStep_L_up rfl rfl rfl (by decide +kernel) ⟨Nat.le_of_ble_eq_true rfl, Nat.le_of_ble_eq_true rfl⟩) (zPreS hK hP hD hS hA hSW [] rfl (by decide)) rfl rfl hl.1 rfl (lv_room (Nat.le_of_ble_eq_true rfl)) dL_isStep_512 ⟨Nat.le_of_ble_eq_true rfl, Nat.le_of_ble_eq_true rfl⟩) hP hD hS hA [] [0, 1, 2, 3, 4, 5, 6, 7, 8, 9, 10, 11, 12, 13, 14, 15, 16, 17, 18, 19, 20, 21, 22, 23, 24, 25, 26, 27, 28, 29, 30, 31, 32, 33, 34, 35, 36, 37, 38, 39, 40, 41, 42, 43, 44, 45, 46, 47, 48, 49, 50, 51, 52, 53, 54, 55, 56, 57, 58, 59, 60, 61, 62, 63, 64, 65, 66, 67, 68, 69, 70, 71, 72, 73, 74, 75, 76, 77, 78] [0, 1, 2, 3, 4, 5, 6, 7, 8, 9, 10, 11, 12, 13, 14, 15, 16, 17, 18, 19, 20, 21, 22, 23, 24, 25, 26, 27, 28, 29, 30, 31, 32, 33, 34, 35, 36, 37, 38, 39, 40, 41, 42, 43, 44, 45, 46, 47, 48, 49, 50, 51, 52, 53, 54, 55, 56, 57, 58, 59, 60, 61, 62, 63, 64, 65, 66, 67, 68, 69, 70, 71, 72, 73, 74, 75, 76, 77, 78] rfl rfl (by decide) (by decide) (by decide) (fun _ => rfl) (fun r512 u H locs hw512 hP hD hS => ?_)
        obtain ⟨k_512, rfl⟩ : ∃ z, z = u := ⟨_, rfl⟩
        try dsimp only at hw512
        have hP : va_P G vwCl ([(h, .inr (7, [.ref (a 0), .ref (cd 0), .ref s1, .ref s2, .ref (d 0), .ref g]))] ++ (ck Z a v ++ (hk Z cd (kp, Y) ++ (rk Z d w ++ ([(bh, .inr (7, [.ref (ba 0), .ref (bcd 0), .ref bs1, .ref bs2, .ref (bd 0), .ref bg]))] ++ (ck Z ba bv ++ hk Z bcd (bkp, bY))))))) H := hP
        have hD : va_D A ([(h, .inr (7, [.ref (a 0), .ref (cd 0), .ref s1, .ref s2, .ref (d 0), .ref g]))] ++ (ck Z a v ++ (hk Z cd (kp, Y) ++ (rk Z d w ++ ([(bh, .inr (7, [.ref (ba 0), .ref (bcd 0), .ref bs1, .ref bs2, .ref (bd 0), .ref bg]))] ++ (ck Z ba bv ++ hk Z bcd (bkp, bY))))))) := hD
        obtain ⟨rfl, hk_512⟩ := hw512
        refine lv_iadd hx hb dL_isStep_515 ?_
        refine lv_istore (lv' := [(7, .int (800 + (nI k_512))), (6, .int ((nI k_494) - 20)), (5, .int (al 7)), (4, .int (nI hh)), (3, .int (x >>> (4 &&& 31))), (0, .ref h), (1, .ref bh), (2, .int x)]) hx hb dL_isStep_516 hl (by decide) rfl (fun ls hl => ?_)
        refine lv_aload_n hx hb dL_isStep_518 rfl (lv_at hl 5 rfl) ?_
        refine lv_iload hx hb dL_isStep_519 (lv_at hl 1 rfl) ?_
        refine lv_iload hx hb dL_isStep_521 (lv_at hl 0 rfl) ?_
        refine zCi (S := Unit) (ws1 := fun u => [(h, .inr (7, [.ref (a 0), .ref (cd 0), .ref s1, .ref s2, .ref (d 0), .ref g]))] ++ (ck Z a v ++ (hk Z cd (kp, Y) ++ (rk Z d w ++ ([(bh, .inr (7, [.ref (ba 0), .ref (bcd 0), .ref bs1, .ref bs2, .ref (bd 0), .ref bg]))] ++ (ck Z ba bv ++ hk Z bcd (bkp, bY))))))) (wr := hk Z cd (kp, Y) ++ (rk Z d w ++ ([(bh, .inr (7, [.ref (ba 0), .ref (bcd 0), .ref bs1, .ref bs2, .ref (bd 0), .ref bg]))] ++ (ck Z ba bv ++ hk Z bcd (bkp, bY))))) (va_runV (As := [.int ((nI k_494) - 20), .int (800 + (nI k_512))]) (rest := []) ⟨hx, hb, hml, hown, hts⟩ (m_X7_rate l G Z _ h a cd s1 s2 d g v ((nI k_494) - 20) (800 + (nI k_512))) (cwV 2 hts gL_isStep_X7_rate rfl rfl rfl (by decide +kernel) ⟨Nat.le_of_ble_eq_true rfl, Nat.le_of_ble_eq_true rfl⟩) (zPreV hK hP hD hS hA hSW [0, 1, 2, 3, 4, 5] rfl (by decide) 0 (ci := 7) rfl rfl rfl) rfl rfl hl.1 rfl (lv_room (Nat.le_of_ble_eq_true rfl)) dL_isStep_523 ⟨Nat.le_of_ble_eq_true rfl, Nat.le_of_ble_eq_true rfl⟩) hP hD hS hA [0, 1, 2, 3, 4, 5] [6, 7, 8, 9, 10, 11, 12, 13, 14, 15, 16, 17, 18, 19, 20, 21, 22, 23, 24, 25, 26, 27, 28, 29, 30, 31, 32, 33, 34, 35, 36, 37, 38, 39, 40, 41, 42, 43, 44, 45, 46, 47, 48, 49, 50, 51, 52, 53, 54, 55, 56, 57, 58, 59, 60, 61, 62, 63, 64, 65, 66, 67, 68, 69, 70, 71, 72, 73, 74, 75, 76, 77, 78] [73, 74, 75, 76, 77, 78, 0, 1, 2, 3, 4, 5, 6, 7, 8, 9, 10, 11, 12, 13, 14, 15, 16, 17, 18, 19, 20, 21, 22, 23, 24, 25, 26, 27, 28, 29, 30, 31, 32, 33, 34, 35, 36, 37, 38, 39, 40, 41, 42, 43, 44, 45, 46, 47, 48, 49, 50, 51, 52, 53, 54, 55, 56, 57, 58, 59, 60, 61, 62, 63, 64, 65, 66, 67, 68, 69, 70, 71, 72] rfl rfl (by decide) (by decide) (by decide) (fun _ => rfl) (fun r523 u H locs hw523 hP hD hS => ?_)
        try dsimp only at hw523
        subst hw523
        have hP : va_P G vwCl ([(h, .inr (7, [.ref (a 0), .ref (cd 0), .ref s1, .ref s2, .ref (d 0), .ref g]))] ++ (ck Z a v ++ (hk Z cd (kp, Y) ++ (rk Z d w ++ ([(bh, .inr (7, [.ref (ba 0), .ref (bcd 0), .ref bs1, .ref bs2, .ref (bd 0), .ref bg]))] ++ (ck Z ba bv ++ hk Z bcd (bkp, bY))))))) H := hP
        have hD : va_D A ([(h, .inr (7, [.ref (a 0), .ref (cd 0), .ref s1, .ref s2, .ref (d 0), .ref g]))] ++ (ck Z a v ++ (hk Z cd (kp, Y) ++ (rk Z d w ++ ([(bh, .inr (7, [.ref (ba 0), .ref (bcd 0), .ref bs1, .ref bs2, .ref (bd 0), .ref bg]))] ++ (ck Z ba bv ++ hk Z bcd (bkp, bY))))))) := hD
        refine zTopI (y := (cBare al ((nI k_494) - 20) (800 + (nI k_512)) + al 7 + 100000)) (oRate hRo (dHe1 _ hk_494) (dAi1 _ hk_512)) ?_
        refine lv_istore (lv' := [(8, .int (cBare al ((nI k_494) - 20) (800 + (nI k_512)) + al 7 + 100000)), (7, .int (800 + (nI k_512))), (6, .int ((nI k_494) - 20)), (5, .int (al 7)), (4, .int (nI hh)), (3, .int (x >>> (4 &&& 31))), (0, .ref h), (1, .ref bh), (2, .int x)]) hx hb dL_isStep_526 hl (by decide) rfl (fun ls hl => ?_)
        refine lv_aload_n hx hb dL_isStep_528 rfl (lv_at hl 6 rfl) ?_
        refine lv_bipush (v := 40) hx hb dL_isStep_529 (by decide) ?_
        refine lv_iload hx hb dL_isStep_531 (lv_at hl 2 rfl) ?_
        refine lv_isub hx hb dL_isStep_533 ?_
        refine lv_bipush (v := 50) hx hb dL_isStep_534 (by decide) ?_
        refine lv_icmp_le (tgt := 544) hx hb dL_isStep_536 (by decide) (fun c536 => ?_) (fun c536 => ?_)
        · refine lv_bipush (v := 40) hx hb dL_isStep_544 (by decide) ?_
          refine lv_iload hx hb dL_isStep_546 (lv_at hl 2 rfl) ?_
          refine lv_isub hx hb dL_isStep_548 ?_
          refine lv_bipush (v := (-20)) hx hb dL_isStep_549 (by decide) ?_
          refine lv_icmp_ge (tgt := 559) hx hb dL_isStep_551 (by decide) (fun c551 => ?_) (fun c551 => (c551 (Int32.not_lt.mp (dLow _ hk_494))).elim)
          refine lv_bipush (v := 40) hx hb dL_isStep_559 (by decide) ?_
          refine lv_iload hx hb dL_isStep_561 (lv_at hl 2 rfl) ?_
          refine lv_isub hx hb dL_isStep_563 ?_
          refine lv_sipush (v := 2000) hx hb dL_isStep_564 (by decide) ?_
          refine lv_iload hx hb dL_isStep_567 (lv_at hl 1 rfl) ?_
          refine lv_isub hx hb dL_isStep_569 ?_
          refine zCi (S := Unit) (ws1 := fun u => [(h, .inr (7, [.ref (a 0), .ref (cd 0), .ref s1, .ref s2, .ref (d 0), .ref g]))] ++ (ck Z a v ++ (hk Z cd (kp, Y) ++ (rk Z d w ++ ([(bh, .inr (7, [.ref (ba 0), .ref (bcd 0), .ref bs1, .ref bs2, .ref (bd 0), .ref bg]))] ++ (ck Z ba bv ++ hk Z bcd (bkp, bY))))))) (wr := hk Z cd (kp, Y) ++ (rk Z d w ++ ([(bh, .inr (7, [.ref (ba 0), .ref (bcd 0), .ref bs1, .ref bs2, .ref (bd 0), .ref bg]))] ++ (ck Z ba bv ++ hk Z bcd (bkp, bY))))) (va_runV (As := [.int (40 - ((nI k_494) - 20)), .int (2000 - (800 + (nI k_512)))]) (rest := []) ⟨hx, hb, hml, hown, hts⟩ (m_X7_rate l G Z _ h a cd s1 s2 d g v (40 - ((nI k_494) - 20)) (2000 - (800 + (nI k_512)))) (cwV 2 hts gL_isStep_X7_rate rfl rfl rfl (by decide +kernel) ⟨Nat.le_of_ble_eq_true rfl, Nat.le_of_ble_eq_true rfl⟩) (zPreV hK hP hD hS hA hSW [0, 1, 2, 3, 4, 5] rfl (by decide) 0 (ci := 7) rfl rfl rfl) rfl rfl hl.1 rfl (lv_room (Nat.le_of_ble_eq_true rfl)) dL_isStep_570 ⟨Nat.le_of_ble_eq_true rfl, Nat.le_of_ble_eq_true rfl⟩) hP hD hS hA [0, 1, 2, 3, 4, 5] [6, 7, 8, 9, 10, 11, 12, 13, 14, 15, 16, 17, 18, 19, 20, 21, 22, 23, 24, 25, 26, 27, 28, 29, 30, 31, 32, 33, 34, 35, 36, 37, 38, 39, 40, 41, 42, 43, 44, 45, 46, 47, 48, 49, 50, 51, 52, 53, 54, 55, 56, 57, 58, 59, 60, 61, 62, 63, 64, 65, 66, 67, 68, 69, 70, 71, 72, 73, 74, 75, 76, 77, 78] [73, 74, 75, 76, 77, 78, 0, 1, 2, 3, 4, 5, 6, 7, 8, 9, 10, 11, 12, 13, 14, 15, 16, 17, 18, 19, 20, 21, 22, 23, 24, 25, 26, 27, 28, 29, 30, 31, 32, 33, 34, 35, 36, 37, 38, 39, 40, 41, 42, 43, 44, 45, 46, 47, 48, 49, 50, 51, 52, 53, 54, 55, 56, 57, 58, 59, 60, 61, 62, 63, 64, 65, 66, 67, 68, 69, 70, 71, 72] rfl rfl (by decide) (by decide) (by decide) (fun _ => rfl) (fun r570 u H locs hw570 hP hD hS => ?_)
          try dsimp only at hw570
          subst hw570
          have hP : va_P G vwCl ([(h, .inr (7, [.ref (a 0), .ref (cd 0), .ref s1, .ref s2, .ref (d 0), .ref g]))] ++ (ck Z a v ++ (hk Z cd (kp, Y) ++ (rk Z d w ++ ([(bh, .inr (7, [.ref (ba 0), .ref (bcd 0), .ref bs1, .ref bs2, .ref (bd 0), .ref bg]))] ++ (ck Z ba bv ++ hk Z bcd (bkp, bY))))))) H := hP
          have hD : va_D A ([(h, .inr (7, [.ref (a 0), .ref (cd 0), .ref s1, .ref s2, .ref (d 0), .ref g]))] ++ (ck Z a v ++ (hk Z cd (kp, Y) ++ (rk Z d w ++ ([(bh, .inr (7, [.ref (ba 0), .ref (bcd 0), .ref bs1, .ref bs2, .ref (bd 0), .ref bg]))] ++ (ck Z ba bv ++ hk Z bcd (bkp, bY))))))) := hD
          refine zTopI (y := (cBare al (40 - ((nI k_494) - 20)) (2000 - (800 + (nI k_512))) + al 7 + 100000)) (oRate hRo (dHe3 _ hk_494 c536) (dAi3 _ hk_512)) ?_
          refine lv_istore (lv' := [(9, .int (cBare al (40 - ((nI k_494) - 20)) (2000 - (800 + (nI k_512))) + al 7 + 100000)), (8, .int (cBare al ((nI k_494) - 20) (800 + (nI k_512)) + al 7 + 100000)), (7, .int (800 + (nI k_512))), (6, .int ((nI k_494) - 20)), (5, .int (al 7)), (4, .int (nI hh)), (3, .int (x >>> (4 &&& 31))), (0, .ref h), (1, .ref bh), (2, .int x)]) hx hb dL_isStep_573 hl (by decide) rfl (fun ls hl => ?_)
          refine lv_iconst (v := 2) hx hb dL_isStep_575 (by decide) ?_
          refine lv_aload_n hx hb dL_isStep_576 rfl (lv_at hl 7 rfl) ?_
          refine lv_bipush (v := 9) hx hb dL_isStep_577 (by decide) ?_
          refine zCi (S := Unit) (ws1 := fun u => [(h, .inr (7, [.ref (a 0), .ref (cd 0), .ref s1, .ref s2, .ref (d 0), .ref g]))] ++ (ck Z a v ++ (hk Z cd (kp, Y) ++ (rk Z d w ++ ([(bh, .inr (7, [.ref (ba 0), .ref (bcd 0), .ref bs1, .ref bs2, .ref (bd 0), .ref bg]))] ++ (ck Z ba bv ++ hk Z bcd (bkp, bY))))))) (wr := [(bh, .inr (7, [.ref (ba 0), .ref (bcd 0), .ref bs1, .ref bs2, .ref (bd 0), .ref bg]))] ++ (ck Z ba bv ++ hk Z bcd (bkp, bY))) (va_runV (As := [.int 9]) (rest := [.int 2]) ⟨hx, hb, hml, hown, hts⟩ (m_X7_count l G Z _ h a cd s1 s2 d g v kp Y w 9) (cwV 1 hts gL_isStep_X7_count rfl rfl rfl (by decide +kernel) ⟨Nat.le_of_ble_eq_true rfl, Nat.le_of_ble_eq_true rfl⟩) (zPreV hK hP hD hS hA hSW [0, 1, 2, 3, 4, 5, 6, 7, 8, 9, 10, 11, 12, 13, 14, 15, 16, 17, 18, 19, 20, 21, 22, 23, 24, 25, 26, 27, 28, 29, 30, 31, 32, 33, 34, 35, 36, 37, 38, 39, 40] rfl (by decide) 0 (ci := 7) rfl rfl rfl) rfl rfl hl.1 rfl (lv_room (Nat.le_of_ble_eq_true rfl)) dL_isStep_579 ⟨Nat.le_of_ble_eq_true rfl, Nat.le_of_ble_eq_true rfl⟩) hP hD hS hA [0, 1, 2, 3, 4, 5, 6, 7, 8, 9, 10, 11, 12, 13, 14, 15, 16, 17, 18, 19, 20, 21, 22, 23, 24, 25, 26, 27, 28, 29, 30, 31, 32, 33, 34, 35, 36, 37, 38, 39, 40] [41, 42, 43, 44, 45, 46, 47, 48, 49, 50, 51, 52, 53, 54, 55, 56, 57, 58, 59, 60, 61, 62, 63, 64, 65, 66, 67, 68, 69, 70, 71, 72, 73, 74, 75, 76, 77, 78] [38, 39, 40, 41, 42, 43, 44, 45, 46, 47, 48, 49, 50, 51, 52, 53, 54, 55, 56, 57, 58, 59, 60, 61, 62, 63, 64, 65, 66, 67, 68, 69, 70, 71, 72, 73, 74, 75, 76, 77, 78, 0, 1, 2, 3, 4, 5, 6, 7, 8, 9, 10, 11, 12, 13, 14, 15, 16, 17, 18, 19, 20, 21, 22, 23, 24, 25, 26, 27, 28, 29, 30, 31, 32, 33, 34, 35, 36, 37] rfl rfl (by decide) (by decide) (by decide) (fun _ => rfl) (fun r579 u H locs hw579 hP hD hS => ?_)
          try dsimp only at hw579
          subst hw579
          have hP : va_P G vwCl ([(h, .inr (7, [.ref (a 0), .ref (cd 0), .ref s1, .ref s2, .ref (d 0), .ref g]))] ++ (ck Z a v ++ (hk Z cd (kp, Y) ++ (rk Z d w ++ ([(bh, .inr (7, [.ref (ba 0), .ref (bcd 0), .ref bs1, .ref bs2, .ref (bd 0), .ref bg]))] ++ (ck Z ba bv ++ hk Z bcd (bkp, bY))))))) H := hP
          have hD : va_D A ([(h, .inr (7, [.ref (a 0), .ref (cd 0), .ref s1, .ref s2, .ref (d 0), .ref g]))] ++ (ck Z a v ++ (hk Z cd (kp, Y) ++ (rk Z d w ++ ([(bh, .inr (7, [.ref (ba 0), .ref (bcd 0), .ref bs1, .ref bs2, .ref (bd 0), .ref bg]))] ++ (ck Z ba bv ++ hk Z bcd (bkp, bY))))))) := hD
          refine zTopI (y := (al 2 + 1000)) (oc9 hRo _ _) ?_
          refine lv_sipush (v := 1000) hx hb dL_isStep_582 (by decide) ?_
          refine lv_isub hx hb dL_isStep_585 ?_
          refine lv_iload hx hb dL_isStep_586 (lv_at hl 4 rfl) ?_
          refine lv_iadd hx hb dL_isStep_588 ?_
          refine lv_imul hx hb dL_isStep_589 ?_
          refine lv_istore (lv' := [(10, .int (2 * (((al 2 + 1000) - 1000) + (al 7)))), (9, .int (cBare al (40 - ((nI k_494) - 20)) (2000 - (800 + (nI k_512))) + al 7 + 100000)), (8, .int (cBare al ((nI k_494) - 20) (800 + (nI k_512)) + al 7 + 100000)), (7, .int (800 + (nI k_512))), (6, .int ((nI k_494) - 20)), (5, .int (al 7)), (4, .int (nI hh)), (3, .int (x >>> (4 &&& 31))), (0, .ref h), (1, .ref bh), (2, .int x)]) hx hb dL_isStep_590 hl (by decide) rfl (fun ls hl => ?_)
          refine lv_bipush (v := 40) hx hb dL_isStep_592 (by decide) ?_
          refine lv_iload hx hb dL_isStep_594 (lv_at hl 4 rfl) ?_
          refine lv_isub hx hb dL_isStep_596 ?_
          refine lv_bipush (v := 50) hx hb dL_isStep_597 (by decide) ?_
          refine lv_icmp_gt (tgt := 628) hx hb dL_isStep_599 (by decide) (fun c599 => (Int32.not_le.mpr c599 c536).elim) (fun c599 => ?_)
          refine lv_bipush (v := 40) hx hb dL_isStep_602 (by decide) ?_
          refine lv_iload hx hb dL_isStep_604 (lv_at hl 4 rfl) ?_
          refine lv_isub hx hb dL_isStep_606 ?_
          refine lv_bipush (v := (-20)) hx hb dL_isStep_607 (by decide) ?_
          refine lv_icmp_lt (tgt := 628) hx hb dL_isStep_609 (by decide) (fun c609 => (dLow _ hk_494 c609).elim) (fun c609 => ?_)
          refine lv_iload hx hb dL_isStep_612 (lv_at hl 2 rfl) ?_
          refine lv_ldc (v := 100000) hx hb hown k_39 dL_isStep_614 ?_
          refine lv_isub hx hb dL_isStep_616 ?_
          refine lv_iload hx hb dL_isStep_617 (lv_at hl 1 rfl) ?_
          refine lv_iadd hx hb dL_isStep_619 ?_
          refine lv_ldc (v := 100000) hx hb hown k_39 dL_isStep_620 ?_
          refine lv_isub hx hb dL_isStep_622 ?_
          refine lv_iload hx hb dL_isStep_623 (lv_at hl 0 rfl) ?_
          refine lv_icmp_ne (tgt := 632) hx hb dL_isStep_625 (by decide) (fun c625 => (c625 (oTwo hRo hk_494 hk_512 c536)).elim) (fun c625 => ?_)
          refine lv_iconst (v := 1) hx hb dL_isStep_628 (by decide) ?_
          refine lv_goto (tgt := 633) hx hb dL_isStep_629 (by decide) ?_
          exact W.zret hx hb hr (rfl) (zEi (v, kp, Y, bv, bkp, bY) (by
              refine ⟨rfl, ?_⟩
              unfold oStp
              exact ⟨_, _, hRo, hRp, hWI, by omega, hk6, hbk6⟩) hP hD hS) hS.2.2 dL_isStep_633
        · refine lv_iload hx hb dL_isStep_539 (lv_at hl 2 rfl) ?_
          refine lv_goto (tgt := 564) hx hb dL_isStep_541 (by decide) ?_
          refine lv_sipush (v := 2000) hx hb dL_isStep_564 (by decide) ?_
          refine lv_iload hx hb dL_isStep_567 (lv_at hl 1 rfl) ?_
          refine lv_isub hx hb dL_isStep_569 ?_
          refine zCi (S := Unit) (ws1 := fun u => [(h, .inr (7, [.ref (a 0), .ref (cd 0), .ref s1, .ref s2, .ref (d 0), .ref g]))] ++ (ck Z a v ++ (hk Z cd (kp, Y) ++ (rk Z d w ++ ([(bh, .inr (7, [.ref (ba 0), .ref (bcd 0), .ref bs1, .ref bs2, .ref (bd 0), .ref bg]))] ++ (ck Z ba bv ++ hk Z bcd (bkp, bY))))))) (wr := hk Z cd (kp, Y) ++ (rk Z d w ++ ([(bh, .inr (7, [.ref (ba 0), .ref (bcd 0), .ref bs1, .ref bs2, .ref (bd 0), .ref bg]))] ++ (ck Z ba bv ++ hk Z bcd (bkp, bY))))) (va_runV (As := [.int ((nI k_494) - 20), .int (2000 - (800 + (nI k_512)))]) (rest := []) ⟨hx, hb, hml, hown, hts⟩ (m_X7_rate l G Z _ h a cd s1 s2 d g v ((nI k_494) - 20) (2000 - (800 + (nI k_512)))) (cwV 2 hts gL_isStep_X7_rate rfl rfl rfl (by decide +kernel) ⟨Nat.le_of_ble_eq_true rfl, Nat.le_of_ble_eq_true rfl⟩) (zPreV hK hP hD hS hA hSW [0, 1, 2, 3, 4, 5] rfl (by decide) 0 (ci := 7) rfl rfl rfl) rfl rfl hl.1 rfl (lv_room (Nat.le_of_ble_eq_true rfl)) dL_isStep_570 ⟨Nat.le_of_ble_eq_true rfl, Nat.le_of_ble_eq_true rfl⟩) hP hD hS hA [0, 1, 2, 3, 4, 5] [6, 7, 8, 9, 10, 11, 12, 13, 14, 15, 16, 17, 18, 19, 20, 21, 22, 23, 24, 25, 26, 27, 28, 29, 30, 31, 32, 33, 34, 35, 36, 37, 38, 39, 40, 41, 42, 43, 44, 45, 46, 47, 48, 49, 50, 51, 52, 53, 54, 55, 56, 57, 58, 59, 60, 61, 62, 63, 64, 65, 66, 67, 68, 69, 70, 71, 72, 73, 74, 75, 76, 77, 78] [73, 74, 75, 76, 77, 78, 0, 1, 2, 3, 4, 5, 6, 7, 8, 9, 10, 11, 12, 13, 14, 15, 16, 17, 18, 19, 20, 21, 22, 23, 24, 25, 26, 27, 28, 29, 30, 31, 32, 33, 34, 35, 36, 37, 38, 39, 40, 41, 42, 43, 44, 45, 46, 47, 48, 49, 50, 51, 52, 53, 54, 55, 56, 57, 58, 59, 60, 61, 62, 63, 64, 65, 66, 67, 68, 69, 70, 71, 72] rfl rfl (by decide) (by decide) (by decide) (fun _ => rfl) (fun r570_2 u H locs hw570_2 hP hD hS => ?_)
          try dsimp only at hw570_2
          subst hw570_2
          have hP : va_P G vwCl ([(h, .inr (7, [.ref (a 0), .ref (cd 0), .ref s1, .ref s2, .ref (d 0), .ref g]))] ++ (ck Z a v ++ (hk Z cd (kp, Y) ++ (rk Z d w ++ ([(bh, .inr (7, [.ref (ba 0), .ref (bcd 0), .ref bs1, .ref bs2, .ref (bd 0), .ref bg]))] ++ (ck Z ba bv ++ hk Z bcd (bkp, bY))))))) H := hP
          have hD : va_D A ([(h, .inr (7, [.ref (a 0), .ref (cd 0), .ref s1, .ref s2, .ref (d 0), .ref g]))] ++ (ck Z a v ++ (hk Z cd (kp, Y) ++ (rk Z d w ++ ([(bh, .inr (7, [.ref (ba 0), .ref (bcd 0), .ref bs1, .ref bs2, .ref (bd 0), .ref bg]))] ++ (ck Z ba bv ++ hk Z bcd (bkp, bY))))))) := hD
          refine zTopI (y := (cBare al ((nI k_494) - 20) (2000 - (800 + (nI k_512))) + al 7 + 100000)) (oRate hRo (dHe1 _ hk_494) (dAi3 _ hk_512)) ?_
          refine lv_istore (lv' := [(9, .int (cBare al ((nI k_494) - 20) (2000 - (800 + (nI k_512))) + al 7 + 100000)), (8, .int (cBare al ((nI k_494) - 20) (800 + (nI k_512)) + al 7 + 100000)), (7, .int (800 + (nI k_512))), (6, .int ((nI k_494) - 20)), (5, .int (al 7)), (4, .int (nI hh)), (3, .int (x >>> (4 &&& 31))), (0, .ref h), (1, .ref bh), (2, .int x)]) hx hb dL_isStep_573 hl (by decide) rfl (fun ls hl => ?_)
          refine lv_iconst (v := 2) hx hb dL_isStep_575 (by decide) ?_
          refine lv_aload_n hx hb dL_isStep_576 rfl (lv_at hl 7 rfl) ?_
          refine lv_bipush (v := 9) hx hb dL_isStep_577 (by decide) ?_
          refine zCi (S := Unit) (ws1 := fun u => [(h, .inr (7, [.ref (a 0), .ref (cd 0), .ref s1, .ref s2, .ref (d 0), .ref g]))] ++ (ck Z a v ++ (hk Z cd (kp, Y) ++ (rk Z d w ++ ([(bh, .inr (7, [.ref (ba 0), .ref (bcd 0), .ref bs1, .ref bs2, .ref (bd 0), .ref bg]))] ++ (ck Z ba bv ++ hk Z bcd (bkp, bY))))))) (wr := [(bh, .inr (7, [.ref (ba 0), .ref (bcd 0), .ref bs1, .ref bs2, .ref (bd 0), .ref bg]))] ++ (ck Z ba bv ++ hk Z bcd (bkp, bY))) (va_runV (As := [.int 9]) (rest := [.int 2]) ⟨hx, hb, hml, hown, hts⟩ (m_X7_count l G Z _ h a cd s1 s2 d g v kp Y w 9) (cwV 1 hts gL_isStep_X7_count rfl rfl rfl (by decide +kernel) ⟨Nat.le_of_ble_eq_true rfl, Nat.le_of_ble_eq_true rfl⟩) (zPreV hK hP hD hS hA hSW [0, 1, 2, 3, 4, 5, 6, 7, 8, 9, 10, 11, 12, 13, 14, 15, 16, 17, 18, 19, 20, 21, 22, 23, 24, 25, 26, 27, 28, 29, 30, 31, 32, 33, 34, 35, 36, 37, 38, 39, 40] rfl (by decide) 0 (ci := 7) rfl rfl rfl) rfl rfl hl.1 rfl (lv_room (Nat.le_of_ble_eq_true rfl)) dL_isStep_579 ⟨Nat.le_of_ble_eq_true rfl, Nat.le_of_ble_eq_true rfl⟩) hP hD hS hA [0, 1, 2, 3, 4, 5, 6, 7, 8, 9, 10, 11, 12, 13, 14, 15, 16, 17, 18, 19, 20, 21, 22, 23, 24, 25, 26, 27, 28, 29, 30, 31, 32, 33, 34, 35, 36, 37, 38, 39, 40] [41, 42, 43, 44, 45, 46, 47, 48, 49, 50, 51, 52, 53, 54, 55, 56, 57, 58, 59, 60, 61, 62, 63, 64, 65, 66, 67, 68, 69, 70, 71, 72, 73, 74, 75, 76, 77, 78] [38, 39, 40, 41, 42, 43, 44, 45, 46, 47, 48, 49, 50, 51, 52, 53, 54, 55, 56, 57, 58, 59, 60, 61, 62, 63, 64, 65, 66, 67, 68, 69, 70, 71, 72, 73, 74, 75, 76, 77, 78, 0, 1, 2, 3, 4, 5, 6, 7, 8, 9, 10, 11, 12, 13, 14, 15, 16, 17, 18, 19, 20, 21, 22, 23, 24, 25, 26, 27, 28, 29, 30, 31, 32, 33, 34, 35, 36, 37] rfl rfl (by decide) (by decide) (by decide) (fun _ => rfl) (fun r579_2 u H locs hw579_2 hP hD hS => ?_)
          try dsimp only at hw579_2
          subst hw579_2
          have hP : va_P G vwCl ([(h, .inr (7, [.ref (a 0), .ref (cd 0), .ref s1, .ref s2, .ref (d 0), .ref g]))] ++ (ck Z a v ++ (hk Z cd (kp, Y) ++ (rk Z d w ++ ([(bh, .inr (7, [.ref (ba 0), .ref (bcd 0), .ref bs1, .ref bs2, .ref (bd 0), .ref bg]))] ++ (ck Z ba bv ++ hk Z bcd (bkp, bY))))))) H := hP
          have hD : va_D A ([(h, .inr (7, [.ref (a 0), .ref (cd 0), .ref s1, .ref s2, .ref (d 0), .ref g]))] ++ (ck Z a v ++ (hk Z cd (kp, Y) ++ (rk Z d w ++ ([(bh, .inr (7, [.ref (ba 0), .ref (bcd 0), .ref bs1, .ref bs2, .ref (bd 0), .ref bg]))] ++ (ck Z ba bv ++ hk Z bcd (bkp, bY))))))) := hD
          refine zTopI (y := (al 2 + 1000)) (oc9 hRo _ _) ?_
          refine lv_sipush (v := 1000) hx hb dL_isStep_582 (by decide) ?_
          refine lv_isub hx hb dL_isStep_585 ?_
          refine lv_iload hx hb dL_isStep_586 (lv_at hl 4 rfl) ?_
          refine lv_iadd hx hb dL_isStep_588 ?_
          refine lv_imul hx hb dL_isStep_589 ?_
          refine lv_istore (lv' := [(10, .int (2 * (((al 2 + 1000) - 1000) + (al 7)))), (9, .int (cBare al ((nI k_494) - 20) (2000 - (800 + (nI k_512))) + al 7 + 100000)), (8, .int (cBare al ((nI k_494) - 20) (800 + (nI k_512)) + al 7 + 100000)), (7, .int (800 + (nI k_512))), (6, .int ((nI k_494) - 20)), (5, .int (al 7)), (4, .int (nI hh)), (3, .int (x >>> (4 &&& 31))), (0, .ref h), (1, .ref bh), (2, .int x)]) hx hb dL_isStep_590 hl (by decide) rfl (fun ls hl => ?_)
          refine lv_bipush (v := 40) hx hb dL_isStep_592 (by decide) ?_
          refine lv_iload hx hb dL_isStep_594 (lv_at hl 4 rfl) ?_
          refine lv_isub hx hb dL_isStep_596 ?_
          refine lv_bipush (v := 50) hx hb dL_isStep_597 (by decide) ?_
          refine lv_icmp_gt (tgt := 628) hx hb dL_isStep_599 (by decide) (fun c599 => ?_) (fun c599 => (c536 (Int32.not_lt.mp c599)).elim)
          refine lv_iconst (v := 1) hx hb dL_isStep_628 (by decide) ?_
          refine lv_goto (tgt := 633) hx hb dL_isStep_629 (by decide) ?_
          exact W.zret hx hb hr (rfl) (zEi (v, kp, Y, bv, bkp, bY) (by
              refine ⟨rfl, ?_⟩
              unfold oStp
              exact ⟨_, _, hRo, hRp, hWI, by omega, hk6, hbk6⟩) hP hD hS) hS.2.2 dL_isStep_633
      refine lv_tableOut (tgt := 634) hx hb dL_isStep_24 (by have hh := @Int32.toInt_inj; have w_0 : ¬ ((nI k_21)).toInt = 0 := fun q => c24_0 (Int32.toInt_inj.mp q); have w_1 : ¬ ((nI k_21)).toInt = 1 := fun q => c24_1 (Int32.toInt_inj.mp q); have w_2 : ¬ ((nI k_21)).toInt = 2 := fun q => c24_2 (Int32.toInt_inj.mp q); have w_3 : ¬ ((nI k_21)).toInt = 3 := fun q => c24_3 (Int32.toInt_inj.mp q); have w_4 : ¬ ((nI k_21)).toInt = 4 := fun q => c24_4 (Int32.toInt_inj.mp q); have w_5 : ¬ ((nI k_21)).toInt = 5 := fun q => c24_5 (Int32.toInt_inj.mp q); have w_6 : ¬ ((nI k_21)).toInt = 6 := fun q => c24_6 (Int32.toInt_inj.mp q); have w_7 : ¬ ((nI k_21)).toInt = 7 := fun q => c24_7 (Int32.toInt_inj.mp q); have w_8 : ¬ ((nI k_21)).toInt = 8 := fun q => c24_8 (Int32.toInt_inj.mp q); have w_9 : ¬ ((nI k_21)).toInt = 9 := fun q => c24_9 (Int32.toInt_inj.mp q); have w_10 : ¬ ((nI k_21)).toInt = 10 := fun q => c24_10 (Int32.toInt_inj.mp q); omega) (by decide) ?_
      refine lv_iload_n hx hb dL_isStep_634 rfl (lv_at hl 2 rfl) ?_
      refine lv_iconst (v := 4) hx hb dL_isStep_635 (by decide) ?_
      refine zCi (S := Nat) (ws1 := fun u => [(h, .inr (7, [.ref (a 0), .ref (cd 0), .ref s1, .ref s2, .ref (d 0), .ref g]))] ++ (ck Z a v ++ (hk Z cd (kp, Y) ++ (rk Z d w ++ ([(bh, .inr (7, [.ref (ba 0), .ref (bcd 0), .ref bs1, .ref bs2, .ref (bd 0), .ref bg]))] ++ (ck Z ba bv ++ hk Z bcd (bkp, bY))))))) (wr := [(h, .inr (7, [.ref (a 0), .ref (cd 0), .ref s1, .ref s2, .ref (d 0), .ref g]))] ++ (ck Z a v ++ (hk Z cd (kp, Y) ++ (rk Z d w ++ ([(bh, .inr (7, [.ref (ba 0), .ref (bcd 0), .ref bs1, .ref bs2, .ref (bd 0), .ref bg]))] ++ (ck Z ba bv ++ hk Z bcd (bkp, bY))))))) (va_runS (As := [.int (x >>> (4 &&& 31)), .int 4]) (rest := []) ⟨hx, hb, hml, hown, hts⟩ (m_L_up l G Z _ (x >>> (4 &&& 31)) 4 (by
          decide) (by
          decide)) (va_cwS 2 hts gL_isStep_L_up rfl rfl rfl (by decide +kernel) ⟨Nat.le_of_ble_eq_true rfl, Nat.le_of_ble_eq_true rfl⟩) (zPreS hK hP hD hS hA hSW [] rfl (by decide)) rfl rfl hl.1 rfl (lv_room (Nat.le_of_ble_eq_true rfl)) dL_isStep_636 ⟨Nat.le_of_ble_eq_true rfl, Nat.le_of_ble_eq_true rfl⟩) hP hD hS hA [] [0, 1, 2, 3, 4, 5, 6, 7, 8, 9, 10, 11, 12, 13, 14, 15, 16, 17, 18, 19, 20, 21, 22, 23, 24, 25, 26, 27, 28, 29, 30, 31, 32, 33, 34, 35, 36, 37, 38, 39, 40, 41, 42, 43, 44, 45, 46, 47, 48, 49, 50, 51, 52, 53, 54, 55, 56, 57, 58, 59, 60, 61, 62, 63, 64, 65, 66, 67, 68, 69, 70, 71, 72, 73, 74, 75, 76, 77, 78] [0, 1, 2, 3, 4, 5, 6, 7, 8, 9, 10, 11, 12, 13, 14, 15, 16, 17, 18, 19, 20, 21, 22, 23, 24, 25, 26, 27, 28, 29, 30, 31, 32, 33, 34, 35, 36, 37, 38, 39, 40, 41, 42, 43, 44, 45, 46, 47, 48, 49, 50, 51, 52, 53, 54, 55, 56, 57, 58, 59, 60, 61, 62, 63, 64, 65, 66, 67, 68, 69, 70, 71, 72, 73, 74, 75, 76, 77, 78] rfl rfl (by decide) (by decide) (by decide) (fun _ => rfl) (fun r636 u H locs hw636 hP hD hS => ?_)
      obtain ⟨k_636, rfl⟩ : ∃ z, z = u := ⟨_, rfl⟩
      try dsimp only at hw636
      have hP : va_P G vwCl ([(h, .inr (7, [.ref (a 0), .ref (cd 0), .ref s1, .ref s2, .ref (d 0), .ref g]))] ++ (ck Z a v ++ (hk Z cd (kp, Y) ++ (rk Z d w ++ ([(bh, .inr (7, [.ref (ba 0), .ref (bcd 0), .ref bs1, .ref bs2, .ref (bd 0), .ref bg]))] ++ (ck Z ba bv ++ hk Z bcd (bkp, bY))))))) H := hP
      have hD : va_D A ([(h, .inr (7, [.ref (a 0), .ref (cd 0), .ref s1, .ref s2, .ref (d 0), .ref g]))] ++ (ck Z a v ++ (hk Z cd (kp, Y) ++ (rk Z d w ++ ([(bh, .inr (7, [.ref (ba 0), .ref (bcd 0), .ref bs1, .ref bs2, .ref (bd 0), .ref bg]))] ++ (ck Z ba bv ++ hk Z bcd (bkp, bY))))))) := hD
      obtain ⟨rfl, hk_636⟩ := hw636
      refine lv_istore (lv' := [(6, .int (nI k_636)), (5, .int (al 7)), (4, .int (nI hh)), (3, .int (x >>> (4 &&& 31))), (0, .ref h), (1, .ref bh), (2, .int x)]) hx hb dL_isStep_639 hl (by decide) rfl (fun ls hl => ?_)
      refine zJoin (G := G) (A := A) (σ := Int32) (nL := 16) 691 (fun zx => [(h, .inr (7, [.ref (a 0), .ref (cd 0), .ref s1, .ref s2, .ref (d 0), .ref g]))] ++ (ck Z a v ++ (hk Z cd (kp, Y) ++ (rk Z d w ++ ([(bh, .inr (7, [.ref (ba 0), .ref (bcd 0), .ref bs1, .ref bs2, .ref (bd 0), .ref bg]))] ++ (ck Z ba bv ++ hk Z bcd (bkp, bY))))))) (fun zx => [(6, .int (nI k_636)), (5, .int (al 7)), (4, .int (nI hh)), (3, .int (x >>> (4 &&& 31))), (0, .ref h), (1, .ref bh), (2, .int x)]) (fun zx => [.int zx]) (fun zx => ¬ mIsS (nI k_636) zx = 0) ?_ ?_
      · intro zx hj691 H locs ls hP hD hS hl
        obtain ⟨x9, rfl⟩ : ∃ z, z = zx := ⟨_, rfl⟩
        try dsimp only at hj691
        have hP : va_P G vwCl ([(h, .inr (7, [.ref (a 0), .ref (cd 0), .ref s1, .ref s2, .ref (d 0), .ref g]))] ++ (ck Z a v ++ (hk Z cd (kp, Y) ++ (rk Z d w ++ ([(bh, .inr (7, [.ref (ba 0), .ref (bcd 0), .ref bs1, .ref bs2, .ref (bd 0), .ref bg]))] ++ (ck Z ba bv ++ hk Z bcd (bkp, bY))))))) H := hP
        have hD : va_D A ([(h, .inr (7, [.ref (a 0), .ref (cd 0), .ref s1, .ref s2, .ref (d 0), .ref g]))] ++ (ck Z a v ++ (hk Z cd (kp, Y) ++ (rk Z d w ++ ([(bh, .inr (7, [.ref (ba 0), .ref (bcd 0), .ref bs1, .ref bs2, .ref (bd 0), .ref bg]))] ++ (ck Z ba bv ++ hk Z bcd (bkp, bY))))))) := hD
        have hl : lv_has ls 16 [(6, .int (nI k_636)), (5, .int (al 7)), (4, .int (nI hh)), (3, .int (x >>> (4 &&& 31))), (0, .ref h), (1, .ref bh), (2, .int x)] := hl
        refine lv_istore (lv' := [(7, .int x9), (6, .int (nI k_636)), (5, .int (al 7)), (4, .int (nI hh)), (3, .int (x >>> (4 &&& 31))), (0, .ref h), (1, .ref bh), (2, .int x)]) hx hb dL_isStep_691 hl (by decide) rfl (fun ls hl => ?_)
        refine lv_aload_n hx hb dL_isStep_693 rfl (lv_at hl 5 rfl) ?_
        refine lv_iload hx hb dL_isStep_694 (lv_at hl 1 rfl) ?_
        refine lv_iload hx hb dL_isStep_696 (lv_at hl 0 rfl) ?_
        refine zCi (S := CV × Nat × HV) (ws1 := fun u => [(h, .inr (7, [.ref (a 0), .ref (cd 0), .ref s1, .ref s2, .ref (d 0), .ref g]))] ++ (ck Z a u.1 ++ (hk Z cd (u.2.1, u.2.2) ++ (rk Z d w ++ ([(bh, .inr (7, [.ref (ba 0), .ref (bcd 0), .ref bs1, .ref bs2, .ref (bd 0), .ref bg]))] ++ (ck Z ba bv ++ hk Z bcd (bkp, bY))))))) (wr := rk Z d w ++ ([(bh, .inr (7, [.ref (ba 0), .ref (bcd 0), .ref bs1, .ref bs2, .ref (bd 0), .ref bg]))] ++ (ck Z ba bv ++ hk Z bcd (bkp, bY)))) (va_runV (As := [.int (nI k_636), .int x9]) (rest := []) ⟨hx, hb, hml, hown, hts⟩ (m_X7_set l G Z _ h a cd s1 s2 d g v kp Y (nI k_636) x9 (by
            exact hk6)) (cwV 2 hts gL_isStep_X7_set rfl rfl rfl (by decide +kernel) ⟨Nat.le_of_ble_eq_true rfl, Nat.le_of_ble_eq_true rfl⟩) (zPreV hK hP hD hS hA hSW [0, 1, 2, 3, 4, 5, 6, 7, 8, 9, 10, 11, 12, 13, 14, 15, 16, 17, 18, 19, 20, 21, 22, 23, 24, 25, 26, 27, 28, 29, 30, 31, 32, 33, 34, 35, 36, 37] rfl (by decide) 0 (ci := 7) rfl rfl rfl) rfl rfl hl.1 rfl (lv_room (Nat.le_of_ble_eq_true rfl)) dL_isStep_698 ⟨Nat.le_of_ble_eq_true rfl, Nat.le_of_ble_eq_true rfl⟩) hP hD hS hA [0, 1, 2, 3, 4, 5, 6, 7, 8, 9, 10, 11, 12, 13, 14, 15, 16, 17, 18, 19, 20, 21, 22, 23, 24, 25, 26, 27, 28, 29, 30, 31, 32, 33, 34, 35, 36, 37] [38, 39, 40, 41, 42, 43, 44, 45, 46, 47, 48, 49, 50, 51, 52, 53, 54, 55, 56, 57, 58, 59, 60, 61, 62, 63, 64, 65, 66, 67, 68, 69, 70, 71, 72, 73, 74, 75, 76, 77, 78] [41, 42, 43, 44, 45, 46, 47, 48, 49, 50, 51, 52, 53, 54, 55, 56, 57, 58, 59, 60, 61, 62, 63, 64, 65, 66, 67, 68, 69, 70, 71, 72, 73, 74, 75, 76, 77, 78, 0, 1, 2, 3, 4, 5, 6, 7, 8, 9, 10, 11, 12, 13, 14, 15, 16, 17, 18, 19, 20, 21, 22, 23, 24, 25, 26, 27, 28, 29, 30, 31, 32, 33, 34, 35, 36, 37, 38, 39, 40] rfl rfl (by decide) (by decide) (by decide) (fun _ => rfl) (fun r698 u H locs hw698 hP hD hS => ?_)
        obtain ⟨v1_698, kp1_698, Y1_698⟩ := u
        try dsimp only at hw698
        obtain ⟨rfl, e_v1_698, e_kp1_698, e_Y1_698⟩ := hw698
        have hP : va_P G vwCl ([(h, .inr (7, [.ref (a 0), .ref (cd 0), .ref s1, .ref s2, .ref (d 0), .ref g]))] ++ (ck Z a v1_698 ++ (hk Z cd (kp1_698, Y1_698) ++ (rk Z d w ++ ([(bh, .inr (7, [.ref (ba 0), .ref (bcd 0), .ref bs1, .ref bs2, .ref (bd 0), .ref bg]))] ++ (ck Z ba bv ++ hk Z bcd (bkp, bY))))))) H := hP
        have hD : va_D A ([(h, .inr (7, [.ref (a 0), .ref (cd 0), .ref s1, .ref s2, .ref (d 0), .ref g]))] ++ (ck Z a v1_698 ++ (hk Z cd (kp1_698, Y1_698) ++ (rk Z d w ++ ([(bh, .inr (7, [.ref (ba 0), .ref (bcd 0), .ref bs1, .ref bs2, .ref (bd 0), .ref bg]))] ++ (ck Z ba bv ++ hk Z bcd (bkp, bY))))))) := hD
        have hR698 : RS v1_698 (upd al k_636 x9) hh := by
          rw [e_v1_698]
          exact (oSet hRo hk_636 hj691).2
        have hk698 : kp1_698 ≤ 6 := by
          rw [e_kp1_698]
          exact oKp hk6
        refine zTopI (y := (al k_636 + 1000)) ((oSet hRo hk_636 hj691).1) ?_
        refine lv_istore (lv' := [(8, .int (al k_636 + 1000)), (7, .int x9), (6, .int (nI k_636)), (5, .int (al 7)), (4, .int (nI hh)), (3, .int (x >>> (4 &&& 31))), (0, .ref h), (1, .ref bh), (2, .int x)]) hx hb dL_isStep_701 hl (by decide) rfl (fun ls hl => ?_)
        refine lv_iload hx hb dL_isStep_703 (lv_at hl 0 rfl) ?_
        refine lv_aload_n hx hb dL_isStep_705 rfl (lv_at hl 7 rfl) ?_
        refine lv_iload hx hb dL_isStep_706 (lv_at hl 2 rfl) ?_
        refine lv_iload hx hb dL_isStep_708 (lv_at hl 1 rfl) ?_
        refine zCi (S := CV × Nat × HV) (ws1 := fun u => [(h, .inr (7, [.ref (a 0), .ref (cd 0), .ref s1, .ref s2, .ref (d 0), .ref g]))] ++ (ck Z a v1_698 ++ (hk Z cd (kp1_698, Y1_698) ++ (rk Z d w ++ ([(bh, .inr (7, [.ref (ba 0), .ref (bcd 0), .ref bs1, .ref bs2, .ref (bd 0), .ref bg]))] ++ (ck Z ba u.1 ++ hk Z bcd (u.2.1, u.2.2))))))) (wr := [(h, .inr (7, [.ref (a 0), .ref (cd 0), .ref s1, .ref s2, .ref (d 0), .ref g]))] ++ (ck Z a v1_698 ++ (hk Z cd (kp1_698, Y1_698) ++ rk Z d w))) (va_runV (As := [.int (nI k_636), .int x9]) (rest := [.int (al k_636 + 1000)]) ⟨hx, hb, hml, hown, hts⟩ (m_X7_set l G Z _ bh ba bcd bs1 bs2 bd bg bv bkp bY (nI k_636) x9 (by
            exact hbk6)) (cwV 2 hts gL_isStep_X7_set rfl rfl rfl (by decide +kernel) ⟨Nat.le_of_ble_eq_true rfl, Nat.le_of_ble_eq_true rfl⟩) (zPreV hK hP hD hS hA hSW [41, 42, 43, 44, 45, 46, 47, 48, 49, 50, 51, 52, 53, 54, 55, 56, 57, 58, 59, 60, 61, 62, 63, 64, 65, 66, 67, 68, 69, 70, 71, 72, 73, 74, 75, 76, 77, 78] rfl (by decide) 41 (ci := 7) rfl rfl rfl) rfl rfl hl.1 rfl (lv_room (Nat.le_of_ble_eq_true rfl)) dL_isStep_710 ⟨Nat.le_of_ble_eq_true rfl, Nat.le_of_ble_eq_true rfl⟩) hP hD hS hA [41, 42, 43, 44, 45, 46, 47, 48, 49, 50, 51, 52, 53, 54, 55, 56, 57, 58, 59, 60, 61, 62, 63, 64, 65, 66, 67, 68, 69, 70, 71, 72, 73, 74, 75, 76, 77, 78] [0, 1, 2, 3, 4, 5, 6, 7, 8, 9, 10, 11, 12, 13, 14, 15, 16, 17, 18, 19, 20, 21, 22, 23, 24, 25, 26, 27, 28, 29, 30, 31, 32, 33, 34, 35, 36, 37, 38, 39, 40] [0, 1, 2, 3, 4, 5, 6, 7, 8, 9, 10, 11, 12, 13, 14, 15, 16, 17, 18, 19, 20, 21, 22, 23, 24, 25, 26, 27, 28, 29, 30, 31, 32, 33, 34, 35, 36, 37, 38, 39, 40, 41, 42, 43, 44, 45, 46, 47, 48, 49, 50, 51, 52, 53, 54, 55, 56, 57, 58, 59, 60, 61, 62, 63, 64, 65, 66, 67, 68, 69, 70, 71, 72, 73, 74, 75, 76, 77, 78] rfl rfl (by decide) (by decide) (by decide) (fun _ => rfl) (fun r710 u H locs hw710 hP hD hS => ?_)
        obtain ⟨v1_710, kp1_710, Y1_710⟩ := u
        try dsimp only at hw710
        obtain ⟨rfl, e_v1_710, e_kp1_710, e_Y1_710⟩ := hw710
        have hP : va_P G vwCl ([(h, .inr (7, [.ref (a 0), .ref (cd 0), .ref s1, .ref s2, .ref (d 0), .ref g]))] ++ (ck Z a v1_698 ++ (hk Z cd (kp1_698, Y1_698) ++ (rk Z d w ++ ([(bh, .inr (7, [.ref (ba 0), .ref (bcd 0), .ref bs1, .ref bs2, .ref (bd 0), .ref bg]))] ++ (ck Z ba v1_710 ++ hk Z bcd (kp1_710, Y1_710))))))) H := hP
        have hD : va_D A ([(h, .inr (7, [.ref (a 0), .ref (cd 0), .ref s1, .ref s2, .ref (d 0), .ref g]))] ++ (ck Z a v1_698 ++ (hk Z cd (kp1_698, Y1_698) ++ (rk Z d w ++ ([(bh, .inr (7, [.ref (ba 0), .ref (bcd 0), .ref bs1, .ref bs2, .ref (bd 0), .ref bg]))] ++ (ck Z ba v1_710 ++ hk Z bcd (kp1_710, Y1_710))))))) := hD
        have hR710 : RS v1_710 (upd al k_636 x9) hh := by
          rw [e_v1_710]
          exact (oSet hRp hk_636 hj691).2
        have hk710 : kp1_710 ≤ 6 := by
          rw [e_kp1_710]
          exact oKp hbk6
        refine zTopI (y := (al k_636 + 1000)) ((oSet hRp hk_636 hj691).1) ?_
        refine lv_icmp_ne (tgt := 738) hx hb dL_isStep_713 (by decide) (fun c713 => (c713 rfl).elim) (fun c713 => ?_)
        refine lv_aload_n hx hb dL_isStep_716 rfl (lv_at hl 6 rfl) ?_
        refine lv_bipush (v := 7) hx hb dL_isStep_717 (by decide) ?_
        refine lv_iload hx hb dL_isStep_719 (lv_at hl 2 rfl) ?_
        refine lv_iadd hx hb dL_isStep_721 ?_
        refine zCi (S := Unit) (ws1 := fun u => [(h, .inr (7, [.ref (a 0), .ref (cd 0), .ref s1, .ref s2, .ref (d 0), .ref g]))] ++ (ck Z a v1_698 ++ (hk Z cd (kp1_698, Y1_698) ++ (rk Z d w ++ ([(bh, .inr (7, [.ref (ba 0), .ref (bcd 0), .ref bs1, .ref bs2, .ref (bd 0), .ref bg]))] ++ (ck Z ba v1_710 ++ hk Z bcd (kp1_710, Y1_710))))))) (wr := [(bh, .inr (7, [.ref (ba 0), .ref (bcd 0), .ref bs1, .ref bs2, .ref (bd 0), .ref bg]))] ++ (ck Z ba v1_710 ++ hk Z bcd (kp1_710, Y1_710))) (va_runV (As := [.int (7 + (nI k_636))]) (rest := []) ⟨hx, hb, hml, hown, hts⟩ (m_X7_count l G Z _ h a cd s1 s2 d g v1_698 kp1_698 Y1_698 w (7 + (nI k_636))) (cwV 1 hts gL_isStep_X7_count rfl rfl rfl (by decide +kernel) ⟨Nat.le_of_ble_eq_true rfl, Nat.le_of_ble_eq_true rfl⟩) (zPreV hK hP hD hS hA hSW [0, 1, 2, 3, 4, 5, 6, 7, 8, 9, 10, 11, 12, 13, 14, 15, 16, 17, 18, 19, 20, 21, 22, 23, 24, 25, 26, 27, 28, 29, 30, 31, 32, 33, 34, 35, 36, 37, 38, 39, 40] rfl (by decide) 0 (ci := 7) rfl rfl rfl) rfl rfl hl.1 rfl (lv_room (Nat.le_of_ble_eq_true rfl)) dL_isStep_722 ⟨Nat.le_of_ble_eq_true rfl, Nat.le_of_ble_eq_true rfl⟩) hP hD hS hA [0, 1, 2, 3, 4, 5, 6, 7, 8, 9, 10, 11, 12, 13, 14, 15, 16, 17, 18, 19, 20, 21, 22, 23, 24, 25, 26, 27, 28, 29, 30, 31, 32, 33, 34, 35, 36, 37, 38, 39, 40] [41, 42, 43, 44, 45, 46, 47, 48, 49, 50, 51, 52, 53, 54, 55, 56, 57, 58, 59, 60, 61, 62, 63, 64, 65, 66, 67, 68, 69, 70, 71, 72, 73, 74, 75, 76, 77, 78] [38, 39, 40, 41, 42, 43, 44, 45, 46, 47, 48, 49, 50, 51, 52, 53, 54, 55, 56, 57, 58, 59, 60, 61, 62, 63, 64, 65, 66, 67, 68, 69, 70, 71, 72, 73, 74, 75, 76, 77, 78, 0, 1, 2, 3, 4, 5, 6, 7, 8, 9, 10, 11, 12, 13, 14, 15, 16, 17, 18, 19, 20, 21, 22, 23, 24, 25, 26, 27, 28, 29, 30, 31, 32, 33, 34, 35, 36, 37] rfl rfl (by decide) (by decide) (by decide) (fun _ => rfl) (fun r722 u H locs hw722 hP hD hS => ?_)
        try dsimp only at hw722
        subst hw722
        have hP : va_P G vwCl ([(h, .inr (7, [.ref (a 0), .ref (cd 0), .ref s1, .ref s2, .ref (d 0), .ref g]))] ++ (ck Z a v1_698 ++ (hk Z cd (kp1_698, Y1_698) ++ (rk Z d w ++ ([(bh, .inr (7, [.ref (ba 0), .ref (bcd 0), .ref bs1, .ref bs2, .ref (bd 0), .ref bg]))] ++ (ck Z ba v1_710 ++ hk Z bcd (kp1_710, Y1_710))))))) H := hP
        have hD : va_D A ([(h, .inr (7, [.ref (a 0), .ref (cd 0), .ref s1, .ref s2, .ref (d 0), .ref g]))] ++ (ck Z a v1_698 ++ (hk Z cd (kp1_698, Y1_698) ++ (rk Z d w ++ ([(bh, .inr (7, [.ref (ba 0), .ref (bcd 0), .ref bs1, .ref bs2, .ref (bd 0), .ref bg]))] ++ (ck Z ba v1_710 ++ hk Z bcd (kp1_710, Y1_710))))))) := hD
        refine zTopI (y := ((upd al k_636 x9) k_636 + 1000)) (ocS hR698 _ _ hk_636) ?_
        refine lv_iload hx hb dL_isStep_725 (lv_at hl 1 rfl) ?_
        refine lv_sipush (v := 1000) hx hb dL_isStep_727 (by decide) ?_
        refine lv_iadd hx hb dL_isStep_730 ?_
        refine lv_icmp_ne (tgt := 738) hx hb dL_isStep_731 (by decide) (fun c731 => (c731 (congrArg (· + 1000) updS)).elim) (fun c731 => ?_)
        refine lv_iconst (v := 1) hx hb dL_isStep_734 (by decide) ?_
        refine lv_goto (tgt := 739) hx hb dL_isStep_735 (by decide) ?_
        exact W.zret hx hb hr (rfl) (zEi (v1_698, kp1_698, Y1_698, v1_710, kp1_710, Y1_710) (by
            refine ⟨rfl, ?_⟩
            unfold oStp
            exact ⟨_, _, hR698, hR710, WI_cg hWI (fun j hj => updN (by omega)), by omega, hk698, hk710⟩) hP hD hS) hS.2.2 dL_isStep_739
      · intro K691
        refine lv_iload hx hb dL_isStep_641 (lv_at hl 0 rfl) ?_
        refine lv_iconst (v := 2) hx hb dL_isStep_643 (by decide) ?_
        refine lv_icmp_ge (tgt := 658) hx hb dL_isStep_644 (by decide) (fun c644 => ?_) (fun c644 => ?_)
        · refine lv_iload hx hb dL_isStep_658 (lv_at hl 0 rfl) ?_
          refine lv_iconst (v := 2) hx hb dL_isStep_660 (by decide) ?_
          refine lv_icmp_ne (tgt := 680) hx hb dL_isStep_661 (by decide) (fun c661 => ?_) (fun c661 => ?_)
          · refine lv_iconst (v := 1) hx hb dL_isStep_680 (by decide) ?_
            refine lv_iload_n hx hb dL_isStep_681 rfl (lv_at hl 3 rfl) ?_
            refine lv_iconst (v := 2) hx hb dL_isStep_682 (by decide) ?_
            refine lv_ishr hx hb dL_isStep_683 ?_
            refine lv_sipush (v := 1500) hx hb dL_isStep_684 (by decide) ?_
            refine zCi (S := Nat) (ws1 := fun u => [(h, .inr (7, [.ref (a 0), .ref (cd 0), .ref s1, .ref s2, .ref (d 0), .ref g]))] ++ (ck Z a v ++ (hk Z cd (kp, Y) ++ (rk Z d w ++ ([(bh, .inr (7, [.ref (ba 0), .ref (bcd 0), .ref bs1, .ref bs2, .ref (bd 0), .ref bg]))] ++ (ck Z ba bv ++ hk Z bcd (bkp, bY))))))) (wr := [(h, .inr (7, [.ref (a 0), .ref (cd 0), .ref s1, .ref s2, .ref (d 0), .ref g]))] ++ (ck Z a v ++ (hk Z cd (kp, Y) ++ (rk Z d w ++ ([(bh, .inr (7, [.ref (ba 0), .ref (bcd 0), .ref bs1, .ref bs2, .ref (bd 0), .ref bg]))] ++ (ck Z ba bv ++ hk Z bcd (bkp, bY))))))) (va_runS (As := [.int ((x >>> (4 &&& 31)) >>> (2 &&& 31)), .int 1500]) (rest := [.int 1]) ⟨hx, hb, hml, hown, hts⟩ (m_L_up l G Z _ ((x >>> (4 &&& 31)) >>> (2 &&& 31)) 1500 (by
                decide) (by
                decide)) (va_cwS 2 hts gL_isStep_L_up rfl rfl rfl (by decide +kernel) ⟨Nat.le_of_ble_eq_true rfl, Nat.le_of_ble_eq_true rfl⟩) (zPreS hK hP hD hS hA hSW [] rfl (by decide)) rfl rfl hl.1 rfl (lv_room (Nat.le_of_ble_eq_true rfl)) dL_isStep_687 ⟨Nat.le_of_ble_eq_true rfl, Nat.le_of_ble_eq_true rfl⟩) hP hD hS hA [] [0, 1, 2, 3, 4, 5, 6, 7, 8, 9, 10, 11, 12, 13, 14, 15, 16, 17, 18, 19, 20, 21, 22, 23, 24, 25, 26, 27, 28, 29, 30, 31, 32, 33, 34, 35, 36, 37, 38, 39, 40, 41, 42, 43, 44, 45, 46, 47, 48, 49, 50, 51, 52, 53, 54, 55, 56, 57, 58, 59, 60, 61, 62, 63, 64, 65, 66, 67, 68, 69, 70, 71, 72, 73, 74, 75, 76, 77, 78] [0, 1, 2, 3, 4, 5, 6, 7, 8, 9, 10, 11, 12, 13, 14, 15, 16, 17, 18, 19, 20, 21, 22, 23, 24, 25, 26, 27, 28, 29, 30, 31, 32, 33, 34, 35, 36, 37, 38, 39, 40, 41, 42, 43, 44, 45, 46, 47, 48, 49, 50, 51, 52, 53, 54, 55, 56, 57, 58, 59, 60, 61, 62, 63, 64, 65, 66, 67, 68, 69, 70, 71, 72, 73, 74, 75, 76, 77, 78] rfl rfl (by decide) (by decide) (by decide) (fun _ => rfl) (fun r687 u H locs hw687 hP hD hS => ?_)
            obtain ⟨k_687, rfl⟩ : ∃ z, z = u := ⟨_, rfl⟩
            try dsimp only at hw687
            have hP : va_P G vwCl ([(h, .inr (7, [.ref (a 0), .ref (cd 0), .ref s1, .ref s2, .ref (d 0), .ref g]))] ++ (ck Z a v ++ (hk Z cd (kp, Y) ++ (rk Z d w ++ ([(bh, .inr (7, [.ref (ba 0), .ref (bcd 0), .ref bs1, .ref bs2, .ref (bd 0), .ref bg]))] ++ (ck Z ba bv ++ hk Z bcd (bkp, bY))))))) H := hP
            have hD : va_D A ([(h, .inr (7, [.ref (a 0), .ref (cd 0), .ref s1, .ref s2, .ref (d 0), .ref g]))] ++ (ck Z a v ++ (hk Z cd (kp, Y) ++ (rk Z d w ++ ([(bh, .inr (7, [.ref (ba 0), .ref (bcd 0), .ref bs1, .ref bs2, .ref (bd 0), .ref bg]))] ++ (ck Z ba bv ++ hk Z bcd (bkp, bY))))))) := hD
            obtain ⟨rfl, hk_687⟩ := hw687
            refine lv_iadd hx hb dL_isStep_690 ?_
            exact K691 (1 + (nI k_687)) (by
                try dsimp only
                have h9 := zLe (a := 2) c644 (by decide) (by omega)
                have h8 : ¬ k_636 = 2 := fun q => c661 (by rw [q]; rfl)
                rw [show k_636 = 3 by omega]
                exact dSe3 _ hk_687) _ _ _ hP hD hS (lv_sub hl [0, 1, 2, 3, 4, 5, 6] rfl)
          · refine lv_iload_n hx hb dL_isStep_664 rfl (lv_at hl 3 rfl) ?_
            refine lv_iconst (v := 2) hx hb dL_isStep_665 (by decide) ?_
            refine lv_ishr hx hb dL_isStep_666 ?_
            refine lv_sipush (v := 301) hx hb dL_isStep_667 (by decide) ?_
            refine zCi (S := Nat) (ws1 := fun u => [(h, .inr (7, [.ref (a 0), .ref (cd 0), .ref s1, .ref s2, .ref (d 0), .ref g]))] ++ (ck Z a v ++ (hk Z cd (kp, Y) ++ (rk Z d w ++ ([(bh, .inr (7, [.ref (ba 0), .ref (bcd 0), .ref bs1, .ref bs2, .ref (bd 0), .ref bg]))] ++ (ck Z ba bv ++ hk Z bcd (bkp, bY))))))) (wr := [(h, .inr (7, [.ref (a 0), .ref (cd 0), .ref s1, .ref s2, .ref (d 0), .ref g]))] ++ (ck Z a v ++ (hk Z cd (kp, Y) ++ (rk Z d w ++ ([(bh, .inr (7, [.ref (ba 0), .ref (bcd 0), .ref bs1, .ref bs2, .ref (bd 0), .ref bg]))] ++ (ck Z ba bv ++ hk Z bcd (bkp, bY))))))) (va_runS (As := [.int ((x >>> (4 &&& 31)) >>> (2 &&& 31)), .int 301]) (rest := []) ⟨hx, hb, hml, hown, hts⟩ (m_L_up l G Z _ ((x >>> (4 &&& 31)) >>> (2 &&& 31)) 301 (by
                decide) (by
                decide)) (va_cwS 2 hts gL_isStep_L_up rfl rfl rfl (by decide +kernel) ⟨Nat.le_of_ble_eq_true rfl, Nat.le_of_ble_eq_true rfl⟩) (zPreS hK hP hD hS hA hSW [] rfl (by decide)) rfl rfl hl.1 rfl (lv_room (Nat.le_of_ble_eq_true rfl)) dL_isStep_670 ⟨Nat.le_of_ble_eq_true rfl, Nat.le_of_ble_eq_true rfl⟩) hP hD hS hA [] [0, 1, 2, 3, 4, 5, 6, 7, 8, 9, 10, 11, 12, 13, 14, 15, 16, 17, 18, 19, 20, 21, 22, 23, 24, 25, 26, 27, 28, 29, 30, 31, 32, 33, 34, 35, 36, 37, 38, 39, 40, 41, 42, 43, 44, 45, 46, 47, 48, 49, 50, 51, 52, 53, 54, 55, 56, 57, 58, 59, 60, 61, 62, 63, 64, 65, 66, 67, 68, 69, 70, 71, 72, 73, 74, 75, 76, 77, 78] [0, 1, 2, 3, 4, 5, 6, 7, 8, 9, 10, 11, 12, 13, 14, 15, 16, 17, 18, 19, 20, 21, 22, 23, 24, 25, 26, 27, 28, 29, 30, 31, 32, 33, 34, 35, 36, 37, 38, 39, 40, 41, 42, 43, 44, 45, 46, 47, 48, 49, 50, 51, 52, 53, 54, 55, 56, 57, 58, 59, 60, 61, 62, 63, 64, 65, 66, 67, 68, 69, 70, 71, 72, 73, 74, 75, 76, 77, 78] rfl rfl (by decide) (by decide) (by decide) (fun _ => rfl) (fun r670 u H locs hw670 hP hD hS => ?_)
            obtain ⟨k_670, rfl⟩ : ∃ z, z = u := ⟨_, rfl⟩
            try dsimp only at hw670
            have hP : va_P G vwCl ([(h, .inr (7, [.ref (a 0), .ref (cd 0), .ref s1, .ref s2, .ref (d 0), .ref g]))] ++ (ck Z a v ++ (hk Z cd (kp, Y) ++ (rk Z d w ++ ([(bh, .inr (7, [.ref (ba 0), .ref (bcd 0), .ref bs1, .ref bs2, .ref (bd 0), .ref bg]))] ++ (ck Z ba bv ++ hk Z bcd (bkp, bY))))))) H := hP
            have hD : va_D A ([(h, .inr (7, [.ref (a 0), .ref (cd 0), .ref s1, .ref s2, .ref (d 0), .ref g]))] ++ (ck Z a v ++ (hk Z cd (kp, Y) ++ (rk Z d w ++ ([(bh, .inr (7, [.ref (ba 0), .ref (bcd 0), .ref bs1, .ref bs2, .ref (bd 0), .ref bg]))] ++ (ck Z ba bv ++ hk Z bcd (bkp, bY))))))) := hD
            obtain ⟨rfl, hk_670⟩ := hw670
            refine lv_sipush (v := 150) hx hb dL_isStep_673 (by decide) ?_
            refine lv_isub hx hb dL_isStep_676 ?_
            refine lv_goto (tgt := 691) hx hb dL_isStep_677 (by decide) ?_
            exact K691 ((nI k_670) - 150) (by
                try dsimp only
                rw [c661]
                exact dSe2 _ hk_670) _ _ _ hP hD hS (lv_sub hl [0, 1, 2, 3, 4, 5, 6] rfl)
        · refine lv_iload_n hx hb dL_isStep_647 rfl (lv_at hl 3 rfl) ?_
          refine lv_iconst (v := 2) hx hb dL_isStep_648 (by decide) ?_
          refine lv_ishr hx hb dL_isStep_649 ?_
          refine lv_bipush (v := 60) hx hb dL_isStep_650 (by decide) ?_
          refine zCi (S := Nat) (ws1 := fun u => [(h, .inr (7, [.ref (a 0), .ref (cd 0), .ref s1, .ref s2, .ref (d 0), .ref g]))] ++ (ck Z a v ++ (hk Z cd (kp, Y) ++ (rk Z d w ++ ([(bh, .inr (7, [.ref (ba 0), .ref (bcd 0), .ref bs1, .ref bs2, .ref (bd 0), .ref bg]))] ++ (ck Z ba bv ++ hk Z bcd (bkp, bY))))))) (wr := [(h, .inr (7, [.ref (a 0), .ref (cd 0), .ref s1, .ref s2, .ref (d 0), .ref g]))] ++ (ck Z a v ++ (hk Z cd (kp, Y) ++ (rk Z d w ++ ([(bh, .inr (7, [.ref (ba 0), .ref (bcd 0), .ref bs1, .ref bs2, .ref (bd 0), .ref bg]))] ++ (ck Z ba bv ++ hk Z bcd (bkp, bY))))))) (va_runS (As := [.int ((x >>> (4 &&& 31)) >>> (2 &&& 31)), .int 60]) (rest := []) ⟨hx, hb, hml, hown, hts⟩ (m_L_up l G Z _ ((x >>> (4 &&& 31)) >>> (2 &&& 31)) 60 (by
              decide) (by
              decide)) (va_cwS 2 hts gL_isStep_L_up rfl rfl rfl (by decide +kernel) ⟨Nat.le_of_ble_eq_true rfl, Nat.le_of_ble_eq_true rfl⟩) (zPreS hK hP hD hS hA hSW [] rfl (by decide)) rfl rfl hl.1 rfl (lv_room (Nat.le_of_ble_eq_true rfl)) dL_isStep_652 ⟨Nat.le_of_ble_eq_true rfl, Nat.le_of_ble_eq_true rfl⟩) hP hD hS hA [] [0, 1, 2, 3, 4, 5, 6, 7, 8, 9, 10, 11, 12, 13, 14, 15, 16, 17, 18, 19, 20, 21, 22, 23, 24, 25, 26, 27, 28, 29, 30, 31, 32, 33, 34, 35, 36, 37, 38, 39, 40, 41, 42, 43, 44, 45, 46, 47, 48, 49, 50, 51, 52, 53, 54, 55, 56, 57, 58, 59, 60, 61, 62, 63, 64, 65, 66, 67, 68, 69, 70, 71, 72, 73, 74, 75, 76, 77, 78] [0, 1, 2, 3, 4, 5, 6, 7, 8, 9, 10, 11, 12, 13, 14, 15, 16, 17, 18, 19, 20, 21, 22, 23, 24, 25, 26, 27, 28, 29, 30, 31, 32, 33, 34, 35, 36, 37, 38, 39, 40, 41, 42, 43, 44, 45, 46, 47, 48, 49, 50, 51, 52, 53, 54, 55, 56, 57, 58, 59, 60, 61, 62, 63, 64, 65, 66, 67, 68, 69, 70, 71, 72, 73, 74, 75, 76, 77, 78] rfl rfl (by decide) (by decide) (by decide) (fun _ => rfl) (fun r652 u H locs hw652 hP hD hS => ?_)
          obtain ⟨k_652, rfl⟩ : ∃ z, z = u := ⟨_, rfl⟩
          try dsimp only at hw652
          have hP : va_P G vwCl ([(h, .inr (7, [.ref (a 0), .ref (cd 0), .ref s1, .ref s2, .ref (d 0), .ref g]))] ++ (ck Z a v ++ (hk Z cd (kp, Y) ++ (rk Z d w ++ ([(bh, .inr (7, [.ref (ba 0), .ref (bcd 0), .ref bs1, .ref bs2, .ref (bd 0), .ref bg]))] ++ (ck Z ba bv ++ hk Z bcd (bkp, bY))))))) H := hP
          have hD : va_D A ([(h, .inr (7, [.ref (a 0), .ref (cd 0), .ref s1, .ref s2, .ref (d 0), .ref g]))] ++ (ck Z a v ++ (hk Z cd (kp, Y) ++ (rk Z d w ++ ([(bh, .inr (7, [.ref (ba 0), .ref (bcd 0), .ref bs1, .ref bs2, .ref (bd 0), .ref bg]))] ++ (ck Z ba bv ++ hk Z bcd (bkp, bY))))))) := hD
          obtain ⟨rfl, hk_652⟩ := hw652
          refine lv_goto (tgt := 691) hx hb dL_isStep_655 (by decide) ?_
          exact K691 (nI k_652) (by
              try dsimp only
              have h9 := zNle (a := 2) c644 (by decide) (by omega)
              exact dSe1 _ h9 _ hk_652) _ _ _ hP hD hS (lv_sub hl [0, 1, 2, 3, 4, 5, 6] rfl)
