set_option maxHeartbeats 4000000 in
set_option maxRecDepth 100000 in
/-- the law, from its entry -/
theorem whole_start {p : Program} {e : Env} {s : State} {m : MethodId} {below : List Frame} {meth : Method} {c : Code} (l : Launch) (hflags : l.flags = flags0) {bb L : Nat} {xs : Nat → Int32} (hL : L ≤ 2560) (C0 : lw_At p s m meth c bb L xs) : W p l e room_1 s m #[Value.ref bb] below meth c s.heap [] 0 0 (lw_Z below #[Value.ref bb] s) (entryFrame m ([Value.ref bb] : List Value).toArray 4) := by
  obtain ⟨hx, hb, hr, hml, hown, hts0, hX, hbl, hlocks, hgv⟩ := id C0
  have hts : ∀ w ∈ wsL_law, w.before #[Value.ref bb] s = true := fun w h => hts0 w (wsL_law_in w h)
  have hm : ∀ w ∈ lwMore, w.before #[Value.ref bb] s = true := fun w h => hts0 w (lwMore_in w h)
  have hown : s.vm.findClass RL = some m.cls := hown
  obtain ⟨G, hG⟩ := lwG hts
  obtain ⟨Z, hZ⟩ := lwZ (hts (.arrayClass .int) (List.mem_of_getElem? (i := 37) rfl)) (hts (.arrayClass .char) (List.mem_of_getElem? (i := 73) rfl)) (hm _ (List.mem_of_getElem? (i := 30) rfl))
  have hK : va_K G vwCl (zTy Z) s := ⟨hG, hZ⟩
  obtain ⟨A, hA1⟩ : ∃ A : Nat → Prop, A = fun q => s.heap.size ≤ q := ⟨_, rfl⟩
  have hA : ∀ q : Nat, s.heap.size ≤ q → A q := fun q h => by rw [hA1]; exact h
  have hAS : ∀ q : Nat, A q → s.heap.size ≤ q := fun q h => by rw [hA1] at h; exact h
  have hbA : ¬ A bb := fun h => absurd (hAS bb h) (Nat.not_le.mpr hbl)
  have hSW : zSW A s := lwST hts hm hgv (fun q hq h => absurd (hAS q h) (Nat.not_le.mpr hq))
  have hS : va_S A s.heap s.heap [] := va_S.rf
  have hP : va_P G vwCl [] s.heap := fun k q h => by simp at h
  have hD : va_D A [] := ⟨fun i j p q h => by simp at h, fun k q h => by simp at h⟩
  have k_7 := hts (.classLink RL 7 RX7) (List.mem_of_getElem? (i := 0) rfl)
  have kin_X7 := hts (.instantiable RX7 6) (List.mem_of_getElem? (i := 1) rfl)
  have kini_X7 := hts (.initialized RX7) (List.mem_of_getElem? (i := 2) rfl)
  have kins_X7_init := hts (.instanceMethod yX7_init) (List.mem_of_getElem? (i := 8) rfl)
  have k_9 := hts (.methodLink RL 9 yX7_init) (List.mem_of_getElem? (i := 7) rfl)
  have k_10 := hts (.classLink RL 10 RX8) (List.mem_of_getElem? (i := 3) rfl)
  have kin_X8 := hts (.instantiable RX8 14) (List.mem_of_getElem? (i := 4) rfl)
  have kini_X8 := hts (.initialized RX8) (List.mem_of_getElem? (i := 5) rfl)
  have kins_X8_init := hts (.instanceMethod yX8_init) (List.mem_of_getElem? (i := 76) rfl)
  have k_12 := hts (.methodLink RL 12 yX8_init) (List.mem_of_getElem? (i := 75) rfl)
  have hl := lv_entry ([.ref bb]) (n := 4) (Nat.le_of_ble_eq_true rfl)
  rw [lg_entry_eq]
  generalize (lg_sl ([.ref bb]) ++ List.replicate (4 - (lg_sl ([.ref bb])).length) Slot.unset).toArray = ls at hl ⊢
  have hl : lv_has ls 4 [(0, .ref bb)] := hl
  refine va_new (ci := 7) (fs := [.null, .null, .null, .null, .null, .null]) (C := RX7) (T := TX7) (N := 6) hx hb hts (fun w h => inlX7 w h) tyX7 tyX7_ok hown k_7 kin_X7 kini_X7 hK hP hD hS hA rfl (fun j hj => by rcases (show j = 0 ∨ j = 1 ∨ j = 2 ∨ j = 3 ∨ j = 4 ∨ j = 5 by omega) with rfl | rfl | rfl | rfl | rfl | rfl <;> rfl) (Nat.le_of_ble_eq_true rfl) (Nat.le_of_ble_eq_true rfl) dL_law_0 (fun q0 H hP hD hS => ?_)
  have hP : va_P G vwCl ([(q0, .inr (7, [.null, .null, .null, .null, .null, .null]))]) H := hP
  have hD : va_D A ([(q0, .inr (7, [.null, .null, .null, .null, .null, .null]))]) := hD
  refine lv_dup hx hb dL_law_3 rfl ?_
  refine zCv (S := (Nat → Nat) × (Nat → Nat) × HV × Nat × (Nat → Nat) × Nat × (Nat → Nat) × (Nat → Nat) × Nat) (ws1 := fun u => [(q0, .inr (7, [.ref (u.1 0), .ref (u.2.1 0), .ref u.2.2.2.1, .ref u.2.2.2.2.2.1, .ref (u.2.2.2.2.2.2.2.1 0), .ref u.2.2.2.2.2.2.2.2]))] ++ (ck Z u.1 (cSt0, 0, 0, (fun _ => 0), 0, 0, 0, 0, 0) ++ (hk Z u.2.1 (0, u.2.2.1) ++ ([(u.2.2.2.1, .inr (6, [.ref (u.2.2.2.2.1 0), .int 0]))] ++ (ck Z u.2.2.2.2.1 (cSt0, 0, 0, (fun _ => 0), 0, 0, 0, 0, 0) ++ ([(u.2.2.2.2.2.1, .inr (6, [.ref (u.2.2.2.2.2.2.1 0), .int 0]))] ++ (ck Z u.2.2.2.2.2.2.1 (cSt0, 0, 0, (fun _ => 0), 0, 0, 0, 0, 0) ++ (rk Z u.2.2.2.2.2.2.2.1 ((fun _ => 0), 0, 0, 0, 0, 0, 0, 0, 0) ++ [(u.2.2.2.2.2.2.2.2, .inr (1, [.int 0, .int 0]))])))))))) (wr := []) (va_runI (As := []) (rest := [.ref q0]) ⟨hx, hb, hml, hown, hts⟩ (m_X7_init l G Z _ q0) (cwI 0 hts gL_law_X7_init rfl rfl rfl kini_X7 k_9 kins_X7_init rfl (by decide +kernel) ⟨Nat.le_of_ble_eq_true rfl, Nat.le_of_ble_eq_true rfl⟩) (zPreS hK hP hD hS hA hSW [0] rfl (by decide)) rfl rfl hl.1 rfl (lv_room (Nat.le_of_ble_eq_true rfl)) dL_law_4 ⟨Nat.le_of_ble_eq_true rfl, Nat.le_of_ble_eq_true rfl⟩) hP hD hS hA [0] [] [0, 1, 2, 3, 4, 5, 6, 7, 8, 9, 10, 11, 12, 13, 14, 15, 16, 17, 18, 19, 20, 21, 22, 23, 24, 25, 26, 27, 28, 29, 30, 31, 32, 33, 34, 35, 36, 37, 38, 39, 40, 41, 42, 43, 44, 45, 46, 47, 48, 49, 50, 51, 52, 53] rfl rfl (by decide) (by decide) (by decide) (fun _ => rfl) (fun u H locs hw4 hP hD hS => ?_)
  obtain ⟨a1_4, c1_4, H1_4, s11_4, e11_4, s21_4, e21_4, d1_4, g1_4⟩ := u
  try dsimp only at hw4
  have hP : va_P G vwCl ([(q0, .inr (7, [.ref (a1_4 0), .ref (c1_4 0), .ref s11_4, .ref s21_4, .ref (d1_4 0), .ref g1_4]))] ++ (ck Z a1_4 (cSt0, 0, 0, (fun _ => 0), 0, 0, 0, 0, 0) ++ (hk Z c1_4 (0, H1_4) ++ ([(s11_4, .inr (6, [.ref (e11_4 0), .int 0]))] ++ (ck Z e11_4 (cSt0, 0, 0, (fun _ => 0), 0, 0, 0, 0, 0) ++ ([(s21_4, .inr (6, [.ref (e21_4 0), .int 0]))] ++ (ck Z e21_4 (cSt0, 0, 0, (fun _ => 0), 0, 0, 0, 0, 0) ++ (rk Z d1_4 ((fun _ => 0), 0, 0, 0, 0, 0, 0, 0, 0) ++ [(g1_4, .inr (1, [.int 0, .int 0]))])))))))) H := hP
  have hD : va_D A ([(q0, .inr (7, [.ref (a1_4 0), .ref (c1_4 0), .ref s11_4, .ref s21_4, .ref (d1_4 0), .ref g1_4]))] ++ (ck Z a1_4 (cSt0, 0, 0, (fun _ => 0), 0, 0, 0, 0, 0) ++ (hk Z c1_4 (0, H1_4) ++ ([(s11_4, .inr (6, [.ref (e11_4 0), .int 0]))] ++ (ck Z e11_4 (cSt0, 0, 0, (fun _ => 0), 0, 0, 0, 0, 0) ++ ([(s21_4, .inr (6, [.ref (e21_4 0), .int 0]))] ++ (ck Z e21_4 (cSt0, 0, 0, (fun _ => 0), 0, 0, 0, 0, 0) ++ (rk Z d1_4 ((fun _ => 0), 0, 0, 0, 0, 0, 0, 0, 0) ++ [(g1_4, .inr (1, [.int 0, .int 0]))])))))))) := hD
  refine lv_astore_n (lv' := [(1, .ref q0), (0, .ref bb)]) hx hb dL_law_7 rfl hl (by decide) rfl (fun ls hl => ?_)
  refine va_new (ci := 8) (fs := [.null, .null, .null, .int 0, .null, .null, .int 0, .int 0, .null, .int 0, .int 0, .int 0, .int 0, .int 0]) (C := RX8) (T := TX8) (N := 14) hx hb hts (fun w h => inlX8 w h) tyX8 tyX8_ok hown k_10 kin_X8 kini_X8 hK hP hD hS hA rfl (fun j hj => by rcases (show j = 0 ∨ j = 1 ∨ j = 2 ∨ j = 3 ∨ j = 4 ∨ j = 5 ∨ j = 6 ∨ j = 7 ∨ j = 8 ∨ j = 9 ∨ j = 10 ∨ j = 11 ∨ j = 12 ∨ j = 13 by omega) with rfl | rfl | rfl | rfl | rfl | rfl | rfl | rfl | rfl | rfl | rfl | rfl | rfl | rfl <;> rfl) (Nat.le_of_ble_eq_true rfl) (Nat.le_of_ble_eq_true rfl) dL_law_8 (fun q8 H hP hD hS => ?_)
  have hP : va_P G vwCl ([(q0, .inr (7, [.ref (a1_4 0), .ref (c1_4 0), .ref s11_4, .ref s21_4, .ref (d1_4 0), .ref g1_4]))] ++ (ck Z a1_4 (cSt0, 0, 0, (fun _ => 0), 0, 0, 0, 0, 0) ++ (hk Z c1_4 (0, H1_4) ++ ([(s11_4, .inr (6, [.ref (e11_4 0), .int 0]))] ++ (ck Z e11_4 (cSt0, 0, 0, (fun _ => 0), 0, 0, 0, 0, 0) ++ ([(s21_4, .inr (6, [.ref (e21_4 0), .int 0]))] ++ (ck Z e21_4 (cSt0, 0, 0, (fun _ => 0), 0, 0, 0, 0, 0) ++ (rk Z d1_4 ((fun _ => 0), 0, 0, 0, 0, 0, 0, 0, 0) ++ [(g1_4, .inr (1, [.int 0, .int 0])), (q8, .inr (8, [.null, .null, .null, .int 0, .null, .null, .int 0, .int 0, .null, .int 0, .int 0, .int 0, .int 0, .int 0]))])))))))) H := hP
  have hD : va_D A ([(q0, .inr (7, [.ref (a1_4 0), .ref (c1_4 0), .ref s11_4, .ref s21_4, .ref (d1_4 0), .ref g1_4]))] ++ (ck Z a1_4 (cSt0, 0, 0, (fun _ => 0), 0, 0, 0, 0, 0) ++ (hk Z c1_4 (0, H1_4) ++ ([(s11_4, .inr (6, [.ref (e11_4 0), .int 0]))] ++ (ck Z e11_4 (cSt0, 0, 0, (fun _ => 0), 0, 0, 0, 0, 0) ++ ([(s21_4, .inr (6, [.ref (e21_4 0), .int 0]))] ++ (ck Z e21_4 (cSt0, 0, 0, (fun _ => 0), 0, 0, 0, 0, 0) ++ (rk Z d1_4 ((fun _ => 0), 0, 0, 0, 0, 0, 0, 0, 0) ++ [(g1_4, .inr (1, [.int 0, .int 0])), (q8, .inr (8, [.null, .null, .null, .int 0, .null, .null, .int 0, .int 0, .null, .int 0, .int 0, .int 0, .int 0, .int 0]))])))))))) := hD
  refine lv_dup hx hb dL_law_11 rfl ?_
  refine zCv (S := (Nat → Nat) × (Nat → Int32)) (ws1 := fun u => [(q0, .inr (7, [.ref (a1_4 0), .ref (c1_4 0), .ref s11_4, .ref s21_4, .ref (d1_4 0), .ref g1_4]))] ++ (ck Z a1_4 (cSt0, 0, 0, (fun _ => 0), 0, 0, 0, 0, 0) ++ (hk Z c1_4 (0, H1_4) ++ ([(s11_4, .inr (6, [.ref (e11_4 0), .int 0]))] ++ (ck Z e11_4 (cSt0, 0, 0, (fun _ => 0), 0, 0, 0, 0, 0) ++ ([(s21_4, .inr (6, [.ref (e21_4 0), .int 0]))] ++ (ck Z e21_4 (cSt0, 0, 0, (fun _ => 0), 0, 0, 0, 0, 0) ++ (rk Z d1_4 ((fun _ => 0), 0, 0, 0, 0, 0, 0, 0, 0) ++ ([(g1_4, .inr (1, [.int 0, .int 0]))] ++ mk Z u.1 (u.2, (fun _ => 0), (fun _ => 0), 0, (fun _ => 0), (fun _ => 0), 0, 0, (fun _ => 0), 0, 0, 0, 0, 0)))))))))) (wr := [(q0, .inr (7, [.ref (a1_4 0), .ref (c1_4 0), .ref s11_4, .ref s21_4, .ref (d1_4 0), .ref g1_4]))] ++ (ck Z a1_4 (cSt0, 0, 0, (fun _ => 0), 0, 0, 0, 0, 0) ++ (hk Z c1_4 (0, H1_4) ++ ([(s11_4, .inr (6, [.ref (e11_4 0), .int 0]))] ++ (ck Z e11_4 (cSt0, 0, 0, (fun _ => 0), 0, 0, 0, 0, 0) ++ ([(s21_4, .inr (6, [.ref (e21_4 0), .int 0]))] ++ (ck Z e21_4 (cSt0, 0, 0, (fun _ => 0), 0, 0, 0, 0, 0) ++ (rk Z d1_4 ((fun _ => 0), 0, 0, 0, 0, 0, 0, 0, 0) ++ [(g1_4, .inr (1, [.int 0, .int 0]))])))))))) (va_runI (As := []) (rest := [.ref q8]) ⟨hx, hb, hml, hown, hts⟩ (m_X8_init l G Z _ q8 0 0 0 0 0) (cwI 0 hts gL_law_X8_init rfl rfl rfl kini_X8 k_12 kins_X8_init rfl (by decide +kernel) ⟨Nat.le_of_ble_eq_true rfl, Nat.le_of_ble_eq_true rfl⟩) (zPreS hK hP hD hS hA hSW [54] rfl (by decide)) rfl rfl hl.1 rfl (lv_room (Nat.le_of_ble_eq_true rfl)) dL_law_12 ⟨Nat.le_of_ble_eq_true rfl, Nat.le_of_ble_eq_true rfl⟩) hP hD hS hA [54] [0, 1, 2, 3, 4, 5, 6, 7, 8, 9, 10, 11, 12, 13, 14, 15, 16, 17, 18, 19, 20, 21, 22, 23, 24, 25, 26, 27, 28, 29, 30, 31, 32, 33, 34, 35, 36, 37, 38, 39, 40, 41, 42, 43, 44, 45, 46, 47, 48, 49, 50, 51, 52, 53] [0, 1, 2, 3, 4, 5, 6, 7, 8, 9, 10, 11, 12, 13, 14, 15, 16, 17, 18, 19, 20, 21, 22, 23, 24, 25, 26, 27, 28, 29, 30, 31, 32, 33, 34, 35, 36, 37, 38, 39, 40, 41, 42, 43, 44, 45, 46, 47, 48, 49, 50, 51, 52, 53, 54, 55, 56, 57, 58, 59, 60] rfl rfl (by decide) (by decide) (by decide) (fun _ => rfl) (fun u H locs hw12 hP hD hS => ?_)
  obtain ⟨b1_12, al1_12⟩ := u
  try dsimp only at hw12
  obtain ⟨hA12, rfl⟩ := hw12
  have hP9 := hP
  have hD9 := hD
  subst hA12
  have hP := hP9
  have hD := hD9
  have hP : va_P G vwCl ([(q0, .inr (7, [.ref (a1_4 0), .ref (c1_4 0), .ref s11_4, .ref s21_4, .ref (d1_4 0), .ref g1_4]))] ++ (ck Z a1_4 (cSt0, 0, 0, (fun _ => 0), 0, 0, 0, 0, 0) ++ (hk Z c1_4 (0, H1_4) ++ ([(s11_4, .inr (6, [.ref (e11_4 0), .int 0]))] ++ (ck Z e11_4 (cSt0, 0, 0, (fun _ => 0), 0, 0, 0, 0, 0) ++ ([(s21_4, .inr (6, [.ref (e21_4 0), .int 0]))] ++ (ck Z e21_4 (cSt0, 0, 0, (fun _ => 0), 0, 0, 0, 0, 0) ++ (rk Z d1_4 ((fun _ => 0), 0, 0, 0, 0, 0, 0, 0, 0) ++ ([(g1_4, .inr (1, [.int 0, .int 0]))] ++ mk Z b1_12 ((mAl0), (fun _ => 0), (fun _ => 0), 0, (fun _ => 0), (fun _ => 0), 0, 0, (fun _ => 0), 0, 0, 0, 0, 0)))))))))) H := hP
  have hD : va_D A ([(q0, .inr (7, [.ref (a1_4 0), .ref (c1_4 0), .ref s11_4, .ref s21_4, .ref (d1_4 0), .ref g1_4]))] ++ (ck Z a1_4 (cSt0, 0, 0, (fun _ => 0), 0, 0, 0, 0, 0) ++ (hk Z c1_4 (0, H1_4) ++ ([(s11_4, .inr (6, [.ref (e11_4 0), .int 0]))] ++ (ck Z e11_4 (cSt0, 0, 0, (fun _ => 0), 0, 0, 0, 0, 0) ++ ([(s21_4, .inr (6, [.ref (e21_4 0), .int 0]))] ++ (ck Z e21_4 (cSt0, 0, 0, (fun _ => 0), 0, 0, 0, 0, 0) ++ (rk Z d1_4 ((fun _ => 0), 0, 0, 0, 0, 0, 0, 0, 0) ++ ([(g1_4, .inr (1, [.int 0, .int 0]))] ++ mk Z b1_12 ((mAl0), (fun _ => 0), (fun _ => 0), 0, (fun _ => 0), (fun _ => 0), 0, 0, (fun _ => 0), 0, 0, 0, 0, 0)))))))))) := hD
  refine lv_astore_n (lv' := [(2, .ref (b1_12 0)), (1, .ref q0), (0, .ref bb)]) hx hb dL_law_15 rfl hl (by decide) rfl (fun ls hl => ?_)
  refine lv_iconst (v := 0) hx hb dL_law_16 (by decide) ?_
  refine lv_istore_n (lv' := [(3, .int 0), (2, .ref (b1_12 0)), (1, .ref q0), (0, .ref bb)]) hx hb dL_law_17 rfl hl (by decide) rfl (fun ls hl => ?_)
  refine W.widen (k := 61) (n := 6835) (Nat.le_of_ble_eq_true rfl) (Nat.le_of_ble_eq_true rfl) ?_
  have C : lwC p s m meth c bb L xs G Z A := ⟨hx, hb, hr, hml, hown, hts, hX, hbl, hlocks, hK, hA, hAS, hbA, hSW⟩
  exact law_loop C hL (h := q0) (s1 := s11_4) (s2 := s21_4) (g := g1_4) (a := a1_4) (cd := c1_4) (d := d1_4) (e1 := e11_4) (e2 := e21_4) (b := b1_12) 513 0 (by omega) (by omega) (cSt0, 0, 0, (fun _ => 0), 0, 0, 0, 0, 0) 0 H1_4 0 (cSt0, 0, 0, (fun _ => 0), 0, 0, 0, 0, 0) 0 (cSt0, 0, 0, (fun _ => 0), 0, 0, 0, 0, 0) ((fun _ => 0), 0, 0, 0, 0, 0, 0, 0, 0) 0 0 (mAl0) (fun _ => 0) (fun _ => 0) 0 (fun _ => 0) (fun _ => 0) 0 0 (fun _ => 0) 0 0 0 0 0 _ _ ls (lwR_0 _ _ _ _ _ _ _ _ _ _) (lv_sub hl [0, 1, 2, 3] rfl) hP hD hS
