set_option maxHeartbeats 4000000 in
set_option maxRecDepth 100000 in
theorem m_X5_init (l : Launch) (G : va_G) (Z : Nat → ClassId) (sz : Nat) (h : Nat) (nu : Int32) (od : Int32) (va : Int32) (ai : Int32) (rd : Int32) (hh : Int32)  : Met l yX5_init wsX5_init ({ frames := 2, cells := 2, slots := 82, locals := 32 }) (va_Pc [.ref h] (zWP G Z sz ([(h, .inr (5, [.null, .int 0, .int nu, .int od, .int va, .int ai, .int rd, .int hh]))]))) (va_Qv (fun (u : Nat × Nat) => True) (fun (u : Nat × Nat) t => zB G (va_A ([(h, .inr (5, [.null, .int 0, .int nu, .int od, .int va, .int ai, .int rd, .int hh]))]) sz) ([(h, .inr (5, [.ref u.1, .int 0, .int nu, .int od, .int va, .int ai, .int rd, .int hh])), (u.1, .inr (4, [.ref u.2, .int 0])), (u.2, .inl (Z 1, 80, .inl (fun _ => 0)))]) t) (va_A ([(h, .inr (5, [.null, .int 0, .int nu, .int od, .int va, .int ai, .int rd, .int hh]))]) sz)) 2 82 (va_A ([(h, .inr (5, [.null, .int 0, .int nu, .int od, .int va, .int ai, .int rd, .int hh]))]) sz) := by
  refine Met.ofW (cc := cX5_init) (maxL := 1) (ret := none) (by decide) rfl ?_
  intro p e s m args below meth c s₁ B hml hv
  have hx := B.exec
  have hb := B.bytes
  have hr := B.returns
  have hts := atoms_spec (ws := wsX5_init) B.pre
  have hown : s.vm.findClass RX5 = some m.cls := findClass_of_methodNamed B.named
  have hlocks := B.notSynchronized
  have hin : meth.name = "<init>" := (name_of_methodNamed B.named B.method).1
  obtain ⟨rfl, hsz, hP, hK, hD, hA, hS, hSW⟩ := zEnter hv
  subst hsz
  generalize va_A ([(h, .inr (5, [.null, .int 0, .int nu, .int od, .int va, .int ai, .int rd, .int hh]))]) s.heap.size = A at hD hA hS hSW ⊢
  have k_3 := hts (.methodLink RX5 3 objectInit) (List.mem_of_getElem? (i := 1) rfl)
  have kio := hts (.instanceMethod objectInit) (List.mem_of_getElem? (i := 2) rfl)
  have kco := hts (.code objectInit ⟨#[0xb1]⟩ 1 none) (List.mem_of_getElem? (i := 3) rfl)
  have k_9 := hts (.classLink RX5 9 RX4) (List.mem_of_getElem? (i := 4) rfl)
  have kin_X4 := hts (.instantiable RX4 2) (List.mem_of_getElem? (i := 5) rfl)
  have kini_X4 := hts (.initialized RX4) (List.mem_of_getElem? (i := 6) rfl)
  have iX4 : ∀ w ∈ u_ws RX4 TX4 2, w ∈ wsX5_init := fun _ h => List.mem_cons_of_mem _ (List.mem_append_left _ (List.mem_append_right _ h))
  have kins_X4_init := hts (.instanceMethod yX4_init) (List.mem_of_getElem? (i := 8) rfl)
  have k_12 := hts (.fieldLink RX5 12 "WarmRods$Reader" "pad" "LWarmRods$Pad;") (List.mem_of_getElem? (i := 7) rfl)
  have iX5 : ∀ w ∈ u_ws RX5 TX5 8, w ∈ wsX5_init := fun _ h => List.mem_cons_of_mem _ (List.mem_append_right _ h)
  have hP : va_P G vwCl ([(h, .inr (5, [.null, .int 0, .int nu, .int od, .int va, .int ai, .int rd, .int hh]))]) s.heap := hP
  have hl := lv_entry ([.ref h]) (n := 1) (Nat.le_of_ble_eq_true rfl)
  rw [lg_entry_eq]
  generalize (lg_sl ([.ref h]) ++ List.replicate (1 - (lg_sl ([.ref h])).length) Slot.unset).toArray = ls at hl ⊢
  have hl : lv_has ls 1 [(0, .ref h)] := hl
  refine lv_aload_n hx hb dX5_init_0 rfl (lv_at hl 0 rfl) ?_
  refine W.objInit hx hb hown k_3 kio kco rfl (by rw [hml]; exact hl.1) rfl dX5_init_1 (Nat.le_of_ble_eq_true rfl) (Nat.le_of_ble_eq_true rfl) ?_
  refine W.eq (g2 := F0 m 4 ls []) rfl ?_
  refine lv_aload_n hx hb dX5_init_4 rfl (lv_at hl 0 rfl) ?_
  refine va_new (ci := 4) (fs := [.null, .int 0]) (C := RX4) (T := TX4) (N := 2) hx hb hts iX4 tyX4 tyX4_ok hown k_9 kin_X4 kini_X4 hK hP hD hS hA rfl (fun j hj => by rcases (show j = 0 ∨ j = 1 by omega) with rfl | rfl <;> rfl) (Nat.le_of_ble_eq_true rfl) (Nat.le_of_ble_eq_true rfl) dX5_init_5 (fun q5 H hP hD hS => ?_)
  have hP : va_P G vwCl ([(h, .inr (5, [.null, .int 0, .int nu, .int od, .int va, .int ai, .int rd, .int hh])), (q5, .inr (4, [.null, .int 0]))]) H := hP
  have hD : va_D A ([(h, .inr (5, [.null, .int 0, .int nu, .int od, .int va, .int ai, .int rd, .int hh])), (q5, .inr (4, [.null, .int 0]))]) := hD
  refine lv_dup hx hb dX5_init_8 rfl ?_
  refine zCv (S := Nat) (ws1 := fun u => [(h, .inr (5, [.null, .int 0, .int nu, .int od, .int va, .int ai, .int rd, .int hh])), (q5, .inr (4, [.ref u, .int 0])), (u, .inl (Z 1, 80, .inl (fun _ => 0)))]) (wr := [(h, .inr (5, [.null, .int 0, .int nu, .int od, .int va, .int ai, .int rd, .int hh]))]) (va_runIN (As := []) (rest := [.ref q5, .ref h]) ⟨hx, hb, hml, hown, hts⟩ (m_X4_init l G Z _ q5) (⟨va_cnB 0 hts ggX5_init_X4_init rfl rfl rfl (hSW.1.1 (.methodLinkNest RX5 11 yX4_init "WarmRods") (List.mem_of_getElem? (i := 14) rfl)) kini_X4 (by decide +kernel) ⟨Nat.le_of_ble_eq_true rfl, Nat.le_of_ble_eq_true rfl⟩, rfl, kins_X4_init⟩) (zPreS hK hP hD hS hA hSW [1] rfl (by decide)) rfl rfl hl.1 rfl (lv_room (Nat.le_of_ble_eq_true rfl)) dX5_init_9 ⟨Nat.le_of_ble_eq_true rfl, Nat.le_of_ble_eq_true rfl⟩) hP hD hS hA [1] [0] [0, 1, 2] rfl rfl (by decide) (by decide) (by decide) (fun _ => rfl) (fun u H locs hw9 hP hD hS => ?_)
  obtain ⟨q_9, rfl⟩ : ∃ z, z = u := ⟨_, rfl⟩
  try dsimp only at hw9
  have hP : va_P G vwCl ([(h, .inr (5, [.null, .int 0, .int nu, .int od, .int va, .int ai, .int rd, .int hh])), (q5, .inr (4, [.ref q_9, .int 0])), (q_9, .inl (Z 1, 80, .inl (fun _ => 0)))]) H := hP
  have hD : va_D A ([(h, .inr (5, [.null, .int 0, .int nu, .int od, .int va, .int ai, .int rd, .int hh])), (q5, .inr (4, [.ref q_9, .int 0])), (q_9, .inl (Z 1, 80, .inl (fun _ => 0)))]) := hD
  refine va_putF (D := G) (ci := 5) (v := .ref q5) (ty := .object "WarmRods$Pad") (C := RX5) (T := TX5) (N := 8) hx hb hts iX5 tyX5 tyX5_ok nmX5 hown hK hP hD hS 0 rfl rfl 0 (by decide) k_12 (fun _ h9 => h9) rfl hin rfl (by decide +kernel) rfl rfl (Nat.le_of_ble_eq_true rfl) dX5_init_12 (fun H locs hP hD hS => ?_)
  have hP : va_P G vwCl ([(h, .inr (5, [.ref q5, .int 0, .int nu, .int od, .int va, .int ai, .int rd, .int hh])), (q5, .inr (4, [.ref q_9, .int 0])), (q_9, .inl (Z 1, 80, .inl (fun _ => 0)))]) H := hP
  have hD : va_D A ([(h, .inr (5, [.ref q5, .int 0, .int nu, .int od, .int va, .int ai, .int rd, .int hh])), (q5, .inr (4, [.ref q_9, .int 0])), (q_9, .inl (Z 1, 80, .inl (fun _ => 0)))]) := hD
  refine W.widen (k := 2) (n := 82) (by omega) (by omega) ?_
  exact W.vret hx hb hr (zEv (q5, q_9) (by
      trivial) hP hD hS) hS.2.2 dX5_init_15
