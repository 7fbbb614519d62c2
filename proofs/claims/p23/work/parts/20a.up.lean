set_option maxHeartbeats 4000000 in
set_option maxRecDepth 100000 in
theorem m_L_up (l : Launch) (G : va_G) (Z : Nat → ClassId) (sz : Nat) (v : Int32) (N : Nat) (h0 : 0 < N) (h1 : N < 2147483648) : Met l yL_up wsL_up ({ frames := 0, cells := 0, slots := 0, locals := 0 }) (va_Pc [.int v, .int (nI N)] (zWP G Z sz ([]))) (va_Qi (fun (r : Int32) (u : Nat) => r = nI u ∧ u < N) (fun (u : Nat) t => zB G (va_A ([]) sz) ([]) t) (va_A ([]) sz)) 0 0 (va_A ([]) sz) := by
  refine Met.ofW (cc := cL_up) (maxL := 2) (ret := (some .int)) (by decide) rfl ?_
  intro p e s m args below meth c s₁ B hml hv
  have hx := B.exec
  have hb := B.bytes
  have hr := B.returns
  have hts := atoms_spec (ws := wsL_up) B.pre
  have hown : s.vm.findClass RL = some m.cls := findClass_of_methodNamed B.named
  have hlocks := B.notSynchronized
  obtain ⟨rfl, hsz, hP, hK, hD, hA, hS, hSW⟩ := zEnter hv
  subst hsz
  generalize va_A ([]) s.heap.size = A at hD hA hS hSW ⊢
  have k_8 := hts (.constant RL 8 (2147483647)) (List.mem_of_getElem? (i := 1) rfl)
  have hP : va_P G vwCl ([]) s.heap := hP
  have hl := lv_entry ([.int v, .int (nI N)]) (n := 2) (Nat.le_of_ble_eq_true rfl)
  rw [lg_entry_eq]
  generalize (lg_sl ([.int v, .int (nI N)]) ++ List.replicate (2 - (lg_sl ([.int v, .int (nI N)])).length) Slot.unset).toArray = ls at hl ⊢
  have hl : lv_has ls 2 [(0, .int v), (1, .int (nI N))] := hl
  refine lv_iload_n hx hb dL_up_0 rfl (lv_at hl 0 rfl) ?_
  refine lv_ldc (v := 2147483647) hx hb hown k_8 dL_up_1 ?_
  refine lv_iand hx hb dL_up_3 ?_
  refine lv_iload_n hx hb dL_up_4 rfl (lv_at hl 1 rfl) ?_
  refine lv_irem hx hb dL_up_5 (nI_ne0 h0 h1) ?_
  exact W.iret hx hb hr (zEi ((v &&& 2147483647).toNatClampNeg % N) (by
      exact oUp v h0 h1) hP hD hS) hS.2.2 dL_up_6
