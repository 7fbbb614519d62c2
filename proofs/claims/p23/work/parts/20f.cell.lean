/-! the law's read of its script, and its body -/
section ZX
variable {p : Program} {l : Launch} {e : Env} {R : Room} {s : State} {m : MethodId} {args : Array Value} {below : List Frame} {meth : Method} {c : Code} {H H0 : Heap} {locs : List Loc} {cells slots : Nat} {Q : State → Prop}
variable {cc : ByteArray} {pc : Nat} {ls : Array Slot} {rest : List Value} {A : Nat → Prop} {G : va_G} {Z : Nat → ClassId} {ws wc : va_W}
theorem zSld {b L : Nat} {xs : Nat → Int32} (hexec : p.tables.exec = Jvm.exec) (hb : c.code = cc) (hX : va_X b L xs s H0) (hbl : b < H0.size) (hbA : ¬ A b) (hS : va_S A H0 H locs) {i : Int32} (j : Nat) (hi : i = nI j) (hj : j < L) (hn : L < 2 ^ 31) (hdg : decode cc pc = .ok (.iaload, 1))
    (kk : W p l e R s m args below meth c H locs cells slots Q (F0 m (pc + 1) ls (.int (xs j) :: rest))) : W p l e R s m args below meth c H locs cells slots Q (F0 m pc ls (.int i :: .ref b :: rest)) := by
  refine va_sld hexec hb hX hbl hbA hS (zIn hi hj hn) hdg ?_
  rw [zCl0 hi hj hn]
  exact kk
theorem zSlen {b L : Nat} {xs : Nat → Int32} (hexec : p.tables.exec = Jvm.exec) (hb : c.code = cc) (hX : va_X b L xs s H0) (hbl : b < H0.size) (hbA : ¬ A b) (hS : va_S A H0 H locs) (hdg : decode cc pc = .ok (.arraylength, 1))
    (kk : W p l e R s m args below meth c H locs cells slots Q (F0 m (pc + 1) ls (.int (nI L) :: rest))) : W p l e R s m args below meth c H locs cells slots Q (F0 m pc ls (.ref b :: rest)) := va_slen hexec hb hX hbl hbA hS hdg kk
/-- a start with the script beside the world -/
def zWX (G : va_G) (Z : Nat → ClassId) (sz bb L : Nat) (xs : Nat → Int32) (U : State) : Prop := zWP G Z sz [] U ∧ va_X bb L xs U U.heap ∧ bb < sz
theorem zBlindX {sz bb L : Nat} {xs : Nat → Int32} {av : List Value} : FrameBlind (va_Pc av (zWX G Z sz bb L xs)) := by
  intro a U g mk q
  obtain ⟨q1, q2, q3, q4⟩ := q
  have h := zBlind (G := G) (Z := Z) (sz := sz) (ws := []) (av := av) a U g mk ⟨q1, q2⟩
  exact ⟨h.1, h.2, va_X.moved (u := U) (U := U.calling g mk a) (Vm.Alike.refl U.vm) q3, q4⟩
theorem zPreX {As : List Value} {bb L : Nat} {xs : Nat → Int32} (hX : va_X bb L xs s s.heap) (hbl : bb < s.heap.size) (hbA : ¬ A bb) (hK : va_K G vwCl (zTy Z) s) (hP : va_P G vwCl ws H) (hD : va_D A ws) (hS : va_S A s.heap H locs) (hA : ∀ q : Nat, s.heap.size ≤ q → A q) (hSW : zSW A s) (isC : List Nat) (hC : isC.map (fun i => ws[i]?) = ([] : va_W).map some) (hnC : va_nd isC = true) : PreS s H (va_Pc As (zWX G Z H.size bb L xs)) As :=
  ⟨zBlindX, fun U hU hW => by
    have h := (zPreS (As := As) hK hP hD hS hA hSW isC hC hnC).2 U hU hW
    have hX1 : va_X bb L xs U U.heap := by
      rw [hU]
      exact va_X.moved (u := s) (U := U) hW.alike (hX.kept (hS.2.1 bb hbl hbA))
    exact ⟨h.1, h.2, hX1, Nat.lt_of_lt_of_le hbl hS.1⟩⟩
end ZX
set_option maxHeartbeats 4000000 in
set_option maxRecDepth 100000 in
theorem m_L_cell (l : Launch) (G : va_G) (Z : Nat → ClassId) (sz : Nat) (bb : Nat) (j : Nat) (L : Nat) (xs : Nat → Int32) (hL : L < 2147483648) (hj : j < 2147483648) : Met l yL_cell wsL_cell ({ frames := 0, cells := 0, slots := 0, locals := 0 }) (va_Pc [.ref bb, .int (nI j)] (zWX G Z sz bb L xs)) (va_Qi (fun (r : Int32) (u : Unit) => True) (fun (u : Unit) t => zB G (va_A ([]) sz) ([]) t) (va_A ([]) sz)) 0 0 (va_A ([]) sz) := by
  refine Met.ofW (cc := cL_cell) (maxL := 2) (ret := (some .int)) (by decide) rfl ?_
  intro p e s m args below meth c s₁ B hml hv
  have hx := B.exec
  have hb := B.bytes
  have hr := B.returns
  have hts := atoms_spec (ws := wsL_cell) B.pre
  have hown : s.vm.findClass RL = some m.cls := findClass_of_methodNamed B.named
  have hlocks := B.notSynchronized
  obtain ⟨hv1, hv2, hX, hbl⟩ := hv
  obtain ⟨rfl, hsz, hP, hK, hD, hA, hS, hSW⟩ := zEnter (args := args) (s := s) (av := [.ref bb, .int (nI j)]) (ws := []) ⟨hv1, hv2⟩
  subst hsz
  have hbA : ¬ va_A ([] : va_W) s.heap.size bb := by
    rintro (⟨k, q, h⟩ | h)
    · simp at h
    · omega
  generalize va_A ([]) s.heap.size = A at hD hA hS hSW hbA ⊢
  have k_7 := hts (.constant RL 7 (1958070499)) (List.mem_of_getElem? (i := 1) rfl)
  have hP : va_P G vwCl ([]) s.heap := hP
  have hl := lv_entry ([.ref bb, .int (nI j)]) (n := 2) (Nat.le_of_ble_eq_true rfl)
  rw [lg_entry_eq]
  generalize (lg_sl ([.ref bb, .int (nI j)]) ++ List.replicate (2 - (lg_sl ([.ref bb, .int (nI j)])).length) Slot.unset).toArray = ls at hl ⊢
  have hl : lv_has ls 2 [(0, .ref bb), (1, .int (nI j))] := hl
  refine lv_iload_n hx hb dL_cell_0 rfl (lv_at hl 1 rfl) ?_
  refine lv_aload_n hx hb dL_cell_1 rfl (lv_at hl 0 rfl) ?_
  refine zSlen hx hb hX hbl hbA hS dL_cell_2 ?_
  refine lv_icmp_ge (tgt := 12) hx hb dL_cell_3 (by decide) (fun c3 => ?_) (fun c3 => ?_)
  · refine lv_ldc (v := 1958070499) hx hb hown k_7 dL_cell_12 ?_
    refine lv_iload_n hx hb dL_cell_14 rfl (lv_at hl 1 rfl) ?_
    refine lv_sipush (v := 1033) hx hb dL_cell_15 (by decide) ?_
    refine lv_iadd hx hb dL_cell_18 ?_
    refine lv_imul hx hb dL_cell_19 ?_
    exact W.iret hx hb hr (zEi () trivial hP hD hS) hS.2.2 dL_cell_20
  · refine lv_aload_n hx hb dL_cell_6 rfl (lv_at hl 0 rfl) ?_
    refine lv_iload_n hx hb dL_cell_7 rfl (lv_at hl 1 rfl) ?_
    refine zSld hx hb hX hbl hbA hS j rfl (zNle c3 hL hj) hL dL_cell_8 ?_
    refine lv_goto (tgt := 20) hx hb dL_cell_9 (by decide) ?_
    exact W.iret hx hb hr (zEi () trivial hP hD hS) hS.2.2 dL_cell_20
