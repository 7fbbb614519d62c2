/-! further rows -/
def zAbs (x : Int32) : Int32 := if 0 ≤ x then x else 0 - x
def zMin (x y : Int32) : Int32 := if y < x then y else x
def zMax (x y : Int32) : Int32 := if x < y then y else x
def zUshr (x : Int64) (y : Int32) : Int64 := (x.toUInt64 >>> (y.toInt64.toUInt64 &&& Int64.toUInt64 63)).toInt64
def zShl (x : Int64) (y : Int32) : Int64 := x <<< (y.toInt64 &&& 63)
def zQ (L : List (Option Nat)) : Nat → Option Nat := fun k => L.getD k none
theorem zQ_set (L : List (Option Nat)) (j : Nat) (q : Option Nat) (h : j < L.length) : va_up (zQ L) j q = zQ (L.set j q) := by
  funext k
  unfold va_up zQ
  by_cases hk : k = j
  · subst hk
    simp [h]
  · have hk' : ¬ j = k := fun q => hk q.symm
    simp [hk, List.getElem?_set, hk']
theorem zTin1 {x k : Int32} {lo : Int} (h : x = k) (hk : ¬ k.toInt < lo) : ¬ x.toInt < lo := by rw [h]; exact hk
theorem zTin2 {x k : Int32} {hi : Int} (h : x = k) (hk : ¬ hi < k.toInt) : ¬ hi < x.toInt := by rw [h]; exact hk
theorem zTin3 {x k : Int32} {lo : Int} {offs : Array Int} {off : Int} (h : x = k) (hk : offs[(k.toInt - lo).toNat]? = some off) : offs[(x.toInt - lo).toNat]? = some off := by rw [h]; exact hk
section ZD
variable {p : Program} {l : Launch} {e : Env} {R : Room} {s : State} {m : MethodId} {args : Array Value} {below : List Frame} {meth : Method} {c : Code} {H : Heap} {locs : List Loc} {cells slots : Nat} {Q : State → Prop}
variable {cc : ByteArray} {pc : Nat} {ls : Array Slot} {rest st0 : List Value} {a : Array Value} {A : Nat → Prop} {mc ms : Nat} {G : va_G} {Z : Nat → ClassId} {ws wc wr : va_W}
theorem zTopI {x y : Int32} (h : x = y) (k : W p l e R s m args below meth c H locs cells slots Q (F0 m pc ls (.int y :: rest))) : W p l e R s m args below meth c H locs cells slots Q (F0 m pc ls (.int x :: rest)) := by rw [h]; exact k
theorem zTlen {t N : Nat} {f : Nat → Value} {v : Int32} (hexec : p.tables.exec = Jvm.exec) (hb : c.code = cc) (hT : va_T .int t N f A s s.heap) (hS : va_S A s.heap H locs) (hv : Int32.ofNat N = v) (hdg : decode cc pc = .ok (.arraylength, 1))
    (kk : W p l e R s m args below meth c H locs cells slots Q (F0 m (pc + 1) ls (.int v :: rest))) : W p l e R s m args below meth c H locs cells slots Q (F0 m pc ls (.ref t :: rest)) := by
  obtain ⟨cell, h1, h2, h3, h4, h5, h6, h7⟩ := hT
  exact W.alen hexec hb (by rw [hS.2.1 t (Array.getElem?_eq_some_iff.mp h1).1 h7]; exact h1) h2 (h5.trans hv) rfl rfl hdg kk
theorem zTald {t N : Nat} {f : Nat → Int32} (hexec : p.tables.exec = Jvm.exec) (hb : c.code = cc) (hT : va_T .int t N (fun k => .int (f k)) A s s.heap) (hS : va_S A s.heap H locs) {i : Int32} (j : Nat) (hi : i = nI j) (hj : j < N) (hn : N < 2 ^ 31) (hdg : decode cc pc = .ok (.iaload, 1))
    (kk : W p l e R s m args below meth c H locs cells slots Q (F0 m (pc + 1) ls (.int (f j) :: rest))) : W p l e R s m args below meth c H locs cells slots Q (F0 m pc ls (.int i :: .ref t :: rest)) := by
  refine va_ti (v := .int (f j)) hexec hb hT hS (zIn hi hj hn) ?_ hdg kk
  rw [zCl0 hi hj hn]
theorem zAald {a0 : Nat} {cA : ClassId} {C : String} {n : Nat} {L : List (Option Nat)} {tys : List (ClassId × FieldType)} {q : Nat} (hexec : p.tables.exec = Jvm.exec) (hb : c.code = cc) (hK : va_K G vwCl tys s) (hP : va_P G vwCl ws H) (q0 t0 : Nat) (ha : ws[q0]? = some (a0, .inl (cA, n, .inr (.inr (.inr (.inr (zQ L))))))) (ht : tys[t0]? = some (cA, .object C)) {i : Int32} (j : Nat) (hi : i = nI j) (_ : L = L) (hj : j < n) (hn : n < 2 ^ 31) (hq : L.getD j none = some q) (hdg : decode cc pc = .ok (.aaload, 1))
    (kk : W p l e R s m args below meth c H locs cells slots Q (F0 m (pc + 1) ls (.ref q :: rest))) : W p l e R s m args below meth c H locs cells slots Q (F0 m pc ls (.int i :: .ref a0 :: rest)) := by
  refine va_aldq hexec hb hK hP q0 t0 ha ht (zIn hi hj hn) hdg ?_
  rw [zCl0 hi hj hn]
  have e1 : zQ L j = some q := hq
  rw [e1]
  exact kk
theorem zAast {a0 : Nat} {cA : ClassId} {n v : Nat} {vs : List Value} {ci : Nat} {r : vw_C} {L : List (Option Nat)} {tys : List (ClassId × FieldType)} (hexec : p.tables.exec = Jvm.exec) (hb : c.code = cc) (hK : va_K G vwCl tys s) (hP : va_P G vwCl ws H) (hD : va_D A ws) (hS : va_S A s.heap H locs) (q0 t0 qk : Nat) (ha : ws[q0]? = some (a0, .inl (cA, n, .inr (.inr (.inr (.inr (zQ L))))))) (ht : tys[t0]? = some (cA, .object r.1)) (hv : ws[qk]? = some (v, .inr (ci, vs))) (hc : vwCl[ci]? = some r) (_ : L = L) {i : Int32} (j : Nat) (hi : i = nI j) (hj : j < n ∧ j < L.length) (hn : n < 2 ^ 31) (hdg : decode cc pc = .ok (.aastore, 1))
    (kk : ∀ (H1 : Heap) (locs1 : List Loc), va_P G vwCl (ws.set q0 (a0, .inl (cA, n, .inr (.inr (.inr (.inr (zQ (L.set j (some v))))))))) H1 → va_D A (ws.set q0 (a0, .inl (cA, n, .inr (.inr (.inr (.inr (zQ (L.set j (some v))))))))) → va_S A s.heap H1 locs1 → W p l e R s m args below meth c H1 locs1 cells slots Q (F0 m (pc + 1) ls rest)) : W p l e R s m args below meth c H locs cells slots Q (F0 m pc ls (.ref v :: .int i :: .ref a0 :: rest)) := by
  refine va_astq (r := r) hexec hb hK hP hD hS q0 t0 qk ci ha ht hv hc (zIn hi hj.1 hn) hdg ?_
  rw [zCl0 hi hj.1 hn, zQ_set L j _ hj.2]
  exact kk
theorem zRAinj {U : State} {c1 c2 : ClassId} {ty : FieldType} (h1 : va_RA U c1 ty) (h2 : va_RA U c2 ty) : c1 = c2 := by
  cases ty with
  | object C =>
    obtain ⟨_, _, _, _, _, h⟩ := h1
    obtain ⟨_, _, _, _, _, h'⟩ := h2
    exact Option.some.inj (h.symm.trans h')
  | _ => exact Option.some.inj (Eq.trans (Eq.symm h1) h2)
theorem zNewa {t0 : Nat} {atype : ArrayType} {tys : List (ClassId × FieldType)} {cA : ClassId} (hexec : p.tables.exec = Jvm.exec) (hb : c.code = cc) (harr : (Cond.arrayClass (newarray.typeOf atype)).before args s = true) {ty : FieldType} (hty : newarray.typeOf atype = ty) (hK : va_K G vwCl tys s) (ht : tys[t0]? = some (cA, ty)) (hP : va_P G vwCl ws H) (hD : va_D A ws) (hS : va_S A s.heap H locs) (hA : ∀ q : Nat, s.heap.size ≤ q → A q)
    {n : Int32} {N' : Nat} (ha : ∀ cA : ClassId, vp_cell cA (N', .inl (fun _ => 0)) = arrV cA N' (fun _ => defaultValue ty)) (hn : ¬ n < 0) (hN : n.toNatClampNeg = N') (hbytes : N' * componentBytes ty ≤ 536870912) (hcells : cells + 1 ≤ R.cells) (hslots : slots + N' ≤ R.slots) (hdg : decode cc pc = .ok (.newarray atype, 2))
    (kk : ∀ (q : Nat) (H1 : Heap), va_P G vwCl (ws ++ [(q, .inl (cA, N', .inl (fun _ => 0)))]) H1 → va_D A (ws ++ [(q, .inl (cA, N', .inl (fun _ => 0)))]) → va_S A s.heap H1 locs →
      W p l e R s m args below meth c H1 locs (cells + 1) (slots + N') Q (F0 m (pc + 2) ls (.ref q :: rest))) : W p l e R s m args below meth c H locs cells slots Q (F0 m pc ls (.int n :: rest)) := by
  refine va_newa (atype := atype) hexec hb harr hty hK hP hD hS hA ha hn hN hbytes hcells hslots hdg (fun q cB H1 hK1 hP1 hD1 hS1 => ?_)
  have e1 : cB = cA := by
    refine zRAinj (hK1.2 tys.length (cB, ty) ?_).2 (hK.2 t0 (cA, ty) ht).2
    simp
  subst e1
  exact kk q H1 hP1 hD1 hS1
theorem zNewq {tys : List (ClassId × FieldType)} {cA : ClassId} (hexec : p.tables.exec = Jvm.exec) (hb : c.code = cc) {own C : String} {index : Nat} (hown : s.vm.findClass own = some m.cls) (hclink : (Cond.classLink own index C).before args s = true) (hover : va_AO C s) (hK : va_K G vwCl tys s) (t0 : Nat) (ht : tys[t0]? = some (cA, .object C)) (hP : va_P G vwCl ws H) (hD : va_D A ws) (hS : va_S A s.heap H locs) (hA : ∀ q : Nat, s.heap.size ≤ q → A q)
    {n : Int32} {N' : Nat} (hn : ¬ n < 0) (hN : n.toNatClampNeg = N') (hbytes : N' * 4 ≤ 536870912) (hcells : cells + 1 ≤ R.cells) (hslots : slots + N' ≤ R.slots) (hdg : decode cc pc = .ok (.anewarray index, 3))
    (kk : ∀ (q : Nat) (H1 : Heap), va_P G vwCl (ws ++ [(q, .inl (cA, N', .inr (.inr (.inr (.inr (zQ (List.replicate N' none)))))))]) H1 → va_D A (ws ++ [(q, .inl (cA, N', .inr (.inr (.inr (.inr (zQ (List.replicate N' none)))))))]) → va_S A s.heap H1 locs →
      W p l e R s m args below meth c H1 locs (cells + 1) (slots + N') Q (F0 m (pc + 3) ls (.ref q :: rest))) : W p l e R s m args below meth c H locs cells slots Q (F0 m pc ls (.int n :: rest)) := by
  have e0 : zQ (List.replicate N' none) = (fun _ => none) := by
    funext k
    unfold zQ
    simp only [List.getD_eq_getElem?_getD, List.getElem?_replicate]
    split <;> rfl
  rw [e0] at kk
  refine va_newq hexec hb hown hclink hover hK hP hD hS hA hn hN hbytes hcells hslots hdg (fun q cB H1 hK1 hP1 hD1 hS1 => ?_)
  have e1 : cB = cA := by
    refine zRAinj (hK1.2 tys.length (cB, .object C) ?_).2 (hK.2 t0 (cA, .object C) ht).2
    simp
  subst e1
  exact kk q H1 hP1 hD1 hS1
theorem zFitI (x : Int32) : fits .int (.int x) = true := rfl
theorem zCopy (N : Nat) {tys : List (ClassId × FieldType)} (hexec : p.tables.exec = Jvm.exec) (hb : c.code = cc) (hml : c.maxLocals = ls.size) {own : String} {index : Nat} (hown : s.vm.findClass own = some m.cls) (hlink : (Cond.methodLink own index arraycopyName).before args s = true) (hnat : (Cond.native arraycopyName).before args s = true) (hstat : (Cond.static arraycopyName).before args s = true) (hini : (Cond.initialized "java/lang/System").before args s = true)
    (hK : va_K G vwCl tys s) (hP : va_P G vwCl ws H) (hD : va_D A ws) (hS : va_S A s.heap H locs) (q0 q1 t0 t1 : Nat) {a0 a1 : Nat} {c0 c1 : ClassId} {n0 n1 : Nat} {f g : Nat → Int32} (ha0 : ws[q0]? = some (a0, .inl (c0, n0, .inl f))) (ha1 : ws[q1]? = some (a1, .inl (c1, n1, .inl g))) (ht0 : tys[t0]? = some (c0, .int)) (ht1 : tys[t1]? = some (c1, .int))
    {n : Int32} (hn : n = nI N) (hN : N < 2 ^ 31) (h4 : N ≤ n0) (h5 : N ≤ n1)
    (hloc : 1 ≤ R.frames ∧ (rest.map fun v => v.category).sum + (nativeFrameWords "java/lang/System" "arraycopy" 5 + 11) ≤ R.locals) (_ : True) (hdg : decode cc pc = .ok (.invokestatic index, 3))
    (kk : ∀ (H1 : Heap) (locs1 : List Loc), va_P G vwCl (ws.set q1 (a1, .inl (c1, n1, .inl (va_cpy f g 0 0 N)))) H1 → va_D A (ws.set q1 (a1, .inl (c1, n1, .inl (va_cpy f g 0 0 N)))) → va_S A s.heap H1 locs1 → W p l e R s m args below meth c H1 locs1 cells slots Q (F0 m (pc + 3) ls rest)) : W p l e R s m args below meth c H locs cells slots Q (F0 m pc ls (.int n :: .int 0 :: .ref a1 :: .int 0 :: .ref a0 :: rest)) := by
  have hc : n.toNatClampNeg = N := by rw [hn]; exact nI_clamp hN
  have h0 : (0 : Int32).toNatClampNeg = 0 := by decide
  refine va_copyi hexec hb hml hown hlink hnat hstat hini hK hP hD hS q0 q1 t0 t1 ha0 ha1 ht0 ht1 rfl (by decide) (by decide) (by rw [hn]; exact nI_pos hN) (by rw [hc, h0]; omega) (by rw [hc, h0]; omega) (fun i _ => rfl) hloc.1 hloc.2 hdg ?_
  rw [hc, h0]
  exact kk
end ZD
