/-! generic rows over the kit: worlds, calls, loops -/
abbrev zTy (Z : Nat → ClassId) : List (ClassId × FieldType) := [(Z 0, .int), (Z 1, .char), (Z 2, .object "WarmRods$Clock")]
def zNest : List Cond := [.methodLinkNest "WarmRods" 9 ⟨"WarmRods$Clock", "<init>", "()V"⟩ "WarmRods", .methodLinkNest "WarmRods$Clock" 17 ⟨"WarmRods$Drift", "<init>", "()V"⟩ "WarmRods", .methodLinkNest "WarmRods$Clock" 24 ⟨"WarmRods$Log", "<init>", "()V"⟩ "WarmRods", .fieldLinkNest "WarmRods" 72 "WarmRods$Clock" "drift" "LWarmRods$Drift;" "WarmRods", .fieldLinkNest "WarmRods" 83 "WarmRods$Clock" "log" "LWarmRods$Log;" "WarmRods", .fieldLinkNest "WarmRods" 106 "WarmRods$Clock" "tray" "I" "WarmRods", .fieldLinkNest "WarmRods" 100 "WarmRods$Clock" "hours" "I" "WarmRods", .fieldLinkNest "WarmRods" 112 "WarmRods$Clock" "radioHours" "I" "WarmRods", .fieldLinkNest "WarmRods" 109 "WarmRods$Clock" "timesSet" "I" "WarmRods", .methodLinkNest "WarmRods$History" 17 ⟨"WarmRods$Clock", "<init>", "()V"⟩ "WarmRods", .fieldLinkNest "WarmRods" 126 "WarmRods$History" "kept" "I" "WarmRods", .methodLinkNest "WarmRods" 25 ⟨"WarmRods$Slot", "<init>", "()V"⟩ "WarmRods", .methodLinkNest "WarmRods$Slot" 9 ⟨"WarmRods$Clock", "<init>", "()V"⟩ "WarmRods", .methodLinkNest "WarmRods" 35 ⟨"WarmRods$Reader", "<init>", "()V"⟩ "WarmRods", .methodLinkNest "WarmRods$Reader" 11 ⟨"WarmRods$Pad", "<init>", "()V"⟩ "WarmRods", .fieldLinkNest "WarmRods" 122 "WarmRods$Pad" "length" "I" "WarmRods", .fieldLinkNest "WarmRods" 118 "WarmRods$Reader" "pad" "LWarmRods$Pad;" "WarmRods", .methodLinkNest "WarmRods" 42 ⟨"WarmRods$Drift", "<init>", "()V"⟩ "WarmRods", .fieldLinkNest "WarmRods$Clock" 55 "WarmRods" "LEAST_VALUES" "[I" "WarmRods", .fieldLinkNest "WarmRods$Clock" 58 "WarmRods" "GREATEST_VALUES" "[I" "WarmRods", .methodLinkNest "WarmRods$Clock" 69 ⟨"WarmRods", "isHeat", "(I)Z"⟩ "WarmRods", .methodLinkNest "WarmRods$Clock" 73 ⟨"WarmRods", "isAir", "(I)Z"⟩ "WarmRods"]
def zIsNest : Cond → Bool
  | .fieldLinkNest .. => true
  | .methodLinkNest .. => true
  | _ => false
theorem zNest_ok : zNest.all zIsNest = true := rfl
def zNW (U : State) : Prop := (∀ w ∈ zNest, va_Nw w U) ∧ va_AO "WarmRods$Clock" U
theorem zNW_warm {s U : State} (hW : s.WarmedH U.vm) (h : zNW s) : zNW U := by
  refine ⟨fun w hw => ?_, va_AO.moved hW.alike h.2⟩
  have hb : zIsNest w = true := List.all_eq_true.mp zNest_ok w hw
  have h1 := h.1 w hw
  cases w <;> first | exact va_Nw.warmF hW h1 | exact va_Nw.warmM hW h1 | (simp [zIsNest] at hb)
theorem zNW_same {s U : State} (hW : s.vm = U.vm) (h : zNW s) : zNW U := by
  refine ⟨fun w hw => ?_, va_AO.moved (u := s) (by rw [← hW]; exact Vm.Alike.refl s.vm) h.2⟩
  have hb : zIsNest w = true := List.all_eq_true.mp zNest_ok w hw
  have h1 := h.1 w hw
  cases w <;> first | exact va_Nw.same rfl hW h1 | (simp [zIsNest] at hb)
def zLeast : Nat → Int32 := fun k => match k with
  | 2 => -500
  | 3 => 1
  | _ => 0
def zGreat : Nat → Int32 := fun k => match k with
  | 0 => 99
  | 1 => 99
  | 2 => 500
  | _ => 5000
def zMore : Nat → Int32 := fun k => match k with
  | 0 => 100
  | 3 => 100000
  | 4 => 1000000000
  | _ => 0
def zTab (n : String) (N : Nat) (f : Nat → Int32) (A : Nat → Prop) (U : State) (H : Heap) : Prop := ∃ t : Nat, va_Z "WarmRods" n "[I" (.ref t) A U H ∧ va_T .int t N (fun k => .int (f k)) A U H
theorem zTab.moved {n : String} {N : Nat} {f : Nat → Int32} {A : Nat → Prop} {u U : State} {H : Heap} (hvm : u.vm.Alike U.vm) (h : zTab n N f A u H) : zTab n N f A U H := by
  obtain ⟨t, h1, h2⟩ := h
  exact ⟨t, h1.moved hvm, h2.moved hvm⟩
theorem zTab.kept {n : String} {N : Nat} {f : Nat → Int32} {A : Nat → Prop} {U : State} {H H1 : Heap} (h : zTab n N f A U H) (hq : ∀ a : Nat, a < H.size → ¬ A a → H1[a]? = H[a]?) : zTab n N f A U H1 := by
  obtain ⟨t, h1, h2⟩ := h
  exact ⟨t, h1.kept hq, h2.kept hq⟩
theorem zTab.narrow {n : String} {N : Nat} {f : Nat → Int32} {A B : Nat → Prop} {U : State} {H : Heap} (h : zTab n N f A U H) (hAB : ∀ q, B q → A q) : zTab n N f B U H := by
  obtain ⟨t, h1, h2⟩ := h
  exact ⟨t, h1.narrow hAB, h2.narrow hAB⟩
def zST (A : Nat → Prop) (U : State) (H : Heap) : Prop := zTab "LEAST_VALUES" 4 zLeast A U H ∧ zTab "GREATEST_VALUES" 4 zGreat A U H ∧ zTab "MORE_FACTS" 7 zMore A U H
def zSW (A : Nat → Prop) (U : State) : Prop := zNW U ∧ zST A U U.heap
def zWP (G : va_G) (Z : Nat → ClassId) (sz : Nat) (ws : va_W) (U : State) : Prop := U.heap.size = sz ∧ va_P G vwCl ws U.heap ∧ va_K G vwCl (zTy Z) U ∧ va_D (fun _ => True) ws ∧ zSW (va_A ws sz) U
def zB (G : va_G) (A : Nat → Prop) (ws : va_W) (t : State) : Prop := va_P G vwCl ws t.heap ∧ va_D A ws
theorem zSW_call {A B : Nat → Prop} {s U : State} {H : Heap} {locs : List Loc} (h : zSW A s) (hS : va_S A s.heap H locs) (hW : s.WarmedH U.vm) (hU : U.heap = H) (hAB : ∀ q, B q → A q) : zSW B U := by
  refine ⟨zNW_warm hW h.1, ?_⟩
  have f : ∀ {n : String} {N : Nat} {f : Nat → Int32}, zTab n N f A s s.heap → zTab n N f B U U.heap := fun h => by
    rw [hU]
    exact ((h.kept (fun a h1 h2 => hS.2.1 a h1 h2)).moved hW.alike).narrow hAB
  exact ⟨f h.2.1, f h.2.2.1, f h.2.2.2⟩
theorem zBlind {G : va_G} {Z : Nat → ClassId} {sz : Nat} {ws : va_W} {av : List Value} : FrameBlind (va_Pc av (zWP G Z sz ws)) := by
  intro a U g mk q
  obtain ⟨q1, q2, q3, q4, q5, q6⟩ := q
  refine ⟨q1, q2, q3, va_K.moved (u := U) (U := U.calling g mk a) (Vm.Alike.refl U.vm) q4, q5, zNW_same (s := U) (U := U.calling g mk a) rfl q6.1, ?_⟩
  exact ⟨q6.2.1.moved (Vm.Alike.refl U.vm), q6.2.2.1.moved (Vm.Alike.refl U.vm), q6.2.2.2.moved (Vm.Alike.refl U.vm)⟩
/-- the entry of a method -/
theorem zEnter {G : va_G} {Z : Nat → ClassId} {sz : Nat} {ws : va_W} {av : List Value} {args : Array Value} {s : State} (h : va_Pc av (zWP G Z sz ws) args s) : args = av.toArray ∧ sz = s.heap.size ∧ va_P G vwCl ws s.heap ∧ va_K G vwCl (zTy Z) s ∧ va_D (va_A ws s.heap.size) ws ∧ (∀ q : Nat, s.heap.size ≤ q → va_A ws s.heap.size q) ∧ va_S (va_A ws s.heap.size) s.heap s.heap [] ∧ zSW (va_A ws s.heap.size) s := by
  obtain ⟨h1, h2, h3, h4, h5, h6⟩ := h
  subst h2
  exact ⟨h1, rfl, h3, h4, h5.self, fun q h => Or.inr h, va_S.rf, h6⟩
theorem zAt {ws wc : va_W} {is : List Nat} (hs : is.map (fun i => ws[i]?) = wc.map some) : ∀ (k : Nat) (q : Nat × va_E), wc[k]? = some q → ∃ i, is[k]? = some i ∧ ws[i]? = some q := by
  intro k q hq
  have h1 : (is.map (fun i => ws[i]?))[k]? = some (some q) := by rw [hs, List.getElem?_map, hq]; rfl
  rw [List.getElem?_map] at h1
  cases hi : is[k]? with
  | none => rw [hi] at h1; cases h1
  | some i => rw [hi] at h1; exact ⟨i, rfl, Option.some.inj h1⟩
theorem zPsub {G : va_G} {cl : List vw_C} {ws wc : va_W} {H : Heap} (h : va_P G cl ws H) {is : List Nat} (hs : is.map (fun i => ws[i]?) = wc.map some) : va_P G cl wc H := by
  intro k q hq
  obtain ⟨i, -, hi⟩ := zAt hs k q hq
  exact h i q hi
section ZC
variable {p : Program} {l : Launch} {e : Env} {R : Room} {s : State} {m : MethodId} {args : Array Value} {below : List Frame} {meth : Method} {c : Code} {H : Heap} {locs : List Loc} {cells slots : Nat} {Q : State → Prop}
variable {cc : ByteArray} {pc : Nat} {ls : Array Slot} {rest st0 : List Value} {a : Array Value} {A : Nat → Prop} {mc ms : Nat} {G : va_G} {Z : Nat → ClassId} {ws wc wr : va_W}
theorem zPreS {As : List Value} (hK : va_K G vwCl (zTy Z) s) (hP : va_P G vwCl ws H) (hD : va_D A ws) (hS : va_S A s.heap H locs) (hA : ∀ q : Nat, s.heap.size ≤ q → A q) (hSW : zSW A s) (isC : List Nat) (hC : isC.map (fun i => ws[i]?) = wc.map some) (hnC : va_nd isC = true) : PreS s H (va_Pc As (zWP G Z H.size wc)) As :=
  ⟨zBlind, fun U hU hW => ⟨rfl, by rw [hU], by rw [hU]; exact zPsub hP hC, va_K.moved hW.alike hK, (hD.sub isC hnC hC).weaken (fun _ _ _ _ => trivial), zSW_call hSW hS hW hU (va_free hD hS hA isC hC)⟩⟩
theorem zPreV {b : Addr} {As : List Value} {C : String} {q : vw_C} {ci : Nat} {fs : List Value} (hK : va_K G vwCl (zTy Z) s) (hP : va_P G vwCl ws H) (hD : va_D A ws) (hS : va_S A s.heap H locs) (hA : ∀ q : Nat, s.heap.size ≤ q → A q) (hSW : zSW A s) (isC : List Nat) (hC : isC.map (fun i => ws[i]?) = wc.map some) (hnC : va_nd isC = true) (q0 : Nat) (hcq : vwCl[ci]? = some q) (he : ws[q0]? = some (b, .inr (ci, fs))) (hCq : q.1 = C) : PreV s H C b (va_Pc (.ref b :: As) (zWP G Z H.size wc)) As := by
  have h := zPreS (As := .ref b :: As) hK hP hD hS hA hSW isC hC hnC
  subst hCq
  exact ⟨h.1, va_recv hK hP hcq he, h.2⟩
theorem zCi {S : Type} {post : Int32 → S → Prop} {w1 ws1 : S → va_W} (hr : va_Run p l e R s m args below meth c H locs cells slots mc ms (F0 m pc ls st0) rest (va_Qi post (fun u t => zB G (va_A wc H.size) (w1 u) t) (va_A wc H.size) a) (va_A wc H.size))
    (hP : va_P G vwCl ws H) (hD : va_D A ws) (hS : va_S A s.heap H locs) (hA : ∀ q : Nat, s.heap.size ≤ q → A q) (isC isR isN : List Nat) (hC : isC.map (fun i => ws[i]?) = wc.map some) (hR : isR.map (fun i => ws[i]?) = wr.map some) (hn : va_nd isR = true) (hdis : ∀ i ∈ isR, i ∉ isC) (hnN : va_nd isN = true) (hN : ∀ u, isN.map (fun i => (wr ++ w1 u)[i]?) = (ws1 u).map some)
    (kk : ∀ (r : Int32) (u : S) (H1 : Heap) (locs1 : List Loc), post r u → va_P G vwCl (ws1 u) H1 → va_D A (ws1 u) → va_S A s.heap H1 locs1 → W p l e R s m args below meth c H1 locs1 (cells + mc) (slots + ms) Q (F0 m (pc + 3) ls (.int r :: rest))) : W p l e R s m args below meth c H locs cells slots Q (F0 m pc ls st0) := by
  have hF := va_free hD hS hA isC hC
  refine va_calli hr hS (fun q _ h => hF q h) hF (fun r u t H1 locs1 ht hvm hw hB hz1 hk1 hS1 => ?_)
  obtain ⟨hP1, hD1⟩ := hB
  rw [ht] at hP1
  obtain ⟨hP2, hD2⟩ := va_join hP hD isC isR hC hR hn hdis hk1 hF hP1 hD1
  exact kk r u H1 locs1 hw (zPsub hP2 (hN u)) (hD2.sub isN hnN (hN u)) hS1
theorem zCl {S : Type} {post : Int64 → S → Prop} {w1 ws1 : S → va_W} (hr : va_Run p l e R s m args below meth c H locs cells slots mc ms (F0 m pc ls st0) rest (va_Ql post (fun u t => zB G (va_A wc H.size) (w1 u) t) (va_A wc H.size) a) (va_A wc H.size))
    (hP : va_P G vwCl ws H) (hD : va_D A ws) (hS : va_S A s.heap H locs) (hA : ∀ q : Nat, s.heap.size ≤ q → A q) (isC isR isN : List Nat) (hC : isC.map (fun i => ws[i]?) = wc.map some) (hR : isR.map (fun i => ws[i]?) = wr.map some) (hn : va_nd isR = true) (hdis : ∀ i ∈ isR, i ∉ isC) (hnN : va_nd isN = true) (hN : ∀ u, isN.map (fun i => (wr ++ w1 u)[i]?) = (ws1 u).map some)
    (kk : ∀ (r : Int64) (u : S) (H1 : Heap) (locs1 : List Loc), post r u → va_P G vwCl (ws1 u) H1 → va_D A (ws1 u) → va_S A s.heap H1 locs1 → W p l e R s m args below meth c H1 locs1 (cells + mc) (slots + ms) Q (F0 m (pc + 3) ls (.long r :: rest))) : W p l e R s m args below meth c H locs cells slots Q (F0 m pc ls st0) := by
  have hF := va_free hD hS hA isC hC
  refine va_calll hr hS (fun q _ h => hF q h) hF (fun r u t H1 locs1 ht hvm hw hB hz1 hk1 hS1 => ?_)
  obtain ⟨hP1, hD1⟩ := hB
  rw [ht] at hP1
  obtain ⟨hP2, hD2⟩ := va_join hP hD isC isR hC hR hn hdis hk1 hF hP1 hD1
  exact kk r u H1 locs1 hw (zPsub hP2 (hN u)) (hD2.sub isN hnN (hN u)) hS1
theorem zCv {S : Type} {post : S → Prop} {w1 ws1 : S → va_W} (hr : va_Run p l e R s m args below meth c H locs cells slots mc ms (F0 m pc ls st0) rest (va_Qv post (fun u t => zB G (va_A wc H.size) (w1 u) t) (va_A wc H.size) a) (va_A wc H.size))
    (hP : va_P G vwCl ws H) (hD : va_D A ws) (hS : va_S A s.heap H locs) (hA : ∀ q : Nat, s.heap.size ≤ q → A q) (isC isR isN : List Nat) (hC : isC.map (fun i => ws[i]?) = wc.map some) (hR : isR.map (fun i => ws[i]?) = wr.map some) (hn : va_nd isR = true) (hdis : ∀ i ∈ isR, i ∉ isC) (hnN : va_nd isN = true) (hN : ∀ u, isN.map (fun i => (wr ++ w1 u)[i]?) = (ws1 u).map some)
    (kk : ∀ (u : S) (H1 : Heap) (locs1 : List Loc), post u → va_P G vwCl (ws1 u) H1 → va_D A (ws1 u) → va_S A s.heap H1 locs1 → W p l e R s m args below meth c H1 locs1 (cells + mc) (slots + ms) Q (F0 m (pc + 3) ls rest)) : W p l e R s m args below meth c H locs cells slots Q (F0 m pc ls st0) := by
  have hF := va_free hD hS hA isC hC
  refine va_callv hr hS (fun q _ h => hF q h) hF (fun u t H1 locs1 ht hvm hw hB hz1 hk1 hS1 => ?_)
  obtain ⟨hP1, hD1⟩ := hB
  rw [ht] at hP1
  obtain ⟨hP2, hD2⟩ := va_join hP hD isC isR hC hR hn hdis hk1 hF hP1 hD1
  exact kk u H1 locs1 hw (zPsub hP2 (hN u)) (hD2.sub isN hnN (hN u)) hS1
/-- a loop, by a measure that falls -/
theorem zLoop {σ : Type} {nL : Nat} (CW : σ → va_W) (LV : σ → List (Nat × Value)) (INV : σ → Prop) (μ : σ → Nat)
    (step : ∀ x : σ, INV x → (∀ y : σ, INV y → μ y < μ x → ∀ (H : Heap) (locs : List Loc) (ls : Array Slot), va_P G vwCl (CW y) H → va_D A (CW y) → va_S A s.heap H locs → lv_has ls nL (LV y) → W p l e R s m args below meth c H locs cells slots Q (F0 m pc ls [])) →
      ∀ (H : Heap) (locs : List Loc) (ls : Array Slot), va_P G vwCl (CW x) H → va_D A (CW x) → va_S A s.heap H locs → lv_has ls nL (LV x) → W p l e R s m args below meth c H locs cells slots Q (F0 m pc ls []))
    (x0 : σ) (h0 : INV x0) {H : Heap} {locs : List Loc} {ls : Array Slot} (hP : va_P G vwCl (CW x0) H) (hD : va_D A (CW x0)) (hS : va_S A s.heap H locs) (hl : lv_has ls nL (LV x0)) : W p l e R s m args below meth c H locs cells slots Q (F0 m pc ls []) := by
  have key : ∀ (n : Nat) (x : σ), INV x → μ x < n → ∀ (H : Heap) (locs : List Loc) (ls : Array Slot), va_P G vwCl (CW x) H → va_D A (CW x) → va_S A s.heap H locs → lv_has ls nL (LV x) → W p l e R s m args below meth c H locs cells slots Q (F0 m pc ls []) := by
    intro n
    induction n with
    | zero => intro x _ h; exact absurd h (Nat.not_lt_zero _)
    | succ n ih => intro x hx hm; exact step x hx (fun y hy hyx => ih y hy (by omega))
  exact key (μ x0 + 1) x0 h0 (Nat.lt_succ_self _) H locs ls hP hD hS hl
theorem zEi {S : Type} {post : Int32 → S → Prop} {w1 : S → va_W} {r : Int32} (u : S) (hq : post r u) (hP : va_P G vwCl (w1 u) H) (hD : va_D A (w1 u)) (hS : va_S A s.heap H locs) : ∀ t : State, t.heap = H → s.WarmedH t.vm → va_Qi post (fun u t => zB G A (w1 u) t) A args s (.returned (some (.int r))) t :=
  fun t ht _ => ⟨⟨r, u, rfl, hq, by rw [ht]; exact hP, hD⟩, hS.F ht⟩
theorem zEl {S : Type} {post : Int64 → S → Prop} {w1 : S → va_W} {r : Int64} (u : S) (hq : post r u) (hP : va_P G vwCl (w1 u) H) (hD : va_D A (w1 u)) (hS : va_S A s.heap H locs) : ∀ t : State, t.heap = H → s.WarmedH t.vm → va_Ql post (fun u t => zB G A (w1 u) t) A args s (.returned (some (.long r))) t :=
  fun t ht _ => ⟨⟨r, u, rfl, hq, by rw [ht]; exact hP, hD⟩, hS.F ht⟩
theorem zEv {S : Type} {post : S → Prop} {w1 : S → va_W} (u : S) (hq : post u) (hP : va_P G vwCl (w1 u) H) (hD : va_D A (w1 u)) (hS : va_S A s.heap H locs) : ∀ t : State, t.heap = H → s.WarmedH t.vm → va_Qv post (fun u t => zB G A (w1 u) t) A args s (.returned none) t :=
  fun t ht _ => ⟨⟨u, rfl, hq, by rw [ht]; exact hP, hD⟩, hS.F ht⟩
/-- arrays at a place told as a number -/
theorem zIn {i : Int32} {j n : Nat} (hi : i = nI j) (hj : j < n) (hn : n < 2 ^ 31) : vp_in i n := by
  rw [hi]; exact vp_in_nI hj hn
theorem zCl0 {i : Int32} {j n : Nat} (hi : i = nI j) (hj : j < n) (hn : n < 2 ^ 31) : i.toNatClampNeg = j := by
  rw [hi]; exact nI_clamp (Nat.lt_trans hj hn)
theorem zIald {a0 : Nat} {cA : ClassId} {n : Nat} {f : Nat → Int32} {tys : List (ClassId × FieldType)} (hexec : p.tables.exec = Jvm.exec) (hb : c.code = cc) (hK : va_K G vwCl tys s) (hP : va_P G vwCl ws H) (q0 t0 : Nat) (ha : ws[q0]? = some (a0, .inl (cA, n, .inl f))) (ht : tys[t0]? = some (cA, .int)) {i : Int32} (j : Nat) (hi : i = nI j) (hj : j < n) (hn : n < 2 ^ 31) (hdg : decode cc pc = .ok (.iaload, 1))
    (kk : W p l e R s m args below meth c H locs cells slots Q (F0 m (pc + 1) ls (.int (f j) :: rest))) : W p l e R s m args below meth c H locs cells slots Q (F0 m pc ls (.int i :: .ref a0 :: rest)) := by
  refine va_iald hexec hb hK hP q0 t0 ha ht (zIn hi hj hn) hdg ?_
  rw [zCl0 hi hj hn]
  exact kk
theorem zCald {a0 : Nat} {cA : ClassId} {n : Nat} {f : Nat → Int32} {tys : List (ClassId × FieldType)} (hexec : p.tables.exec = Jvm.exec) (hb : c.code = cc) (hK : va_K G vwCl tys s) (hP : va_P G vwCl ws H) (q0 t0 : Nat) (ha : ws[q0]? = some (a0, .inl (cA, n, .inl f))) (ht : tys[t0]? = some (cA, .char)) {i : Int32} (j : Nat) (hi : i = nI j) (hj : j < n) (hn : n < 2 ^ 31) (hdg : decode cc pc = .ok (.caload, 1))
    (kk : W p l e R s m args below meth c H locs cells slots Q (F0 m (pc + 1) ls (.int (f j) :: rest))) : W p l e R s m args below meth c H locs cells slots Q (F0 m pc ls (.int i :: .ref a0 :: rest)) := by
  refine va_cald hexec hb hK hP q0 t0 ha ht (zIn hi hj hn) hdg ?_
  rw [zCl0 hi hj hn]
  exact kk
theorem zIast {a0 : Nat} {cA : ClassId} {n : Nat} {f : Nat → Int32} {tys : List (ClassId × FieldType)} (hexec : p.tables.exec = Jvm.exec) (hb : c.code = cc) (hK : va_K G vwCl tys s) (hP : va_P G vwCl ws H) (hD : va_D A ws) (hS : va_S A s.heap H locs) (q0 t0 : Nat) (ha : ws[q0]? = some (a0, .inl (cA, n, .inl f))) (ht : tys[t0]? = some (cA, .int)) {i x : Int32} (j : Nat) (hi : i = nI j) (hj : j < n) (hn : n < 2 ^ 31) (hdg : decode cc pc = .ok (.iastore, 1))
    (kk : ∀ (H1 : Heap) (locs1 : List Loc), va_P G vwCl (ws.set q0 (a0, .inl (cA, n, .inl (upd f j x)))) H1 → va_D A (ws.set q0 (a0, .inl (cA, n, .inl (upd f j x)))) → va_S A s.heap H1 locs1 → W p l e R s m args below meth c H1 locs1 cells slots Q (F0 m (pc + 1) ls rest)) : W p l e R s m args below meth c H locs cells slots Q (F0 m pc ls (.int x :: .int i :: .ref a0 :: rest)) := by
  refine va_iast hexec hb hK hP hD hS q0 t0 ha ht (zIn hi hj hn) hdg ?_
  rw [zCl0 hi hj hn]
  exact kk
theorem zCast {a0 : Nat} {cA : ClassId} {n : Nat} {f : Nat → Int32} {tys : List (ClassId × FieldType)} (hexec : p.tables.exec = Jvm.exec) (hb : c.code = cc) (hK : va_K G vwCl tys s) (hP : va_P G vwCl ws H) (hD : va_D A ws) (hS : va_S A s.heap H locs) (q0 t0 : Nat) (ha : ws[q0]? = some (a0, .inl (cA, n, .inl f))) (ht : tys[t0]? = some (cA, .char)) {i x : Int32} (j : Nat) (hi : i = nI j) (hj : j < n) (hn : n < 2 ^ 31) (hdg : decode cc pc = .ok (.castore, 1))
    (kk : ∀ (H1 : Heap) (locs1 : List Loc), va_P G vwCl (ws.set q0 (a0, .inl (cA, n, .inl (upd f j (vp_nar .char x))))) H1 → va_D A (ws.set q0 (a0, .inl (cA, n, .inl (upd f j (vp_nar .char x))))) → va_S A s.heap H1 locs1 → W p l e R s m args below meth c H1 locs1 cells slots Q (F0 m (pc + 1) ls rest)) : W p l e R s m args below meth c H locs cells slots Q (F0 m pc ls (.int x :: .int i :: .ref a0 :: rest)) := by
  refine va_cast hexec hb hK hP hD hS q0 t0 ha ht (zIn hi hj hn) hdg ?_
  rw [zCl0 hi hj hn]
  exact kk
end ZC
