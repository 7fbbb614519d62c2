def lwMore : List Cond := zNest ++ [.arrayOver (.object "WarmRods$Clock"), .laysStatic "WarmRods" "LEAST_VALUES" "[I", .laysStatic "WarmRods" "GREATEST_VALUES" "[I", .laysStatic "WarmRods" "MORE_FACTS" "[I"]
set_option maxRecDepth 20000 in
theorem lwMore_in : ∀ w ∈ lwMore, w ∈ lw_tbl := zMemR lwMore [24, 30, 47, 60, 62, 64, 66, 68, 70, 94, 97, 105, 110, 119, 125, 130, 138, 157, 329, 331, 212, 215, 93, 330, 332, 309] (by decide +kernel)
/-- a table of the class, out of what the Statement gives -/
theorem lwTab {args : Array Value} {s : State} {n : String} {N : Nat} {f : Nat → Int32} {A : Nat → Prop} (hN : N < 2 ^ 31) (hl : (Cond.laysStatic "WarmRods" n "[I").before args s = true) (hini : (Cond.initialized "WarmRods").before args s = true) (harr : (Cond.arrayOf (.static "WarmRods" n "[I") .int).before args s = true) (hlen : (Cond.eq (.length (.static "WarmRods" n "[I")) (.int (Int32.ofNat N))).before args s = true)
    (hel : ∀ j : Nat, j < N → (Cond.eq (.elem (.static "WarmRods" n "[I") (.int (Int32.ofNat j))) (.int (f j))).before args s = true) (hA : ∀ a : Nat, a < s.heap.size → ¬ A a) : zTab n N f A s s.heap := by
  obtain ⟨t, ht, hT⟩ := va_Tof (f := fun k => .int (f k)) hN harr (va_eqt hlen) (fun j hj => va_eqt (hel j hj)) hA
  exact ⟨t, va_Zof hl hini ht hA, hT⟩
theorem lwST {args : Array Value} {s : State} {A : Nat → Prop} (hts : ∀ w ∈ wsL_law, w.before args s = true) (hm : ∀ w ∈ lwMore, w.before args s = true) (hgv : (Jvm.Cond.and given_1 narrow_1).before args s = true) (hA : ∀ a : Nat, a < s.heap.size → ¬ A a) : zSW A s := by
  have hs := flat_of_before _ hgv
  refine ⟨⟨fun w hw => ?_, va_AO.of (hm _ (List.mem_of_getElem? (i := 22) rfl))⟩, ?_, ?_, ?_⟩
  · have hb : zIsNest w = true := List.all_eq_true.mp zNest_ok w hw
    have h1 := hm w (List.mem_append_left _ hw)
    cases w <;> first | exact va_Nw.of rfl h1 | (simp [zIsNest] at hb)
  · exact (lwTab (N := 4) (f := zLeast) (by decide) (hm _ (List.mem_of_getElem? (i := 23) rfl)) (hts _ (List.mem_of_getElem? (i := 2) rfl)) (hs _ (by decide +kernel)) (hs _ (by decide +kernel)) (fun j hj => by
      rcases (show j = 0 ∨ j = 1 ∨ j = 2 ∨ j = 3 by omega) with e | e | e | e <;> subst e <;> exact hs _ (by decide +kernel)) hA)
  · exact (lwTab (N := 4) (f := zGreat) (by decide) (hm _ (List.mem_of_getElem? (i := 24) rfl)) (hts _ (List.mem_of_getElem? (i := 2) rfl)) (hs _ (by decide +kernel)) (hs _ (by decide +kernel)) (fun j hj => by
      rcases (show j = 0 ∨ j = 1 ∨ j = 2 ∨ j = 3 by omega) with e | e | e | e <;> subst e <;> exact hs _ (by decide +kernel)) hA)
  · exact (lwTab (N := 7) (f := zMore) (by decide) (hm _ (List.mem_of_getElem? (i := 25) rfl)) (hts _ (List.mem_of_getElem? (i := 2) rfl)) (hs _ (by decide +kernel)) (hs _ (by decide +kernel)) (fun j hj => by
      rcases (show j = 0 ∨ j = 1 ∨ j = 2 ∨ j = 3 ∨ j = 4 ∨ j = 5 ∨ j = 6 by omega) with e | e | e | e | e | e | e <;> subst e <;> exact hs _ (by decide +kernel)) hA)
theorem lwG {args : Array Value} {s : State} (hts : ∀ w ∈ wsL_law, w.before args s = true) : ∃ G : va_G, ∀ (k : Nat) (q : vw_C), vwCl[k]? = some q → u_Kn s q.1 q.2.1 q.2.2 (G.1 k) (G.2 k) := by
  obtain ⟨c0, i0, h0⟩ := u_known (C := RX0) (T := TX0) (N := 7) (n := 7) hts inlX0 (hts (.instantiable RX0 7) (List.mem_of_getElem? (i := 10) rfl))
  obtain ⟨c1, i1, h1⟩ := u_known (C := RX1) (T := TX1) (N := 2) (n := 2) hts inlX1 (hts (.instantiable RX1 2) (List.mem_of_getElem? (i := 27) rfl))
  obtain ⟨c2, i2, h2⟩ := u_known (C := RX2) (T := TX2) (N := 2) (n := 2) hts inlX2 (hts (.instantiable RX2 2) (List.mem_of_getElem? (i := 14) rfl))
  obtain ⟨c3, i3, h3⟩ := u_known (C := RX3) (T := TX3) (N := 2) (n := 2) hts inlX3 (hts (.instantiable RX3 2) (List.mem_of_getElem? (i := 38) rfl))
  obtain ⟨c4, i4, h4⟩ := u_known (C := RX4) (T := TX4) (N := 2) (n := 2) hts inlX4 (hts (.instantiable RX4 2) (List.mem_of_getElem? (i := 63) rfl))
  obtain ⟨c5, i5, h5⟩ := u_known (C := RX5) (T := TX5) (N := 8) (n := 8) hts inlX5 (hts (.instantiable RX5 8) (List.mem_of_getElem? (i := 23) rfl))
  obtain ⟨c6, i6, h6⟩ := u_known (C := RX6) (T := TX6) (N := 2) (n := 2) hts inlX6 (hts (.instantiable RX6 2) (List.mem_of_getElem? (i := 18) rfl))
  obtain ⟨c7, i7, h7⟩ := u_known (C := RX7) (T := TX7) (N := 6) (n := 6) hts inlX7 (hts (.instantiable RX7 6) (List.mem_of_getElem? (i := 1) rfl))
  refine ⟨(fun k => match k with | 0 => c0 | 1 => c1 | 2 => c2 | 3 => c3 | 4 => c4 | 5 => c5 | 6 => c6 | _ => c7, fun k => match k with | 0 => i0 | 1 => i1 | 2 => i2 | 3 => i3 | 4 => i4 | 5 => i5 | 6 => i6 | _ => i7), ?_⟩
  intro k q hq
  match k, hq with
  | 0, hq =>
    obtain rfl := Option.some.inj (show some (RX0, TX0, 7) = some q from hq)
    exact h0
  | 1, hq =>
    obtain rfl := Option.some.inj (show some (RX1, TX1, 2) = some q from hq)
    exact h1
  | 2, hq =>
    obtain rfl := Option.some.inj (show some (RX2, TX2, 2) = some q from hq)
    exact h2
  | 3, hq =>
    obtain rfl := Option.some.inj (show some (RX3, TX3, 2) = some q from hq)
    exact h3
  | 4, hq =>
    obtain rfl := Option.some.inj (show some (RX4, TX4, 2) = some q from hq)
    exact h4
  | 5, hq =>
    obtain rfl := Option.some.inj (show some (RX5, TX5, 8) = some q from hq)
    exact h5
  | 6, hq =>
    obtain rfl := Option.some.inj (show some (RX6, TX6, 2) = some q from hq)
    exact h6
  | 7, hq =>
    obtain rfl := Option.some.inj (show some (RX7, TX7, 6) = some q from hq)
    exact h7
  | k + 8, hq => simp [vwCl] at hq
theorem lwZ {args : Array Value} {s : State} (ha : (Cond.arrayClass .int).before args s = true) (hc : (Cond.arrayClass .char).before args s = true) (ho : (Cond.arrayOver (.object "WarmRods$Clock")).before args s = true) : ∃ Z : Nat → ClassId, ∀ (k : Nat) (q : ClassId × FieldType), (zTy Z)[k]? = some q → ArrOfT s q.1 q.2 ∧ va_RA s q.1 q.2 := by
  obtain ⟨cI, kI, pI, i1, i2, i3⟩ := Cond.arrayClass_spec ha
  obtain ⟨cC, kC, pC, j1, j2, j3⟩ := Cond.arrayClass_spec hc
  obtain ⟨comp, cO, kO, o1, o2, o3, o4, o5⟩ := Cond.arrayOver_spec ho
  refine ⟨fun k => match k with | 0 => cI | 1 => cC | _ => cO, ?_⟩
  intro k q hq
  match k, hq with
  | 0, hq =>
    obtain rfl := Option.some.inj (show some (cI, FieldType.int) = some q from hq)
    exact ⟨fun n z => ⟨(fun k h => by cases h), kI, i2, pI, i3⟩, i1⟩
  | 1, hq =>
    obtain rfl := Option.some.inj (show some (cC, FieldType.char) = some q from hq)
    exact ⟨fun n z => ⟨(fun k h => by cases h), kC, j2, pC, j3⟩, j1⟩
  | 2, hq =>
    obtain rfl := Option.some.inj (show some (cO, FieldType.object "WarmRods$Clock") = some q from hq)
    exact ⟨fun n z => ⟨(fun k h => by cases h), kO, o3, comp, o4⟩, kO, comp, o3, o4, o1, o5⟩
  | k + 3, hq => simp at hq
