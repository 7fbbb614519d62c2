set_option maxHeartbeats 4000000 in
set_option maxRecDepth 100000 in
theorem law_loop {p : Program} {l : Launch} {e : Env} {s : State} {m : MethodId} {below : List Frame} {meth : Method} {c : Code} {bb L : Nat} {xs : Nat → Int32} {G : va_G} {Z : Nat → ClassId} {A : Nat → Prop} (C : lwC p s m meth c bb L xs G Z A) (hL : L ≤ 2560) {h s1 s2 g : Nat} {a cd d e1 e2 b : Nat → Nat} : ∀ (n j : Nat), 5 * j ≤ 2600 → L + 5 ≤ 5 * j + 5 * n → ∀ (v : CV) (kp : Nat) (Y : HV) (f1 : Int32) (u1 : CV) (f2 : Int32) (u2 : CV) (w : RV) (go : Int32) (gc : Int32) (al : Nat → Int32) (ke : Nat → Int32) (hs : Nat → Int32) (hq : Nat) (sl : Nat → Int32) (sa : Nat → Int32) (off : Int32) (car : Int32) (pa : Nat → Int32) (pq : Nat) (sp : Nat) (nu : Int32) (dn : Int32) (er : Int32) (H : Heap) (locs : List Loc) (ls : Array Slot), lwR v kp Y f1 u1 f2 u2 w al hs hq sl sa pa pq → lv_has ls 4 [(3, .int (nI (5 * j))), (2, .ref (b 0)), (1, .ref h), (0, .ref bb)] → va_P G vwCl (lwW Z h s1 s2 g a cd d e1 e2 b v kp Y f1 u1 f2 u2 w go gc al ke hs hq sl sa off car pa pq sp nu dn er) H → va_D A (lwW Z h s1 s2 g a cd d e1 e2 b v kp Y f1 u1 f2 u2 w go gc al ke hs hq sl sa off car pa pq sp nu dn er) → va_S A s.heap H locs → W p l e room_1 s m #[Value.ref bb] below meth c H locs 61 6835 (lw_Z below #[Value.ref bb] s) (F0 m 18 ls []) := by
  obtain ⟨hx, hb, hr, hml, hown, hts, hX, hbl, hlocks, hK, hA, hAS, hbA, hSW⟩ := id C
  intro n
  induction n with
  | zero =>
    intro j h1 h2 v kp Y f1 u1 f2 u2 w go gc al ke hs hq sl sa off car pa pq sp nu dn er H locs ls hR hl hP hD hS
    refine lv_iload_n hx hb dL_law_18 rfl (lv_at hl 0 rfl) ?_
    refine lv_aload_n hx hb dL_law_19 rfl (lv_at hl 3 rfl) ?_
    refine zSlen hx hb hX hbl hbA hS dL_law_20 ?_
    refine lv_iconst (v := 5) hx hb dL_law_21 (by decide) ?_
    refine lv_isub hx hb dL_law_22 ?_
    refine lv_icmp_gt (tgt := 645) hx hb dL_law_23 (by decide) (fun _ => ?_) (fun c23 => absurd ((lwLen hL (by omega)).mpr (by omega)) c23)
    refine lv_iconst (v := 1) hx hb dL_law_645 (by decide) ?_
    refine va_forget (fun q hq => hAS _ (hS.2.2 q hq)) ?_
    refine W.widen (k := 600000) (n := 7302250) (Nat.le_of_ble_eq_true rfl) (Nat.le_of_ble_eq_true rfl) ?_
    exact lw_ret (Drawn.sameBut.refl s.drawn lw_cs) hx hb hr hlocks dL_law_646
  | succ n ih =>
    intro j hj2 hn v kp Y f1 u1 f2 u2 w go gc al ke hs hq sl sa off car pa pq sp nu dn er H locs ls hR hl hP hD hS
    have hj : 5 * j ≤ 5000 := by omega
    refine lv_iload_n hx hb dL_law_18 rfl (lv_at hl 0 rfl) ?_
    refine lv_aload_n hx hb dL_law_19 rfl (lv_at hl 3 rfl) ?_
    refine zSlen hx hb hX hbl hbA hS dL_law_20 ?_
    refine lv_iconst (v := 5) hx hb dL_law_21 (by decide) ?_
    refine lv_isub hx hb dL_law_22 ?_
    refine lv_icmp_gt (tgt := 645) hx hb dL_law_23 (by decide) (fun c23 => ?_) (fun c23 => ?_)
    · refine lv_iconst (v := 1) hx hb dL_law_645 (by decide) ?_
      refine va_forget (fun q hq => hAS _ (hS.2.2 q hq)) ?_
      refine W.widen (k := 600000) (n := 7302250) (Nat.le_of_ble_eq_true rfl) (Nat.le_of_ble_eq_true rfl) ?_
      exact lw_ret (Drawn.sameBut.refl s.drawn lw_cs) hx hb hr hlocks dL_law_646
    · have hj5 : 5 * j + 5 ≤ L := Nat.not_lt.mp (mt (lwLen hL hj).mpr c23)
      obtain ⟨x0, e_x0⟩ : ∃ z : Int32, xs (5 * j) = z := ⟨_, rfl⟩
      have K : lwNext p l e s m below meth c bb G Z A h s1 s2 g a cd d e1 e2 b ls := by
        intro v kp Y f1 u1 f2 u2 w go gc al ke hs hq sl sa off car pa pq sp nu dn er H locs hR hP hD hS
        refine lv_iinc (v := nI (5 * (j + 1))) (lv' := [(3, .int (nI (5 * (j + 1)))), (2, .ref (b 0)), (1, .ref h), (0, .ref bb)]) hx hb dL_law_639 hl (k := 0) rfl ((nI_add (5 * j) 5).trans (congrArg nI (by omega))) (by decide) rfl (fun ls hl => ?_)
        refine lv_goto (tgt := 18) hx hb dL_law_642 (by decide) ?_
        exact ih (j + 1) (by omega) (by omega) v kp Y f1 u1 f2 u2 w go gc al ke hs hq sl sa off car pa pq sp nu dn er _ _ ls hR hl hP hD hS
      refine lv_aload_n hx hb dL_law_26 rfl (lv_at hl 3 rfl) ?_
      refine lv_iload_n hx hb dL_law_27 rfl (lv_at hl 0 rfl) ?_
      refine zSld (v := x0) hx hb hX hbl hbA hS (5 * j) rfl (by omega) (by omega) e_x0 dL_law_28 ?_
      refine lv_bipush (v := 31) hx hb dL_law_29 (by decide) ?_
      refine lv_iand hx hb dL_law_31 ?_
      by_cases c32_0 : (x0 &&& 31) = 0
      · refine lv_tableIn (off := 96) (tgt := 128) hx hb dL_law_32 (zTin1 c32_0 (by decide)) (zTin2 c32_0 (by decide)) (zTin3 c32_0 (by decide)) (by decide) ?_
        exact lA_set C hL hj5 hR hl K hP hD hS
      by_cases c32_1 : (x0 &&& 31) = 1
      · refine lv_tableIn (off := 129) (tgt := 161) hx hb dL_law_32 (zTin1 c32_1 (by decide)) (zTin2 c32_1 (by decide)) (zTin3 c32_1 (by decide)) (by decide) ?_
        exact lA_weight C hL hj5 hR hl K hP hD hS
      by_cases c32_2 : (x0 &&& 31) = 2
      · refine lv_tableIn (off := 152) (tgt := 184) hx hb dL_law_32 (zTin1 c32_2 (by decide)) (zTin2 c32_2 (by decide)) (zTin3 c32_2 (by decide)) (by decide) ?_
        exact lA_pass C hL hj5 hR hl K hP hD hS
      by_cases c32_3 : (x0 &&& 31) = 3
      · refine lv_tableIn (off := 205) (tgt := 237) hx hb dL_law_32 (zTin1 c32_3 (by decide)) (zTin2 c32_3 (by decide)) (zTin3 c32_3 (by decide)) (by decide) ?_
        exact lA_zero C hL hj5 hR hl K hP hD hS
      by_cases c32_4 : (x0 &&& 31) = 4
      · refine lv_tableIn (off := 218) (tgt := 250) hx hb dL_law_32 (zTin1 c32_4 (by decide)) (zTin2 c32_4 (by decide)) (zTin3 c32_4 (by decide)) (by decide) ?_
        exact lA_hour C hL hj5 hR hl K hP hD hS
      by_cases c32_5 : (x0 &&& 31) = 5
      · refine lv_tableIn (off := 251) (tgt := 283) hx hb dL_law_32 (zTin1 c32_5 (by decide)) (zTin2 c32_5 (by decide)) (zTin3 c32_5 (by decide)) (by decide) ?_
        exact lA_count C hL hj5 hR hl K hP hD hS
      by_cases c32_6 : (x0 &&& 31) = 6
      · refine lv_tableIn (off := 274) (tgt := 306) hx hb dL_law_32 (zTin1 c32_6 (by decide)) (zTin2 c32_6 (by decide)) (zTin3 c32_6 (by decide)) (by decide) ?_
        exact lA_meanRate C hL hj5 hR hl K hP hD hS
      by_cases c32_7 : (x0 &&& 31) = 7
      · refine lv_tableIn (off := 288) (tgt := 320) hx hb dL_law_32 (zTin1 c32_7 (by decide)) (zTin2 c32_7 (by decide)) (zTin3 c32_7 (by decide)) (by decide) ?_
        exact lA_ofLog C hL hj5 hR hl K hP hD hS
      by_cases c32_8 : (x0 &&& 31) = 8
      · refine lv_tableIn (off := 311) (tgt := 343) hx hb dL_law_32 (zTin1 c32_8 (by decide)) (zTin2 c32_8 (by decide)) (zTin3 c32_8 (by decide)) (by decide) ?_
        exact lA_rate C hL hj5 hR hl K hP hD hS
      by_cases c32_9 : (x0 &&& 31) = 9
      · refine lv_tableIn (off := 344) (tgt := 376) hx hb dL_law_32 (zTin1 c32_9 (by decide)) (zTin2 c32_9 (by decide)) (zTin3 c32_9 (by decide)) (by decide) ?_
        exact lA_bestWeights C hL hj5 hR hl K hP hD hS
      by_cases c32_10 : (x0 &&& 31) = 10
      · refine lv_tableIn (off := 387) (tgt := 419) hx hb dL_law_32 (zTin1 c32_10 (by decide)) (zTin2 c32_10 (by decide)) (zTin3 c32_10 (by decide)) (by decide) ?_
        exact lA_offIn C hL hj5 hR hl K hP hD hS
      by_cases c32_11 : (x0 &&& 31) = 11
      · refine lv_tableIn (off := 420) (tgt := 452) hx hb dL_law_32 (zTin1 c32_11 (by decide)) (zTin2 c32_11 (by decide)) (zTin3 c32_11 (by decide)) (by decide) ?_
        exact lA_replay C hL hj5 hR hl K hP hD hS
      by_cases c32_12 : (x0 &&& 31) = 12
      · refine lv_tableIn (off := 433) (tgt := 465) hx hb dL_law_32 (zTin1 c32_12 (by decide)) (zTin2 c32_12 (by decide)) (zTin3 c32_12 (by decide)) (by decide) ?_
        exact lA_coolest C hL hj5 hR hl K hP hD hS
      by_cases c32_13 : (x0 &&& 31) = 13
      · refine lv_tableIn (off := 456) (tgt := 488) hx hb dL_law_32 (zTin1 c32_13 (by decide)) (zTin2 c32_13 (by decide)) (zTin3 c32_13 (by decide)) (by decide) ?_
        exact lA_put C hL hj5 hR hl K hP hD hS
      by_cases c32_14 : (x0 &&& 31) = 14
      · refine lv_tableIn (off := 509) (tgt := 541) hx hb dL_law_32 (zTin1 c32_14 (by decide)) (zTin2 c32_14 (by decide)) (zTin3 c32_14 (by decide)) (by decide) ?_
        exact lA_wipe C hL hj5 hR hl K hP hD hS
      by_cases c32_15 : (x0 &&& 31) = 15
      · refine lv_tableIn (off := 522) (tgt := 554) hx hb dL_law_32 (zTin1 c32_15 (by decide)) (zTin2 c32_15 (by decide)) (zTin3 c32_15 (by decide)) (by decide) ?_
        exact lA_fault C hL hj5 hR hl K hP hD hS
      by_cases c32_16 : (x0 &&& 31) = 16
      · refine lv_tableIn (off := 535) (tgt := 567) hx hb dL_law_32 (zTin1 c32_16 (by decide)) (zTin2 c32_16 (by decide)) (zTin3 c32_16 (by decide)) (by decide) ?_
        exact lA_carryOut C hL hj5 hR hl K hP hD hS
      by_cases c32_17 : (x0 &&& 31) = 17
      · refine lv_tableIn (off := 548) (tgt := 580) hx hb dL_law_32 (zTin1 c32_17 (by decide)) (zTin2 c32_17 (by decide)) (zTin3 c32_17 (by decide)) (by decide) ?_
        exact lA_undo C hL hj5 hR hl K hP hD hS
      by_cases c32_18 : (x0 &&& 31) = 18
      · refine lv_tableIn (off := 561) (tgt := 593) hx hb dL_law_32 (zTin1 c32_18 (by decide)) (zTin2 c32_18 (by decide)) (zTin3 c32_18 (by decide)) (by decide) ?_
        exact lA_save C hL hj5 hR hl K hP hD hS
      by_cases c32_19 : (x0 &&& 31) = 19
      · refine lv_tableIn (off := 584) (tgt := 616) hx hb dL_law_32 (zTin1 c32_19 (by decide)) (zTin2 c32_19 (by decide)) (zTin3 c32_19 (by decide)) (by decide) ?_
        exact lA_restore C hL hj5 hR hl K hP hD hS
      refine lv_tableOut (tgt := 639) hx hb dL_law_32 (by have hh := @Int32.toInt_inj; have w_0 : ¬ ((x0 &&& 31)).toInt = 0 := fun q => c32_0 (Int32.toInt_inj.mp q); have w_1 : ¬ ((x0 &&& 31)).toInt = 1 := fun q => c32_1 (Int32.toInt_inj.mp q); have w_2 : ¬ ((x0 &&& 31)).toInt = 2 := fun q => c32_2 (Int32.toInt_inj.mp q); have w_3 : ¬ ((x0 &&& 31)).toInt = 3 := fun q => c32_3 (Int32.toInt_inj.mp q); have w_4 : ¬ ((x0 &&& 31)).toInt = 4 := fun q => c32_4 (Int32.toInt_inj.mp q); have w_5 : ¬ ((x0 &&& 31)).toInt = 5 := fun q => c32_5 (Int32.toInt_inj.mp q); have w_6 : ¬ ((x0 &&& 31)).toInt = 6 := fun q => c32_6 (Int32.toInt_inj.mp q); have w_7 : ¬ ((x0 &&& 31)).toInt = 7 := fun q => c32_7 (Int32.toInt_inj.mp q); have w_8 : ¬ ((x0 &&& 31)).toInt = 8 := fun q => c32_8 (Int32.toInt_inj.mp q); have w_9 : ¬ ((x0 &&& 31)).toInt = 9 := fun q => c32_9 (Int32.toInt_inj.mp q); have w_10 : ¬ ((x0 &&& 31)).toInt = 10 := fun q => c32_10 (Int32.toInt_inj.mp q); have w_11 : ¬ ((x0 &&& 31)).toInt = 11 := fun q => c32_11 (Int32.toInt_inj.mp q); have w_12 : ¬ ((x0 &&& 31)).toInt = 12 := fun q => c32_12 (Int32.toInt_inj.mp q); have w_13 : ¬ ((x0 &&& 31)).toInt = 13 := fun q => c32_13 (Int32.toInt_inj.mp q); have w_14 : ¬ ((x0 &&& 31)).toInt = 14 := fun q => c32_14 (Int32.toInt_inj.mp q); have w_15 : ¬ ((x0 &&& 31)).toInt = 15 := fun q => c32_15 (Int32.toInt_inj.mp q); have w_16 : ¬ ((x0 &&& 31)).toInt = 16 := fun q => c32_16 (Int32.toInt_inj.mp q); have w_17 : ¬ ((x0 &&& 31)).toInt = 17 := fun q => c32_17 (Int32.toInt_inj.mp q); have w_18 : ¬ ((x0 &&& 31)).toInt = 18 := fun q => c32_18 (Int32.toInt_inj.mp q); have w_19 : ¬ ((x0 &&& 31)).toInt = 19 := fun q => c32_19 (Int32.toInt_inj.mp q); omega) (by decide) ?_
      exact K v kp Y f1 u1 f2 u2 w go gc al ke hs hq sl sa off car pa pq sp nu dn er _ _ hR hP hD hS
