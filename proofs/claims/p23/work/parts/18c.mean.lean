set_option maxHeartbeats 4000000 in
set_option maxRecDepth 100000 in
theorem m_X7_bitsOf (l : Launch) (G : va_G) (Z : Nat → ClassId) (sz : Nat) (x : UInt64) (hx9 : dGood x) : Met l yX7_bitsOf wsX7_bitsOf ({ frames := 0, cells := 0, slots := 0, locals := 0 }) (va_Pc [.double x] (zWP G Z sz ([]))) (va_Ql (fun (r : Int64) (u : Unit) => r = x.toInt64) (fun (u : Unit) t => zB G (va_A ([]) sz) ([]) t) (va_A ([]) sz)) 0 0 (va_A ([]) sz) := by
  refine Met.ofW (cc := cX7_bitsOf) (maxL := 8) (ret := (some .long)) (by decide) rfl ?_
  intro p e s m args below meth c s₁ B hml hv
  have hx := B.exec
  have hb := B.bytes
  have hr := B.returns
  have hts := atoms_spec (ws := wsX7_bitsOf) B.pre
  have hown : s.vm.findClass RX7 = some m.cls := findClass_of_methodNamed B.named
  have hlocks := B.notSynchronized
  obtain ⟨rfl, hsz, hP, hK, hD, hA, hS, hSW⟩ := zEnter hv
  subst hsz
  generalize va_A ([]) s.heap.size = A at hD hA hS hSW ⊢
  have k_232 := hts (.constantLong RX7 232 (1075)) (List.mem_of_getElem? (i := 1) rfl)
  have k_240 := hts (.constantLong RX7 240 (4503599627370496)) (List.mem_of_getElem? (i := 5) rfl)
  have k_238 := hts (.constantLong RX7 238 (-9223372036854775808)) (List.mem_of_getElem? (i := 4) rfl)
  have k_234 := hts (.constantDouble RX7 234 (4841369599423283200)) (List.mem_of_getElem? (i := 2) rfl)
  have k_236 := hts (.constantDouble RX7 236 (4611686018427387904)) (List.mem_of_getElem? (i := 3) rfl)
  have hP : va_P G vwCl ([]) s.heap := hP
  have hl := lv_entry ([.double x]) (n := 8) (Nat.le_of_ble_eq_true rfl)
  rw [lg_entry_eq]
  generalize (lg_sl ([.double x]) ++ List.replicate (8 - (lg_sl ([.double x])).length) Slot.unset).toArray = ls at hl ⊢
  have hl : lv_has ls 8 [(0, .double x)] := hl
  refine lv_dload_n hx hb dX7_bitsOf_0 rfl (lv_at hl 0 rfl) ?_
  refine lv_dconst0 hx hb dX7_bitsOf_1 ?_
  refine lv_dcmp hx hb dX7_bitsOf_2 ?_
  refine lv_if_ne (tgt := 8) hx hb dX7_bitsOf_3 (by decide) (fun c3 => ?_) (fun c3 => ?_)
  · obtain ⟨sg, c9, q9, hv9, k1, k2, k3, k4⟩ : ∃ (s : Bool) (c : Nat) (q : Int), Jvm.FP.Core.val64 x = .fin s c q ∧ 2 ^ 52 ≤ c ∧ c < 2 ^ 53 ∧ -64 ≤ q ∧ q ≤ 0 := by
      rcases hx9 with e | e
      · exfalso
        apply c3
        rw [e]
        decide +kernel
      · exact e
    have hd9 := dc0 hv9 (by omega)
    refine lv_dload_n hx hb dX7_bitsOf_8 rfl (lv_at hl 0 rfl) ?_
    refine lv_dconst0 hx hb dX7_bitsOf_9 ?_
    refine lv_dcmp hx hb dX7_bitsOf_10 ?_
    refine lv_if_ge (tgt := 19) hx hb dX7_bitsOf_11 (by decide) (fun c11 => ?_) (fun c11 => ?_)
    · refine lv_dload_n hx hb dX7_bitsOf_19 rfl (lv_at hl 0 rfl) ?_
      refine lv_dstore_n (lv' := [(2, .double x), (0, .double x)]) hx hb dX7_bitsOf_20 rfl hl (by decide) rfl (fun ls hl => ?_)
      refine lv_ldc2 (v := 1075) hx hb hown k_232 dX7_bitsOf_21 ?_
      refine lv_lstore (lv' := [(4, .long 1075), (2, .double x), (0, .double x)]) hx hb dX7_bitsOf_24 hl (by decide) rfl (fun ls hl => ?_)
      refine lv_iconst (v := 0) hx hb dX7_bitsOf_26 (by decide) ?_
      refine lv_istore (lv' := [(6, .int 0), (4, .long 1075), (2, .double x), (0, .double x)]) hx hb dX7_bitsOf_27 hl (by decide) rfl (fun ls hl => ?_)
      refine zLoop (σ := Nat × UInt64) (nL := 8) (fun zx => []) (fun zx => [(6, .int (nI zx.1)), (4, .long (lN (1075 - zx.1))), (2, .double zx.2), (0, .double x)]) (fun zx => Jvm.FP.Core.val64 zx.2 = .fin false c9 (q9 + (zx.1 : Nat)) ∧ q9 + (zx.1 : Nat) ≤ 0 ∧ zx.1 ≤ 64) (fun zx => (-(q9 + (zx.1 : Nat))).toNat) ?_ (0, x) (by
          try dsimp only
          refine ⟨?_, by omega⟩
          have hsg : sg = false := by
            cases sg with
            | false => rfl
            | true => rw [hd9] at c11; exact absurd c11 (by decide)
          subst hsg
          rw [hv9]
          congr 1
          omega) hP hD hS (lv_sub hl [0, 1, 2, 3] rfl)
      intro zx hinv29 ih29 H locs ls hP hD hS hl
      obtain ⟨j, y9⟩ := zx
      try dsimp only at hinv29 ih29
      have hP : va_P G vwCl ([]) H := hP
      have hD : va_D A ([]) := hD
      have hl : lv_has ls 8 [(6, .int (nI j)), (4, .long (lN (1075 - j))), (2, .double y9), (0, .double x)] := hl
      refine lv_iload hx hb dX7_bitsOf_29 (lv_at hl 0 rfl) ?_
      refine lv_bipush (v := 64) hx hb dX7_bitsOf_31 (by decide) ?_
      refine lv_icmp_ge (tgt := 62) hx hb dX7_bitsOf_33 (by decide) (fun c33 => ?_) (fun c33 => ?_)
      · have hj9 : q9 + (j : Nat) = 0 := by
          have h1 := hinv29.2.1
          have h2 := zLe (a := 64) c33 (by omega) (by omega)
          omega
        refine lv_dload_n hx hb dX7_bitsOf_62 rfl (lv_at hl 3 rfl) ?_
        refine lv_dconst0 hx hb dX7_bitsOf_63 ?_
        refine lv_dcmp hx hb dX7_bitsOf_64 ?_
        refine lv_if_ge (tgt := 74) hx hb dX7_bitsOf_65 (by decide) (fun c65 => ?_) (fun c65 => ?_)
        · refine lv_lconst (v := 0) hx hb dX7_bitsOf_74 (by decide) ?_
          refine lv_lstore (lv' := [(6, .long 0), (4, .long (lN (1075 - j))), (2, .double y9), (0, .double x)]) hx hb dX7_bitsOf_75 hl (by decide) rfl (fun ls hl => ?_)
          refine lv_lload hx hb dX7_bitsOf_77 (lv_at hl 0 rfl) ?_
          refine lv_lload hx hb dX7_bitsOf_79 (lv_at hl 1 rfl) ?_
          refine lv_bipush (v := 52) hx hb dX7_bitsOf_81 (by decide) ?_
          refine lv_lshl (v := zShl (lN (1075 - j)) 52) hx hb dX7_bitsOf_83 rfl ?_
          refine lv_lor hx hb dX7_bitsOf_84 ?_
          refine lv_dload_n hx hb dX7_bitsOf_85 rfl (lv_at hl 2 rfl) ?_
          refine lv_d2l hx hb dX7_bitsOf_86 ?_
          refine lv_ldc2 (v := 4503599627370496) hx hb hown k_240 dX7_bitsOf_87 ?_
          refine lv_lsub hx hb dX7_bitsOf_90 ?_
          refine lv_lor hx hb dX7_bitsOf_91 ?_
          exact W.lret hx hb hr (zEl () (by
              have hF := bitsFin hv9 k1 k2 k3 hj9 hinv29.1
              have hsg : sg = false := by
                cases sg with
                | false => rfl
                | true => rw [hd9] at c65; exact absurd c65 (by decide)
              rw [hsg] at hF
              exact hF) hP hD hS) hS.2.2 dX7_bitsOf_92
        · refine lv_ldc2 (v := (-9223372036854775808)) hx hb hown k_238 dX7_bitsOf_68 ?_
          refine lv_goto (tgt := 75) hx hb dX7_bitsOf_71 (by decide) ?_
          refine lv_lstore (lv' := [(6, .long (-9223372036854775808)), (4, .long (lN (1075 - j))), (2, .double y9), (0, .double x)]) hx hb dX7_bitsOf_75 hl (by decide) rfl (fun ls hl => ?_)
          refine lv_lload hx hb dX7_bitsOf_77 (lv_at hl 0 rfl) ?_
          refine lv_lload hx hb dX7_bitsOf_79 (lv_at hl 1 rfl) ?_
          refine lv_bipush (v := 52) hx hb dX7_bitsOf_81 (by decide) ?_
          refine lv_lshl (v := zShl (lN (1075 - j)) 52) hx hb dX7_bitsOf_83 rfl ?_
          refine lv_lor hx hb dX7_bitsOf_84 ?_
          refine lv_dload_n hx hb dX7_bitsOf_85 rfl (lv_at hl 2 rfl) ?_
          refine lv_d2l hx hb dX7_bitsOf_86 ?_
          refine lv_ldc2 (v := 4503599627370496) hx hb hown k_240 dX7_bitsOf_87 ?_
          refine lv_lsub hx hb dX7_bitsOf_90 ?_
          refine lv_lor hx hb dX7_bitsOf_91 ?_
          exact W.lret hx hb hr (zEl () (by
              have hF := bitsFin hv9 k1 k2 k3 hj9 hinv29.1
              have hsg : sg = true := by
                cases sg with
                | true => rfl
                | false => rw [hd9] at c65; exact absurd (by decide) c65
              rw [hsg] at hF
              exact hF) hP hD hS) hS.2.2 dX7_bitsOf_92
      · refine lv_dload_n hx hb dX7_bitsOf_36 rfl (lv_at hl 2 rfl) ?_
        refine lv_ldc2d (v := 4841369599423283200) hx hb hown k_234 dX7_bitsOf_37 ?_
        refine lv_dcmp hx hb dX7_bitsOf_40 ?_
        refine lv_if_ge (tgt := 62) hx hb dX7_bitsOf_41 (by decide) (fun c41 => ?_) (fun c41 => ?_)
        · have hj9 : q9 + (j : Nat) = 0 := by
            have h1 := hinv29.2.1
            have h2 := mt (dcB hinv29.1 k1 k2 h1).mpr (Int32.not_lt.mpr c41)
            omega
          refine lv_dload_n hx hb dX7_bitsOf_62 rfl (lv_at hl 3 rfl) ?_
          refine lv_dconst0 hx hb dX7_bitsOf_63 ?_
          refine lv_dcmp hx hb dX7_bitsOf_64 ?_
          refine lv_if_ge (tgt := 74) hx hb dX7_bitsOf_65 (by decide) (fun c65 => ?_) (fun c65 => ?_)
          · refine lv_lconst (v := 0) hx hb dX7_bitsOf_74 (by decide) ?_
            refine lv_lstore (lv' := [(6, .long 0), (4, .long (lN (1075 - j))), (2, .double y9), (0, .double x)]) hx hb dX7_bitsOf_75 hl (by decide) rfl (fun ls hl => ?_)
            refine lv_lload hx hb dX7_bitsOf_77 (lv_at hl 0 rfl) ?_
            refine lv_lload hx hb dX7_bitsOf_79 (lv_at hl 1 rfl) ?_
            refine lv_bipush (v := 52) hx hb dX7_bitsOf_81 (by decide) ?_
            refine lv_lshl (v := zShl (lN (1075 - j)) 52) hx hb dX7_bitsOf_83 rfl ?_
            refine lv_lor hx hb dX7_bitsOf_84 ?_
            refine lv_dload_n hx hb dX7_bitsOf_85 rfl (lv_at hl 2 rfl) ?_
            refine lv_d2l hx hb dX7_bitsOf_86 ?_
            refine lv_ldc2 (v := 4503599627370496) hx hb hown k_240 dX7_bitsOf_87 ?_
            refine lv_lsub hx hb dX7_bitsOf_90 ?_
            refine lv_lor hx hb dX7_bitsOf_91 ?_
            exact W.lret hx hb hr (zEl () (by
                have hF := bitsFin hv9 k1 k2 k3 hj9 hinv29.1
                have hsg : sg = false := by
                  cases sg with
                  | false => rfl
                  | true => rw [hd9] at c65; exact absurd c65 (by decide)
                rw [hsg] at hF
                exact hF) hP hD hS) hS.2.2 dX7_bitsOf_92
          · refine lv_ldc2 (v := (-9223372036854775808)) hx hb hown k_238 dX7_bitsOf_68 ?_
            refine lv_goto (tgt := 75) hx hb dX7_bitsOf_71 (by decide) ?_
            refine lv_lstore (lv' := [(6, .long (-9223372036854775808)), (4, .long (lN (1075 - j))), (2, .double y9), (0, .double x)]) hx hb dX7_bitsOf_75 hl (by decide) rfl (fun ls hl => ?_)
            refine lv_lload hx hb dX7_bitsOf_77 (lv_at hl 0 rfl) ?_
            refine lv_lload hx hb dX7_bitsOf_79 (lv_at hl 1 rfl) ?_
            refine lv_bipush (v := 52) hx hb dX7_bitsOf_81 (by decide) ?_
            refine lv_lshl (v := zShl (lN (1075 - j)) 52) hx hb dX7_bitsOf_83 rfl ?_
            refine lv_lor hx hb dX7_bitsOf_84 ?_
            refine lv_dload_n hx hb dX7_bitsOf_85 rfl (lv_at hl 2 rfl) ?_
            refine lv_d2l hx hb dX7_bitsOf_86 ?_
            refine lv_ldc2 (v := 4503599627370496) hx hb hown k_240 dX7_bitsOf_87 ?_
            refine lv_lsub hx hb dX7_bitsOf_90 ?_
            refine lv_lor hx hb dX7_bitsOf_91 ?_
            exact W.lret hx hb hr (zEl () (by
                have hF := bitsFin hv9 k1 k2 k3 hj9 hinv29.1
                have hsg : sg = true := by
                  cases sg with
                  | true => rfl
                  | false => rw [hd9] at c65; exact absurd (by decide) c65
                rw [hsg] at hF
                exact hF) hP hD hS) hS.2.2 dX7_bitsOf_92
        · have hl9 : q9 + (j : Nat) < 0 := (dcB hinv29.1 k1 k2 hinv29.2.1).mp (Int32.not_le.mp c41)
          refine lv_dload_n hx hb dX7_bitsOf_44 rfl (lv_at hl 2 rfl) ?_
          refine lv_ldc2d (v := 4611686018427387904) hx hb hown k_236 dX7_bitsOf_45 ?_
          refine lv_dmul hx hb dX7_bitsOf_48 (vN64 (dm2 hinv29.1 k1 k2 hl9 (by omega))) ?_
          refine lv_dstore_n (lv' := [(2, .double (FP.dmul y9 4611686018427387904)), (6, .int (nI j)), (4, .long (lN (1075 - j))), (0, .double x)]) hx hb dX7_bitsOf_49 rfl hl (by decide) rfl (fun ls hl => ?_)
          refine lv_lload hx hb dX7_bitsOf_50 (lv_at hl 2 rfl) ?_
          refine lv_lconst (v := 1) hx hb dX7_bitsOf_52 (by decide) ?_
          refine lv_lsub hx hb dX7_bitsOf_53 ?_
          refine lv_lstore (lv' := [(4, .long ((lN (1075 - j)) - 1)), (2, .double (FP.dmul y9 4611686018427387904)), (6, .int (nI j)), (0, .double x)]) hx hb dX7_bitsOf_54 hl (by decide) rfl (fun ls hl => ?_)
          refine lv_iinc (v := (nI (j + 1))) (lv' := [(6, .int (nI (j + 1))), (4, .long ((lN (1075 - j)) - 1)), (2, .double (FP.dmul y9 4611686018427387904)), (0, .double x)]) hx hb dX7_bitsOf_56 hl (k := 2) rfl (nI_succ j).symm (by decide) rfl (fun ls hl => ?_)
          refine lv_goto (tgt := 29) hx hb dX7_bitsOf_59 (by decide) ?_
          rw [show lN (1075 - j) - 1 = lN (1075 - (j + 1)) from lN_sub (a := 1075 - j) (b := 1) (by omega)] at hl
          exact ih29 ((j + 1), (FP.dmul y9 4611686018427387904)) (by
              try dsimp only
              refine ⟨?_, by omega, by omega⟩
              rw [dm2 hinv29.1 k1 k2 hl9 (by omega)]
              congr 1
              omega) (by
              try dsimp only
              omega) _ _ _ hP hD hS (lv_sub hl [0, 1, 2, 3] rfl)
    · refine lv_dload_n hx hb dX7_bitsOf_14 rfl (lv_at hl 0 rfl) ?_
      refine lv_dneg hx hb dX7_bitsOf_15 ?_
      refine lv_goto (tgt := 20) hx hb dX7_bitsOf_16 (by decide) ?_
      refine lv_dstore_n (lv' := [(2, .double (FP.dneg x)), (0, .double x)]) hx hb dX7_bitsOf_20 rfl hl (by decide) rfl (fun ls hl => ?_)
      refine lv_ldc2 (v := 1075) hx hb hown k_232 dX7_bitsOf_21 ?_
      refine lv_lstore (lv' := [(4, .long 1075), (2, .double (FP.dneg x)), (0, .double x)]) hx hb dX7_bitsOf_24 hl (by decide) rfl (fun ls hl => ?_)
      refine lv_iconst (v := 0) hx hb dX7_bitsOf_26 (by decide) ?_
      refine lv_istore (lv' := [(6, .int 0), (4, .long 1075), (2, .double (FP.dneg x)), (0, .double x)]) hx hb dX7_bitsOf_27 hl (by decide) rfl (fun ls hl => ?_)
      refine zLoop (σ := Nat × UInt64) (nL := 8) (fun zx => []) (fun zx => [(6, .int (nI zx.1)), (4, .long (lN (1075 - zx.1))), (2, .double zx.2), (0, .double x)]) (fun zx => Jvm.FP.Core.val64 zx.2 = .fin false c9 (q9 + (zx.1 : Nat)) ∧ q9 + (zx.1 : Nat) ≤ 0 ∧ zx.1 ≤ 64) (fun zx => (-(q9 + (zx.1 : Nat))).toNat) ?_ (0, (FP.dneg x)) (by
          try dsimp only
          refine ⟨?_, by omega⟩
          have hsg : sg = true := by
            cases sg with
            | true => rfl
            | false => rw [hd9] at c11; exact absurd (by decide) c11
          subst hsg
          rw [Jvm.FP.val64_dneg, hv9]
          show Jvm.FP.Core.Datum.fin false c9 q9 = _
          congr 1
          omega) hP hD hS (lv_sub hl [0, 1, 2, 3] rfl)
      intro zx hinv29 ih29 H locs ls hP hD hS hl
      obtain ⟨j, y9⟩ := zx
      try dsimp only at hinv29 ih29
      have hP : va_P G vwCl ([]) H := hP
      have hD : va_D A ([]) := hD
      have hl : lv_has ls 8 [(6, .int (nI j)), (4, .long (lN (1075 - j))), (2, .double y9), (0, .double x)] := hl
      refine lv_iload hx hb dX7_bitsOf_29 (lv_at hl 0 rfl) ?_
      refine lv_bipush (v := 64) hx hb dX7_bitsOf_31 (by decide) ?_
      refine lv_icmp_ge (tgt := 62) hx hb dX7_bitsOf_33 (by decide) (fun c33 => ?_) (fun c33 => ?_)
      · have hj9 : q9 + (j : Nat) = 0 := by
          have h1 := hinv29.2.1
          have h2 := zLe (a := 64) c33 (by omega) (by omega)
          omega
        refine lv_dload_n hx hb dX7_bitsOf_62 rfl (lv_at hl 3 rfl) ?_
        refine lv_dconst0 hx hb dX7_bitsOf_63 ?_
        refine lv_dcmp hx hb dX7_bitsOf_64 ?_
        refine lv_if_ge (tgt := 74) hx hb dX7_bitsOf_65 (by decide) (fun c65 => ?_) (fun c65 => ?_)
        · refine lv_lconst (v := 0) hx hb dX7_bitsOf_74 (by decide) ?_
          refine lv_lstore (lv' := [(6, .long 0), (4, .long (lN (1075 - j))), (2, .double y9), (0, .double x)]) hx hb dX7_bitsOf_75 hl (by decide) rfl (fun ls hl => ?_)
          refine lv_lload hx hb dX7_bitsOf_77 (lv_at hl 0 rfl) ?_
          refine lv_lload hx hb dX7_bitsOf_79 (lv_at hl 1 rfl) ?_
          refine lv_bipush (v := 52) hx hb dX7_bitsOf_81 (by decide) ?_
          refine lv_lshl (v := zShl (lN (1075 - j)) 52) hx hb dX7_bitsOf_83 rfl ?_
          refine lv_lor hx hb dX7_bitsOf_84 ?_
          refine lv_dload_n hx hb dX7_bitsOf_85 rfl (lv_at hl 2 rfl) ?_
          refine lv_d2l hx hb dX7_bitsOf_86 ?_
          refine lv_ldc2 (v := 4503599627370496) hx hb hown k_240 dX7_bitsOf_87 ?_
          refine lv_lsub hx hb dX7_bitsOf_90 ?_
          refine lv_lor hx hb dX7_bitsOf_91 ?_
          exact W.lret hx hb hr (zEl () (by
              have hF := bitsFin hv9 k1 k2 k3 hj9 hinv29.1
              have hsg : sg = false := by
                cases sg with
                | false => rfl
                | true => rw [hd9] at c65; exact absurd c65 (by decide)
              rw [hsg] at hF
              exact hF) hP hD hS) hS.2.2 dX7_bitsOf_92
        · refine lv_ldc2 (v := (-9223372036854775808)) hx hb hown k_238 dX7_bitsOf_68 ?_
          refine lv_goto (tgt := 75) hx hb dX7_bitsOf_71 (by decide) ?_
          refine lv_lstore (lv' := [(6, .long (-9223372036854775808)), (4, .long (lN (1075 - j))), (2, .double y9), (0, .double x)]) hx hb dX7_bitsOf_75 hl (by decide) rfl (fun ls hl => ?_)
          refine lv_lload hx hb dX7_bitsOf_77 (lv_at hl 0 rfl) ?_
          refine lv_lload hx hb dX7_bitsOf_79 (lv_at hl 1 rfl) ?_
          refine lv_bipush (v := 52) hx hb dX7_bitsOf_81 (by decide) ?_
          refine lv_lshl (v := zShl (lN (1075 - j)) 52) hx hb dX7_bitsOf_83 rfl ?_
          refine lv_lor hx hb dX7_bitsOf_84 ?_
          refine lv_dload_n hx hb dX7_bitsOf_85 rfl (lv_at hl 2 rfl) ?_
          refine lv_d2l hx hb dX7_bitsOf_86 ?_
          refine lv_ldc2 (v := 4503599627370496) hx hb hown k_240 dX7_bitsOf_87 ?_
          refine lv_lsub hx hb dX7_bitsOf_90 ?_
          refine lv_lor hx hb dX7_bitsOf_91 ?_
          exact W.lret hx hb hr (zEl () (by
              have hF := bitsFin hv9 k1 k2 k3 hj9 hinv29.1
              have hsg : sg = true := by
                cases sg with
                | true => rfl
                | false => rw [hd9] at c65; exact absurd (by decide) c65
              rw [hsg] at hF
              exact hF) hP hD hS) hS.2.2 dX7_bitsOf_92
      · refine lv_dload_n hx hb dX7_bitsOf_36 rfl (lv_at hl 2 rfl) ?_
        refine lv_ldc2d (v := 4841369599423283200) hx hb hown k_234 dX7_bitsOf_37 ?_
        refine lv_dcmp hx hb dX7_bitsOf_40 ?_
        refine lv_if_ge (tgt := 62) hx hb dX7_bitsOf_41 (by decide) (fun c41 => ?_) (fun c41 => ?_)
        · have hj9 : q9 + (j : Nat) = 0 := by
            have h1 := hinv29.2.1
            have h2 := mt (dcB hinv29.1 k1 k2 h1).mpr (Int32.not_lt.mpr c41)
            omega
          refine lv_dload_n hx hb dX7_bitsOf_62 rfl (lv_at hl 3 rfl) ?_
          refine lv_dconst0 hx hb dX7_bitsOf_63 ?_
          refine lv_dcmp hx hb dX7_bitsOf_64 ?_
          refine lv_if_ge (tgt := 74) hx hb dX7_bitsOf_65 (by decide) (fun c65 => ?_) (fun c65 => ?_)
          · refine lv_lconst (v := 0) hx hb dX7_bitsOf_74 (by decide) ?_
            refine lv_lstore (lv' := [(6, .long 0), (4, .long (lN (1075 - j))), (2, .double y9), (0, .double x)]) hx hb dX7_bitsOf_75 hl (by decide) rfl (fun ls hl => ?_)
            refine lv_lload hx hb dX7_bitsOf_77 (lv_at hl 0 rfl) ?_
            refine lv_lload hx hb dX7_bitsOf_79 (lv_at hl 1 rfl) ?_
            refine lv_bipush (v := 52) hx hb dX7_bitsOf_81 (by decide) ?_
            refine lv_lshl (v := zShl (lN (1075 - j)) 52) hx hb dX7_bitsOf_83 rfl ?_
            refine lv_lor hx hb dX7_bitsOf_84 ?_
            refine lv_dload_n hx hb dX7_bitsOf_85 rfl (lv_at hl 2 rfl) ?_
            refine lv_d2l hx hb dX7_bitsOf_86 ?_
            refine lv_ldc2 (v := 4503599627370496) hx hb hown k_240 dX7_bitsOf_87 ?_
            refine lv_lsub hx hb dX7_bitsOf_90 ?_
            refine lv_lor hx hb dX7_bitsOf_91 ?_
            exact W.lret hx hb hr (zEl () (by
                have hF := bitsFin hv9 k1 k2 k3 hj9 hinv29.1
                have hsg : sg = false := by
                  cases sg with
                  | false => rfl
                  | true => rw [hd9] at c65; exact absurd c65 (by decide)
                rw [hsg] at hF
                exact hF) hP hD hS) hS.2.2 dX7_bitsOf_92
          · refine lv_ldc2 (v := (-9223372036854775808)) hx hb hown k_238 dX7_bitsOf_68 ?_
            refine lv_goto (tgt := 75) hx hb dX7_bitsOf_71 (by decide) ?_
            refine lv_lstore (lv' := [(6, .long (-9223372036854775808)), (4, .long (lN (1075 - j))), (2, .double y9), (0, .double x)]) hx hb dX7_bitsOf_75 hl (by decide) rfl (fun ls hl => ?_)
            refine lv_lload hx hb dX7_bitsOf_77 (lv_at hl 0 rfl) ?_
            refine lv_lload hx hb dX7_bitsOf_79 (lv_at hl 1 rfl) ?_
            refine lv_bipush (v := 52) hx hb dX7_bitsOf_81 (by decide) ?_
            refine lv_lshl (v := zShl (lN (1075 - j)) 52) hx hb dX7_bitsOf_83 rfl ?_
            refine lv_lor hx hb dX7_bitsOf_84 ?_
            refine lv_dload_n hx hb dX7_bitsOf_85 rfl (lv_at hl 2 rfl) ?_
            refine lv_d2l hx hb dX7_bitsOf_86 ?_
            refine lv_ldc2 (v := 4503599627370496) hx hb hown k_240 dX7_bitsOf_87 ?_
            refine lv_lsub hx hb dX7_bitsOf_90 ?_
            refine lv_lor hx hb dX7_bitsOf_91 ?_
            exact W.lret hx hb hr (zEl () (by
                have hF := bitsFin hv9 k1 k2 k3 hj9 hinv29.1
                have hsg : sg = true := by
                  cases sg with
                  | true => rfl
                  | false => rw [hd9] at c65; exact absurd (by decide) c65
                rw [hsg] at hF
                exact hF) hP hD hS) hS.2.2 dX7_bitsOf_92
        · have hl9 : q9 + (j : Nat) < 0 := (dcB hinv29.1 k1 k2 hinv29.2.1).mp (Int32.not_le.mp c41)
          refine lv_dload_n hx hb dX7_bitsOf_44 rfl (lv_at hl 2 rfl) ?_
          refine lv_ldc2d (v := 4611686018427387904) hx hb hown k_236 dX7_bitsOf_45 ?_
          refine lv_dmul hx hb dX7_bitsOf_48 (vN64 (dm2 hinv29.1 k1 k2 hl9 (by omega))) ?_
          refine lv_dstore_n (lv' := [(2, .double (FP.dmul y9 4611686018427387904)), (6, .int (nI j)), (4, .long (lN (1075 - j))), (0, .double x)]) hx hb dX7_bitsOf_49 rfl hl (by decide) rfl (fun ls hl => ?_)
          refine lv_lload hx hb dX7_bitsOf_50 (lv_at hl 2 rfl) ?_
          refine lv_lconst (v := 1) hx hb dX7_bitsOf_52 (by decide) ?_
          refine lv_lsub hx hb dX7_bitsOf_53 ?_
          refine lv_lstore (lv' := [(4, .long ((lN (1075 - j)) - 1)), (2, .double (FP.dmul y9 4611686018427387904)), (6, .int (nI j)), (0, .double x)]) hx hb dX7_bitsOf_54 hl (by decide) rfl (fun ls hl => ?_)
          refine lv_iinc (v := (nI (j + 1))) (lv' := [(6, .int (nI (j + 1))), (4, .long ((lN (1075 - j)) - 1)), (2, .double (FP.dmul y9 4611686018427387904)), (0, .double x)]) hx hb dX7_bitsOf_56 hl (k := 2) rfl (nI_succ j).symm (by decide) rfl (fun ls hl => ?_)
          refine lv_goto (tgt := 29) hx hb dX7_bitsOf_59 (by decide) ?_
          rw [show lN (1075 - j) - 1 = lN (1075 - (j + 1)) from lN_sub (a := 1075 - j) (b := 1) (by omega)] at hl
          exact ih29 ((j + 1), (FP.dmul y9 4611686018427387904)) (by
              try dsimp only
              refine ⟨?_, by omega, by omega⟩
              rw [dm2 hinv29.1 k1 k2 hl9 (by omega)]
              congr 1
              omega) (by
              try dsimp only
              omega) _ _ _ hP hD hS (lv_sub hl [0, 1, 2, 3] rfl)
  · refine lv_lconst (v := 0) hx hb dX7_bitsOf_6 (by decide) ?_
    exact W.lret hx hb hr (zEl () (by
        rcases hx9 with e | ⟨s9, c9, q9, h1, h2, h3, h4, h5⟩
        · rw [e]; decide
        · exfalso
          rw [dc0 h1 (by omega)] at c3
          revert c3
          cases s9 <;> decide) hP hD hS) hS.2.2 dX7_bitsOf_7
