section
-- ===== PART A: goes FIRST, ahead of the names: the tables' words, and 'selects' of the private methods out of them =====
/-- a private method of a class that the tables say can be made, by its rows of tables_1 -/
def lw_okq (q : MethodName × Nat) : Prop := (q.1.cls ≠ "java/lang/invoke/MethodHandle" ∧ q.1.cls ≠ "java/lang/invoke/VarHandle") ∧ Cond.instantiable q.1.cls q.2 ∈ tables_1 ∧ Cond.privateMethod q.1 ∈ tables_1 ∧ Cond.instanceMethod q.1 ∈ tables_1
theorem lw_p0 : lw_okq (⟨"WarmRods$Clock", "goHour", "(III)V"⟩, 7) := ⟨⟨by decide +kernel, by decide +kernel⟩, List.mem_of_getElem? (i := 22) (by decide +kernel), List.mem_of_getElem? (i := 266) (by decide +kernel), List.mem_of_getElem? (i := 267) (by decide +kernel)⟩
theorem lw_p1 : lw_okq (⟨"WarmRods$Log", "placeOf", "(II)I"⟩, 2) := ⟨⟨by decide +kernel, by decide +kernel⟩, List.mem_of_getElem? (i := 45) (by decide +kernel), List.mem_of_getElem? (i := 294) (by decide +kernel), List.mem_of_getElem? (i := 295) (by decide +kernel)⟩
theorem lw_p2 : lw_okq (⟨"WarmRods$Clock", "correct", "()V"⟩, 7) := ⟨⟨by decide +kernel, by decide +kernel⟩, List.mem_of_getElem? (i := 22) (by decide +kernel), List.mem_of_getElem? (i := 298) (by decide +kernel), List.mem_of_getElem? (i := 299) (by decide +kernel)⟩
theorem lw_p3 : lw_okq (⟨"WarmRods$Reader", "readHours", "()Z"⟩, 8) := ⟨⟨by decide +kernel, by decide +kernel⟩, List.mem_of_getElem? (i := 119) (by decide +kernel), List.mem_of_getElem? (i := 442) (by decide +kernel), List.mem_of_getElem? (i := 443) (by decide +kernel)⟩
theorem lw_p4 : lw_okq (⟨"WarmRods$Reader", "readValue", "()Z"⟩, 8) := ⟨⟨by decide +kernel, by decide +kernel⟩, List.mem_of_getElem? (i := 119) (by decide +kernel), List.mem_of_getElem? (i := 446) (by decide +kernel), List.mem_of_getElem? (i := 447) (by decide +kernel)⟩
theorem lw_p5 : lw_okq (⟨"WarmRods$Reader", "readNumber", "()Z"⟩, 8) := ⟨⟨by decide +kernel, by decide +kernel⟩, List.mem_of_getElem? (i := 119) (by decide +kernel), List.mem_of_getElem? (i := 454) (by decide +kernel), List.mem_of_getElem? (i := 455) (by decide +kernel)⟩
theorem lw_p6 : lw_okq (⟨"WarmRods$Reader", "readWeight", "()Z"⟩, 8) := ⟨⟨by decide +kernel, by decide +kernel⟩, List.mem_of_getElem? (i := 119) (by decide +kernel), List.mem_of_getElem? (i := 461) (by decide +kernel), List.mem_of_getElem? (i := 462) (by decide +kernel)⟩
theorem lw_p7 : lw_okq (⟨"WarmRods", "carryOutOrder", "()Z"⟩, 6) := ⟨⟨by decide +kernel, by decide +kernel⟩, List.mem_of_getElem? (i := 14) (by decide +kernel), List.mem_of_getElem? (i := 471) (by decide +kernel), List.mem_of_getElem? (i := 472) (by decide +kernel)⟩
theorem lw_p8 : lw_okq (⟨"WarmRodsModel", "keep", "()V"⟩, 14) := ⟨⟨by decide +kernel, by decide +kernel⟩, List.mem_of_getElem? (i := 493) (by decide +kernel), List.mem_of_getElem? (i := 546) (by decide +kernel), List.mem_of_getElem? (i := 547) (by decide +kernel)⟩
theorem lw_p9 : lw_okq (⟨"WarmRodsModel", "doSet", "(II)I"⟩, 14) := ⟨⟨by decide +kernel, by decide +kernel⟩, List.mem_of_getElem? (i := 493) (by decide +kernel), List.mem_of_getElem? (i := 550) (by decide +kernel), List.mem_of_getElem? (i := 551) (by decide +kernel)⟩
theorem lw_p10 : lw_okq (⟨"WarmRodsModel", "changed", "(I)I"⟩, 14) := ⟨⟨by decide +kernel, by decide +kernel⟩, List.mem_of_getElem? (i := 493) (by decide +kernel), List.mem_of_getElem? (i := 564) (by decide +kernel), List.mem_of_getElem? (i := 565) (by decide +kernel)⟩
theorem lw_p11 : lw_okq (⟨"WarmRodsModel", "doWeight", "(I)I"⟩, 14) := ⟨⟨by decide +kernel, by decide +kernel⟩, List.mem_of_getElem? (i := 493) (by decide +kernel), List.mem_of_getElem? (i := 572) (by decide +kernel), List.mem_of_getElem? (i := 573) (by decide +kernel)⟩
theorem lw_p12 : lw_okq (⟨"WarmRodsModel", "doPass", "(IIII)I"⟩, 14) := ⟨⟨by decide +kernel, by decide +kernel⟩, List.mem_of_getElem? (i := 493) (by decide +kernel), List.mem_of_getElem? (i := 581) (by decide +kernel), List.mem_of_getElem? (i := 582) (by decide +kernel)⟩
theorem lw_p13 : lw_okq (⟨"WarmRodsModel", "passes", "(III)Z"⟩, 14) := ⟨⟨by decide +kernel, by decide +kernel⟩, List.mem_of_getElem? (i := 493) (by decide +kernel), List.mem_of_getElem? (i := 595) (by decide +kernel), List.mem_of_getElem? (i := 596) (by decide +kernel)⟩
theorem lw_p14 : lw_okq (⟨"WarmRodsModel", "rateNow", "(II)I"⟩, 14) := ⟨⟨by decide +kernel, by decide +kernel⟩, List.mem_of_getElem? (i := 493) (by decide +kernel), List.mem_of_getElem? (i := 599) (by decide +kernel), List.mem_of_getElem? (i := 600) (by decide +kernel)⟩
theorem lw_p15 : lw_okq (⟨"WarmRodsModel", "rateWith", "(III)I"⟩, 14) := ⟨⟨by decide +kernel, by decide +kernel⟩, List.mem_of_getElem? (i := 493) (by decide +kernel), List.mem_of_getElem? (i := 603) (by decide +kernel), List.mem_of_getElem? (i := 604) (by decide +kernel)⟩
def lw_privs_1 : List (MethodName × Nat) := [(⟨"WarmRods$Clock", "goHour", "(III)V"⟩, 7), (⟨"WarmRods$Log", "placeOf", "(II)I"⟩, 2), (⟨"WarmRods$Clock", "correct", "()V"⟩, 7), (⟨"WarmRods$Reader", "readHours", "()Z"⟩, 8), (⟨"WarmRods$Reader", "readValue", "()Z"⟩, 8), (⟨"WarmRods$Reader", "readNumber", "()Z"⟩, 8), (⟨"WarmRods$Reader", "readWeight", "()Z"⟩, 8), (⟨"WarmRods", "carryOutOrder", "()Z"⟩, 6), (⟨"WarmRodsModel", "keep", "()V"⟩, 14), (⟨"WarmRodsModel", "doSet", "(II)I"⟩, 14), (⟨"WarmRodsModel", "changed", "(I)I"⟩, 14), (⟨"WarmRodsModel", "doWeight", "(I)I"⟩, 14), (⟨"WarmRodsModel", "doPass", "(IIII)I"⟩, 14), (⟨"WarmRodsModel", "passes", "(III)Z"⟩, 14), (⟨"WarmRodsModel", "rateNow", "(II)I"⟩, 14), (⟨"WarmRodsModel", "rateWith", "(III)I"⟩, 14)]
theorem lw_r1 : ∀ q ∈ lw_privs_1, lw_okq q := List.forall_mem_cons.mpr ⟨lw_p0, List.forall_mem_cons.mpr ⟨lw_p1, List.forall_mem_cons.mpr ⟨lw_p2, List.forall_mem_cons.mpr ⟨lw_p3, List.forall_mem_cons.mpr ⟨lw_p4, List.forall_mem_cons.mpr ⟨lw_p5, List.forall_mem_cons.mpr ⟨lw_p6, List.forall_mem_cons.mpr ⟨lw_p7, List.forall_mem_cons.mpr ⟨lw_p8, List.forall_mem_cons.mpr ⟨lw_p9, List.forall_mem_cons.mpr ⟨lw_p10, List.forall_mem_cons.mpr ⟨lw_p11, List.forall_mem_cons.mpr ⟨lw_p12, List.forall_mem_cons.mpr ⟨lw_p13, List.forall_mem_cons.mpr ⟨lw_p14, List.forall_mem_cons.mpr ⟨lw_p15, fun _ h => absurd h List.not_mem_nil⟩⟩⟩⟩⟩⟩⟩⟩⟩⟩⟩⟩⟩⟩⟩⟩
theorem lw_p16 : lw_okq (⟨"WarmRodsModel", "goes", "(I)V"⟩, 14) := ⟨⟨by decide +kernel, by decide +kernel⟩, List.mem_of_getElem? (i := 493) (by decide +kernel), List.mem_of_getElem? (i := 607) (by decide +kernel), List.mem_of_getElem? (i := 608) (by decide +kernel)⟩
theorem lw_p17 : lw_okq (⟨"WarmRodsModel", "isTooFar", "()Z"⟩, 14) := ⟨⟨by decide +kernel, by decide +kernel⟩, List.mem_of_getElem? (i := 493) (by decide +kernel), List.mem_of_getElem? (i := 611) (by decide +kernel), List.mem_of_getElem? (i := 612) (by decide +kernel)⟩
theorem lw_p18 : lw_okq (⟨"WarmRodsModel", "corrects", "()V"⟩, 14) := ⟨⟨by decide +kernel, by decide +kernel⟩, List.mem_of_getElem? (i := 493) (by decide +kernel), List.mem_of_getElem? (i := 615) (by decide +kernel), List.mem_of_getElem? (i := 616) (by decide +kernel)⟩
theorem lw_p19 : lw_okq (⟨"WarmRodsModel", "lightest", "(I)I"⟩, 14) := ⟨⟨by decide +kernel, by decide +kernel⟩, List.mem_of_getElem? (i := 493) (by decide +kernel), List.mem_of_getElem? (i := 619) (by decide +kernel), List.mem_of_getElem? (i := 620) (by decide +kernel)⟩
theorem lw_p20 : lw_okq (⟨"WarmRodsModel", "doZero", "()I"⟩, 14) := ⟨⟨by decide +kernel, by decide +kernel⟩, List.mem_of_getElem? (i := 493) (by decide +kernel), List.mem_of_getElem? (i := 627) (by decide +kernel), List.mem_of_getElem? (i := 628) (by decide +kernel)⟩
theorem lw_p21 : lw_okq (⟨"WarmRodsModel", "of", "(II)I"⟩, 14) := ⟨⟨by decide +kernel, by decide +kernel⟩, List.mem_of_getElem? (i := 493) (by decide +kernel), List.mem_of_getElem? (i := 637) (by decide +kernel), List.mem_of_getElem? (i := 638) (by decide +kernel)⟩
theorem lw_p22 : lw_okq (⟨"WarmRodsModel", "greatest", "()I"⟩, 14) := ⟨⟨by decide +kernel, by decide +kernel⟩, List.mem_of_getElem? (i := 493) (by decide +kernel), List.mem_of_getElem? (i := 665) (by decide +kernel), List.mem_of_getElem? (i := 666) (by decide +kernel)⟩
theorem lw_p23 : lw_okq (⟨"WarmRodsModel", "least", "()I"⟩, 14) := ⟨⟨by decide +kernel, by decide +kernel⟩, List.mem_of_getElem? (i := 493) (by decide +kernel), List.mem_of_getElem? (i := 669) (by decide +kernel), List.mem_of_getElem? (i := 670) (by decide +kernel)⟩
theorem lw_p24 : lw_okq (⟨"WarmRodsModel", "fastHours", "()I"⟩, 14) := ⟨⟨by decide +kernel, by decide +kernel⟩, List.mem_of_getElem? (i := 493) (by decide +kernel), List.mem_of_getElem? (i := 673) (by decide +kernel), List.mem_of_getElem? (i := 674) (by decide +kernel)⟩
theorem lw_p25 : lw_okq (⟨"WarmRodsModel", "setHours", "()I"⟩, 14) := ⟨⟨by decide +kernel, by decide +kernel⟩, List.mem_of_getElem? (i := 493) (by decide +kernel), List.mem_of_getElem? (i := 677) (by decide +kernel), List.mem_of_getElem? (i := 678) (by decide +kernel)⟩
theorem lw_p26 : lw_okq (⟨"WarmRodsModel", "changes", "()I"⟩, 14) := ⟨⟨by decide +kernel, by decide +kernel⟩, List.mem_of_getElem? (i := 493) (by decide +kernel), List.mem_of_getElem? (i := 681) (by decide +kernel), List.mem_of_getElem? (i := 682) (by decide +kernel)⟩
theorem lw_p27 : lw_okq (⟨"WarmRodsModel", "readsOrder", "()Z"⟩, 14) := ⟨⟨by decide +kernel, by decide +kernel⟩, List.mem_of_getElem? (i := 493) (by decide +kernel), List.mem_of_getElem? (i := 723) (by decide +kernel), List.mem_of_getElem? (i := 724) (by decide +kernel)⟩
theorem lw_p28 : lw_okq (⟨"WarmRodsModel", "takes", "(I)Z"⟩, 14) := ⟨⟨by decide +kernel, by decide +kernel⟩, List.mem_of_getElem? (i := 493) (by decide +kernel), List.mem_of_getElem? (i := 727) (by decide +kernel), List.mem_of_getElem? (i := 728) (by decide +kernel)⟩
theorem lw_p29 : lw_okq (⟨"WarmRodsModel", "isHere", "(II)Z"⟩, 14) := ⟨⟨by decide +kernel, by decide +kernel⟩, List.mem_of_getElem? (i := 493) (by decide +kernel), List.mem_of_getElem? (i := 731) (by decide +kernel), List.mem_of_getElem? (i := 732) (by decide +kernel)⟩
theorem lw_p30 : lw_okq (⟨"WarmRodsModel", "does", "(I)V"⟩, 14) := ⟨⟨by decide +kernel, by decide +kernel⟩, List.mem_of_getElem? (i := 493) (by decide +kernel), List.mem_of_getElem? (i := 735) (by decide +kernel), List.mem_of_getElem? (i := 736) (by decide +kernel)⟩
theorem lw_p31 : lw_okq (⟨"WarmRodsModel", "readsValue", "()Z"⟩, 14) := ⟨⟨by decide +kernel, by decide +kernel⟩, List.mem_of_getElem? (i := 493) (by decide +kernel), List.mem_of_getElem? (i := 739) (by decide +kernel), List.mem_of_getElem? (i := 740) (by decide +kernel)⟩
def lw_privs_2 : List (MethodName × Nat) := [(⟨"WarmRodsModel", "goes", "(I)V"⟩, 14), (⟨"WarmRodsModel", "isTooFar", "()Z"⟩, 14), (⟨"WarmRodsModel", "corrects", "()V"⟩, 14), (⟨"WarmRodsModel", "lightest", "(I)I"⟩, 14), (⟨"WarmRodsModel", "doZero", "()I"⟩, 14), (⟨"WarmRodsModel", "of", "(II)I"⟩, 14), (⟨"WarmRodsModel", "greatest", "()I"⟩, 14), (⟨"WarmRodsModel", "least", "()I"⟩, 14), (⟨"WarmRodsModel", "fastHours", "()I"⟩, 14), (⟨"WarmRodsModel", "setHours", "()I"⟩, 14), (⟨"WarmRodsModel", "changes", "()I"⟩, 14), (⟨"WarmRodsModel", "readsOrder", "()Z"⟩, 14), (⟨"WarmRodsModel", "takes", "(I)Z"⟩, 14), (⟨"WarmRodsModel", "isHere", "(II)Z"⟩, 14), (⟨"WarmRodsModel", "does", "(I)V"⟩, 14), (⟨"WarmRodsModel", "readsValue", "()Z"⟩, 14)]
theorem lw_r2 : ∀ q ∈ lw_privs_2, lw_okq q := List.forall_mem_cons.mpr ⟨lw_p16, List.forall_mem_cons.mpr ⟨lw_p17, List.forall_mem_cons.mpr ⟨lw_p18, List.forall_mem_cons.mpr ⟨lw_p19, List.forall_mem_cons.mpr ⟨lw_p20, List.forall_mem_cons.mpr ⟨lw_p21, List.forall_mem_cons.mpr ⟨lw_p22, List.forall_mem_cons.mpr ⟨lw_p23, List.forall_mem_cons.mpr ⟨lw_p24, List.forall_mem_cons.mpr ⟨lw_p25, List.forall_mem_cons.mpr ⟨lw_p26, List.forall_mem_cons.mpr ⟨lw_p27, List.forall_mem_cons.mpr ⟨lw_p28, List.forall_mem_cons.mpr ⟨lw_p29, List.forall_mem_cons.mpr ⟨lw_p30, List.forall_mem_cons.mpr ⟨lw_p31, fun _ h => absurd h List.not_mem_nil⟩⟩⟩⟩⟩⟩⟩⟩⟩⟩⟩⟩⟩⟩⟩⟩
theorem lw_p32 : lw_okq (⟨"WarmRodsModel", "readsNumber", "()Z"⟩, 14) := ⟨⟨by decide +kernel, by decide +kernel⟩, List.mem_of_getElem? (i := 493) (by decide +kernel), List.mem_of_getElem? (i := 743) (by decide +kernel), List.mem_of_getElem? (i := 744) (by decide +kernel)⟩
theorem lw_p33 : lw_okq (⟨"WarmRodsModel", "readsHours", "()Z"⟩, 14) := ⟨⟨by decide +kernel, by decide +kernel⟩, List.mem_of_getElem? (i := 493) (by decide +kernel), List.mem_of_getElem? (i := 747) (by decide +kernel), List.mem_of_getElem? (i := 748) (by decide +kernel)⟩
def lw_privs_3 : List (MethodName × Nat) := [(⟨"WarmRodsModel", "readsNumber", "()Z"⟩, 14), (⟨"WarmRodsModel", "readsHours", "()Z"⟩, 14)]
theorem lw_r3 : ∀ q ∈ lw_privs_3, lw_okq q := List.forall_mem_cons.mpr ⟨lw_p32, List.forall_mem_cons.mpr ⟨lw_p33, fun _ h => absurd h List.not_mem_nil⟩⟩
def lw_privs : List (MethodName × Nat) := lw_privs_1 ++ (lw_privs_2 ++ (lw_privs_3))
def lw_tbl : List Cond := k2_sels lw_privs ++ tables_1
theorem lw_privs_ok : ∀ q ∈ lw_privs, lw_okq q := by
  show ∀ q ∈ lw_privs_1 ++ (lw_privs_2 ++ (lw_privs_3)), lw_okq q
  exact List.forall_mem_append.mpr ⟨lw_r1, List.forall_mem_append.mpr ⟨lw_r2, lw_r3⟩⟩
/-- the streams that the claim lets the run draw from -/
abbrev lw_cs : List Choice := [Jvm.Choice.named "NaN.bits"]
theorem lw_bits : nanBits ∈ lw_cs := by first | decide | exact List.mem_cons_self | simp [lw_cs, nanBits]
end
section
/-! ===== BEGIN words of one list among another's, by their places ===== -/
theorem goodIn_r {big : List Cond} (ws : List Cond) (ps : List Nat) (hp : ws = ps.filterMap (fun i => big[i]?)) (h : ws.all goodWord = true) : GoodIn big ws := by
  intro w hw
  have h1 := List.all_eq_true.mp h w hw
  rw [hp] at hw
  obtain ⟨i, -, hi⟩ := List.mem_filterMap.mp hw
  have hm : w ∈ big := by first | exact List.mem_of_getElem? hi | exact List.getElem?_mem hi
  exact ⟨hm, good_of_word h1⟩
theorem goodIn_app {big a b : List Cond} (ha : GoodIn big a) (hb : GoodIn big b) : GoodIn big (a ++ b) := fun w h => (List.mem_append.mp h).elim (ha w) (hb w)
theorem goodIn_ca {big a b : List Cond} {c : Cond} (ha : GoodIn big (c :: a)) (hb : GoodIn big b) : GoodIn big (c :: (a ++ b)) := fun w h => (List.mem_cons.mp h).elim (fun e => ha w (List.mem_cons.mpr (Or.inl e))) (fun h => (List.mem_append.mp h).elim (fun h => ha w (List.mem_cons.mpr (Or.inr h))) (hb w))
theorem goodIn_sub {big ws : List Cond} (hm : ∀ w ∈ ws, w ∈ big) (h : ws.all goodWord = true) : GoodIn big ws := fun w hw => ⟨hm w hw, good_of_word (List.all_eq_true.mp h w hw)⟩
/-! ===== END ===== -/

/-! ===== BEGIN printed: names, fields, word lists, decode rows ===== -/
def RX0 : String := "WarmRods$Clock"
def TX0 : u_T := fun k => match k with
  | 0 => ("WarmRods$Clock", "settings", "[I", true)
  | 1 => ("WarmRods$Clock", "drift", "LWarmRods$Drift;", true)
  | 2 => ("WarmRods$Clock", "log", "LWarmRods$Log;", true)
  | 3 => ("WarmRods$Clock", "tray", "I", false)
  | 4 => ("WarmRods$Clock", "hours", "I", false)
  | 5 => ("WarmRods$Clock", "radioHours", "I", false)
  | _ => ("WarmRods$Clock", "timesSet", "I", false)
def tyX0 : Nat → FieldType := fun k => match k with
  | 0 => .array .int
  | 1 => .object "WarmRods$Drift"
  | 2 => .object "WarmRods$Log"
  | 3 => .int
  | 4 => .int
  | 5 => .int
  | _ => .int
abbrev wsX00 : List Cond := u_ws RX0 TX0 7
theorem nmX0 : ∀ a, a < 7 → ∀ b, b < 7 → a ≠ b → (TX0 a).2.1 ≠ (TX0 b).2.1 := by decide +kernel
theorem tyX0_ok : ∀ k, k < 7 → parseFieldDescriptor (TX0 k).2.2.1 = some (tyX0 k) := by decide +kernel
abbrev cX0_init : ByteArray := prog_2_method_1_code
def yX0_init : MethodName := ⟨RX0, "<init>", "()V"⟩
abbrev cX0_become : ByteArray := prog_2_method_2_code
def yX0_become : MethodName := ⟨RX0, "become", "(LWarmRods$Clock;)V"⟩
abbrev cX0_setting : ByteArray := prog_2_method_3_code
def yX0_setting : MethodName := ⟨RX0, "setting", "(I)I"⟩
abbrev cX0_errorOfSetting : ByteArray := prog_2_method_4_code
def yX0_errorOfSetting : MethodName := ⟨RX0, "errorOfSetting", "(II)I"⟩
abbrev cX0_changeSetting : ByteArray := prog_2_method_5_code
def yX0_changeSetting : MethodName := ⟨RX0, "changeSetting", "(II)I"⟩
abbrev cX0_errorOfWeight : ByteArray := prog_2_method_6_code
def yX0_errorOfWeight : MethodName := ⟨RX0, "errorOfWeight", "(I)I"⟩
abbrev cX0_moveWeight : ByteArray := prog_2_method_7_code
def yX0_moveWeight : MethodName := ⟨RX0, "moveWeight", "(I)I"⟩
abbrev cX0_bareRateIn : ByteArray := prog_2_method_8_code
def yX0_bareRateIn : MethodName := ⟨RX0, "bareRateIn", "(II)I"⟩
abbrev cX0_rateIn : ByteArray := prog_2_method_9_code
def yX0_rateIn : MethodName := ⟨RX0, "rateIn", "(II)I"⟩
abbrev cX0_errorOfHours : ByteArray := prog_2_method_10_code
def yX0_errorOfHours : MethodName := ⟨RX0, "errorOfHours", "(IIII)I"⟩
abbrev cX0_goHours : ByteArray := prog_2_method_11_code
def yX0_goHours : MethodName := ⟨RX0, "goHours", "(IIII)I"⟩
abbrev cX0_goHour : ByteArray := prog_2_method_12_code
def yX0_goHour : MethodName := ⟨RX0, "goHour", "(III)V"⟩
abbrev cX0_correct : ByteArray := prog_2_method_13_code
def yX0_correct : MethodName := ⟨RX0, "correct", "()V"⟩
def RX1 : String := "WarmRods$Drift"
def TX1 : u_T := fun k => match k with
  | 0 => ("WarmRods$Drift", "off", "I", false)
  | _ => ("WarmRods$Drift", "carried", "I", false)
def tyX1 : Nat → FieldType := fun k => match k with
  | 0 => .int
  | _ => .int
abbrev wsX10 : List Cond := u_ws RX1 TX1 2
theorem nmX1 : ∀ a, a < 2 → ∀ b, b < 2 → a ≠ b → (TX1 a).2.1 ≠ (TX1 b).2.1 := by decide +kernel
theorem tyX1_ok : ∀ k, k < 2 → parseFieldDescriptor (TX1 k).2.2.1 = some (tyX1 k) := by decide +kernel
abbrev cX1_init : ByteArray := prog_3_method_1_code
def yX1_init : MethodName := ⟨RX1, "<init>", "()V"⟩
abbrev cX1_clear : ByteArray := prog_3_method_2_code
def yX1_clear : MethodName := ⟨RX1, "clear", "()V"⟩
abbrev cX1_become : ByteArray := prog_3_method_3_code
def yX1_become : MethodName := ⟨RX1, "become", "(LWarmRods$Drift;)V"⟩
abbrev cX1_addHour : ByteArray := prog_3_method_4_code
def yX1_addHour : MethodName := ⟨RX1, "addHour", "(I)V"⟩
abbrev cX1_isMoreThan : ByteArray := prog_3_method_5_code
def yX1_isMoreThan : MethodName := ⟨RX1, "isMoreThan", "(I)Z"⟩
def RX2 : String := "WarmRods$History"
def TX2 : u_T := fun k => match k with
  | 0 => ("WarmRods$History", "states", "[LWarmRods$Clock;", true)
  | _ => ("WarmRods$History", "kept", "I", false)
def tyX2 : Nat → FieldType := fun k => match k with
  | 0 => .array (.object "WarmRods$Clock")
  | _ => .int
abbrev wsX20 : List Cond := u_ws RX2 TX2 2
theorem nmX2 : ∀ a, a < 2 → ∀ b, b < 2 → a ≠ b → (TX2 a).2.1 ≠ (TX2 b).2.1 := by decide +kernel
theorem tyX2_ok : ∀ k, k < 2 → parseFieldDescriptor (TX2 k).2.2.1 = some (tyX2 k) := by decide +kernel
abbrev cX2_init : ByteArray := prog_4_method_1_code
def yX2_init : MethodName := ⟨RX2, "<init>", "()V"⟩
abbrev cX2_record : ByteArray := prog_4_method_2_code
def yX2_record : MethodName := ⟨RX2, "record", "(LWarmRods$Clock;)V"⟩
abbrev cX2_takeBack : ByteArray := prog_4_method_3_code
def yX2_takeBack : MethodName := ⟨RX2, "takeBack", "(LWarmRods$Clock;)V"⟩
def RX3 : String := "WarmRods$Log"
def TX3 : u_T := fun k => match k with
  | 0 => ("WarmRods$Log", "facts", "[I", true)
  | _ => ("WarmRods$Log", "written", "I", false)
def tyX3 : Nat → FieldType := fun k => match k with
  | 0 => .array .int
  | _ => .int
abbrev wsX30 : List Cond := u_ws RX3 TX3 2
theorem nmX3 : ∀ a, a < 2 → ∀ b, b < 2 → a ≠ b → (TX3 a).2.1 ≠ (TX3 b).2.1 := by decide +kernel
theorem tyX3_ok : ∀ k, k < 2 → parseFieldDescriptor (TX3 k).2.2.1 = some (tyX3 k) := by decide +kernel
abbrev cX3_init : ByteArray := prog_5_method_1_code
def yX3_init : MethodName := ⟨RX3, "<init>", "()V"⟩
abbrev cX3_length : ByteArray := prog_5_method_2_code
def yX3_length : MethodName := ⟨RX3, "length", "()I"⟩
abbrev cX3_become : ByteArray := prog_5_method_3_code
def yX3_become : MethodName := ⟨RX3, "become", "(LWarmRods$Log;)V"⟩
abbrev cX3_open : ByteArray := prog_5_method_4_code
def yX3_open : MethodName := ⟨RX3, "open", "()V"⟩
abbrev cX3_write : ByteArray := prog_5_method_5_code
def yX3_write : MethodName := ⟨RX3, "write", "(II)V"⟩
abbrev cX3_fact : ByteArray := prog_5_method_6_code
def yX3_fact : MethodName := ⟨RX3, "fact", "(II)I"⟩
abbrev cX3_placeOf : ByteArray := prog_5_method_7_code
def yX3_placeOf : MethodName := ⟨RX3, "placeOf", "(II)I"⟩
abbrev cX3_sumOfRates : ByteArray := prog_5_method_8_code
def yX3_sumOfRates : MethodName := ⟨RX3, "sumOfRates", "()I"⟩
abbrev cX3_greatestRate : ByteArray := prog_5_method_9_code
def yX3_greatestRate : MethodName := ⟨RX3, "greatestRate", "()I"⟩
abbrev cX3_leastRate : ByteArray := prog_5_method_10_code
def yX3_leastRate : MethodName := ⟨RX3, "leastRate", "()I"⟩
abbrev cX3_countAboveZero : ByteArray := prog_5_method_11_code
def yX3_countAboveZero : MethodName := ⟨RX3, "countAboveZero", "(I)I"⟩
abbrev cX3_countOtherTrays : ByteArray := prog_5_method_12_code
def yX3_countOtherTrays : MethodName := ⟨RX3, "countOtherTrays", "()I"⟩
def RX4 : String := "WarmRods$Pad"
def TX4 : u_T := fun k => match k with
  | 0 => ("WarmRods$Pad", "signs", "[C", true)
  | _ => ("WarmRods$Pad", "length", "I", false)
def tyX4 : Nat → FieldType := fun k => match k with
  | 0 => .array .char
  | _ => .int
abbrev wsX40 : List Cond := u_ws RX4 TX4 2
theorem nmX4 : ∀ a, a < 2 → ∀ b, b < 2 → a ≠ b → (TX4 a).2.1 ≠ (TX4 b).2.1 := by decide +kernel
theorem tyX4_ok : ∀ k, k < 2 → parseFieldDescriptor (TX4 k).2.2.1 = some (tyX4 k) := by decide +kernel
abbrev cX4_init : ByteArray := prog_6_method_1_code
def yX4_init : MethodName := ⟨RX4, "<init>", "()V"⟩
abbrev cX4_append : ByteArray := prog_6_method_2_code
def yX4_append : MethodName := ⟨RX4, "append", "(C)V"⟩
abbrev cX4_signAt : ByteArray := prog_6_method_3_code
def yX4_signAt : MethodName := ⟨RX4, "signAt", "(I)I"⟩
def RX5 : String := "WarmRods$Reader"
def TX5 : u_T := fun k => match k with
  | 0 => ("WarmRods$Reader", "pad", "LWarmRods$Pad;", true)
  | 1 => ("WarmRods$Reader", "place", "I", false)
  | 2 => ("WarmRods$Reader", "number", "I", false)
  | 3 => ("WarmRods$Reader", "order", "I", false)
  | 4 => ("WarmRods$Reader", "value", "I", false)
  | 5 => ("WarmRods$Reader", "air", "I", false)
  | 6 => ("WarmRods$Reader", "radio", "I", false)
  | _ => ("WarmRods$Reader", "hours", "I", false)
def tyX5 : Nat → FieldType := fun k => match k with
  | 0 => .object "WarmRods$Pad"
  | 1 => .int
  | 2 => .int
  | 3 => .int
  | 4 => .int
  | 5 => .int
  | 6 => .int
  | _ => .int
abbrev wsX50 : List Cond := u_ws RX5 TX5 8
theorem nmX5 : ∀ a, a < 8 → ∀ b, b < 8 → a ≠ b → (TX5 a).2.1 ≠ (TX5 b).2.1 := by decide +kernel
theorem tyX5_ok : ∀ k, k < 8 → parseFieldDescriptor (TX5 k).2.2.1 = some (tyX5 k) := by decide +kernel
abbrev cX5_init : ByteArray := prog_7_method_1_code
def yX5_init : MethodName := ⟨RX5, "<init>", "()V"⟩
abbrev cX5_start : ByteArray := prog_7_method_2_code
def yX5_start : MethodName := ⟨RX5, "start", "()V"⟩
abbrev cX5_firstFault : ByteArray := prog_7_method_3_code
def yX5_firstFault : MethodName := ⟨RX5, "firstFault", "()I"⟩
abbrev cX5_readOrder : ByteArray := prog_7_method_4_code
def yX5_readOrder : MethodName := ⟨RX5, "readOrder", "()Z"⟩
abbrev cX5_readSign : ByteArray := prog_7_method_5_code
def yX5_readSign : MethodName := ⟨RX5, "readSign", "(C)Z"⟩
abbrev cX5_readHours : ByteArray := prog_7_method_6_code
def yX5_readHours : MethodName := ⟨RX5, "readHours", "()Z"⟩
abbrev cX5_readWeight : ByteArray := prog_7_method_7_code
def yX5_readWeight : MethodName := ⟨RX5, "readWeight", "()Z"⟩
abbrev cX5_readValue : ByteArray := prog_7_method_8_code
def yX5_readValue : MethodName := ⟨RX5, "readValue", "()Z"⟩
abbrev cX5_readNumber : ByteArray := prog_7_method_9_code
def yX5_readNumber : MethodName := ⟨RX5, "readNumber", "()Z"⟩
abbrev cX5_isDigit : ByteArray := prog_7_method_10_code
def yX5_isDigit : MethodName := ⟨RX5, "isDigit", "(I)Z"⟩
def RX6 : String := "WarmRods$Slot"
def TX6 : u_T := fun k => match k with
  | 0 => ("WarmRods$Slot", "saved", "LWarmRods$Clock;", true)
  | _ => ("WarmRods$Slot", "isFilled", "Z", false)
def tyX6 : Nat → FieldType := fun k => match k with
  | 0 => .object "WarmRods$Clock"
  | _ => .boolean
abbrev wsX60 : List Cond := u_ws RX6 TX6 2
theorem nmX6 : ∀ a, a < 2 → ∀ b, b < 2 → a ≠ b → (TX6 a).2.1 ≠ (TX6 b).2.1 := by decide +kernel
theorem tyX6_ok : ∀ k, k < 2 → parseFieldDescriptor (TX6 k).2.2.1 = some (tyX6 k) := by decide +kernel
abbrev cX6_init : ByteArray := prog_8_method_1_code
def yX6_init : MethodName := ⟨RX6, "<init>", "()V"⟩
def RX7 : String := "WarmRods"
def TX7 : u_T := fun k => match k with
  | 0 => ("WarmRods", "clock", "LWarmRods$Clock;", true)
  | 1 => ("WarmRods", "history", "LWarmRods$History;", true)
  | 2 => ("WarmRods", "firstSlot", "LWarmRods$Slot;", true)
  | 3 => ("WarmRods", "secondSlot", "LWarmRods$Slot;", true)
  | 4 => ("WarmRods", "reader", "LWarmRods$Reader;", true)
  | _ => ("WarmRods", "scratch", "LWarmRods$Drift;", true)
def tyX7 : Nat → FieldType := fun k => match k with
  | 0 => .object "WarmRods$Clock"
  | 1 => .object "WarmRods$History"
  | 2 => .object "WarmRods$Slot"
  | 3 => .object "WarmRods$Slot"
  | 4 => .object "WarmRods$Reader"
  | _ => .object "WarmRods$Drift"
abbrev wsX70 : List Cond := u_ws RX7 TX7 6
theorem nmX7 : ∀ a, a < 6 → ∀ b, b < 6 → a ≠ b → (TX7 a).2.1 ≠ (TX7 b).2.1 := by decide +kernel
theorem tyX7_ok : ∀ k, k < 6 → parseFieldDescriptor (TX7 k).2.2.1 = some (tyX7 k) := by decide +kernel
abbrev cX7_init : ByteArray := prog_1_method_1_code
def yX7_init : MethodName := ⟨RX7, "<init>", "()V"⟩
abbrev cX7_set : ByteArray := prog_1_method_2_code
def yX7_set : MethodName := ⟨RX7, "set", "(II)I"⟩
abbrev cX7_weight : ByteArray := prog_1_method_3_code
def yX7_weight : MethodName := ⟨RX7, "weight", "(I)I"⟩
abbrev cX7_pass : ByteArray := prog_1_method_4_code
def yX7_pass : MethodName := ⟨RX7, "pass", "(IIII)I"⟩
abbrev cX7_zero : ByteArray := prog_1_method_5_code
def yX7_zero : MethodName := ⟨RX7, "zero", "()I"⟩
abbrev cX7_hour : ByteArray := prog_1_method_6_code
def yX7_hour : MethodName := ⟨RX7, "hour", "(II)I"⟩
abbrev cX7_count : ByteArray := prog_1_method_7_code
def yX7_count : MethodName := ⟨RX7, "count", "(I)I"⟩
abbrev cX7_meanRate : ByteArray := prog_1_method_8_code
def yX7_meanRate : MethodName := ⟨RX7, "meanRate", "()J"⟩
abbrev cX7_ofLog : ByteArray := prog_1_method_9_code
def yX7_ofLog : MethodName := ⟨RX7, "ofLog", "(I)I"⟩
abbrev cX7_rate : ByteArray := prog_1_method_10_code
def yX7_rate : MethodName := ⟨RX7, "rate", "(II)I"⟩
abbrev cX7_bestWeights : ByteArray := prog_1_method_11_code
def yX7_bestWeights : MethodName := ⟨RX7, "bestWeights", "(III)I"⟩
abbrev cX7_offIn : ByteArray := prog_1_method_12_code
def yX7_offIn : MethodName := ⟨RX7, "offIn", "(II)I"⟩
abbrev cX7_replay : ByteArray := prog_1_method_13_code
def yX7_replay : MethodName := ⟨RX7, "replay", "()I"⟩
abbrev cX7_coolest : ByteArray := prog_1_method_14_code
def yX7_coolest : MethodName := ⟨RX7, "coolest", "(I)I"⟩
abbrev cX7_put : ByteArray := prog_1_method_15_code
def yX7_put : MethodName := ⟨RX7, "put", "(J)I"⟩
abbrev cX7_wipe : ByteArray := prog_1_method_16_code
def yX7_wipe : MethodName := ⟨RX7, "wipe", "()I"⟩
abbrev cX7_fault : ByteArray := prog_1_method_17_code
def yX7_fault : MethodName := ⟨RX7, "fault", "()I"⟩
abbrev cX7_carryOut : ByteArray := prog_1_method_18_code
def yX7_carryOut : MethodName := ⟨RX7, "carryOut", "()I"⟩
abbrev cX7_undo : ByteArray := prog_1_method_19_code
def yX7_undo : MethodName := ⟨RX7, "undo", "()I"⟩
abbrev cX7_save : ByteArray := prog_1_method_20_code
def yX7_save : MethodName := ⟨RX7, "save", "(I)I"⟩
abbrev cX7_restore : ByteArray := prog_1_method_21_code
def yX7_restore : MethodName := ⟨RX7, "restore", "(I)I"⟩
abbrev cX7_carryOutOrder : ByteArray := prog_1_method_22_code
def yX7_carryOutOrder : MethodName := ⟨RX7, "carryOutOrder", "()Z"⟩
abbrev cX7_isHeat : ByteArray := prog_1_method_23_code
def yX7_isHeat : MethodName := ⟨RX7, "isHeat", "(I)Z"⟩
abbrev cX7_isAir : ByteArray := prog_1_method_24_code
def yX7_isAir : MethodName := ⟨RX7, "isAir", "(I)Z"⟩
abbrev cX7_codeAt : ByteArray := prog_1_method_25_code
def yX7_codeAt : MethodName := ⟨RX7, "codeAt", "(JI)I"⟩
abbrev cX7_signsIn : ByteArray := prog_1_method_26_code
def yX7_signsIn : MethodName := ⟨RX7, "signsIn", "(J)I"⟩
abbrev cX7_bitsOf : ByteArray := prog_1_method_27_code
def yX7_bitsOf : MethodName := ⟨RX7, "bitsOf", "(D)J"⟩
def RX8 : String := "WarmRodsModel"
def TX8 : u_T := fun k => match k with
  | 0 => ("WarmRodsModel", "all", "[I", true)
  | 1 => ("WarmRodsModel", "kept", "[I", true)
  | 2 => ("WarmRodsModel", "history", "[I", true)
  | 3 => ("WarmRodsModel", "historyLong", "I", false)
  | 4 => ("WarmRodsModel", "slots", "[I", true)
  | 5 => ("WarmRodsModel", "isSaved", "[I", true)
  | 6 => ("WarmRodsModel", "off", "I", false)
  | 7 => ("WarmRodsModel", "carried", "I", false)
  | 8 => ("WarmRodsModel", "pad", "[I", true)
  | 9 => ("WarmRodsModel", "padLong", "I", false)
  | 10 => ("WarmRodsModel", "spot", "I", false)
  | 11 => ("WarmRodsModel", "number", "I", false)
  | 12 => ("WarmRodsModel", "isDone", "Z", false)
  | _ => ("WarmRodsModel", "error", "I", false)
def tyX8 : Nat → FieldType := fun k => match k with
  | 0 => .array .int
  | 1 => .array .int
  | 2 => .array .int
  | 3 => .int
  | 4 => .array .int
  | 5 => .array .int
  | 6 => .int
  | 7 => .int
  | 8 => .array .int
  | 9 => .int
  | 10 => .int
  | 11 => .int
  | 12 => .boolean
  | _ => .int
abbrev wsX80 : List Cond := u_ws RX8 TX8 14
theorem nmX8 : ∀ a, a < 14 → ∀ b, b < 14 → a ≠ b → (TX8 a).2.1 ≠ (TX8 b).2.1 := by decide +kernel
theorem tyX8_ok : ∀ k, k < 14 → parseFieldDescriptor (TX8 k).2.2.1 = some (tyX8 k) := by decide +kernel
abbrev cX8_init : ByteArray := prog_10_method_1_code
def yX8_init : MethodName := ⟨RX8, "<init>", "()V"⟩
abbrev cX8_in : ByteArray := prog_10_method_3_code
def yX8_in : MethodName := ⟨RX8, "in", "(JJJ)Z"⟩
abbrev cX8_keep : ByteArray := prog_10_method_4_code
def yX8_keep : MethodName := ⟨RX8, "keep", "()V"⟩
abbrev cX8_changed : ByteArray := prog_10_method_5_code
def yX8_changed : MethodName := ⟨RX8, "changed", "(I)I"⟩
abbrev cX8_isHeat : ByteArray := prog_10_method_6_code
def yX8_isHeat : MethodName := ⟨RX8, "isHeat", "(I)Z"⟩
abbrev cX8_isAir : ByteArray := prog_10_method_7_code
def yX8_isAir : MethodName := ⟨RX8, "isAir", "(I)Z"⟩
abbrev cX8_rateWith : ByteArray := prog_10_method_8_code
def yX8_rateWith : MethodName := ⟨RX8, "rateWith", "(III)I"⟩
abbrev cX8_rateNow : ByteArray := prog_10_method_9_code
def yX8_rateNow : MethodName := ⟨RX8, "rateNow", "(II)I"⟩
abbrev cX8_goes : ByteArray := prog_10_method_10_code
def yX8_goes : MethodName := ⟨RX8, "goes", "(I)V"⟩
abbrev cX8_isTooFar : ByteArray := prog_10_method_11_code
def yX8_isTooFar : MethodName := ⟨RX8, "isTooFar", "()Z"⟩
abbrev cX8_lightest : ByteArray := prog_10_method_12_code
def yX8_lightest : MethodName := ⟨RX8, "lightest", "(I)I"⟩
abbrev cX8_corrects : ByteArray := prog_10_method_13_code
def yX8_corrects : MethodName := ⟨RX8, "corrects", "()V"⟩
abbrev cX8_passes : ByteArray := prog_10_method_14_code
def yX8_passes : MethodName := ⟨RX8, "passes", "(III)Z"⟩
abbrev cX8_isSetting : ByteArray := prog_10_method_15_code
def yX8_isSetting : MethodName := ⟨RX8, "isSetting", "(II)Z"⟩
abbrev cX8_doSet : ByteArray := prog_10_method_16_code
def yX8_doSet : MethodName := ⟨RX8, "doSet", "(II)I"⟩
abbrev cX8_doWeight : ByteArray := prog_10_method_17_code
def yX8_doWeight : MethodName := ⟨RX8, "doWeight", "(I)I"⟩
abbrev cX8_doPass : ByteArray := prog_10_method_18_code
def yX8_doPass : MethodName := ⟨RX8, "doPass", "(IIII)I"⟩
abbrev cX8_doZero : ByteArray := prog_10_method_19_code
def yX8_doZero : MethodName := ⟨RX8, "doZero", "()I"⟩
abbrev cX8_set : ByteArray := prog_10_method_20_code
def yX8_set : MethodName := ⟨RX8, "set", "(II)I"⟩
abbrev cX8_weight : ByteArray := prog_10_method_21_code
def yX8_weight : MethodName := ⟨RX8, "weight", "(I)I"⟩
abbrev cX8_pass : ByteArray := prog_10_method_22_code
def yX8_pass : MethodName := ⟨RX8, "pass", "(IIII)I"⟩
abbrev cX8_zero : ByteArray := prog_10_method_23_code
def yX8_zero : MethodName := ⟨RX8, "zero", "()I"⟩
abbrev cX8_of : ByteArray := prog_10_method_24_code
def yX8_of : MethodName := ⟨RX8, "of", "(II)I"⟩
abbrev cX8_hour : ByteArray := prog_10_method_25_code
def yX8_hour : MethodName := ⟨RX8, "hour", "(II)I"⟩
abbrev cX8_count : ByteArray := prog_10_method_26_code
def yX8_count : MethodName := ⟨RX8, "count", "(I)I"⟩
abbrev cX8_meanRate : ByteArray := prog_10_method_27_code
def yX8_meanRate : MethodName := ⟨RX8, "meanRate", "()J"⟩
abbrev cX8_greatest : ByteArray := prog_10_method_28_code
def yX8_greatest : MethodName := ⟨RX8, "greatest", "()I"⟩
abbrev cX8_least : ByteArray := prog_10_method_29_code
def yX8_least : MethodName := ⟨RX8, "least", "()I"⟩
abbrev cX8_fastHours : ByteArray := prog_10_method_30_code
def yX8_fastHours : MethodName := ⟨RX8, "fastHours", "()I"⟩
abbrev cX8_setHours : ByteArray := prog_10_method_31_code
def yX8_setHours : MethodName := ⟨RX8, "setHours", "()I"⟩
abbrev cX8_changes : ByteArray := prog_10_method_32_code
def yX8_changes : MethodName := ⟨RX8, "changes", "()I"⟩
abbrev cX8_ofLog : ByteArray := prog_10_method_33_code
def yX8_ofLog : MethodName := ⟨RX8, "ofLog", "(I)I"⟩
abbrev cX8_rate : ByteArray := prog_10_method_34_code
def yX8_rate : MethodName := ⟨RX8, "rate", "(II)I"⟩
abbrev cX8_size : ByteArray := prog_10_method_35_code
def yX8_size : MethodName := ⟨RX8, "size", "(I)I"⟩
abbrev cX8_bestWeights : ByteArray := prog_10_method_36_code
def yX8_bestWeights : MethodName := ⟨RX8, "bestWeights", "(III)I"⟩
abbrev cX8_offIn : ByteArray := prog_10_method_37_code
def yX8_offIn : MethodName := ⟨RX8, "offIn", "(II)I"⟩
abbrev cX8_replay : ByteArray := prog_10_method_38_code
def yX8_replay : MethodName := ⟨RX8, "replay", "()I"⟩
abbrev cX8_coolest : ByteArray := prog_10_method_39_code
def yX8_coolest : MethodName := ⟨RX8, "coolest", "(I)I"⟩
abbrev cX8_put : ByteArray := prog_10_method_40_code
def yX8_put : MethodName := ⟨RX8, "put", "(J)I"⟩
abbrev cX8_wipe : ByteArray := prog_10_method_41_code
def yX8_wipe : MethodName := ⟨RX8, "wipe", "()I"⟩
abbrev cX8_isHere : ByteArray := prog_10_method_42_code
def yX8_isHere : MethodName := ⟨RX8, "isHere", "(II)Z"⟩
abbrev cX8_takes : ByteArray := prog_10_method_43_code
def yX8_takes : MethodName := ⟨RX8, "takes", "(I)Z"⟩
abbrev cX8_readsNumber : ByteArray := prog_10_method_44_code
def yX8_readsNumber : MethodName := ⟨RX8, "readsNumber", "()Z"⟩
abbrev cX8_readsValue : ByteArray := prog_10_method_45_code
def yX8_readsValue : MethodName := ⟨RX8, "readsValue", "()Z"⟩
abbrev cX8_does : ByteArray := prog_10_method_46_code
def yX8_does : MethodName := ⟨RX8, "does", "(I)V"⟩
abbrev cX8_readsHours : ByteArray := prog_10_method_47_code
def yX8_readsHours : MethodName := ⟨RX8, "readsHours", "()Z"⟩
abbrev cX8_readsOrder : ByteArray := prog_10_method_48_code
def yX8_readsOrder : MethodName := ⟨RX8, "readsOrder", "()Z"⟩
abbrev cX8_fault : ByteArray := prog_10_method_49_code
def yX8_fault : MethodName := ⟨RX8, "fault", "()I"⟩
abbrev cX8_carryOut : ByteArray := prog_10_method_50_code
def yX8_carryOut : MethodName := ⟨RX8, "carryOut", "()I"⟩
abbrev cX8_undo : ByteArray := prog_10_method_51_code
def yX8_undo : MethodName := ⟨RX8, "undo", "()I"⟩
abbrev cX8_save : ByteArray := prog_10_method_52_code
def yX8_save : MethodName := ⟨RX8, "save", "(I)I"⟩
abbrev cX8_restore : ByteArray := prog_10_method_53_code
def yX8_restore : MethodName := ⟨RX8, "restore", "(I)I"⟩
def RJxe99ae : String := "java/lang/Double"
def TJxe99ae : u_T := fun k => match k with
  | _ => ("", "", "", false)
def tyJxe99ae : Nat → FieldType := fun k => match k with
  | _ => .int
abbrev wsJxe99ae0 : List Cond := u_ws RJxe99ae TJxe99ae 0
theorem nmJxe99ae : ∀ a, a < 0 → ∀ b, b < 0 → a ≠ b → (TJxe99ae a).2.1 ≠ (TJxe99ae b).2.1 := by decide +kernel
theorem tyJxe99ae_ok : ∀ k, k < 0 → parseFieldDescriptor (TJxe99ae k).2.2.1 = some (tyJxe99ae k) := by decide +kernel
abbrev cJxe99ae_isNaN_b9ae7 : ByteArray := prog_11_method_6_code
def yJxe99ae_isNaN_b9ae7 : MethodName := ⟨RJxe99ae, "isNaN", "(D)Z"⟩
abbrev cJxe99ae_doubleToLongBits_ccdee : ByteArray := prog_11_method_23_code
def yJxe99ae_doubleToLongBits_ccdee : MethodName := ⟨RJxe99ae, "doubleToLongBits", "(D)J"⟩
def RJ9 : String := "java/lang/Math"
def TJ9 : u_T := fun k => match k with
  | _ => ("", "", "", false)
def tyJ9 : Nat → FieldType := fun k => match k with
  | _ => .int
abbrev wsJ90 : List Cond := u_ws RJ9 TJ9 0
theorem nmJ9 : ∀ a, a < 0 → ∀ b, b < 0 → a ≠ b → (TJ9 a).2.1 ≠ (TJ9 b).2.1 := by decide +kernel
theorem tyJ9_ok : ∀ k, k < 0 → parseFieldDescriptor (TJ9 k).2.2.1 = some (tyJ9 k) := by decide +kernel
abbrev cJ9_abs_0f7a4 : ByteArray := prog_12_method_59_code
def yJ9_abs_0f7a4 : MethodName := ⟨RJ9, "abs", "(I)I"⟩
abbrev cJ9_max_7cf53 : ByteArray := prog_12_method_65_code
def yJ9_max_7cf53 : MethodName := ⟨RJ9, "max", "(II)I"⟩
abbrev cJ9_min_7cf53 : ByteArray := prog_12_method_69_code
def yJ9_min_7cf53 : MethodName := ⟨RJ9, "min", "(II)I"⟩
def RJ10 : String := "java/lang/System"
def TJ10 : u_T := fun k => match k with
  | _ => ("", "", "", false)
def tyJ10 : Nat → FieldType := fun k => match k with
  | _ => .int
abbrev wsJ100 : List Cond := u_ws RJ10 TJ10 0
theorem nmJ10 : ∀ a, a < 0 → ∀ b, b < 0 → a ≠ b → (TJ10 a).2.1 ≠ (TJ10 b).2.1 := by decide +kernel
theorem tyJ10_ok : ∀ k, k < 0 → parseFieldDescriptor (TJ10 k).2.2.1 = some (tyJ10 k) := by decide +kernel
def RL : String := "WarmRodsLaw"
abbrev cL_law : ByteArray := code
def yL_law : MethodName := ⟨RL, "law", "([I)Z"⟩
def wsX1_init : List Cond := .code yX1_init cX1_init 1 none :: ([.methodLink RX1 1 objectInit, .instanceMethod objectInit, .code objectInit ⟨#[0xb1]⟩ 1 none])
def wsX3_init : List Cond := .code yX3_init cX3_init 1 none :: ([.methodLink RX3 3 objectInit, .instanceMethod objectInit, .code objectInit ⟨#[0xb1]⟩ 1 none, .arrayClass .int, .fieldLink RX3 9 "WarmRods$Log" "facts" "[I"] ++ wsX30)
def wsX0_init : List Cond := .code yX0_init cX0_init 1 none :: ([.methodLink RX0 3 objectInit, .instanceMethod objectInit, .code objectInit ⟨#[0xb1]⟩ 1 none, .arrayClass .int, .fieldLink RX0 9 "WarmRods$Clock" "settings" "[I", .classLink RX0 15 RX1, .instantiable RX1 2, .initialized RX1, .fieldLink RX0 18 "WarmRods$Clock" "drift" "LWarmRods$Drift;", .classLink RX0 22 RX3, .instantiable RX3 2, .initialized RX3, .fieldLink RX0 25 "WarmRods$Clock" "log" "LWarmRods$Log;", .instanceMethod yX1_init, .code yX1_init cX1_init 1 none, .methodLink RX1 1 objectInit, .instanceMethod yX3_init, .code yX3_init cX3_init 1 none, .methodLink RX3 3 objectInit, .fieldLink RX3 9 "WarmRods$Log" "facts" "[I"] ++ wsX00 ++ wsX10 ++ wsX30)
def wsX1_become : List Cond := .code yX1_become cX1_become 2 none :: ([.fieldLink RX1 7 "WarmRods$Drift" "off" "I", .fieldLink RX1 13 "WarmRods$Drift" "carried" "I"] ++ wsX10)
def wsX3_become : List Cond := .code yX3_become cX3_become 2 none :: ([.fieldLink RX3 9 "WarmRods$Log" "facts" "[I", .methodLink RX3 25 arraycopyName, .native arraycopyName, .static arraycopyName, .initialized "java/lang/System", .fieldLink RX3 15 "WarmRods$Log" "written" "I"] ++ wsX30)
def wsX0_become_r1 : List Cond := [Cond.fieldLink RX0 9 "WarmRods$Clock" "settings" "[I", Cond.methodLink RX0 29 arraycopyName, Cond.native arraycopyName, Cond.static arraycopyName, Cond.initialized "java/lang/System", Cond.fieldLink RX0 18 "WarmRods$Clock" "drift" "LWarmRods$Drift;", Cond.fieldLink RX0 25 "WarmRods$Clock" "log" "LWarmRods$Log;", Cond.fieldLink RX0 42 "WarmRods$Clock" "tray" "I", Cond.fieldLink RX0 46 "WarmRods$Clock" "hours" "I", Cond.fieldLink RX0 49 "WarmRods$Clock" "radioHours" "I", Cond.fieldLink RX0 52 "WarmRods$Clock" "timesSet" "I", Cond.methodLink RX0 35 yX1_become, Cond.instanceMethod yX1_become, Cond.selects RX1 yX1_become yX1_become, Cond.initialized RX1, Cond.code yX1_become cX1_become 2 none, Cond.fieldLink RX1 7 "WarmRods$Drift" "off" "I", Cond.fieldLink RX1 13 "WarmRods$Drift" "carried" "I", Cond.methodLink RX0 39 yX3_become, Cond.instanceMethod yX3_become, Cond.selects RX3 yX3_become yX3_become, Cond.initialized RX3, Cond.code yX3_become cX3_become 2 none, Cond.fieldLink RX3 9 "WarmRods$Log" "facts" "[I"]
def wsX0_become_r2 : List Cond := [Cond.methodLink RX3 25 arraycopyName, Cond.fieldLink RX3 15 "WarmRods$Log" "written" "I"]
def wsX0_become : List Cond := .code yX0_become cX0_become 2 none :: ((wsX0_become_r1 ++ wsX0_become_r2) ++ wsX00 ++ wsX10 ++ wsX30)
def wsX0_setting : List Cond := .code yX0_setting cX0_setting 2 (some .int) :: ([.fieldLink RX0 9 "WarmRods$Clock" "settings" "[I"] ++ wsX00)
def wsX0_errorOfSetting : List Cond := .code yX0_errorOfSetting cX0_errorOfSetting 3 (some .int) :: ([])
def wsX0_changeSetting : List Cond := .code yX0_changeSetting cX0_changeSetting 4 (some .int) :: ([.fieldLink RX0 9 "WarmRods$Clock" "settings" "[I", .methodLink RX0 61 yX0_setting, .instanceMethod yX0_setting, .selects RX0 yX0_setting yX0_setting, .initialized RX0, .code yX0_setting cX0_setting 2 (some .int)] ++ wsX00)
def wsX0_errorOfWeight : List Cond := .code yX0_errorOfWeight cX0_errorOfWeight 2 (some .int) :: ([])
def wsX0_moveWeight : List Cond := .code yX0_moveWeight cX0_moveWeight 2 (some .int) :: ([.fieldLink RX0 42 "WarmRods$Clock" "tray" "I"] ++ wsX00)
def wsX0_bareRateIn : List Cond := .code yX0_bareRateIn cX0_bareRateIn 3 (some .int) :: ([.methodLink RX0 61 yX0_setting, .instanceMethod yX0_setting, .selects RX0 yX0_setting yX0_setting, .initialized RX0, .code yX0_setting cX0_setting 2 (some .int), .fieldLink RX0 9 "WarmRods$Clock" "settings" "[I"] ++ wsX00)
def wsX0_rateIn : List Cond := .code yX0_rateIn cX0_rateIn 3 (some .int) :: ([.fieldLink RX0 42 "WarmRods$Clock" "tray" "I", .methodLink RX0 65 yX0_bareRateIn, .instanceMethod yX0_bareRateIn, .selects RX0 yX0_bareRateIn yX0_bareRateIn, .initialized RX0, .code yX0_bareRateIn cX0_bareRateIn 3 (some .int), .methodLink RX0 61 yX0_setting, .instanceMethod yX0_setting, .selects RX0 yX0_setting yX0_setting, .code yX0_setting cX0_setting 2 (some .int), .fieldLink RX0 9 "WarmRods$Clock" "settings" "[I"] ++ wsX00)
def wsX7_isHeat : List Cond := .code yX7_isHeat cX7_isHeat 1 (some .boolean) :: ([])
def wsX7_isAir : List Cond := .code yX7_isAir cX7_isAir 1 (some .boolean) :: ([])
def wsX0_errorOfHours : List Cond := .code yX0_errorOfHours cX0_errorOfHours 5 (some .int) :: ([.fieldLink RX0 46 "WarmRods$Clock" "hours" "I", .static yX7_isHeat, .initialized RX7, .code yX7_isHeat cX7_isHeat 1 (some .boolean), .static yX7_isAir, .code yX7_isAir cX7_isAir 1 (some .boolean)] ++ wsX00)
def wsX1_addHour : List Cond := .code yX1_addHour cX1_addHour 3 none :: ([.fieldLink RX1 13 "WarmRods$Drift" "carried" "I", .fieldLink RX1 7 "WarmRods$Drift" "off" "I"] ++ wsX10)
def wsX1_isMoreThan : List Cond := .code yX1_isMoreThan cX1_isMoreThan 2 (some .boolean) :: ([.fieldLink RX1 7 "WarmRods$Drift" "off" "I"] ++ wsX10)
def wsX3_open : List Cond := .code yX3_open cX3_open 1 none :: ([.fieldLink RX3 15 "WarmRods$Log" "written" "I"] ++ wsX30)
def wsX3_placeOf : List Cond := .code yX3_placeOf cX3_placeOf 3 (some .int) :: ([.fieldLink RX3 15 "WarmRods$Log" "written" "I"] ++ wsX30)
def wsX3_write : List Cond := .code yX3_write cX3_write 4 none :: ([.fieldLink RX3 9 "WarmRods$Log" "facts" "[I", .methodLink RX3 31 yX3_placeOf, .instanceMethod yX3_placeOf, .selects RX3 yX3_placeOf yX3_placeOf, .initialized RX3, .code yX3_placeOf cX3_placeOf 3 (some .int), .fieldLink RX3 15 "WarmRods$Log" "written" "I"] ++ wsX30)
def wsX1_clear : List Cond := .code yX1_clear cX1_clear 1 none :: ([.fieldLink RX1 7 "WarmRods$Drift" "off" "I", .fieldLink RX1 13 "WarmRods$Drift" "carried" "I"] ++ wsX10)
def wsX0_correct : List Cond := .code yX0_correct cX0_correct 1 none :: ([.fieldLink RX0 18 "WarmRods$Clock" "drift" "LWarmRods$Drift;", .fieldLink RX0 97 "WarmRods$Drift" "off" "I", .fieldLink RX0 42 "WarmRods$Clock" "tray" "I", .fieldLink RX0 52 "WarmRods$Clock" "timesSet" "I", .methodLink RX0 103 yX1_clear, .instanceMethod yX1_clear, .selects RX1 yX1_clear yX1_clear, .initialized RX1, .code yX1_clear cX1_clear 1 none, .fieldLink RX1 7 "WarmRods$Drift" "off" "I", .fieldLink RX1 13 "WarmRods$Drift" "carried" "I"] ++ wsX00 ++ wsX10)
def wsX0_goHour_r1 : List Cond := [Cond.fieldLink RX0 18 "WarmRods$Clock" "drift" "LWarmRods$Drift;", Cond.fieldLink RX0 25 "WarmRods$Clock" "log" "LWarmRods$Log;", Cond.fieldLink RX0 97 "WarmRods$Drift" "off" "I", Cond.fieldLink RX0 42 "WarmRods$Clock" "tray" "I", Cond.fieldLink RX0 46 "WarmRods$Clock" "hours" "I", Cond.fieldLink RX0 49 "WarmRods$Clock" "radioHours" "I", Cond.methodLink RX0 80 yX0_rateIn, Cond.instanceMethod yX0_rateIn, Cond.selects RX0 yX0_rateIn yX0_rateIn, Cond.initialized RX0, Cond.code yX0_rateIn cX0_rateIn 3 (some .int), Cond.methodLink RX0 65 yX0_bareRateIn, Cond.instanceMethod yX0_bareRateIn, Cond.selects RX0 yX0_bareRateIn yX0_bareRateIn, Cond.code yX0_bareRateIn cX0_bareRateIn 3 (some .int), Cond.methodLink RX0 61 yX0_setting, Cond.instanceMethod yX0_setting, Cond.selects RX0 yX0_setting yX0_setting, Cond.code yX0_setting cX0_setting 2 (some .int), Cond.fieldLink RX0 9 "WarmRods$Clock" "settings" "[I", Cond.methodLink RX0 83 yX1_addHour, Cond.instanceMethod yX1_addHour, Cond.selects RX1 yX1_addHour yX1_addHour, Cond.initialized RX1]
def wsX0_goHour_r2 : List Cond := [Cond.code yX1_addHour cX1_addHour 3 none, Cond.fieldLink RX1 13 "WarmRods$Drift" "carried" "I", Cond.fieldLink RX1 7 "WarmRods$Drift" "off" "I", Cond.methodLink RX0 87 yX1_isMoreThan, Cond.instanceMethod yX1_isMoreThan, Cond.selects RX1 yX1_isMoreThan yX1_isMoreThan, Cond.code yX1_isMoreThan cX1_isMoreThan 2 (some .boolean), Cond.methodLink RX0 90 yX3_open, Cond.instanceMethod yX3_open, Cond.selects RX3 yX3_open yX3_open, Cond.initialized RX3, Cond.code yX3_open cX3_open 1 none, Cond.fieldLink RX3 15 "WarmRods$Log" "written" "I", Cond.methodLink RX0 93 yX3_write, Cond.instanceMethod yX3_write, Cond.selects RX3 yX3_write yX3_write, Cond.code yX3_write cX3_write 4 none, Cond.fieldLink RX3 9 "WarmRods$Log" "facts" "[I", Cond.methodLink RX3 31 yX3_placeOf, Cond.instanceMethod yX3_placeOf, Cond.selects RX3 yX3_placeOf yX3_placeOf, Cond.code yX3_placeOf cX3_placeOf 3 (some .int), Cond.methodLink RX0 100 yX0_correct, Cond.instanceMethod yX0_correct]
def wsX0_goHour_r3 : List Cond := [Cond.selects RX0 yX0_correct yX0_correct, Cond.code yX0_correct cX0_correct 1 none, Cond.fieldLink RX0 52 "WarmRods$Clock" "timesSet" "I", Cond.methodLink RX0 103 yX1_clear, Cond.instanceMethod yX1_clear, Cond.selects RX1 yX1_clear yX1_clear, Cond.code yX1_clear cX1_clear 1 none]
def wsX0_goHour : List Cond := .code yX0_goHour cX0_goHour 6 none :: ((wsX0_goHour_r1 ++ (wsX0_goHour_r2 ++ wsX0_goHour_r3)) ++ wsX00 ++ wsX10 ++ wsX30)
def wsX0_goHours_r1 : List Cond := [Cond.fieldLink RX0 52 "WarmRods$Clock" "timesSet" "I", Cond.methodLink RX0 76 yX0_goHour, Cond.instanceMethod yX0_goHour, Cond.selects RX0 yX0_goHour yX0_goHour, Cond.initialized RX0, Cond.code yX0_goHour cX0_goHour 6 none, Cond.fieldLink RX0 18 "WarmRods$Clock" "drift" "LWarmRods$Drift;", Cond.fieldLink RX0 25 "WarmRods$Clock" "log" "LWarmRods$Log;", Cond.fieldLink RX0 97 "WarmRods$Drift" "off" "I", Cond.fieldLink RX0 42 "WarmRods$Clock" "tray" "I", Cond.fieldLink RX0 46 "WarmRods$Clock" "hours" "I", Cond.fieldLink RX0 49 "WarmRods$Clock" "radioHours" "I", Cond.methodLink RX0 80 yX0_rateIn, Cond.instanceMethod yX0_rateIn, Cond.selects RX0 yX0_rateIn yX0_rateIn, Cond.code yX0_rateIn cX0_rateIn 3 (some .int), Cond.methodLink RX0 65 yX0_bareRateIn, Cond.instanceMethod yX0_bareRateIn, Cond.selects RX0 yX0_bareRateIn yX0_bareRateIn, Cond.code yX0_bareRateIn cX0_bareRateIn 3 (some .int), Cond.methodLink RX0 61 yX0_setting, Cond.instanceMethod yX0_setting, Cond.selects RX0 yX0_setting yX0_setting, Cond.code yX0_setting cX0_setting 2 (some .int)]
def wsX0_goHours_r2 : List Cond := [Cond.fieldLink RX0 9 "WarmRods$Clock" "settings" "[I", Cond.methodLink RX0 83 yX1_addHour, Cond.instanceMethod yX1_addHour, Cond.selects RX1 yX1_addHour yX1_addHour, Cond.initialized RX1, Cond.code yX1_addHour cX1_addHour 3 none, Cond.fieldLink RX1 13 "WarmRods$Drift" "carried" "I", Cond.fieldLink RX1 7 "WarmRods$Drift" "off" "I", Cond.methodLink RX0 87 yX1_isMoreThan, Cond.instanceMethod yX1_isMoreThan, Cond.selects RX1 yX1_isMoreThan yX1_isMoreThan, Cond.code yX1_isMoreThan cX1_isMoreThan 2 (some .boolean), Cond.methodLink RX0 90 yX3_open, Cond.instanceMethod yX3_open, Cond.selects RX3 yX3_open yX3_open, Cond.initialized RX3, Cond.code yX3_open cX3_open 1 none, Cond.fieldLink RX3 15 "WarmRods$Log" "written" "I", Cond.methodLink RX0 93 yX3_write, Cond.instanceMethod yX3_write, Cond.selects RX3 yX3_write yX3_write, Cond.code yX3_write cX3_write 4 none, Cond.fieldLink RX3 9 "WarmRods$Log" "facts" "[I", Cond.methodLink RX3 31 yX3_placeOf]
def wsX0_goHours_r3 : List Cond := [Cond.instanceMethod yX3_placeOf, Cond.selects RX3 yX3_placeOf yX3_placeOf, Cond.code yX3_placeOf cX3_placeOf 3 (some .int), Cond.methodLink RX0 100 yX0_correct, Cond.instanceMethod yX0_correct, Cond.selects RX0 yX0_correct yX0_correct, Cond.code yX0_correct cX0_correct 1 none, Cond.methodLink RX0 103 yX1_clear, Cond.instanceMethod yX1_clear, Cond.selects RX1 yX1_clear yX1_clear, Cond.code yX1_clear cX1_clear 1 none]
def wsX0_goHours : List Cond := .code yX0_goHours cX0_goHours 7 (some .int) :: ((wsX0_goHours_r1 ++ (wsX0_goHours_r2 ++ wsX0_goHours_r3)) ++ wsX00 ++ wsX10 ++ wsX30)
def wsX2_init_r1 : List Cond := [Cond.methodLink RX2 3 objectInit, Cond.instanceMethod objectInit, Cond.code objectInit ⟨#[0xb1]⟩ 1 none, Cond.classLink RX2 9 RX0, Cond.fieldLink RX2 11 "WarmRods$History" "states" "[LWarmRods$Clock;", Cond.instantiable RX0 7, Cond.initialized RX0, Cond.instanceMethod yX0_init, Cond.code yX0_init cX0_init 1 none, Cond.methodLink RX0 3 objectInit, Cond.arrayClass .int, Cond.fieldLink RX0 9 "WarmRods$Clock" "settings" "[I", Cond.classLink RX0 15 RX1, Cond.instantiable RX1 2, Cond.initialized RX1, Cond.fieldLink RX0 18 "WarmRods$Clock" "drift" "LWarmRods$Drift;", Cond.classLink RX0 22 RX3, Cond.instantiable RX3 2, Cond.initialized RX3, Cond.fieldLink RX0 25 "WarmRods$Clock" "log" "LWarmRods$Log;", Cond.instanceMethod yX1_init, Cond.code yX1_init cX1_init 1 none, Cond.methodLink RX1 1 objectInit, Cond.instanceMethod yX3_init]
def wsX2_init_r2 : List Cond := [Cond.code yX3_init cX3_init 1 none, Cond.methodLink RX3 3 objectInit, Cond.fieldLink RX3 9 "WarmRods$Log" "facts" "[I"]
def wsX2_init : List Cond := .code yX2_init cX2_init 2 none :: ((wsX2_init_r1 ++ wsX2_init_r2) ++ wsX20 ++ wsX00 ++ wsX10 ++ wsX30)
def wsX2_record_r1 : List Cond := [Cond.fieldLink RX2 11 "WarmRods$History" "states" "[LWarmRods$Clock;", Cond.fieldLink RX2 22 "WarmRods$History" "kept" "I", Cond.methodLink RX2 26 Lib.Math.min.name, Cond.static Lib.Math.min.name, Cond.initialized "java/lang/Math", Cond.code Lib.Math.min.name Lib.Math.min.code 2 (some .int), Cond.methodLink RX2 18 yX0_become, Cond.instanceMethod yX0_become, Cond.selects RX0 yX0_become yX0_become, Cond.initialized RX0, Cond.code yX0_become cX0_become 2 none, Cond.fieldLink RX0 9 "WarmRods$Clock" "settings" "[I", Cond.methodLink RX0 29 arraycopyName, Cond.native arraycopyName, Cond.static arraycopyName, Cond.initialized "java/lang/System", Cond.fieldLink RX0 18 "WarmRods$Clock" "drift" "LWarmRods$Drift;", Cond.fieldLink RX0 25 "WarmRods$Clock" "log" "LWarmRods$Log;", Cond.fieldLink RX0 42 "WarmRods$Clock" "tray" "I", Cond.fieldLink RX0 46 "WarmRods$Clock" "hours" "I", Cond.fieldLink RX0 49 "WarmRods$Clock" "radioHours" "I", Cond.fieldLink RX0 52 "WarmRods$Clock" "timesSet" "I", Cond.methodLink RX0 35 yX1_become, Cond.instanceMethod yX1_become]
def wsX2_record_r2 : List Cond := [Cond.selects RX1 yX1_become yX1_become, Cond.initialized RX1, Cond.code yX1_become cX1_become 2 none, Cond.fieldLink RX1 7 "WarmRods$Drift" "off" "I", Cond.fieldLink RX1 13 "WarmRods$Drift" "carried" "I", Cond.methodLink RX0 39 yX3_become, Cond.instanceMethod yX3_become, Cond.selects RX3 yX3_become yX3_become, Cond.initialized RX3, Cond.code yX3_become cX3_become 2 none, Cond.fieldLink RX3 9 "WarmRods$Log" "facts" "[I", Cond.methodLink RX3 25 arraycopyName, Cond.fieldLink RX3 15 "WarmRods$Log" "written" "I"]
def wsX2_record : List Cond := .code yX2_record cX2_record 4 none :: ((wsX2_record_r1 ++ wsX2_record_r2) ++ wsX20 ++ wsX00 ++ wsX10 ++ wsX30)
def wsX2_takeBack_r1 : List Cond := [Cond.fieldLink RX2 11 "WarmRods$History" "states" "[LWarmRods$Clock;", Cond.fieldLink RX2 22 "WarmRods$History" "kept" "I", Cond.methodLink RX2 18 yX0_become, Cond.instanceMethod yX0_become, Cond.selects RX0 yX0_become yX0_become, Cond.initialized RX0, Cond.code yX0_become cX0_become 2 none, Cond.fieldLink RX0 9 "WarmRods$Clock" "settings" "[I", Cond.methodLink RX0 29 arraycopyName, Cond.native arraycopyName, Cond.static arraycopyName, Cond.initialized "java/lang/System", Cond.fieldLink RX0 18 "WarmRods$Clock" "drift" "LWarmRods$Drift;", Cond.fieldLink RX0 25 "WarmRods$Clock" "log" "LWarmRods$Log;", Cond.fieldLink RX0 42 "WarmRods$Clock" "tray" "I", Cond.fieldLink RX0 46 "WarmRods$Clock" "hours" "I", Cond.fieldLink RX0 49 "WarmRods$Clock" "radioHours" "I", Cond.fieldLink RX0 52 "WarmRods$Clock" "timesSet" "I", Cond.methodLink RX0 35 yX1_become, Cond.instanceMethod yX1_become, Cond.selects RX1 yX1_become yX1_become, Cond.initialized RX1, Cond.code yX1_become cX1_become 2 none, Cond.fieldLink RX1 7 "WarmRods$Drift" "off" "I"]
def wsX2_takeBack_r2 : List Cond := [Cond.fieldLink RX1 13 "WarmRods$Drift" "carried" "I", Cond.methodLink RX0 39 yX3_become, Cond.instanceMethod yX3_become, Cond.selects RX3 yX3_become yX3_become, Cond.initialized RX3, Cond.code yX3_become cX3_become 2 none, Cond.fieldLink RX3 9 "WarmRods$Log" "facts" "[I", Cond.methodLink RX3 25 arraycopyName, Cond.fieldLink RX3 15 "WarmRods$Log" "written" "I"]
def wsX2_takeBack : List Cond := .code yX2_takeBack cX2_takeBack 4 none :: ((wsX2_takeBack_r1 ++ wsX2_takeBack_r2) ++ wsX20 ++ wsX00 ++ wsX10 ++ wsX30)
def wsX3_length : List Cond := .code yX3_length cX3_length 1 (some .int) :: ([.fieldLink RX3 15 "WarmRods$Log" "written" "I", .methodLink RX3 19 Lib.Math.min.name, .static Lib.Math.min.name, .initialized "java/lang/Math", .code Lib.Math.min.name Lib.Math.min.code 2 (some .int)] ++ wsX30)
def wsX3_fact : List Cond := .code yX3_fact cX3_fact 4 (some .int) :: ([.fieldLink RX3 9 "WarmRods$Log" "facts" "[I", .methodLink RX3 31 yX3_placeOf, .instanceMethod yX3_placeOf, .selects RX3 yX3_placeOf yX3_placeOf, .initialized RX3, .code yX3_placeOf cX3_placeOf 3 (some .int), .fieldLink RX3 15 "WarmRods$Log" "written" "I"] ++ wsX30)
def wsX3_sumOfRates : List Cond := .code yX3_sumOfRates cX3_sumOfRates 3 (some .int) :: ([.methodLink RX3 34 yX3_length, .instanceMethod yX3_length, .selects RX3 yX3_length yX3_length, .initialized RX3, .code yX3_length cX3_length 1 (some .int), .fieldLink RX3 15 "WarmRods$Log" "written" "I", .methodLink RX3 19 Lib.Math.min.name, .static Lib.Math.min.name, .initialized "java/lang/Math", .code Lib.Math.min.name Lib.Math.min.code 2 (some .int), .methodLink RX3 38 yX3_fact, .instanceMethod yX3_fact, .selects RX3 yX3_fact yX3_fact, .code yX3_fact cX3_fact 4 (some .int), .fieldLink RX3 9 "WarmRods$Log" "facts" "[I", .methodLink RX3 31 yX3_placeOf, .instanceMethod yX3_placeOf, .selects RX3 yX3_placeOf yX3_placeOf, .code yX3_placeOf cX3_placeOf 3 (some .int)] ++ wsX30)
def wsX3_greatestRate : List Cond := .code yX3_greatestRate cX3_greatestRate 3 (some .int) :: ([.methodLink RX3 41 Lib.Math.max.name, .static Lib.Math.max.name, .initialized "java/lang/Math", .code Lib.Math.max.name Lib.Math.max.code 2 (some .int), .methodLink RX3 38 yX3_fact, .instanceMethod yX3_fact, .selects RX3 yX3_fact yX3_fact, .initialized RX3, .code yX3_fact cX3_fact 4 (some .int), .fieldLink RX3 9 "WarmRods$Log" "facts" "[I", .methodLink RX3 31 yX3_placeOf, .instanceMethod yX3_placeOf, .selects RX3 yX3_placeOf yX3_placeOf, .code yX3_placeOf cX3_placeOf 3 (some .int), .fieldLink RX3 15 "WarmRods$Log" "written" "I", .methodLink RX3 34 yX3_length, .instanceMethod yX3_length, .selects RX3 yX3_length yX3_length, .code yX3_length cX3_length 1 (some .int), .methodLink RX3 19 Lib.Math.min.name, .static Lib.Math.min.name, .code Lib.Math.min.name Lib.Math.min.code 2 (some .int)] ++ wsX30)
def wsX3_leastRate : List Cond := .code yX3_leastRate cX3_leastRate 3 (some .int) :: ([.methodLink RX3 19 Lib.Math.min.name, .static Lib.Math.min.name, .initialized "java/lang/Math", .code Lib.Math.min.name Lib.Math.min.code 2 (some .int), .methodLink RX3 38 yX3_fact, .instanceMethod yX3_fact, .selects RX3 yX3_fact yX3_fact, .initialized RX3, .code yX3_fact cX3_fact 4 (some .int), .fieldLink RX3 9 "WarmRods$Log" "facts" "[I", .methodLink RX3 31 yX3_placeOf, .instanceMethod yX3_placeOf, .selects RX3 yX3_placeOf yX3_placeOf, .code yX3_placeOf cX3_placeOf 3 (some .int), .fieldLink RX3 15 "WarmRods$Log" "written" "I", .methodLink RX3 34 yX3_length, .instanceMethod yX3_length, .selects RX3 yX3_length yX3_length, .code yX3_length cX3_length 1 (some .int)] ++ wsX30)
def wsX3_countAboveZero : List Cond := .code yX3_countAboveZero cX3_countAboveZero 4 (some .int) :: ([.methodLink RX3 34 yX3_length, .instanceMethod yX3_length, .selects RX3 yX3_length yX3_length, .initialized RX3, .code yX3_length cX3_length 1 (some .int), .fieldLink RX3 15 "WarmRods$Log" "written" "I", .methodLink RX3 19 Lib.Math.min.name, .static Lib.Math.min.name, .initialized "java/lang/Math", .code Lib.Math.min.name Lib.Math.min.code 2 (some .int), .methodLink RX3 38 yX3_fact, .instanceMethod yX3_fact, .selects RX3 yX3_fact yX3_fact, .code yX3_fact cX3_fact 4 (some .int), .fieldLink RX3 9 "WarmRods$Log" "facts" "[I", .methodLink RX3 31 yX3_placeOf, .instanceMethod yX3_placeOf, .selects RX3 yX3_placeOf yX3_placeOf, .code yX3_placeOf cX3_placeOf 3 (some .int)] ++ wsX30)
def wsX3_countOtherTrays : List Cond := .code yX3_countOtherTrays cX3_countOtherTrays 3 (some .int) :: ([.methodLink RX3 34 yX3_length, .instanceMethod yX3_length, .selects RX3 yX3_length yX3_length, .initialized RX3, .code yX3_length cX3_length 1 (some .int), .fieldLink RX3 15 "WarmRods$Log" "written" "I", .methodLink RX3 19 Lib.Math.min.name, .static Lib.Math.min.name, .initialized "java/lang/Math", .code Lib.Math.min.name Lib.Math.min.code 2 (some .int), .methodLink RX3 38 yX3_fact, .instanceMethod yX3_fact, .selects RX3 yX3_fact yX3_fact, .code yX3_fact cX3_fact 4 (some .int), .fieldLink RX3 9 "WarmRods$Log" "facts" "[I", .methodLink RX3 31 yX3_placeOf, .instanceMethod yX3_placeOf, .selects RX3 yX3_placeOf yX3_placeOf, .code yX3_placeOf cX3_placeOf 3 (some .int)] ++ wsX30)
def wsX4_init : List Cond := .code yX4_init cX4_init 1 none :: ([.methodLink RX4 3 objectInit, .instanceMethod objectInit, .code objectInit ⟨#[0xb1]⟩ 1 none, .arrayClass .char, .fieldLink RX4 9 "WarmRods$Pad" "signs" "[C"] ++ wsX40)
def wsX4_append : List Cond := .code yX4_append cX4_append 2 none :: ([.fieldLink RX4 15 "WarmRods$Pad" "length" "I", .fieldLink RX4 9 "WarmRods$Pad" "signs" "[C"] ++ wsX40)
def wsX4_signAt : List Cond := .code yX4_signAt cX4_signAt 2 (some .int) :: ([.fieldLink RX4 15 "WarmRods$Pad" "length" "I", .fieldLink RX4 9 "WarmRods$Pad" "signs" "[C"] ++ wsX40)
def wsX5_init : List Cond := .code yX5_init cX5_init 1 none :: ([.methodLink RX5 3 objectInit, .instanceMethod objectInit, .code objectInit ⟨#[0xb1]⟩ 1 none, .classLink RX5 9 RX4, .instantiable RX4 2, .initialized RX4, .fieldLink RX5 12 "WarmRods$Reader" "pad" "LWarmRods$Pad;", .instanceMethod yX4_init, .code yX4_init cX4_init 1 none, .methodLink RX4 3 objectInit, .arrayClass .char, .fieldLink RX4 9 "WarmRods$Pad" "signs" "[C"] ++ wsX40 ++ wsX50)
def wsX5_start : List Cond := .code yX5_start cX5_start 1 none :: ([.fieldLink RX5 18 "WarmRods$Reader" "place" "I"] ++ wsX50)
def wsX5_readSign : List Cond := .code yX5_readSign cX5_readSign 2 (some .boolean) :: ([.fieldLink RX5 12 "WarmRods$Reader" "pad" "LWarmRods$Pad;", .fieldLink RX5 18 "WarmRods$Reader" "place" "I", .methodLink RX5 36 yX4_signAt, .instanceMethod yX4_signAt, .selects RX4 yX4_signAt yX4_signAt, .initialized RX4, .code yX4_signAt cX4_signAt 2 (some .int), .fieldLink RX4 15 "WarmRods$Pad" "length" "I", .fieldLink RX4 9 "WarmRods$Pad" "signs" "[C"] ++ wsX50 ++ wsX40)
def wsX5_isDigit : List Cond := .code yX5_isDigit cX5_isDigit 1 (some .boolean) :: ([])
def wsX5_readNumber : List Cond := .code yX5_readNumber cX5_readNumber 2 (some .boolean) :: ([.fieldLink RX5 55 "WarmRods$Reader" "number" "I", .fieldLink RX5 12 "WarmRods$Reader" "pad" "LWarmRods$Pad;", .fieldLink RX5 18 "WarmRods$Reader" "place" "I", .methodLink RX5 36 yX4_signAt, .instanceMethod yX4_signAt, .selects RX4 yX4_signAt yX4_signAt, .initialized RX4, .code yX4_signAt cX4_signAt 2 (some .int), .fieldLink RX4 15 "WarmRods$Pad" "length" "I", .fieldLink RX4 9 "WarmRods$Pad" "signs" "[C", .methodLink RX5 70 yX5_isDigit, .static yX5_isDigit, .initialized RX5, .code yX5_isDigit cX5_isDigit 1 (some .boolean)] ++ wsX50 ++ wsX40)
def wsX5_readValue : List Cond := .code yX5_readValue cX5_readValue 2 (some .boolean) :: ([.fieldLink RX5 55 "WarmRods$Reader" "number" "I", .fieldLink RX5 67 "WarmRods$Reader" "value" "I", .methodLink RX5 32 yX5_readSign, .instanceMethod yX5_readSign, .selects RX5 yX5_readSign yX5_readSign, .initialized RX5, .code yX5_readSign cX5_readSign 2 (some .boolean), .fieldLink RX5 12 "WarmRods$Reader" "pad" "LWarmRods$Pad;", .fieldLink RX5 18 "WarmRods$Reader" "place" "I", .methodLink RX5 36 yX4_signAt, .instanceMethod yX4_signAt, .selects RX4 yX4_signAt yX4_signAt, .initialized RX4, .code yX4_signAt cX4_signAt 2 (some .int), .fieldLink RX4 15 "WarmRods$Pad" "length" "I", .fieldLink RX4 9 "WarmRods$Pad" "signs" "[C", .methodLink RX5 52 yX5_readNumber, .instanceMethod yX5_readNumber, .selects RX5 yX5_readNumber yX5_readNumber, .code yX5_readNumber cX5_readNumber 2 (some .boolean), .methodLink RX5 70 yX5_isDigit, .static yX5_isDigit, .code yX5_isDigit cX5_isDigit 1 (some .boolean)] ++ wsX50 ++ wsX40)
def wsX5_readHours_r1 : List Cond := [Cond.fieldLink RX5 55 "WarmRods$Reader" "number" "I", Cond.fieldLink RX5 58 "WarmRods$Reader" "air" "I", Cond.fieldLink RX5 61 "WarmRods$Reader" "radio" "I", Cond.fieldLink RX5 64 "WarmRods$Reader" "hours" "I", Cond.methodLink RX5 49 yX5_readValue, Cond.instanceMethod yX5_readValue, Cond.selects RX5 yX5_readValue yX5_readValue, Cond.initialized RX5, Cond.code yX5_readValue cX5_readValue 2 (some .boolean), Cond.fieldLink RX5 67 "WarmRods$Reader" "value" "I", Cond.methodLink RX5 32 yX5_readSign, Cond.instanceMethod yX5_readSign, Cond.selects RX5 yX5_readSign yX5_readSign, Cond.code yX5_readSign cX5_readSign 2 (some .boolean), Cond.fieldLink RX5 12 "WarmRods$Reader" "pad" "LWarmRods$Pad;", Cond.fieldLink RX5 18 "WarmRods$Reader" "place" "I", Cond.methodLink RX5 36 yX4_signAt, Cond.instanceMethod yX4_signAt, Cond.selects RX4 yX4_signAt yX4_signAt, Cond.initialized RX4, Cond.code yX4_signAt cX4_signAt 2 (some .int), Cond.fieldLink RX4 15 "WarmRods$Pad" "length" "I", Cond.fieldLink RX4 9 "WarmRods$Pad" "signs" "[C", Cond.methodLink RX5 52 yX5_readNumber]
def wsX5_readHours_r2 : List Cond := [Cond.instanceMethod yX5_readNumber, Cond.selects RX5 yX5_readNumber yX5_readNumber, Cond.code yX5_readNumber cX5_readNumber 2 (some .boolean), Cond.methodLink RX5 70 yX5_isDigit, Cond.static yX5_isDigit, Cond.code yX5_isDigit cX5_isDigit 1 (some .boolean)]
def wsX5_readHours : List Cond := .code yX5_readHours cX5_readHours 1 (some .boolean) :: ((wsX5_readHours_r1 ++ wsX5_readHours_r2) ++ wsX50 ++ wsX40)
def wsX5_readWeight : List Cond := .code yX5_readWeight cX5_readWeight 2 (some .boolean) :: ([.fieldLink RX5 12 "WarmRods$Reader" "pad" "LWarmRods$Pad;", .fieldLink RX5 18 "WarmRods$Reader" "place" "I", .fieldLink RX5 67 "WarmRods$Reader" "value" "I", .methodLink RX5 36 yX4_signAt, .instanceMethod yX4_signAt, .selects RX4 yX4_signAt yX4_signAt, .initialized RX4, .code yX4_signAt cX4_signAt 2 (some .int), .fieldLink RX4 15 "WarmRods$Pad" "length" "I", .fieldLink RX4 9 "WarmRods$Pad" "signs" "[C"] ++ wsX50 ++ wsX40)
def wsX5_readOrder_r1 : List Cond := [Cond.fieldLink RX5 12 "WarmRods$Reader" "pad" "LWarmRods$Pad;", Cond.fieldLink RX5 18 "WarmRods$Reader" "place" "I", Cond.fieldLink RX5 40 "WarmRods$Reader" "order" "I", Cond.methodLink RX5 36 yX4_signAt, Cond.instanceMethod yX4_signAt, Cond.selects RX4 yX4_signAt yX4_signAt, Cond.initialized RX4, Cond.code yX4_signAt cX4_signAt 2 (some .int), Cond.fieldLink RX4 15 "WarmRods$Pad" "length" "I", Cond.fieldLink RX4 9 "WarmRods$Pad" "signs" "[C", Cond.methodLink RX5 43 yX5_readHours, Cond.instanceMethod yX5_readHours, Cond.selects RX5 yX5_readHours yX5_readHours, Cond.initialized RX5, Cond.code yX5_readHours cX5_readHours 1 (some .boolean), Cond.fieldLink RX5 55 "WarmRods$Reader" "number" "I", Cond.fieldLink RX5 58 "WarmRods$Reader" "air" "I", Cond.fieldLink RX5 61 "WarmRods$Reader" "radio" "I", Cond.fieldLink RX5 64 "WarmRods$Reader" "hours" "I", Cond.methodLink RX5 49 yX5_readValue, Cond.instanceMethod yX5_readValue, Cond.selects RX5 yX5_readValue yX5_readValue, Cond.code yX5_readValue cX5_readValue 2 (some .boolean), Cond.fieldLink RX5 67 "WarmRods$Reader" "value" "I"]
def wsX5_readOrder_r2 : List Cond := [Cond.methodLink RX5 32 yX5_readSign, Cond.instanceMethod yX5_readSign, Cond.selects RX5 yX5_readSign yX5_readSign, Cond.code yX5_readSign cX5_readSign 2 (some .boolean), Cond.methodLink RX5 52 yX5_readNumber, Cond.instanceMethod yX5_readNumber, Cond.selects RX5 yX5_readNumber yX5_readNumber, Cond.code yX5_readNumber cX5_readNumber 2 (some .boolean), Cond.methodLink RX5 70 yX5_isDigit, Cond.static yX5_isDigit, Cond.code yX5_isDigit cX5_isDigit 1 (some .boolean), Cond.methodLink RX5 46 yX5_readWeight, Cond.instanceMethod yX5_readWeight, Cond.selects RX5 yX5_readWeight yX5_readWeight, Cond.code yX5_readWeight cX5_readWeight 2 (some .boolean)]
def wsX5_readOrder : List Cond := .code yX5_readOrder cX5_readOrder 1 (some .boolean) :: ((wsX5_readOrder_r1 ++ wsX5_readOrder_r2) ++ wsX50 ++ wsX40)
def wsX5_firstFault_r1 : List Cond := [Cond.fieldLink RX5 18 "WarmRods$Reader" "place" "I", Cond.fieldLink RX5 12 "WarmRods$Reader" "pad" "LWarmRods$Pad;", Cond.methodLink RX5 22 yX5_start, Cond.instanceMethod yX5_start, Cond.selects RX5 yX5_start yX5_start, Cond.initialized RX5, Cond.code yX5_start cX5_start 1 none, Cond.methodLink RX5 25 yX5_readOrder, Cond.instanceMethod yX5_readOrder, Cond.selects RX5 yX5_readOrder yX5_readOrder, Cond.code yX5_readOrder cX5_readOrder 1 (some .boolean), Cond.fieldLink RX5 40 "WarmRods$Reader" "order" "I", Cond.methodLink RX5 36 yX4_signAt, Cond.instanceMethod yX4_signAt, Cond.selects RX4 yX4_signAt yX4_signAt, Cond.initialized RX4, Cond.code yX4_signAt cX4_signAt 2 (some .int), Cond.fieldLink RX4 15 "WarmRods$Pad" "length" "I", Cond.fieldLink RX4 9 "WarmRods$Pad" "signs" "[C", Cond.methodLink RX5 43 yX5_readHours, Cond.instanceMethod yX5_readHours, Cond.selects RX5 yX5_readHours yX5_readHours, Cond.code yX5_readHours cX5_readHours 1 (some .boolean), Cond.fieldLink RX5 55 "WarmRods$Reader" "number" "I"]
def wsX5_firstFault_r2 : List Cond := [Cond.fieldLink RX5 58 "WarmRods$Reader" "air" "I", Cond.fieldLink RX5 61 "WarmRods$Reader" "radio" "I", Cond.fieldLink RX5 64 "WarmRods$Reader" "hours" "I", Cond.methodLink RX5 49 yX5_readValue, Cond.instanceMethod yX5_readValue, Cond.selects RX5 yX5_readValue yX5_readValue, Cond.code yX5_readValue cX5_readValue 2 (some .boolean), Cond.fieldLink RX5 67 "WarmRods$Reader" "value" "I", Cond.methodLink RX5 32 yX5_readSign, Cond.instanceMethod yX5_readSign, Cond.selects RX5 yX5_readSign yX5_readSign, Cond.code yX5_readSign cX5_readSign 2 (some .boolean), Cond.methodLink RX5 52 yX5_readNumber, Cond.instanceMethod yX5_readNumber, Cond.selects RX5 yX5_readNumber yX5_readNumber, Cond.code yX5_readNumber cX5_readNumber 2 (some .boolean), Cond.methodLink RX5 70 yX5_isDigit, Cond.static yX5_isDigit, Cond.code yX5_isDigit cX5_isDigit 1 (some .boolean), Cond.methodLink RX5 46 yX5_readWeight, Cond.instanceMethod yX5_readWeight, Cond.selects RX5 yX5_readWeight yX5_readWeight, Cond.code yX5_readWeight cX5_readWeight 2 (some .boolean)]
def wsX5_firstFault : List Cond := .code yX5_firstFault cX5_firstFault 2 (some .int) :: ((wsX5_firstFault_r1 ++ wsX5_firstFault_r2) ++ wsX50 ++ wsX40)
def wsX6_init_r1 : List Cond := [Cond.methodLink RX6 1 objectInit, Cond.instanceMethod objectInit, Cond.code objectInit ⟨#[0xb1]⟩ 1 none, Cond.classLink RX6 7 RX0, Cond.instantiable RX0 7, Cond.initialized RX0, Cond.fieldLink RX6 10 "WarmRods$Slot" "saved" "LWarmRods$Clock;", Cond.instanceMethod yX0_init, Cond.code yX0_init cX0_init 1 none, Cond.methodLink RX0 3 objectInit, Cond.arrayClass .int, Cond.fieldLink RX0 9 "WarmRods$Clock" "settings" "[I", Cond.classLink RX0 15 RX1, Cond.instantiable RX1 2, Cond.initialized RX1, Cond.fieldLink RX0 18 "WarmRods$Clock" "drift" "LWarmRods$Drift;", Cond.classLink RX0 22 RX3, Cond.instantiable RX3 2, Cond.initialized RX3, Cond.fieldLink RX0 25 "WarmRods$Clock" "log" "LWarmRods$Log;", Cond.instanceMethod yX1_init, Cond.code yX1_init cX1_init 1 none, Cond.methodLink RX1 1 objectInit, Cond.instanceMethod yX3_init]
def wsX6_init_r2 : List Cond := [Cond.code yX3_init cX3_init 1 none, Cond.methodLink RX3 3 objectInit, Cond.fieldLink RX3 9 "WarmRods$Log" "facts" "[I"]
def wsX6_init : List Cond := .code yX6_init cX6_init 1 none :: ((wsX6_init_r1 ++ wsX6_init_r2) ++ wsX00 ++ wsX60 ++ wsX10 ++ wsX30)
def wsX7_init_r1 : List Cond := [Cond.methodLink RX7 1 objectInit, Cond.instanceMethod objectInit, Cond.code objectInit ⟨#[0xb1]⟩ 1 none, Cond.classLink RX7 7 RX0, Cond.instantiable RX0 7, Cond.initialized RX0, Cond.fieldLink RX7 10 "WarmRods" "clock" "LWarmRods$Clock;", Cond.classLink RX7 16 RX2, Cond.instantiable RX2 2, Cond.initialized RX2, Cond.fieldLink RX7 19 "WarmRods" "history" "LWarmRods$History;", Cond.classLink RX7 23 RX6, Cond.instantiable RX6 2, Cond.initialized RX6, Cond.fieldLink RX7 26 "WarmRods" "firstSlot" "LWarmRods$Slot;", Cond.fieldLink RX7 30 "WarmRods" "secondSlot" "LWarmRods$Slot;", Cond.classLink RX7 33 RX5, Cond.instantiable RX5 8, Cond.initialized RX5, Cond.fieldLink RX7 36 "WarmRods" "reader" "LWarmRods$Reader;", Cond.classLink RX7 40 RX1, Cond.instantiable RX1 2, Cond.initialized RX1, Cond.fieldLink RX7 43 "WarmRods" "scratch" "LWarmRods$Drift;"]
def wsX7_init_r2 : List Cond := [Cond.instanceMethod yX0_init, Cond.code yX0_init cX0_init 1 none, Cond.methodLink RX0 3 objectInit, Cond.arrayClass .int, Cond.fieldLink RX0 9 "WarmRods$Clock" "settings" "[I", Cond.classLink RX0 15 RX1, Cond.fieldLink RX0 18 "WarmRods$Clock" "drift" "LWarmRods$Drift;", Cond.classLink RX0 22 RX3, Cond.instantiable RX3 2, Cond.initialized RX3, Cond.fieldLink RX0 25 "WarmRods$Clock" "log" "LWarmRods$Log;", Cond.instanceMethod yX1_init, Cond.code yX1_init cX1_init 1 none, Cond.methodLink RX1 1 objectInit, Cond.instanceMethod yX3_init, Cond.code yX3_init cX3_init 1 none, Cond.methodLink RX3 3 objectInit, Cond.fieldLink RX3 9 "WarmRods$Log" "facts" "[I", Cond.methodLink RX7 18 yX2_init, Cond.instanceMethod yX2_init, Cond.code yX2_init cX2_init 2 none, Cond.methodLink RX2 3 objectInit, Cond.classLink RX2 9 RX0, Cond.fieldLink RX2 11 "WarmRods$History" "states" "[LWarmRods$Clock;"]
def wsX7_init_r3 : List Cond := [Cond.instanceMethod yX6_init, Cond.code yX6_init cX6_init 1 none, Cond.methodLink RX6 1 objectInit, Cond.classLink RX6 7 RX0, Cond.fieldLink RX6 10 "WarmRods$Slot" "saved" "LWarmRods$Clock;", Cond.instanceMethod yX5_init, Cond.code yX5_init cX5_init 1 none, Cond.methodLink RX5 3 objectInit, Cond.classLink RX5 9 RX4, Cond.instantiable RX4 2, Cond.initialized RX4, Cond.fieldLink RX5 12 "WarmRods$Reader" "pad" "LWarmRods$Pad;", Cond.instanceMethod yX4_init, Cond.code yX4_init cX4_init 1 none, Cond.methodLink RX4 3 objectInit, Cond.arrayClass .char, Cond.fieldLink RX4 9 "WarmRods$Pad" "signs" "[C"]
def wsX7_init : List Cond := .code yX7_init cX7_init 1 none :: ((wsX7_init_r1 ++ (wsX7_init_r2 ++ wsX7_init_r3)) ++ wsX00 ++ wsX70 ++ wsX20 ++ wsX60 ++ wsX50 ++ wsX10 ++ wsX30 ++ wsX40)
def wsX7_set_r1 : List Cond := [Cond.fieldLink RX7 10 "WarmRods" "clock" "LWarmRods$Clock;", Cond.fieldLink RX7 19 "WarmRods" "history" "LWarmRods$History;", Cond.methodLink RX7 47 yX0_errorOfSetting, Cond.instanceMethod yX0_errorOfSetting, Cond.selects RX0 yX0_errorOfSetting yX0_errorOfSetting, Cond.initialized RX0, Cond.code yX0_errorOfSetting cX0_errorOfSetting 3 (some .int), Cond.methodLink RX7 51 yX2_record, Cond.instanceMethod yX2_record, Cond.selects RX2 yX2_record yX2_record, Cond.initialized RX2, Cond.code yX2_record cX2_record 4 none, Cond.fieldLink RX2 11 "WarmRods$History" "states" "[LWarmRods$Clock;", Cond.fieldLink RX2 22 "WarmRods$History" "kept" "I", Cond.methodLink RX2 26 Lib.Math.min.name, Cond.static Lib.Math.min.name, Cond.initialized "java/lang/Math", Cond.code Lib.Math.min.name Lib.Math.min.code 2 (some .int), Cond.methodLink RX2 18 yX0_become, Cond.instanceMethod yX0_become, Cond.selects RX0 yX0_become yX0_become, Cond.code yX0_become cX0_become 2 none, Cond.fieldLink RX0 9 "WarmRods$Clock" "settings" "[I", Cond.methodLink RX0 29 arraycopyName]
def wsX7_set_r2 : List Cond := [Cond.native arraycopyName, Cond.static arraycopyName, Cond.initialized "java/lang/System", Cond.fieldLink RX0 18 "WarmRods$Clock" "drift" "LWarmRods$Drift;", Cond.fieldLink RX0 25 "WarmRods$Clock" "log" "LWarmRods$Log;", Cond.fieldLink RX0 42 "WarmRods$Clock" "tray" "I", Cond.fieldLink RX0 46 "WarmRods$Clock" "hours" "I", Cond.fieldLink RX0 49 "WarmRods$Clock" "radioHours" "I", Cond.fieldLink RX0 52 "WarmRods$Clock" "timesSet" "I", Cond.methodLink RX0 35 yX1_become, Cond.instanceMethod yX1_become, Cond.selects RX1 yX1_become yX1_become, Cond.initialized RX1, Cond.code yX1_become cX1_become 2 none, Cond.fieldLink RX1 7 "WarmRods$Drift" "off" "I", Cond.fieldLink RX1 13 "WarmRods$Drift" "carried" "I", Cond.methodLink RX0 39 yX3_become, Cond.instanceMethod yX3_become, Cond.selects RX3 yX3_become yX3_become, Cond.initialized RX3, Cond.code yX3_become cX3_become 2 none, Cond.fieldLink RX3 9 "WarmRods$Log" "facts" "[I", Cond.methodLink RX3 25 arraycopyName, Cond.fieldLink RX3 15 "WarmRods$Log" "written" "I"]
def wsX7_set_r3 : List Cond := [Cond.methodLink RX7 55 yX0_changeSetting, Cond.instanceMethod yX0_changeSetting, Cond.selects RX0 yX0_changeSetting yX0_changeSetting, Cond.code yX0_changeSetting cX0_changeSetting 4 (some .int), Cond.methodLink RX0 61 yX0_setting, Cond.instanceMethod yX0_setting, Cond.selects RX0 yX0_setting yX0_setting, Cond.code yX0_setting cX0_setting 2 (some .int)]
def wsX7_set : List Cond := .code yX7_set cX7_set 4 (some .int) :: ((wsX7_set_r1 ++ (wsX7_set_r2 ++ wsX7_set_r3)) ++ wsX70 ++ wsX20 ++ wsX00 ++ wsX10 ++ wsX30)
def wsX7_weight_r1 : List Cond := [Cond.fieldLink RX7 10 "WarmRods" "clock" "LWarmRods$Clock;", Cond.fieldLink RX7 19 "WarmRods" "history" "LWarmRods$History;", Cond.methodLink RX7 58 yX0_errorOfWeight, Cond.instanceMethod yX0_errorOfWeight, Cond.selects RX0 yX0_errorOfWeight yX0_errorOfWeight, Cond.initialized RX0, Cond.code yX0_errorOfWeight cX0_errorOfWeight 2 (some .int), Cond.methodLink RX7 51 yX2_record, Cond.instanceMethod yX2_record, Cond.selects RX2 yX2_record yX2_record, Cond.initialized RX2, Cond.code yX2_record cX2_record 4 none, Cond.fieldLink RX2 11 "WarmRods$History" "states" "[LWarmRods$Clock;", Cond.fieldLink RX2 22 "WarmRods$History" "kept" "I", Cond.methodLink RX2 26 Lib.Math.min.name, Cond.static Lib.Math.min.name, Cond.initialized "java/lang/Math", Cond.code Lib.Math.min.name Lib.Math.min.code 2 (some .int), Cond.methodLink RX2 18 yX0_become, Cond.instanceMethod yX0_become, Cond.selects RX0 yX0_become yX0_become, Cond.code yX0_become cX0_become 2 none, Cond.fieldLink RX0 9 "WarmRods$Clock" "settings" "[I", Cond.methodLink RX0 29 arraycopyName]
def wsX7_weight_r2 : List Cond := [Cond.native arraycopyName, Cond.static arraycopyName, Cond.initialized "java/lang/System", Cond.fieldLink RX0 18 "WarmRods$Clock" "drift" "LWarmRods$Drift;", Cond.fieldLink RX0 25 "WarmRods$Clock" "log" "LWarmRods$Log;", Cond.fieldLink RX0 42 "WarmRods$Clock" "tray" "I", Cond.fieldLink RX0 46 "WarmRods$Clock" "hours" "I", Cond.fieldLink RX0 49 "WarmRods$Clock" "radioHours" "I", Cond.fieldLink RX0 52 "WarmRods$Clock" "timesSet" "I", Cond.methodLink RX0 35 yX1_become, Cond.instanceMethod yX1_become, Cond.selects RX1 yX1_become yX1_become, Cond.initialized RX1, Cond.code yX1_become cX1_become 2 none, Cond.fieldLink RX1 7 "WarmRods$Drift" "off" "I", Cond.fieldLink RX1 13 "WarmRods$Drift" "carried" "I", Cond.methodLink RX0 39 yX3_become, Cond.instanceMethod yX3_become, Cond.selects RX3 yX3_become yX3_become, Cond.initialized RX3, Cond.code yX3_become cX3_become 2 none, Cond.fieldLink RX3 9 "WarmRods$Log" "facts" "[I", Cond.methodLink RX3 25 arraycopyName, Cond.fieldLink RX3 15 "WarmRods$Log" "written" "I"]
def wsX7_weight_r3 : List Cond := [Cond.methodLink RX7 62 yX0_moveWeight, Cond.instanceMethod yX0_moveWeight, Cond.selects RX0 yX0_moveWeight yX0_moveWeight, Cond.code yX0_moveWeight cX0_moveWeight 2 (some .int)]
def wsX7_weight : List Cond := .code yX7_weight cX7_weight 3 (some .int) :: ((wsX7_weight_r1 ++ (wsX7_weight_r2 ++ wsX7_weight_r3)) ++ wsX70 ++ wsX20 ++ wsX00 ++ wsX10 ++ wsX30)
def wsX7_pass_r1 : List Cond := [Cond.fieldLink RX7 10 "WarmRods" "clock" "LWarmRods$Clock;", Cond.fieldLink RX7 19 "WarmRods" "history" "LWarmRods$History;", Cond.methodLink RX7 65 yX0_errorOfHours, Cond.instanceMethod yX0_errorOfHours, Cond.selects RX0 yX0_errorOfHours yX0_errorOfHours, Cond.initialized RX0, Cond.code yX0_errorOfHours cX0_errorOfHours 5 (some .int), Cond.fieldLink RX0 46 "WarmRods$Clock" "hours" "I", Cond.static yX7_isHeat, Cond.initialized RX7, Cond.code yX7_isHeat cX7_isHeat 1 (some .boolean), Cond.static yX7_isAir, Cond.code yX7_isAir cX7_isAir 1 (some .boolean), Cond.methodLink RX7 51 yX2_record, Cond.instanceMethod yX2_record, Cond.selects RX2 yX2_record yX2_record, Cond.initialized RX2, Cond.code yX2_record cX2_record 4 none, Cond.fieldLink RX2 11 "WarmRods$History" "states" "[LWarmRods$Clock;", Cond.fieldLink RX2 22 "WarmRods$History" "kept" "I", Cond.methodLink RX2 26 Lib.Math.min.name, Cond.static Lib.Math.min.name, Cond.initialized "java/lang/Math", Cond.code Lib.Math.min.name Lib.Math.min.code 2 (some .int)]
def wsX7_pass_r2 : List Cond := [Cond.methodLink RX2 18 yX0_become, Cond.instanceMethod yX0_become, Cond.selects RX0 yX0_become yX0_become, Cond.code yX0_become cX0_become 2 none, Cond.fieldLink RX0 9 "WarmRods$Clock" "settings" "[I", Cond.methodLink RX0 29 arraycopyName, Cond.native arraycopyName, Cond.static arraycopyName, Cond.initialized "java/lang/System", Cond.fieldLink RX0 18 "WarmRods$Clock" "drift" "LWarmRods$Drift;", Cond.fieldLink RX0 25 "WarmRods$Clock" "log" "LWarmRods$Log;", Cond.fieldLink RX0 42 "WarmRods$Clock" "tray" "I", Cond.fieldLink RX0 49 "WarmRods$Clock" "radioHours" "I", Cond.fieldLink RX0 52 "WarmRods$Clock" "timesSet" "I", Cond.methodLink RX0 35 yX1_become, Cond.instanceMethod yX1_become, Cond.selects RX1 yX1_become yX1_become, Cond.initialized RX1, Cond.code yX1_become cX1_become 2 none, Cond.fieldLink RX1 7 "WarmRods$Drift" "off" "I", Cond.fieldLink RX1 13 "WarmRods$Drift" "carried" "I", Cond.methodLink RX0 39 yX3_become, Cond.instanceMethod yX3_become, Cond.selects RX3 yX3_become yX3_become]
def wsX7_pass_r3 : List Cond := [Cond.initialized RX3, Cond.code yX3_become cX3_become 2 none, Cond.fieldLink RX3 9 "WarmRods$Log" "facts" "[I", Cond.methodLink RX3 25 arraycopyName, Cond.fieldLink RX3 15 "WarmRods$Log" "written" "I", Cond.methodLink RX7 69 yX0_goHours, Cond.instanceMethod yX0_goHours, Cond.selects RX0 yX0_goHours yX0_goHours, Cond.code yX0_goHours cX0_goHours 7 (some .int), Cond.methodLink RX0 76 yX0_goHour, Cond.instanceMethod yX0_goHour, Cond.selects RX0 yX0_goHour yX0_goHour, Cond.code yX0_goHour cX0_goHour 6 none, Cond.fieldLink RX0 97 "WarmRods$Drift" "off" "I", Cond.methodLink RX0 80 yX0_rateIn, Cond.instanceMethod yX0_rateIn, Cond.selects RX0 yX0_rateIn yX0_rateIn, Cond.code yX0_rateIn cX0_rateIn 3 (some .int), Cond.methodLink RX0 65 yX0_bareRateIn, Cond.instanceMethod yX0_bareRateIn, Cond.selects RX0 yX0_bareRateIn yX0_bareRateIn, Cond.code yX0_bareRateIn cX0_bareRateIn 3 (some .int), Cond.methodLink RX0 61 yX0_setting, Cond.instanceMethod yX0_setting]
def wsX7_pass_r4 : List Cond := [Cond.selects RX0 yX0_setting yX0_setting, Cond.code yX0_setting cX0_setting 2 (some .int), Cond.methodLink RX0 83 yX1_addHour, Cond.instanceMethod yX1_addHour, Cond.selects RX1 yX1_addHour yX1_addHour, Cond.code yX1_addHour cX1_addHour 3 none, Cond.methodLink RX0 87 yX1_isMoreThan, Cond.instanceMethod yX1_isMoreThan, Cond.selects RX1 yX1_isMoreThan yX1_isMoreThan, Cond.code yX1_isMoreThan cX1_isMoreThan 2 (some .boolean), Cond.methodLink RX0 90 yX3_open, Cond.instanceMethod yX3_open, Cond.selects RX3 yX3_open yX3_open, Cond.code yX3_open cX3_open 1 none, Cond.methodLink RX0 93 yX3_write, Cond.instanceMethod yX3_write, Cond.selects RX3 yX3_write yX3_write, Cond.code yX3_write cX3_write 4 none, Cond.methodLink RX3 31 yX3_placeOf, Cond.instanceMethod yX3_placeOf, Cond.selects RX3 yX3_placeOf yX3_placeOf, Cond.code yX3_placeOf cX3_placeOf 3 (some .int), Cond.methodLink RX0 100 yX0_correct, Cond.instanceMethod yX0_correct]
def wsX7_pass_r5 : List Cond := [Cond.selects RX0 yX0_correct yX0_correct, Cond.code yX0_correct cX0_correct 1 none, Cond.methodLink RX0 103 yX1_clear, Cond.instanceMethod yX1_clear, Cond.selects RX1 yX1_clear yX1_clear, Cond.code yX1_clear cX1_clear 1 none]
def wsX7_pass : List Cond := .code yX7_pass cX7_pass 6 (some .int) :: ((wsX7_pass_r1 ++ (wsX7_pass_r2 ++ (wsX7_pass_r3 ++ (wsX7_pass_r4 ++ wsX7_pass_r5)))) ++ wsX70 ++ wsX00 ++ wsX20 ++ wsX10 ++ wsX30)
def wsX7_zero_r1 : List Cond := [Cond.fieldLink RX7 19 "WarmRods" "history" "LWarmRods$History;", Cond.fieldLink RX7 10 "WarmRods" "clock" "LWarmRods$Clock;", Cond.fieldLink RX7 75 "WarmRods$Drift" "off" "I", Cond.constant RX7 82 (1000000000), Cond.methodLink RX7 51 yX2_record, Cond.instanceMethod yX2_record, Cond.selects RX2 yX2_record yX2_record, Cond.initialized RX2, Cond.code yX2_record cX2_record 4 none, Cond.fieldLink RX2 11 "WarmRods$History" "states" "[LWarmRods$Clock;", Cond.fieldLink RX2 22 "WarmRods$History" "kept" "I", Cond.methodLink RX2 26 Lib.Math.min.name, Cond.static Lib.Math.min.name, Cond.initialized "java/lang/Math", Cond.code Lib.Math.min.name Lib.Math.min.code 2 (some .int), Cond.methodLink RX2 18 yX0_become, Cond.instanceMethod yX0_become, Cond.selects RX0 yX0_become yX0_become, Cond.initialized RX0, Cond.code yX0_become cX0_become 2 none, Cond.fieldLink RX0 9 "WarmRods$Clock" "settings" "[I", Cond.methodLink RX0 29 arraycopyName, Cond.native arraycopyName, Cond.static arraycopyName]
def wsX7_zero_r2 : List Cond := [Cond.initialized "java/lang/System", Cond.fieldLink RX0 18 "WarmRods$Clock" "drift" "LWarmRods$Drift;", Cond.fieldLink RX0 25 "WarmRods$Clock" "log" "LWarmRods$Log;", Cond.fieldLink RX0 42 "WarmRods$Clock" "tray" "I", Cond.fieldLink RX0 46 "WarmRods$Clock" "hours" "I", Cond.fieldLink RX0 49 "WarmRods$Clock" "radioHours" "I", Cond.fieldLink RX0 52 "WarmRods$Clock" "timesSet" "I", Cond.methodLink RX0 35 yX1_become, Cond.instanceMethod yX1_become, Cond.selects RX1 yX1_become yX1_become, Cond.initialized RX1, Cond.code yX1_become cX1_become 2 none, Cond.fieldLink RX1 7 "WarmRods$Drift" "off" "I", Cond.fieldLink RX1 13 "WarmRods$Drift" "carried" "I", Cond.methodLink RX0 39 yX3_become, Cond.instanceMethod yX3_become, Cond.selects RX3 yX3_become yX3_become, Cond.initialized RX3, Cond.code yX3_become cX3_become 2 none, Cond.fieldLink RX3 9 "WarmRods$Log" "facts" "[I", Cond.methodLink RX3 25 arraycopyName, Cond.fieldLink RX3 15 "WarmRods$Log" "written" "I", Cond.methodLink RX7 79 yX1_clear, Cond.instanceMethod yX1_clear]
def wsX7_zero_r3 : List Cond := [Cond.selects RX1 yX1_clear yX1_clear, Cond.code yX1_clear cX1_clear 1 none]
def wsX7_zero : List Cond := .code yX7_zero cX7_zero 2 (some .int) :: ((wsX7_zero_r1 ++ (wsX7_zero_r2 ++ wsX7_zero_r3)) ++ wsX70 ++ wsX00 ++ wsX10 ++ wsX20 ++ wsX30)
def wsX7_hour : List Cond := .code yX7_hour cX7_hour 3 (some .int) :: ([.fieldLink RX7 10 "WarmRods" "clock" "LWarmRods$Clock;", .fieldLink RX7 93 "WarmRods" "MORE_FACTS" "[I", .methodLink RX7 87 yX3_length, .instanceMethod yX3_length, .selects RX3 yX3_length yX3_length, .initialized RX3, .code yX3_length cX3_length 1 (some .int), .fieldLink RX3 15 "WarmRods$Log" "written" "I", .methodLink RX3 19 Lib.Math.min.name, .static Lib.Math.min.name, .initialized "java/lang/Math", .code Lib.Math.min.name Lib.Math.min.code 2 (some .int), .methodLink RX7 97 yX3_fact, .instanceMethod yX3_fact, .selects RX3 yX3_fact yX3_fact, .code yX3_fact cX3_fact 4 (some .int), .fieldLink RX3 9 "WarmRods$Log" "facts" "[I", .methodLink RX3 31 yX3_placeOf, .instanceMethod yX3_placeOf, .selects RX3 yX3_placeOf yX3_placeOf, .code yX3_placeOf cX3_placeOf 3 (some .int)] ++ wsX70 ++ wsX00 ++ wsX30)
def wsX7_count : List Cond := .code yX7_count cX7_count 2 (some .int) :: ([.fieldLink RX7 10 "WarmRods" "clock" "LWarmRods$Clock;", .fieldLink RX7 75 "WarmRods$Drift" "off" "I", .constant RX7 82 (1000000000), .fieldLink RX7 103 "WarmRods$Drift" "carried" "I", .fieldLink RX7 36 "WarmRods" "reader" "LWarmRods$Reader;", .fieldLink RX7 19 "WarmRods" "history" "LWarmRods$History;", .methodLink RX7 87 yX3_length, .instanceMethod yX3_length, .selects RX3 yX3_length yX3_length, .initialized RX3, .code yX3_length cX3_length 1 (some .int), .fieldLink RX3 15 "WarmRods$Log" "written" "I", .methodLink RX3 19 Lib.Math.min.name, .static Lib.Math.min.name, .initialized "java/lang/Math", .code Lib.Math.min.name Lib.Math.min.code 2 (some .int), .methodLink RX7 115 yX0_setting, .instanceMethod yX0_setting, .selects RX0 yX0_setting yX0_setting, .initialized RX0, .code yX0_setting cX0_setting 2 (some .int), .fieldLink RX0 9 "WarmRods$Clock" "settings" "[I"] ++ wsX70 ++ wsX00 ++ wsX10 ++ wsX50 ++ wsX40 ++ wsX20 ++ wsX30)
def wsX7_bitsOf : List Cond := .code yX7_bitsOf cX7_bitsOf 8 (some .long) :: ([.constantLong RX7 232 (1075), .constantDouble RX7 234 (4841369599423283200), .constantDouble RX7 236 (4611686018427387904), .constantLong RX7 238 (-9223372036854775808), .constantLong RX7 240 (4503599627370496)])
def wsX7_meanRate_r1 : List Cond := [Cond.fieldLink RX7 10 "WarmRods" "clock" "LWarmRods$Clock;", Cond.methodLink RX7 87 yX3_length, Cond.instanceMethod yX3_length, Cond.selects RX3 yX3_length yX3_length, Cond.initialized RX3, Cond.code yX3_length cX3_length 1 (some .int), Cond.fieldLink RX3 15 "WarmRods$Log" "written" "I", Cond.methodLink RX3 19 Lib.Math.min.name, Cond.static Lib.Math.min.name, Cond.initialized "java/lang/Math", Cond.code Lib.Math.min.name Lib.Math.min.code 2 (some .int), Cond.methodLink RX7 129 yX3_sumOfRates, Cond.instanceMethod yX3_sumOfRates, Cond.selects RX3 yX3_sumOfRates yX3_sumOfRates, Cond.code yX3_sumOfRates cX3_sumOfRates 3 (some .int), Cond.methodLink RX3 34 yX3_length, Cond.methodLink RX3 38 yX3_fact, Cond.instanceMethod yX3_fact, Cond.selects RX3 yX3_fact yX3_fact, Cond.code yX3_fact cX3_fact 4 (some .int), Cond.fieldLink RX3 9 "WarmRods$Log" "facts" "[I", Cond.methodLink RX3 31 yX3_placeOf, Cond.instanceMethod yX3_placeOf, Cond.selects RX3 yX3_placeOf yX3_placeOf]
def wsX7_meanRate_r2 : List Cond := [Cond.code yX3_placeOf cX3_placeOf 3 (some .int), Cond.methodLink RX7 132 yX7_bitsOf, Cond.static yX7_bitsOf, Cond.initialized RX7, Cond.code yX7_bitsOf cX7_bitsOf 8 (some .long), Cond.constantLong RX7 232 (1075), Cond.constantDouble RX7 234 (4841369599423283200), Cond.constantDouble RX7 236 (4611686018427387904), Cond.constantLong RX7 238 (-9223372036854775808), Cond.constantLong RX7 240 (4503599627370496)]
def wsX7_meanRate : List Cond := .code yX7_meanRate cX7_meanRate 2 (some .long) :: ((wsX7_meanRate_r1 ++ wsX7_meanRate_r2) ++ wsX70 ++ wsX00 ++ wsX30)
def wsX7_ofLog_r1 : List Cond := [Cond.fieldLink RX7 10 "WarmRods" "clock" "LWarmRods$Clock;", Cond.constant RX7 139 (100000), Cond.methodLink RX7 87 yX3_length, Cond.instanceMethod yX3_length, Cond.selects RX3 yX3_length yX3_length, Cond.initialized RX3, Cond.code yX3_length cX3_length 1 (some .int), Cond.fieldLink RX3 15 "WarmRods$Log" "written" "I", Cond.methodLink RX3 19 Lib.Math.min.name, Cond.static Lib.Math.min.name, Cond.initialized "java/lang/Math", Cond.code Lib.Math.min.name Lib.Math.min.code 2 (some .int), Cond.methodLink RX7 136 yX3_greatestRate, Cond.instanceMethod yX3_greatestRate, Cond.selects RX3 yX3_greatestRate yX3_greatestRate, Cond.code yX3_greatestRate cX3_greatestRate 3 (some .int), Cond.methodLink RX3 41 Lib.Math.max.name, Cond.static Lib.Math.max.name, Cond.code Lib.Math.max.name Lib.Math.max.code 2 (some .int), Cond.methodLink RX3 38 yX3_fact, Cond.instanceMethod yX3_fact, Cond.selects RX3 yX3_fact yX3_fact, Cond.code yX3_fact cX3_fact 4 (some .int), Cond.fieldLink RX3 9 "WarmRods$Log" "facts" "[I"]
def wsX7_ofLog_r2 : List Cond := [Cond.methodLink RX3 31 yX3_placeOf, Cond.instanceMethod yX3_placeOf, Cond.selects RX3 yX3_placeOf yX3_placeOf, Cond.code yX3_placeOf cX3_placeOf 3 (some .int), Cond.methodLink RX3 34 yX3_length, Cond.methodLink RX7 140 yX3_leastRate, Cond.instanceMethod yX3_leastRate, Cond.selects RX3 yX3_leastRate yX3_leastRate, Cond.code yX3_leastRate cX3_leastRate 3 (some .int), Cond.methodLink RX7 143 yX3_countAboveZero, Cond.instanceMethod yX3_countAboveZero, Cond.selects RX3 yX3_countAboveZero yX3_countAboveZero, Cond.code yX3_countAboveZero cX3_countAboveZero 4 (some .int), Cond.methodLink RX7 146 yX3_countOtherTrays, Cond.instanceMethod yX3_countOtherTrays, Cond.selects RX3 yX3_countOtherTrays yX3_countOtherTrays, Cond.code yX3_countOtherTrays cX3_countOtherTrays 3 (some .int)]
def wsX7_ofLog : List Cond := .code yX7_ofLog cX7_ofLog 2 (some .int) :: ((wsX7_ofLog_r1 ++ wsX7_ofLog_r2) ++ wsX70 ++ wsX00 ++ wsX30)
def wsX7_rate : List Cond := .code yX7_rate cX7_rate 3 (some .int) :: ([.fieldLink RX7 10 "WarmRods" "clock" "LWarmRods$Clock;", .constant RX7 139 (100000), .methodLink RX7 149 yX7_isHeat, .static yX7_isHeat, .initialized RX7, .code yX7_isHeat cX7_isHeat 1 (some .boolean), .methodLink RX7 153 yX7_isAir, .static yX7_isAir, .code yX7_isAir cX7_isAir 1 (some .boolean), .methodLink RX7 156 yX0_rateIn, .instanceMethod yX0_rateIn, .selects RX0 yX0_rateIn yX0_rateIn, .initialized RX0, .code yX0_rateIn cX0_rateIn 3 (some .int), .fieldLink RX0 42 "WarmRods$Clock" "tray" "I", .methodLink RX0 65 yX0_bareRateIn, .instanceMethod yX0_bareRateIn, .selects RX0 yX0_bareRateIn yX0_bareRateIn, .code yX0_bareRateIn cX0_bareRateIn 3 (some .int), .methodLink RX0 61 yX0_setting, .instanceMethod yX0_setting, .selects RX0 yX0_setting yX0_setting, .code yX0_setting cX0_setting 2 (some .int), .fieldLink RX0 9 "WarmRods$Clock" "settings" "[I"] ++ wsX70 ++ wsX00)
def wsX7_bestWeights : List Cond := .code yX7_bestWeights cX7_bestWeights 7 (some .int) :: ([.fieldLink RX7 10 "WarmRods" "clock" "LWarmRods$Clock;", .methodLink RX7 162 Lib.Math.abs.name, .static Lib.Math.abs.name, .initialized "java/lang/Math", .code Lib.Math.abs.name Lib.Math.abs.code 1 (some .int), .constant RX7 139 (100000), .methodLink RX7 149 yX7_isHeat, .static yX7_isHeat, .initialized RX7, .code yX7_isHeat cX7_isHeat 1 (some .boolean), .methodLink RX7 153 yX7_isAir, .static yX7_isAir, .code yX7_isAir cX7_isAir 1 (some .boolean), .methodLink RX7 159 yX0_bareRateIn, .instanceMethod yX0_bareRateIn, .selects RX0 yX0_bareRateIn yX0_bareRateIn, .initialized RX0, .code yX0_bareRateIn cX0_bareRateIn 3 (some .int), .methodLink RX0 61 yX0_setting, .instanceMethod yX0_setting, .selects RX0 yX0_setting yX0_setting, .code yX0_setting cX0_setting 2 (some .int), .fieldLink RX0 9 "WarmRods$Clock" "settings" "[I"] ++ wsX70 ++ wsX00)
def wsX7_offIn_r1 : List Cond := [Cond.fieldLink RX7 10 "WarmRods" "clock" "LWarmRods$Clock;", Cond.fieldLink RX7 43 "WarmRods" "scratch" "LWarmRods$Drift;", Cond.methodLink RX7 149 yX7_isHeat, Cond.static yX7_isHeat, Cond.initialized RX7, Cond.code yX7_isHeat cX7_isHeat 1 (some .boolean), Cond.methodLink RX7 153 yX7_isAir, Cond.static yX7_isAir, Cond.code yX7_isAir cX7_isAir 1 (some .boolean), Cond.methodLink RX7 156 yX0_rateIn, Cond.instanceMethod yX0_rateIn, Cond.selects RX0 yX0_rateIn yX0_rateIn, Cond.initialized RX0, Cond.code yX0_rateIn cX0_rateIn 3 (some .int), Cond.fieldLink RX0 42 "WarmRods$Clock" "tray" "I", Cond.methodLink RX0 65 yX0_bareRateIn, Cond.instanceMethod yX0_bareRateIn, Cond.selects RX0 yX0_bareRateIn yX0_bareRateIn, Cond.code yX0_bareRateIn cX0_bareRateIn 3 (some .int), Cond.methodLink RX0 61 yX0_setting, Cond.instanceMethod yX0_setting, Cond.selects RX0 yX0_setting yX0_setting, Cond.code yX0_setting cX0_setting 2 (some .int), Cond.fieldLink RX0 9 "WarmRods$Clock" "settings" "[I"]
def wsX7_offIn_r2 : List Cond := [Cond.methodLink RX7 115 yX0_setting, Cond.methodLink RX7 167 yX1_become, Cond.instanceMethod yX1_become, Cond.selects RX1 yX1_become yX1_become, Cond.initialized RX1, Cond.code yX1_become cX1_become 2 none, Cond.fieldLink RX1 7 "WarmRods$Drift" "off" "I", Cond.fieldLink RX1 13 "WarmRods$Drift" "carried" "I", Cond.methodLink RX7 171 yX1_isMoreThan, Cond.instanceMethod yX1_isMoreThan, Cond.selects RX1 yX1_isMoreThan yX1_isMoreThan, Cond.code yX1_isMoreThan cX1_isMoreThan 2 (some .boolean), Cond.methodLink RX7 174 yX1_addHour, Cond.instanceMethod yX1_addHour, Cond.selects RX1 yX1_addHour yX1_addHour, Cond.code yX1_addHour cX1_addHour 3 none]
def wsX7_offIn : List Cond := .code yX7_offIn cX7_offIn 6 (some .int) :: ((wsX7_offIn_r1 ++ wsX7_offIn_r2) ++ wsX70 ++ wsX00 ++ wsX10)
def wsX7_replay_r1 : List Cond := [Cond.fieldLink RX7 43 "WarmRods" "scratch" "LWarmRods$Drift;", Cond.fieldLink RX7 10 "WarmRods" "clock" "LWarmRods$Clock;", Cond.fieldLink RX7 75 "WarmRods$Drift" "off" "I", Cond.constant RX7 82 (1000000000), Cond.methodLink RX7 79 yX1_clear, Cond.instanceMethod yX1_clear, Cond.selects RX1 yX1_clear yX1_clear, Cond.initialized RX1, Cond.code yX1_clear cX1_clear 1 none, Cond.fieldLink RX1 7 "WarmRods$Drift" "off" "I", Cond.fieldLink RX1 13 "WarmRods$Drift" "carried" "I", Cond.methodLink RX7 87 yX3_length, Cond.instanceMethod yX3_length, Cond.selects RX3 yX3_length yX3_length, Cond.initialized RX3, Cond.code yX3_length cX3_length 1 (some .int), Cond.fieldLink RX3 15 "WarmRods$Log" "written" "I", Cond.methodLink RX3 19 Lib.Math.min.name, Cond.static Lib.Math.min.name, Cond.initialized "java/lang/Math", Cond.code Lib.Math.min.name Lib.Math.min.code 2 (some .int), Cond.methodLink RX7 97 yX3_fact, Cond.instanceMethod yX3_fact, Cond.selects RX3 yX3_fact yX3_fact]
def wsX7_replay_r2 : List Cond := [Cond.code yX3_fact cX3_fact 4 (some .int), Cond.fieldLink RX3 9 "WarmRods$Log" "facts" "[I", Cond.methodLink RX3 31 yX3_placeOf, Cond.instanceMethod yX3_placeOf, Cond.selects RX3 yX3_placeOf yX3_placeOf, Cond.code yX3_placeOf cX3_placeOf 3 (some .int), Cond.methodLink RX7 156 yX0_rateIn, Cond.instanceMethod yX0_rateIn, Cond.selects RX0 yX0_rateIn yX0_rateIn, Cond.initialized RX0, Cond.code yX0_rateIn cX0_rateIn 3 (some .int), Cond.fieldLink RX0 42 "WarmRods$Clock" "tray" "I", Cond.methodLink RX0 65 yX0_bareRateIn, Cond.instanceMethod yX0_bareRateIn, Cond.selects RX0 yX0_bareRateIn yX0_bareRateIn, Cond.code yX0_bareRateIn cX0_bareRateIn 3 (some .int), Cond.methodLink RX0 61 yX0_setting, Cond.instanceMethod yX0_setting, Cond.selects RX0 yX0_setting yX0_setting, Cond.code yX0_setting cX0_setting 2 (some .int), Cond.fieldLink RX0 9 "WarmRods$Clock" "settings" "[I", Cond.methodLink RX7 174 yX1_addHour, Cond.instanceMethod yX1_addHour, Cond.selects RX1 yX1_addHour yX1_addHour]
def wsX7_replay_r3 : List Cond := [Cond.code yX1_addHour cX1_addHour 3 none]
def wsX7_replay : List Cond := .code yX7_replay cX7_replay 2 (some .int) :: ((wsX7_replay_r1 ++ (wsX7_replay_r2 ++ wsX7_replay_r3)) ++ wsX70 ++ wsX00 ++ wsX10 ++ wsX30)
def wsX7_coolest : List Cond := .code yX7_coolest cX7_coolest 3 (some .int) :: ([.fieldLink RX7 10 "WarmRods" "clock" "LWarmRods$Clock;", .methodLink RX7 153 yX7_isAir, .static yX7_isAir, .initialized RX7, .code yX7_isAir cX7_isAir 1 (some .boolean), .methodLink RX7 156 yX0_rateIn, .instanceMethod yX0_rateIn, .selects RX0 yX0_rateIn yX0_rateIn, .initialized RX0, .code yX0_rateIn cX0_rateIn 3 (some .int), .fieldLink RX0 42 "WarmRods$Clock" "tray" "I", .methodLink RX0 65 yX0_bareRateIn, .instanceMethod yX0_bareRateIn, .selects RX0 yX0_bareRateIn yX0_bareRateIn, .code yX0_bareRateIn cX0_bareRateIn 3 (some .int), .methodLink RX0 61 yX0_setting, .instanceMethod yX0_setting, .selects RX0 yX0_setting yX0_setting, .code yX0_setting cX0_setting 2 (some .int), .fieldLink RX0 9 "WarmRods$Clock" "settings" "[I"] ++ wsX70 ++ wsX00)
def wsX7_codeAt : List Cond := .code yX7_codeAt cX7_codeAt 3 (some .int) :: ([])
def wsX7_signsIn : List Cond := .code yX7_signsIn cX7_signsIn 4 (some .int) :: ([.methodLink RX7 182 yX7_codeAt, .static yX7_codeAt, .initialized RX7, .code yX7_codeAt cX7_codeAt 3 (some .int)])
def wsX7_put : List Cond := .code yX7_put cX7_put 5 (some .int) :: ([.fieldLink RX7 36 "WarmRods" "reader" "LWarmRods$Reader;", .methodLink RX7 178 yX7_signsIn, .static yX7_signsIn, .initialized RX7, .code yX7_signsIn cX7_signsIn 4 (some .int), .methodLink RX7 182 yX7_codeAt, .static yX7_codeAt, .code yX7_codeAt cX7_codeAt 3 (some .int), .methodLink RX7 186 yX4_append, .instanceMethod yX4_append, .selects RX4 yX4_append yX4_append, .initialized RX4, .code yX4_append cX4_append 2 none, .fieldLink RX4 15 "WarmRods$Pad" "length" "I", .fieldLink RX4 9 "WarmRods$Pad" "signs" "[C"] ++ wsX70 ++ wsX50 ++ wsX40)
def wsX7_wipe : List Cond := .code yX7_wipe cX7_wipe 2 (some .int) :: ([.fieldLink RX7 36 "WarmRods" "reader" "LWarmRods$Reader;"] ++ wsX70 ++ wsX50 ++ wsX40)
def wsX7_fault_r1 : List Cond := [Cond.fieldLink RX7 36 "WarmRods" "reader" "LWarmRods$Reader;", Cond.methodLink RX7 190 yX5_firstFault, Cond.instanceMethod yX5_firstFault, Cond.selects RX5 yX5_firstFault yX5_firstFault, Cond.initialized RX5, Cond.code yX5_firstFault cX5_firstFault 2 (some .int), Cond.fieldLink RX5 18 "WarmRods$Reader" "place" "I", Cond.fieldLink RX5 12 "WarmRods$Reader" "pad" "LWarmRods$Pad;", Cond.methodLink RX5 22 yX5_start, Cond.instanceMethod yX5_start, Cond.selects RX5 yX5_start yX5_start, Cond.code yX5_start cX5_start 1 none, Cond.methodLink RX5 25 yX5_readOrder, Cond.instanceMethod yX5_readOrder, Cond.selects RX5 yX5_readOrder yX5_readOrder, Cond.code yX5_readOrder cX5_readOrder 1 (some .boolean), Cond.fieldLink RX5 40 "WarmRods$Reader" "order" "I", Cond.methodLink RX5 36 yX4_signAt, Cond.instanceMethod yX4_signAt, Cond.selects RX4 yX4_signAt yX4_signAt, Cond.initialized RX4, Cond.code yX4_signAt cX4_signAt 2 (some .int), Cond.fieldLink RX4 15 "WarmRods$Pad" "length" "I", Cond.fieldLink RX4 9 "WarmRods$Pad" "signs" "[C"]
def wsX7_fault_r2 : List Cond := [Cond.methodLink RX5 43 yX5_readHours, Cond.instanceMethod yX5_readHours, Cond.selects RX5 yX5_readHours yX5_readHours, Cond.code yX5_readHours cX5_readHours 1 (some .boolean), Cond.fieldLink RX5 55 "WarmRods$Reader" "number" "I", Cond.fieldLink RX5 58 "WarmRods$Reader" "air" "I", Cond.fieldLink RX5 61 "WarmRods$Reader" "radio" "I", Cond.fieldLink RX5 64 "WarmRods$Reader" "hours" "I", Cond.methodLink RX5 49 yX5_readValue, Cond.instanceMethod yX5_readValue, Cond.selects RX5 yX5_readValue yX5_readValue, Cond.code yX5_readValue cX5_readValue 2 (some .boolean), Cond.fieldLink RX5 67 "WarmRods$Reader" "value" "I", Cond.methodLink RX5 32 yX5_readSign, Cond.instanceMethod yX5_readSign, Cond.selects RX5 yX5_readSign yX5_readSign, Cond.code yX5_readSign cX5_readSign 2 (some .boolean), Cond.methodLink RX5 52 yX5_readNumber, Cond.instanceMethod yX5_readNumber, Cond.selects RX5 yX5_readNumber yX5_readNumber, Cond.code yX5_readNumber cX5_readNumber 2 (some .boolean), Cond.methodLink RX5 70 yX5_isDigit, Cond.static yX5_isDigit, Cond.code yX5_isDigit cX5_isDigit 1 (some .boolean)]
def wsX7_fault_r3 : List Cond := [Cond.methodLink RX5 46 yX5_readWeight, Cond.instanceMethod yX5_readWeight, Cond.selects RX5 yX5_readWeight yX5_readWeight, Cond.code yX5_readWeight cX5_readWeight 2 (some .boolean)]
def wsX7_fault : List Cond := .code yX7_fault cX7_fault 1 (some .int) :: ((wsX7_fault_r1 ++ (wsX7_fault_r2 ++ wsX7_fault_r3)) ++ wsX70 ++ wsX50 ++ wsX40)
def wsX7_carryOutOrder_r1 : List Cond := [Cond.fieldLink RX7 36 "WarmRods" "reader" "LWarmRods$Reader;", Cond.fieldLink RX7 10 "WarmRods" "clock" "LWarmRods$Clock;", Cond.methodLink RX7 65 yX0_errorOfHours, Cond.instanceMethod yX0_errorOfHours, Cond.selects RX0 yX0_errorOfHours yX0_errorOfHours, Cond.initialized RX0, Cond.code yX0_errorOfHours cX0_errorOfHours 5 (some .int), Cond.fieldLink RX0 46 "WarmRods$Clock" "hours" "I", Cond.static yX7_isHeat, Cond.initialized RX7, Cond.code yX7_isHeat cX7_isHeat 1 (some .boolean), Cond.static yX7_isAir, Cond.code yX7_isAir cX7_isAir 1 (some .boolean), Cond.methodLink RX7 69 yX0_goHours, Cond.instanceMethod yX0_goHours, Cond.selects RX0 yX0_goHours yX0_goHours, Cond.code yX0_goHours cX0_goHours 7 (some .int), Cond.fieldLink RX0 52 "WarmRods$Clock" "timesSet" "I", Cond.methodLink RX0 76 yX0_goHour, Cond.instanceMethod yX0_goHour, Cond.selects RX0 yX0_goHour yX0_goHour, Cond.code yX0_goHour cX0_goHour 6 none, Cond.fieldLink RX0 18 "WarmRods$Clock" "drift" "LWarmRods$Drift;", Cond.fieldLink RX0 25 "WarmRods$Clock" "log" "LWarmRods$Log;"]
def wsX7_carryOutOrder_r2 : List Cond := [Cond.fieldLink RX0 97 "WarmRods$Drift" "off" "I", Cond.fieldLink RX0 42 "WarmRods$Clock" "tray" "I", Cond.fieldLink RX0 49 "WarmRods$Clock" "radioHours" "I", Cond.methodLink RX0 80 yX0_rateIn, Cond.instanceMethod yX0_rateIn, Cond.selects RX0 yX0_rateIn yX0_rateIn, Cond.code yX0_rateIn cX0_rateIn 3 (some .int), Cond.methodLink RX0 65 yX0_bareRateIn, Cond.instanceMethod yX0_bareRateIn, Cond.selects RX0 yX0_bareRateIn yX0_bareRateIn, Cond.code yX0_bareRateIn cX0_bareRateIn 3 (some .int), Cond.methodLink RX0 61 yX0_setting, Cond.instanceMethod yX0_setting, Cond.selects RX0 yX0_setting yX0_setting, Cond.code yX0_setting cX0_setting 2 (some .int), Cond.fieldLink RX0 9 "WarmRods$Clock" "settings" "[I", Cond.methodLink RX0 83 yX1_addHour, Cond.instanceMethod yX1_addHour, Cond.selects RX1 yX1_addHour yX1_addHour, Cond.initialized RX1, Cond.code yX1_addHour cX1_addHour 3 none, Cond.fieldLink RX1 13 "WarmRods$Drift" "carried" "I", Cond.fieldLink RX1 7 "WarmRods$Drift" "off" "I", Cond.methodLink RX0 87 yX1_isMoreThan]
def wsX7_carryOutOrder_r3 : List Cond := [Cond.instanceMethod yX1_isMoreThan, Cond.selects RX1 yX1_isMoreThan yX1_isMoreThan, Cond.code yX1_isMoreThan cX1_isMoreThan 2 (some .boolean), Cond.methodLink RX0 90 yX3_open, Cond.instanceMethod yX3_open, Cond.selects RX3 yX3_open yX3_open, Cond.initialized RX3, Cond.code yX3_open cX3_open 1 none, Cond.fieldLink RX3 15 "WarmRods$Log" "written" "I", Cond.methodLink RX0 93 yX3_write, Cond.instanceMethod yX3_write, Cond.selects RX3 yX3_write yX3_write, Cond.code yX3_write cX3_write 4 none, Cond.fieldLink RX3 9 "WarmRods$Log" "facts" "[I", Cond.methodLink RX3 31 yX3_placeOf, Cond.instanceMethod yX3_placeOf, Cond.selects RX3 yX3_placeOf yX3_placeOf, Cond.code yX3_placeOf cX3_placeOf 3 (some .int), Cond.methodLink RX0 100 yX0_correct, Cond.instanceMethod yX0_correct, Cond.selects RX0 yX0_correct yX0_correct, Cond.code yX0_correct cX0_correct 1 none, Cond.methodLink RX0 103 yX1_clear, Cond.instanceMethod yX1_clear]
def wsX7_carryOutOrder_r4 : List Cond := [Cond.selects RX1 yX1_clear yX1_clear, Cond.code yX1_clear cX1_clear 1 none, Cond.methodLink RX7 58 yX0_errorOfWeight, Cond.instanceMethod yX0_errorOfWeight, Cond.selects RX0 yX0_errorOfWeight yX0_errorOfWeight, Cond.code yX0_errorOfWeight cX0_errorOfWeight 2 (some .int), Cond.methodLink RX7 62 yX0_moveWeight, Cond.instanceMethod yX0_moveWeight, Cond.selects RX0 yX0_moveWeight yX0_moveWeight, Cond.code yX0_moveWeight cX0_moveWeight 2 (some .int), Cond.methodLink RX7 47 yX0_errorOfSetting, Cond.instanceMethod yX0_errorOfSetting, Cond.selects RX0 yX0_errorOfSetting yX0_errorOfSetting, Cond.code yX0_errorOfSetting cX0_errorOfSetting 3 (some .int), Cond.methodLink RX7 55 yX0_changeSetting, Cond.instanceMethod yX0_changeSetting, Cond.selects RX0 yX0_changeSetting yX0_changeSetting, Cond.code yX0_changeSetting cX0_changeSetting 4 (some .int), Cond.methodLink RX7 79 yX1_clear]
def wsX7_carryOutOrder : List Cond := .code yX7_carryOutOrder cX7_carryOutOrder 1 (some .boolean) :: ((wsX7_carryOutOrder_r1 ++ (wsX7_carryOutOrder_r2 ++ (wsX7_carryOutOrder_r3 ++ wsX7_carryOutOrder_r4))) ++ wsX70 ++ wsX50 ++ wsX00 ++ wsX10 ++ wsX30)
def wsX7_carryOut_r1 : List Cond := [Cond.fieldLink RX7 36 "WarmRods" "reader" "LWarmRods$Reader;", Cond.fieldLink RX7 19 "WarmRods" "history" "LWarmRods$History;", Cond.fieldLink RX7 10 "WarmRods" "clock" "LWarmRods$Clock;", Cond.methodLink RX7 190 yX5_firstFault, Cond.instanceMethod yX5_firstFault, Cond.selects RX5 yX5_firstFault yX5_firstFault, Cond.initialized RX5, Cond.code yX5_firstFault cX5_firstFault 2 (some .int), Cond.fieldLink RX5 18 "WarmRods$Reader" "place" "I", Cond.fieldLink RX5 12 "WarmRods$Reader" "pad" "LWarmRods$Pad;", Cond.methodLink RX5 22 yX5_start, Cond.instanceMethod yX5_start, Cond.selects RX5 yX5_start yX5_start, Cond.code yX5_start cX5_start 1 none, Cond.methodLink RX5 25 yX5_readOrder, Cond.instanceMethod yX5_readOrder, Cond.selects RX5 yX5_readOrder yX5_readOrder, Cond.code yX5_readOrder cX5_readOrder 1 (some .boolean), Cond.fieldLink RX5 40 "WarmRods$Reader" "order" "I", Cond.methodLink RX5 36 yX4_signAt, Cond.instanceMethod yX4_signAt, Cond.selects RX4 yX4_signAt yX4_signAt, Cond.initialized RX4, Cond.code yX4_signAt cX4_signAt 2 (some .int)]
def wsX7_carryOut_r2 : List Cond := [Cond.fieldLink RX4 15 "WarmRods$Pad" "length" "I", Cond.fieldLink RX4 9 "WarmRods$Pad" "signs" "[C", Cond.methodLink RX5 43 yX5_readHours, Cond.instanceMethod yX5_readHours, Cond.selects RX5 yX5_readHours yX5_readHours, Cond.code yX5_readHours cX5_readHours 1 (some .boolean), Cond.fieldLink RX5 55 "WarmRods$Reader" "number" "I", Cond.fieldLink RX5 58 "WarmRods$Reader" "air" "I", Cond.fieldLink RX5 61 "WarmRods$Reader" "radio" "I", Cond.fieldLink RX5 64 "WarmRods$Reader" "hours" "I", Cond.methodLink RX5 49 yX5_readValue, Cond.instanceMethod yX5_readValue, Cond.selects RX5 yX5_readValue yX5_readValue, Cond.code yX5_readValue cX5_readValue 2 (some .boolean), Cond.fieldLink RX5 67 "WarmRods$Reader" "value" "I", Cond.methodLink RX5 32 yX5_readSign, Cond.instanceMethod yX5_readSign, Cond.selects RX5 yX5_readSign yX5_readSign, Cond.code yX5_readSign cX5_readSign 2 (some .boolean), Cond.methodLink RX5 52 yX5_readNumber, Cond.instanceMethod yX5_readNumber, Cond.selects RX5 yX5_readNumber yX5_readNumber, Cond.code yX5_readNumber cX5_readNumber 2 (some .boolean), Cond.methodLink RX5 70 yX5_isDigit]
def wsX7_carryOut_r3 : List Cond := [Cond.static yX5_isDigit, Cond.code yX5_isDigit cX5_isDigit 1 (some .boolean), Cond.methodLink RX5 46 yX5_readWeight, Cond.instanceMethod yX5_readWeight, Cond.selects RX5 yX5_readWeight yX5_readWeight, Cond.code yX5_readWeight cX5_readWeight 2 (some .boolean), Cond.methodLink RX7 51 yX2_record, Cond.instanceMethod yX2_record, Cond.selects RX2 yX2_record yX2_record, Cond.initialized RX2, Cond.code yX2_record cX2_record 4 none, Cond.fieldLink RX2 11 "WarmRods$History" "states" "[LWarmRods$Clock;", Cond.fieldLink RX2 22 "WarmRods$History" "kept" "I", Cond.methodLink RX2 26 Lib.Math.min.name, Cond.static Lib.Math.min.name, Cond.initialized "java/lang/Math", Cond.code Lib.Math.min.name Lib.Math.min.code 2 (some .int), Cond.methodLink RX2 18 yX0_become, Cond.instanceMethod yX0_become, Cond.selects RX0 yX0_become yX0_become, Cond.initialized RX0, Cond.code yX0_become cX0_become 2 none, Cond.fieldLink RX0 9 "WarmRods$Clock" "settings" "[I", Cond.methodLink RX0 29 arraycopyName]
def wsX7_carryOut_r4 : List Cond := [Cond.native arraycopyName, Cond.static arraycopyName, Cond.initialized "java/lang/System", Cond.fieldLink RX0 18 "WarmRods$Clock" "drift" "LWarmRods$Drift;", Cond.fieldLink RX0 25 "WarmRods$Clock" "log" "LWarmRods$Log;", Cond.fieldLink RX0 42 "WarmRods$Clock" "tray" "I", Cond.fieldLink RX0 46 "WarmRods$Clock" "hours" "I", Cond.fieldLink RX0 49 "WarmRods$Clock" "radioHours" "I", Cond.fieldLink RX0 52 "WarmRods$Clock" "timesSet" "I", Cond.methodLink RX0 35 yX1_become, Cond.instanceMethod yX1_become, Cond.selects RX1 yX1_become yX1_become, Cond.initialized RX1, Cond.code yX1_become cX1_become 2 none, Cond.fieldLink RX1 7 "WarmRods$Drift" "off" "I", Cond.fieldLink RX1 13 "WarmRods$Drift" "carried" "I", Cond.methodLink RX0 39 yX3_become, Cond.instanceMethod yX3_become, Cond.selects RX3 yX3_become yX3_become, Cond.initialized RX3, Cond.code yX3_become cX3_become 2 none, Cond.fieldLink RX3 9 "WarmRods$Log" "facts" "[I", Cond.methodLink RX3 25 arraycopyName, Cond.fieldLink RX3 15 "WarmRods$Log" "written" "I"]
def wsX7_carryOut_r5 : List Cond := [Cond.methodLink RX7 193 yX5_start, Cond.methodLink RX7 196 yX5_readOrder, Cond.methodLink RX7 200 yX7_carryOutOrder, Cond.instanceMethod yX7_carryOutOrder, Cond.selects RX7 yX7_carryOutOrder yX7_carryOutOrder, Cond.initialized RX7, Cond.code yX7_carryOutOrder cX7_carryOutOrder 1 (some .boolean), Cond.methodLink RX7 65 yX0_errorOfHours, Cond.instanceMethod yX0_errorOfHours, Cond.selects RX0 yX0_errorOfHours yX0_errorOfHours, Cond.code yX0_errorOfHours cX0_errorOfHours 5 (some .int), Cond.static yX7_isHeat, Cond.code yX7_isHeat cX7_isHeat 1 (some .boolean), Cond.static yX7_isAir, Cond.code yX7_isAir cX7_isAir 1 (some .boolean), Cond.methodLink RX7 69 yX0_goHours, Cond.instanceMethod yX0_goHours, Cond.selects RX0 yX0_goHours yX0_goHours, Cond.code yX0_goHours cX0_goHours 7 (some .int), Cond.methodLink RX0 76 yX0_goHour, Cond.instanceMethod yX0_goHour, Cond.selects RX0 yX0_goHour yX0_goHour, Cond.code yX0_goHour cX0_goHour 6 none, Cond.fieldLink RX0 97 "WarmRods$Drift" "off" "I"]
def wsX7_carryOut_r6 : List Cond := [Cond.methodLink RX0 80 yX0_rateIn, Cond.instanceMethod yX0_rateIn, Cond.selects RX0 yX0_rateIn yX0_rateIn, Cond.code yX0_rateIn cX0_rateIn 3 (some .int), Cond.methodLink RX0 65 yX0_bareRateIn, Cond.instanceMethod yX0_bareRateIn, Cond.selects RX0 yX0_bareRateIn yX0_bareRateIn, Cond.code yX0_bareRateIn cX0_bareRateIn 3 (some .int), Cond.methodLink RX0 61 yX0_setting, Cond.instanceMethod yX0_setting, Cond.selects RX0 yX0_setting yX0_setting, Cond.code yX0_setting cX0_setting 2 (some .int), Cond.methodLink RX0 83 yX1_addHour, Cond.instanceMethod yX1_addHour, Cond.selects RX1 yX1_addHour yX1_addHour, Cond.code yX1_addHour cX1_addHour 3 none, Cond.methodLink RX0 87 yX1_isMoreThan, Cond.instanceMethod yX1_isMoreThan, Cond.selects RX1 yX1_isMoreThan yX1_isMoreThan, Cond.code yX1_isMoreThan cX1_isMoreThan 2 (some .boolean), Cond.methodLink RX0 90 yX3_open, Cond.instanceMethod yX3_open, Cond.selects RX3 yX3_open yX3_open, Cond.code yX3_open cX3_open 1 none]
def wsX7_carryOut_r7 : List Cond := [Cond.methodLink RX0 93 yX3_write, Cond.instanceMethod yX3_write, Cond.selects RX3 yX3_write yX3_write, Cond.code yX3_write cX3_write 4 none, Cond.methodLink RX3 31 yX3_placeOf, Cond.instanceMethod yX3_placeOf, Cond.selects RX3 yX3_placeOf yX3_placeOf, Cond.code yX3_placeOf cX3_placeOf 3 (some .int), Cond.methodLink RX0 100 yX0_correct, Cond.instanceMethod yX0_correct, Cond.selects RX0 yX0_correct yX0_correct, Cond.code yX0_correct cX0_correct 1 none, Cond.methodLink RX0 103 yX1_clear, Cond.instanceMethod yX1_clear, Cond.selects RX1 yX1_clear yX1_clear, Cond.code yX1_clear cX1_clear 1 none, Cond.methodLink RX7 58 yX0_errorOfWeight, Cond.instanceMethod yX0_errorOfWeight, Cond.selects RX0 yX0_errorOfWeight yX0_errorOfWeight, Cond.code yX0_errorOfWeight cX0_errorOfWeight 2 (some .int), Cond.methodLink RX7 62 yX0_moveWeight, Cond.instanceMethod yX0_moveWeight, Cond.selects RX0 yX0_moveWeight yX0_moveWeight, Cond.code yX0_moveWeight cX0_moveWeight 2 (some .int)]
def wsX7_carryOut_r8 : List Cond := [Cond.methodLink RX7 47 yX0_errorOfSetting, Cond.instanceMethod yX0_errorOfSetting, Cond.selects RX0 yX0_errorOfSetting yX0_errorOfSetting, Cond.code yX0_errorOfSetting cX0_errorOfSetting 3 (some .int), Cond.methodLink RX7 55 yX0_changeSetting, Cond.instanceMethod yX0_changeSetting, Cond.selects RX0 yX0_changeSetting yX0_changeSetting, Cond.code yX0_changeSetting cX0_changeSetting 4 (some .int), Cond.methodLink RX7 79 yX1_clear, Cond.methodLink RX7 203 yX5_readSign]
def wsX7_carryOut : List Cond := .code yX7_carryOut cX7_carryOut 3 (some .int) :: ((wsX7_carryOut_r1 ++ (wsX7_carryOut_r2 ++ (wsX7_carryOut_r3 ++ (wsX7_carryOut_r4 ++ (wsX7_carryOut_r5 ++ (wsX7_carryOut_r6 ++ (wsX7_carryOut_r7 ++ wsX7_carryOut_r8))))))) ++ wsX70 ++ wsX50 ++ wsX40 ++ wsX20 ++ wsX00 ++ wsX10 ++ wsX30)
def wsX7_undo_r1 : List Cond := [Cond.fieldLink RX7 19 "WarmRods" "history" "LWarmRods$History;", Cond.fieldLink RX7 10 "WarmRods" "clock" "LWarmRods$Clock;", Cond.methodLink RX7 207 yX2_takeBack, Cond.instanceMethod yX2_takeBack, Cond.selects RX2 yX2_takeBack yX2_takeBack, Cond.initialized RX2, Cond.code yX2_takeBack cX2_takeBack 4 none, Cond.fieldLink RX2 11 "WarmRods$History" "states" "[LWarmRods$Clock;", Cond.fieldLink RX2 22 "WarmRods$History" "kept" "I", Cond.methodLink RX2 18 yX0_become, Cond.instanceMethod yX0_become, Cond.selects RX0 yX0_become yX0_become, Cond.initialized RX0, Cond.code yX0_become cX0_become 2 none, Cond.fieldLink RX0 9 "WarmRods$Clock" "settings" "[I", Cond.methodLink RX0 29 arraycopyName, Cond.native arraycopyName, Cond.static arraycopyName, Cond.initialized "java/lang/System", Cond.fieldLink RX0 18 "WarmRods$Clock" "drift" "LWarmRods$Drift;", Cond.fieldLink RX0 25 "WarmRods$Clock" "log" "LWarmRods$Log;", Cond.fieldLink RX0 42 "WarmRods$Clock" "tray" "I", Cond.fieldLink RX0 46 "WarmRods$Clock" "hours" "I", Cond.fieldLink RX0 49 "WarmRods$Clock" "radioHours" "I"]
def wsX7_undo_r2 : List Cond := [Cond.fieldLink RX0 52 "WarmRods$Clock" "timesSet" "I", Cond.methodLink RX0 35 yX1_become, Cond.instanceMethod yX1_become, Cond.selects RX1 yX1_become yX1_become, Cond.initialized RX1, Cond.code yX1_become cX1_become 2 none, Cond.fieldLink RX1 7 "WarmRods$Drift" "off" "I", Cond.fieldLink RX1 13 "WarmRods$Drift" "carried" "I", Cond.methodLink RX0 39 yX3_become, Cond.instanceMethod yX3_become, Cond.selects RX3 yX3_become yX3_become, Cond.initialized RX3, Cond.code yX3_become cX3_become 2 none, Cond.fieldLink RX3 9 "WarmRods$Log" "facts" "[I", Cond.methodLink RX3 25 arraycopyName, Cond.fieldLink RX3 15 "WarmRods$Log" "written" "I"]
def wsX7_undo : List Cond := .code yX7_undo cX7_undo 1 (some .int) :: ((wsX7_undo_r1 ++ wsX7_undo_r2) ++ wsX70 ++ wsX20 ++ wsX00 ++ wsX10 ++ wsX30)
def wsX7_save_r1 : List Cond := [Cond.fieldLink RX7 26 "WarmRods" "firstSlot" "LWarmRods$Slot;", Cond.fieldLink RX7 30 "WarmRods" "secondSlot" "LWarmRods$Slot;", Cond.fieldLink RX7 10 "WarmRods" "clock" "LWarmRods$Clock;", Cond.methodLink RX7 213 yX0_become, Cond.instanceMethod yX0_become, Cond.selects RX0 yX0_become yX0_become, Cond.initialized RX0, Cond.code yX0_become cX0_become 2 none, Cond.fieldLink RX0 9 "WarmRods$Clock" "settings" "[I", Cond.methodLink RX0 29 arraycopyName, Cond.native arraycopyName, Cond.static arraycopyName, Cond.initialized "java/lang/System", Cond.fieldLink RX0 18 "WarmRods$Clock" "drift" "LWarmRods$Drift;", Cond.fieldLink RX0 25 "WarmRods$Clock" "log" "LWarmRods$Log;", Cond.fieldLink RX0 42 "WarmRods$Clock" "tray" "I", Cond.fieldLink RX0 46 "WarmRods$Clock" "hours" "I", Cond.fieldLink RX0 49 "WarmRods$Clock" "radioHours" "I", Cond.fieldLink RX0 52 "WarmRods$Clock" "timesSet" "I", Cond.methodLink RX0 35 yX1_become, Cond.instanceMethod yX1_become, Cond.selects RX1 yX1_become yX1_become, Cond.initialized RX1, Cond.code yX1_become cX1_become 2 none]
def wsX7_save_r2 : List Cond := [Cond.fieldLink RX1 7 "WarmRods$Drift" "off" "I", Cond.fieldLink RX1 13 "WarmRods$Drift" "carried" "I", Cond.methodLink RX0 39 yX3_become, Cond.instanceMethod yX3_become, Cond.selects RX3 yX3_become yX3_become, Cond.initialized RX3, Cond.code yX3_become cX3_become 2 none, Cond.fieldLink RX3 9 "WarmRods$Log" "facts" "[I", Cond.methodLink RX3 25 arraycopyName, Cond.fieldLink RX3 15 "WarmRods$Log" "written" "I"]
def wsX7_save : List Cond := .code yX7_save cX7_save 3 (some .int) :: ((wsX7_save_r1 ++ wsX7_save_r2) ++ wsX70 ++ wsX60 ++ wsX00 ++ wsX10 ++ wsX30)
def wsX7_restore_r1 : List Cond := [Cond.fieldLink RX7 26 "WarmRods" "firstSlot" "LWarmRods$Slot;", Cond.fieldLink RX7 30 "WarmRods" "secondSlot" "LWarmRods$Slot;", Cond.fieldLink RX7 19 "WarmRods" "history" "LWarmRods$History;", Cond.fieldLink RX7 10 "WarmRods" "clock" "LWarmRods$Clock;", Cond.methodLink RX7 51 yX2_record, Cond.instanceMethod yX2_record, Cond.selects RX2 yX2_record yX2_record, Cond.initialized RX2, Cond.code yX2_record cX2_record 4 none, Cond.fieldLink RX2 11 "WarmRods$History" "states" "[LWarmRods$Clock;", Cond.fieldLink RX2 22 "WarmRods$History" "kept" "I", Cond.methodLink RX2 26 Lib.Math.min.name, Cond.static Lib.Math.min.name, Cond.initialized "java/lang/Math", Cond.code Lib.Math.min.name Lib.Math.min.code 2 (some .int), Cond.methodLink RX2 18 yX0_become, Cond.instanceMethod yX0_become, Cond.selects RX0 yX0_become yX0_become, Cond.initialized RX0, Cond.code yX0_become cX0_become 2 none, Cond.fieldLink RX0 9 "WarmRods$Clock" "settings" "[I", Cond.methodLink RX0 29 arraycopyName, Cond.native arraycopyName, Cond.static arraycopyName]
def wsX7_restore_r2 : List Cond := [Cond.initialized "java/lang/System", Cond.fieldLink RX0 18 "WarmRods$Clock" "drift" "LWarmRods$Drift;", Cond.fieldLink RX0 25 "WarmRods$Clock" "log" "LWarmRods$Log;", Cond.fieldLink RX0 42 "WarmRods$Clock" "tray" "I", Cond.fieldLink RX0 46 "WarmRods$Clock" "hours" "I", Cond.fieldLink RX0 49 "WarmRods$Clock" "radioHours" "I", Cond.fieldLink RX0 52 "WarmRods$Clock" "timesSet" "I", Cond.methodLink RX0 35 yX1_become, Cond.instanceMethod yX1_become, Cond.selects RX1 yX1_become yX1_become, Cond.initialized RX1, Cond.code yX1_become cX1_become 2 none, Cond.fieldLink RX1 7 "WarmRods$Drift" "off" "I", Cond.fieldLink RX1 13 "WarmRods$Drift" "carried" "I", Cond.methodLink RX0 39 yX3_become, Cond.instanceMethod yX3_become, Cond.selects RX3 yX3_become yX3_become, Cond.initialized RX3, Cond.code yX3_become cX3_become 2 none, Cond.fieldLink RX3 9 "WarmRods$Log" "facts" "[I", Cond.methodLink RX3 25 arraycopyName, Cond.fieldLink RX3 15 "WarmRods$Log" "written" "I", Cond.methodLink RX7 213 yX0_become]
def wsX7_restore : List Cond := .code yX7_restore cX7_restore 3 (some .int) :: ((wsX7_restore_r1 ++ wsX7_restore_r2) ++ wsX70 ++ wsX60 ++ wsX00 ++ wsX20 ++ wsX10 ++ wsX30)
def wsX8_init : List Cond := .code yX8_init cX8_init 1 none :: ([.methodLink RX8 1 objectInit, .instanceMethod objectInit, .code objectInit ⟨#[0xb1]⟩ 1 none, .arrayClass .int, .fieldLink RX8 7 "WarmRodsModel" "all" "[I", .fieldLink RX8 13 "WarmRodsModel" "kept" "[I", .fieldLink RX8 16 "WarmRodsModel" "history" "[I", .fieldLink RX8 19 "WarmRodsModel" "slots" "[I", .fieldLink RX8 22 "WarmRodsModel" "isSaved" "[I", .fieldLink RX8 25 "WarmRodsModel" "pad" "[I"] ++ wsX80)
def wsX8_in : List Cond := .code yX8_in cX8_in 6 (some .boolean) :: ([])
def wsX8_keep : List Cond := .code yX8_keep cX8_keep 2 none :: ([.fieldLink RX8 13 "WarmRodsModel" "kept" "[I", .fieldLink RX8 7 "WarmRodsModel" "all" "[I"] ++ wsX80)
def wsX8_changed : List Cond := .code yX8_changed cX8_changed 3 (some .int) :: ([.fieldLink RX8 28 "WarmRodsModel" "historyLong" "I", .fieldLink RX8 16 "WarmRodsModel" "history" "[I", .fieldLink RX8 13 "WarmRodsModel" "kept" "[I"] ++ wsX80)
def wsX8_isHeat : List Cond := .code yX8_isHeat cX8_isHeat 1 (some .boolean) :: ([.constantLong RX8 32 (-20), .constantLong RX8 34 (50), .methodLink RX8 36 yX8_in, .static yX8_in, .initialized RX8, .code yX8_in cX8_in 6 (some .boolean)])
def wsX8_isAir : List Cond := .code yX8_isAir cX8_isAir 1 (some .boolean) :: ([.constantLong RX8 40 (800), .constantLong RX8 42 (1200), .methodLink RX8 36 yX8_in, .static yX8_in, .initialized RX8, .code yX8_in cX8_in 6 (some .boolean)])
def wsX8_rateWith : List Cond := .code yX8_rateWith cX8_rateWith 4 (some .int) :: ([.fieldLink RX8 7 "WarmRodsModel" "all" "[I"] ++ wsX80)
def wsX8_rateNow : List Cond := .code yX8_rateNow cX8_rateNow 3 (some .int) :: ([.fieldLink RX8 7 "WarmRodsModel" "all" "[I", .methodLink RX8 44 yX8_rateWith, .instanceMethod yX8_rateWith, .selects RX8 yX8_rateWith yX8_rateWith, .initialized RX8, .code yX8_rateWith cX8_rateWith 4 (some .int)] ++ wsX80)
def wsX8_goes : List Cond := .code yX8_goes cX8_goes 3 none :: ([.fieldLink RX8 48 "WarmRodsModel" "carried" "I", .fieldLink RX8 51 "WarmRodsModel" "off" "I"] ++ wsX80)
def wsX8_isTooFar : List Cond := .code yX8_isTooFar cX8_isTooFar 1 (some .boolean) :: ([.fieldLink RX8 51 "WarmRodsModel" "off" "I", .fieldLink RX8 7 "WarmRodsModel" "all" "[I"] ++ wsX80)
def wsX8_lightest : List Cond := .code yX8_lightest cX8_lightest 3 (some .int) :: ([.fieldLink RX8 7 "WarmRodsModel" "all" "[I"] ++ wsX80)
def wsX8_corrects : List Cond := .code yX8_corrects cX8_corrects 2 none :: ([.fieldLink RX8 51 "WarmRodsModel" "off" "I", .fieldLink RX8 7 "WarmRodsModel" "all" "[I", .fieldLink RX8 48 "WarmRodsModel" "carried" "I", .methodLink RX8 54 yX8_lightest, .instanceMethod yX8_lightest, .selects RX8 yX8_lightest yX8_lightest, .initialized RX8, .code yX8_lightest cX8_lightest 3 (some .int)] ++ wsX80)
def wsX8_passes_r1 : List Cond := [Cond.fieldLink RX8 7 "WarmRodsModel" "all" "[I", Cond.fieldLink RX8 51 "WarmRodsModel" "off" "I", Cond.fieldLink RX8 48 "WarmRodsModel" "carried" "I", Cond.methodLink RX8 58 yX8_rateNow, Cond.instanceMethod yX8_rateNow, Cond.selects RX8 yX8_rateNow yX8_rateNow, Cond.initialized RX8, Cond.code yX8_rateNow cX8_rateNow 3 (some .int), Cond.methodLink RX8 44 yX8_rateWith, Cond.instanceMethod yX8_rateWith, Cond.selects RX8 yX8_rateWith yX8_rateWith, Cond.code yX8_rateWith cX8_rateWith 4 (some .int), Cond.methodLink RX8 62 yX8_goes, Cond.instanceMethod yX8_goes, Cond.selects RX8 yX8_goes yX8_goes, Cond.code yX8_goes cX8_goes 3 none, Cond.methodLink RX8 66 yX8_isTooFar, Cond.instanceMethod yX8_isTooFar, Cond.selects RX8 yX8_isTooFar yX8_isTooFar, Cond.code yX8_isTooFar cX8_isTooFar 1 (some .boolean), Cond.methodLink RX8 70 yX8_corrects, Cond.instanceMethod yX8_corrects, Cond.selects RX8 yX8_corrects yX8_corrects, Cond.code yX8_corrects cX8_corrects 2 none]
def wsX8_passes_r2 : List Cond := [Cond.methodLink RX8 54 yX8_lightest, Cond.instanceMethod yX8_lightest, Cond.selects RX8 yX8_lightest yX8_lightest, Cond.code yX8_lightest cX8_lightest 3 (some .int)]
def wsX8_passes : List Cond := .code yX8_passes cX8_passes 9 (some .boolean) :: ((wsX8_passes_r1 ++ wsX8_passes_r2) ++ wsX80)
def wsX8_isSetting : List Cond := .code yX8_isSetting cX8_isSetting 2 (some .boolean) :: ([.constantLong RX8 73 (99), .constantLong RX8 75 (-500), .constantLong RX8 77 (500), .constantLong RX8 79 (5000), .methodLink RX8 36 yX8_in, .static yX8_in, .initialized RX8, .code yX8_in cX8_in 6 (some .boolean)])
def wsX8_doSet : List Cond := .code yX8_doSet cX8_doSet 4 (some .int) :: ([.fieldLink RX8 7 "WarmRodsModel" "all" "[I", .methodLink RX8 81 yX8_isSetting, .static yX8_isSetting, .initialized RX8, .code yX8_isSetting cX8_isSetting 2 (some .boolean), .constantLong RX8 73 (99), .constantLong RX8 75 (-500), .constantLong RX8 77 (500), .constantLong RX8 79 (5000), .methodLink RX8 36 yX8_in, .static yX8_in, .code yX8_in cX8_in 6 (some .boolean)] ++ wsX80)
def wsX8_doWeight : List Cond := .code yX8_doWeight cX8_doWeight 2 (some .int) :: ([.constantLong RX8 85 (7), .fieldLink RX8 7 "WarmRodsModel" "all" "[I", .methodLink RX8 36 yX8_in, .static yX8_in, .initialized RX8, .code yX8_in cX8_in 6 (some .boolean)] ++ wsX80)
def wsX8_doPass_r1 : List Cond := [Cond.constantLong RX8 73 (99), Cond.fieldLink RX8 7 "WarmRodsModel" "all" "[I", Cond.methodLink RX8 87 yX8_isHeat, Cond.static yX8_isHeat, Cond.initialized RX8, Cond.code yX8_isHeat cX8_isHeat 1 (some .boolean), Cond.constantLong RX8 32 (-20), Cond.constantLong RX8 34 (50), Cond.methodLink RX8 36 yX8_in, Cond.static yX8_in, Cond.code yX8_in cX8_in 6 (some .boolean), Cond.methodLink RX8 91 yX8_isAir, Cond.static yX8_isAir, Cond.code yX8_isAir cX8_isAir 1 (some .boolean), Cond.constantLong RX8 40 (800), Cond.constantLong RX8 42 (1200), Cond.methodLink RX8 94 yX8_passes, Cond.instanceMethod yX8_passes, Cond.selects RX8 yX8_passes yX8_passes, Cond.code yX8_passes cX8_passes 9 (some .boolean), Cond.fieldLink RX8 51 "WarmRodsModel" "off" "I", Cond.fieldLink RX8 48 "WarmRodsModel" "carried" "I", Cond.methodLink RX8 58 yX8_rateNow, Cond.instanceMethod yX8_rateNow]
def wsX8_doPass_r2 : List Cond := [Cond.selects RX8 yX8_rateNow yX8_rateNow, Cond.code yX8_rateNow cX8_rateNow 3 (some .int), Cond.methodLink RX8 44 yX8_rateWith, Cond.instanceMethod yX8_rateWith, Cond.selects RX8 yX8_rateWith yX8_rateWith, Cond.code yX8_rateWith cX8_rateWith 4 (some .int), Cond.methodLink RX8 62 yX8_goes, Cond.instanceMethod yX8_goes, Cond.selects RX8 yX8_goes yX8_goes, Cond.code yX8_goes cX8_goes 3 none, Cond.methodLink RX8 66 yX8_isTooFar, Cond.instanceMethod yX8_isTooFar, Cond.selects RX8 yX8_isTooFar yX8_isTooFar, Cond.code yX8_isTooFar cX8_isTooFar 1 (some .boolean), Cond.methodLink RX8 70 yX8_corrects, Cond.instanceMethod yX8_corrects, Cond.selects RX8 yX8_corrects yX8_corrects, Cond.code yX8_corrects cX8_corrects 2 none, Cond.methodLink RX8 54 yX8_lightest, Cond.instanceMethod yX8_lightest, Cond.selects RX8 yX8_lightest yX8_lightest, Cond.code yX8_lightest cX8_lightest 3 (some .int)]
def wsX8_doPass : List Cond := .code yX8_doPass cX8_doPass 7 (some .int) :: ((wsX8_doPass_r1 ++ wsX8_doPass_r2) ++ wsX80)
def wsX8_doZero : List Cond := .code yX8_doZero cX8_doZero 2 (some .int) :: ([.fieldLink RX8 7 "WarmRodsModel" "all" "[I", .constant RX8 98 (1000000000)] ++ wsX80)
def wsX8_set_r1 : List Cond := [Cond.methodLink RX8 99 yX8_keep, Cond.instanceMethod yX8_keep, Cond.selects RX8 yX8_keep yX8_keep, Cond.initialized RX8, Cond.code yX8_keep cX8_keep 2 none, Cond.fieldLink RX8 13 "WarmRodsModel" "kept" "[I", Cond.fieldLink RX8 7 "WarmRodsModel" "all" "[I", Cond.methodLink RX8 102 yX8_doSet, Cond.instanceMethod yX8_doSet, Cond.selects RX8 yX8_doSet yX8_doSet, Cond.code yX8_doSet cX8_doSet 4 (some .int), Cond.methodLink RX8 81 yX8_isSetting, Cond.static yX8_isSetting, Cond.code yX8_isSetting cX8_isSetting 2 (some .boolean), Cond.constantLong RX8 73 (99), Cond.constantLong RX8 75 (-500), Cond.constantLong RX8 77 (500), Cond.constantLong RX8 79 (5000), Cond.methodLink RX8 36 yX8_in, Cond.static yX8_in, Cond.code yX8_in cX8_in 6 (some .boolean), Cond.methodLink RX8 105 yX8_changed, Cond.instanceMethod yX8_changed, Cond.selects RX8 yX8_changed yX8_changed]
def wsX8_set_r2 : List Cond := [Cond.code yX8_changed cX8_changed 3 (some .int), Cond.fieldLink RX8 28 "WarmRodsModel" "historyLong" "I", Cond.fieldLink RX8 16 "WarmRodsModel" "history" "[I"]
def wsX8_set : List Cond := .code yX8_set cX8_set 4 (some .int) :: ((wsX8_set_r1 ++ wsX8_set_r2) ++ wsX80)
def wsX8_weight : List Cond := .code yX8_weight cX8_weight 3 (some .int) :: ([.methodLink RX8 99 yX8_keep, .instanceMethod yX8_keep, .selects RX8 yX8_keep yX8_keep, .initialized RX8, .code yX8_keep cX8_keep 2 none, .fieldLink RX8 13 "WarmRodsModel" "kept" "[I", .fieldLink RX8 7 "WarmRodsModel" "all" "[I", .methodLink RX8 108 yX8_doWeight, .instanceMethod yX8_doWeight, .selects RX8 yX8_doWeight yX8_doWeight, .code yX8_doWeight cX8_doWeight 2 (some .int), .constantLong RX8 85 (7), .methodLink RX8 36 yX8_in, .static yX8_in, .code yX8_in cX8_in 6 (some .boolean), .methodLink RX8 105 yX8_changed, .instanceMethod yX8_changed, .selects RX8 yX8_changed yX8_changed, .code yX8_changed cX8_changed 3 (some .int), .fieldLink RX8 28 "WarmRodsModel" "historyLong" "I", .fieldLink RX8 16 "WarmRodsModel" "history" "[I"] ++ wsX80)
def wsX8_pass_r1 : List Cond := [Cond.methodLink RX8 99 yX8_keep, Cond.instanceMethod yX8_keep, Cond.selects RX8 yX8_keep yX8_keep, Cond.initialized RX8, Cond.code yX8_keep cX8_keep 2 none, Cond.fieldLink RX8 13 "WarmRodsModel" "kept" "[I", Cond.fieldLink RX8 7 "WarmRodsModel" "all" "[I", Cond.methodLink RX8 111 yX8_doPass, Cond.instanceMethod yX8_doPass, Cond.selects RX8 yX8_doPass yX8_doPass, Cond.code yX8_doPass cX8_doPass 7 (some .int), Cond.constantLong RX8 73 (99), Cond.methodLink RX8 87 yX8_isHeat, Cond.static yX8_isHeat, Cond.code yX8_isHeat cX8_isHeat 1 (some .boolean), Cond.constantLong RX8 32 (-20), Cond.constantLong RX8 34 (50), Cond.methodLink RX8 36 yX8_in, Cond.static yX8_in, Cond.code yX8_in cX8_in 6 (some .boolean), Cond.methodLink RX8 91 yX8_isAir, Cond.static yX8_isAir, Cond.code yX8_isAir cX8_isAir 1 (some .boolean), Cond.constantLong RX8 40 (800)]
def wsX8_pass_r2 : List Cond := [Cond.constantLong RX8 42 (1200), Cond.methodLink RX8 94 yX8_passes, Cond.instanceMethod yX8_passes, Cond.selects RX8 yX8_passes yX8_passes, Cond.code yX8_passes cX8_passes 9 (some .boolean), Cond.fieldLink RX8 51 "WarmRodsModel" "off" "I", Cond.fieldLink RX8 48 "WarmRodsModel" "carried" "I", Cond.methodLink RX8 58 yX8_rateNow, Cond.instanceMethod yX8_rateNow, Cond.selects RX8 yX8_rateNow yX8_rateNow, Cond.code yX8_rateNow cX8_rateNow 3 (some .int), Cond.methodLink RX8 44 yX8_rateWith, Cond.instanceMethod yX8_rateWith, Cond.selects RX8 yX8_rateWith yX8_rateWith, Cond.code yX8_rateWith cX8_rateWith 4 (some .int), Cond.methodLink RX8 62 yX8_goes, Cond.instanceMethod yX8_goes, Cond.selects RX8 yX8_goes yX8_goes, Cond.code yX8_goes cX8_goes 3 none, Cond.methodLink RX8 66 yX8_isTooFar, Cond.instanceMethod yX8_isTooFar, Cond.selects RX8 yX8_isTooFar yX8_isTooFar, Cond.code yX8_isTooFar cX8_isTooFar 1 (some .boolean), Cond.methodLink RX8 70 yX8_corrects]
def wsX8_pass_r3 : List Cond := [Cond.instanceMethod yX8_corrects, Cond.selects RX8 yX8_corrects yX8_corrects, Cond.code yX8_corrects cX8_corrects 2 none, Cond.methodLink RX8 54 yX8_lightest, Cond.instanceMethod yX8_lightest, Cond.selects RX8 yX8_lightest yX8_lightest, Cond.code yX8_lightest cX8_lightest 3 (some .int), Cond.methodLink RX8 105 yX8_changed, Cond.instanceMethod yX8_changed, Cond.selects RX8 yX8_changed yX8_changed, Cond.code yX8_changed cX8_changed 3 (some .int), Cond.fieldLink RX8 28 "WarmRodsModel" "historyLong" "I", Cond.fieldLink RX8 16 "WarmRodsModel" "history" "[I"]
def wsX8_pass : List Cond := .code yX8_pass cX8_pass 6 (some .int) :: ((wsX8_pass_r1 ++ (wsX8_pass_r2 ++ wsX8_pass_r3)) ++ wsX80)
def wsX8_zero : List Cond := .code yX8_zero cX8_zero 1 (some .int) :: ([.methodLink RX8 99 yX8_keep, .instanceMethod yX8_keep, .selects RX8 yX8_keep yX8_keep, .initialized RX8, .code yX8_keep cX8_keep 2 none, .fieldLink RX8 13 "WarmRodsModel" "kept" "[I", .fieldLink RX8 7 "WarmRodsModel" "all" "[I", .methodLink RX8 115 yX8_doZero, .instanceMethod yX8_doZero, .selects RX8 yX8_doZero yX8_doZero, .code yX8_doZero cX8_doZero 2 (some .int), .constant RX8 98 (1000000000), .methodLink RX8 105 yX8_changed, .instanceMethod yX8_changed, .selects RX8 yX8_changed yX8_changed, .code yX8_changed cX8_changed 3 (some .int), .fieldLink RX8 28 "WarmRodsModel" "historyLong" "I", .fieldLink RX8 16 "WarmRodsModel" "history" "[I"] ++ wsX80)
def wsX8_of : List Cond := .code yX8_of cX8_of 3 (some .int) :: ([.fieldLink RX8 7 "WarmRodsModel" "all" "[I"] ++ wsX80)
def wsX8_hour : List Cond := .code yX8_hour cX8_hour 3 (some .int) :: ([.fieldLink RX8 7 "WarmRodsModel" "all" "[I", .constantLong RX8 119 (6), .constant RX8 124 (100000), .constant RX8 98 (1000000000), .methodLink RX8 36 yX8_in, .static yX8_in, .initialized RX8, .code yX8_in cX8_in 6 (some .boolean), .methodLink RX8 121 yX8_of, .instanceMethod yX8_of, .selects RX8 yX8_of yX8_of, .code yX8_of cX8_of 3 (some .int)] ++ wsX80)
def wsX8_count : List Cond := .code yX8_count cX8_count 2 (some .int) :: ([.fieldLink RX8 7 "WarmRodsModel" "all" "[I", .constant RX8 98 (1000000000), .fieldLink RX8 125 "WarmRodsModel" "padLong" "I", .fieldLink RX8 28 "WarmRodsModel" "historyLong" "I"] ++ wsX80)
def wsJxe99ae_isNaN_b9ae7 : List Cond := .code yJxe99ae_isNaN_b9ae7 cJxe99ae_isNaN_b9ae7 2 (some .boolean) :: ([])
def wsJxe99ae_doubleToLongBits_ccdee : List Cond := .code yJxe99ae_doubleToLongBits_ccdee cJxe99ae_doubleToLongBits_ccdee 2 (some .long) :: ([.methodLink RJxe99ae 134 ⟨"java/lang/Double", "doubleToRawLongBits", "(D)J"⟩, .native ⟨"java/lang/Double", "doubleToRawLongBits", "(D)J"⟩, .static ⟨"java/lang/Double", "doubleToRawLongBits", "(D)J"⟩, .initialized "java/lang/Double", .constantLong RJxe99ae 137 (9221120237041090560), .methodLink RJxe99ae 122 yJxe99ae_isNaN_b9ae7, .static yJxe99ae_isNaN_b9ae7, .initialized RJxe99ae, .code yJxe99ae_isNaN_b9ae7 cJxe99ae_isNaN_b9ae7 2 (some .boolean)])
def wsX8_meanRate : List Cond := .code yX8_meanRate cX8_meanRate 3 (some .long) :: ([.fieldLink RX8 7 "WarmRodsModel" "all" "[I", .methodLink RX8 121 yX8_of, .instanceMethod yX8_of, .selects RX8 yX8_of yX8_of, .initialized RX8, .code yX8_of cX8_of 3 (some .int), .methodLink RX8 128 yJxe99ae_doubleToLongBits_ccdee, .static yJxe99ae_doubleToLongBits_ccdee, .initialized RJxe99ae, .code yJxe99ae_doubleToLongBits_ccdee cJxe99ae_doubleToLongBits_ccdee 2 (some .long), .methodLink RJxe99ae 134 ⟨"java/lang/Double", "doubleToRawLongBits", "(D)J"⟩, .native ⟨"java/lang/Double", "doubleToRawLongBits", "(D)J"⟩, .static ⟨"java/lang/Double", "doubleToRawLongBits", "(D)J"⟩, .initialized "java/lang/Double", .constantLong RJxe99ae 137 (9221120237041090560), .methodLink RJxe99ae 122 yJxe99ae_isNaN_b9ae7, .static yJxe99ae_isNaN_b9ae7, .code yJxe99ae_isNaN_b9ae7 cJxe99ae_isNaN_b9ae7 2 (some .boolean)] ++ wsX80)
def wsX8_greatest : List Cond := .code yX8_greatest cX8_greatest 3 (some .int) :: ([.fieldLink RX8 7 "WarmRodsModel" "all" "[I", .methodLink RX8 121 yX8_of, .instanceMethod yX8_of, .selects RX8 yX8_of yX8_of, .initialized RX8, .code yX8_of cX8_of 3 (some .int)] ++ wsX80)
def wsX8_least : List Cond := .code yX8_least cX8_least 3 (some .int) :: ([.fieldLink RX8 7 "WarmRodsModel" "all" "[I", .methodLink RX8 121 yX8_of, .instanceMethod yX8_of, .selects RX8 yX8_of yX8_of, .initialized RX8, .code yX8_of cX8_of 3 (some .int)] ++ wsX80)
def wsX8_fastHours : List Cond := .code yX8_fastHours cX8_fastHours 3 (some .int) :: ([.fieldLink RX8 7 "WarmRodsModel" "all" "[I", .methodLink RX8 121 yX8_of, .instanceMethod yX8_of, .selects RX8 yX8_of yX8_of, .initialized RX8, .code yX8_of cX8_of 3 (some .int)] ++ wsX80)
def wsX8_setHours : List Cond := .code yX8_setHours cX8_setHours 3 (some .int) :: ([.fieldLink RX8 7 "WarmRodsModel" "all" "[I", .methodLink RX8 121 yX8_of, .instanceMethod yX8_of, .selects RX8 yX8_of yX8_of, .initialized RX8, .code yX8_of cX8_of 3 (some .int)] ++ wsX80)
def wsX8_changes : List Cond := .code yX8_changes cX8_changes 3 (some .int) :: ([.fieldLink RX8 7 "WarmRodsModel" "all" "[I", .methodLink RX8 121 yX8_of, .instanceMethod yX8_of, .selects RX8 yX8_of yX8_of, .initialized RX8, .code yX8_of cX8_of 3 (some .int)] ++ wsX80)
def wsX8_ofLog_r1 : List Cond := [Cond.constantLong RX8 134 (4), Cond.fieldLink RX8 7 "WarmRodsModel" "all" "[I", Cond.constant RX8 124 (100000), Cond.methodLink RX8 36 yX8_in, Cond.static yX8_in, Cond.initialized RX8, Cond.code yX8_in cX8_in 6 (some .boolean), Cond.methodLink RX8 136 yX8_greatest, Cond.instanceMethod yX8_greatest, Cond.selects RX8 yX8_greatest yX8_greatest, Cond.code yX8_greatest cX8_greatest 3 (some .int), Cond.methodLink RX8 121 yX8_of, Cond.instanceMethod yX8_of, Cond.selects RX8 yX8_of yX8_of, Cond.code yX8_of cX8_of 3 (some .int), Cond.methodLink RX8 139 yX8_least, Cond.instanceMethod yX8_least, Cond.selects RX8 yX8_least yX8_least, Cond.code yX8_least cX8_least 3 (some .int), Cond.methodLink RX8 142 yX8_fastHours, Cond.instanceMethod yX8_fastHours, Cond.selects RX8 yX8_fastHours yX8_fastHours, Cond.code yX8_fastHours cX8_fastHours 3 (some .int), Cond.methodLink RX8 145 yX8_setHours]
def wsX8_ofLog_r2 : List Cond := [Cond.instanceMethod yX8_setHours, Cond.selects RX8 yX8_setHours yX8_setHours, Cond.code yX8_setHours cX8_setHours 3 (some .int), Cond.methodLink RX8 148 yX8_changes, Cond.instanceMethod yX8_changes, Cond.selects RX8 yX8_changes yX8_changes, Cond.code yX8_changes cX8_changes 3 (some .int)]
def wsX8_ofLog : List Cond := .code yX8_ofLog cX8_ofLog 2 (some .int) :: ((wsX8_ofLog_r1 ++ wsX8_ofLog_r2) ++ wsX80)
def wsX8_rate : List Cond := .code yX8_rate cX8_rate 3 (some .int) :: ([.constant RX8 124 (100000), .methodLink RX8 87 yX8_isHeat, .static yX8_isHeat, .initialized RX8, .code yX8_isHeat cX8_isHeat 1 (some .boolean), .constantLong RX8 32 (-20), .constantLong RX8 34 (50), .methodLink RX8 36 yX8_in, .static yX8_in, .code yX8_in cX8_in 6 (some .boolean), .methodLink RX8 91 yX8_isAir, .static yX8_isAir, .code yX8_isAir cX8_isAir 1 (some .boolean), .constantLong RX8 40 (800), .constantLong RX8 42 (1200), .methodLink RX8 58 yX8_rateNow, .instanceMethod yX8_rateNow, .selects RX8 yX8_rateNow yX8_rateNow, .code yX8_rateNow cX8_rateNow 3 (some .int), .fieldLink RX8 7 "WarmRodsModel" "all" "[I", .methodLink RX8 44 yX8_rateWith, .instanceMethod yX8_rateWith, .selects RX8 yX8_rateWith yX8_rateWith, .code yX8_rateWith cX8_rateWith 4 (some .int)] ++ wsX80)
def wsX8_size : List Cond := .code yX8_size cX8_size 1 (some .int) :: ([])
def wsX8_bestWeights : List Cond := .code yX8_bestWeights cX8_bestWeights 6 (some .int) :: ([.constant RX8 124 (100000), .methodLink RX8 87 yX8_isHeat, .static yX8_isHeat, .initialized RX8, .code yX8_isHeat cX8_isHeat 1 (some .boolean), .constantLong RX8 32 (-20), .constantLong RX8 34 (50), .methodLink RX8 36 yX8_in, .static yX8_in, .code yX8_in cX8_in 6 (some .boolean), .methodLink RX8 91 yX8_isAir, .static yX8_isAir, .code yX8_isAir cX8_isAir 1 (some .boolean), .constantLong RX8 40 (800), .constantLong RX8 42 (1200), .methodLink RX8 44 yX8_rateWith, .instanceMethod yX8_rateWith, .selects RX8 yX8_rateWith yX8_rateWith, .code yX8_rateWith cX8_rateWith 4 (some .int), .fieldLink RX8 7 "WarmRodsModel" "all" "[I", .methodLink RX8 151 yX8_size, .static yX8_size, .code yX8_size cX8_size 1 (some .int)] ++ wsX80)
def wsX8_offIn_r1 : List Cond := [Cond.fieldLink RX8 7 "WarmRodsModel" "all" "[I", Cond.fieldLink RX8 51 "WarmRodsModel" "off" "I", Cond.fieldLink RX8 48 "WarmRodsModel" "carried" "I", Cond.methodLink RX8 87 yX8_isHeat, Cond.static yX8_isHeat, Cond.initialized RX8, Cond.code yX8_isHeat cX8_isHeat 1 (some .boolean), Cond.constantLong RX8 32 (-20), Cond.constantLong RX8 34 (50), Cond.methodLink RX8 36 yX8_in, Cond.static yX8_in, Cond.code yX8_in cX8_in 6 (some .boolean), Cond.methodLink RX8 91 yX8_isAir, Cond.static yX8_isAir, Cond.code yX8_isAir cX8_isAir 1 (some .boolean), Cond.constantLong RX8 40 (800), Cond.constantLong RX8 42 (1200), Cond.methodLink RX8 66 yX8_isTooFar, Cond.instanceMethod yX8_isTooFar, Cond.selects RX8 yX8_isTooFar yX8_isTooFar, Cond.code yX8_isTooFar cX8_isTooFar 1 (some .boolean), Cond.methodLink RX8 58 yX8_rateNow, Cond.instanceMethod yX8_rateNow, Cond.selects RX8 yX8_rateNow yX8_rateNow]
def wsX8_offIn_r2 : List Cond := [Cond.code yX8_rateNow cX8_rateNow 3 (some .int), Cond.methodLink RX8 44 yX8_rateWith, Cond.instanceMethod yX8_rateWith, Cond.selects RX8 yX8_rateWith yX8_rateWith, Cond.code yX8_rateWith cX8_rateWith 4 (some .int), Cond.methodLink RX8 62 yX8_goes, Cond.instanceMethod yX8_goes, Cond.selects RX8 yX8_goes yX8_goes, Cond.code yX8_goes cX8_goes 3 none]
def wsX8_offIn : List Cond := .code yX8_offIn cX8_offIn 4 (some .int) :: ((wsX8_offIn_r1 ++ wsX8_offIn_r2) ++ wsX80)
def wsX8_replay : List Cond := .code yX8_replay cX8_replay 2 (some .int) :: ([.fieldLink RX8 51 "WarmRodsModel" "off" "I", .fieldLink RX8 48 "WarmRodsModel" "carried" "I", .fieldLink RX8 7 "WarmRodsModel" "all" "[I", .constant RX8 98 (1000000000), .methodLink RX8 121 yX8_of, .instanceMethod yX8_of, .selects RX8 yX8_of yX8_of, .initialized RX8, .code yX8_of cX8_of 3 (some .int), .methodLink RX8 58 yX8_rateNow, .instanceMethod yX8_rateNow, .selects RX8 yX8_rateNow yX8_rateNow, .code yX8_rateNow cX8_rateNow 3 (some .int), .methodLink RX8 44 yX8_rateWith, .instanceMethod yX8_rateWith, .selects RX8 yX8_rateWith yX8_rateWith, .code yX8_rateWith cX8_rateWith 4 (some .int), .methodLink RX8 62 yX8_goes, .instanceMethod yX8_goes, .selects RX8 yX8_goes yX8_goes, .code yX8_goes cX8_goes 3 none] ++ wsX80)
def wsX8_coolest : List Cond := .code yX8_coolest cX8_coolest 3 (some .int) :: ([.methodLink RX8 91 yX8_isAir, .static yX8_isAir, .initialized RX8, .code yX8_isAir cX8_isAir 1 (some .boolean), .constantLong RX8 40 (800), .constantLong RX8 42 (1200), .methodLink RX8 36 yX8_in, .static yX8_in, .code yX8_in cX8_in 6 (some .boolean), .methodLink RX8 58 yX8_rateNow, .instanceMethod yX8_rateNow, .selects RX8 yX8_rateNow yX8_rateNow, .code yX8_rateNow cX8_rateNow 3 (some .int), .fieldLink RX8 7 "WarmRodsModel" "all" "[I", .methodLink RX8 44 yX8_rateWith, .instanceMethod yX8_rateWith, .selects RX8 yX8_rateWith yX8_rateWith, .code yX8_rateWith cX8_rateWith 4 (some .int)] ++ wsX80)
def wsX8_put : List Cond := .code yX8_put cX8_put 8 (some .int) :: ([.constantLong RX8 154 (255), .constantLong RX8 156 (33), .constantLong RX8 158 (126), .fieldLink RX8 125 "WarmRodsModel" "padLong" "I", .fieldLink RX8 25 "WarmRodsModel" "pad" "[I", .methodLink RX8 36 yX8_in, .static yX8_in, .initialized RX8, .code yX8_in cX8_in 6 (some .boolean)] ++ wsX80)
def wsX8_wipe : List Cond := .code yX8_wipe cX8_wipe 2 (some .int) :: ([.fieldLink RX8 125 "WarmRodsModel" "padLong" "I"] ++ wsX80)
def wsX8_isHere : List Cond := .code yX8_isHere cX8_isHere 3 (some .boolean) :: ([.fieldLink RX8 160 "WarmRodsModel" "spot" "I", .fieldLink RX8 125 "WarmRodsModel" "padLong" "I", .fieldLink RX8 25 "WarmRodsModel" "pad" "[I", .methodLink RX8 36 yX8_in, .static yX8_in, .initialized RX8, .code yX8_in cX8_in 6 (some .boolean)] ++ wsX80)
def wsX8_takes : List Cond := .code yX8_takes cX8_takes 3 (some .boolean) :: ([.fieldLink RX8 160 "WarmRodsModel" "spot" "I", .methodLink RX8 163 yX8_isHere, .instanceMethod yX8_isHere, .selects RX8 yX8_isHere yX8_isHere, .initialized RX8, .code yX8_isHere cX8_isHere 3 (some .boolean), .fieldLink RX8 125 "WarmRodsModel" "padLong" "I", .fieldLink RX8 25 "WarmRodsModel" "pad" "[I", .methodLink RX8 36 yX8_in, .static yX8_in, .code yX8_in cX8_in 6 (some .boolean)] ++ wsX80)
def wsX8_readsNumber : List Cond := .code yX8_readsNumber cX8_readsNumber 1 (some .boolean) :: ([.fieldLink RX8 25 "WarmRodsModel" "pad" "[I", .fieldLink RX8 160 "WarmRodsModel" "spot" "I", .fieldLink RX8 166 "WarmRodsModel" "number" "I", .methodLink RX8 163 yX8_isHere, .instanceMethod yX8_isHere, .selects RX8 yX8_isHere yX8_isHere, .initialized RX8, .code yX8_isHere cX8_isHere 3 (some .boolean), .fieldLink RX8 125 "WarmRodsModel" "padLong" "I", .methodLink RX8 36 yX8_in, .static yX8_in, .code yX8_in cX8_in 6 (some .boolean)] ++ wsX80)
def wsX8_readsValue : List Cond := .code yX8_readsValue cX8_readsValue 3 (some .boolean) :: ([.fieldLink RX8 166 "WarmRodsModel" "number" "I", .methodLink RX8 169 yX8_takes, .instanceMethod yX8_takes, .selects RX8 yX8_takes yX8_takes, .initialized RX8, .code yX8_takes cX8_takes 3 (some .boolean), .fieldLink RX8 160 "WarmRodsModel" "spot" "I", .methodLink RX8 163 yX8_isHere, .instanceMethod yX8_isHere, .selects RX8 yX8_isHere yX8_isHere, .code yX8_isHere cX8_isHere 3 (some .boolean), .fieldLink RX8 125 "WarmRodsModel" "padLong" "I", .fieldLink RX8 25 "WarmRodsModel" "pad" "[I", .methodLink RX8 36 yX8_in, .static yX8_in, .code yX8_in cX8_in 6 (some .boolean), .methodLink RX8 172 yX8_readsNumber, .instanceMethod yX8_readsNumber, .selects RX8 yX8_readsNumber yX8_readsNumber, .code yX8_readsNumber cX8_readsNumber 1 (some .boolean)] ++ wsX80)
def wsX8_does : List Cond := .code yX8_does cX8_does 2 none :: ([.fieldLink RX8 175 "WarmRodsModel" "error" "I"] ++ wsX80)
def wsX8_readsHours_r1 : List Cond := [Cond.fieldLink RX8 166 "WarmRodsModel" "number" "I", Cond.fieldLink RX8 181 "WarmRodsModel" "isDone" "Z", Cond.methodLink RX8 178 yX8_readsValue, Cond.instanceMethod yX8_readsValue, Cond.selects RX8 yX8_readsValue yX8_readsValue, Cond.initialized RX8, Cond.code yX8_readsValue cX8_readsValue 3 (some .boolean), Cond.methodLink RX8 169 yX8_takes, Cond.instanceMethod yX8_takes, Cond.selects RX8 yX8_takes yX8_takes, Cond.code yX8_takes cX8_takes 3 (some .boolean), Cond.fieldLink RX8 160 "WarmRodsModel" "spot" "I", Cond.methodLink RX8 163 yX8_isHere, Cond.instanceMethod yX8_isHere, Cond.selects RX8 yX8_isHere yX8_isHere, Cond.code yX8_isHere cX8_isHere 3 (some .boolean), Cond.fieldLink RX8 125 "WarmRodsModel" "padLong" "I", Cond.fieldLink RX8 25 "WarmRodsModel" "pad" "[I", Cond.methodLink RX8 36 yX8_in, Cond.static yX8_in, Cond.code yX8_in cX8_in 6 (some .boolean), Cond.methodLink RX8 172 yX8_readsNumber, Cond.instanceMethod yX8_readsNumber, Cond.selects RX8 yX8_readsNumber yX8_readsNumber]
def wsX8_readsHours_r2 : List Cond := [Cond.code yX8_readsNumber cX8_readsNumber 1 (some .boolean), Cond.methodLink RX8 111 yX8_doPass, Cond.instanceMethod yX8_doPass, Cond.selects RX8 yX8_doPass yX8_doPass, Cond.code yX8_doPass cX8_doPass 7 (some .int), Cond.constantLong RX8 73 (99), Cond.fieldLink RX8 7 "WarmRodsModel" "all" "[I", Cond.methodLink RX8 87 yX8_isHeat, Cond.static yX8_isHeat, Cond.code yX8_isHeat cX8_isHeat 1 (some .boolean), Cond.constantLong RX8 32 (-20), Cond.constantLong RX8 34 (50), Cond.methodLink RX8 91 yX8_isAir, Cond.static yX8_isAir, Cond.code yX8_isAir cX8_isAir 1 (some .boolean), Cond.constantLong RX8 40 (800), Cond.constantLong RX8 42 (1200), Cond.methodLink RX8 94 yX8_passes, Cond.instanceMethod yX8_passes, Cond.selects RX8 yX8_passes yX8_passes, Cond.code yX8_passes cX8_passes 9 (some .boolean), Cond.fieldLink RX8 51 "WarmRodsModel" "off" "I", Cond.fieldLink RX8 48 "WarmRodsModel" "carried" "I", Cond.methodLink RX8 58 yX8_rateNow]
def wsX8_readsHours_r3 : List Cond := [Cond.instanceMethod yX8_rateNow, Cond.selects RX8 yX8_rateNow yX8_rateNow, Cond.code yX8_rateNow cX8_rateNow 3 (some .int), Cond.methodLink RX8 44 yX8_rateWith, Cond.instanceMethod yX8_rateWith, Cond.selects RX8 yX8_rateWith yX8_rateWith, Cond.code yX8_rateWith cX8_rateWith 4 (some .int), Cond.methodLink RX8 62 yX8_goes, Cond.instanceMethod yX8_goes, Cond.selects RX8 yX8_goes yX8_goes, Cond.code yX8_goes cX8_goes 3 none, Cond.methodLink RX8 66 yX8_isTooFar, Cond.instanceMethod yX8_isTooFar, Cond.selects RX8 yX8_isTooFar yX8_isTooFar, Cond.code yX8_isTooFar cX8_isTooFar 1 (some .boolean), Cond.methodLink RX8 70 yX8_corrects, Cond.instanceMethod yX8_corrects, Cond.selects RX8 yX8_corrects yX8_corrects, Cond.code yX8_corrects cX8_corrects 2 none, Cond.methodLink RX8 54 yX8_lightest, Cond.instanceMethod yX8_lightest, Cond.selects RX8 yX8_lightest yX8_lightest, Cond.code yX8_lightest cX8_lightest 3 (some .int), Cond.methodLink RX8 185 yX8_does]
def wsX8_readsHours_r4 : List Cond := [Cond.instanceMethod yX8_does, Cond.selects RX8 yX8_does yX8_does, Cond.code yX8_does cX8_does 2 none, Cond.fieldLink RX8 175 "WarmRodsModel" "error" "I"]
def wsX8_readsHours : List Cond := .code yX8_readsHours cX8_readsHours 4 (some .boolean) :: ((wsX8_readsHours_r1 ++ (wsX8_readsHours_r2 ++ (wsX8_readsHours_r3 ++ wsX8_readsHours_r4))) ++ wsX80)
def wsX8_readsOrder_r1 : List Cond := [Cond.fieldLink RX8 181 "WarmRodsModel" "isDone" "Z", Cond.fieldLink RX8 25 "WarmRodsModel" "pad" "[I", Cond.fieldLink RX8 160 "WarmRodsModel" "spot" "I", Cond.fieldLink RX8 166 "WarmRodsModel" "number" "I", Cond.methodLink RX8 169 yX8_takes, Cond.instanceMethod yX8_takes, Cond.selects RX8 yX8_takes yX8_takes, Cond.initialized RX8, Cond.code yX8_takes cX8_takes 3 (some .boolean), Cond.methodLink RX8 163 yX8_isHere, Cond.instanceMethod yX8_isHere, Cond.selects RX8 yX8_isHere yX8_isHere, Cond.code yX8_isHere cX8_isHere 3 (some .boolean), Cond.fieldLink RX8 125 "WarmRodsModel" "padLong" "I", Cond.methodLink RX8 36 yX8_in, Cond.static yX8_in, Cond.code yX8_in cX8_in 6 (some .boolean), Cond.methodLink RX8 115 yX8_doZero, Cond.instanceMethod yX8_doZero, Cond.selects RX8 yX8_doZero yX8_doZero, Cond.code yX8_doZero cX8_doZero 2 (some .int), Cond.fieldLink RX8 7 "WarmRodsModel" "all" "[I", Cond.constant RX8 98 (1000000000), Cond.methodLink RX8 185 yX8_does]
def wsX8_readsOrder_r2 : List Cond := [Cond.instanceMethod yX8_does, Cond.selects RX8 yX8_does yX8_does, Cond.code yX8_does cX8_does 2 none, Cond.fieldLink RX8 175 "WarmRodsModel" "error" "I", Cond.methodLink RX8 108 yX8_doWeight, Cond.instanceMethod yX8_doWeight, Cond.selects RX8 yX8_doWeight yX8_doWeight, Cond.code yX8_doWeight cX8_doWeight 2 (some .int), Cond.constantLong RX8 85 (7), Cond.methodLink RX8 178 yX8_readsValue, Cond.instanceMethod yX8_readsValue, Cond.selects RX8 yX8_readsValue yX8_readsValue, Cond.code yX8_readsValue cX8_readsValue 3 (some .boolean), Cond.methodLink RX8 172 yX8_readsNumber, Cond.instanceMethod yX8_readsNumber, Cond.selects RX8 yX8_readsNumber yX8_readsNumber, Cond.code yX8_readsNumber cX8_readsNumber 1 (some .boolean), Cond.methodLink RX8 102 yX8_doSet, Cond.instanceMethod yX8_doSet, Cond.selects RX8 yX8_doSet yX8_doSet, Cond.code yX8_doSet cX8_doSet 4 (some .int), Cond.methodLink RX8 81 yX8_isSetting, Cond.static yX8_isSetting, Cond.code yX8_isSetting cX8_isSetting 2 (some .boolean)]
def wsX8_readsOrder_r3 : List Cond := [Cond.constantLong RX8 73 (99), Cond.constantLong RX8 75 (-500), Cond.constantLong RX8 77 (500), Cond.constantLong RX8 79 (5000), Cond.methodLink RX8 188 yX8_readsHours, Cond.instanceMethod yX8_readsHours, Cond.selects RX8 yX8_readsHours yX8_readsHours, Cond.code yX8_readsHours cX8_readsHours 4 (some .boolean), Cond.methodLink RX8 111 yX8_doPass, Cond.instanceMethod yX8_doPass, Cond.selects RX8 yX8_doPass yX8_doPass, Cond.code yX8_doPass cX8_doPass 7 (some .int), Cond.methodLink RX8 87 yX8_isHeat, Cond.static yX8_isHeat, Cond.code yX8_isHeat cX8_isHeat 1 (some .boolean), Cond.constantLong RX8 32 (-20), Cond.constantLong RX8 34 (50), Cond.methodLink RX8 91 yX8_isAir, Cond.static yX8_isAir, Cond.code yX8_isAir cX8_isAir 1 (some .boolean), Cond.constantLong RX8 40 (800), Cond.constantLong RX8 42 (1200), Cond.methodLink RX8 94 yX8_passes, Cond.instanceMethod yX8_passes]
def wsX8_readsOrder_r4 : List Cond := [Cond.selects RX8 yX8_passes yX8_passes, Cond.code yX8_passes cX8_passes 9 (some .boolean), Cond.fieldLink RX8 51 "WarmRodsModel" "off" "I", Cond.fieldLink RX8 48 "WarmRodsModel" "carried" "I", Cond.methodLink RX8 58 yX8_rateNow, Cond.instanceMethod yX8_rateNow, Cond.selects RX8 yX8_rateNow yX8_rateNow, Cond.code yX8_rateNow cX8_rateNow 3 (some .int), Cond.methodLink RX8 44 yX8_rateWith, Cond.instanceMethod yX8_rateWith, Cond.selects RX8 yX8_rateWith yX8_rateWith, Cond.code yX8_rateWith cX8_rateWith 4 (some .int), Cond.methodLink RX8 62 yX8_goes, Cond.instanceMethod yX8_goes, Cond.selects RX8 yX8_goes yX8_goes, Cond.code yX8_goes cX8_goes 3 none, Cond.methodLink RX8 66 yX8_isTooFar, Cond.instanceMethod yX8_isTooFar, Cond.selects RX8 yX8_isTooFar yX8_isTooFar, Cond.code yX8_isTooFar cX8_isTooFar 1 (some .boolean), Cond.methodLink RX8 70 yX8_corrects, Cond.instanceMethod yX8_corrects, Cond.selects RX8 yX8_corrects yX8_corrects, Cond.code yX8_corrects cX8_corrects 2 none]
def wsX8_readsOrder_r5 : List Cond := [Cond.methodLink RX8 54 yX8_lightest, Cond.instanceMethod yX8_lightest, Cond.selects RX8 yX8_lightest yX8_lightest, Cond.code yX8_lightest cX8_lightest 3 (some .int)]
def wsX8_readsOrder : List Cond := .code yX8_readsOrder cX8_readsOrder 1 (some .boolean) :: ((wsX8_readsOrder_r1 ++ (wsX8_readsOrder_r2 ++ (wsX8_readsOrder_r3 ++ (wsX8_readsOrder_r4 ++ wsX8_readsOrder_r5)))) ++ wsX80)
def wsX8_fault_r1 : List Cond := [Cond.fieldLink RX8 160 "WarmRodsModel" "spot" "I", Cond.fieldLink RX8 181 "WarmRodsModel" "isDone" "Z", Cond.fieldLink RX8 125 "WarmRodsModel" "padLong" "I", Cond.methodLink RX8 191 yX8_readsOrder, Cond.instanceMethod yX8_readsOrder, Cond.selects RX8 yX8_readsOrder yX8_readsOrder, Cond.initialized RX8, Cond.code yX8_readsOrder cX8_readsOrder 1 (some .boolean), Cond.fieldLink RX8 25 "WarmRodsModel" "pad" "[I", Cond.fieldLink RX8 166 "WarmRodsModel" "number" "I", Cond.methodLink RX8 169 yX8_takes, Cond.instanceMethod yX8_takes, Cond.selects RX8 yX8_takes yX8_takes, Cond.code yX8_takes cX8_takes 3 (some .boolean), Cond.methodLink RX8 163 yX8_isHere, Cond.instanceMethod yX8_isHere, Cond.selects RX8 yX8_isHere yX8_isHere, Cond.code yX8_isHere cX8_isHere 3 (some .boolean), Cond.methodLink RX8 36 yX8_in, Cond.static yX8_in, Cond.code yX8_in cX8_in 6 (some .boolean), Cond.methodLink RX8 115 yX8_doZero, Cond.instanceMethod yX8_doZero, Cond.selects RX8 yX8_doZero yX8_doZero]
def wsX8_fault_r2 : List Cond := [Cond.code yX8_doZero cX8_doZero 2 (some .int), Cond.fieldLink RX8 7 "WarmRodsModel" "all" "[I", Cond.constant RX8 98 (1000000000), Cond.methodLink RX8 185 yX8_does, Cond.instanceMethod yX8_does, Cond.selects RX8 yX8_does yX8_does, Cond.code yX8_does cX8_does 2 none, Cond.fieldLink RX8 175 "WarmRodsModel" "error" "I", Cond.methodLink RX8 108 yX8_doWeight, Cond.instanceMethod yX8_doWeight, Cond.selects RX8 yX8_doWeight yX8_doWeight, Cond.code yX8_doWeight cX8_doWeight 2 (some .int), Cond.constantLong RX8 85 (7), Cond.methodLink RX8 178 yX8_readsValue, Cond.instanceMethod yX8_readsValue, Cond.selects RX8 yX8_readsValue yX8_readsValue, Cond.code yX8_readsValue cX8_readsValue 3 (some .boolean), Cond.methodLink RX8 172 yX8_readsNumber, Cond.instanceMethod yX8_readsNumber, Cond.selects RX8 yX8_readsNumber yX8_readsNumber, Cond.code yX8_readsNumber cX8_readsNumber 1 (some .boolean), Cond.methodLink RX8 102 yX8_doSet, Cond.instanceMethod yX8_doSet, Cond.selects RX8 yX8_doSet yX8_doSet]
def wsX8_fault_r3 : List Cond := [Cond.code yX8_doSet cX8_doSet 4 (some .int), Cond.methodLink RX8 81 yX8_isSetting, Cond.static yX8_isSetting, Cond.code yX8_isSetting cX8_isSetting 2 (some .boolean), Cond.constantLong RX8 73 (99), Cond.constantLong RX8 75 (-500), Cond.constantLong RX8 77 (500), Cond.constantLong RX8 79 (5000), Cond.methodLink RX8 188 yX8_readsHours, Cond.instanceMethod yX8_readsHours, Cond.selects RX8 yX8_readsHours yX8_readsHours, Cond.code yX8_readsHours cX8_readsHours 4 (some .boolean), Cond.methodLink RX8 111 yX8_doPass, Cond.instanceMethod yX8_doPass, Cond.selects RX8 yX8_doPass yX8_doPass, Cond.code yX8_doPass cX8_doPass 7 (some .int), Cond.methodLink RX8 87 yX8_isHeat, Cond.static yX8_isHeat, Cond.code yX8_isHeat cX8_isHeat 1 (some .boolean), Cond.constantLong RX8 32 (-20), Cond.constantLong RX8 34 (50), Cond.methodLink RX8 91 yX8_isAir, Cond.static yX8_isAir, Cond.code yX8_isAir cX8_isAir 1 (some .boolean)]
def wsX8_fault_r4 : List Cond := [Cond.constantLong RX8 40 (800), Cond.constantLong RX8 42 (1200), Cond.methodLink RX8 94 yX8_passes, Cond.instanceMethod yX8_passes, Cond.selects RX8 yX8_passes yX8_passes, Cond.code yX8_passes cX8_passes 9 (some .boolean), Cond.fieldLink RX8 51 "WarmRodsModel" "off" "I", Cond.fieldLink RX8 48 "WarmRodsModel" "carried" "I", Cond.methodLink RX8 58 yX8_rateNow, Cond.instanceMethod yX8_rateNow, Cond.selects RX8 yX8_rateNow yX8_rateNow, Cond.code yX8_rateNow cX8_rateNow 3 (some .int), Cond.methodLink RX8 44 yX8_rateWith, Cond.instanceMethod yX8_rateWith, Cond.selects RX8 yX8_rateWith yX8_rateWith, Cond.code yX8_rateWith cX8_rateWith 4 (some .int), Cond.methodLink RX8 62 yX8_goes, Cond.instanceMethod yX8_goes, Cond.selects RX8 yX8_goes yX8_goes, Cond.code yX8_goes cX8_goes 3 none, Cond.methodLink RX8 66 yX8_isTooFar, Cond.instanceMethod yX8_isTooFar, Cond.selects RX8 yX8_isTooFar yX8_isTooFar, Cond.code yX8_isTooFar cX8_isTooFar 1 (some .boolean)]
def wsX8_fault_r5 : List Cond := [Cond.methodLink RX8 70 yX8_corrects, Cond.instanceMethod yX8_corrects, Cond.selects RX8 yX8_corrects yX8_corrects, Cond.code yX8_corrects cX8_corrects 2 none, Cond.methodLink RX8 54 yX8_lightest, Cond.instanceMethod yX8_lightest, Cond.selects RX8 yX8_lightest yX8_lightest, Cond.code yX8_lightest cX8_lightest 3 (some .int)]
def wsX8_fault : List Cond := .code yX8_fault cX8_fault 2 (some .int) :: ((wsX8_fault_r1 ++ (wsX8_fault_r2 ++ (wsX8_fault_r3 ++ (wsX8_fault_r4 ++ wsX8_fault_r5)))) ++ wsX80)
def wsX8_carryOut_r1 : List Cond := [Cond.fieldLink RX8 160 "WarmRodsModel" "spot" "I", Cond.fieldLink RX8 181 "WarmRodsModel" "isDone" "Z", Cond.fieldLink RX8 175 "WarmRodsModel" "error" "I", Cond.fieldLink RX8 125 "WarmRodsModel" "padLong" "I", Cond.methodLink RX8 194 yX8_fault, Cond.instanceMethod yX8_fault, Cond.selects RX8 yX8_fault yX8_fault, Cond.initialized RX8, Cond.code yX8_fault cX8_fault 2 (some .int), Cond.methodLink RX8 191 yX8_readsOrder, Cond.instanceMethod yX8_readsOrder, Cond.selects RX8 yX8_readsOrder yX8_readsOrder, Cond.code yX8_readsOrder cX8_readsOrder 1 (some .boolean), Cond.fieldLink RX8 25 "WarmRodsModel" "pad" "[I", Cond.fieldLink RX8 166 "WarmRodsModel" "number" "I", Cond.methodLink RX8 169 yX8_takes, Cond.instanceMethod yX8_takes, Cond.selects RX8 yX8_takes yX8_takes, Cond.code yX8_takes cX8_takes 3 (some .boolean), Cond.methodLink RX8 163 yX8_isHere, Cond.instanceMethod yX8_isHere, Cond.selects RX8 yX8_isHere yX8_isHere, Cond.code yX8_isHere cX8_isHere 3 (some .boolean), Cond.methodLink RX8 36 yX8_in]
def wsX8_carryOut_r2 : List Cond := [Cond.static yX8_in, Cond.code yX8_in cX8_in 6 (some .boolean), Cond.methodLink RX8 115 yX8_doZero, Cond.instanceMethod yX8_doZero, Cond.selects RX8 yX8_doZero yX8_doZero, Cond.code yX8_doZero cX8_doZero 2 (some .int), Cond.fieldLink RX8 7 "WarmRodsModel" "all" "[I", Cond.constant RX8 98 (1000000000), Cond.methodLink RX8 185 yX8_does, Cond.instanceMethod yX8_does, Cond.selects RX8 yX8_does yX8_does, Cond.code yX8_does cX8_does 2 none, Cond.methodLink RX8 108 yX8_doWeight, Cond.instanceMethod yX8_doWeight, Cond.selects RX8 yX8_doWeight yX8_doWeight, Cond.code yX8_doWeight cX8_doWeight 2 (some .int), Cond.constantLong RX8 85 (7), Cond.methodLink RX8 178 yX8_readsValue, Cond.instanceMethod yX8_readsValue, Cond.selects RX8 yX8_readsValue yX8_readsValue, Cond.code yX8_readsValue cX8_readsValue 3 (some .boolean), Cond.methodLink RX8 172 yX8_readsNumber, Cond.instanceMethod yX8_readsNumber, Cond.selects RX8 yX8_readsNumber yX8_readsNumber]
def wsX8_carryOut_r3 : List Cond := [Cond.code yX8_readsNumber cX8_readsNumber 1 (some .boolean), Cond.methodLink RX8 102 yX8_doSet, Cond.instanceMethod yX8_doSet, Cond.selects RX8 yX8_doSet yX8_doSet, Cond.code yX8_doSet cX8_doSet 4 (some .int), Cond.methodLink RX8 81 yX8_isSetting, Cond.static yX8_isSetting, Cond.code yX8_isSetting cX8_isSetting 2 (some .boolean), Cond.constantLong RX8 73 (99), Cond.constantLong RX8 75 (-500), Cond.constantLong RX8 77 (500), Cond.constantLong RX8 79 (5000), Cond.methodLink RX8 188 yX8_readsHours, Cond.instanceMethod yX8_readsHours, Cond.selects RX8 yX8_readsHours yX8_readsHours, Cond.code yX8_readsHours cX8_readsHours 4 (some .boolean), Cond.methodLink RX8 111 yX8_doPass, Cond.instanceMethod yX8_doPass, Cond.selects RX8 yX8_doPass yX8_doPass, Cond.code yX8_doPass cX8_doPass 7 (some .int), Cond.methodLink RX8 87 yX8_isHeat, Cond.static yX8_isHeat, Cond.code yX8_isHeat cX8_isHeat 1 (some .boolean), Cond.constantLong RX8 32 (-20)]
def wsX8_carryOut_r4 : List Cond := [Cond.constantLong RX8 34 (50), Cond.methodLink RX8 91 yX8_isAir, Cond.static yX8_isAir, Cond.code yX8_isAir cX8_isAir 1 (some .boolean), Cond.constantLong RX8 40 (800), Cond.constantLong RX8 42 (1200), Cond.methodLink RX8 94 yX8_passes, Cond.instanceMethod yX8_passes, Cond.selects RX8 yX8_passes yX8_passes, Cond.code yX8_passes cX8_passes 9 (some .boolean), Cond.fieldLink RX8 51 "WarmRodsModel" "off" "I", Cond.fieldLink RX8 48 "WarmRodsModel" "carried" "I", Cond.methodLink RX8 58 yX8_rateNow, Cond.instanceMethod yX8_rateNow, Cond.selects RX8 yX8_rateNow yX8_rateNow, Cond.code yX8_rateNow cX8_rateNow 3 (some .int), Cond.methodLink RX8 44 yX8_rateWith, Cond.instanceMethod yX8_rateWith, Cond.selects RX8 yX8_rateWith yX8_rateWith, Cond.code yX8_rateWith cX8_rateWith 4 (some .int), Cond.methodLink RX8 62 yX8_goes, Cond.instanceMethod yX8_goes, Cond.selects RX8 yX8_goes yX8_goes, Cond.code yX8_goes cX8_goes 3 none]
def wsX8_carryOut_r5 : List Cond := [Cond.methodLink RX8 66 yX8_isTooFar, Cond.instanceMethod yX8_isTooFar, Cond.selects RX8 yX8_isTooFar yX8_isTooFar, Cond.code yX8_isTooFar cX8_isTooFar 1 (some .boolean), Cond.methodLink RX8 70 yX8_corrects, Cond.instanceMethod yX8_corrects, Cond.selects RX8 yX8_corrects yX8_corrects, Cond.code yX8_corrects cX8_corrects 2 none, Cond.methodLink RX8 54 yX8_lightest, Cond.instanceMethod yX8_lightest, Cond.selects RX8 yX8_lightest yX8_lightest, Cond.code yX8_lightest cX8_lightest 3 (some .int), Cond.methodLink RX8 99 yX8_keep, Cond.instanceMethod yX8_keep, Cond.selects RX8 yX8_keep yX8_keep, Cond.code yX8_keep cX8_keep 2 none, Cond.fieldLink RX8 13 "WarmRodsModel" "kept" "[I", Cond.methodLink RX8 105 yX8_changed, Cond.instanceMethod yX8_changed, Cond.selects RX8 yX8_changed yX8_changed, Cond.code yX8_changed cX8_changed 3 (some .int), Cond.fieldLink RX8 28 "WarmRodsModel" "historyLong" "I", Cond.fieldLink RX8 16 "WarmRodsModel" "history" "[I"]
def wsX8_carryOut : List Cond := .code yX8_carryOut cX8_carryOut 4 (some .int) :: ((wsX8_carryOut_r1 ++ (wsX8_carryOut_r2 ++ (wsX8_carryOut_r3 ++ (wsX8_carryOut_r4 ++ wsX8_carryOut_r5)))) ++ wsX80)
def wsX8_undo : List Cond := .code yX8_undo cX8_undo 2 (some .int) :: ([.fieldLink RX8 28 "WarmRodsModel" "historyLong" "I", .fieldLink RX8 7 "WarmRodsModel" "all" "[I", .fieldLink RX8 16 "WarmRodsModel" "history" "[I"] ++ wsX80)
def wsX8_save : List Cond := .code yX8_save cX8_save 3 (some .int) :: ([.fieldLink RX8 19 "WarmRodsModel" "slots" "[I", .fieldLink RX8 7 "WarmRodsModel" "all" "[I", .fieldLink RX8 22 "WarmRodsModel" "isSaved" "[I", .methodLink RX8 36 yX8_in, .static yX8_in, .initialized RX8, .code yX8_in cX8_in 6 (some .boolean)] ++ wsX80)
def wsX8_restore : List Cond := .code yX8_restore cX8_restore 3 (some .int) :: ([.fieldLink RX8 22 "WarmRodsModel" "isSaved" "[I", .fieldLink RX8 7 "WarmRodsModel" "all" "[I", .fieldLink RX8 19 "WarmRodsModel" "slots" "[I", .methodLink RX8 36 yX8_in, .static yX8_in, .initialized RX8, .code yX8_in cX8_in 6 (some .boolean), .methodLink RX8 99 yX8_keep, .instanceMethod yX8_keep, .selects RX8 yX8_keep yX8_keep, .code yX8_keep cX8_keep 2 none, .fieldLink RX8 13 "WarmRodsModel" "kept" "[I", .methodLink RX8 105 yX8_changed, .instanceMethod yX8_changed, .selects RX8 yX8_changed yX8_changed, .code yX8_changed cX8_changed 3 (some .int), .fieldLink RX8 28 "WarmRodsModel" "historyLong" "I", .fieldLink RX8 16 "WarmRodsModel" "history" "[I"] ++ wsX80)
def wsJ9_abs_0f7a4 : List Cond := .code yJ9_abs_0f7a4 cJ9_abs_0f7a4 1 (some .int) :: ([])
def wsJ9_max_7cf53 : List Cond := .code yJ9_max_7cf53 cJ9_max_7cf53 2 (some .int) :: ([])
def wsJ9_min_7cf53 : List Cond := .code yJ9_min_7cf53 cJ9_min_7cf53 2 (some .int) :: ([])
def wsL_law_r1 : List Cond := [Cond.classLink RL 7 RX7, Cond.instantiable RX7 6, Cond.initialized RX7, Cond.classLink RL 10 RX8, Cond.instantiable RX8 14, Cond.initialized RX8, Cond.constantLong RL 71 (4294967295), Cond.methodLink RL 9 yX7_init, Cond.instanceMethod yX7_init, Cond.code yX7_init cX7_init 1 none, Cond.methodLink RX7 1 objectInit, Cond.instanceMethod objectInit, Cond.code objectInit ⟨#[0xb1]⟩ 1 none, Cond.classLink RX7 7 RX0, Cond.instantiable RX0 7, Cond.initialized RX0, Cond.fieldLink RX7 10 "WarmRods" "clock" "LWarmRods$Clock;", Cond.classLink RX7 16 RX2, Cond.instantiable RX2 2, Cond.initialized RX2, Cond.fieldLink RX7 19 "WarmRods" "history" "LWarmRods$History;", Cond.classLink RX7 23 RX6, Cond.instantiable RX6 2, Cond.initialized RX6]
def wsL_law_r2 : List Cond := [Cond.fieldLink RX7 26 "WarmRods" "firstSlot" "LWarmRods$Slot;", Cond.fieldLink RX7 30 "WarmRods" "secondSlot" "LWarmRods$Slot;", Cond.classLink RX7 33 RX5, Cond.instantiable RX5 8, Cond.initialized RX5, Cond.fieldLink RX7 36 "WarmRods" "reader" "LWarmRods$Reader;", Cond.classLink RX7 40 RX1, Cond.instantiable RX1 2, Cond.initialized RX1, Cond.fieldLink RX7 43 "WarmRods" "scratch" "LWarmRods$Drift;", Cond.instanceMethod yX0_init, Cond.code yX0_init cX0_init 1 none, Cond.methodLink RX0 3 objectInit, Cond.arrayClass .int, Cond.fieldLink RX0 9 "WarmRods$Clock" "settings" "[I", Cond.classLink RX0 15 RX1, Cond.fieldLink RX0 18 "WarmRods$Clock" "drift" "LWarmRods$Drift;", Cond.classLink RX0 22 RX3, Cond.instantiable RX3 2, Cond.initialized RX3, Cond.fieldLink RX0 25 "WarmRods$Clock" "log" "LWarmRods$Log;", Cond.instanceMethod yX1_init, Cond.code yX1_init cX1_init 1 none, Cond.methodLink RX1 1 objectInit]
def wsL_law_r3 : List Cond := [Cond.instanceMethod yX3_init, Cond.code yX3_init cX3_init 1 none, Cond.methodLink RX3 3 objectInit, Cond.fieldLink RX3 9 "WarmRods$Log" "facts" "[I", Cond.methodLink RX7 18 yX2_init, Cond.instanceMethod yX2_init, Cond.code yX2_init cX2_init 2 none, Cond.methodLink RX2 3 objectInit, Cond.classLink RX2 9 RX0, Cond.fieldLink RX2 11 "WarmRods$History" "states" "[LWarmRods$Clock;", Cond.instanceMethod yX6_init, Cond.code yX6_init cX6_init 1 none, Cond.methodLink RX6 1 objectInit, Cond.classLink RX6 7 RX0, Cond.fieldLink RX6 10 "WarmRods$Slot" "saved" "LWarmRods$Clock;", Cond.instanceMethod yX5_init, Cond.code yX5_init cX5_init 1 none, Cond.methodLink RX5 3 objectInit, Cond.classLink RX5 9 RX4, Cond.instantiable RX4 2, Cond.initialized RX4, Cond.fieldLink RX5 12 "WarmRods$Reader" "pad" "LWarmRods$Pad;", Cond.instanceMethod yX4_init, Cond.code yX4_init cX4_init 1 none]
def wsL_law_r4 : List Cond := [Cond.methodLink RX4 3 objectInit, Cond.arrayClass .char, Cond.fieldLink RX4 9 "WarmRods$Pad" "signs" "[C", Cond.methodLink RL 12 yX8_init, Cond.instanceMethod yX8_init, Cond.code yX8_init cX8_init 1 none, Cond.methodLink RX8 1 objectInit, Cond.fieldLink RX8 7 "WarmRodsModel" "all" "[I", Cond.fieldLink RX8 13 "WarmRodsModel" "kept" "[I", Cond.fieldLink RX8 16 "WarmRodsModel" "history" "[I", Cond.fieldLink RX8 19 "WarmRodsModel" "slots" "[I", Cond.fieldLink RX8 22 "WarmRodsModel" "isSaved" "[I", Cond.fieldLink RX8 25 "WarmRodsModel" "pad" "[I", Cond.methodLink RL 13 yX7_set, Cond.instanceMethod yX7_set, Cond.selects RX7 yX7_set yX7_set, Cond.code yX7_set cX7_set 4 (some .int), Cond.methodLink RX7 47 yX0_errorOfSetting, Cond.instanceMethod yX0_errorOfSetting, Cond.selects RX0 yX0_errorOfSetting yX0_errorOfSetting, Cond.code yX0_errorOfSetting cX0_errorOfSetting 3 (some .int), Cond.methodLink RX7 51 yX2_record, Cond.instanceMethod yX2_record, Cond.selects RX2 yX2_record yX2_record]
def wsL_law_r5 : List Cond := [Cond.code yX2_record cX2_record 4 none, Cond.fieldLink RX2 22 "WarmRods$History" "kept" "I", Cond.methodLink RX2 26 Lib.Math.min.name, Cond.static Lib.Math.min.name, Cond.initialized "java/lang/Math", Cond.code Lib.Math.min.name Lib.Math.min.code 2 (some .int), Cond.methodLink RX2 18 yX0_become, Cond.instanceMethod yX0_become, Cond.selects RX0 yX0_become yX0_become, Cond.code yX0_become cX0_become 2 none, Cond.methodLink RX0 29 arraycopyName, Cond.native arraycopyName, Cond.static arraycopyName, Cond.initialized "java/lang/System", Cond.fieldLink RX0 42 "WarmRods$Clock" "tray" "I", Cond.fieldLink RX0 46 "WarmRods$Clock" "hours" "I", Cond.fieldLink RX0 49 "WarmRods$Clock" "radioHours" "I", Cond.fieldLink RX0 52 "WarmRods$Clock" "timesSet" "I", Cond.methodLink RX0 35 yX1_become, Cond.instanceMethod yX1_become, Cond.selects RX1 yX1_become yX1_become, Cond.code yX1_become cX1_become 2 none, Cond.fieldLink RX1 7 "WarmRods$Drift" "off" "I", Cond.fieldLink RX1 13 "WarmRods$Drift" "carried" "I"]
def wsL_law_r6 : List Cond := [Cond.methodLink RX0 39 yX3_become, Cond.instanceMethod yX3_become, Cond.selects RX3 yX3_become yX3_become, Cond.code yX3_become cX3_become 2 none, Cond.methodLink RX3 25 arraycopyName, Cond.fieldLink RX3 15 "WarmRods$Log" "written" "I", Cond.methodLink RX7 55 yX0_changeSetting, Cond.instanceMethod yX0_changeSetting, Cond.selects RX0 yX0_changeSetting yX0_changeSetting, Cond.code yX0_changeSetting cX0_changeSetting 4 (some .int), Cond.methodLink RX0 61 yX0_setting, Cond.instanceMethod yX0_setting, Cond.selects RX0 yX0_setting yX0_setting, Cond.code yX0_setting cX0_setting 2 (some .int), Cond.methodLink RL 17 yX8_set, Cond.instanceMethod yX8_set, Cond.selects RX8 yX8_set yX8_set, Cond.code yX8_set cX8_set 4 (some .int), Cond.methodLink RX8 99 yX8_keep, Cond.instanceMethod yX8_keep, Cond.selects RX8 yX8_keep yX8_keep, Cond.code yX8_keep cX8_keep 2 none, Cond.methodLink RX8 102 yX8_doSet, Cond.instanceMethod yX8_doSet]
def wsL_law_r7 : List Cond := [Cond.selects RX8 yX8_doSet yX8_doSet, Cond.code yX8_doSet cX8_doSet 4 (some .int), Cond.methodLink RX8 81 yX8_isSetting, Cond.static yX8_isSetting, Cond.code yX8_isSetting cX8_isSetting 2 (some .boolean), Cond.constantLong RX8 73 (99), Cond.constantLong RX8 75 (-500), Cond.constantLong RX8 77 (500), Cond.constantLong RX8 79 (5000), Cond.methodLink RX8 36 yX8_in, Cond.static yX8_in, Cond.code yX8_in cX8_in 6 (some .boolean), Cond.methodLink RX8 105 yX8_changed, Cond.instanceMethod yX8_changed, Cond.selects RX8 yX8_changed yX8_changed, Cond.code yX8_changed cX8_changed 3 (some .int), Cond.fieldLink RX8 28 "WarmRodsModel" "historyLong" "I", Cond.methodLink RL 18 yX7_weight, Cond.instanceMethod yX7_weight, Cond.selects RX7 yX7_weight yX7_weight, Cond.code yX7_weight cX7_weight 3 (some .int), Cond.methodLink RX7 58 yX0_errorOfWeight, Cond.instanceMethod yX0_errorOfWeight, Cond.selects RX0 yX0_errorOfWeight yX0_errorOfWeight]
def wsL_law_r8 : List Cond := [Cond.code yX0_errorOfWeight cX0_errorOfWeight 2 (some .int), Cond.methodLink RX7 62 yX0_moveWeight, Cond.instanceMethod yX0_moveWeight, Cond.selects RX0 yX0_moveWeight yX0_moveWeight, Cond.code yX0_moveWeight cX0_moveWeight 2 (some .int), Cond.methodLink RL 22 yX8_weight, Cond.instanceMethod yX8_weight, Cond.selects RX8 yX8_weight yX8_weight, Cond.code yX8_weight cX8_weight 3 (some .int), Cond.methodLink RX8 108 yX8_doWeight, Cond.instanceMethod yX8_doWeight, Cond.selects RX8 yX8_doWeight yX8_doWeight, Cond.code yX8_doWeight cX8_doWeight 2 (some .int), Cond.constantLong RX8 85 (7), Cond.methodLink RL 23 yX7_pass, Cond.instanceMethod yX7_pass, Cond.selects RX7 yX7_pass yX7_pass, Cond.code yX7_pass cX7_pass 6 (some .int), Cond.methodLink RX7 65 yX0_errorOfHours, Cond.instanceMethod yX0_errorOfHours, Cond.selects RX0 yX0_errorOfHours yX0_errorOfHours, Cond.code yX0_errorOfHours cX0_errorOfHours 5 (some .int), Cond.static yX7_isHeat, Cond.code yX7_isHeat cX7_isHeat 1 (some .boolean)]
def wsL_law_r9 : List Cond := [Cond.static yX7_isAir, Cond.code yX7_isAir cX7_isAir 1 (some .boolean), Cond.methodLink RX7 69 yX0_goHours, Cond.instanceMethod yX0_goHours, Cond.selects RX0 yX0_goHours yX0_goHours, Cond.code yX0_goHours cX0_goHours 7 (some .int), Cond.methodLink RX0 76 yX0_goHour, Cond.instanceMethod yX0_goHour, Cond.selects RX0 yX0_goHour yX0_goHour, Cond.code yX0_goHour cX0_goHour 6 none, Cond.fieldLink RX0 97 "WarmRods$Drift" "off" "I", Cond.methodLink RX0 80 yX0_rateIn, Cond.instanceMethod yX0_rateIn, Cond.selects RX0 yX0_rateIn yX0_rateIn, Cond.code yX0_rateIn cX0_rateIn 3 (some .int), Cond.methodLink RX0 65 yX0_bareRateIn, Cond.instanceMethod yX0_bareRateIn, Cond.selects RX0 yX0_bareRateIn yX0_bareRateIn, Cond.code yX0_bareRateIn cX0_bareRateIn 3 (some .int), Cond.methodLink RX0 83 yX1_addHour, Cond.instanceMethod yX1_addHour, Cond.selects RX1 yX1_addHour yX1_addHour, Cond.code yX1_addHour cX1_addHour 3 none, Cond.methodLink RX0 87 yX1_isMoreThan]
def wsL_law_r10 : List Cond := [Cond.instanceMethod yX1_isMoreThan, Cond.selects RX1 yX1_isMoreThan yX1_isMoreThan, Cond.code yX1_isMoreThan cX1_isMoreThan 2 (some .boolean), Cond.methodLink RX0 90 yX3_open, Cond.instanceMethod yX3_open, Cond.selects RX3 yX3_open yX3_open, Cond.code yX3_open cX3_open 1 none, Cond.methodLink RX0 93 yX3_write, Cond.instanceMethod yX3_write, Cond.selects RX3 yX3_write yX3_write, Cond.code yX3_write cX3_write 4 none, Cond.methodLink RX3 31 yX3_placeOf, Cond.instanceMethod yX3_placeOf, Cond.selects RX3 yX3_placeOf yX3_placeOf, Cond.code yX3_placeOf cX3_placeOf 3 (some .int), Cond.methodLink RX0 100 yX0_correct, Cond.instanceMethod yX0_correct, Cond.selects RX0 yX0_correct yX0_correct, Cond.code yX0_correct cX0_correct 1 none, Cond.methodLink RX0 103 yX1_clear, Cond.instanceMethod yX1_clear, Cond.selects RX1 yX1_clear yX1_clear, Cond.code yX1_clear cX1_clear 1 none, Cond.methodLink RL 27 yX8_pass]
def wsL_law_r11 : List Cond := [Cond.instanceMethod yX8_pass, Cond.selects RX8 yX8_pass yX8_pass, Cond.code yX8_pass cX8_pass 6 (some .int), Cond.methodLink RX8 111 yX8_doPass, Cond.instanceMethod yX8_doPass, Cond.selects RX8 yX8_doPass yX8_doPass, Cond.code yX8_doPass cX8_doPass 7 (some .int), Cond.methodLink RX8 87 yX8_isHeat, Cond.static yX8_isHeat, Cond.code yX8_isHeat cX8_isHeat 1 (some .boolean), Cond.constantLong RX8 32 (-20), Cond.constantLong RX8 34 (50), Cond.methodLink RX8 91 yX8_isAir, Cond.static yX8_isAir, Cond.code yX8_isAir cX8_isAir 1 (some .boolean), Cond.constantLong RX8 40 (800), Cond.constantLong RX8 42 (1200), Cond.methodLink RX8 94 yX8_passes, Cond.instanceMethod yX8_passes, Cond.selects RX8 yX8_passes yX8_passes, Cond.code yX8_passes cX8_passes 9 (some .boolean), Cond.fieldLink RX8 51 "WarmRodsModel" "off" "I", Cond.fieldLink RX8 48 "WarmRodsModel" "carried" "I", Cond.methodLink RX8 58 yX8_rateNow]
def wsL_law_r12 : List Cond := [Cond.instanceMethod yX8_rateNow, Cond.selects RX8 yX8_rateNow yX8_rateNow, Cond.code yX8_rateNow cX8_rateNow 3 (some .int), Cond.methodLink RX8 44 yX8_rateWith, Cond.instanceMethod yX8_rateWith, Cond.selects RX8 yX8_rateWith yX8_rateWith, Cond.code yX8_rateWith cX8_rateWith 4 (some .int), Cond.methodLink RX8 62 yX8_goes, Cond.instanceMethod yX8_goes, Cond.selects RX8 yX8_goes yX8_goes, Cond.code yX8_goes cX8_goes 3 none, Cond.methodLink RX8 66 yX8_isTooFar, Cond.instanceMethod yX8_isTooFar, Cond.selects RX8 yX8_isTooFar yX8_isTooFar, Cond.code yX8_isTooFar cX8_isTooFar 1 (some .boolean), Cond.methodLink RX8 70 yX8_corrects, Cond.instanceMethod yX8_corrects, Cond.selects RX8 yX8_corrects yX8_corrects, Cond.code yX8_corrects cX8_corrects 2 none, Cond.methodLink RX8 54 yX8_lightest, Cond.instanceMethod yX8_lightest, Cond.selects RX8 yX8_lightest yX8_lightest, Cond.code yX8_lightest cX8_lightest 3 (some .int), Cond.methodLink RL 28 yX7_zero]
def wsL_law_r13 : List Cond := [Cond.instanceMethod yX7_zero, Cond.selects RX7 yX7_zero yX7_zero, Cond.code yX7_zero cX7_zero 2 (some .int), Cond.fieldLink RX7 75 "WarmRods$Drift" "off" "I", Cond.constant RX7 82 (1000000000), Cond.methodLink RX7 79 yX1_clear, Cond.methodLink RL 32 yX8_zero, Cond.instanceMethod yX8_zero, Cond.selects RX8 yX8_zero yX8_zero, Cond.code yX8_zero cX8_zero 1 (some .int), Cond.methodLink RX8 115 yX8_doZero, Cond.instanceMethod yX8_doZero, Cond.selects RX8 yX8_doZero yX8_doZero, Cond.code yX8_doZero cX8_doZero 2 (some .int), Cond.constant RX8 98 (1000000000), Cond.methodLink RL 33 yX7_hour, Cond.instanceMethod yX7_hour, Cond.selects RX7 yX7_hour yX7_hour, Cond.code yX7_hour cX7_hour 3 (some .int), Cond.fieldLink RX7 93 "WarmRods" "MORE_FACTS" "[I", Cond.methodLink RX7 87 yX3_length, Cond.instanceMethod yX3_length, Cond.selects RX3 yX3_length yX3_length, Cond.code yX3_length cX3_length 1 (some .int)]
def wsL_law_r14 : List Cond := [Cond.methodLink RX3 19 Lib.Math.min.name, Cond.methodLink RX7 97 yX3_fact, Cond.instanceMethod yX3_fact, Cond.selects RX3 yX3_fact yX3_fact, Cond.code yX3_fact cX3_fact 4 (some .int), Cond.methodLink RL 36 yX8_hour, Cond.instanceMethod yX8_hour, Cond.selects RX8 yX8_hour yX8_hour, Cond.code yX8_hour cX8_hour 3 (some .int), Cond.constantLong RX8 119 (6), Cond.constant RX8 124 (100000), Cond.methodLink RX8 121 yX8_of, Cond.instanceMethod yX8_of, Cond.selects RX8 yX8_of yX8_of, Cond.code yX8_of cX8_of 3 (some .int), Cond.methodLink RL 37 yX7_count, Cond.instanceMethod yX7_count, Cond.selects RX7 yX7_count yX7_count, Cond.code yX7_count cX7_count 2 (some .int), Cond.fieldLink RX7 103 "WarmRods$Drift" "carried" "I", Cond.methodLink RX7 115 yX0_setting, Cond.methodLink RL 40 yX8_count, Cond.instanceMethod yX8_count, Cond.selects RX8 yX8_count yX8_count]
def wsL_law_r15 : List Cond := [Cond.code yX8_count cX8_count 2 (some .int), Cond.fieldLink RX8 125 "WarmRodsModel" "padLong" "I", Cond.methodLink RL 41 yX7_meanRate, Cond.instanceMethod yX7_meanRate, Cond.selects RX7 yX7_meanRate yX7_meanRate, Cond.code yX7_meanRate cX7_meanRate 2 (some .long), Cond.methodLink RX7 129 yX3_sumOfRates, Cond.instanceMethod yX3_sumOfRates, Cond.selects RX3 yX3_sumOfRates yX3_sumOfRates, Cond.code yX3_sumOfRates cX3_sumOfRates 3 (some .int), Cond.methodLink RX3 34 yX3_length, Cond.methodLink RX3 38 yX3_fact, Cond.methodLink RX7 132 yX7_bitsOf, Cond.static yX7_bitsOf, Cond.code yX7_bitsOf cX7_bitsOf 8 (some .long), Cond.constantLong RX7 232 (1075), Cond.constantDouble RX7 234 (4841369599423283200), Cond.constantDouble RX7 236 (4611686018427387904), Cond.constantLong RX7 238 (-9223372036854775808), Cond.constantLong RX7 240 (4503599627370496), Cond.methodLink RL 45 yX8_meanRate, Cond.instanceMethod yX8_meanRate, Cond.selects RX8 yX8_meanRate yX8_meanRate, Cond.code yX8_meanRate cX8_meanRate 3 (some .long)]
def wsL_law_r16 : List Cond := [Cond.methodLink RX8 128 yJxe99ae_doubleToLongBits_ccdee, Cond.static yJxe99ae_doubleToLongBits_ccdee, Cond.initialized RJxe99ae, Cond.code yJxe99ae_doubleToLongBits_ccdee cJxe99ae_doubleToLongBits_ccdee 2 (some .long), Cond.methodLink RJxe99ae 134 ⟨"java/lang/Double", "doubleToRawLongBits", "(D)J"⟩, Cond.native ⟨"java/lang/Double", "doubleToRawLongBits", "(D)J"⟩, Cond.static ⟨"java/lang/Double", "doubleToRawLongBits", "(D)J"⟩, Cond.initialized "java/lang/Double", Cond.constantLong RJxe99ae 137 (9221120237041090560), Cond.methodLink RJxe99ae 122 yJxe99ae_isNaN_b9ae7, Cond.static yJxe99ae_isNaN_b9ae7, Cond.code yJxe99ae_isNaN_b9ae7 cJxe99ae_isNaN_b9ae7 2 (some .boolean), Cond.methodLink RL 46 yX7_ofLog, Cond.instanceMethod yX7_ofLog, Cond.selects RX7 yX7_ofLog yX7_ofLog, Cond.code yX7_ofLog cX7_ofLog 2 (some .int), Cond.constant RX7 139 (100000), Cond.methodLink RX7 136 yX3_greatestRate, Cond.instanceMethod yX3_greatestRate, Cond.selects RX3 yX3_greatestRate yX3_greatestRate, Cond.code yX3_greatestRate cX3_greatestRate 3 (some .int), Cond.methodLink RX3 41 Lib.Math.max.name, Cond.static Lib.Math.max.name, Cond.code Lib.Math.max.name Lib.Math.max.code 2 (some .int)]
def wsL_law_r17 : List Cond := [Cond.methodLink RX7 140 yX3_leastRate, Cond.instanceMethod yX3_leastRate, Cond.selects RX3 yX3_leastRate yX3_leastRate, Cond.code yX3_leastRate cX3_leastRate 3 (some .int), Cond.methodLink RX7 143 yX3_countAboveZero, Cond.instanceMethod yX3_countAboveZero, Cond.selects RX3 yX3_countAboveZero yX3_countAboveZero, Cond.code yX3_countAboveZero cX3_countAboveZero 4 (some .int), Cond.methodLink RX7 146 yX3_countOtherTrays, Cond.instanceMethod yX3_countOtherTrays, Cond.selects RX3 yX3_countOtherTrays yX3_countOtherTrays, Cond.code yX3_countOtherTrays cX3_countOtherTrays 3 (some .int), Cond.methodLink RL 49 yX8_ofLog, Cond.instanceMethod yX8_ofLog, Cond.selects RX8 yX8_ofLog yX8_ofLog, Cond.code yX8_ofLog cX8_ofLog 2 (some .int), Cond.constantLong RX8 134 (4), Cond.methodLink RX8 136 yX8_greatest, Cond.instanceMethod yX8_greatest, Cond.selects RX8 yX8_greatest yX8_greatest, Cond.code yX8_greatest cX8_greatest 3 (some .int), Cond.methodLink RX8 139 yX8_least, Cond.instanceMethod yX8_least, Cond.selects RX8 yX8_least yX8_least]
def wsL_law_r18 : List Cond := [Cond.code yX8_least cX8_least 3 (some .int), Cond.methodLink RX8 142 yX8_fastHours, Cond.instanceMethod yX8_fastHours, Cond.selects RX8 yX8_fastHours yX8_fastHours, Cond.code yX8_fastHours cX8_fastHours 3 (some .int), Cond.methodLink RX8 145 yX8_setHours, Cond.instanceMethod yX8_setHours, Cond.selects RX8 yX8_setHours yX8_setHours, Cond.code yX8_setHours cX8_setHours 3 (some .int), Cond.methodLink RX8 148 yX8_changes, Cond.instanceMethod yX8_changes, Cond.selects RX8 yX8_changes yX8_changes, Cond.code yX8_changes cX8_changes 3 (some .int), Cond.methodLink RL 50 yX7_rate, Cond.instanceMethod yX7_rate, Cond.selects RX7 yX7_rate yX7_rate, Cond.code yX7_rate cX7_rate 3 (some .int), Cond.methodLink RX7 149 yX7_isHeat, Cond.methodLink RX7 153 yX7_isAir, Cond.methodLink RX7 156 yX0_rateIn, Cond.methodLink RL 53 yX8_rate, Cond.instanceMethod yX8_rate, Cond.selects RX8 yX8_rate yX8_rate, Cond.code yX8_rate cX8_rate 3 (some .int)]
def wsL_law_r19 : List Cond := [Cond.methodLink RL 54 yX7_bestWeights, Cond.instanceMethod yX7_bestWeights, Cond.selects RX7 yX7_bestWeights yX7_bestWeights, Cond.code yX7_bestWeights cX7_bestWeights 7 (some .int), Cond.methodLink RX7 162 Lib.Math.abs.name, Cond.static Lib.Math.abs.name, Cond.code Lib.Math.abs.name Lib.Math.abs.code 1 (some .int), Cond.methodLink RX7 159 yX0_bareRateIn, Cond.methodLink RL 58 yX8_bestWeights, Cond.instanceMethod yX8_bestWeights, Cond.selects RX8 yX8_bestWeights yX8_bestWeights, Cond.code yX8_bestWeights cX8_bestWeights 6 (some .int), Cond.methodLink RX8 151 yX8_size, Cond.static yX8_size, Cond.code yX8_size cX8_size 1 (some .int), Cond.methodLink RL 59 yX7_offIn, Cond.instanceMethod yX7_offIn, Cond.selects RX7 yX7_offIn yX7_offIn, Cond.code yX7_offIn cX7_offIn 6 (some .int), Cond.methodLink RX7 167 yX1_become, Cond.methodLink RX7 171 yX1_isMoreThan, Cond.methodLink RX7 174 yX1_addHour, Cond.methodLink RL 62 yX8_offIn, Cond.instanceMethod yX8_offIn]
def wsL_law_r20 : List Cond := [Cond.selects RX8 yX8_offIn yX8_offIn, Cond.code yX8_offIn cX8_offIn 4 (some .int), Cond.methodLink RL 63 yX7_replay, Cond.instanceMethod yX7_replay, Cond.selects RX7 yX7_replay yX7_replay, Cond.code yX7_replay cX7_replay 2 (some .int), Cond.methodLink RL 66 yX8_replay, Cond.instanceMethod yX8_replay, Cond.selects RX8 yX8_replay yX8_replay, Cond.code yX8_replay cX8_replay 2 (some .int), Cond.methodLink RL 67 yX7_coolest, Cond.instanceMethod yX7_coolest, Cond.selects RX7 yX7_coolest yX7_coolest, Cond.code yX7_coolest cX7_coolest 3 (some .int), Cond.methodLink RL 70 yX8_coolest, Cond.instanceMethod yX8_coolest, Cond.selects RX8 yX8_coolest yX8_coolest, Cond.code yX8_coolest cX8_coolest 3 (some .int), Cond.methodLink RL 73 yX7_put, Cond.instanceMethod yX7_put, Cond.selects RX7 yX7_put yX7_put, Cond.code yX7_put cX7_put 5 (some .int), Cond.methodLink RX7 178 yX7_signsIn, Cond.static yX7_signsIn]
def wsL_law_r21 : List Cond := [Cond.code yX7_signsIn cX7_signsIn 4 (some .int), Cond.methodLink RX7 182 yX7_codeAt, Cond.static yX7_codeAt, Cond.code yX7_codeAt cX7_codeAt 3 (some .int), Cond.methodLink RX7 186 yX4_append, Cond.instanceMethod yX4_append, Cond.selects RX4 yX4_append yX4_append, Cond.code yX4_append cX4_append 2 none, Cond.fieldLink RX4 15 "WarmRods$Pad" "length" "I", Cond.methodLink RL 77 yX8_put, Cond.instanceMethod yX8_put, Cond.selects RX8 yX8_put yX8_put, Cond.code yX8_put cX8_put 8 (some .int), Cond.constantLong RX8 154 (255), Cond.constantLong RX8 156 (33), Cond.constantLong RX8 158 (126), Cond.methodLink RL 78 yX7_wipe, Cond.instanceMethod yX7_wipe, Cond.selects RX7 yX7_wipe yX7_wipe, Cond.code yX7_wipe cX7_wipe 2 (some .int), Cond.methodLink RL 81 yX8_wipe, Cond.instanceMethod yX8_wipe, Cond.selects RX8 yX8_wipe yX8_wipe, Cond.code yX8_wipe cX8_wipe 2 (some .int)]
def wsL_law_r22 : List Cond := [Cond.methodLink RL 82 yX7_fault, Cond.instanceMethod yX7_fault, Cond.selects RX7 yX7_fault yX7_fault, Cond.code yX7_fault cX7_fault 1 (some .int), Cond.methodLink RX7 190 yX5_firstFault, Cond.instanceMethod yX5_firstFault, Cond.selects RX5 yX5_firstFault yX5_firstFault, Cond.code yX5_firstFault cX5_firstFault 2 (some .int), Cond.fieldLink RX5 18 "WarmRods$Reader" "place" "I", Cond.methodLink RX5 22 yX5_start, Cond.instanceMethod yX5_start, Cond.selects RX5 yX5_start yX5_start, Cond.code yX5_start cX5_start 1 none, Cond.methodLink RX5 25 yX5_readOrder, Cond.instanceMethod yX5_readOrder, Cond.selects RX5 yX5_readOrder yX5_readOrder, Cond.code yX5_readOrder cX5_readOrder 1 (some .boolean), Cond.fieldLink RX5 40 "WarmRods$Reader" "order" "I", Cond.methodLink RX5 36 yX4_signAt, Cond.instanceMethod yX4_signAt, Cond.selects RX4 yX4_signAt yX4_signAt, Cond.code yX4_signAt cX4_signAt 2 (some .int), Cond.methodLink RX5 43 yX5_readHours, Cond.instanceMethod yX5_readHours]
def wsL_law_r23 : List Cond := [Cond.selects RX5 yX5_readHours yX5_readHours, Cond.code yX5_readHours cX5_readHours 1 (some .boolean), Cond.fieldLink RX5 55 "WarmRods$Reader" "number" "I", Cond.fieldLink RX5 58 "WarmRods$Reader" "air" "I", Cond.fieldLink RX5 61 "WarmRods$Reader" "radio" "I", Cond.fieldLink RX5 64 "WarmRods$Reader" "hours" "I", Cond.methodLink RX5 49 yX5_readValue, Cond.instanceMethod yX5_readValue, Cond.selects RX5 yX5_readValue yX5_readValue, Cond.code yX5_readValue cX5_readValue 2 (some .boolean), Cond.fieldLink RX5 67 "WarmRods$Reader" "value" "I", Cond.methodLink RX5 32 yX5_readSign, Cond.instanceMethod yX5_readSign, Cond.selects RX5 yX5_readSign yX5_readSign, Cond.code yX5_readSign cX5_readSign 2 (some .boolean), Cond.methodLink RX5 52 yX5_readNumber, Cond.instanceMethod yX5_readNumber, Cond.selects RX5 yX5_readNumber yX5_readNumber, Cond.code yX5_readNumber cX5_readNumber 2 (some .boolean), Cond.methodLink RX5 70 yX5_isDigit, Cond.static yX5_isDigit, Cond.code yX5_isDigit cX5_isDigit 1 (some .boolean), Cond.methodLink RX5 46 yX5_readWeight, Cond.instanceMethod yX5_readWeight]
def wsL_law_r24 : List Cond := [Cond.selects RX5 yX5_readWeight yX5_readWeight, Cond.code yX5_readWeight cX5_readWeight 2 (some .boolean), Cond.methodLink RL 85 yX8_fault, Cond.instanceMethod yX8_fault, Cond.selects RX8 yX8_fault yX8_fault, Cond.code yX8_fault cX8_fault 2 (some .int), Cond.fieldLink RX8 160 "WarmRodsModel" "spot" "I", Cond.fieldLink RX8 181 "WarmRodsModel" "isDone" "Z", Cond.methodLink RX8 191 yX8_readsOrder, Cond.instanceMethod yX8_readsOrder, Cond.selects RX8 yX8_readsOrder yX8_readsOrder, Cond.code yX8_readsOrder cX8_readsOrder 1 (some .boolean), Cond.fieldLink RX8 166 "WarmRodsModel" "number" "I", Cond.methodLink RX8 169 yX8_takes, Cond.instanceMethod yX8_takes, Cond.selects RX8 yX8_takes yX8_takes, Cond.code yX8_takes cX8_takes 3 (some .boolean), Cond.methodLink RX8 163 yX8_isHere, Cond.instanceMethod yX8_isHere, Cond.selects RX8 yX8_isHere yX8_isHere, Cond.code yX8_isHere cX8_isHere 3 (some .boolean), Cond.methodLink RX8 185 yX8_does, Cond.instanceMethod yX8_does, Cond.selects RX8 yX8_does yX8_does]
def wsL_law_r25 : List Cond := [Cond.code yX8_does cX8_does 2 none, Cond.fieldLink RX8 175 "WarmRodsModel" "error" "I", Cond.methodLink RX8 178 yX8_readsValue, Cond.instanceMethod yX8_readsValue, Cond.selects RX8 yX8_readsValue yX8_readsValue, Cond.code yX8_readsValue cX8_readsValue 3 (some .boolean), Cond.methodLink RX8 172 yX8_readsNumber, Cond.instanceMethod yX8_readsNumber, Cond.selects RX8 yX8_readsNumber yX8_readsNumber, Cond.code yX8_readsNumber cX8_readsNumber 1 (some .boolean), Cond.methodLink RX8 188 yX8_readsHours, Cond.instanceMethod yX8_readsHours, Cond.selects RX8 yX8_readsHours yX8_readsHours, Cond.code yX8_readsHours cX8_readsHours 4 (some .boolean), Cond.methodLink RL 86 yX7_carryOut, Cond.instanceMethod yX7_carryOut, Cond.selects RX7 yX7_carryOut yX7_carryOut, Cond.code yX7_carryOut cX7_carryOut 3 (some .int), Cond.methodLink RX7 193 yX5_start, Cond.methodLink RX7 196 yX5_readOrder, Cond.methodLink RX7 200 yX7_carryOutOrder, Cond.instanceMethod yX7_carryOutOrder, Cond.selects RX7 yX7_carryOutOrder yX7_carryOutOrder, Cond.code yX7_carryOutOrder cX7_carryOutOrder 1 (some .boolean)]
def wsL_law_r26 : List Cond := [Cond.methodLink RX7 203 yX5_readSign, Cond.methodLink RL 89 yX8_carryOut, Cond.instanceMethod yX8_carryOut, Cond.selects RX8 yX8_carryOut yX8_carryOut, Cond.code yX8_carryOut cX8_carryOut 4 (some .int), Cond.methodLink RX8 194 yX8_fault, Cond.methodLink RL 90 yX7_undo, Cond.instanceMethod yX7_undo, Cond.selects RX7 yX7_undo yX7_undo, Cond.code yX7_undo cX7_undo 1 (some .int), Cond.methodLink RX7 207 yX2_takeBack, Cond.instanceMethod yX2_takeBack, Cond.selects RX2 yX2_takeBack yX2_takeBack, Cond.code yX2_takeBack cX2_takeBack 4 none, Cond.methodLink RL 93 yX8_undo, Cond.instanceMethod yX8_undo, Cond.selects RX8 yX8_undo yX8_undo, Cond.code yX8_undo cX8_undo 2 (some .int), Cond.methodLink RL 94 yX7_save, Cond.instanceMethod yX7_save, Cond.selects RX7 yX7_save yX7_save, Cond.code yX7_save cX7_save 3 (some .int), Cond.methodLink RX7 213 yX0_become, Cond.methodLink RL 97 yX8_save]
def wsL_law_r27 : List Cond := [Cond.instanceMethod yX8_save, Cond.selects RX8 yX8_save yX8_save, Cond.code yX8_save cX8_save 3 (some .int), Cond.methodLink RL 98 yX7_restore, Cond.instanceMethod yX7_restore, Cond.selects RX7 yX7_restore yX7_restore, Cond.code yX7_restore cX7_restore 3 (some .int), Cond.methodLink RL 101 yX8_restore, Cond.instanceMethod yX8_restore, Cond.selects RX8 yX8_restore yX8_restore, Cond.code yX8_restore cX8_restore 3 (some .int)]
def wsL_law : List Cond := (wsL_law_r1 ++ (wsL_law_r2 ++ (wsL_law_r3 ++ (wsL_law_r4 ++ (wsL_law_r5 ++ (wsL_law_r6 ++ (wsL_law_r7 ++ (wsL_law_r8 ++ (wsL_law_r9 ++ (wsL_law_r10 ++ (wsL_law_r11 ++ (wsL_law_r12 ++ (wsL_law_r13 ++ (wsL_law_r14 ++ (wsL_law_r15 ++ (wsL_law_r16 ++ (wsL_law_r17 ++ (wsL_law_r18 ++ (wsL_law_r19 ++ (wsL_law_r20 ++ (wsL_law_r21 ++ (wsL_law_r22 ++ (wsL_law_r23 ++ (wsL_law_r24 ++ (wsL_law_r25 ++ (wsL_law_r26 ++ wsL_law_r27)))))))))))))))))))))))))) ++ wsX70 ++ wsX80 ++ wsX00 ++ wsX20 ++ wsX60 ++ wsX50 ++ wsX10 ++ wsX30 ++ wsX40 ++ ([] : List Cond)
end
section
theorem zMemR {big : List Cond} (ws : List Cond) (ps : List Nat) (hp : ws = ps.filterMap (fun i => big[i]?)) : ∀ w ∈ ws, w ∈ big := by
  intro w hw
  rw [hp] at hw
  obtain ⟨i, -, hi⟩ := List.mem_filterMap.mp hw
  exact List.mem_of_getElem? hi
set_option maxRecDepth 20000 in
theorem wsL_law_i1 : ∀ w ∈ wsL_law_r1, w ∈ lw_tbl := zMemR wsL_law_r1 [47, 48, 35, 526, 527, 43, 801, 49, 50, 51, 52, 53, 54, 55, 56, 36, 207, 119, 120, 39, 208, 136, 137, 40] (by decide +kernel)
set_option maxRecDepth 20000 in
theorem wsL_law_i2 : ∀ w ∈ wsL_law_r2, w ∈ lw_tbl := zMemR wsL_law_r2 [209, 210, 152, 153, 41, 211, 205, 62, 37, 212, 58, 59, 60, 77, 91, 61, 92, 78, 79, 38, 94, 64, 65, 66] (by decide +kernel)
set_option maxRecDepth 20000 in
theorem wsL_law_i3 : ∀ w ∈ wsL_law_r3, w ∈ lw_tbl := zMemR wsL_law_r3 [81, 82, 83, 84, 121, 122, 123, 124, 125, 128, 139, 140, 141, 142, 144, 155, 156, 157, 158, 159, 42, 174, 161, 162] (by decide +kernel)
set_option maxRecDepth 20000 in
theorem wsL_law_i4 : ∀ w ∈ wsL_law_r4, w ∈ lw_tbl := zMemR wsL_law_r4 [163, 173, 164, 528, 529, 530, 531, 532, 533, 534, 536, 537, 540, 226, 227, 228, 229, 230, 231, 232, 233, 238, 239, 240] (by decide +kernel)
set_option maxRecDepth 20000 in
theorem wsL_law_i5 : ∀ w ∈ wsL_law_r5, w ∈ lw_tbl := zMemR wsL_law_r5 [241, 129, 258, 259, 45, 260, 242, 243, 244, 245, 246, 248, 247, 44, 96, 98, 100, 102, 249, 250, 251, 252, 67, 70] (by decide +kernel)
set_option maxRecDepth 20000 in
theorem wsL_law_i6 : ∀ w ∈ wsL_law_r6, w ∈ lw_tbl := zMemR wsL_law_r6 [253, 254, 255, 256, 257, 85, 261, 262, 263, 264, 265, 266, 267, 268, 575, 576, 577, 578, 579, 581, 8, 582, 583, 585] (by decide +kernel)
set_option maxRecDepth 20000 in
theorem wsL_law_i7 : ∀ w ∈ wsL_law_r7, w ∈ lw_tbl := zMemR wsL_law_r7 [9, 586, 587, 588, 589, 590, 594, 595, 596, 591, 592, 593, 597, 599, 10, 600, 535, 269, 270, 271, 272, 273, 274, 275] (by decide +kernel)
set_option maxRecDepth 20000 in
theorem wsL_law_i8 : ∀ w ∈ wsL_law_r8, w ∈ lw_tbl := zMemR wsL_law_r8 [276, 277, 278, 279, 280, 601, 602, 603, 604, 605, 607, 11, 608, 609, 281, 282, 283, 284, 285, 286, 287, 288, 290, 291] (by decide +kernel)
set_option maxRecDepth 20000 in
theorem wsL_law_i9 : ∀ w ∈ wsL_law_r9, w ∈ lw_tbl := zMemR wsL_law_r9 [293, 294, 295, 296, 297, 298, 299, 301, 0, 302, 69, 303, 304, 305, 306, 307, 308, 309, 310, 311, 312, 313, 314, 315] (by decide +kernel)
set_option maxRecDepth 20000 in
theorem wsL_law_i10 : ∀ w ∈ wsL_law_r10, w ∈ lw_tbl := zMemR wsL_law_r10 [316, 317, 318, 319, 320, 321, 322, 323, 324, 325, 326, 327, 329, 1, 330, 331, 333, 2, 334, 335, 336, 337, 338, 610] (by decide +kernel)
set_option maxRecDepth 20000 in
theorem wsL_law_i11 : ∀ w ∈ wsL_law_r11, w ∈ lw_tbl := zMemR wsL_law_r11 [611, 612, 613, 614, 616, 12, 617, 618, 619, 620, 621, 622, 623, 624, 625, 626, 627, 628, 630, 13, 631, 538, 539, 632] (by decide +kernel)
set_option maxRecDepth 20000 in
theorem wsL_law_i12 : ∀ w ∈ wsL_law_r12, w ∈ lw_tbl := zMemR wsL_law_r12 [634, 14, 635, 636, 638, 15, 639, 640, 642, 16, 643, 644, 646, 17, 647, 648, 650, 18, 651, 652, 654, 19, 655, 339] (by decide +kernel)
set_option maxRecDepth 20000 in
theorem wsL_law_i13 : ∀ w ∈ wsL_law_r13, w ∈ lw_tbl := zMemR wsL_law_r13 [340, 341, 342, 68, 344, 343, 656, 657, 658, 659, 660, 662, 20, 663, 664, 345, 346, 347, 348, 354, 349, 350, 351, 352] (by decide +kernel)
set_option maxRecDepth 20000 in
theorem wsL_law_i14 : ∀ w ∈ wsL_law_r14, w ∈ lw_tbl := zMemR wsL_law_r14 [353, 356, 357, 358, 359, 665, 666, 667, 668, 669, 674, 670, 672, 21, 673, 360, 361, 362, 363, 71, 364, 675, 676, 677] (by decide +kernel)
set_option maxRecDepth 20000 in
theorem wsL_law_i15 : ∀ w ∈ wsL_law_r15, w ∈ lw_tbl := zMemR wsL_law_r15 [678, 541, 365, 366, 367, 368, 369, 370, 371, 372, 373, 374, 375, 376, 377, 378, 379, 380, 381, 382, 679, 680, 681, 682] (by decide +kernel)
set_option maxRecDepth 20000 in
theorem wsL_law_i16 : ∀ w ∈ wsL_law_r16, w ∈ lw_tbl := zMemR wsL_law_r16 [683, 684, 46, 685, 689, 691, 690, 46, 692, 686, 687, 688, 383, 384, 385, 386, 394, 387, 388, 389, 390, 391, 392, 393] (by decide +kernel)
set_option maxRecDepth 20000 in
theorem wsL_law_i17 : ∀ w ∈ wsL_law_r17, w ∈ lw_tbl := zMemR wsL_law_r17 [395, 396, 397, 398, 399, 400, 401, 402, 403, 404, 405, 406, 693, 694, 695, 696, 697, 698, 700, 22, 701, 702, 704, 23] (by decide +kernel)
set_option maxRecDepth 20000 in
theorem wsL_law_i18 : ∀ w ∈ wsL_law_r18, w ∈ lw_tbl := zMemR wsL_law_r18 [705, 706, 708, 24, 709, 710, 712, 25, 713, 714, 716, 26, 717, 407, 408, 409, 410, 411, 412, 413, 718, 719, 720, 721] (by decide +kernel)
set_option maxRecDepth 20000 in
theorem wsL_law_i19 : ∀ w ∈ wsL_law_r19, w ∈ lw_tbl := zMemR wsL_law_r19 [414, 415, 416, 417, 419, 420, 421, 418, 722, 723, 724, 725, 726, 727, 728, 422, 423, 424, 425, 426, 427, 428, 729, 730] (by decide +kernel)
set_option maxRecDepth 20000 in
theorem wsL_law_i20 : ∀ w ∈ wsL_law_r20, w ∈ lw_tbl := zMemR wsL_law_r20 [731, 732, 429, 430, 431, 432, 733, 734, 735, 736, 433, 434, 435, 436, 737, 738, 739, 740, 437, 438, 439, 440, 441, 442] (by decide +kernel)
set_option maxRecDepth 20000 in
theorem wsL_law_i21 : ∀ w ∈ wsL_law_r21, w ∈ lw_tbl := zMemR wsL_law_r21 [443, 444, 445, 446, 447, 448, 449, 450, 165, 741, 742, 743, 744, 745, 746, 747, 451, 452, 453, 454, 748, 749, 750, 751] (by decide +kernel)
set_option maxRecDepth 20000 in
theorem wsL_law_i22 : ∀ w ∈ wsL_law_r22, w ∈ lw_tbl := zMemR wsL_law_r22 [455, 456, 457, 458, 459, 460, 461, 462, 176, 463, 464, 465, 466, 467, 468, 469, 470, 178, 471, 472, 473, 474, 475, 477] (by decide +kernel)
set_option maxRecDepth 20000 in
theorem wsL_law_i23 : ∀ w ∈ wsL_law_r23, w ∈ lw_tbl := zMemR wsL_law_r23 [3, 478, 177, 182, 184, 186, 479, 481, 4, 482, 180, 483, 484, 485, 486, 487, 489, 5, 490, 491, 492, 493, 494, 496] (by decide +kernel)
set_option maxRecDepth 20000 in
theorem wsL_law_i24 : ∀ w ∈ wsL_law_r24, w ∈ lw_tbl := zMemR wsL_law_r24 [6, 497, 752, 753, 754, 755, 542, 544, 756, 758, 27, 759, 543, 760, 762, 28, 763, 764, 766, 29, 767, 768, 770, 30] (by decide +kernel)
set_option maxRecDepth 20000 in
theorem wsL_law_i25 : ∀ w ∈ wsL_law_r25, w ∈ lw_tbl := zMemR wsL_law_r25 [771, 545, 772, 774, 31, 775, 776, 778, 32, 779, 780, 782, 33, 783, 498, 499, 500, 501, 502, 503, 504, 506, 7, 507] (by decide +kernel)
set_option maxRecDepth 20000 in
theorem wsL_law_i26 : ∀ w ∈ wsL_law_r26, w ∈ lw_tbl := zMemR wsL_law_r26 [508, 784, 785, 786, 787, 788, 509, 510, 511, 512, 513, 514, 515, 516, 789, 790, 791, 792, 517, 518, 519, 520, 521, 793] (by decide +kernel)
set_option maxRecDepth 20000 in
theorem wsL_law_i27 : ∀ w ∈ wsL_law_r27, w ∈ lw_tbl := zMemR wsL_law_r27 [794, 795, 796, 522, 523, 524, 525, 797, 798, 799, 800] (by decide +kernel)
set_option maxRecDepth 20000 in
theorem wsL_law_u7 : ∀ w ∈ wsX70, w ∈ lw_tbl := zMemR wsX70 [213, 215, 217, 219, 221, 223] (by decide +kernel)
set_option maxRecDepth 20000 in
theorem wsL_law_u8 : ∀ w ∈ wsX80, w ∈ lw_tbl := zMemR wsX80 [546, 548, 550, 552, 554, 556, 558, 560, 562, 564, 566, 568, 570, 572] (by decide +kernel)
set_option maxRecDepth 20000 in
theorem wsL_law_u0 : ∀ w ∈ wsX00, w ∈ lw_tbl := zMemR wsX00 [104, 106, 108, 110, 112, 114, 116] (by decide +kernel)
set_option maxRecDepth 20000 in
theorem wsL_law_u2 : ∀ w ∈ wsX20, w ∈ lw_tbl := zMemR wsX20 [131, 133] (by decide +kernel)
set_option maxRecDepth 20000 in
theorem wsL_law_u6 : ∀ w ∈ wsX60, w ∈ lw_tbl := zMemR wsX60 [147, 149] (by decide +kernel)
set_option maxRecDepth 20000 in
theorem wsL_law_u5 : ∀ w ∈ wsX50, w ∈ lw_tbl := zMemR wsX50 [188, 190, 192, 194, 196, 198, 200, 202] (by decide +kernel)
set_option maxRecDepth 20000 in
theorem wsL_law_u1 : ∀ w ∈ wsX10, w ∈ lw_tbl := zMemR wsX10 [72, 74] (by decide +kernel)
set_option maxRecDepth 20000 in
theorem wsL_law_u3 : ∀ w ∈ wsX30, w ∈ lw_tbl := zMemR wsX30 [86, 88] (by decide +kernel)
set_option maxRecDepth 20000 in
theorem wsL_law_u4 : ∀ w ∈ wsX40, w ∈ lw_tbl := zMemR wsX40 [168, 170] (by decide +kernel)
theorem wsL_law_in : ∀ w ∈ wsL_law, w ∈ lw_tbl := List.forall_mem_append.mpr ⟨List.forall_mem_append.mpr ⟨List.forall_mem_append.mpr ⟨List.forall_mem_append.mpr ⟨List.forall_mem_append.mpr ⟨List.forall_mem_append.mpr ⟨List.forall_mem_append.mpr ⟨List.forall_mem_append.mpr ⟨List.forall_mem_append.mpr ⟨List.forall_mem_append.mpr ⟨List.forall_mem_append.mpr ⟨wsL_law_i1, List.forall_mem_append.mpr ⟨wsL_law_i2, List.forall_mem_append.mpr ⟨wsL_law_i3, List.forall_mem_append.mpr ⟨wsL_law_i4, List.forall_mem_append.mpr ⟨wsL_law_i5, List.forall_mem_append.mpr ⟨wsL_law_i6, List.forall_mem_append.mpr ⟨wsL_law_i7, List.forall_mem_append.mpr ⟨wsL_law_i8, List.forall_mem_append.mpr ⟨wsL_law_i9, List.forall_mem_append.mpr ⟨wsL_law_i10, List.forall_mem_append.mpr ⟨wsL_law_i11, List.forall_mem_append.mpr ⟨wsL_law_i12, List.forall_mem_append.mpr ⟨wsL_law_i13, List.forall_mem_append.mpr ⟨wsL_law_i14, List.forall_mem_append.mpr ⟨wsL_law_i15, List.forall_mem_append.mpr ⟨wsL_law_i16, List.forall_mem_append.mpr ⟨wsL_law_i17, List.forall_mem_append.mpr ⟨wsL_law_i18, List.forall_mem_append.mpr ⟨wsL_law_i19, List.forall_mem_append.mpr ⟨wsL_law_i20, List.forall_mem_append.mpr ⟨wsL_law_i21, List.forall_mem_append.mpr ⟨wsL_law_i22, List.forall_mem_append.mpr ⟨wsL_law_i23, List.forall_mem_append.mpr ⟨wsL_law_i24, List.forall_mem_append.mpr ⟨wsL_law_i25, List.forall_mem_append.mpr ⟨wsL_law_i26, wsL_law_i27⟩⟩⟩⟩⟩⟩⟩⟩⟩⟩⟩⟩⟩⟩⟩⟩⟩⟩⟩⟩⟩⟩⟩⟩⟩⟩, wsL_law_u7⟩, wsL_law_u8⟩, wsL_law_u0⟩, wsL_law_u2⟩, wsL_law_u6⟩, wsL_law_u5⟩, wsL_law_u1⟩, wsL_law_u3⟩, wsL_law_u4⟩, fun _ h => absurd h List.not_mem_nil⟩
end
section
theorem inlX0 : ∀ w ∈ wsX00, w ∈ wsL_law := fun _ h => List.mem_append_left _ (List.mem_append_left _ (List.mem_append_left _ (List.mem_append_left _ (List.mem_append_left _ (List.mem_append_left _ (List.mem_append_left _ (List.mem_append_right _ h)))))))
theorem inX0 : ∀ w ∈ wsX00, w ∈ lw_tbl := fun w h => wsL_law_in w (inlX0 w h)
theorem inlX1 : ∀ w ∈ wsX10, w ∈ wsL_law := fun _ h => List.mem_append_left _ (List.mem_append_left _ (List.mem_append_left _ (List.mem_append_right _ h)))
theorem inX1 : ∀ w ∈ wsX10, w ∈ lw_tbl := fun w h => wsL_law_in w (inlX1 w h)
theorem inlX2 : ∀ w ∈ wsX20, w ∈ wsL_law := fun _ h => List.mem_append_left _ (List.mem_append_left _ (List.mem_append_left _ (List.mem_append_left _ (List.mem_append_left _ (List.mem_append_left _ (List.mem_append_right _ h))))))
theorem inX2 : ∀ w ∈ wsX20, w ∈ lw_tbl := fun w h => wsL_law_in w (inlX2 w h)
theorem inlX3 : ∀ w ∈ wsX30, w ∈ wsL_law := fun _ h => List.mem_append_left _ (List.mem_append_left _ (List.mem_append_right _ h))
theorem inX3 : ∀ w ∈ wsX30, w ∈ lw_tbl := fun w h => wsL_law_in w (inlX3 w h)
theorem inlX4 : ∀ w ∈ wsX40, w ∈ wsL_law := fun _ h => List.mem_append_left _ (List.mem_append_right _ h)
theorem inX4 : ∀ w ∈ wsX40, w ∈ lw_tbl := fun w h => wsL_law_in w (inlX4 w h)
theorem inlX5 : ∀ w ∈ wsX50, w ∈ wsL_law := fun _ h => List.mem_append_left _ (List.mem_append_left _ (List.mem_append_left _ (List.mem_append_left _ (List.mem_append_right _ h))))
theorem inX5 : ∀ w ∈ wsX50, w ∈ lw_tbl := fun w h => wsL_law_in w (inlX5 w h)
theorem inlX6 : ∀ w ∈ wsX60, w ∈ wsL_law := fun _ h => List.mem_append_left _ (List.mem_append_left _ (List.mem_append_left _ (List.mem_append_left _ (List.mem_append_left _ (List.mem_append_right _ h)))))
theorem inX6 : ∀ w ∈ wsX60, w ∈ lw_tbl := fun w h => wsL_law_in w (inlX6 w h)
theorem inlX7 : ∀ w ∈ wsX70, w ∈ wsL_law := fun _ h => List.mem_append_left _ (List.mem_append_left _ (List.mem_append_left _ (List.mem_append_left _ (List.mem_append_left _ (List.mem_append_left _ (List.mem_append_left _ (List.mem_append_left _ (List.mem_append_left _ (List.mem_append_right _ h)))))))))
theorem inX7 : ∀ w ∈ wsX70, w ∈ lw_tbl := fun w h => wsL_law_in w (inlX7 w h)
theorem inlX8 : ∀ w ∈ wsX80, w ∈ wsL_law := fun _ h => List.mem_append_left _ (List.mem_append_left _ (List.mem_append_left _ (List.mem_append_left _ (List.mem_append_left _ (List.mem_append_left _ (List.mem_append_left _ (List.mem_append_left _ (List.mem_append_right _ h))))))))
theorem inX8 : ∀ w ∈ wsX80, w ∈ lw_tbl := fun w h => wsL_law_in w (inlX8 w h)
theorem inJxe99ae : ∀ w ∈ wsJxe99ae0, w ∈ lw_tbl := by decide +kernel
theorem inJ9 : ∀ w ∈ wsJ90, w ∈ lw_tbl := by decide +kernel
theorem inJ10 : ∀ w ∈ wsJ100, w ∈ lw_tbl := by decide +kernel
set_option maxRecDepth 20000 in
theorem ggX0_init_X1_init : GoodIn wsX0_init wsX1_init := goodIn_r _ [15, 16, 2, 3] (by decide +kernel) (by decide +kernel)
set_option maxRecDepth 20000 in
theorem gX0_init_X1_init_n17 : GoodIn wsX0_init (wsX1_init) := ggX0_init_X1_init
set_option maxRecDepth 20000 in
theorem ggX0_init_X3_init : GoodIn wsX0_init wsX3_init := goodIn_r _ [18, 19, 2, 3, 4, 20, 30, 31] (by decide +kernel) (by decide +kernel)
set_option maxRecDepth 20000 in
theorem gX0_init_X3_init_n24 : GoodIn wsX0_init (wsX3_init) := ggX0_init_X3_init
theorem dX0_init_0 : decode cX0_init 0 = .ok (.aload_n 0, 1) := by decide +kernel
theorem dX0_init_1 : decode cX0_init 1 = .ok (.invokespecial 3, 3) := by decide +kernel
theorem dX0_init_4 : decode cX0_init 4 = .ok (.aload_n 0, 1) := by decide +kernel
theorem dX0_init_5 : decode cX0_init 5 = .ok (.iconst 4, 1) := by decide +kernel
theorem dX0_init_6 : decode cX0_init 6 = .ok (.newarray .int, 2) := by decide +kernel
theorem dX0_init_8 : decode cX0_init 8 = .ok (.dup, 1) := by decide +kernel
theorem dX0_init_9 : decode cX0_init 9 = .ok (.iconst 0, 1) := by decide +kernel
theorem dX0_init_10 : decode cX0_init 10 = .ok (.bipush 12, 2) := by decide +kernel
theorem dX0_init_12 : decode cX0_init 12 = .ok (.iastore, 1) := by decide +kernel
theorem dX0_init_13 : decode cX0_init 13 = .ok (.dup, 1) := by decide +kernel
theorem dX0_init_14 : decode cX0_init 14 = .ok (.iconst 1, 1) := by decide +kernel
theorem dX0_init_15 : decode cX0_init 15 = .ok (.bipush 15, 2) := by decide +kernel
theorem dX0_init_17 : decode cX0_init 17 = .ok (.iastore, 1) := by decide +kernel
theorem dX0_init_18 : decode cX0_init 18 = .ok (.dup, 1) := by decide +kernel
theorem dX0_init_19 : decode cX0_init 19 = .ok (.iconst 2, 1) := by decide +kernel
theorem dX0_init_20 : decode cX0_init 20 = .ok (.iconst 0, 1) := by decide +kernel
theorem dX0_init_21 : decode cX0_init 21 = .ok (.iastore, 1) := by decide +kernel
theorem dX0_init_22 : decode cX0_init 22 = .ok (.dup, 1) := by decide +kernel
theorem dX0_init_23 : decode cX0_init 23 = .ok (.iconst 3, 1) := by decide +kernel
theorem dX0_init_24 : decode cX0_init 24 = .ok (.sipush 500, 3) := by decide +kernel
theorem dX0_init_27 : decode cX0_init 27 = .ok (.iastore, 1) := by decide +kernel
theorem dX0_init_28 : decode cX0_init 28 = .ok (.putfield 9, 3) := by decide +kernel
theorem dX0_init_31 : decode cX0_init 31 = .ok (.aload_n 0, 1) := by decide +kernel
theorem dX0_init_32 : decode cX0_init 32 = .ok (.new 15, 3) := by decide +kernel
theorem dX0_init_35 : decode cX0_init 35 = .ok (.dup, 1) := by decide +kernel
theorem dX0_init_36 : decode cX0_init 36 = .ok (.invokespecial 17, 3) := by decide +kernel
theorem dX0_init_39 : decode cX0_init 39 = .ok (.putfield 18, 3) := by decide +kernel
theorem dX0_init_42 : decode cX0_init 42 = .ok (.aload_n 0, 1) := by decide +kernel
theorem dX0_init_43 : decode cX0_init 43 = .ok (.new 22, 3) := by decide +kernel
theorem dX0_init_46 : decode cX0_init 46 = .ok (.dup, 1) := by decide +kernel
theorem dX0_init_47 : decode cX0_init 47 = .ok (.invokespecial 24, 3) := by decide +kernel
theorem dX0_init_50 : decode cX0_init 50 = .ok (.putfield 25, 3) := by decide +kernel
theorem dX0_init_53 : decode cX0_init 53 = .ok (.return_, 1) := by decide +kernel
set_option maxRecDepth 20000 in
theorem ggX0_become_X1_become : GoodIn wsX0_become wsX1_become := goodIn_r _ [16, 17, 18, 34, 35] (by decide +kernel) (by decide +kernel)
set_option maxRecDepth 20000 in
theorem gX0_become_X1_become : GoodIn wsX0_become (wsV RX0 35 RX1 yX1_become wsX1_become) := goodIn_app (goodIn_of _ (by decide +kernel)) ggX0_become_X1_become
set_option maxRecDepth 20000 in
theorem ggX0_become_X3_become : GoodIn wsX0_become wsX3_become := goodIn_r _ [23, 24, 25, 3, 4, 5, 26, 36, 37] (by decide +kernel) (by decide +kernel)
set_option maxRecDepth 20000 in
theorem gX0_become_X3_become : GoodIn wsX0_become (wsV RX0 39 RX3 yX3_become wsX3_become) := goodIn_app (goodIn_of _ (by decide +kernel)) ggX0_become_X3_become
theorem dX0_become_0 : decode cX0_become 0 = .ok (.aload_n 1, 1) := by decide +kernel
theorem dX0_become_1 : decode cX0_become 1 = .ok (.getfield 9, 3) := by decide +kernel
theorem dX0_become_4 : decode cX0_become 4 = .ok (.iconst 0, 1) := by decide +kernel
theorem dX0_become_5 : decode cX0_become 5 = .ok (.aload_n 0, 1) := by decide +kernel
theorem dX0_become_6 : decode cX0_become 6 = .ok (.getfield 9, 3) := by decide +kernel
theorem dX0_become_9 : decode cX0_become 9 = .ok (.iconst 0, 1) := by decide +kernel
theorem dX0_become_10 : decode cX0_become 10 = .ok (.aload_n 0, 1) := by decide +kernel
theorem dX0_become_11 : decode cX0_become 11 = .ok (.getfield 9, 3) := by decide +kernel
theorem dX0_become_14 : decode cX0_become 14 = .ok (.arraylength, 1) := by decide +kernel
theorem dX0_become_15 : decode cX0_become 15 = .ok (.invokestatic 29, 3) := by decide +kernel
theorem dX0_become_18 : decode cX0_become 18 = .ok (.aload_n 0, 1) := by decide +kernel
theorem dX0_become_19 : decode cX0_become 19 = .ok (.getfield 18, 3) := by decide +kernel
theorem dX0_become_22 : decode cX0_become 22 = .ok (.aload_n 1, 1) := by decide +kernel
theorem dX0_become_23 : decode cX0_become 23 = .ok (.getfield 18, 3) := by decide +kernel
theorem dX0_become_26 : decode cX0_become 26 = .ok (.invokevirtual 35, 3) := by decide +kernel
theorem dX0_become_29 : decode cX0_become 29 = .ok (.aload_n 0, 1) := by decide +kernel
theorem dX0_become_30 : decode cX0_become 30 = .ok (.getfield 25, 3) := by decide +kernel
theorem dX0_become_33 : decode cX0_become 33 = .ok (.aload_n 1, 1) := by decide +kernel
theorem dX0_become_34 : decode cX0_become 34 = .ok (.getfield 25, 3) := by decide +kernel
theorem dX0_become_37 : decode cX0_become 37 = .ok (.invokevirtual 39, 3) := by decide +kernel
theorem dX0_become_40 : decode cX0_become 40 = .ok (.aload_n 0, 1) := by decide +kernel
theorem dX0_become_41 : decode cX0_become 41 = .ok (.aload_n 1, 1) := by decide +kernel
theorem dX0_become_42 : decode cX0_become 42 = .ok (.getfield 42, 3) := by decide +kernel
theorem dX0_become_45 : decode cX0_become 45 = .ok (.putfield 42, 3) := by decide +kernel
theorem dX0_become_48 : decode cX0_become 48 = .ok (.aload_n 0, 1) := by decide +kernel
theorem dX0_become_49 : decode cX0_become 49 = .ok (.aload_n 1, 1) := by decide +kernel
theorem dX0_become_50 : decode cX0_become 50 = .ok (.getfield 46, 3) := by decide +kernel
theorem dX0_become_53 : decode cX0_become 53 = .ok (.putfield 46, 3) := by decide +kernel
theorem dX0_become_56 : decode cX0_become 56 = .ok (.aload_n 0, 1) := by decide +kernel
theorem dX0_become_57 : decode cX0_become 57 = .ok (.aload_n 1, 1) := by decide +kernel
theorem dX0_become_58 : decode cX0_become 58 = .ok (.getfield 49, 3) := by decide +kernel
theorem dX0_become_61 : decode cX0_become 61 = .ok (.putfield 49, 3) := by decide +kernel
theorem dX0_become_64 : decode cX0_become 64 = .ok (.aload_n 0, 1) := by decide +kernel
theorem dX0_become_65 : decode cX0_become 65 = .ok (.aload_n 1, 1) := by decide +kernel
theorem dX0_become_66 : decode cX0_become 66 = .ok (.getfield 52, 3) := by decide +kernel
theorem dX0_become_69 : decode cX0_become 69 = .ok (.putfield 52, 3) := by decide +kernel
theorem dX0_become_72 : decode cX0_become 72 = .ok (.return_, 1) := by decide +kernel
theorem dX0_setting_0 : decode cX0_setting 0 = .ok (.iload_n 1, 1) := by decide +kernel
theorem dX0_setting_1 : decode cX0_setting 1 = .ok (.ifCond .lt 21, 3) := by decide +kernel
theorem dX0_setting_4 : decode cX0_setting 4 = .ok (.iload_n 1, 1) := by decide +kernel
theorem dX0_setting_5 : decode cX0_setting 5 = .ok (.aload_n 0, 1) := by decide +kernel
theorem dX0_setting_6 : decode cX0_setting 6 = .ok (.getfield 9, 3) := by decide +kernel
theorem dX0_setting_9 : decode cX0_setting 9 = .ok (.arraylength, 1) := by decide +kernel
theorem dX0_setting_10 : decode cX0_setting 10 = .ok (.if_icmp .ge 12, 3) := by decide +kernel
theorem dX0_setting_13 : decode cX0_setting 13 = .ok (.aload_n 0, 1) := by decide +kernel
theorem dX0_setting_14 : decode cX0_setting 14 = .ok (.getfield 9, 3) := by decide +kernel
theorem dX0_setting_17 : decode cX0_setting 17 = .ok (.iload_n 1, 1) := by decide +kernel
theorem dX0_setting_18 : decode cX0_setting 18 = .ok (.iaload, 1) := by decide +kernel
theorem dX0_setting_19 : decode cX0_setting 19 = .ok (.goto 4, 3) := by decide +kernel
theorem dX0_setting_22 : decode cX0_setting 22 = .ok (.iconst 0, 1) := by decide +kernel
theorem dX0_setting_23 : decode cX0_setting 23 = .ok (.ireturn, 1) := by decide +kernel
theorem dX0_errorOfSetting_0 : decode cX0_errorOfSetting 0 = .ok (.iload_n 1, 1) := by decide +kernel
theorem dX0_errorOfSetting_1 : decode cX0_errorOfSetting 1 = .ok (.ifCond .lt 8, 3) := by decide +kernel
theorem dX0_errorOfSetting_4 : decode cX0_errorOfSetting 4 = .ok (.iload_n 1, 1) := by decide +kernel
theorem dX0_errorOfSetting_5 : decode cX0_errorOfSetting 5 = .ok (.iconst 4, 1) := by decide +kernel
theorem dX0_errorOfSetting_6 : decode cX0_errorOfSetting 6 = .ok (.if_icmp .lt 6, 3) := by decide +kernel
theorem dX0_errorOfSetting_9 : decode cX0_errorOfSetting 9 = .ok (.bipush (-2), 2) := by decide +kernel
theorem dX0_errorOfSetting_11 : decode cX0_errorOfSetting 11 = .ok (.ireturn, 1) := by decide +kernel
theorem dX0_errorOfSetting_12 : decode cX0_errorOfSetting 12 = .ok (.iload_n 2, 1) := by decide +kernel
theorem dX0_errorOfSetting_13 : decode cX0_errorOfSetting 13 = .ok (.getstatic 55, 3) := by decide +kernel
theorem dX0_errorOfSetting_16 : decode cX0_errorOfSetting 16 = .ok (.iload_n 1, 1) := by decide +kernel
theorem dX0_errorOfSetting_17 : decode cX0_errorOfSetting 17 = .ok (.iaload, 1) := by decide +kernel
theorem dX0_errorOfSetting_18 : decode cX0_errorOfSetting 18 = .ok (.if_icmp .lt 12, 3) := by decide +kernel
theorem dX0_errorOfSetting_21 : decode cX0_errorOfSetting 21 = .ok (.iload_n 2, 1) := by decide +kernel
theorem dX0_errorOfSetting_22 : decode cX0_errorOfSetting 22 = .ok (.getstatic 58, 3) := by decide +kernel
theorem dX0_errorOfSetting_25 : decode cX0_errorOfSetting 25 = .ok (.iload_n 1, 1) := by decide +kernel
theorem dX0_errorOfSetting_26 : decode cX0_errorOfSetting 26 = .ok (.iaload, 1) := by decide +kernel
theorem dX0_errorOfSetting_27 : decode cX0_errorOfSetting 27 = .ok (.if_icmp .le 8, 3) := by decide +kernel
theorem dX0_errorOfSetting_30 : decode cX0_errorOfSetting 30 = .ok (.bipush (-2), 2) := by decide +kernel
theorem dX0_errorOfSetting_32 : decode cX0_errorOfSetting 32 = .ok (.goto 4, 3) := by decide +kernel
theorem dX0_errorOfSetting_35 : decode cX0_errorOfSetting 35 = .ok (.iconst 0, 1) := by decide +kernel
theorem dX0_errorOfSetting_36 : decode cX0_errorOfSetting 36 = .ok (.ireturn, 1) := by decide +kernel
set_option maxRecDepth 20000 in
theorem ggX0_changeSetting_X0_setting : GoodIn wsX0_changeSetting wsX0_setting := goodIn_r _ [6, 1, 7, 8, 9, 10, 11, 12, 13] (by decide +kernel) (by decide +kernel)
set_option maxRecDepth 20000 in
theorem gX0_changeSetting_X0_setting : GoodIn wsX0_changeSetting (wsV RX0 61 RX0 yX0_setting wsX0_setting) := goodIn_app (goodIn_of _ (by decide +kernel)) ggX0_changeSetting_X0_setting
theorem dX0_changeSetting_0 : decode cX0_changeSetting 0 = .ok (.aload_n 0, 1) := by decide +kernel
theorem dX0_changeSetting_1 : decode cX0_changeSetting 1 = .ok (.iload_n 1, 1) := by decide +kernel
theorem dX0_changeSetting_2 : decode cX0_changeSetting 2 = .ok (.invokevirtual 61, 3) := by decide +kernel
theorem dX0_changeSetting_5 : decode cX0_changeSetting 5 = .ok (.istore_n 3, 1) := by decide +kernel
theorem dX0_changeSetting_6 : decode cX0_changeSetting 6 = .ok (.iload_n 1, 1) := by decide +kernel
theorem dX0_changeSetting_7 : decode cX0_changeSetting 7 = .ok (.ifCond .lt 19, 3) := by decide +kernel
theorem dX0_changeSetting_10 : decode cX0_changeSetting 10 = .ok (.iload_n 1, 1) := by decide +kernel
theorem dX0_changeSetting_11 : decode cX0_changeSetting 11 = .ok (.aload_n 0, 1) := by decide +kernel
theorem dX0_changeSetting_12 : decode cX0_changeSetting 12 = .ok (.getfield 9, 3) := by decide +kernel
theorem dX0_changeSetting_15 : decode cX0_changeSetting 15 = .ok (.arraylength, 1) := by decide +kernel
theorem dX0_changeSetting_16 : decode cX0_changeSetting 16 = .ok (.if_icmp .ge 10, 3) := by decide +kernel
theorem dX0_changeSetting_19 : decode cX0_changeSetting 19 = .ok (.aload_n 0, 1) := by decide +kernel
theorem dX0_changeSetting_20 : decode cX0_changeSetting 20 = .ok (.getfield 9, 3) := by decide +kernel
theorem dX0_changeSetting_23 : decode cX0_changeSetting 23 = .ok (.iload_n 1, 1) := by decide +kernel
theorem dX0_changeSetting_24 : decode cX0_changeSetting 24 = .ok (.iload_n 2, 1) := by decide +kernel
theorem dX0_changeSetting_25 : decode cX0_changeSetting 25 = .ok (.iastore, 1) := by decide +kernel
theorem dX0_changeSetting_26 : decode cX0_changeSetting 26 = .ok (.iload_n 3, 1) := by decide +kernel
theorem dX0_changeSetting_27 : decode cX0_changeSetting 27 = .ok (.ireturn, 1) := by decide +kernel
theorem dX0_errorOfWeight_0 : decode cX0_errorOfWeight 0 = .ok (.iload_n 1, 1) := by decide +kernel
theorem dX0_errorOfWeight_1 : decode cX0_errorOfWeight 1 = .ok (.ifCond .lt 9, 3) := by decide +kernel
theorem dX0_errorOfWeight_4 : decode cX0_errorOfWeight 4 = .ok (.iload_n 1, 1) := by decide +kernel
theorem dX0_errorOfWeight_5 : decode cX0_errorOfWeight 5 = .ok (.bipush 8, 2) := by decide +kernel
theorem dX0_errorOfWeight_7 : decode cX0_errorOfWeight 7 = .ok (.if_icmp .lt 7, 3) := by decide +kernel
theorem dX0_errorOfWeight_10 : decode cX0_errorOfWeight 10 = .ok (.iconst (-1), 1) := by decide +kernel
theorem dX0_errorOfWeight_11 : decode cX0_errorOfWeight 11 = .ok (.goto 4, 3) := by decide +kernel
theorem dX0_errorOfWeight_14 : decode cX0_errorOfWeight 14 = .ok (.iconst 0, 1) := by decide +kernel
theorem dX0_errorOfWeight_15 : decode cX0_errorOfWeight 15 = .ok (.ireturn, 1) := by decide +kernel
theorem dX0_moveWeight_0 : decode cX0_moveWeight 0 = .ok (.aload_n 0, 1) := by decide +kernel
theorem dX0_moveWeight_1 : decode cX0_moveWeight 1 = .ok (.dup, 1) := by decide +kernel
theorem dX0_moveWeight_2 : decode cX0_moveWeight 2 = .ok (.getfield 42, 3) := by decide +kernel
theorem dX0_moveWeight_5 : decode cX0_moveWeight 5 = .ok (.iconst 1, 1) := by decide +kernel
theorem dX0_moveWeight_6 : decode cX0_moveWeight 6 = .ok (.iload_n 1, 1) := by decide +kernel
theorem dX0_moveWeight_7 : decode cX0_moveWeight 7 = .ok (.ishl, 1) := by decide +kernel
theorem dX0_moveWeight_8 : decode cX0_moveWeight 8 = .ok (.ixor, 1) := by decide +kernel
theorem dX0_moveWeight_9 : decode cX0_moveWeight 9 = .ok (.putfield 42, 3) := by decide +kernel
theorem dX0_moveWeight_12 : decode cX0_moveWeight 12 = .ok (.aload_n 0, 1) := by decide +kernel
theorem dX0_moveWeight_13 : decode cX0_moveWeight 13 = .ok (.getfield 42, 3) := by decide +kernel
theorem dX0_moveWeight_16 : decode cX0_moveWeight 16 = .ok (.iload_n 1, 1) := by decide +kernel
theorem dX0_moveWeight_17 : decode cX0_moveWeight 17 = .ok (.ishr, 1) := by decide +kernel
theorem dX0_moveWeight_18 : decode cX0_moveWeight 18 = .ok (.iconst 1, 1) := by decide +kernel
theorem dX0_moveWeight_19 : decode cX0_moveWeight 19 = .ok (.iand, 1) := by decide +kernel
theorem dX0_moveWeight_20 : decode cX0_moveWeight 20 = .ok (.ireturn, 1) := by decide +kernel
set_option maxRecDepth 20000 in
theorem ggX0_bareRateIn_X0_setting : GoodIn wsX0_bareRateIn wsX0_setting := goodIn_r _ [5, 6, 7, 8, 9, 10, 11, 12, 13] (by decide +kernel) (by decide +kernel)
set_option maxRecDepth 20000 in
theorem gX0_bareRateIn_X0_setting : GoodIn wsX0_bareRateIn (wsV RX0 61 RX0 yX0_setting wsX0_setting) := goodIn_app (goodIn_of _ (by decide +kernel)) ggX0_bareRateIn_X0_setting
theorem dX0_bareRateIn_0 : decode cX0_bareRateIn 0 = .ok (.aload_n 0, 1) := by decide +kernel
theorem dX0_bareRateIn_1 : decode cX0_bareRateIn 1 = .ok (.iconst 2, 1) := by decide +kernel
theorem dX0_bareRateIn_2 : decode cX0_bareRateIn 2 = .ok (.invokevirtual 61, 3) := by decide +kernel
theorem dX0_bareRateIn_5 : decode cX0_bareRateIn 5 = .ok (.aload_n 0, 1) := by decide +kernel
theorem dX0_bareRateIn_6 : decode cX0_bareRateIn 6 = .ok (.iconst 0, 1) := by decide +kernel
theorem dX0_bareRateIn_7 : decode cX0_bareRateIn 7 = .ok (.invokevirtual 61, 3) := by decide +kernel
theorem dX0_bareRateIn_10 : decode cX0_bareRateIn 10 = .ok (.iload_n 1, 1) := by decide +kernel
theorem dX0_bareRateIn_11 : decode cX0_bareRateIn 11 = .ok (.bipush 20, 2) := by decide +kernel
theorem dX0_bareRateIn_13 : decode cX0_bareRateIn 13 = .ok (.isub, 1) := by decide +kernel
theorem dX0_bareRateIn_14 : decode cX0_bareRateIn 14 = .ok (.imul, 1) := by decide +kernel
theorem dX0_bareRateIn_15 : decode cX0_bareRateIn 15 = .ok (.isub, 1) := by decide +kernel
theorem dX0_bareRateIn_16 : decode cX0_bareRateIn 16 = .ok (.aload_n 0, 1) := by decide +kernel
theorem dX0_bareRateIn_17 : decode cX0_bareRateIn 17 = .ok (.iconst 1, 1) := by decide +kernel
theorem dX0_bareRateIn_18 : decode cX0_bareRateIn 18 = .ok (.invokevirtual 61, 3) := by decide +kernel
theorem dX0_bareRateIn_21 : decode cX0_bareRateIn 21 = .ok (.iload_n 2, 1) := by decide +kernel
theorem dX0_bareRateIn_22 : decode cX0_bareRateIn 22 = .ok (.sipush 1000, 3) := by decide +kernel
theorem dX0_bareRateIn_25 : decode cX0_bareRateIn 25 = .ok (.isub, 1) := by decide +kernel
theorem dX0_bareRateIn_26 : decode cX0_bareRateIn 26 = .ok (.imul, 1) := by decide +kernel
theorem dX0_bareRateIn_27 : decode cX0_bareRateIn 27 = .ok (.bipush 10, 2) := by decide +kernel
theorem dX0_bareRateIn_29 : decode cX0_bareRateIn 29 = .ok (.idiv, 1) := by decide +kernel
theorem dX0_bareRateIn_30 : decode cX0_bareRateIn 30 = .ok (.isub, 1) := by decide +kernel
theorem dX0_bareRateIn_31 : decode cX0_bareRateIn 31 = .ok (.ireturn, 1) := by decide +kernel
set_option maxRecDepth 20000 in
theorem ggX0_rateIn_X0_bareRateIn : GoodIn wsX0_rateIn wsX0_bareRateIn := goodIn_r _ [6, 7, 8, 9, 5, 10, 11, 12, 13, 14, 15, 16, 17, 18] (by decide +kernel) (by decide +kernel)
set_option maxRecDepth 20000 in
theorem gX0_rateIn_X0_bareRateIn : GoodIn wsX0_rateIn (wsV RX0 65 RX0 yX0_bareRateIn wsX0_bareRateIn) := goodIn_app (goodIn_of _ (by decide +kernel)) ggX0_rateIn_X0_bareRateIn
theorem dX0_rateIn_0 : decode cX0_rateIn 0 = .ok (.aload_n 0, 1) := by decide +kernel
theorem dX0_rateIn_1 : decode cX0_rateIn 1 = .ok (.iload_n 1, 1) := by decide +kernel
theorem dX0_rateIn_2 : decode cX0_rateIn 2 = .ok (.iload_n 2, 1) := by decide +kernel
theorem dX0_rateIn_3 : decode cX0_rateIn 3 = .ok (.invokevirtual 65, 3) := by decide +kernel
theorem dX0_rateIn_6 : decode cX0_rateIn 6 = .ok (.aload_n 0, 1) := by decide +kernel
theorem dX0_rateIn_7 : decode cX0_rateIn 7 = .ok (.getfield 42, 3) := by decide +kernel
theorem dX0_rateIn_10 : decode cX0_rateIn 10 = .ok (.iadd, 1) := by decide +kernel
theorem dX0_rateIn_11 : decode cX0_rateIn 11 = .ok (.ireturn, 1) := by decide +kernel
set_option maxRecDepth 20000 in
theorem ggX0_errorOfHours_X7_isHeat : GoodIn wsX0_errorOfHours wsX7_isHeat := goodIn_r _ [4] (by decide +kernel) (by decide +kernel)
set_option maxRecDepth 20000 in
theorem gX0_errorOfHours_X7_isHeat_n69 : GoodIn wsX0_errorOfHours (wsX7_isHeat) := ggX0_errorOfHours_X7_isHeat
set_option maxRecDepth 20000 in
theorem ggX0_errorOfHours_X7_isAir : GoodIn wsX0_errorOfHours wsX7_isAir := goodIn_r _ [6] (by decide +kernel) (by decide +kernel)
set_option maxRecDepth 20000 in
theorem gX0_errorOfHours_X7_isAir_n73 : GoodIn wsX0_errorOfHours (wsX7_isAir) := ggX0_errorOfHours_X7_isAir
theorem dX0_errorOfHours_0 : decode cX0_errorOfHours 0 = .ok (.iload_n 1, 1) := by decide +kernel
theorem dX0_errorOfHours_1 : decode cX0_errorOfHours 1 = .ok (.invokestatic 69, 3) := by decide +kernel
theorem dX0_errorOfHours_4 : decode cX0_errorOfHours 4 = .ok (.ifCond .eq 19, 3) := by decide +kernel
theorem dX0_errorOfHours_7 : decode cX0_errorOfHours 7 = .ok (.iload_n 2, 1) := by decide +kernel
theorem dX0_errorOfHours_8 : decode cX0_errorOfHours 8 = .ok (.invokestatic 73, 3) := by decide +kernel
theorem dX0_errorOfHours_11 : decode cX0_errorOfHours 11 = .ok (.ifCond .eq 12, 3) := by decide +kernel
theorem dX0_errorOfHours_14 : decode cX0_errorOfHours 14 = .ok (.iload_n 3, 1) := by decide +kernel
theorem dX0_errorOfHours_15 : decode cX0_errorOfHours 15 = .ok (.ifCond .lt 8, 3) := by decide +kernel
theorem dX0_errorOfHours_18 : decode cX0_errorOfHours 18 = .ok (.iload_n 3, 1) := by decide +kernel
theorem dX0_errorOfHours_19 : decode cX0_errorOfHours 19 = .ok (.iconst 1, 1) := by decide +kernel
theorem dX0_errorOfHours_20 : decode cX0_errorOfHours 20 = .ok (.if_icmp .le 6, 3) := by decide +kernel
theorem dX0_errorOfHours_23 : decode cX0_errorOfHours 23 = .ok (.bipush (-2), 2) := by decide +kernel
theorem dX0_errorOfHours_25 : decode cX0_errorOfHours 25 = .ok (.ireturn, 1) := by decide +kernel
theorem dX0_errorOfHours_26 : decode cX0_errorOfHours 26 = .ok (.iload 4, 2) := by decide +kernel
theorem dX0_errorOfHours_28 : decode cX0_errorOfHours 28 = .ok (.iconst 1, 1) := by decide +kernel
theorem dX0_errorOfHours_29 : decode cX0_errorOfHours 29 = .ok (.if_icmp .lt 10, 3) := by decide +kernel
theorem dX0_errorOfHours_32 : decode cX0_errorOfHours 32 = .ok (.iload 4, 2) := by decide +kernel
theorem dX0_errorOfHours_34 : decode cX0_errorOfHours 34 = .ok (.bipush 99, 2) := by decide +kernel
theorem dX0_errorOfHours_36 : decode cX0_errorOfHours 36 = .ok (.if_icmp .le 6, 3) := by decide +kernel
theorem dX0_errorOfHours_39 : decode cX0_errorOfHours 39 = .ok (.bipush (-2), 2) := by decide +kernel
theorem dX0_errorOfHours_41 : decode cX0_errorOfHours 41 = .ok (.ireturn, 1) := by decide +kernel
theorem dX0_errorOfHours_42 : decode cX0_errorOfHours 42 = .ok (.aload_n 0, 1) := by decide +kernel
theorem dX0_errorOfHours_43 : decode cX0_errorOfHours 43 = .ok (.getfield 46, 3) := by decide +kernel
theorem dX0_errorOfHours_46 : decode cX0_errorOfHours 46 = .ok (.iload 4, 2) := by decide +kernel
theorem dX0_errorOfHours_48 : decode cX0_errorOfHours 48 = .ok (.iadd, 1) := by decide +kernel
theorem dX0_errorOfHours_49 : decode cX0_errorOfHours 49 = .ok (.sipush 9999, 3) := by decide +kernel
theorem dX0_errorOfHours_52 : decode cX0_errorOfHours 52 = .ok (.if_icmp .le 8, 3) := by decide +kernel
theorem dX0_errorOfHours_55 : decode cX0_errorOfHours 55 = .ok (.bipush (-5), 2) := by decide +kernel
theorem dX0_errorOfHours_57 : decode cX0_errorOfHours 57 = .ok (.goto 4, 3) := by decide +kernel
theorem dX0_errorOfHours_60 : decode cX0_errorOfHours 60 = .ok (.iconst 0, 1) := by decide +kernel
theorem dX0_errorOfHours_61 : decode cX0_errorOfHours 61 = .ok (.ireturn, 1) := by decide +kernel
set_option maxRecDepth 20000 in
theorem ggX0_goHours_X0_goHour : GoodIn wsX0_goHours wsX0_goHour := goodIn_r _ [6, 7, 8, 9, 10, 11, 12, 13, 14, 15, 5, 16, 17, 18, 19, 20, 21, 22, 23, 24, 25, 26, 27, 28, 29, 30, 31, 32, 33, 34, 35, 36, 37, 38, 39, 40, 41, 42, 43, 44, 45, 46, 47, 48, 49, 50, 51, 52, 53, 54, 55, 1, 56, 57, 58, 59, 60, 61, 62, 63, 64, 65, 66, 67, 68, 69, 70] (by decide +kernel) (by decide +kernel)
set_option maxRecDepth 20000 in
theorem gX0_goHours_X0_goHour : GoodIn wsX0_goHours (wsV RX0 76 RX0 yX0_goHour wsX0_goHour) := goodIn_app (goodIn_of _ (by decide +kernel)) ggX0_goHours_X0_goHour
theorem dX0_goHours_0 : decode cX0_goHours 0 = .ok (.aload_n 0, 1) := by decide +kernel
theorem dX0_goHours_1 : decode cX0_goHours 1 = .ok (.getfield 52, 3) := by decide +kernel
theorem dX0_goHours_4 : decode cX0_goHours 4 = .ok (.istore 5, 2) := by decide +kernel
theorem dX0_goHours_6 : decode cX0_goHours 6 = .ok (.iconst 0, 1) := by decide +kernel
theorem dX0_goHours_7 : decode cX0_goHours 7 = .ok (.istore 6, 2) := by decide +kernel
theorem dX0_goHours_9 : decode cX0_goHours 9 = .ok (.iload 6, 2) := by decide +kernel
theorem dX0_goHours_11 : decode cX0_goHours 11 = .ok (.iload 4, 2) := by decide +kernel
theorem dX0_goHours_13 : decode cX0_goHours 13 = .ok (.if_icmp .ge 16, 3) := by decide +kernel
theorem dX0_goHours_16 : decode cX0_goHours 16 = .ok (.aload_n 0, 1) := by decide +kernel
theorem dX0_goHours_17 : decode cX0_goHours 17 = .ok (.iload_n 1, 1) := by decide +kernel
theorem dX0_goHours_18 : decode cX0_goHours 18 = .ok (.iload_n 2, 1) := by decide +kernel
theorem dX0_goHours_19 : decode cX0_goHours 19 = .ok (.iload_n 3, 1) := by decide +kernel
theorem dX0_goHours_20 : decode cX0_goHours 20 = .ok (.invokevirtual 76, 3) := by decide +kernel
theorem dX0_goHours_23 : decode cX0_goHours 23 = .ok (.iinc 6 1, 3) := by decide +kernel
theorem dX0_goHours_26 : decode cX0_goHours 26 = .ok (.goto (-17), 3) := by decide +kernel
theorem dX0_goHours_29 : decode cX0_goHours 29 = .ok (.aload_n 0, 1) := by decide +kernel
theorem dX0_goHours_30 : decode cX0_goHours 30 = .ok (.getfield 52, 3) := by decide +kernel
theorem dX0_goHours_33 : decode cX0_goHours 33 = .ok (.iload 5, 2) := by decide +kernel
theorem dX0_goHours_35 : decode cX0_goHours 35 = .ok (.isub, 1) := by decide +kernel
theorem dX0_goHours_36 : decode cX0_goHours 36 = .ok (.ireturn, 1) := by decide +kernel
set_option maxRecDepth 20000 in
theorem ggX0_goHour_X0_rateIn : GoodIn wsX0_goHour wsX0_rateIn := goodIn_r _ [11, 4, 12, 13, 14, 10, 15, 16, 17, 18, 19, 20, 56, 57, 58, 59, 60, 61, 62] (by decide +kernel) (by decide +kernel)
set_option maxRecDepth 20000 in
theorem gX0_goHour_X0_rateIn : GoodIn wsX0_goHour (wsV RX0 80 RX0 yX0_rateIn wsX0_rateIn) := goodIn_app (goodIn_of _ (by decide +kernel)) ggX0_goHour_X0_rateIn
set_option maxRecDepth 20000 in
theorem ggX0_goHour_X1_addHour : GoodIn wsX0_goHour wsX1_addHour := goodIn_r _ [25, 26, 27, 63, 64] (by decide +kernel) (by decide +kernel)
set_option maxRecDepth 20000 in
theorem gX0_goHour_X1_addHour : GoodIn wsX0_goHour (wsV RX0 83 RX1 yX1_addHour wsX1_addHour) := goodIn_app (goodIn_of _ (by decide +kernel)) ggX0_goHour_X1_addHour
set_option maxRecDepth 20000 in
theorem ggX0_goHour_X0_setting : GoodIn wsX0_goHour wsX0_setting := goodIn_r _ [19, 20, 56, 57, 58, 59, 60, 61, 62] (by decide +kernel) (by decide +kernel)
set_option maxRecDepth 20000 in
theorem gX0_goHour_X0_setting : GoodIn wsX0_goHour (wsV RX0 61 RX0 yX0_setting wsX0_setting) := goodIn_app (goodIn_of _ (by decide +kernel)) ggX0_goHour_X0_setting
set_option maxRecDepth 20000 in
theorem ggX0_goHour_X1_isMoreThan : GoodIn wsX0_goHour wsX1_isMoreThan := goodIn_r _ [31, 27, 63, 64] (by decide +kernel) (by decide +kernel)
set_option maxRecDepth 20000 in
theorem gX0_goHour_X1_isMoreThan : GoodIn wsX0_goHour (wsV RX0 87 RX1 yX1_isMoreThan wsX1_isMoreThan) := goodIn_app (goodIn_of _ (by decide +kernel)) ggX0_goHour_X1_isMoreThan
set_option maxRecDepth 20000 in
theorem ggX0_goHour_X3_open : GoodIn wsX0_goHour wsX3_open := goodIn_r _ [36, 37, 65, 66] (by decide +kernel) (by decide +kernel)
set_option maxRecDepth 20000 in
theorem gX0_goHour_X3_open : GoodIn wsX0_goHour (wsV RX0 90 RX3 yX3_open wsX3_open) := goodIn_app (goodIn_of _ (by decide +kernel)) ggX0_goHour_X3_open
set_option maxRecDepth 20000 in
theorem ggX0_goHour_X3_write : GoodIn wsX0_goHour wsX3_write := goodIn_r _ [41, 42, 43, 44, 45, 35, 46, 37, 65, 66] (by decide +kernel) (by decide +kernel)
set_option maxRecDepth 20000 in
theorem gX0_goHour_X3_write : GoodIn wsX0_goHour (wsV RX0 93 RX3 yX3_write wsX3_write) := goodIn_app (goodIn_of _ (by decide +kernel)) ggX0_goHour_X3_write
set_option maxRecDepth 20000 in
theorem ggX0_goHour_X0_correct : GoodIn wsX0_goHour wsX0_correct := goodIn_r _ [50, 1, 3, 4, 51, 52, 53, 54, 24, 55, 27, 26, 56, 57, 58, 59, 60, 61, 62, 63, 64] (by decide +kernel) (by decide +kernel)
set_option maxRecDepth 20000 in
theorem gX0_goHour_X0_correct : GoodIn wsX0_goHour (wsV RX0 100 RX0 yX0_correct wsX0_correct) := goodIn_app (goodIn_of _ (by decide +kernel)) ggX0_goHour_X0_correct
theorem dX0_goHour_0 : decode cX0_goHour 0 = .ok (.aload_n 0, 1) := by decide +kernel
theorem dX0_goHour_1 : decode cX0_goHour 1 = .ok (.iload_n 1, 1) := by decide +kernel
theorem dX0_goHour_2 : decode cX0_goHour 2 = .ok (.iload_n 2, 1) := by decide +kernel
theorem dX0_goHour_3 : decode cX0_goHour 3 = .ok (.invokevirtual 80, 3) := by decide +kernel
theorem dX0_goHour_6 : decode cX0_goHour 6 = .ok (.istore 4, 2) := by decide +kernel
theorem dX0_goHour_8 : decode cX0_goHour 8 = .ok (.aload_n 0, 1) := by decide +kernel
theorem dX0_goHour_9 : decode cX0_goHour 9 = .ok (.getfield 18, 3) := by decide +kernel
theorem dX0_goHour_12 : decode cX0_goHour 12 = .ok (.iload 4, 2) := by decide +kernel
theorem dX0_goHour_14 : decode cX0_goHour 14 = .ok (.invokevirtual 83, 3) := by decide +kernel
theorem dX0_goHour_17 : decode cX0_goHour 17 = .ok (.iload_n 3, 1) := by decide +kernel
theorem dX0_goHour_18 : decode cX0_goHour 18 = .ok (.iconst 1, 1) := by decide +kernel
theorem dX0_goHour_19 : decode cX0_goHour 19 = .ok (.if_icmp .ne 22, 3) := by decide +kernel
theorem dX0_goHour_22 : decode cX0_goHour 22 = .ok (.aload_n 0, 1) := by decide +kernel
theorem dX0_goHour_23 : decode cX0_goHour 23 = .ok (.getfield 18, 3) := by decide +kernel
theorem dX0_goHour_26 : decode cX0_goHour 26 = .ok (.aload_n 0, 1) := by decide +kernel
theorem dX0_goHour_27 : decode cX0_goHour 27 = .ok (.iconst 3, 1) := by decide +kernel
theorem dX0_goHour_28 : decode cX0_goHour 28 = .ok (.invokevirtual 61, 3) := by decide +kernel
theorem dX0_goHour_31 : decode cX0_goHour 31 = .ok (.invokevirtual 87, 3) := by decide +kernel
theorem dX0_goHour_34 : decode cX0_goHour 34 = .ok (.ifCond .eq 7, 3) := by decide +kernel
theorem dX0_goHour_37 : decode cX0_goHour 37 = .ok (.iconst 1, 1) := by decide +kernel
theorem dX0_goHour_38 : decode cX0_goHour 38 = .ok (.goto 4, 3) := by decide +kernel
theorem dX0_goHour_41 : decode cX0_goHour 41 = .ok (.iconst 0, 1) := by decide +kernel
theorem dX0_goHour_42 : decode cX0_goHour 42 = .ok (.istore 5, 2) := by decide +kernel
theorem dX0_goHour_44 : decode cX0_goHour 44 = .ok (.aload_n 0, 1) := by decide +kernel
theorem dX0_goHour_45 : decode cX0_goHour 45 = .ok (.getfield 25, 3) := by decide +kernel
theorem dX0_goHour_48 : decode cX0_goHour 48 = .ok (.invokevirtual 90, 3) := by decide +kernel
theorem dX0_goHour_51 : decode cX0_goHour 51 = .ok (.aload_n 0, 1) := by decide +kernel
theorem dX0_goHour_52 : decode cX0_goHour 52 = .ok (.getfield 25, 3) := by decide +kernel
theorem dX0_goHour_55 : decode cX0_goHour 55 = .ok (.iconst 0, 1) := by decide +kernel
theorem dX0_goHour_56 : decode cX0_goHour 56 = .ok (.iload_n 1, 1) := by decide +kernel
theorem dX0_goHour_57 : decode cX0_goHour 57 = .ok (.invokevirtual 93, 3) := by decide +kernel
theorem dX0_goHour_60 : decode cX0_goHour 60 = .ok (.aload_n 0, 1) := by decide +kernel
theorem dX0_goHour_61 : decode cX0_goHour 61 = .ok (.getfield 25, 3) := by decide +kernel
theorem dX0_goHour_64 : decode cX0_goHour 64 = .ok (.iconst 1, 1) := by decide +kernel
theorem dX0_goHour_65 : decode cX0_goHour 65 = .ok (.iload_n 2, 1) := by decide +kernel
theorem dX0_goHour_66 : decode cX0_goHour 66 = .ok (.invokevirtual 93, 3) := by decide +kernel
theorem dX0_goHour_69 : decode cX0_goHour 69 = .ok (.aload_n 0, 1) := by decide +kernel
theorem dX0_goHour_70 : decode cX0_goHour 70 = .ok (.getfield 25, 3) := by decide +kernel
theorem dX0_goHour_73 : decode cX0_goHour 73 = .ok (.iconst 2, 1) := by decide +kernel
theorem dX0_goHour_74 : decode cX0_goHour 74 = .ok (.iload_n 3, 1) := by decide +kernel
theorem dX0_goHour_75 : decode cX0_goHour 75 = .ok (.invokevirtual 93, 3) := by decide +kernel
theorem dX0_goHour_78 : decode cX0_goHour 78 = .ok (.aload_n 0, 1) := by decide +kernel
theorem dX0_goHour_79 : decode cX0_goHour 79 = .ok (.getfield 25, 3) := by decide +kernel
theorem dX0_goHour_82 : decode cX0_goHour 82 = .ok (.iconst 3, 1) := by decide +kernel
theorem dX0_goHour_83 : decode cX0_goHour 83 = .ok (.iload 4, 2) := by decide +kernel
theorem dX0_goHour_85 : decode cX0_goHour 85 = .ok (.invokevirtual 93, 3) := by decide +kernel
theorem dX0_goHour_88 : decode cX0_goHour 88 = .ok (.aload_n 0, 1) := by decide +kernel
theorem dX0_goHour_89 : decode cX0_goHour 89 = .ok (.getfield 25, 3) := by decide +kernel
theorem dX0_goHour_92 : decode cX0_goHour 92 = .ok (.iconst 4, 1) := by decide +kernel
theorem dX0_goHour_93 : decode cX0_goHour 93 = .ok (.aload_n 0, 1) := by decide +kernel
theorem dX0_goHour_94 : decode cX0_goHour 94 = .ok (.getfield 18, 3) := by decide +kernel
theorem dX0_goHour_97 : decode cX0_goHour 97 = .ok (.getfield 97, 3) := by decide +kernel
theorem dX0_goHour_100 : decode cX0_goHour 100 = .ok (.invokevirtual 93, 3) := by decide +kernel
theorem dX0_goHour_103 : decode cX0_goHour 103 = .ok (.aload_n 0, 1) := by decide +kernel
theorem dX0_goHour_104 : decode cX0_goHour 104 = .ok (.getfield 25, 3) := by decide +kernel
theorem dX0_goHour_107 : decode cX0_goHour 107 = .ok (.iconst 5, 1) := by decide +kernel
theorem dX0_goHour_108 : decode cX0_goHour 108 = .ok (.iload 5, 2) := by decide +kernel
theorem dX0_goHour_110 : decode cX0_goHour 110 = .ok (.ifCond .eq 7, 3) := by decide +kernel
theorem dX0_goHour_113 : decode cX0_goHour 113 = .ok (.iconst 1, 1) := by decide +kernel
theorem dX0_goHour_114 : decode cX0_goHour 114 = .ok (.goto 4, 3) := by decide +kernel
theorem dX0_goHour_117 : decode cX0_goHour 117 = .ok (.iconst 0, 1) := by decide +kernel
theorem dX0_goHour_118 : decode cX0_goHour 118 = .ok (.invokevirtual 93, 3) := by decide +kernel
theorem dX0_goHour_121 : decode cX0_goHour 121 = .ok (.aload_n 0, 1) := by decide +kernel
theorem dX0_goHour_122 : decode cX0_goHour 122 = .ok (.getfield 25, 3) := by decide +kernel
theorem dX0_goHour_125 : decode cX0_goHour 125 = .ok (.bipush 6, 2) := by decide +kernel
theorem dX0_goHour_127 : decode cX0_goHour 127 = .ok (.aload_n 0, 1) := by decide +kernel
theorem dX0_goHour_128 : decode cX0_goHour 128 = .ok (.getfield 42, 3) := by decide +kernel
theorem dX0_goHour_131 : decode cX0_goHour 131 = .ok (.invokevirtual 93, 3) := by decide +kernel
theorem dX0_goHour_134 : decode cX0_goHour 134 = .ok (.aload_n 0, 1) := by decide +kernel
theorem dX0_goHour_135 : decode cX0_goHour 135 = .ok (.dup, 1) := by decide +kernel
theorem dX0_goHour_136 : decode cX0_goHour 136 = .ok (.getfield 46, 3) := by decide +kernel
theorem dX0_goHour_139 : decode cX0_goHour 139 = .ok (.iconst 1, 1) := by decide +kernel
theorem dX0_goHour_140 : decode cX0_goHour 140 = .ok (.iadd, 1) := by decide +kernel
theorem dX0_goHour_141 : decode cX0_goHour 141 = .ok (.putfield 46, 3) := by decide +kernel
theorem dX0_goHour_144 : decode cX0_goHour 144 = .ok (.aload_n 0, 1) := by decide +kernel
theorem dX0_goHour_145 : decode cX0_goHour 145 = .ok (.dup, 1) := by decide +kernel
theorem dX0_goHour_146 : decode cX0_goHour 146 = .ok (.getfield 49, 3) := by decide +kernel
theorem dX0_goHour_149 : decode cX0_goHour 149 = .ok (.iload_n 3, 1) := by decide +kernel
theorem dX0_goHour_150 : decode cX0_goHour 150 = .ok (.iadd, 1) := by decide +kernel
theorem dX0_goHour_151 : decode cX0_goHour 151 = .ok (.putfield 49, 3) := by decide +kernel
theorem dX0_goHour_154 : decode cX0_goHour 154 = .ok (.iload 5, 2) := by decide +kernel
theorem dX0_goHour_156 : decode cX0_goHour 156 = .ok (.ifCond .eq 7, 3) := by decide +kernel
theorem dX0_goHour_159 : decode cX0_goHour 159 = .ok (.aload_n 0, 1) := by decide +kernel
theorem dX0_goHour_160 : decode cX0_goHour 160 = .ok (.invokevirtual 100, 3) := by decide +kernel
theorem dX0_goHour_163 : decode cX0_goHour 163 = .ok (.return_, 1) := by decide +kernel
set_option maxRecDepth 20000 in
theorem ggX0_correct_X1_clear : GoodIn wsX0_correct wsX1_clear := goodIn_r _ [9, 10, 11, 19, 20] (by decide +kernel) (by decide +kernel)
set_option maxRecDepth 20000 in
theorem gX0_correct_X1_clear : GoodIn wsX0_correct (wsV RX0 103 RX1 yX1_clear wsX1_clear) := goodIn_app (goodIn_of _ (by decide +kernel)) ggX0_correct_X1_clear
theorem dX0_correct_0 : decode cX0_correct 0 = .ok (.aload_n 0, 1) := by decide +kernel
theorem dX0_correct_1 : decode cX0_correct 1 = .ok (.getfield 18, 3) := by decide +kernel
theorem dX0_correct_4 : decode cX0_correct 4 = .ok (.getfield 97, 3) := by decide +kernel
theorem dX0_correct_7 : decode cX0_correct 7 = .ok (.ifCond .le 21, 3) := by decide +kernel
theorem dX0_correct_10 : decode cX0_correct 10 = .ok (.aload_n 0, 1) := by decide +kernel
theorem dX0_correct_11 : decode cX0_correct 11 = .ok (.dup, 1) := by decide +kernel
theorem dX0_correct_12 : decode cX0_correct 12 = .ok (.getfield 42, 3) := by decide +kernel
theorem dX0_correct_15 : decode cX0_correct 15 = .ok (.aload_n 0, 1) := by decide +kernel
theorem dX0_correct_16 : decode cX0_correct 16 = .ok (.getfield 42, 3) := by decide +kernel
theorem dX0_correct_19 : decode cX0_correct 19 = .ok (.iconst 1, 1) := by decide +kernel
theorem dX0_correct_20 : decode cX0_correct 20 = .ok (.isub, 1) := by decide +kernel
theorem dX0_correct_21 : decode cX0_correct 21 = .ok (.iand, 1) := by decide +kernel
theorem dX0_correct_22 : decode cX0_correct 22 = .ok (.putfield 42, 3) := by decide +kernel
theorem dX0_correct_25 : decode cX0_correct 25 = .ok (.goto 22, 3) := by decide +kernel
theorem dX0_correct_28 : decode cX0_correct 28 = .ok (.aload_n 0, 1) := by decide +kernel
theorem dX0_correct_29 : decode cX0_correct 29 = .ok (.aload_n 0, 1) := by decide +kernel
theorem dX0_correct_30 : decode cX0_correct 30 = .ok (.getfield 42, 3) := by decide +kernel
theorem dX0_correct_33 : decode cX0_correct 33 = .ok (.aload_n 0, 1) := by decide +kernel
theorem dX0_correct_34 : decode cX0_correct 34 = .ok (.getfield 42, 3) := by decide +kernel
theorem dX0_correct_37 : decode cX0_correct 37 = .ok (.iconst 1, 1) := by decide +kernel
theorem dX0_correct_38 : decode cX0_correct 38 = .ok (.iadd, 1) := by decide +kernel
theorem dX0_correct_39 : decode cX0_correct 39 = .ok (.ior, 1) := by decide +kernel
theorem dX0_correct_40 : decode cX0_correct 40 = .ok (.sipush 255, 3) := by decide +kernel
theorem dX0_correct_43 : decode cX0_correct 43 = .ok (.iand, 1) := by decide +kernel
theorem dX0_correct_44 : decode cX0_correct 44 = .ok (.putfield 42, 3) := by decide +kernel
theorem dX0_correct_47 : decode cX0_correct 47 = .ok (.aload_n 0, 1) := by decide +kernel
theorem dX0_correct_48 : decode cX0_correct 48 = .ok (.getfield 18, 3) := by decide +kernel
theorem dX0_correct_51 : decode cX0_correct 51 = .ok (.invokevirtual 103, 3) := by decide +kernel
theorem dX0_correct_54 : decode cX0_correct 54 = .ok (.aload_n 0, 1) := by decide +kernel
theorem dX0_correct_55 : decode cX0_correct 55 = .ok (.dup, 1) := by decide +kernel
theorem dX0_correct_56 : decode cX0_correct 56 = .ok (.getfield 52, 3) := by decide +kernel
theorem dX0_correct_59 : decode cX0_correct 59 = .ok (.iconst 1, 1) := by decide +kernel
theorem dX0_correct_60 : decode cX0_correct 60 = .ok (.iadd, 1) := by decide +kernel
theorem dX0_correct_61 : decode cX0_correct 61 = .ok (.putfield 52, 3) := by decide +kernel
theorem dX0_correct_64 : decode cX0_correct 64 = .ok (.return_, 1) := by decide +kernel
theorem dX1_init_0 : decode cX1_init 0 = .ok (.aload_n 0, 1) := by decide +kernel
theorem dX1_init_1 : decode cX1_init 1 = .ok (.invokespecial 1, 3) := by decide +kernel
theorem dX1_init_4 : decode cX1_init 4 = .ok (.return_, 1) := by decide +kernel
theorem dX1_clear_0 : decode cX1_clear 0 = .ok (.aload_n 0, 1) := by decide +kernel
theorem dX1_clear_1 : decode cX1_clear 1 = .ok (.iconst 0, 1) := by decide +kernel
theorem dX1_clear_2 : decode cX1_clear 2 = .ok (.putfield 7, 3) := by decide +kernel
theorem dX1_clear_5 : decode cX1_clear 5 = .ok (.aload_n 0, 1) := by decide +kernel
theorem dX1_clear_6 : decode cX1_clear 6 = .ok (.iconst 0, 1) := by decide +kernel
theorem dX1_clear_7 : decode cX1_clear 7 = .ok (.putfield 13, 3) := by decide +kernel
theorem dX1_clear_10 : decode cX1_clear 10 = .ok (.return_, 1) := by decide +kernel
theorem dX1_become_0 : decode cX1_become 0 = .ok (.aload_n 0, 1) := by decide +kernel
theorem dX1_become_1 : decode cX1_become 1 = .ok (.aload_n 1, 1) := by decide +kernel
theorem dX1_become_2 : decode cX1_become 2 = .ok (.getfield 7, 3) := by decide +kernel
theorem dX1_become_5 : decode cX1_become 5 = .ok (.putfield 7, 3) := by decide +kernel
theorem dX1_become_8 : decode cX1_become 8 = .ok (.aload_n 0, 1) := by decide +kernel
theorem dX1_become_9 : decode cX1_become 9 = .ok (.aload_n 1, 1) := by decide +kernel
theorem dX1_become_10 : decode cX1_become 10 = .ok (.getfield 13, 3) := by decide +kernel
theorem dX1_become_13 : decode cX1_become 13 = .ok (.putfield 13, 3) := by decide +kernel
theorem dX1_become_16 : decode cX1_become 16 = .ok (.return_, 1) := by decide +kernel
theorem dX1_addHour_0 : decode cX1_addHour 0 = .ok (.aload_n 0, 1) := by decide +kernel
theorem dX1_addHour_1 : decode cX1_addHour 1 = .ok (.getfield 13, 3) := by decide +kernel
theorem dX1_addHour_4 : decode cX1_addHour 4 = .ok (.iload_n 1, 1) := by decide +kernel
theorem dX1_addHour_5 : decode cX1_addHour 5 = .ok (.sipush 3600, 3) := by decide +kernel
theorem dX1_addHour_8 : decode cX1_addHour 8 = .ok (.imul, 1) := by decide +kernel
theorem dX1_addHour_9 : decode cX1_addHour 9 = .ok (.iadd, 1) := by decide +kernel
theorem dX1_addHour_10 : decode cX1_addHour 10 = .ok (.istore_n 2, 1) := by decide +kernel
theorem dX1_addHour_11 : decode cX1_addHour 11 = .ok (.aload_n 0, 1) := by decide +kernel
theorem dX1_addHour_12 : decode cX1_addHour 12 = .ok (.dup, 1) := by decide +kernel
theorem dX1_addHour_13 : decode cX1_addHour 13 = .ok (.getfield 7, 3) := by decide +kernel
theorem dX1_addHour_16 : decode cX1_addHour 16 = .ok (.iload_n 2, 1) := by decide +kernel
theorem dX1_addHour_17 : decode cX1_addHour 17 = .ok (.sipush 1000, 3) := by decide +kernel
theorem dX1_addHour_20 : decode cX1_addHour 20 = .ok (.idiv, 1) := by decide +kernel
theorem dX1_addHour_21 : decode cX1_addHour 21 = .ok (.iadd, 1) := by decide +kernel
theorem dX1_addHour_22 : decode cX1_addHour 22 = .ok (.putfield 7, 3) := by decide +kernel
theorem dX1_addHour_25 : decode cX1_addHour 25 = .ok (.aload_n 0, 1) := by decide +kernel
theorem dX1_addHour_26 : decode cX1_addHour 26 = .ok (.iload_n 2, 1) := by decide +kernel
theorem dX1_addHour_27 : decode cX1_addHour 27 = .ok (.sipush 1000, 3) := by decide +kernel
theorem dX1_addHour_30 : decode cX1_addHour 30 = .ok (.irem, 1) := by decide +kernel
theorem dX1_addHour_31 : decode cX1_addHour 31 = .ok (.putfield 13, 3) := by decide +kernel
theorem dX1_addHour_34 : decode cX1_addHour 34 = .ok (.return_, 1) := by decide +kernel
theorem dX1_isMoreThan_0 : decode cX1_isMoreThan 0 = .ok (.aload_n 0, 1) := by decide +kernel
theorem dX1_isMoreThan_1 : decode cX1_isMoreThan 1 = .ok (.getfield 7, 3) := by decide +kernel
theorem dX1_isMoreThan_4 : decode cX1_isMoreThan 4 = .ok (.iload_n 1, 1) := by decide +kernel
theorem dX1_isMoreThan_5 : decode cX1_isMoreThan 5 = .ok (.if_icmp .gt 12, 3) := by decide +kernel
theorem dX1_isMoreThan_8 : decode cX1_isMoreThan 8 = .ok (.aload_n 0, 1) := by decide +kernel
theorem dX1_isMoreThan_9 : decode cX1_isMoreThan 9 = .ok (.getfield 7, 3) := by decide +kernel
theorem dX1_isMoreThan_12 : decode cX1_isMoreThan 12 = .ok (.iload_n 1, 1) := by decide +kernel
theorem dX1_isMoreThan_13 : decode cX1_isMoreThan 13 = .ok (.ineg, 1) := by decide +kernel
theorem dX1_isMoreThan_14 : decode cX1_isMoreThan 14 = .ok (.if_icmp .ge 7, 3) := by decide +kernel
theorem dX1_isMoreThan_17 : decode cX1_isMoreThan 17 = .ok (.iconst 1, 1) := by decide +kernel
theorem dX1_isMoreThan_18 : decode cX1_isMoreThan 18 = .ok (.goto 4, 3) := by decide +kernel
theorem dX1_isMoreThan_21 : decode cX1_isMoreThan 21 = .ok (.iconst 0, 1) := by decide +kernel
theorem dX1_isMoreThan_22 : decode cX1_isMoreThan 22 = .ok (.ireturn, 1) := by decide +kernel
set_option maxRecDepth 20000 in
theorem ggX2_init_X0_init : GoodIn wsX2_init wsX0_init := goodIn_r _ [9, 10, 2, 3, 11, 12, 13, 14, 15, 16, 17, 18, 19, 20, 21, 22, 23, 24, 25, 26, 27, 30, 31, 32, 33, 34, 35, 36, 37, 38, 39, 40] (by decide +kernel) (by decide +kernel)
set_option maxRecDepth 20000 in
theorem gX2_init_X0_init_n17 : GoodIn wsX2_init (wsX0_init) := ggX2_init_X0_init
theorem dX2_init_0 : decode cX2_init 0 = .ok (.aload_n 0, 1) := by decide +kernel
theorem dX2_init_1 : decode cX2_init 1 = .ok (.invokespecial 3, 3) := by decide +kernel
theorem dX2_init_4 : decode cX2_init 4 = .ok (.aload_n 0, 1) := by decide +kernel
theorem dX2_init_5 : decode cX2_init 5 = .ok (.bipush 6, 2) := by decide +kernel
theorem dX2_init_7 : decode cX2_init 7 = .ok (.anewarray 9, 3) := by decide +kernel
theorem dX2_init_10 : decode cX2_init 10 = .ok (.putfield 11, 3) := by decide +kernel
theorem dX2_init_13 : decode cX2_init 13 = .ok (.iconst 0, 1) := by decide +kernel
theorem dX2_init_14 : decode cX2_init 14 = .ok (.istore_n 1, 1) := by decide +kernel
theorem dX2_init_15 : decode cX2_init 15 = .ok (.iload_n 1, 1) := by decide +kernel
theorem dX2_init_16 : decode cX2_init 16 = .ok (.aload_n 0, 1) := by decide +kernel
theorem dX2_init_17 : decode cX2_init 17 = .ok (.getfield 11, 3) := by decide +kernel
theorem dX2_init_20 : decode cX2_init 20 = .ok (.arraylength, 1) := by decide +kernel
theorem dX2_init_21 : decode cX2_init 21 = .ok (.if_icmp .ge 22, 3) := by decide +kernel
theorem dX2_init_24 : decode cX2_init 24 = .ok (.aload_n 0, 1) := by decide +kernel
theorem dX2_init_25 : decode cX2_init 25 = .ok (.getfield 11, 3) := by decide +kernel
theorem dX2_init_28 : decode cX2_init 28 = .ok (.iload_n 1, 1) := by decide +kernel
theorem dX2_init_29 : decode cX2_init 29 = .ok (.new 9, 3) := by decide +kernel
theorem dX2_init_32 : decode cX2_init 32 = .ok (.dup, 1) := by decide +kernel
theorem dX2_init_33 : decode cX2_init 33 = .ok (.invokespecial 17, 3) := by decide +kernel
theorem dX2_init_36 : decode cX2_init 36 = .ok (.aastore, 1) := by decide +kernel
theorem dX2_init_37 : decode cX2_init 37 = .ok (.iinc 1 1, 3) := by decide +kernel
theorem dX2_init_40 : decode cX2_init 40 = .ok (.goto (-25), 3) := by decide +kernel
theorem dX2_init_43 : decode cX2_init 43 = .ok (.return_, 1) := by decide +kernel
set_option maxRecDepth 20000 in
theorem ggX2_record_X0_become : GoodIn wsX2_record wsX0_become := goodIn_r _ [11, 12, 13, 14, 15, 16, 17, 18, 19, 20, 21, 22, 23, 24, 25, 26, 27, 28, 29, 30, 31, 32, 33, 34, 35, 36, 37, 40, 41, 42, 43, 44, 45, 46, 47, 48, 49, 50] (by decide +kernel) (by decide +kernel)
set_option maxRecDepth 20000 in
theorem gX2_record_X0_become : GoodIn wsX2_record (wsV RX2 18 RX0 yX0_become wsX0_become) := goodIn_app (goodIn_of _ (by decide +kernel)) ggX2_record_X0_become
theorem dX2_record_0 : decode cX2_record 0 = .ok (.aload_n 0, 1) := by decide +kernel
theorem dX2_record_1 : decode cX2_record 1 = .ok (.getfield 11, 3) := by decide +kernel
theorem dX2_record_4 : decode cX2_record 4 = .ok (.iconst 5, 1) := by decide +kernel
theorem dX2_record_5 : decode cX2_record 5 = .ok (.aaload, 1) := by decide +kernel
theorem dX2_record_6 : decode cX2_record 6 = .ok (.astore_n 2, 1) := by decide +kernel
theorem dX2_record_7 : decode cX2_record 7 = .ok (.aload_n 0, 1) := by decide +kernel
theorem dX2_record_8 : decode cX2_record 8 = .ok (.getfield 11, 3) := by decide +kernel
theorem dX2_record_11 : decode cX2_record 11 = .ok (.arraylength, 1) := by decide +kernel
theorem dX2_record_12 : decode cX2_record 12 = .ok (.iconst 1, 1) := by decide +kernel
theorem dX2_record_13 : decode cX2_record 13 = .ok (.isub, 1) := by decide +kernel
theorem dX2_record_14 : decode cX2_record 14 = .ok (.istore_n 3, 1) := by decide +kernel
theorem dX2_record_15 : decode cX2_record 15 = .ok (.iload_n 3, 1) := by decide +kernel
theorem dX2_record_16 : decode cX2_record 16 = .ok (.ifCond .le 23, 3) := by decide +kernel
theorem dX2_record_19 : decode cX2_record 19 = .ok (.aload_n 0, 1) := by decide +kernel
theorem dX2_record_20 : decode cX2_record 20 = .ok (.getfield 11, 3) := by decide +kernel
theorem dX2_record_23 : decode cX2_record 23 = .ok (.iload_n 3, 1) := by decide +kernel
theorem dX2_record_24 : decode cX2_record 24 = .ok (.aload_n 0, 1) := by decide +kernel
theorem dX2_record_25 : decode cX2_record 25 = .ok (.getfield 11, 3) := by decide +kernel
theorem dX2_record_28 : decode cX2_record 28 = .ok (.iload_n 3, 1) := by decide +kernel
theorem dX2_record_29 : decode cX2_record 29 = .ok (.iconst 1, 1) := by decide +kernel
theorem dX2_record_30 : decode cX2_record 30 = .ok (.isub, 1) := by decide +kernel
theorem dX2_record_31 : decode cX2_record 31 = .ok (.aaload, 1) := by decide +kernel
theorem dX2_record_32 : decode cX2_record 32 = .ok (.aastore, 1) := by decide +kernel
theorem dX2_record_33 : decode cX2_record 33 = .ok (.iinc 3 (-1), 3) := by decide +kernel
theorem dX2_record_36 : decode cX2_record 36 = .ok (.goto (-21), 3) := by decide +kernel
theorem dX2_record_39 : decode cX2_record 39 = .ok (.aload_n 0, 1) := by decide +kernel
theorem dX2_record_40 : decode cX2_record 40 = .ok (.getfield 11, 3) := by decide +kernel
theorem dX2_record_43 : decode cX2_record 43 = .ok (.iconst 0, 1) := by decide +kernel
theorem dX2_record_44 : decode cX2_record 44 = .ok (.aload_n 2, 1) := by decide +kernel
theorem dX2_record_45 : decode cX2_record 45 = .ok (.aastore, 1) := by decide +kernel
theorem dX2_record_46 : decode cX2_record 46 = .ok (.aload_n 2, 1) := by decide +kernel
theorem dX2_record_47 : decode cX2_record 47 = .ok (.aload_n 1, 1) := by decide +kernel
theorem dX2_record_48 : decode cX2_record 48 = .ok (.invokevirtual 18, 3) := by decide +kernel
theorem dX2_record_51 : decode cX2_record 51 = .ok (.aload_n 0, 1) := by decide +kernel
theorem dX2_record_52 : decode cX2_record 52 = .ok (.aload_n 0, 1) := by decide +kernel
theorem dX2_record_53 : decode cX2_record 53 = .ok (.getfield 22, 3) := by decide +kernel
theorem dX2_record_56 : decode cX2_record 56 = .ok (.iconst 1, 1) := by decide +kernel
theorem dX2_record_57 : decode cX2_record 57 = .ok (.iadd, 1) := by decide +kernel
theorem dX2_record_58 : decode cX2_record 58 = .ok (.bipush 6, 2) := by decide +kernel
theorem dX2_record_60 : decode cX2_record 60 = .ok (.invokestatic 26, 3) := by decide +kernel
theorem dX2_record_63 : decode cX2_record 63 = .ok (.putfield 22, 3) := by decide +kernel
theorem dX2_record_66 : decode cX2_record 66 = .ok (.return_, 1) := by decide +kernel
set_option maxRecDepth 20000 in
theorem ggX2_takeBack_X0_become : GoodIn wsX2_takeBack wsX0_become := goodIn_r _ [7, 8, 9, 10, 11, 12, 13, 14, 15, 16, 17, 18, 19, 20, 21, 22, 23, 24, 25, 26, 27, 28, 29, 30, 31, 32, 33, 36, 37, 38, 39, 40, 41, 42, 43, 44, 45, 46] (by decide +kernel) (by decide +kernel)
set_option maxRecDepth 20000 in
theorem gX2_takeBack_X0_become : GoodIn wsX2_takeBack (wsV RX2 18 RX0 yX0_become wsX0_become) := goodIn_app (goodIn_of _ (by decide +kernel)) ggX2_takeBack_X0_become
theorem dX2_takeBack_0 : decode cX2_takeBack 0 = .ok (.aload_n 0, 1) := by decide +kernel
theorem dX2_takeBack_1 : decode cX2_takeBack 1 = .ok (.getfield 11, 3) := by decide +kernel
theorem dX2_takeBack_4 : decode cX2_takeBack 4 = .ok (.iconst 0, 1) := by decide +kernel
theorem dX2_takeBack_5 : decode cX2_takeBack 5 = .ok (.aaload, 1) := by decide +kernel
theorem dX2_takeBack_6 : decode cX2_takeBack 6 = .ok (.astore_n 2, 1) := by decide +kernel
theorem dX2_takeBack_7 : decode cX2_takeBack 7 = .ok (.aload_n 1, 1) := by decide +kernel
theorem dX2_takeBack_8 : decode cX2_takeBack 8 = .ok (.aload_n 2, 1) := by decide +kernel
theorem dX2_takeBack_9 : decode cX2_takeBack 9 = .ok (.invokevirtual 18, 3) := by decide +kernel
theorem dX2_takeBack_12 : decode cX2_takeBack 12 = .ok (.iconst 0, 1) := by decide +kernel
theorem dX2_takeBack_13 : decode cX2_takeBack 13 = .ok (.istore_n 3, 1) := by decide +kernel
theorem dX2_takeBack_14 : decode cX2_takeBack 14 = .ok (.iload_n 3, 1) := by decide +kernel
theorem dX2_takeBack_15 : decode cX2_takeBack 15 = .ok (.aload_n 0, 1) := by decide +kernel
theorem dX2_takeBack_16 : decode cX2_takeBack 16 = .ok (.getfield 11, 3) := by decide +kernel
theorem dX2_takeBack_19 : decode cX2_takeBack 19 = .ok (.arraylength, 1) := by decide +kernel
theorem dX2_takeBack_20 : decode cX2_takeBack 20 = .ok (.iconst 1, 1) := by decide +kernel
theorem dX2_takeBack_21 : decode cX2_takeBack 21 = .ok (.isub, 1) := by decide +kernel
theorem dX2_takeBack_22 : decode cX2_takeBack 22 = .ok (.if_icmp .ge 23, 3) := by decide +kernel
theorem dX2_takeBack_25 : decode cX2_takeBack 25 = .ok (.aload_n 0, 1) := by decide +kernel
theorem dX2_takeBack_26 : decode cX2_takeBack 26 = .ok (.getfield 11, 3) := by decide +kernel
theorem dX2_takeBack_29 : decode cX2_takeBack 29 = .ok (.iload_n 3, 1) := by decide +kernel
theorem dX2_takeBack_30 : decode cX2_takeBack 30 = .ok (.aload_n 0, 1) := by decide +kernel
theorem dX2_takeBack_31 : decode cX2_takeBack 31 = .ok (.getfield 11, 3) := by decide +kernel
theorem dX2_takeBack_34 : decode cX2_takeBack 34 = .ok (.iload_n 3, 1) := by decide +kernel
theorem dX2_takeBack_35 : decode cX2_takeBack 35 = .ok (.iconst 1, 1) := by decide +kernel
theorem dX2_takeBack_36 : decode cX2_takeBack 36 = .ok (.iadd, 1) := by decide +kernel
theorem dX2_takeBack_37 : decode cX2_takeBack 37 = .ok (.aaload, 1) := by decide +kernel
theorem dX2_takeBack_38 : decode cX2_takeBack 38 = .ok (.aastore, 1) := by decide +kernel
theorem dX2_takeBack_39 : decode cX2_takeBack 39 = .ok (.iinc 3 1, 3) := by decide +kernel
theorem dX2_takeBack_42 : decode cX2_takeBack 42 = .ok (.goto (-28), 3) := by decide +kernel
theorem dX2_takeBack_45 : decode cX2_takeBack 45 = .ok (.aload_n 0, 1) := by decide +kernel
theorem dX2_takeBack_46 : decode cX2_takeBack 46 = .ok (.getfield 11, 3) := by decide +kernel
theorem dX2_takeBack_49 : decode cX2_takeBack 49 = .ok (.iconst 5, 1) := by decide +kernel
theorem dX2_takeBack_50 : decode cX2_takeBack 50 = .ok (.aload_n 2, 1) := by decide +kernel
theorem dX2_takeBack_51 : decode cX2_takeBack 51 = .ok (.aastore, 1) := by decide +kernel
theorem dX2_takeBack_52 : decode cX2_takeBack 52 = .ok (.aload_n 0, 1) := by decide +kernel
theorem dX2_takeBack_53 : decode cX2_takeBack 53 = .ok (.dup, 1) := by decide +kernel
theorem dX2_takeBack_54 : decode cX2_takeBack 54 = .ok (.getfield 22, 3) := by decide +kernel
theorem dX2_takeBack_57 : decode cX2_takeBack 57 = .ok (.iconst 1, 1) := by decide +kernel
theorem dX2_takeBack_58 : decode cX2_takeBack 58 = .ok (.isub, 1) := by decide +kernel
theorem dX2_takeBack_59 : decode cX2_takeBack 59 = .ok (.putfield 22, 3) := by decide +kernel
theorem dX2_takeBack_62 : decode cX2_takeBack 62 = .ok (.return_, 1) := by decide +kernel
theorem dX3_init_0 : decode cX3_init 0 = .ok (.aload_n 0, 1) := by decide +kernel
theorem dX3_init_1 : decode cX3_init 1 = .ok (.invokespecial 3, 3) := by decide +kernel
theorem dX3_init_4 : decode cX3_init 4 = .ok (.aload_n 0, 1) := by decide +kernel
theorem dX3_init_5 : decode cX3_init 5 = .ok (.sipush 336, 3) := by decide +kernel
theorem dX3_init_8 : decode cX3_init 8 = .ok (.newarray .int, 2) := by decide +kernel
theorem dX3_init_10 : decode cX3_init 10 = .ok (.putfield 9, 3) := by decide +kernel
theorem dX3_init_13 : decode cX3_init 13 = .ok (.return_, 1) := by decide +kernel
theorem dX3_length_0 : decode cX3_length 0 = .ok (.aload_n 0, 1) := by decide +kernel
theorem dX3_length_1 : decode cX3_length 1 = .ok (.getfield 15, 3) := by decide +kernel
theorem dX3_length_4 : decode cX3_length 4 = .ok (.bipush 48, 2) := by decide +kernel
theorem dX3_length_6 : decode cX3_length 6 = .ok (.invokestatic 19, 3) := by decide +kernel
theorem dX3_length_9 : decode cX3_length 9 = .ok (.ireturn, 1) := by decide +kernel
theorem dX3_become_0 : decode cX3_become 0 = .ok (.aload_n 1, 1) := by decide +kernel
theorem dX3_become_1 : decode cX3_become 1 = .ok (.getfield 9, 3) := by decide +kernel
theorem dX3_become_4 : decode cX3_become 4 = .ok (.iconst 0, 1) := by decide +kernel
theorem dX3_become_5 : decode cX3_become 5 = .ok (.aload_n 0, 1) := by decide +kernel
theorem dX3_become_6 : decode cX3_become 6 = .ok (.getfield 9, 3) := by decide +kernel
theorem dX3_become_9 : decode cX3_become 9 = .ok (.iconst 0, 1) := by decide +kernel
theorem dX3_become_10 : decode cX3_become 10 = .ok (.aload_n 0, 1) := by decide +kernel
theorem dX3_become_11 : decode cX3_become 11 = .ok (.getfield 9, 3) := by decide +kernel
theorem dX3_become_14 : decode cX3_become 14 = .ok (.arraylength, 1) := by decide +kernel
theorem dX3_become_15 : decode cX3_become 15 = .ok (.invokestatic 25, 3) := by decide +kernel
theorem dX3_become_18 : decode cX3_become 18 = .ok (.aload_n 0, 1) := by decide +kernel
theorem dX3_become_19 : decode cX3_become 19 = .ok (.aload_n 1, 1) := by decide +kernel
theorem dX3_become_20 : decode cX3_become 20 = .ok (.getfield 15, 3) := by decide +kernel
theorem dX3_become_23 : decode cX3_become 23 = .ok (.putfield 15, 3) := by decide +kernel
theorem dX3_become_26 : decode cX3_become 26 = .ok (.return_, 1) := by decide +kernel
theorem dX3_open_0 : decode cX3_open 0 = .ok (.aload_n 0, 1) := by decide +kernel
theorem dX3_open_1 : decode cX3_open 1 = .ok (.dup, 1) := by decide +kernel
theorem dX3_open_2 : decode cX3_open 2 = .ok (.getfield 15, 3) := by decide +kernel
theorem dX3_open_5 : decode cX3_open 5 = .ok (.iconst 1, 1) := by decide +kernel
theorem dX3_open_6 : decode cX3_open 6 = .ok (.iadd, 1) := by decide +kernel
theorem dX3_open_7 : decode cX3_open 7 = .ok (.putfield 15, 3) := by decide +kernel
theorem dX3_open_10 : decode cX3_open 10 = .ok (.return_, 1) := by decide +kernel
set_option maxRecDepth 20000 in
theorem ggX3_write_X3_placeOf : GoodIn wsX3_write wsX3_placeOf := goodIn_r _ [6, 7, 8, 9] (by decide +kernel) (by decide +kernel)
set_option maxRecDepth 20000 in
theorem gX3_write_X3_placeOf : GoodIn wsX3_write (wsV RX3 31 RX3 yX3_placeOf wsX3_placeOf) := goodIn_app (goodIn_of _ (by decide +kernel)) ggX3_write_X3_placeOf
theorem dX3_write_0 : decode cX3_write 0 = .ok (.aload_n 0, 1) := by decide +kernel
theorem dX3_write_1 : decode cX3_write 1 = .ok (.iconst 0, 1) := by decide +kernel
theorem dX3_write_2 : decode cX3_write 2 = .ok (.iload_n 1, 1) := by decide +kernel
theorem dX3_write_3 : decode cX3_write 3 = .ok (.invokevirtual 31, 3) := by decide +kernel
theorem dX3_write_6 : decode cX3_write 6 = .ok (.istore_n 3, 1) := by decide +kernel
theorem dX3_write_7 : decode cX3_write 7 = .ok (.iload_n 3, 1) := by decide +kernel
theorem dX3_write_8 : decode cX3_write 8 = .ok (.ifCond .lt 19, 3) := by decide +kernel
theorem dX3_write_11 : decode cX3_write 11 = .ok (.iload_n 3, 1) := by decide +kernel
theorem dX3_write_12 : decode cX3_write 12 = .ok (.aload_n 0, 1) := by decide +kernel
theorem dX3_write_13 : decode cX3_write 13 = .ok (.getfield 9, 3) := by decide +kernel
theorem dX3_write_16 : decode cX3_write 16 = .ok (.arraylength, 1) := by decide +kernel
theorem dX3_write_17 : decode cX3_write 17 = .ok (.if_icmp .ge 10, 3) := by decide +kernel
theorem dX3_write_20 : decode cX3_write 20 = .ok (.aload_n 0, 1) := by decide +kernel
theorem dX3_write_21 : decode cX3_write 21 = .ok (.getfield 9, 3) := by decide +kernel
theorem dX3_write_24 : decode cX3_write 24 = .ok (.iload_n 3, 1) := by decide +kernel
theorem dX3_write_25 : decode cX3_write 25 = .ok (.iload_n 2, 1) := by decide +kernel
theorem dX3_write_26 : decode cX3_write 26 = .ok (.iastore, 1) := by decide +kernel
theorem dX3_write_27 : decode cX3_write 27 = .ok (.return_, 1) := by decide +kernel
set_option maxRecDepth 20000 in
theorem ggX3_fact_X3_placeOf : GoodIn wsX3_fact wsX3_placeOf := goodIn_r _ [6, 7, 8, 9] (by decide +kernel) (by decide +kernel)
set_option maxRecDepth 20000 in
theorem gX3_fact_X3_placeOf : GoodIn wsX3_fact (wsV RX3 31 RX3 yX3_placeOf wsX3_placeOf) := goodIn_app (goodIn_of _ (by decide +kernel)) ggX3_fact_X3_placeOf
theorem dX3_fact_0 : decode cX3_fact 0 = .ok (.aload_n 0, 1) := by decide +kernel
theorem dX3_fact_1 : decode cX3_fact 1 = .ok (.iload_n 1, 1) := by decide +kernel
theorem dX3_fact_2 : decode cX3_fact 2 = .ok (.iload_n 2, 1) := by decide +kernel
theorem dX3_fact_3 : decode cX3_fact 3 = .ok (.invokevirtual 31, 3) := by decide +kernel
theorem dX3_fact_6 : decode cX3_fact 6 = .ok (.istore_n 3, 1) := by decide +kernel
theorem dX3_fact_7 : decode cX3_fact 7 = .ok (.iload_n 3, 1) := by decide +kernel
theorem dX3_fact_8 : decode cX3_fact 8 = .ok (.ifCond .lt 21, 3) := by decide +kernel
theorem dX3_fact_11 : decode cX3_fact 11 = .ok (.iload_n 3, 1) := by decide +kernel
theorem dX3_fact_12 : decode cX3_fact 12 = .ok (.aload_n 0, 1) := by decide +kernel
theorem dX3_fact_13 : decode cX3_fact 13 = .ok (.getfield 9, 3) := by decide +kernel
theorem dX3_fact_16 : decode cX3_fact 16 = .ok (.arraylength, 1) := by decide +kernel
theorem dX3_fact_17 : decode cX3_fact 17 = .ok (.if_icmp .ge 12, 3) := by decide +kernel
theorem dX3_fact_20 : decode cX3_fact 20 = .ok (.aload_n 0, 1) := by decide +kernel
theorem dX3_fact_21 : decode cX3_fact 21 = .ok (.getfield 9, 3) := by decide +kernel
theorem dX3_fact_24 : decode cX3_fact 24 = .ok (.iload_n 3, 1) := by decide +kernel
theorem dX3_fact_25 : decode cX3_fact 25 = .ok (.iaload, 1) := by decide +kernel
theorem dX3_fact_26 : decode cX3_fact 26 = .ok (.goto 4, 3) := by decide +kernel
theorem dX3_fact_29 : decode cX3_fact 29 = .ok (.iconst 0, 1) := by decide +kernel
theorem dX3_fact_30 : decode cX3_fact 30 = .ok (.ireturn, 1) := by decide +kernel
theorem dX3_placeOf_0 : decode cX3_placeOf 0 = .ok (.aload_n 0, 1) := by decide +kernel
theorem dX3_placeOf_1 : decode cX3_placeOf 1 = .ok (.getfield 15, 3) := by decide +kernel
theorem dX3_placeOf_4 : decode cX3_placeOf 4 = .ok (.iconst 1, 1) := by decide +kernel
theorem dX3_placeOf_5 : decode cX3_placeOf 5 = .ok (.isub, 1) := by decide +kernel
theorem dX3_placeOf_6 : decode cX3_placeOf 6 = .ok (.iload_n 1, 1) := by decide +kernel
theorem dX3_placeOf_7 : decode cX3_placeOf 7 = .ok (.isub, 1) := by decide +kernel
theorem dX3_placeOf_8 : decode cX3_placeOf 8 = .ok (.bipush 48, 2) := by decide +kernel
theorem dX3_placeOf_10 : decode cX3_placeOf 10 = .ok (.irem, 1) := by decide +kernel
theorem dX3_placeOf_11 : decode cX3_placeOf 11 = .ok (.bipush 7, 2) := by decide +kernel
theorem dX3_placeOf_13 : decode cX3_placeOf 13 = .ok (.imul, 1) := by decide +kernel
theorem dX3_placeOf_14 : decode cX3_placeOf 14 = .ok (.iload_n 2, 1) := by decide +kernel
theorem dX3_placeOf_15 : decode cX3_placeOf 15 = .ok (.iadd, 1) := by decide +kernel
theorem dX3_placeOf_16 : decode cX3_placeOf 16 = .ok (.ireturn, 1) := by decide +kernel
set_option maxRecDepth 20000 in
theorem ggX3_sumOfRates_X3_length : GoodIn wsX3_sumOfRates wsX3_length := goodIn_r _ [5, 6, 7, 8, 9, 10, 20, 21] (by decide +kernel) (by decide +kernel)
set_option maxRecDepth 20000 in
theorem gX3_sumOfRates_X3_length : GoodIn wsX3_sumOfRates (wsV RX3 34 RX3 yX3_length wsX3_length) := goodIn_app (goodIn_of _ (by decide +kernel)) ggX3_sumOfRates_X3_length
set_option maxRecDepth 20000 in
theorem ggX3_sumOfRates_X3_fact : GoodIn wsX3_sumOfRates wsX3_fact := goodIn_r _ [14, 15, 16, 17, 18, 4, 19, 6, 20, 21] (by decide +kernel) (by decide +kernel)
set_option maxRecDepth 20000 in
theorem gX3_sumOfRates_X3_fact : GoodIn wsX3_sumOfRates (wsV RX3 38 RX3 yX3_fact wsX3_fact) := goodIn_app (goodIn_of _ (by decide +kernel)) ggX3_sumOfRates_X3_fact
theorem dX3_sumOfRates_0 : decode cX3_sumOfRates 0 = .ok (.iconst 0, 1) := by decide +kernel
theorem dX3_sumOfRates_1 : decode cX3_sumOfRates 1 = .ok (.istore_n 1, 1) := by decide +kernel
theorem dX3_sumOfRates_2 : decode cX3_sumOfRates 2 = .ok (.iconst 0, 1) := by decide +kernel
theorem dX3_sumOfRates_3 : decode cX3_sumOfRates 3 = .ok (.istore_n 2, 1) := by decide +kernel
theorem dX3_sumOfRates_4 : decode cX3_sumOfRates 4 = .ok (.iload_n 2, 1) := by decide +kernel
theorem dX3_sumOfRates_5 : decode cX3_sumOfRates 5 = .ok (.aload_n 0, 1) := by decide +kernel
theorem dX3_sumOfRates_6 : decode cX3_sumOfRates 6 = .ok (.invokevirtual 34, 3) := by decide +kernel
theorem dX3_sumOfRates_9 : decode cX3_sumOfRates 9 = .ok (.if_icmp .ge 18, 3) := by decide +kernel
theorem dX3_sumOfRates_12 : decode cX3_sumOfRates 12 = .ok (.iload_n 1, 1) := by decide +kernel
theorem dX3_sumOfRates_13 : decode cX3_sumOfRates 13 = .ok (.aload_n 0, 1) := by decide +kernel
theorem dX3_sumOfRates_14 : decode cX3_sumOfRates 14 = .ok (.iload_n 2, 1) := by decide +kernel
theorem dX3_sumOfRates_15 : decode cX3_sumOfRates 15 = .ok (.iconst 3, 1) := by decide +kernel
theorem dX3_sumOfRates_16 : decode cX3_sumOfRates 16 = .ok (.invokevirtual 38, 3) := by decide +kernel
theorem dX3_sumOfRates_19 : decode cX3_sumOfRates 19 = .ok (.iadd, 1) := by decide +kernel
theorem dX3_sumOfRates_20 : decode cX3_sumOfRates 20 = .ok (.istore_n 1, 1) := by decide +kernel
theorem dX3_sumOfRates_21 : decode cX3_sumOfRates 21 = .ok (.iinc 2 1, 3) := by decide +kernel
theorem dX3_sumOfRates_24 : decode cX3_sumOfRates 24 = .ok (.goto (-20), 3) := by decide +kernel
theorem dX3_sumOfRates_27 : decode cX3_sumOfRates 27 = .ok (.iload_n 1, 1) := by decide +kernel
theorem dX3_sumOfRates_28 : decode cX3_sumOfRates 28 = .ok (.ireturn, 1) := by decide +kernel
set_option maxRecDepth 20000 in
theorem ggX3_greatestRate_X3_fact : GoodIn wsX3_greatestRate wsX3_fact := goodIn_r _ [9, 10, 11, 12, 13, 8, 14, 15, 23, 24] (by decide +kernel) (by decide +kernel)
set_option maxRecDepth 20000 in
theorem gX3_greatestRate_X3_fact : GoodIn wsX3_greatestRate (wsV RX3 38 RX3 yX3_fact wsX3_fact) := goodIn_app (goodIn_of _ (by decide +kernel)) ggX3_greatestRate_X3_fact
set_option maxRecDepth 20000 in
theorem ggX3_greatestRate_X3_length : GoodIn wsX3_greatestRate wsX3_length := goodIn_r _ [19, 15, 20, 21, 3, 22, 23, 24] (by decide +kernel) (by decide +kernel)
set_option maxRecDepth 20000 in
theorem gX3_greatestRate_X3_length : GoodIn wsX3_greatestRate (wsV RX3 34 RX3 yX3_length wsX3_length) := goodIn_app (goodIn_of _ (by decide +kernel)) ggX3_greatestRate_X3_length
theorem dX3_greatestRate_0 : decode cX3_greatestRate 0 = .ok (.aload_n 0, 1) := by decide +kernel
theorem dX3_greatestRate_1 : decode cX3_greatestRate 1 = .ok (.iconst 0, 1) := by decide +kernel
theorem dX3_greatestRate_2 : decode cX3_greatestRate 2 = .ok (.iconst 3, 1) := by decide +kernel
theorem dX3_greatestRate_3 : decode cX3_greatestRate 3 = .ok (.invokevirtual 38, 3) := by decide +kernel
theorem dX3_greatestRate_6 : decode cX3_greatestRate 6 = .ok (.istore_n 1, 1) := by decide +kernel
theorem dX3_greatestRate_7 : decode cX3_greatestRate 7 = .ok (.iconst 1, 1) := by decide +kernel
theorem dX3_greatestRate_8 : decode cX3_greatestRate 8 = .ok (.istore_n 2, 1) := by decide +kernel
theorem dX3_greatestRate_9 : decode cX3_greatestRate 9 = .ok (.iload_n 2, 1) := by decide +kernel
theorem dX3_greatestRate_10 : decode cX3_greatestRate 10 = .ok (.aload_n 0, 1) := by decide +kernel
theorem dX3_greatestRate_11 : decode cX3_greatestRate 11 = .ok (.invokevirtual 34, 3) := by decide +kernel
theorem dX3_greatestRate_14 : decode cX3_greatestRate 14 = .ok (.if_icmp .ge 20, 3) := by decide +kernel
theorem dX3_greatestRate_17 : decode cX3_greatestRate 17 = .ok (.iload_n 1, 1) := by decide +kernel
theorem dX3_greatestRate_18 : decode cX3_greatestRate 18 = .ok (.aload_n 0, 1) := by decide +kernel
theorem dX3_greatestRate_19 : decode cX3_greatestRate 19 = .ok (.iload_n 2, 1) := by decide +kernel
theorem dX3_greatestRate_20 : decode cX3_greatestRate 20 = .ok (.iconst 3, 1) := by decide +kernel
theorem dX3_greatestRate_21 : decode cX3_greatestRate 21 = .ok (.invokevirtual 38, 3) := by decide +kernel
theorem dX3_greatestRate_24 : decode cX3_greatestRate 24 = .ok (.invokestatic 41, 3) := by decide +kernel
theorem dX3_greatestRate_27 : decode cX3_greatestRate 27 = .ok (.istore_n 1, 1) := by decide +kernel
theorem dX3_greatestRate_28 : decode cX3_greatestRate 28 = .ok (.iinc 2 1, 3) := by decide +kernel
theorem dX3_greatestRate_31 : decode cX3_greatestRate 31 = .ok (.goto (-22), 3) := by decide +kernel
theorem dX3_greatestRate_34 : decode cX3_greatestRate 34 = .ok (.iload_n 1, 1) := by decide +kernel
theorem dX3_greatestRate_35 : decode cX3_greatestRate 35 = .ok (.ireturn, 1) := by decide +kernel
set_option maxRecDepth 20000 in
theorem ggX3_leastRate_X3_fact : GoodIn wsX3_leastRate wsX3_fact := goodIn_r _ [9, 10, 11, 12, 13, 8, 14, 15, 20, 21] (by decide +kernel) (by decide +kernel)
set_option maxRecDepth 20000 in
theorem gX3_leastRate_X3_fact : GoodIn wsX3_leastRate (wsV RX3 38 RX3 yX3_fact wsX3_fact) := goodIn_app (goodIn_of _ (by decide +kernel)) ggX3_leastRate_X3_fact
set_option maxRecDepth 20000 in
theorem ggX3_leastRate_X3_length : GoodIn wsX3_leastRate wsX3_length := goodIn_r _ [19, 15, 1, 2, 3, 4, 20, 21] (by decide +kernel) (by decide +kernel)
set_option maxRecDepth 20000 in
theorem gX3_leastRate_X3_length : GoodIn wsX3_leastRate (wsV RX3 34 RX3 yX3_length wsX3_length) := goodIn_app (goodIn_of _ (by decide +kernel)) ggX3_leastRate_X3_length
theorem dX3_leastRate_0 : decode cX3_leastRate 0 = .ok (.aload_n 0, 1) := by decide +kernel
theorem dX3_leastRate_1 : decode cX3_leastRate 1 = .ok (.iconst 0, 1) := by decide +kernel
theorem dX3_leastRate_2 : decode cX3_leastRate 2 = .ok (.iconst 3, 1) := by decide +kernel
theorem dX3_leastRate_3 : decode cX3_leastRate 3 = .ok (.invokevirtual 38, 3) := by decide +kernel
theorem dX3_leastRate_6 : decode cX3_leastRate 6 = .ok (.istore_n 1, 1) := by decide +kernel
theorem dX3_leastRate_7 : decode cX3_leastRate 7 = .ok (.iconst 1, 1) := by decide +kernel
theorem dX3_leastRate_8 : decode cX3_leastRate 8 = .ok (.istore_n 2, 1) := by decide +kernel
theorem dX3_leastRate_9 : decode cX3_leastRate 9 = .ok (.iload_n 2, 1) := by decide +kernel
theorem dX3_leastRate_10 : decode cX3_leastRate 10 = .ok (.aload_n 0, 1) := by decide +kernel
theorem dX3_leastRate_11 : decode cX3_leastRate 11 = .ok (.invokevirtual 34, 3) := by decide +kernel
theorem dX3_leastRate_14 : decode cX3_leastRate 14 = .ok (.if_icmp .ge 20, 3) := by decide +kernel
theorem dX3_leastRate_17 : decode cX3_leastRate 17 = .ok (.iload_n 1, 1) := by decide +kernel
theorem dX3_leastRate_18 : decode cX3_leastRate 18 = .ok (.aload_n 0, 1) := by decide +kernel
theorem dX3_leastRate_19 : decode cX3_leastRate 19 = .ok (.iload_n 2, 1) := by decide +kernel
theorem dX3_leastRate_20 : decode cX3_leastRate 20 = .ok (.iconst 3, 1) := by decide +kernel
theorem dX3_leastRate_21 : decode cX3_leastRate 21 = .ok (.invokevirtual 38, 3) := by decide +kernel
theorem dX3_leastRate_24 : decode cX3_leastRate 24 = .ok (.invokestatic 19, 3) := by decide +kernel
theorem dX3_leastRate_27 : decode cX3_leastRate 27 = .ok (.istore_n 1, 1) := by decide +kernel
theorem dX3_leastRate_28 : decode cX3_leastRate 28 = .ok (.iinc 2 1, 3) := by decide +kernel
theorem dX3_leastRate_31 : decode cX3_leastRate 31 = .ok (.goto (-22), 3) := by decide +kernel
theorem dX3_leastRate_34 : decode cX3_leastRate 34 = .ok (.iload_n 1, 1) := by decide +kernel
theorem dX3_leastRate_35 : decode cX3_leastRate 35 = .ok (.ireturn, 1) := by decide +kernel
set_option maxRecDepth 20000 in
theorem ggX3_countAboveZero_X3_length : GoodIn wsX3_countAboveZero wsX3_length := goodIn_r _ [5, 6, 7, 8, 9, 10, 20, 21] (by decide +kernel) (by decide +kernel)
set_option maxRecDepth 20000 in
theorem gX3_countAboveZero_X3_length : GoodIn wsX3_countAboveZero (wsV RX3 34 RX3 yX3_length wsX3_length) := goodIn_app (goodIn_of _ (by decide +kernel)) ggX3_countAboveZero_X3_length
set_option maxRecDepth 20000 in
theorem ggX3_countAboveZero_X3_fact : GoodIn wsX3_countAboveZero wsX3_fact := goodIn_r _ [14, 15, 16, 17, 18, 4, 19, 6, 20, 21] (by decide +kernel) (by decide +kernel)
set_option maxRecDepth 20000 in
theorem gX3_countAboveZero_X3_fact : GoodIn wsX3_countAboveZero (wsV RX3 38 RX3 yX3_fact wsX3_fact) := goodIn_app (goodIn_of _ (by decide +kernel)) ggX3_countAboveZero_X3_fact
theorem dX3_countAboveZero_0 : decode cX3_countAboveZero 0 = .ok (.iconst 0, 1) := by decide +kernel
theorem dX3_countAboveZero_1 : decode cX3_countAboveZero 1 = .ok (.istore_n 2, 1) := by decide +kernel
theorem dX3_countAboveZero_2 : decode cX3_countAboveZero 2 = .ok (.iconst 0, 1) := by decide +kernel
theorem dX3_countAboveZero_3 : decode cX3_countAboveZero 3 = .ok (.istore_n 3, 1) := by decide +kernel
theorem dX3_countAboveZero_4 : decode cX3_countAboveZero 4 = .ok (.iload_n 3, 1) := by decide +kernel
theorem dX3_countAboveZero_5 : decode cX3_countAboveZero 5 = .ok (.aload_n 0, 1) := by decide +kernel
theorem dX3_countAboveZero_6 : decode cX3_countAboveZero 6 = .ok (.invokevirtual 34, 3) := by decide +kernel
theorem dX3_countAboveZero_9 : decode cX3_countAboveZero 9 = .ok (.if_icmp .ge 21, 3) := by decide +kernel
theorem dX3_countAboveZero_12 : decode cX3_countAboveZero 12 = .ok (.aload_n 0, 1) := by decide +kernel
theorem dX3_countAboveZero_13 : decode cX3_countAboveZero 13 = .ok (.iload_n 3, 1) := by decide +kernel
theorem dX3_countAboveZero_14 : decode cX3_countAboveZero 14 = .ok (.iload_n 1, 1) := by decide +kernel
theorem dX3_countAboveZero_15 : decode cX3_countAboveZero 15 = .ok (.invokevirtual 38, 3) := by decide +kernel
theorem dX3_countAboveZero_18 : decode cX3_countAboveZero 18 = .ok (.ifCond .le 6, 3) := by decide +kernel
theorem dX3_countAboveZero_21 : decode cX3_countAboveZero 21 = .ok (.iinc 2 1, 3) := by decide +kernel
theorem dX3_countAboveZero_24 : decode cX3_countAboveZero 24 = .ok (.iinc 3 1, 3) := by decide +kernel
theorem dX3_countAboveZero_27 : decode cX3_countAboveZero 27 = .ok (.goto (-23), 3) := by decide +kernel
theorem dX3_countAboveZero_30 : decode cX3_countAboveZero 30 = .ok (.iload_n 2, 1) := by decide +kernel
theorem dX3_countAboveZero_31 : decode cX3_countAboveZero 31 = .ok (.ireturn, 1) := by decide +kernel
set_option maxRecDepth 20000 in
theorem ggX3_countOtherTrays_X3_length : GoodIn wsX3_countOtherTrays wsX3_length := goodIn_r _ [5, 6, 7, 8, 9, 10, 20, 21] (by decide +kernel) (by decide +kernel)
set_option maxRecDepth 20000 in
theorem gX3_countOtherTrays_X3_length : GoodIn wsX3_countOtherTrays (wsV RX3 34 RX3 yX3_length wsX3_length) := goodIn_app (goodIn_of _ (by decide +kernel)) ggX3_countOtherTrays_X3_length
set_option maxRecDepth 20000 in
theorem ggX3_countOtherTrays_X3_fact : GoodIn wsX3_countOtherTrays wsX3_fact := goodIn_r _ [14, 15, 16, 17, 18, 4, 19, 6, 20, 21] (by decide +kernel) (by decide +kernel)
set_option maxRecDepth 20000 in
theorem gX3_countOtherTrays_X3_fact : GoodIn wsX3_countOtherTrays (wsV RX3 38 RX3 yX3_fact wsX3_fact) := goodIn_app (goodIn_of _ (by decide +kernel)) ggX3_countOtherTrays_X3_fact
theorem dX3_countOtherTrays_0 : decode cX3_countOtherTrays 0 = .ok (.iconst 0, 1) := by decide +kernel
theorem dX3_countOtherTrays_1 : decode cX3_countOtherTrays 1 = .ok (.istore_n 1, 1) := by decide +kernel
theorem dX3_countOtherTrays_2 : decode cX3_countOtherTrays 2 = .ok (.iconst 0, 1) := by decide +kernel
theorem dX3_countOtherTrays_3 : decode cX3_countOtherTrays 3 = .ok (.istore_n 2, 1) := by decide +kernel
theorem dX3_countOtherTrays_4 : decode cX3_countOtherTrays 4 = .ok (.iload_n 2, 1) := by decide +kernel
theorem dX3_countOtherTrays_5 : decode cX3_countOtherTrays 5 = .ok (.aload_n 0, 1) := by decide +kernel
theorem dX3_countOtherTrays_6 : decode cX3_countOtherTrays 6 = .ok (.invokevirtual 34, 3) := by decide +kernel
theorem dX3_countOtherTrays_9 : decode cX3_countOtherTrays 9 = .ok (.iconst 1, 1) := by decide +kernel
theorem dX3_countOtherTrays_10 : decode cX3_countOtherTrays 10 = .ok (.isub, 1) := by decide +kernel
theorem dX3_countOtherTrays_11 : decode cX3_countOtherTrays 11 = .ok (.if_icmp .ge 31, 3) := by decide +kernel
theorem dX3_countOtherTrays_14 : decode cX3_countOtherTrays 14 = .ok (.aload_n 0, 1) := by decide +kernel
theorem dX3_countOtherTrays_15 : decode cX3_countOtherTrays 15 = .ok (.iload_n 2, 1) := by decide +kernel
theorem dX3_countOtherTrays_16 : decode cX3_countOtherTrays 16 = .ok (.bipush 6, 2) := by decide +kernel
theorem dX3_countOtherTrays_18 : decode cX3_countOtherTrays 18 = .ok (.invokevirtual 38, 3) := by decide +kernel
theorem dX3_countOtherTrays_21 : decode cX3_countOtherTrays 21 = .ok (.aload_n 0, 1) := by decide +kernel
theorem dX3_countOtherTrays_22 : decode cX3_countOtherTrays 22 = .ok (.iload_n 2, 1) := by decide +kernel
theorem dX3_countOtherTrays_23 : decode cX3_countOtherTrays 23 = .ok (.iconst 1, 1) := by decide +kernel
theorem dX3_countOtherTrays_24 : decode cX3_countOtherTrays 24 = .ok (.iadd, 1) := by decide +kernel
theorem dX3_countOtherTrays_25 : decode cX3_countOtherTrays 25 = .ok (.bipush 6, 2) := by decide +kernel
theorem dX3_countOtherTrays_27 : decode cX3_countOtherTrays 27 = .ok (.invokevirtual 38, 3) := by decide +kernel
theorem dX3_countOtherTrays_30 : decode cX3_countOtherTrays 30 = .ok (.if_icmp .eq 6, 3) := by decide +kernel
theorem dX3_countOtherTrays_33 : decode cX3_countOtherTrays 33 = .ok (.iinc 1 1, 3) := by decide +kernel
theorem dX3_countOtherTrays_36 : decode cX3_countOtherTrays 36 = .ok (.iinc 2 1, 3) := by decide +kernel
theorem dX3_countOtherTrays_39 : decode cX3_countOtherTrays 39 = .ok (.goto (-35), 3) := by decide +kernel
theorem dX3_countOtherTrays_42 : decode cX3_countOtherTrays 42 = .ok (.iload_n 1, 1) := by decide +kernel
theorem dX3_countOtherTrays_43 : decode cX3_countOtherTrays 43 = .ok (.ireturn, 1) := by decide +kernel
theorem dX4_init_0 : decode cX4_init 0 = .ok (.aload_n 0, 1) := by decide +kernel
theorem dX4_init_1 : decode cX4_init 1 = .ok (.invokespecial 3, 3) := by decide +kernel
theorem dX4_init_4 : decode cX4_init 4 = .ok (.aload_n 0, 1) := by decide +kernel
theorem dX4_init_5 : decode cX4_init 5 = .ok (.bipush 80, 2) := by decide +kernel
theorem dX4_init_7 : decode cX4_init 7 = .ok (.newarray .char, 2) := by decide +kernel
theorem dX4_init_9 : decode cX4_init 9 = .ok (.putfield 9, 3) := by decide +kernel
theorem dX4_init_12 : decode cX4_init 12 = .ok (.return_, 1) := by decide +kernel
theorem dX4_append_0 : decode cX4_append 0 = .ok (.aload_n 0, 1) := by decide +kernel
theorem dX4_append_1 : decode cX4_append 1 = .ok (.getfield 15, 3) := by decide +kernel
theorem dX4_append_4 : decode cX4_append 4 = .ok (.ifCond .lt 35, 3) := by decide +kernel
theorem dX4_append_7 : decode cX4_append 7 = .ok (.aload_n 0, 1) := by decide +kernel
theorem dX4_append_8 : decode cX4_append 8 = .ok (.getfield 15, 3) := by decide +kernel
theorem dX4_append_11 : decode cX4_append 11 = .ok (.aload_n 0, 1) := by decide +kernel
theorem dX4_append_12 : decode cX4_append 12 = .ok (.getfield 9, 3) := by decide +kernel
theorem dX4_append_15 : decode cX4_append 15 = .ok (.arraylength, 1) := by decide +kernel
theorem dX4_append_16 : decode cX4_append 16 = .ok (.if_icmp .ge 23, 3) := by decide +kernel
theorem dX4_append_19 : decode cX4_append 19 = .ok (.aload_n 0, 1) := by decide +kernel
theorem dX4_append_20 : decode cX4_append 20 = .ok (.getfield 9, 3) := by decide +kernel
theorem dX4_append_23 : decode cX4_append 23 = .ok (.aload_n 0, 1) := by decide +kernel
theorem dX4_append_24 : decode cX4_append 24 = .ok (.getfield 15, 3) := by decide +kernel
theorem dX4_append_27 : decode cX4_append 27 = .ok (.iload_n 1, 1) := by decide +kernel
theorem dX4_append_28 : decode cX4_append 28 = .ok (.castore, 1) := by decide +kernel
theorem dX4_append_29 : decode cX4_append 29 = .ok (.aload_n 0, 1) := by decide +kernel
theorem dX4_append_30 : decode cX4_append 30 = .ok (.dup, 1) := by decide +kernel
theorem dX4_append_31 : decode cX4_append 31 = .ok (.getfield 15, 3) := by decide +kernel
theorem dX4_append_34 : decode cX4_append 34 = .ok (.iconst 1, 1) := by decide +kernel
theorem dX4_append_35 : decode cX4_append 35 = .ok (.iadd, 1) := by decide +kernel
theorem dX4_append_36 : decode cX4_append 36 = .ok (.putfield 15, 3) := by decide +kernel
theorem dX4_append_39 : decode cX4_append 39 = .ok (.return_, 1) := by decide +kernel
theorem dX4_signAt_0 : decode cX4_signAt 0 = .ok (.iload_n 1, 1) := by decide +kernel
theorem dX4_signAt_1 : decode cX4_signAt 1 = .ok (.ifCond .lt 29, 3) := by decide +kernel
theorem dX4_signAt_4 : decode cX4_signAt 4 = .ok (.iload_n 1, 1) := by decide +kernel
theorem dX4_signAt_5 : decode cX4_signAt 5 = .ok (.aload_n 0, 1) := by decide +kernel
theorem dX4_signAt_6 : decode cX4_signAt 6 = .ok (.getfield 15, 3) := by decide +kernel
theorem dX4_signAt_9 : decode cX4_signAt 9 = .ok (.if_icmp .ge 21, 3) := by decide +kernel
theorem dX4_signAt_12 : decode cX4_signAt 12 = .ok (.iload_n 1, 1) := by decide +kernel
theorem dX4_signAt_13 : decode cX4_signAt 13 = .ok (.aload_n 0, 1) := by decide +kernel
theorem dX4_signAt_14 : decode cX4_signAt 14 = .ok (.getfield 9, 3) := by decide +kernel
theorem dX4_signAt_17 : decode cX4_signAt 17 = .ok (.arraylength, 1) := by decide +kernel
theorem dX4_signAt_18 : decode cX4_signAt 18 = .ok (.if_icmp .ge 12, 3) := by decide +kernel
theorem dX4_signAt_21 : decode cX4_signAt 21 = .ok (.aload_n 0, 1) := by decide +kernel
theorem dX4_signAt_22 : decode cX4_signAt 22 = .ok (.getfield 9, 3) := by decide +kernel
theorem dX4_signAt_25 : decode cX4_signAt 25 = .ok (.iload_n 1, 1) := by decide +kernel
theorem dX4_signAt_26 : decode cX4_signAt 26 = .ok (.caload, 1) := by decide +kernel
theorem dX4_signAt_27 : decode cX4_signAt 27 = .ok (.goto 4, 3) := by decide +kernel
theorem dX4_signAt_30 : decode cX4_signAt 30 = .ok (.iconst 0, 1) := by decide +kernel
theorem dX4_signAt_31 : decode cX4_signAt 31 = .ok (.ireturn, 1) := by decide +kernel
set_option maxRecDepth 20000 in
theorem ggX5_init_X4_init : GoodIn wsX5_init wsX4_init := goodIn_r _ [9, 10, 2, 3, 11, 12, 13, 14] (by decide +kernel) (by decide +kernel)
set_option maxRecDepth 20000 in
theorem gX5_init_X4_init_n11 : GoodIn wsX5_init (wsX4_init) := ggX5_init_X4_init
theorem dX5_init_0 : decode cX5_init 0 = .ok (.aload_n 0, 1) := by decide +kernel
theorem dX5_init_1 : decode cX5_init 1 = .ok (.invokespecial 3, 3) := by decide +kernel
theorem dX5_init_4 : decode cX5_init 4 = .ok (.aload_n 0, 1) := by decide +kernel
theorem dX5_init_5 : decode cX5_init 5 = .ok (.new 9, 3) := by decide +kernel
theorem dX5_init_8 : decode cX5_init 8 = .ok (.dup, 1) := by decide +kernel
theorem dX5_init_9 : decode cX5_init 9 = .ok (.invokespecial 11, 3) := by decide +kernel
theorem dX5_init_12 : decode cX5_init 12 = .ok (.putfield 12, 3) := by decide +kernel
theorem dX5_init_15 : decode cX5_init 15 = .ok (.return_, 1) := by decide +kernel
theorem dX5_start_0 : decode cX5_start 0 = .ok (.aload_n 0, 1) := by decide +kernel
theorem dX5_start_1 : decode cX5_start 1 = .ok (.iconst 0, 1) := by decide +kernel
theorem dX5_start_2 : decode cX5_start 2 = .ok (.putfield 18, 3) := by decide +kernel
theorem dX5_start_5 : decode cX5_start 5 = .ok (.return_, 1) := by decide +kernel
set_option maxRecDepth 20000 in
theorem ggX5_firstFault_X5_start : GoodIn wsX5_firstFault wsX5_start := goodIn_r _ [7, 1, 48, 49, 50, 51, 52, 53, 54, 55] (by decide +kernel) (by decide +kernel)
set_option maxRecDepth 20000 in
theorem gX5_firstFault_X5_start : GoodIn wsX5_firstFault (wsV RX5 22 RX5 yX5_start wsX5_start) := goodIn_app (goodIn_of _ (by decide +kernel)) ggX5_firstFault_X5_start
set_option maxRecDepth 20000 in
theorem ggX5_firstFault_X5_readOrder : GoodIn wsX5_firstFault wsX5_readOrder := goodIn_r _ [11, 2, 1, 12, 13, 14, 15, 16, 17, 18, 19, 20, 21, 22, 6, 23, 24, 25, 26, 27, 28, 29, 30, 31, 32, 33, 34, 35, 36, 37, 38, 39, 40, 41, 42, 43, 44, 45, 46, 47, 48, 49, 50, 51, 52, 53, 54, 55, 56, 57] (by decide +kernel) (by decide +kernel)
set_option maxRecDepth 20000 in
theorem gX5_firstFault_X5_readOrder : GoodIn wsX5_firstFault (wsV RX5 25 RX5 yX5_readOrder wsX5_readOrder) := goodIn_app (goodIn_of _ (by decide +kernel)) ggX5_firstFault_X5_readOrder
set_option maxRecDepth 20000 in
theorem ggX5_firstFault_X5_readSign : GoodIn wsX5_firstFault wsX5_readSign := goodIn_r _ [36, 2, 1, 13, 14, 15, 16, 17, 18, 19, 48, 49, 50, 51, 52, 53, 54, 55, 56, 57] (by decide +kernel) (by decide +kernel)
set_option maxRecDepth 20000 in
theorem gX5_firstFault_X5_readSign : GoodIn wsX5_firstFault (wsV RX5 32 RX5 yX5_readSign wsX5_readSign) := goodIn_app (goodIn_of _ (by decide +kernel)) ggX5_firstFault_X5_readSign
theorem dX5_firstFault_0 : decode cX5_firstFault 0 = .ok (.aload_n 0, 1) := by decide +kernel
theorem dX5_firstFault_1 : decode cX5_firstFault 1 = .ok (.invokevirtual 22, 3) := by decide +kernel
theorem dX5_firstFault_4 : decode cX5_firstFault 4 = .ok (.iconst 0, 1) := by decide +kernel
theorem dX5_firstFault_5 : decode cX5_firstFault 5 = .ok (.istore_n 1, 1) := by decide +kernel
theorem dX5_firstFault_6 : decode cX5_firstFault 6 = .ok (.iload_n 1, 1) := by decide +kernel
theorem dX5_firstFault_7 : decode cX5_firstFault 7 = .ok (.bipush 80, 2) := by decide +kernel
theorem dX5_firstFault_9 : decode cX5_firstFault 9 = .ok (.if_icmp .ge 52, 3) := by decide +kernel
theorem dX5_firstFault_12 : decode cX5_firstFault 12 = .ok (.aload_n 0, 1) := by decide +kernel
theorem dX5_firstFault_13 : decode cX5_firstFault 13 = .ok (.invokevirtual 25, 3) := by decide +kernel
theorem dX5_firstFault_16 : decode cX5_firstFault 16 = .ok (.ifCond .ne 8, 3) := by decide +kernel
theorem dX5_firstFault_19 : decode cX5_firstFault 19 = .ok (.aload_n 0, 1) := by decide +kernel
theorem dX5_firstFault_20 : decode cX5_firstFault 20 = .ok (.getfield 18, 3) := by decide +kernel
theorem dX5_firstFault_23 : decode cX5_firstFault 23 = .ok (.ireturn, 1) := by decide +kernel
theorem dX5_firstFault_24 : decode cX5_firstFault 24 = .ok (.aload_n 0, 1) := by decide +kernel
theorem dX5_firstFault_25 : decode cX5_firstFault 25 = .ok (.getfield 18, 3) := by decide +kernel
theorem dX5_firstFault_28 : decode cX5_firstFault 28 = .ok (.aload_n 0, 1) := by decide +kernel
theorem dX5_firstFault_29 : decode cX5_firstFault 29 = .ok (.getfield 12, 3) := by decide +kernel
theorem dX5_firstFault_32 : decode cX5_firstFault 32 = .ok (.getfield 29, 3) := by decide +kernel
theorem dX5_firstFault_35 : decode cX5_firstFault 35 = .ok (.if_icmp .ne 6, 3) := by decide +kernel
theorem dX5_firstFault_38 : decode cX5_firstFault 38 = .ok (.bipush (-6), 2) := by decide +kernel
theorem dX5_firstFault_40 : decode cX5_firstFault 40 = .ok (.ireturn, 1) := by decide +kernel
theorem dX5_firstFault_41 : decode cX5_firstFault 41 = .ok (.aload_n 0, 1) := by decide +kernel
theorem dX5_firstFault_42 : decode cX5_firstFault 42 = .ok (.bipush 59, 2) := by decide +kernel
theorem dX5_firstFault_44 : decode cX5_firstFault 44 = .ok (.invokevirtual 32, 3) := by decide +kernel
theorem dX5_firstFault_47 : decode cX5_firstFault 47 = .ok (.ifCond .ne 8, 3) := by decide +kernel
theorem dX5_firstFault_50 : decode cX5_firstFault 50 = .ok (.aload_n 0, 1) := by decide +kernel
theorem dX5_firstFault_51 : decode cX5_firstFault 51 = .ok (.getfield 18, 3) := by decide +kernel
theorem dX5_firstFault_54 : decode cX5_firstFault 54 = .ok (.ireturn, 1) := by decide +kernel
theorem dX5_firstFault_55 : decode cX5_firstFault 55 = .ok (.iinc 1 1, 3) := by decide +kernel
theorem dX5_firstFault_58 : decode cX5_firstFault 58 = .ok (.goto (-52), 3) := by decide +kernel
theorem dX5_firstFault_61 : decode cX5_firstFault 61 = .ok (.aload_n 0, 1) := by decide +kernel
theorem dX5_firstFault_62 : decode cX5_firstFault 62 = .ok (.getfield 18, 3) := by decide +kernel
theorem dX5_firstFault_65 : decode cX5_firstFault 65 = .ok (.ireturn, 1) := by decide +kernel
set_option maxRecDepth 20000 in
theorem ggX5_readOrder_X4_signAt : GoodIn wsX5_readOrder wsX4_signAt := goodIn_r _ [8, 9, 10, 48, 49] (by decide +kernel) (by decide +kernel)
set_option maxRecDepth 20000 in
theorem gX5_readOrder_X4_signAt : GoodIn wsX5_readOrder (wsV RX5 36 RX4 yX4_signAt wsX4_signAt) := goodIn_app (goodIn_of _ (by decide +kernel)) ggX5_readOrder_X4_signAt
set_option maxRecDepth 20000 in
theorem ggX5_readOrder_X5_readHours : GoodIn wsX5_readOrder wsX5_readHours := goodIn_r _ [15, 16, 17, 18, 19, 20, 21, 22, 14, 23, 24, 25, 26, 27, 28, 1, 2, 4, 5, 6, 7, 8, 9, 10, 29, 30, 31, 32, 33, 34, 35, 40, 41, 42, 43, 44, 45, 46, 47, 48, 49] (by decide +kernel) (by decide +kernel)
set_option maxRecDepth 20000 in
theorem gX5_readOrder_X5_readHours : GoodIn wsX5_readOrder (wsV RX5 43 RX5 yX5_readHours wsX5_readHours) := goodIn_app (goodIn_of _ (by decide +kernel)) ggX5_readOrder_X5_readHours
set_option maxRecDepth 20000 in
theorem ggX5_readOrder_X5_readWeight : GoodIn wsX5_readOrder wsX5_readWeight := goodIn_r _ [39, 1, 2, 24, 4, 5, 6, 7, 8, 9, 10, 40, 41, 42, 43, 44, 45, 46, 47, 48, 49] (by decide +kernel) (by decide +kernel)
set_option maxRecDepth 20000 in
theorem gX5_readOrder_X5_readWeight : GoodIn wsX5_readOrder (wsV RX5 46 RX5 yX5_readWeight wsX5_readWeight) := goodIn_app (goodIn_of _ (by decide +kernel)) ggX5_readOrder_X5_readWeight
set_option maxRecDepth 20000 in
theorem ggX5_readOrder_X5_readValue : GoodIn wsX5_readOrder wsX5_readValue := goodIn_r _ [23, 16, 24, 25, 26, 27, 14, 28, 1, 2, 4, 5, 6, 7, 8, 9, 10, 29, 30, 31, 32, 33, 34, 35, 40, 41, 42, 43, 44, 45, 46, 47, 48, 49] (by decide +kernel) (by decide +kernel)
set_option maxRecDepth 20000 in
theorem gX5_readOrder_X5_readValue : GoodIn wsX5_readOrder (wsV RX5 49 RX5 yX5_readValue wsX5_readValue) := goodIn_app (goodIn_of _ (by decide +kernel)) ggX5_readOrder_X5_readValue
theorem dX5_readOrder_0 : decode cX5_readOrder 0 = .ok (.aload_n 0, 1) := by decide +kernel
theorem dX5_readOrder_1 : decode cX5_readOrder 1 = .ok (.aload_n 0, 1) := by decide +kernel
theorem dX5_readOrder_2 : decode cX5_readOrder 2 = .ok (.getfield 12, 3) := by decide +kernel
theorem dX5_readOrder_5 : decode cX5_readOrder 5 = .ok (.aload_n 0, 1) := by decide +kernel
theorem dX5_readOrder_6 : decode cX5_readOrder 6 = .ok (.getfield 18, 3) := by decide +kernel
theorem dX5_readOrder_9 : decode cX5_readOrder 9 = .ok (.invokevirtual 36, 3) := by decide +kernel
theorem dX5_readOrder_12 : decode cX5_readOrder 12 = .ok (.putfield 40, 3) := by decide +kernel
theorem dX5_readOrder_15 : decode cX5_readOrder 15 = .ok (.aload_n 0, 1) := by decide +kernel
theorem dX5_readOrder_16 : decode cX5_readOrder 16 = .ok (.getfield 40, 3) := by decide +kernel
theorem dX5_readOrder_19 : decode cX5_readOrder 19 = .ok (.lookupswitch 98 #[(98, 71), (104, 41), (119, 56), (122, 86)], 41) := by decide +kernel
theorem dX5_readOrder_60 : decode cX5_readOrder 60 = .ok (.aload_n 0, 1) := by decide +kernel
theorem dX5_readOrder_61 : decode cX5_readOrder 61 = .ok (.dup, 1) := by decide +kernel
theorem dX5_readOrder_62 : decode cX5_readOrder 62 = .ok (.getfield 18, 3) := by decide +kernel
theorem dX5_readOrder_65 : decode cX5_readOrder 65 = .ok (.iconst 1, 1) := by decide +kernel
theorem dX5_readOrder_66 : decode cX5_readOrder 66 = .ok (.iadd, 1) := by decide +kernel
theorem dX5_readOrder_67 : decode cX5_readOrder 67 = .ok (.putfield 18, 3) := by decide +kernel
theorem dX5_readOrder_70 : decode cX5_readOrder 70 = .ok (.aload_n 0, 1) := by decide +kernel
theorem dX5_readOrder_71 : decode cX5_readOrder 71 = .ok (.invokevirtual 43, 3) := by decide +kernel
theorem dX5_readOrder_74 : decode cX5_readOrder 74 = .ok (.ireturn, 1) := by decide +kernel
theorem dX5_readOrder_75 : decode cX5_readOrder 75 = .ok (.aload_n 0, 1) := by decide +kernel
theorem dX5_readOrder_76 : decode cX5_readOrder 76 = .ok (.dup, 1) := by decide +kernel
theorem dX5_readOrder_77 : decode cX5_readOrder 77 = .ok (.getfield 18, 3) := by decide +kernel
theorem dX5_readOrder_80 : decode cX5_readOrder 80 = .ok (.iconst 1, 1) := by decide +kernel
theorem dX5_readOrder_81 : decode cX5_readOrder 81 = .ok (.iadd, 1) := by decide +kernel
theorem dX5_readOrder_82 : decode cX5_readOrder 82 = .ok (.putfield 18, 3) := by decide +kernel
theorem dX5_readOrder_85 : decode cX5_readOrder 85 = .ok (.aload_n 0, 1) := by decide +kernel
theorem dX5_readOrder_86 : decode cX5_readOrder 86 = .ok (.invokevirtual 46, 3) := by decide +kernel
theorem dX5_readOrder_89 : decode cX5_readOrder 89 = .ok (.ireturn, 1) := by decide +kernel
theorem dX5_readOrder_90 : decode cX5_readOrder 90 = .ok (.aload_n 0, 1) := by decide +kernel
theorem dX5_readOrder_91 : decode cX5_readOrder 91 = .ok (.dup, 1) := by decide +kernel
theorem dX5_readOrder_92 : decode cX5_readOrder 92 = .ok (.getfield 18, 3) := by decide +kernel
theorem dX5_readOrder_95 : decode cX5_readOrder 95 = .ok (.iconst 1, 1) := by decide +kernel
theorem dX5_readOrder_96 : decode cX5_readOrder 96 = .ok (.iadd, 1) := by decide +kernel
theorem dX5_readOrder_97 : decode cX5_readOrder 97 = .ok (.putfield 18, 3) := by decide +kernel
theorem dX5_readOrder_100 : decode cX5_readOrder 100 = .ok (.aload_n 0, 1) := by decide +kernel
theorem dX5_readOrder_101 : decode cX5_readOrder 101 = .ok (.invokevirtual 49, 3) := by decide +kernel
theorem dX5_readOrder_104 : decode cX5_readOrder 104 = .ok (.ireturn, 1) := by decide +kernel
theorem dX5_readOrder_105 : decode cX5_readOrder 105 = .ok (.aload_n 0, 1) := by decide +kernel
theorem dX5_readOrder_106 : decode cX5_readOrder 106 = .ok (.dup, 1) := by decide +kernel
theorem dX5_readOrder_107 : decode cX5_readOrder 107 = .ok (.getfield 18, 3) := by decide +kernel
theorem dX5_readOrder_110 : decode cX5_readOrder 110 = .ok (.iconst 1, 1) := by decide +kernel
theorem dX5_readOrder_111 : decode cX5_readOrder 111 = .ok (.iadd, 1) := by decide +kernel
theorem dX5_readOrder_112 : decode cX5_readOrder 112 = .ok (.putfield 18, 3) := by decide +kernel
theorem dX5_readOrder_115 : decode cX5_readOrder 115 = .ok (.iconst 1, 1) := by decide +kernel
theorem dX5_readOrder_116 : decode cX5_readOrder 116 = .ok (.ireturn, 1) := by decide +kernel
theorem dX5_readOrder_117 : decode cX5_readOrder 117 = .ok (.iconst 0, 1) := by decide +kernel
theorem dX5_readOrder_118 : decode cX5_readOrder 118 = .ok (.ireturn, 1) := by decide +kernel
set_option maxRecDepth 20000 in
theorem ggX5_readSign_X4_signAt : GoodIn wsX5_readSign wsX4_signAt := goodIn_r _ [7, 8, 9, 18, 19] (by decide +kernel) (by decide +kernel)
set_option maxRecDepth 20000 in
theorem gX5_readSign_X4_signAt : GoodIn wsX5_readSign (wsV RX5 36 RX4 yX4_signAt wsX4_signAt) := goodIn_app (goodIn_of _ (by decide +kernel)) ggX5_readSign_X4_signAt
theorem dX5_readSign_0 : decode cX5_readSign 0 = .ok (.aload_n 0, 1) := by decide +kernel
theorem dX5_readSign_1 : decode cX5_readSign 1 = .ok (.getfield 12, 3) := by decide +kernel
theorem dX5_readSign_4 : decode cX5_readSign 4 = .ok (.aload_n 0, 1) := by decide +kernel
theorem dX5_readSign_5 : decode cX5_readSign 5 = .ok (.getfield 18, 3) := by decide +kernel
theorem dX5_readSign_8 : decode cX5_readSign 8 = .ok (.invokevirtual 36, 3) := by decide +kernel
theorem dX5_readSign_11 : decode cX5_readSign 11 = .ok (.iload_n 1, 1) := by decide +kernel
theorem dX5_readSign_12 : decode cX5_readSign 12 = .ok (.if_icmp .eq 5, 3) := by decide +kernel
theorem dX5_readSign_15 : decode cX5_readSign 15 = .ok (.iconst 0, 1) := by decide +kernel
theorem dX5_readSign_16 : decode cX5_readSign 16 = .ok (.ireturn, 1) := by decide +kernel
theorem dX5_readSign_17 : decode cX5_readSign 17 = .ok (.aload_n 0, 1) := by decide +kernel
theorem dX5_readSign_18 : decode cX5_readSign 18 = .ok (.dup, 1) := by decide +kernel
theorem dX5_readSign_19 : decode cX5_readSign 19 = .ok (.getfield 18, 3) := by decide +kernel
theorem dX5_readSign_22 : decode cX5_readSign 22 = .ok (.iconst 1, 1) := by decide +kernel
theorem dX5_readSign_23 : decode cX5_readSign 23 = .ok (.iadd, 1) := by decide +kernel
theorem dX5_readSign_24 : decode cX5_readSign 24 = .ok (.putfield 18, 3) := by decide +kernel
theorem dX5_readSign_27 : decode cX5_readSign 27 = .ok (.iconst 1, 1) := by decide +kernel
theorem dX5_readSign_28 : decode cX5_readSign 28 = .ok (.ireturn, 1) := by decide +kernel
set_option maxRecDepth 20000 in
theorem ggX5_readHours_X5_readValue : GoodIn wsX5_readHours wsX5_readValue := goodIn_r _ [9, 1, 10, 11, 12, 13, 8, 14, 15, 16, 17, 18, 19, 20, 21, 22, 23, 24, 25, 26, 27, 28, 29, 30, 31, 32, 33, 34, 35, 36, 37, 38, 39, 40] (by decide +kernel) (by decide +kernel)
set_option maxRecDepth 20000 in
theorem gX5_readHours_X5_readValue : GoodIn wsX5_readHours (wsV RX5 49 RX5 yX5_readValue wsX5_readValue) := goodIn_app (goodIn_of _ (by decide +kernel)) ggX5_readHours_X5_readValue
set_option maxRecDepth 20000 in
theorem ggX5_readHours_X5_readSign : GoodIn wsX5_readHours wsX5_readSign := goodIn_r _ [14, 15, 16, 17, 18, 19, 20, 21, 22, 23, 31, 32, 33, 34, 35, 36, 37, 38, 39, 40] (by decide +kernel) (by decide +kernel)
set_option maxRecDepth 20000 in
theorem gX5_readHours_X5_readSign : GoodIn wsX5_readHours (wsV RX5 32 RX5 yX5_readSign wsX5_readSign) := goodIn_app (goodIn_of _ (by decide +kernel)) ggX5_readHours_X5_readSign
set_option maxRecDepth 20000 in
theorem ggX5_readHours_X5_readNumber : GoodIn wsX5_readHours wsX5_readNumber := goodIn_r _ [27, 1, 15, 16, 17, 18, 19, 20, 21, 22, 23, 28, 29, 8, 30, 31, 32, 33, 34, 35, 36, 37, 38, 39, 40] (by decide +kernel) (by decide +kernel)
set_option maxRecDepth 20000 in
theorem gX5_readHours_X5_readNumber : GoodIn wsX5_readHours (wsV RX5 52 RX5 yX5_readNumber wsX5_readNumber) := goodIn_app (goodIn_of _ (by decide +kernel)) ggX5_readHours_X5_readNumber
theorem dX5_readHours_0 : decode cX5_readHours 0 = .ok (.aload_n 0, 1) := by decide +kernel
theorem dX5_readHours_1 : decode cX5_readHours 1 = .ok (.invokevirtual 49, 3) := by decide +kernel
theorem dX5_readHours_4 : decode cX5_readHours 4 = .ok (.ifCond .eq 19, 3) := by decide +kernel
theorem dX5_readHours_7 : decode cX5_readHours 7 = .ok (.aload_n 0, 1) := by decide +kernel
theorem dX5_readHours_8 : decode cX5_readHours 8 = .ok (.bipush 44, 2) := by decide +kernel
theorem dX5_readHours_10 : decode cX5_readHours 10 = .ok (.invokevirtual 32, 3) := by decide +kernel
theorem dX5_readHours_13 : decode cX5_readHours 13 = .ok (.ifCond .eq 10, 3) := by decide +kernel
theorem dX5_readHours_16 : decode cX5_readHours 16 = .ok (.aload_n 0, 1) := by decide +kernel
theorem dX5_readHours_17 : decode cX5_readHours 17 = .ok (.invokevirtual 52, 3) := by decide +kernel
theorem dX5_readHours_20 : decode cX5_readHours 20 = .ok (.ifCond .ne 5, 3) := by decide +kernel
theorem dX5_readHours_23 : decode cX5_readHours 23 = .ok (.iconst 0, 1) := by decide +kernel
theorem dX5_readHours_24 : decode cX5_readHours 24 = .ok (.ireturn, 1) := by decide +kernel
theorem dX5_readHours_25 : decode cX5_readHours 25 = .ok (.aload_n 0, 1) := by decide +kernel
theorem dX5_readHours_26 : decode cX5_readHours 26 = .ok (.aload_n 0, 1) := by decide +kernel
theorem dX5_readHours_27 : decode cX5_readHours 27 = .ok (.getfield 55, 3) := by decide +kernel
theorem dX5_readHours_30 : decode cX5_readHours 30 = .ok (.putfield 58, 3) := by decide +kernel
theorem dX5_readHours_33 : decode cX5_readHours 33 = .ok (.aload_n 0, 1) := by decide +kernel
theorem dX5_readHours_34 : decode cX5_readHours 34 = .ok (.aload_n 0, 1) := by decide +kernel
theorem dX5_readHours_35 : decode cX5_readHours 35 = .ok (.bipush 114, 2) := by decide +kernel
theorem dX5_readHours_37 : decode cX5_readHours 37 = .ok (.invokevirtual 32, 3) := by decide +kernel
theorem dX5_readHours_40 : decode cX5_readHours 40 = .ok (.ifCond .eq 7, 3) := by decide +kernel
theorem dX5_readHours_43 : decode cX5_readHours 43 = .ok (.iconst 1, 1) := by decide +kernel
theorem dX5_readHours_44 : decode cX5_readHours 44 = .ok (.goto 4, 3) := by decide +kernel
theorem dX5_readHours_47 : decode cX5_readHours 47 = .ok (.iconst 0, 1) := by decide +kernel
theorem dX5_readHours_48 : decode cX5_readHours 48 = .ok (.putfield 61, 3) := by decide +kernel
theorem dX5_readHours_51 : decode cX5_readHours 51 = .ok (.aload_n 0, 1) := by decide +kernel
theorem dX5_readHours_52 : decode cX5_readHours 52 = .ok (.iconst 1, 1) := by decide +kernel
theorem dX5_readHours_53 : decode cX5_readHours 53 = .ok (.putfield 64, 3) := by decide +kernel
theorem dX5_readHours_56 : decode cX5_readHours 56 = .ok (.aload_n 0, 1) := by decide +kernel
theorem dX5_readHours_57 : decode cX5_readHours 57 = .ok (.bipush 42, 2) := by decide +kernel
theorem dX5_readHours_59 : decode cX5_readHours 59 = .ok (.invokevirtual 32, 3) := by decide +kernel
theorem dX5_readHours_62 : decode cX5_readHours 62 = .ok (.ifCond .ne 5, 3) := by decide +kernel
theorem dX5_readHours_65 : decode cX5_readHours 65 = .ok (.iconst 1, 1) := by decide +kernel
theorem dX5_readHours_66 : decode cX5_readHours 66 = .ok (.ireturn, 1) := by decide +kernel
theorem dX5_readHours_67 : decode cX5_readHours 67 = .ok (.aload_n 0, 1) := by decide +kernel
theorem dX5_readHours_68 : decode cX5_readHours 68 = .ok (.invokevirtual 52, 3) := by decide +kernel
theorem dX5_readHours_71 : decode cX5_readHours 71 = .ok (.ifCond .ne 5, 3) := by decide +kernel
theorem dX5_readHours_74 : decode cX5_readHours 74 = .ok (.iconst 0, 1) := by decide +kernel
theorem dX5_readHours_75 : decode cX5_readHours 75 = .ok (.ireturn, 1) := by decide +kernel
theorem dX5_readHours_76 : decode cX5_readHours 76 = .ok (.aload_n 0, 1) := by decide +kernel
theorem dX5_readHours_77 : decode cX5_readHours 77 = .ok (.aload_n 0, 1) := by decide +kernel
theorem dX5_readHours_78 : decode cX5_readHours 78 = .ok (.getfield 55, 3) := by decide +kernel
theorem dX5_readHours_81 : decode cX5_readHours 81 = .ok (.putfield 64, 3) := by decide +kernel
theorem dX5_readHours_84 : decode cX5_readHours 84 = .ok (.iconst 1, 1) := by decide +kernel
theorem dX5_readHours_85 : decode cX5_readHours 85 = .ok (.ireturn, 1) := by decide +kernel
set_option maxRecDepth 20000 in
theorem ggX5_readWeight_X4_signAt : GoodIn wsX5_readWeight wsX4_signAt := goodIn_r _ [8, 9, 10, 19, 20] (by decide +kernel) (by decide +kernel)
set_option maxRecDepth 20000 in
theorem gX5_readWeight_X4_signAt : GoodIn wsX5_readWeight (wsV RX5 36 RX4 yX4_signAt wsX4_signAt) := goodIn_app (goodIn_of _ (by decide +kernel)) ggX5_readWeight_X4_signAt
theorem dX5_readWeight_0 : decode cX5_readWeight 0 = .ok (.aload_n 0, 1) := by decide +kernel
theorem dX5_readWeight_1 : decode cX5_readWeight 1 = .ok (.getfield 12, 3) := by decide +kernel
theorem dX5_readWeight_4 : decode cX5_readWeight 4 = .ok (.aload_n 0, 1) := by decide +kernel
theorem dX5_readWeight_5 : decode cX5_readWeight 5 = .ok (.getfield 18, 3) := by decide +kernel
theorem dX5_readWeight_8 : decode cX5_readWeight 8 = .ok (.invokevirtual 36, 3) := by decide +kernel
theorem dX5_readWeight_11 : decode cX5_readWeight 11 = .ok (.bipush 48, 2) := by decide +kernel
theorem dX5_readWeight_13 : decode cX5_readWeight 13 = .ok (.isub, 1) := by decide +kernel
theorem dX5_readWeight_14 : decode cX5_readWeight 14 = .ok (.istore_n 1, 1) := by decide +kernel
theorem dX5_readWeight_15 : decode cX5_readWeight 15 = .ok (.iload_n 1, 1) := by decide +kernel
theorem dX5_readWeight_16 : decode cX5_readWeight 16 = .ok (.ifCond .lt 9, 3) := by decide +kernel
theorem dX5_readWeight_19 : decode cX5_readWeight 19 = .ok (.iload_n 1, 1) := by decide +kernel
theorem dX5_readWeight_20 : decode cX5_readWeight 20 = .ok (.bipush 8, 2) := by decide +kernel
theorem dX5_readWeight_22 : decode cX5_readWeight 22 = .ok (.if_icmp .lt 5, 3) := by decide +kernel
theorem dX5_readWeight_25 : decode cX5_readWeight 25 = .ok (.iconst 0, 1) := by decide +kernel
theorem dX5_readWeight_26 : decode cX5_readWeight 26 = .ok (.ireturn, 1) := by decide +kernel
theorem dX5_readWeight_27 : decode cX5_readWeight 27 = .ok (.aload_n 0, 1) := by decide +kernel
theorem dX5_readWeight_28 : decode cX5_readWeight 28 = .ok (.iload_n 1, 1) := by decide +kernel
theorem dX5_readWeight_29 : decode cX5_readWeight 29 = .ok (.putfield 67, 3) := by decide +kernel
theorem dX5_readWeight_32 : decode cX5_readWeight 32 = .ok (.aload_n 0, 1) := by decide +kernel
theorem dX5_readWeight_33 : decode cX5_readWeight 33 = .ok (.dup, 1) := by decide +kernel
theorem dX5_readWeight_34 : decode cX5_readWeight 34 = .ok (.getfield 18, 3) := by decide +kernel
theorem dX5_readWeight_37 : decode cX5_readWeight 37 = .ok (.iconst 1, 1) := by decide +kernel
theorem dX5_readWeight_38 : decode cX5_readWeight 38 = .ok (.iadd, 1) := by decide +kernel
theorem dX5_readWeight_39 : decode cX5_readWeight 39 = .ok (.putfield 18, 3) := by decide +kernel
theorem dX5_readWeight_42 : decode cX5_readWeight 42 = .ok (.iconst 1, 1) := by decide +kernel
theorem dX5_readWeight_43 : decode cX5_readWeight 43 = .ok (.ireturn, 1) := by decide +kernel
set_option maxRecDepth 20000 in
theorem ggX5_readValue_X5_readSign : GoodIn wsX5_readValue wsX5_readSign := goodIn_r _ [7, 8, 9, 10, 11, 12, 13, 14, 15, 16, 24, 25, 26, 27, 28, 29, 30, 31, 32, 33] (by decide +kernel) (by decide +kernel)
set_option maxRecDepth 20000 in
theorem gX5_readValue_X5_readSign : GoodIn wsX5_readValue (wsV RX5 32 RX5 yX5_readSign wsX5_readSign) := goodIn_app (goodIn_of _ (by decide +kernel)) ggX5_readValue_X5_readSign
set_option maxRecDepth 20000 in
theorem ggX5_readValue_X5_readNumber : GoodIn wsX5_readValue wsX5_readNumber := goodIn_r _ [20, 1, 8, 9, 10, 11, 12, 13, 14, 15, 16, 21, 22, 6, 23, 24, 25, 26, 27, 28, 29, 30, 31, 32, 33] (by decide +kernel) (by decide +kernel)
set_option maxRecDepth 20000 in
theorem gX5_readValue_X5_readNumber : GoodIn wsX5_readValue (wsV RX5 52 RX5 yX5_readNumber wsX5_readNumber) := goodIn_app (goodIn_of _ (by decide +kernel)) ggX5_readValue_X5_readNumber
theorem dX5_readValue_0 : decode cX5_readValue 0 = .ok (.aload_n 0, 1) := by decide +kernel
theorem dX5_readValue_1 : decode cX5_readValue 1 = .ok (.bipush 45, 2) := by decide +kernel
theorem dX5_readValue_3 : decode cX5_readValue 3 = .ok (.invokevirtual 32, 3) := by decide +kernel
theorem dX5_readValue_6 : decode cX5_readValue 6 = .ok (.istore_n 1, 1) := by decide +kernel
theorem dX5_readValue_7 : decode cX5_readValue 7 = .ok (.aload_n 0, 1) := by decide +kernel
theorem dX5_readValue_8 : decode cX5_readValue 8 = .ok (.invokevirtual 52, 3) := by decide +kernel
theorem dX5_readValue_11 : decode cX5_readValue 11 = .ok (.ifCond .ne 5, 3) := by decide +kernel
theorem dX5_readValue_14 : decode cX5_readValue 14 = .ok (.iconst 0, 1) := by decide +kernel
theorem dX5_readValue_15 : decode cX5_readValue 15 = .ok (.ireturn, 1) := by decide +kernel
theorem dX5_readValue_16 : decode cX5_readValue 16 = .ok (.aload_n 0, 1) := by decide +kernel
theorem dX5_readValue_17 : decode cX5_readValue 17 = .ok (.iload_n 1, 1) := by decide +kernel
theorem dX5_readValue_18 : decode cX5_readValue 18 = .ok (.ifCond .eq 11, 3) := by decide +kernel
theorem dX5_readValue_21 : decode cX5_readValue 21 = .ok (.aload_n 0, 1) := by decide +kernel
theorem dX5_readValue_22 : decode cX5_readValue 22 = .ok (.getfield 55, 3) := by decide +kernel
theorem dX5_readValue_25 : decode cX5_readValue 25 = .ok (.ineg, 1) := by decide +kernel
theorem dX5_readValue_26 : decode cX5_readValue 26 = .ok (.goto 7, 3) := by decide +kernel
theorem dX5_readValue_29 : decode cX5_readValue 29 = .ok (.aload_n 0, 1) := by decide +kernel
theorem dX5_readValue_30 : decode cX5_readValue 30 = .ok (.getfield 55, 3) := by decide +kernel
theorem dX5_readValue_33 : decode cX5_readValue 33 = .ok (.putfield 67, 3) := by decide +kernel
theorem dX5_readValue_36 : decode cX5_readValue 36 = .ok (.iconst 1, 1) := by decide +kernel
theorem dX5_readValue_37 : decode cX5_readValue 37 = .ok (.ireturn, 1) := by decide +kernel
set_option maxRecDepth 20000 in
theorem ggX5_readNumber_X4_signAt : GoodIn wsX5_readNumber wsX4_signAt := goodIn_r _ [8, 9, 10, 23, 24] (by decide +kernel) (by decide +kernel)
set_option maxRecDepth 20000 in
theorem gX5_readNumber_X4_signAt : GoodIn wsX5_readNumber (wsV RX5 36 RX4 yX4_signAt wsX4_signAt) := goodIn_app (goodIn_of _ (by decide +kernel)) ggX5_readNumber_X4_signAt
set_option maxRecDepth 20000 in
theorem ggX5_readNumber_X5_isDigit : GoodIn wsX5_readNumber wsX5_isDigit := goodIn_r _ [14] (by decide +kernel) (by decide +kernel)
set_option maxRecDepth 20000 in
theorem gX5_readNumber_X5_isDigit : GoodIn wsX5_readNumber (va_wsS RX5 70 yX5_isDigit wsX5_isDigit) := goodIn_app (goodIn_of _ (by decide +kernel)) ggX5_readNumber_X5_isDigit
theorem dX5_readNumber_0 : decode cX5_readNumber 0 = .ok (.iconst 0, 1) := by decide +kernel
theorem dX5_readNumber_1 : decode cX5_readNumber 1 = .ok (.istore_n 1, 1) := by decide +kernel
theorem dX5_readNumber_2 : decode cX5_readNumber 2 = .ok (.aload_n 0, 1) := by decide +kernel
theorem dX5_readNumber_3 : decode cX5_readNumber 3 = .ok (.iconst 0, 1) := by decide +kernel
theorem dX5_readNumber_4 : decode cX5_readNumber 4 = .ok (.putfield 55, 3) := by decide +kernel
theorem dX5_readNumber_7 : decode cX5_readNumber 7 = .ok (.iload_n 1, 1) := by decide +kernel
theorem dX5_readNumber_8 : decode cX5_readNumber 8 = .ok (.iconst 4, 1) := by decide +kernel
theorem dX5_readNumber_9 : decode cX5_readNumber 9 = .ok (.if_icmp .ge 73, 3) := by decide +kernel
theorem dX5_readNumber_12 : decode cX5_readNumber 12 = .ok (.aload_n 0, 1) := by decide +kernel
theorem dX5_readNumber_13 : decode cX5_readNumber 13 = .ok (.getfield 12, 3) := by decide +kernel
theorem dX5_readNumber_16 : decode cX5_readNumber 16 = .ok (.aload_n 0, 1) := by decide +kernel
theorem dX5_readNumber_17 : decode cX5_readNumber 17 = .ok (.getfield 18, 3) := by decide +kernel
theorem dX5_readNumber_20 : decode cX5_readNumber 20 = .ok (.invokevirtual 36, 3) := by decide +kernel
theorem dX5_readNumber_23 : decode cX5_readNumber 23 = .ok (.invokestatic 70, 3) := by decide +kernel
theorem dX5_readNumber_26 : decode cX5_readNumber 26 = .ok (.ifCond .eq 56, 3) := by decide +kernel
theorem dX5_readNumber_29 : decode cX5_readNumber 29 = .ok (.iload_n 1, 1) := by decide +kernel
theorem dX5_readNumber_30 : decode cX5_readNumber 30 = .ok (.ifCond .eq 10, 3) := by decide +kernel
theorem dX5_readNumber_33 : decode cX5_readNumber 33 = .ok (.aload_n 0, 1) := by decide +kernel
theorem dX5_readNumber_34 : decode cX5_readNumber 34 = .ok (.getfield 55, 3) := by decide +kernel
theorem dX5_readNumber_37 : decode cX5_readNumber 37 = .ok (.ifCond .le 45, 3) := by decide +kernel
theorem dX5_readNumber_40 : decode cX5_readNumber 40 = .ok (.aload_n 0, 1) := by decide +kernel
theorem dX5_readNumber_41 : decode cX5_readNumber 41 = .ok (.aload_n 0, 1) := by decide +kernel
theorem dX5_readNumber_42 : decode cX5_readNumber 42 = .ok (.getfield 55, 3) := by decide +kernel
theorem dX5_readNumber_45 : decode cX5_readNumber 45 = .ok (.bipush 10, 2) := by decide +kernel
theorem dX5_readNumber_47 : decode cX5_readNumber 47 = .ok (.imul, 1) := by decide +kernel
theorem dX5_readNumber_48 : decode cX5_readNumber 48 = .ok (.aload_n 0, 1) := by decide +kernel
theorem dX5_readNumber_49 : decode cX5_readNumber 49 = .ok (.getfield 12, 3) := by decide +kernel
theorem dX5_readNumber_52 : decode cX5_readNumber 52 = .ok (.aload_n 0, 1) := by decide +kernel
theorem dX5_readNumber_53 : decode cX5_readNumber 53 = .ok (.getfield 18, 3) := by decide +kernel
theorem dX5_readNumber_56 : decode cX5_readNumber 56 = .ok (.invokevirtual 36, 3) := by decide +kernel
theorem dX5_readNumber_59 : decode cX5_readNumber 59 = .ok (.iadd, 1) := by decide +kernel
theorem dX5_readNumber_60 : decode cX5_readNumber 60 = .ok (.bipush 48, 2) := by decide +kernel
theorem dX5_readNumber_62 : decode cX5_readNumber 62 = .ok (.isub, 1) := by decide +kernel
theorem dX5_readNumber_63 : decode cX5_readNumber 63 = .ok (.putfield 55, 3) := by decide +kernel
theorem dX5_readNumber_66 : decode cX5_readNumber 66 = .ok (.iinc 1 1, 3) := by decide +kernel
theorem dX5_readNumber_69 : decode cX5_readNumber 69 = .ok (.aload_n 0, 1) := by decide +kernel
theorem dX5_readNumber_70 : decode cX5_readNumber 70 = .ok (.dup, 1) := by decide +kernel
theorem dX5_readNumber_71 : decode cX5_readNumber 71 = .ok (.getfield 18, 3) := by decide +kernel
theorem dX5_readNumber_74 : decode cX5_readNumber 74 = .ok (.iconst 1, 1) := by decide +kernel
theorem dX5_readNumber_75 : decode cX5_readNumber 75 = .ok (.iadd, 1) := by decide +kernel
theorem dX5_readNumber_76 : decode cX5_readNumber 76 = .ok (.putfield 18, 3) := by decide +kernel
theorem dX5_readNumber_79 : decode cX5_readNumber 79 = .ok (.goto (-72), 3) := by decide +kernel
theorem dX5_readNumber_82 : decode cX5_readNumber 82 = .ok (.iload_n 1, 1) := by decide +kernel
theorem dX5_readNumber_83 : decode cX5_readNumber 83 = .ok (.ifCond .le 7, 3) := by decide +kernel
theorem dX5_readNumber_86 : decode cX5_readNumber 86 = .ok (.iconst 1, 1) := by decide +kernel
theorem dX5_readNumber_87 : decode cX5_readNumber 87 = .ok (.goto 4, 3) := by decide +kernel
theorem dX5_readNumber_90 : decode cX5_readNumber 90 = .ok (.iconst 0, 1) := by decide +kernel
theorem dX5_readNumber_91 : decode cX5_readNumber 91 = .ok (.ireturn, 1) := by decide +kernel
theorem dX5_isDigit_0 : decode cX5_isDigit 0 = .ok (.iload_n 0, 1) := by decide +kernel
theorem dX5_isDigit_1 : decode cX5_isDigit 1 = .ok (.bipush 48, 2) := by decide +kernel
theorem dX5_isDigit_3 : decode cX5_isDigit 3 = .ok (.if_icmp .lt 13, 3) := by decide +kernel
theorem dX5_isDigit_6 : decode cX5_isDigit 6 = .ok (.iload_n 0, 1) := by decide +kernel
theorem dX5_isDigit_7 : decode cX5_isDigit 7 = .ok (.bipush 57, 2) := by decide +kernel
theorem dX5_isDigit_9 : decode cX5_isDigit 9 = .ok (.if_icmp .gt 7, 3) := by decide +kernel
theorem dX5_isDigit_12 : decode cX5_isDigit 12 = .ok (.iconst 1, 1) := by decide +kernel
theorem dX5_isDigit_13 : decode cX5_isDigit 13 = .ok (.goto 4, 3) := by decide +kernel
theorem dX5_isDigit_16 : decode cX5_isDigit 16 = .ok (.iconst 0, 1) := by decide +kernel
theorem dX5_isDigit_17 : decode cX5_isDigit 17 = .ok (.ireturn, 1) := by decide +kernel
set_option maxRecDepth 20000 in
theorem ggX6_init_X0_init : GoodIn wsX6_init wsX0_init := goodIn_r _ [9, 10, 2, 3, 11, 12, 13, 14, 15, 16, 17, 18, 19, 20, 21, 22, 23, 24, 25, 26, 27, 28, 29, 30, 31, 32, 33, 34, 37, 38, 39, 40] (by decide +kernel) (by decide +kernel)
set_option maxRecDepth 20000 in
theorem gX6_init_X0_init_n9 : GoodIn wsX6_init (wsX0_init) := ggX6_init_X0_init
theorem dX6_init_0 : decode cX6_init 0 = .ok (.aload_n 0, 1) := by decide +kernel
theorem dX6_init_1 : decode cX6_init 1 = .ok (.invokespecial 1, 3) := by decide +kernel
theorem dX6_init_4 : decode cX6_init 4 = .ok (.aload_n 0, 1) := by decide +kernel
theorem dX6_init_5 : decode cX6_init 5 = .ok (.new 7, 3) := by decide +kernel
theorem dX6_init_8 : decode cX6_init 8 = .ok (.dup, 1) := by decide +kernel
theorem dX6_init_9 : decode cX6_init 9 = .ok (.invokespecial 9, 3) := by decide +kernel
theorem dX6_init_12 : decode cX6_init 12 = .ok (.putfield 10, 3) := by decide +kernel
theorem dX6_init_15 : decode cX6_init 15 = .ok (.return_, 1) := by decide +kernel
set_option maxRecDepth 20000 in
theorem ggX7_init_X0_init : GoodIn wsX7_init wsX0_init := goodIn_r _ [26, 27, 2, 3, 28, 29, 30, 22, 23, 31, 32, 33, 34, 35, 36, 37, 38, 39, 40, 41, 42, 66, 67, 68, 69, 70, 71, 72, 91, 92, 93, 94] (by decide +kernel) (by decide +kernel)
set_option maxRecDepth 20000 in
theorem gX7_init_X0_init_n9 : GoodIn wsX7_init (wsX0_init) := ggX7_init_X0_init
set_option maxRecDepth 20000 in
theorem ggX7_init_X2_init : GoodIn wsX7_init wsX2_init := goodIn_r _ [45, 46, 2, 3, 47, 48, 5, 6, 25, 26, 27, 28, 29, 30, 22, 23, 31, 32, 33, 34, 35, 36, 37, 38, 39, 40, 41, 42, 79, 80, 66, 67, 68, 69, 70, 71, 72, 91, 92, 93, 94] (by decide +kernel) (by decide +kernel)
set_option maxRecDepth 20000 in
theorem gX7_init_X2_init : GoodIn wsX7_init (wsX2_init) := ggX7_init_X2_init
set_option maxRecDepth 20000 in
theorem ggX7_init_X6_init : GoodIn wsX7_init wsX6_init := goodIn_r _ [50, 51, 2, 3, 52, 5, 6, 53, 25, 26, 27, 28, 29, 30, 22, 23, 31, 32, 33, 34, 35, 36, 37, 38, 39, 40, 41, 42, 66, 67, 68, 69, 70, 71, 72, 81, 82, 91, 92, 93, 94] (by decide +kernel) (by decide +kernel)
set_option maxRecDepth 20000 in
theorem gX7_init_X6_init_n25 : GoodIn wsX7_init (wsX6_init) := ggX7_init_X6_init
set_option maxRecDepth 20000 in
theorem ggX7_init_X5_init : GoodIn wsX7_init wsX5_init := goodIn_r _ [55, 56, 2, 3, 57, 58, 59, 60, 61, 62, 63, 64, 65, 95, 96, 83, 84, 85, 86, 87, 88, 89, 90] (by decide +kernel) (by decide +kernel)
set_option maxRecDepth 20000 in
theorem gX7_init_X5_init_n35 : GoodIn wsX7_init (wsX5_init) := ggX7_init_X5_init
set_option maxRecDepth 20000 in
theorem ggX7_init_X1_init : GoodIn wsX7_init wsX1_init := goodIn_r _ [37, 38, 2, 3] (by decide +kernel) (by decide +kernel)
set_option maxRecDepth 20000 in
theorem gX7_init_X1_init_n42 : GoodIn wsX7_init (wsX1_init) := ggX7_init_X1_init
theorem dX7_init_0 : decode cX7_init 0 = .ok (.aload_n 0, 1) := by decide +kernel
theorem dX7_init_1 : decode cX7_init 1 = .ok (.invokespecial 1, 3) := by decide +kernel
theorem dX7_init_4 : decode cX7_init 4 = .ok (.aload_n 0, 1) := by decide +kernel
theorem dX7_init_5 : decode cX7_init 5 = .ok (.new 7, 3) := by decide +kernel
theorem dX7_init_8 : decode cX7_init 8 = .ok (.dup, 1) := by decide +kernel
theorem dX7_init_9 : decode cX7_init 9 = .ok (.invokespecial 9, 3) := by decide +kernel
theorem dX7_init_12 : decode cX7_init 12 = .ok (.putfield 10, 3) := by decide +kernel
theorem dX7_init_15 : decode cX7_init 15 = .ok (.aload_n 0, 1) := by decide +kernel
theorem dX7_init_16 : decode cX7_init 16 = .ok (.new 16, 3) := by decide +kernel
theorem dX7_init_19 : decode cX7_init 19 = .ok (.dup, 1) := by decide +kernel
theorem dX7_init_20 : decode cX7_init 20 = .ok (.invokespecial 18, 3) := by decide +kernel
theorem dX7_init_23 : decode cX7_init 23 = .ok (.putfield 19, 3) := by decide +kernel
theorem dX7_init_26 : decode cX7_init 26 = .ok (.aload_n 0, 1) := by decide +kernel
theorem dX7_init_27 : decode cX7_init 27 = .ok (.new 23, 3) := by decide +kernel
theorem dX7_init_30 : decode cX7_init 30 = .ok (.dup, 1) := by decide +kernel
theorem dX7_init_31 : decode cX7_init 31 = .ok (.invokespecial 25, 3) := by decide +kernel
theorem dX7_init_34 : decode cX7_init 34 = .ok (.putfield 26, 3) := by decide +kernel
theorem dX7_init_37 : decode cX7_init 37 = .ok (.aload_n 0, 1) := by decide +kernel
theorem dX7_init_38 : decode cX7_init 38 = .ok (.new 23, 3) := by decide +kernel
theorem dX7_init_41 : decode cX7_init 41 = .ok (.dup, 1) := by decide +kernel
theorem dX7_init_42 : decode cX7_init 42 = .ok (.invokespecial 25, 3) := by decide +kernel
theorem dX7_init_45 : decode cX7_init 45 = .ok (.putfield 30, 3) := by decide +kernel
theorem dX7_init_48 : decode cX7_init 48 = .ok (.aload_n 0, 1) := by decide +kernel
theorem dX7_init_49 : decode cX7_init 49 = .ok (.new 33, 3) := by decide +kernel
theorem dX7_init_52 : decode cX7_init 52 = .ok (.dup, 1) := by decide +kernel
theorem dX7_init_53 : decode cX7_init 53 = .ok (.invokespecial 35, 3) := by decide +kernel
theorem dX7_init_56 : decode cX7_init 56 = .ok (.putfield 36, 3) := by decide +kernel
theorem dX7_init_59 : decode cX7_init 59 = .ok (.aload_n 0, 1) := by decide +kernel
theorem dX7_init_60 : decode cX7_init 60 = .ok (.new 40, 3) := by decide +kernel
theorem dX7_init_63 : decode cX7_init 63 = .ok (.dup, 1) := by decide +kernel
theorem dX7_init_64 : decode cX7_init 64 = .ok (.invokespecial 42, 3) := by decide +kernel
theorem dX7_init_67 : decode cX7_init 67 = .ok (.putfield 43, 3) := by decide +kernel
theorem dX7_init_70 : decode cX7_init 70 = .ok (.return_, 1) := by decide +kernel
set_option maxRecDepth 20000 in
theorem ggX7_set_X0_errorOfSetting : GoodIn wsX7_set wsX0_errorOfSetting := goodIn_r _ [7] (by decide +kernel) (by decide +kernel)
set_option maxRecDepth 20000 in
theorem gX7_set_X0_errorOfSetting : GoodIn wsX7_set (wsV RX7 47 RX0 yX0_errorOfSetting wsX0_errorOfSetting) := goodIn_app (goodIn_of _ (by decide +kernel)) ggX7_set_X0_errorOfSetting
set_option maxRecDepth 20000 in
theorem ggX7_set_X2_record : GoodIn wsX7_set wsX2_record := goodIn_r _ [12, 13, 14, 15, 16, 17, 18, 19, 20, 21, 6, 22, 23, 24, 25, 26, 27, 28, 29, 30, 31, 32, 33, 34, 35, 36, 37, 38, 39, 40, 41, 42, 43, 44, 45, 46, 47, 48, 63, 64, 65, 66, 67, 68, 69, 70, 71, 72, 73, 74, 75] (by decide +kernel) (by decide +kernel)
set_option maxRecDepth 20000 in
theorem gX7_set_X2_record : GoodIn wsX7_set (wsV RX7 51 RX2 yX2_record wsX2_record) := goodIn_app (goodIn_of _ (by decide +kernel)) ggX7_set_X2_record
set_option maxRecDepth 20000 in
theorem ggX7_set_X0_changeSetting : GoodIn wsX7_set wsX0_changeSetting := goodIn_r _ [52, 23, 53, 54, 55, 6, 56, 65, 66, 67, 68, 69, 70, 71] (by decide +kernel) (by decide +kernel)
set_option maxRecDepth 20000 in
theorem gX7_set_X0_changeSetting : GoodIn wsX7_set (wsV RX7 55 RX0 yX0_changeSetting wsX0_changeSetting) := goodIn_app (goodIn_of _ (by decide +kernel)) ggX7_set_X0_changeSetting
end
section
theorem dX7_set_0 : decode cX7_set 0 = .ok (.aload_n 0, 1) := by decide +kernel
theorem dX7_set_1 : decode cX7_set 1 = .ok (.getfield 10, 3) := by decide +kernel
theorem dX7_set_4 : decode cX7_set 4 = .ok (.iload_n 1, 1) := by decide +kernel
theorem dX7_set_5 : decode cX7_set 5 = .ok (.iload_n 2, 1) := by decide +kernel
theorem dX7_set_6 : decode cX7_set 6 = .ok (.invokevirtual 47, 3) := by decide +kernel
theorem dX7_set_9 : decode cX7_set 9 = .ok (.istore_n 3, 1) := by decide +kernel
theorem dX7_set_10 : decode cX7_set 10 = .ok (.iload_n 3, 1) := by decide +kernel
theorem dX7_set_11 : decode cX7_set 11 = .ok (.ifCond .eq 5, 3) := by decide +kernel
theorem dX7_set_14 : decode cX7_set 14 = .ok (.iload_n 3, 1) := by decide +kernel
theorem dX7_set_15 : decode cX7_set 15 = .ok (.ireturn, 1) := by decide +kernel
theorem dX7_set_16 : decode cX7_set 16 = .ok (.aload_n 0, 1) := by decide +kernel
theorem dX7_set_17 : decode cX7_set 17 = .ok (.getfield 19, 3) := by decide +kernel
theorem dX7_set_20 : decode cX7_set 20 = .ok (.aload_n 0, 1) := by decide +kernel
theorem dX7_set_21 : decode cX7_set 21 = .ok (.getfield 10, 3) := by decide +kernel
theorem dX7_set_24 : decode cX7_set 24 = .ok (.invokevirtual 51, 3) := by decide +kernel
theorem dX7_set_27 : decode cX7_set 27 = .ok (.aload_n 0, 1) := by decide +kernel
theorem dX7_set_28 : decode cX7_set 28 = .ok (.getfield 10, 3) := by decide +kernel
theorem dX7_set_31 : decode cX7_set 31 = .ok (.iload_n 1, 1) := by decide +kernel
theorem dX7_set_32 : decode cX7_set 32 = .ok (.iload_n 2, 1) := by decide +kernel
theorem dX7_set_33 : decode cX7_set 33 = .ok (.invokevirtual 55, 3) := by decide +kernel
theorem dX7_set_36 : decode cX7_set 36 = .ok (.sipush 1000, 3) := by decide +kernel
theorem dX7_set_39 : decode cX7_set 39 = .ok (.iadd, 1) := by decide +kernel
theorem dX7_set_40 : decode cX7_set 40 = .ok (.ireturn, 1) := by decide +kernel
set_option maxRecDepth 20000 in
theorem ggX7_weight_X0_errorOfWeight : GoodIn wsX7_weight wsX0_errorOfWeight := goodIn_r _ [7] (by decide +kernel) (by decide +kernel)
set_option maxRecDepth 20000 in
theorem gX7_weight_X0_errorOfWeight : GoodIn wsX7_weight (wsV RX7 58 RX0 yX0_errorOfWeight wsX0_errorOfWeight) := goodIn_app (goodIn_of _ (by decide +kernel)) ggX7_weight_X0_errorOfWeight
set_option maxRecDepth 20000 in
theorem ggX7_weight_X2_record : GoodIn wsX7_weight wsX2_record := goodIn_r _ [12, 13, 14, 15, 16, 17, 18, 19, 20, 21, 6, 22, 23, 24, 25, 26, 27, 28, 29, 30, 31, 32, 33, 34, 35, 36, 37, 38, 39, 40, 41, 42, 43, 44, 45, 46, 47, 48, 59, 60, 61, 62, 63, 64, 65, 66, 67, 68, 69, 70, 71] (by decide +kernel) (by decide +kernel)
set_option maxRecDepth 20000 in
theorem gX7_weight_X2_record : GoodIn wsX7_weight (wsV RX7 51 RX2 yX2_record wsX2_record) := goodIn_app (goodIn_of _ (by decide +kernel)) ggX7_weight_X2_record
set_option maxRecDepth 20000 in
theorem ggX7_weight_X0_moveWeight : GoodIn wsX7_weight wsX0_moveWeight := goodIn_r _ [52, 30, 61, 62, 63, 64, 65, 66, 67] (by decide +kernel) (by decide +kernel)
set_option maxRecDepth 20000 in
theorem gX7_weight_X0_moveWeight : GoodIn wsX7_weight (wsV RX7 62 RX0 yX0_moveWeight wsX0_moveWeight) := goodIn_app (goodIn_of _ (by decide +kernel)) ggX7_weight_X0_moveWeight
theorem dX7_weight_0 : decode cX7_weight 0 = .ok (.aload_n 0, 1) := by decide +kernel
theorem dX7_weight_1 : decode cX7_weight 1 = .ok (.getfield 10, 3) := by decide +kernel
theorem dX7_weight_4 : decode cX7_weight 4 = .ok (.iload_n 1, 1) := by decide +kernel
theorem dX7_weight_5 : decode cX7_weight 5 = .ok (.invokevirtual 58, 3) := by decide +kernel
theorem dX7_weight_8 : decode cX7_weight 8 = .ok (.istore_n 2, 1) := by decide +kernel
theorem dX7_weight_9 : decode cX7_weight 9 = .ok (.iload_n 2, 1) := by decide +kernel
theorem dX7_weight_10 : decode cX7_weight 10 = .ok (.ifCond .eq 5, 3) := by decide +kernel
theorem dX7_weight_13 : decode cX7_weight 13 = .ok (.iload_n 2, 1) := by decide +kernel
theorem dX7_weight_14 : decode cX7_weight 14 = .ok (.ireturn, 1) := by decide +kernel
theorem dX7_weight_15 : decode cX7_weight 15 = .ok (.aload_n 0, 1) := by decide +kernel
theorem dX7_weight_16 : decode cX7_weight 16 = .ok (.getfield 19, 3) := by decide +kernel
theorem dX7_weight_19 : decode cX7_weight 19 = .ok (.aload_n 0, 1) := by decide +kernel
theorem dX7_weight_20 : decode cX7_weight 20 = .ok (.getfield 10, 3) := by decide +kernel
theorem dX7_weight_23 : decode cX7_weight 23 = .ok (.invokevirtual 51, 3) := by decide +kernel
theorem dX7_weight_26 : decode cX7_weight 26 = .ok (.aload_n 0, 1) := by decide +kernel
theorem dX7_weight_27 : decode cX7_weight 27 = .ok (.getfield 10, 3) := by decide +kernel
theorem dX7_weight_30 : decode cX7_weight 30 = .ok (.iload_n 1, 1) := by decide +kernel
theorem dX7_weight_31 : decode cX7_weight 31 = .ok (.invokevirtual 62, 3) := by decide +kernel
theorem dX7_weight_34 : decode cX7_weight 34 = .ok (.ireturn, 1) := by decide +kernel
set_option maxRecDepth 20000 in
theorem ggX7_pass_X0_errorOfHours : GoodIn wsX7_pass wsX0_errorOfHours := goodIn_r _ [7, 8, 9, 10, 11, 12, 13, 109, 110, 111, 112, 113, 114, 115] (by decide +kernel) (by decide +kernel)
set_option maxRecDepth 20000 in
theorem gX7_pass_X0_errorOfHours : GoodIn wsX7_pass (wsV RX7 65 RX0 yX0_errorOfHours wsX0_errorOfHours) := goodIn_app (goodIn_of _ (by decide +kernel)) ggX7_pass_X0_errorOfHours
set_option maxRecDepth 20000 in
theorem ggX7_pass_X2_record : GoodIn wsX7_pass wsX2_record := goodIn_r _ [18, 19, 20, 21, 22, 23, 24, 25, 26, 27, 6, 28, 29, 30, 31, 32, 33, 34, 35, 36, 8, 37, 38, 39, 40, 41, 42, 43, 44, 45, 46, 47, 48, 49, 50, 51, 52, 53, 116, 117, 109, 110, 111, 112, 113, 114, 115, 118, 119, 120, 121] (by decide +kernel) (by decide +kernel)
set_option maxRecDepth 20000 in
theorem gX7_pass_X2_record : GoodIn wsX7_pass (wsV RX7 51 RX2 yX2_record wsX2_record) := goodIn_app (goodIn_of _ (by decide +kernel)) ggX7_pass_X2_record
set_option maxRecDepth 20000 in
theorem ggX7_pass_X0_goHours : GoodIn wsX7_pass wsX0_goHours := goodIn_r _ [57, 38, 58, 59, 60, 6, 61, 34, 35, 62, 36, 8, 37, 63, 64, 65, 66, 67, 68, 69, 70, 71, 72, 73, 74, 29, 75, 76, 77, 42, 78, 45, 44, 79, 80, 81, 82, 83, 84, 85, 49, 86, 53, 87, 88, 89, 90, 51, 91, 92, 93, 94, 95, 96, 97, 98, 99, 100, 101, 102, 109, 110, 111, 112, 113, 114, 115, 118, 119, 120, 121] (by decide +kernel) (by decide +kernel)
set_option maxRecDepth 20000 in
theorem gX7_pass_X0_goHours : GoodIn wsX7_pass (wsV RX7 69 RX0 yX0_goHours wsX0_goHours) := goodIn_app (goodIn_of _ (by decide +kernel)) ggX7_pass_X0_goHours
theorem dX7_pass_0 : decode cX7_pass 0 = .ok (.aload_n 0, 1) := by decide +kernel
theorem dX7_pass_1 : decode cX7_pass 1 = .ok (.getfield 10, 3) := by decide +kernel
theorem dX7_pass_4 : decode cX7_pass 4 = .ok (.iload_n 1, 1) := by decide +kernel
theorem dX7_pass_5 : decode cX7_pass 5 = .ok (.iload_n 2, 1) := by decide +kernel
theorem dX7_pass_6 : decode cX7_pass 6 = .ok (.iload_n 3, 1) := by decide +kernel
theorem dX7_pass_7 : decode cX7_pass 7 = .ok (.iload 4, 2) := by decide +kernel
theorem dX7_pass_9 : decode cX7_pass 9 = .ok (.invokevirtual 65, 3) := by decide +kernel
theorem dX7_pass_12 : decode cX7_pass 12 = .ok (.istore 5, 2) := by decide +kernel
theorem dX7_pass_14 : decode cX7_pass 14 = .ok (.iload 5, 2) := by decide +kernel
theorem dX7_pass_16 : decode cX7_pass 16 = .ok (.ifCond .eq 6, 3) := by decide +kernel
theorem dX7_pass_19 : decode cX7_pass 19 = .ok (.iload 5, 2) := by decide +kernel
theorem dX7_pass_21 : decode cX7_pass 21 = .ok (.ireturn, 1) := by decide +kernel
theorem dX7_pass_22 : decode cX7_pass 22 = .ok (.aload_n 0, 1) := by decide +kernel
theorem dX7_pass_23 : decode cX7_pass 23 = .ok (.getfield 19, 3) := by decide +kernel
theorem dX7_pass_26 : decode cX7_pass 26 = .ok (.aload_n 0, 1) := by decide +kernel
theorem dX7_pass_27 : decode cX7_pass 27 = .ok (.getfield 10, 3) := by decide +kernel
theorem dX7_pass_30 : decode cX7_pass 30 = .ok (.invokevirtual 51, 3) := by decide +kernel
theorem dX7_pass_33 : decode cX7_pass 33 = .ok (.aload_n 0, 1) := by decide +kernel
theorem dX7_pass_34 : decode cX7_pass 34 = .ok (.getfield 10, 3) := by decide +kernel
theorem dX7_pass_37 : decode cX7_pass 37 = .ok (.iload_n 1, 1) := by decide +kernel
theorem dX7_pass_38 : decode cX7_pass 38 = .ok (.iload_n 2, 1) := by decide +kernel
theorem dX7_pass_39 : decode cX7_pass 39 = .ok (.iload_n 3, 1) := by decide +kernel
theorem dX7_pass_40 : decode cX7_pass 40 = .ok (.iload 4, 2) := by decide +kernel
theorem dX7_pass_42 : decode cX7_pass 42 = .ok (.invokevirtual 69, 3) := by decide +kernel
theorem dX7_pass_45 : decode cX7_pass 45 = .ok (.ireturn, 1) := by decide +kernel
set_option maxRecDepth 20000 in
theorem ggX7_zero_X2_record : GoodIn wsX7_zero wsX2_record := goodIn_r _ [9, 10, 11, 12, 13, 14, 15, 16, 17, 18, 19, 20, 21, 22, 23, 24, 25, 26, 27, 28, 29, 30, 31, 32, 33, 34, 35, 36, 37, 38, 39, 40, 41, 42, 43, 44, 45, 46, 66, 67, 57, 58, 59, 60, 61, 62, 63, 64, 65, 68, 69] (by decide +kernel) (by decide +kernel)
set_option maxRecDepth 20000 in
theorem gX7_zero_X2_record : GoodIn wsX7_zero (wsV RX7 51 RX2 yX2_record wsX2_record) := goodIn_app (goodIn_of _ (by decide +kernel)) ggX7_zero_X2_record
set_option maxRecDepth 20000 in
theorem ggX7_zero_X1_clear : GoodIn wsX7_zero wsX1_clear := goodIn_r _ [50, 37, 38, 64, 65] (by decide +kernel) (by decide +kernel)
set_option maxRecDepth 20000 in
theorem gX7_zero_X1_clear : GoodIn wsX7_zero (wsV RX7 79 RX1 yX1_clear wsX1_clear) := goodIn_app (goodIn_of _ (by decide +kernel)) ggX7_zero_X1_clear
theorem dX7_zero_0 : decode cX7_zero 0 = .ok (.aload_n 0, 1) := by decide +kernel
theorem dX7_zero_1 : decode cX7_zero 1 = .ok (.getfield 19, 3) := by decide +kernel
theorem dX7_zero_4 : decode cX7_zero 4 = .ok (.aload_n 0, 1) := by decide +kernel
theorem dX7_zero_5 : decode cX7_zero 5 = .ok (.getfield 10, 3) := by decide +kernel
theorem dX7_zero_8 : decode cX7_zero 8 = .ok (.invokevirtual 51, 3) := by decide +kernel
theorem dX7_zero_11 : decode cX7_zero 11 = .ok (.aload_n 0, 1) := by decide +kernel
theorem dX7_zero_12 : decode cX7_zero 12 = .ok (.getfield 10, 3) := by decide +kernel
theorem dX7_zero_15 : decode cX7_zero 15 = .ok (.getfield 72, 3) := by decide +kernel
theorem dX7_zero_18 : decode cX7_zero 18 = .ok (.getfield 75, 3) := by decide +kernel
theorem dX7_zero_21 : decode cX7_zero 21 = .ok (.istore_n 1, 1) := by decide +kernel
theorem dX7_zero_22 : decode cX7_zero 22 = .ok (.aload_n 0, 1) := by decide +kernel
theorem dX7_zero_23 : decode cX7_zero 23 = .ok (.getfield 10, 3) := by decide +kernel
theorem dX7_zero_26 : decode cX7_zero 26 = .ok (.getfield 72, 3) := by decide +kernel
theorem dX7_zero_29 : decode cX7_zero 29 = .ok (.invokevirtual 79, 3) := by decide +kernel
theorem dX7_zero_32 : decode cX7_zero 32 = .ok (.iload_n 1, 1) := by decide +kernel
theorem dX7_zero_33 : decode cX7_zero 33 = .ok (.ldc 82, 2) := by decide +kernel
theorem dX7_zero_35 : decode cX7_zero 35 = .ok (.iadd, 1) := by decide +kernel
theorem dX7_zero_36 : decode cX7_zero 36 = .ok (.ireturn, 1) := by decide +kernel
set_option maxRecDepth 20000 in
theorem ggX7_hour_X3_length : GoodIn wsX7_hour wsX3_length := goodIn_r _ [7, 8, 9, 10, 11, 12, 35, 36] (by decide +kernel) (by decide +kernel)
set_option maxRecDepth 20000 in
theorem gX7_hour_X3_length : GoodIn wsX7_hour (wsV RX7 87 RX3 yX3_length wsX3_length) := goodIn_app (goodIn_of _ (by decide +kernel)) ggX7_hour_X3_length
set_option maxRecDepth 20000 in
theorem ggX7_hour_X3_fact : GoodIn wsX7_hour wsX3_fact := goodIn_r _ [16, 17, 18, 19, 20, 6, 21, 8, 35, 36] (by decide +kernel) (by decide +kernel)
set_option maxRecDepth 20000 in
theorem gX7_hour_X3_fact : GoodIn wsX7_hour (wsV RX7 97 RX3 yX3_fact wsX3_fact) := goodIn_app (goodIn_of _ (by decide +kernel)) ggX7_hour_X3_fact
theorem dX7_hour_0 : decode cX7_hour 0 = .ok (.iload_n 1, 1) := by decide +kernel
theorem dX7_hour_1 : decode cX7_hour 1 = .ok (.ifCond .lt 17, 3) := by decide +kernel
theorem dX7_hour_4 : decode cX7_hour 4 = .ok (.iload_n 1, 1) := by decide +kernel
theorem dX7_hour_5 : decode cX7_hour 5 = .ok (.aload_n 0, 1) := by decide +kernel
theorem dX7_hour_6 : decode cX7_hour 6 = .ok (.getfield 10, 3) := by decide +kernel
theorem dX7_hour_9 : decode cX7_hour 9 = .ok (.getfield 83, 3) := by decide +kernel
theorem dX7_hour_12 : decode cX7_hour 12 = .ok (.invokevirtual 87, 3) := by decide +kernel
theorem dX7_hour_15 : decode cX7_hour 15 = .ok (.if_icmp .lt 5, 3) := by decide +kernel
theorem dX7_hour_18 : decode cX7_hour 18 = .ok (.iconst (-1), 1) := by decide +kernel
theorem dX7_hour_19 : decode cX7_hour 19 = .ok (.ireturn, 1) := by decide +kernel
theorem dX7_hour_20 : decode cX7_hour 20 = .ok (.iload_n 2, 1) := by decide +kernel
theorem dX7_hour_21 : decode cX7_hour 21 = .ok (.ifCond .lt 11, 3) := by decide +kernel
theorem dX7_hour_24 : decode cX7_hour 24 = .ok (.iload_n 2, 1) := by decide +kernel
theorem dX7_hour_25 : decode cX7_hour 25 = .ok (.getstatic 93, 3) := by decide +kernel
theorem dX7_hour_28 : decode cX7_hour 28 = .ok (.arraylength, 1) := by decide +kernel
theorem dX7_hour_29 : decode cX7_hour 29 = .ok (.if_icmp .lt 6, 3) := by decide +kernel
theorem dX7_hour_32 : decode cX7_hour 32 = .ok (.bipush (-2), 2) := by decide +kernel
theorem dX7_hour_34 : decode cX7_hour 34 = .ok (.ireturn, 1) := by decide +kernel
theorem dX7_hour_35 : decode cX7_hour 35 = .ok (.aload_n 0, 1) := by decide +kernel
theorem dX7_hour_36 : decode cX7_hour 36 = .ok (.getfield 10, 3) := by decide +kernel
theorem dX7_hour_39 : decode cX7_hour 39 = .ok (.getfield 83, 3) := by decide +kernel
theorem dX7_hour_42 : decode cX7_hour 42 = .ok (.iload_n 1, 1) := by decide +kernel
theorem dX7_hour_43 : decode cX7_hour 43 = .ok (.iload_n 2, 1) := by decide +kernel
theorem dX7_hour_44 : decode cX7_hour 44 = .ok (.invokevirtual 97, 3) := by decide +kernel
theorem dX7_hour_47 : decode cX7_hour 47 = .ok (.getstatic 93, 3) := by decide +kernel
theorem dX7_hour_50 : decode cX7_hour 50 = .ok (.iload_n 2, 1) := by decide +kernel
theorem dX7_hour_51 : decode cX7_hour 51 = .ok (.iaload, 1) := by decide +kernel
theorem dX7_hour_52 : decode cX7_hour 52 = .ok (.iadd, 1) := by decide +kernel
theorem dX7_hour_53 : decode cX7_hour 53 = .ok (.ireturn, 1) := by decide +kernel
set_option maxRecDepth 20000 in
theorem ggX7_count_X3_length : GoodIn wsX7_count wsX3_length := goodIn_r _ [11, 12, 13, 14, 15, 16, 50, 51] (by decide +kernel) (by decide +kernel)
set_option maxRecDepth 20000 in
theorem gX7_count_X3_length : GoodIn wsX7_count (wsV RX7 87 RX3 yX3_length wsX3_length) := goodIn_app (goodIn_of _ (by decide +kernel)) ggX7_count_X3_length
set_option maxRecDepth 20000 in
theorem ggX7_count_X0_setting : GoodIn wsX7_count wsX0_setting := goodIn_r _ [21, 22, 29, 30, 31, 32, 33, 34, 35] (by decide +kernel) (by decide +kernel)
set_option maxRecDepth 20000 in
theorem gX7_count_X0_setting : GoodIn wsX7_count (wsV RX7 115 RX0 yX0_setting wsX0_setting) := goodIn_app (goodIn_of _ (by decide +kernel)) ggX7_count_X0_setting
theorem dX7_count_0 : decode cX7_count 0 = .ok (.iload_n 1, 1) := by decide +kernel
theorem dX7_count_1 : decode cX7_count 1 = .ok (.tableswitch 210 0 12 #[67, 75, 89, 104, 112, 120, 131, 139, 152, 165, 178, 191, 202], 67) := by decide +kernel
theorem dX7_count_68 : decode cX7_count 68 = .ok (.aload_n 0, 1) := by decide +kernel
theorem dX7_count_69 : decode cX7_count 69 = .ok (.getfield 10, 3) := by decide +kernel
theorem dX7_count_72 : decode cX7_count 72 = .ok (.getfield 100, 3) := by decide +kernel
theorem dX7_count_75 : decode cX7_count 75 = .ok (.ireturn, 1) := by decide +kernel
theorem dX7_count_76 : decode cX7_count 76 = .ok (.aload_n 0, 1) := by decide +kernel
theorem dX7_count_77 : decode cX7_count 77 = .ok (.getfield 10, 3) := by decide +kernel
theorem dX7_count_80 : decode cX7_count 80 = .ok (.getfield 72, 3) := by decide +kernel
theorem dX7_count_83 : decode cX7_count 83 = .ok (.getfield 75, 3) := by decide +kernel
theorem dX7_count_86 : decode cX7_count 86 = .ok (.ldc 82, 2) := by decide +kernel
theorem dX7_count_88 : decode cX7_count 88 = .ok (.iadd, 1) := by decide +kernel
theorem dX7_count_89 : decode cX7_count 89 = .ok (.ireturn, 1) := by decide +kernel
theorem dX7_count_90 : decode cX7_count 90 = .ok (.aload_n 0, 1) := by decide +kernel
theorem dX7_count_91 : decode cX7_count 91 = .ok (.getfield 10, 3) := by decide +kernel
theorem dX7_count_94 : decode cX7_count 94 = .ok (.getfield 72, 3) := by decide +kernel
theorem dX7_count_97 : decode cX7_count 97 = .ok (.getfield 103, 3) := by decide +kernel
theorem dX7_count_100 : decode cX7_count 100 = .ok (.sipush 1000, 3) := by decide +kernel
theorem dX7_count_103 : decode cX7_count 103 = .ok (.iadd, 1) := by decide +kernel
theorem dX7_count_104 : decode cX7_count 104 = .ok (.ireturn, 1) := by decide +kernel
theorem dX7_count_105 : decode cX7_count 105 = .ok (.aload_n 0, 1) := by decide +kernel
theorem dX7_count_106 : decode cX7_count 106 = .ok (.getfield 10, 3) := by decide +kernel
theorem dX7_count_109 : decode cX7_count 109 = .ok (.getfield 106, 3) := by decide +kernel
theorem dX7_count_112 : decode cX7_count 112 = .ok (.ireturn, 1) := by decide +kernel
theorem dX7_count_113 : decode cX7_count 113 = .ok (.aload_n 0, 1) := by decide +kernel
theorem dX7_count_114 : decode cX7_count 114 = .ok (.getfield 10, 3) := by decide +kernel
theorem dX7_count_117 : decode cX7_count 117 = .ok (.getfield 109, 3) := by decide +kernel
theorem dX7_count_120 : decode cX7_count 120 = .ok (.ireturn, 1) := by decide +kernel
theorem dX7_count_121 : decode cX7_count 121 = .ok (.aload_n 0, 1) := by decide +kernel
theorem dX7_count_122 : decode cX7_count 122 = .ok (.getfield 10, 3) := by decide +kernel
theorem dX7_count_125 : decode cX7_count 125 = .ok (.getfield 83, 3) := by decide +kernel
theorem dX7_count_128 : decode cX7_count 128 = .ok (.invokevirtual 87, 3) := by decide +kernel
theorem dX7_count_131 : decode cX7_count 131 = .ok (.ireturn, 1) := by decide +kernel
theorem dX7_count_132 : decode cX7_count 132 = .ok (.aload_n 0, 1) := by decide +kernel
theorem dX7_count_133 : decode cX7_count 133 = .ok (.getfield 10, 3) := by decide +kernel
theorem dX7_count_136 : decode cX7_count 136 = .ok (.getfield 112, 3) := by decide +kernel
theorem dX7_count_139 : decode cX7_count 139 = .ok (.ireturn, 1) := by decide +kernel
theorem dX7_count_140 : decode cX7_count 140 = .ok (.aload_n 0, 1) := by decide +kernel
theorem dX7_count_141 : decode cX7_count 141 = .ok (.getfield 10, 3) := by decide +kernel
theorem dX7_count_144 : decode cX7_count 144 = .ok (.iconst 0, 1) := by decide +kernel
theorem dX7_count_145 : decode cX7_count 145 = .ok (.invokevirtual 115, 3) := by decide +kernel
theorem dX7_count_148 : decode cX7_count 148 = .ok (.sipush 1000, 3) := by decide +kernel
theorem dX7_count_151 : decode cX7_count 151 = .ok (.iadd, 1) := by decide +kernel
theorem dX7_count_152 : decode cX7_count 152 = .ok (.ireturn, 1) := by decide +kernel
theorem dX7_count_153 : decode cX7_count 153 = .ok (.aload_n 0, 1) := by decide +kernel
theorem dX7_count_154 : decode cX7_count 154 = .ok (.getfield 10, 3) := by decide +kernel
theorem dX7_count_157 : decode cX7_count 157 = .ok (.iconst 1, 1) := by decide +kernel
theorem dX7_count_158 : decode cX7_count 158 = .ok (.invokevirtual 115, 3) := by decide +kernel
theorem dX7_count_161 : decode cX7_count 161 = .ok (.sipush 1000, 3) := by decide +kernel
theorem dX7_count_164 : decode cX7_count 164 = .ok (.iadd, 1) := by decide +kernel
theorem dX7_count_165 : decode cX7_count 165 = .ok (.ireturn, 1) := by decide +kernel
theorem dX7_count_166 : decode cX7_count 166 = .ok (.aload_n 0, 1) := by decide +kernel
theorem dX7_count_167 : decode cX7_count 167 = .ok (.getfield 10, 3) := by decide +kernel
theorem dX7_count_170 : decode cX7_count 170 = .ok (.iconst 2, 1) := by decide +kernel
theorem dX7_count_171 : decode cX7_count 171 = .ok (.invokevirtual 115, 3) := by decide +kernel
theorem dX7_count_174 : decode cX7_count 174 = .ok (.sipush 1000, 3) := by decide +kernel
theorem dX7_count_177 : decode cX7_count 177 = .ok (.iadd, 1) := by decide +kernel
theorem dX7_count_178 : decode cX7_count 178 = .ok (.ireturn, 1) := by decide +kernel
theorem dX7_count_179 : decode cX7_count 179 = .ok (.aload_n 0, 1) := by decide +kernel
theorem dX7_count_180 : decode cX7_count 180 = .ok (.getfield 10, 3) := by decide +kernel
theorem dX7_count_183 : decode cX7_count 183 = .ok (.iconst 3, 1) := by decide +kernel
theorem dX7_count_184 : decode cX7_count 184 = .ok (.invokevirtual 115, 3) := by decide +kernel
theorem dX7_count_187 : decode cX7_count 187 = .ok (.sipush 1000, 3) := by decide +kernel
theorem dX7_count_190 : decode cX7_count 190 = .ok (.iadd, 1) := by decide +kernel
theorem dX7_count_191 : decode cX7_count 191 = .ok (.ireturn, 1) := by decide +kernel
theorem dX7_count_192 : decode cX7_count 192 = .ok (.aload_n 0, 1) := by decide +kernel
theorem dX7_count_193 : decode cX7_count 193 = .ok (.getfield 36, 3) := by decide +kernel
theorem dX7_count_196 : decode cX7_count 196 = .ok (.getfield 118, 3) := by decide +kernel
theorem dX7_count_199 : decode cX7_count 199 = .ok (.getfield 122, 3) := by decide +kernel
theorem dX7_count_202 : decode cX7_count 202 = .ok (.ireturn, 1) := by decide +kernel
theorem dX7_count_203 : decode cX7_count 203 = .ok (.aload_n 0, 1) := by decide +kernel
theorem dX7_count_204 : decode cX7_count 204 = .ok (.getfield 19, 3) := by decide +kernel
theorem dX7_count_207 : decode cX7_count 207 = .ok (.getfield 126, 3) := by decide +kernel
theorem dX7_count_210 : decode cX7_count 210 = .ok (.ireturn, 1) := by decide +kernel
theorem dX7_count_211 : decode cX7_count 211 = .ok (.bipush (-2), 2) := by decide +kernel
theorem dX7_count_213 : decode cX7_count 213 = .ok (.ireturn, 1) := by decide +kernel
set_option maxRecDepth 20000 in
theorem ggX7_meanRate_X3_length : GoodIn wsX7_meanRate wsX3_length := goodIn_r _ [6, 7, 8, 9, 10, 11, 48, 49] (by decide +kernel) (by decide +kernel)
set_option maxRecDepth 20000 in
theorem gX7_meanRate_X3_length : GoodIn wsX7_meanRate (wsV RX7 87 RX3 yX3_length wsX3_length) := goodIn_app (goodIn_of _ (by decide +kernel)) ggX7_meanRate_X3_length
set_option maxRecDepth 20000 in
theorem ggX7_meanRate_X3_sumOfRates : GoodIn wsX7_meanRate wsX3_sumOfRates := goodIn_r _ [15, 16, 3, 4, 5, 6, 7, 8, 9, 10, 11, 17, 18, 19, 20, 21, 22, 23, 24, 25, 48, 49] (by decide +kernel) (by decide +kernel)
set_option maxRecDepth 20000 in
theorem gX7_meanRate_X3_sumOfRates : GoodIn wsX7_meanRate (wsV RX7 129 RX3 yX3_sumOfRates wsX3_sumOfRates) := goodIn_app (goodIn_of _ (by decide +kernel)) ggX7_meanRate_X3_sumOfRates
set_option maxRecDepth 20000 in
theorem ggX7_meanRate_X7_bitsOf : GoodIn wsX7_meanRate wsX7_bitsOf := goodIn_r _ [29, 30, 31, 32, 33, 34] (by decide +kernel) (by decide +kernel)
set_option maxRecDepth 20000 in
theorem gX7_meanRate_X7_bitsOf : GoodIn wsX7_meanRate (va_wsS RX7 132 yX7_bitsOf wsX7_bitsOf) := goodIn_app (goodIn_of _ (by decide +kernel)) ggX7_meanRate_X7_bitsOf
theorem dX7_meanRate_0 : decode cX7_meanRate 0 = .ok (.aload_n 0, 1) := by decide +kernel
theorem dX7_meanRate_1 : decode cX7_meanRate 1 = .ok (.getfield 10, 3) := by decide +kernel
theorem dX7_meanRate_4 : decode cX7_meanRate 4 = .ok (.getfield 83, 3) := by decide +kernel
theorem dX7_meanRate_7 : decode cX7_meanRate 7 = .ok (.invokevirtual 87, 3) := by decide +kernel
theorem dX7_meanRate_10 : decode cX7_meanRate 10 = .ok (.istore_n 1, 1) := by decide +kernel
theorem dX7_meanRate_11 : decode cX7_meanRate 11 = .ok (.iload_n 1, 1) := by decide +kernel
theorem dX7_meanRate_12 : decode cX7_meanRate 12 = .ok (.ifCond .ne 5, 3) := by decide +kernel
theorem dX7_meanRate_15 : decode cX7_meanRate 15 = .ok (.lconst 0, 1) := by decide +kernel
theorem dX7_meanRate_16 : decode cX7_meanRate 16 = .ok (.lreturn, 1) := by decide +kernel
theorem dX7_meanRate_17 : decode cX7_meanRate 17 = .ok (.aload_n 0, 1) := by decide +kernel
theorem dX7_meanRate_18 : decode cX7_meanRate 18 = .ok (.getfield 10, 3) := by decide +kernel
theorem dX7_meanRate_21 : decode cX7_meanRate 21 = .ok (.getfield 83, 3) := by decide +kernel
theorem dX7_meanRate_24 : decode cX7_meanRate 24 = .ok (.invokevirtual 129, 3) := by decide +kernel
theorem dX7_meanRate_27 : decode cX7_meanRate 27 = .ok (.i2d, 1) := by decide +kernel
theorem dX7_meanRate_28 : decode cX7_meanRate 28 = .ok (.iload_n 1, 1) := by decide +kernel
theorem dX7_meanRate_29 : decode cX7_meanRate 29 = .ok (.i2d, 1) := by decide +kernel
theorem dX7_meanRate_30 : decode cX7_meanRate 30 = .ok (.ddiv, 1) := by decide +kernel
theorem dX7_meanRate_31 : decode cX7_meanRate 31 = .ok (.invokestatic 132, 3) := by decide +kernel
theorem dX7_meanRate_34 : decode cX7_meanRate 34 = .ok (.lreturn, 1) := by decide +kernel
set_option maxRecDepth 20000 in
theorem ggX7_ofLog_X3_length : GoodIn wsX7_ofLog wsX3_length := goodIn_r _ [7, 8, 9, 10, 11, 12, 55, 56] (by decide +kernel) (by decide +kernel)
set_option maxRecDepth 20000 in
theorem gX7_ofLog_X3_length : GoodIn wsX7_ofLog (wsV RX7 87 RX3 yX3_length wsX3_length) := goodIn_app (goodIn_of _ (by decide +kernel)) ggX7_ofLog_X3_length
set_option maxRecDepth 20000 in
theorem ggX7_ofLog_X3_greatestRate : GoodIn wsX7_ofLog wsX3_greatestRate := goodIn_r _ [16, 17, 18, 11, 19, 20, 21, 22, 6, 23, 24, 25, 26, 27, 28, 8, 29, 4, 5, 7, 9, 10, 12, 55, 56] (by decide +kernel) (by decide +kernel)
set_option maxRecDepth 20000 in
theorem gX7_ofLog_X3_greatestRate : GoodIn wsX7_ofLog (wsV RX7 136 RX3 yX3_greatestRate wsX3_greatestRate) := goodIn_app (goodIn_of _ (by decide +kernel)) ggX7_ofLog_X3_greatestRate
set_option maxRecDepth 20000 in
theorem ggX7_ofLog_X3_leastRate : GoodIn wsX7_ofLog wsX3_leastRate := goodIn_r _ [33, 9, 10, 11, 12, 20, 21, 22, 6, 23, 24, 25, 26, 27, 28, 8, 29, 4, 5, 7, 55, 56] (by decide +kernel) (by decide +kernel)
set_option maxRecDepth 20000 in
theorem gX7_ofLog_X3_leastRate : GoodIn wsX7_ofLog (wsV RX7 140 RX3 yX3_leastRate wsX3_leastRate) := goodIn_app (goodIn_of _ (by decide +kernel)) ggX7_ofLog_X3_leastRate
set_option maxRecDepth 20000 in
theorem ggX7_ofLog_X3_countAboveZero : GoodIn wsX7_ofLog wsX3_countAboveZero := goodIn_r _ [37, 29, 4, 5, 6, 7, 8, 9, 10, 11, 12, 20, 21, 22, 23, 24, 25, 26, 27, 28, 55, 56] (by decide +kernel) (by decide +kernel)
set_option maxRecDepth 20000 in
theorem gX7_ofLog_X3_countAboveZero : GoodIn wsX7_ofLog (wsV RX7 143 RX3 yX3_countAboveZero wsX3_countAboveZero) := goodIn_app (goodIn_of _ (by decide +kernel)) ggX7_ofLog_X3_countAboveZero
set_option maxRecDepth 20000 in
theorem ggX7_ofLog_X3_countOtherTrays : GoodIn wsX7_ofLog wsX3_countOtherTrays := goodIn_r _ [41, 29, 4, 5, 6, 7, 8, 9, 10, 11, 12, 20, 21, 22, 23, 24, 25, 26, 27, 28, 55, 56] (by decide +kernel) (by decide +kernel)
set_option maxRecDepth 20000 in
theorem gX7_ofLog_X3_countOtherTrays : GoodIn wsX7_ofLog (wsV RX7 146 RX3 yX3_countOtherTrays wsX3_countOtherTrays) := goodIn_app (goodIn_of _ (by decide +kernel)) ggX7_ofLog_X3_countOtherTrays
theorem dX7_ofLog_0 : decode cX7_ofLog 0 = .ok (.iload_n 1, 1) := by decide +kernel
theorem dX7_ofLog_1 : decode cX7_ofLog 1 = .ok (.ifCond .lt 8, 3) := by decide +kernel
theorem dX7_ofLog_4 : decode cX7_ofLog 4 = .ok (.iload_n 1, 1) := by decide +kernel
theorem dX7_ofLog_5 : decode cX7_ofLog 5 = .ok (.iconst 4, 1) := by decide +kernel
theorem dX7_ofLog_6 : decode cX7_ofLog 6 = .ok (.if_icmp .le 6, 3) := by decide +kernel
theorem dX7_ofLog_9 : decode cX7_ofLog 9 = .ok (.bipush (-2), 2) := by decide +kernel
theorem dX7_ofLog_11 : decode cX7_ofLog 11 = .ok (.ireturn, 1) := by decide +kernel
theorem dX7_ofLog_12 : decode cX7_ofLog 12 = .ok (.aload_n 0, 1) := by decide +kernel
theorem dX7_ofLog_13 : decode cX7_ofLog 13 = .ok (.getfield 10, 3) := by decide +kernel
theorem dX7_ofLog_16 : decode cX7_ofLog 16 = .ok (.getfield 83, 3) := by decide +kernel
theorem dX7_ofLog_19 : decode cX7_ofLog 19 = .ok (.invokevirtual 87, 3) := by decide +kernel
theorem dX7_ofLog_22 : decode cX7_ofLog 22 = .ok (.ifCond .ne 6, 3) := by decide +kernel
theorem dX7_ofLog_25 : decode cX7_ofLog 25 = .ok (.bipush (-6), 2) := by decide +kernel
theorem dX7_ofLog_27 : decode cX7_ofLog 27 = .ok (.ireturn, 1) := by decide +kernel
theorem dX7_ofLog_28 : decode cX7_ofLog 28 = .ok (.iload_n 1, 1) := by decide +kernel
theorem dX7_ofLog_29 : decode cX7_ofLog 29 = .ok (.tableswitch 83 0 3 #[31, 45, 59, 71], 31) := by decide +kernel
theorem dX7_ofLog_60 : decode cX7_ofLog 60 = .ok (.aload_n 0, 1) := by decide +kernel
theorem dX7_ofLog_61 : decode cX7_ofLog 61 = .ok (.getfield 10, 3) := by decide +kernel
theorem dX7_ofLog_64 : decode cX7_ofLog 64 = .ok (.getfield 83, 3) := by decide +kernel
theorem dX7_ofLog_67 : decode cX7_ofLog 67 = .ok (.invokevirtual 136, 3) := by decide +kernel
theorem dX7_ofLog_70 : decode cX7_ofLog 70 = .ok (.ldc 139, 2) := by decide +kernel
theorem dX7_ofLog_72 : decode cX7_ofLog 72 = .ok (.iadd, 1) := by decide +kernel
theorem dX7_ofLog_73 : decode cX7_ofLog 73 = .ok (.ireturn, 1) := by decide +kernel
theorem dX7_ofLog_74 : decode cX7_ofLog 74 = .ok (.aload_n 0, 1) := by decide +kernel
theorem dX7_ofLog_75 : decode cX7_ofLog 75 = .ok (.getfield 10, 3) := by decide +kernel
theorem dX7_ofLog_78 : decode cX7_ofLog 78 = .ok (.getfield 83, 3) := by decide +kernel
theorem dX7_ofLog_81 : decode cX7_ofLog 81 = .ok (.invokevirtual 140, 3) := by decide +kernel
theorem dX7_ofLog_84 : decode cX7_ofLog 84 = .ok (.ldc 139, 2) := by decide +kernel
theorem dX7_ofLog_86 : decode cX7_ofLog 86 = .ok (.iadd, 1) := by decide +kernel
theorem dX7_ofLog_87 : decode cX7_ofLog 87 = .ok (.ireturn, 1) := by decide +kernel
theorem dX7_ofLog_88 : decode cX7_ofLog 88 = .ok (.aload_n 0, 1) := by decide +kernel
theorem dX7_ofLog_89 : decode cX7_ofLog 89 = .ok (.getfield 10, 3) := by decide +kernel
theorem dX7_ofLog_92 : decode cX7_ofLog 92 = .ok (.getfield 83, 3) := by decide +kernel
theorem dX7_ofLog_95 : decode cX7_ofLog 95 = .ok (.iconst 3, 1) := by decide +kernel
theorem dX7_ofLog_96 : decode cX7_ofLog 96 = .ok (.invokevirtual 143, 3) := by decide +kernel
theorem dX7_ofLog_99 : decode cX7_ofLog 99 = .ok (.ireturn, 1) := by decide +kernel
theorem dX7_ofLog_100 : decode cX7_ofLog 100 = .ok (.aload_n 0, 1) := by decide +kernel
theorem dX7_ofLog_101 : decode cX7_ofLog 101 = .ok (.getfield 10, 3) := by decide +kernel
theorem dX7_ofLog_104 : decode cX7_ofLog 104 = .ok (.getfield 83, 3) := by decide +kernel
theorem dX7_ofLog_107 : decode cX7_ofLog 107 = .ok (.iconst 5, 1) := by decide +kernel
theorem dX7_ofLog_108 : decode cX7_ofLog 108 = .ok (.invokevirtual 143, 3) := by decide +kernel
theorem dX7_ofLog_111 : decode cX7_ofLog 111 = .ok (.ireturn, 1) := by decide +kernel
theorem dX7_ofLog_112 : decode cX7_ofLog 112 = .ok (.aload_n 0, 1) := by decide +kernel
theorem dX7_ofLog_113 : decode cX7_ofLog 113 = .ok (.getfield 10, 3) := by decide +kernel
theorem dX7_ofLog_116 : decode cX7_ofLog 116 = .ok (.getfield 83, 3) := by decide +kernel
theorem dX7_ofLog_119 : decode cX7_ofLog 119 = .ok (.invokevirtual 146, 3) := by decide +kernel
theorem dX7_ofLog_122 : decode cX7_ofLog 122 = .ok (.ireturn, 1) := by decide +kernel
set_option maxRecDepth 20000 in
theorem ggX7_rate_X7_isHeat : GoodIn wsX7_rate wsX7_isHeat := goodIn_r _ [6] (by decide +kernel) (by decide +kernel)
set_option maxRecDepth 20000 in
theorem gX7_rate_X7_isHeat : GoodIn wsX7_rate (va_wsS RX7 149 yX7_isHeat wsX7_isHeat) := goodIn_app (goodIn_of _ (by decide +kernel)) ggX7_rate_X7_isHeat
set_option maxRecDepth 20000 in
theorem ggX7_rate_X7_isAir : GoodIn wsX7_rate wsX7_isAir := goodIn_r _ [9] (by decide +kernel) (by decide +kernel)
set_option maxRecDepth 20000 in
theorem gX7_rate_X7_isAir : GoodIn wsX7_rate (va_wsS RX7 153 yX7_isAir wsX7_isAir) := goodIn_app (goodIn_of _ (by decide +kernel)) ggX7_rate_X7_isAir
set_option maxRecDepth 20000 in
theorem ggX7_rate_X0_rateIn : GoodIn wsX7_rate wsX0_rateIn := goodIn_r _ [14, 15, 16, 17, 18, 13, 19, 20, 21, 22, 23, 24, 31, 32, 33, 34, 35, 36, 37] (by decide +kernel) (by decide +kernel)
set_option maxRecDepth 20000 in
theorem gX7_rate_X0_rateIn : GoodIn wsX7_rate (wsV RX7 156 RX0 yX0_rateIn wsX0_rateIn) := goodIn_app (goodIn_of _ (by decide +kernel)) ggX7_rate_X0_rateIn
theorem dX7_rate_0 : decode cX7_rate 0 = .ok (.iload_n 1, 1) := by decide +kernel
theorem dX7_rate_1 : decode cX7_rate 1 = .ok (.invokestatic 149, 3) := by decide +kernel
theorem dX7_rate_4 : decode cX7_rate 4 = .ok (.ifCond .eq 10, 3) := by decide +kernel
theorem dX7_rate_7 : decode cX7_rate 7 = .ok (.iload_n 2, 1) := by decide +kernel
theorem dX7_rate_8 : decode cX7_rate 8 = .ok (.invokestatic 153, 3) := by decide +kernel
theorem dX7_rate_11 : decode cX7_rate 11 = .ok (.ifCond .ne 6, 3) := by decide +kernel
theorem dX7_rate_14 : decode cX7_rate 14 = .ok (.bipush (-2), 2) := by decide +kernel
theorem dX7_rate_16 : decode cX7_rate 16 = .ok (.ireturn, 1) := by decide +kernel
theorem dX7_rate_17 : decode cX7_rate 17 = .ok (.aload_n 0, 1) := by decide +kernel
theorem dX7_rate_18 : decode cX7_rate 18 = .ok (.getfield 10, 3) := by decide +kernel
theorem dX7_rate_21 : decode cX7_rate 21 = .ok (.iload_n 1, 1) := by decide +kernel
theorem dX7_rate_22 : decode cX7_rate 22 = .ok (.iload_n 2, 1) := by decide +kernel
theorem dX7_rate_23 : decode cX7_rate 23 = .ok (.invokevirtual 156, 3) := by decide +kernel
theorem dX7_rate_26 : decode cX7_rate 26 = .ok (.ldc 139, 2) := by decide +kernel
theorem dX7_rate_28 : decode cX7_rate 28 = .ok (.iadd, 1) := by decide +kernel
theorem dX7_rate_29 : decode cX7_rate 29 = .ok (.ireturn, 1) := by decide +kernel
set_option maxRecDepth 20000 in
theorem ggX7_bestWeights_X7_isHeat : GoodIn wsX7_bestWeights wsX7_isHeat := goodIn_r _ [10] (by decide +kernel) (by decide +kernel)
set_option maxRecDepth 20000 in
theorem gX7_bestWeights_X7_isHeat : GoodIn wsX7_bestWeights (va_wsS RX7 149 yX7_isHeat wsX7_isHeat) := goodIn_app (goodIn_of _ (by decide +kernel)) ggX7_bestWeights_X7_isHeat
set_option maxRecDepth 20000 in
theorem ggX7_bestWeights_X7_isAir : GoodIn wsX7_bestWeights wsX7_isAir := goodIn_r _ [13] (by decide +kernel) (by decide +kernel)
set_option maxRecDepth 20000 in
theorem gX7_bestWeights_X7_isAir : GoodIn wsX7_bestWeights (va_wsS RX7 153 yX7_isAir wsX7_isAir) := goodIn_app (goodIn_of _ (by decide +kernel)) ggX7_bestWeights_X7_isAir
set_option maxRecDepth 20000 in
theorem ggX7_bestWeights_X0_bareRateIn : GoodIn wsX7_bestWeights wsX0_bareRateIn := goodIn_r _ [18, 19, 20, 21, 17, 22, 23, 30, 31, 32, 33, 34, 35, 36] (by decide +kernel) (by decide +kernel)
set_option maxRecDepth 20000 in
theorem gX7_bestWeights_X0_bareRateIn : GoodIn wsX7_bestWeights (wsV RX7 159 RX0 yX0_bareRateIn wsX0_bareRateIn) := goodIn_app (goodIn_of _ (by decide +kernel)) ggX7_bestWeights_X0_bareRateIn
theorem dX7_bestWeights_0 : decode cX7_bestWeights 0 = .ok (.iload_n 1, 1) := by decide +kernel
theorem dX7_bestWeights_1 : decode cX7_bestWeights 1 = .ok (.invokestatic 149, 3) := by decide +kernel
theorem dX7_bestWeights_4 : decode cX7_bestWeights 4 = .ok (.ifCond .eq 19, 3) := by decide +kernel
theorem dX7_bestWeights_7 : decode cX7_bestWeights 7 = .ok (.iload_n 2, 1) := by decide +kernel
theorem dX7_bestWeights_8 : decode cX7_bestWeights 8 = .ok (.invokestatic 153, 3) := by decide +kernel
theorem dX7_bestWeights_11 : decode cX7_bestWeights 11 = .ok (.ifCond .eq 12, 3) := by decide +kernel
theorem dX7_bestWeights_14 : decode cX7_bestWeights 14 = .ok (.iload_n 3, 1) := by decide +kernel
theorem dX7_bestWeights_15 : decode cX7_bestWeights 15 = .ok (.ifCond .lt 8, 3) := by decide +kernel
theorem dX7_bestWeights_18 : decode cX7_bestWeights 18 = .ok (.iload_n 3, 1) := by decide +kernel
theorem dX7_bestWeights_19 : decode cX7_bestWeights 19 = .ok (.iconst 1, 1) := by decide +kernel
theorem dX7_bestWeights_20 : decode cX7_bestWeights 20 = .ok (.if_icmp .le 6, 3) := by decide +kernel
theorem dX7_bestWeights_23 : decode cX7_bestWeights 23 = .ok (.bipush (-2), 2) := by decide +kernel
theorem dX7_bestWeights_25 : decode cX7_bestWeights 25 = .ok (.ireturn, 1) := by decide +kernel
theorem dX7_bestWeights_26 : decode cX7_bestWeights 26 = .ok (.aload_n 0, 1) := by decide +kernel
theorem dX7_bestWeights_27 : decode cX7_bestWeights 27 = .ok (.getfield 10, 3) := by decide +kernel
theorem dX7_bestWeights_30 : decode cX7_bestWeights 30 = .ok (.iload_n 1, 1) := by decide +kernel
theorem dX7_bestWeights_31 : decode cX7_bestWeights 31 = .ok (.iload_n 2, 1) := by decide +kernel
theorem dX7_bestWeights_32 : decode cX7_bestWeights 32 = .ok (.invokevirtual 159, 3) := by decide +kernel
theorem dX7_bestWeights_35 : decode cX7_bestWeights 35 = .ok (.istore 4, 2) := by decide +kernel
theorem dX7_bestWeights_37 : decode cX7_bestWeights 37 = .ok (.iconst 0, 1) := by decide +kernel
theorem dX7_bestWeights_38 : decode cX7_bestWeights 38 = .ok (.istore 5, 2) := by decide +kernel
theorem dX7_bestWeights_40 : decode cX7_bestWeights 40 = .ok (.iconst 1, 1) := by decide +kernel
theorem dX7_bestWeights_41 : decode cX7_bestWeights 41 = .ok (.istore 6, 2) := by decide +kernel
theorem dX7_bestWeights_43 : decode cX7_bestWeights 43 = .ok (.iload 6, 2) := by decide +kernel
theorem dX7_bestWeights_45 : decode cX7_bestWeights 45 = .ok (.sipush 255, 3) := by decide +kernel
theorem dX7_bestWeights_48 : decode cX7_bestWeights 48 = .ok (.if_icmp .gt 32, 3) := by decide +kernel
theorem dX7_bestWeights_51 : decode cX7_bestWeights 51 = .ok (.iload 4, 2) := by decide +kernel
theorem dX7_bestWeights_53 : decode cX7_bestWeights 53 = .ok (.iload 6, 2) := by decide +kernel
theorem dX7_bestWeights_55 : decode cX7_bestWeights 55 = .ok (.iadd, 1) := by decide +kernel
theorem dX7_bestWeights_56 : decode cX7_bestWeights 56 = .ok (.invokestatic 162, 3) := by decide +kernel
theorem dX7_bestWeights_59 : decode cX7_bestWeights 59 = .ok (.iload 4, 2) := by decide +kernel
theorem dX7_bestWeights_61 : decode cX7_bestWeights 61 = .ok (.iload 5, 2) := by decide +kernel
theorem dX7_bestWeights_63 : decode cX7_bestWeights 63 = .ok (.iadd, 1) := by decide +kernel
theorem dX7_bestWeights_64 : decode cX7_bestWeights 64 = .ok (.invokestatic 162, 3) := by decide +kernel
theorem dX7_bestWeights_67 : decode cX7_bestWeights 67 = .ok (.if_icmp .ge 7, 3) := by decide +kernel
theorem dX7_bestWeights_70 : decode cX7_bestWeights 70 = .ok (.iload 6, 2) := by decide +kernel
theorem dX7_bestWeights_72 : decode cX7_bestWeights 72 = .ok (.istore 5, 2) := by decide +kernel
theorem dX7_bestWeights_74 : decode cX7_bestWeights 74 = .ok (.iinc 6 1, 3) := by decide +kernel
theorem dX7_bestWeights_77 : decode cX7_bestWeights 77 = .ok (.goto (-34), 3) := by decide +kernel
theorem dX7_bestWeights_80 : decode cX7_bestWeights 80 = .ok (.iload_n 3, 1) := by decide +kernel
theorem dX7_bestWeights_81 : decode cX7_bestWeights 81 = .ok (.ifCond .ne 8, 3) := by decide +kernel
theorem dX7_bestWeights_84 : decode cX7_bestWeights 84 = .ok (.iload 5, 2) := by decide +kernel
theorem dX7_bestWeights_86 : decode cX7_bestWeights 86 = .ok (.goto 11, 3) := by decide +kernel
theorem dX7_bestWeights_89 : decode cX7_bestWeights 89 = .ok (.iload 4, 2) := by decide +kernel
theorem dX7_bestWeights_91 : decode cX7_bestWeights 91 = .ok (.iload 5, 2) := by decide +kernel
theorem dX7_bestWeights_93 : decode cX7_bestWeights 93 = .ok (.iadd, 1) := by decide +kernel
theorem dX7_bestWeights_94 : decode cX7_bestWeights 94 = .ok (.ldc 139, 2) := by decide +kernel
theorem dX7_bestWeights_96 : decode cX7_bestWeights 96 = .ok (.iadd, 1) := by decide +kernel
theorem dX7_bestWeights_97 : decode cX7_bestWeights 97 = .ok (.ireturn, 1) := by decide +kernel
set_option maxRecDepth 20000 in
theorem ggX7_offIn_X7_isHeat : GoodIn wsX7_offIn wsX7_isHeat := goodIn_r _ [6] (by decide +kernel) (by decide +kernel)
set_option maxRecDepth 20000 in
theorem gX7_offIn_X7_isHeat : GoodIn wsX7_offIn (va_wsS RX7 149 yX7_isHeat wsX7_isHeat) := goodIn_app (goodIn_of _ (by decide +kernel)) ggX7_offIn_X7_isHeat
set_option maxRecDepth 20000 in
theorem ggX7_offIn_X7_isAir : GoodIn wsX7_offIn wsX7_isAir := goodIn_r _ [9] (by decide +kernel) (by decide +kernel)
set_option maxRecDepth 20000 in
theorem gX7_offIn_X7_isAir : GoodIn wsX7_offIn (va_wsS RX7 153 yX7_isAir wsX7_isAir) := goodIn_app (goodIn_of _ (by decide +kernel)) ggX7_offIn_X7_isAir
set_option maxRecDepth 20000 in
theorem ggX7_offIn_X0_rateIn : GoodIn wsX7_offIn wsX0_rateIn := goodIn_r _ [14, 15, 16, 17, 18, 13, 19, 20, 21, 22, 23, 24, 47, 48, 49, 50, 51, 52, 53] (by decide +kernel) (by decide +kernel)
set_option maxRecDepth 20000 in
theorem gX7_offIn_X0_rateIn : GoodIn wsX7_offIn (wsV RX7 156 RX0 yX0_rateIn wsX0_rateIn) := goodIn_app (goodIn_of _ (by decide +kernel)) ggX7_offIn_X0_rateIn
set_option maxRecDepth 20000 in
theorem ggX7_offIn_X0_setting : GoodIn wsX7_offIn wsX0_setting := goodIn_r _ [23, 24, 47, 48, 49, 50, 51, 52, 53] (by decide +kernel) (by decide +kernel)
set_option maxRecDepth 20000 in
theorem gX7_offIn_X0_setting : GoodIn wsX7_offIn (wsV RX7 115 RX0 yX0_setting wsX0_setting) := goodIn_app (goodIn_of _ (by decide +kernel)) ggX7_offIn_X0_setting
set_option maxRecDepth 20000 in
theorem ggX7_offIn_X1_become : GoodIn wsX7_offIn wsX1_become := goodIn_r _ [30, 31, 32, 54, 55] (by decide +kernel) (by decide +kernel)
set_option maxRecDepth 20000 in
theorem gX7_offIn_X1_become : GoodIn wsX7_offIn (wsV RX7 167 RX1 yX1_become wsX1_become) := goodIn_app (goodIn_of _ (by decide +kernel)) ggX7_offIn_X1_become
set_option maxRecDepth 20000 in
theorem ggX7_offIn_X1_isMoreThan : GoodIn wsX7_offIn wsX1_isMoreThan := goodIn_r _ [36, 31, 54, 55] (by decide +kernel) (by decide +kernel)
set_option maxRecDepth 20000 in
theorem gX7_offIn_X1_isMoreThan : GoodIn wsX7_offIn (wsV RX7 171 RX1 yX1_isMoreThan wsX1_isMoreThan) := goodIn_app (goodIn_of _ (by decide +kernel)) ggX7_offIn_X1_isMoreThan
set_option maxRecDepth 20000 in
theorem ggX7_offIn_X1_addHour : GoodIn wsX7_offIn wsX1_addHour := goodIn_r _ [40, 32, 31, 54, 55] (by decide +kernel) (by decide +kernel)
set_option maxRecDepth 20000 in
theorem gX7_offIn_X1_addHour : GoodIn wsX7_offIn (wsV RX7 174 RX1 yX1_addHour wsX1_addHour) := goodIn_app (goodIn_of _ (by decide +kernel)) ggX7_offIn_X1_addHour
theorem dX7_offIn_0 : decode cX7_offIn 0 = .ok (.iload_n 1, 1) := by decide +kernel
theorem dX7_offIn_1 : decode cX7_offIn 1 = .ok (.invokestatic 149, 3) := by decide +kernel
theorem dX7_offIn_4 : decode cX7_offIn 4 = .ok (.ifCond .eq 10, 3) := by decide +kernel
theorem dX7_offIn_7 : decode cX7_offIn 7 = .ok (.iload_n 2, 1) := by decide +kernel
theorem dX7_offIn_8 : decode cX7_offIn 8 = .ok (.invokestatic 153, 3) := by decide +kernel
theorem dX7_offIn_11 : decode cX7_offIn 11 = .ok (.ifCond .ne 6, 3) := by decide +kernel
theorem dX7_offIn_14 : decode cX7_offIn 14 = .ok (.bipush (-2), 2) := by decide +kernel
theorem dX7_offIn_16 : decode cX7_offIn 16 = .ok (.ireturn, 1) := by decide +kernel
theorem dX7_offIn_17 : decode cX7_offIn 17 = .ok (.aload_n 0, 1) := by decide +kernel
theorem dX7_offIn_18 : decode cX7_offIn 18 = .ok (.getfield 10, 3) := by decide +kernel
theorem dX7_offIn_21 : decode cX7_offIn 21 = .ok (.iload_n 1, 1) := by decide +kernel
theorem dX7_offIn_22 : decode cX7_offIn 22 = .ok (.iload_n 2, 1) := by decide +kernel
theorem dX7_offIn_23 : decode cX7_offIn 23 = .ok (.invokevirtual 156, 3) := by decide +kernel
theorem dX7_offIn_26 : decode cX7_offIn 26 = .ok (.istore_n 3, 1) := by decide +kernel
theorem dX7_offIn_27 : decode cX7_offIn 27 = .ok (.aload_n 0, 1) := by decide +kernel
theorem dX7_offIn_28 : decode cX7_offIn 28 = .ok (.getfield 10, 3) := by decide +kernel
theorem dX7_offIn_31 : decode cX7_offIn 31 = .ok (.iconst 3, 1) := by decide +kernel
theorem dX7_offIn_32 : decode cX7_offIn 32 = .ok (.invokevirtual 115, 3) := by decide +kernel
theorem dX7_offIn_35 : decode cX7_offIn 35 = .ok (.istore 4, 2) := by decide +kernel
theorem dX7_offIn_37 : decode cX7_offIn 37 = .ok (.aload_n 0, 1) := by decide +kernel
theorem dX7_offIn_38 : decode cX7_offIn 38 = .ok (.getfield 43, 3) := by decide +kernel
theorem dX7_offIn_41 : decode cX7_offIn 41 = .ok (.aload_n 0, 1) := by decide +kernel
theorem dX7_offIn_42 : decode cX7_offIn 42 = .ok (.getfield 10, 3) := by decide +kernel
theorem dX7_offIn_45 : decode cX7_offIn 45 = .ok (.getfield 72, 3) := by decide +kernel
theorem dX7_offIn_48 : decode cX7_offIn 48 = .ok (.invokevirtual 167, 3) := by decide +kernel
theorem dX7_offIn_51 : decode cX7_offIn 51 = .ok (.iconst 0, 1) := by decide +kernel
theorem dX7_offIn_52 : decode cX7_offIn 52 = .ok (.istore 5, 2) := by decide +kernel
theorem dX7_offIn_54 : decode cX7_offIn 54 = .ok (.iload 5, 2) := by decide +kernel
theorem dX7_offIn_56 : decode cX7_offIn 56 = .ok (.sipush 5000, 3) := by decide +kernel
theorem dX7_offIn_59 : decode cX7_offIn 59 = .ok (.if_icmp .gt 32, 3) := by decide +kernel
theorem dX7_offIn_62 : decode cX7_offIn 62 = .ok (.aload_n 0, 1) := by decide +kernel
theorem dX7_offIn_63 : decode cX7_offIn 63 = .ok (.getfield 43, 3) := by decide +kernel
theorem dX7_offIn_66 : decode cX7_offIn 66 = .ok (.iload 4, 2) := by decide +kernel
theorem dX7_offIn_68 : decode cX7_offIn 68 = .ok (.invokevirtual 171, 3) := by decide +kernel
theorem dX7_offIn_71 : decode cX7_offIn 71 = .ok (.ifCond .eq 6, 3) := by decide +kernel
theorem dX7_offIn_74 : decode cX7_offIn 74 = .ok (.iload 5, 2) := by decide +kernel
theorem dX7_offIn_76 : decode cX7_offIn 76 = .ok (.ireturn, 1) := by decide +kernel
theorem dX7_offIn_77 : decode cX7_offIn 77 = .ok (.aload_n 0, 1) := by decide +kernel
theorem dX7_offIn_78 : decode cX7_offIn 78 = .ok (.getfield 43, 3) := by decide +kernel
theorem dX7_offIn_81 : decode cX7_offIn 81 = .ok (.iload_n 3, 1) := by decide +kernel
theorem dX7_offIn_82 : decode cX7_offIn 82 = .ok (.invokevirtual 174, 3) := by decide +kernel
theorem dX7_offIn_85 : decode cX7_offIn 85 = .ok (.iinc 5 1, 3) := by decide +kernel
theorem dX7_offIn_88 : decode cX7_offIn 88 = .ok (.goto (-34), 3) := by decide +kernel
theorem dX7_offIn_91 : decode cX7_offIn 91 = .ok (.bipush (-6), 2) := by decide +kernel
theorem dX7_offIn_93 : decode cX7_offIn 93 = .ok (.ireturn, 1) := by decide +kernel
set_option maxRecDepth 20000 in
theorem ggX7_replay_X1_clear : GoodIn wsX7_replay wsX1_clear := goodIn_r _ [9, 10, 11, 63, 64] (by decide +kernel) (by decide +kernel)
set_option maxRecDepth 20000 in
theorem gX7_replay_X1_clear : GoodIn wsX7_replay (wsV RX7 79 RX1 yX1_clear wsX1_clear) := goodIn_app (goodIn_of _ (by decide +kernel)) ggX7_replay_X1_clear
set_option maxRecDepth 20000 in
theorem ggX7_replay_X3_length : GoodIn wsX7_replay wsX3_length := goodIn_r _ [16, 17, 18, 19, 20, 21, 65, 66] (by decide +kernel) (by decide +kernel)
set_option maxRecDepth 20000 in
theorem gX7_replay_X3_length : GoodIn wsX7_replay (wsV RX7 87 RX3 yX3_length wsX3_length) := goodIn_app (goodIn_of _ (by decide +kernel)) ggX7_replay_X3_length
set_option maxRecDepth 20000 in
theorem ggX7_replay_X3_fact : GoodIn wsX7_replay wsX3_fact := goodIn_r _ [25, 26, 27, 28, 29, 15, 30, 17, 65, 66] (by decide +kernel) (by decide +kernel)
set_option maxRecDepth 20000 in
theorem gX7_replay_X3_fact : GoodIn wsX7_replay (wsV RX7 97 RX3 yX3_fact wsX3_fact) := goodIn_app (goodIn_of _ (by decide +kernel)) ggX7_replay_X3_fact
set_option maxRecDepth 20000 in
theorem ggX7_replay_X0_rateIn : GoodIn wsX7_replay wsX0_rateIn := goodIn_r _ [35, 36, 37, 38, 39, 34, 40, 41, 42, 43, 44, 45, 56, 57, 58, 59, 60, 61, 62] (by decide +kernel) (by decide +kernel)
set_option maxRecDepth 20000 in
theorem gX7_replay_X0_rateIn : GoodIn wsX7_replay (wsV RX7 156 RX0 yX0_rateIn wsX0_rateIn) := goodIn_app (goodIn_of _ (by decide +kernel)) ggX7_replay_X0_rateIn
set_option maxRecDepth 20000 in
theorem ggX7_replay_X1_addHour : GoodIn wsX7_replay wsX1_addHour := goodIn_r _ [49, 11, 10, 63, 64] (by decide +kernel) (by decide +kernel)
set_option maxRecDepth 20000 in
theorem gX7_replay_X1_addHour : GoodIn wsX7_replay (wsV RX7 174 RX1 yX1_addHour wsX1_addHour) := goodIn_app (goodIn_of _ (by decide +kernel)) ggX7_replay_X1_addHour
theorem dX7_replay_0 : decode cX7_replay 0 = .ok (.aload_n 0, 1) := by decide +kernel
theorem dX7_replay_1 : decode cX7_replay 1 = .ok (.getfield 43, 3) := by decide +kernel
theorem dX7_replay_4 : decode cX7_replay 4 = .ok (.invokevirtual 79, 3) := by decide +kernel
theorem dX7_replay_7 : decode cX7_replay 7 = .ok (.aload_n 0, 1) := by decide +kernel
theorem dX7_replay_8 : decode cX7_replay 8 = .ok (.getfield 10, 3) := by decide +kernel
theorem dX7_replay_11 : decode cX7_replay 11 = .ok (.getfield 83, 3) := by decide +kernel
theorem dX7_replay_14 : decode cX7_replay 14 = .ok (.invokevirtual 87, 3) := by decide +kernel
theorem dX7_replay_17 : decode cX7_replay 17 = .ok (.iconst 1, 1) := by decide +kernel
theorem dX7_replay_18 : decode cX7_replay 18 = .ok (.isub, 1) := by decide +kernel
theorem dX7_replay_19 : decode cX7_replay 19 = .ok (.istore_n 1, 1) := by decide +kernel
theorem dX7_replay_20 : decode cX7_replay 20 = .ok (.iload_n 1, 1) := by decide +kernel
theorem dX7_replay_21 : decode cX7_replay 21 = .ok (.ifCond .lt 47, 3) := by decide +kernel
theorem dX7_replay_24 : decode cX7_replay 24 = .ok (.aload_n 0, 1) := by decide +kernel
theorem dX7_replay_25 : decode cX7_replay 25 = .ok (.getfield 43, 3) := by decide +kernel
theorem dX7_replay_28 : decode cX7_replay 28 = .ok (.aload_n 0, 1) := by decide +kernel
theorem dX7_replay_29 : decode cX7_replay 29 = .ok (.getfield 10, 3) := by decide +kernel
theorem dX7_replay_32 : decode cX7_replay 32 = .ok (.aload_n 0, 1) := by decide +kernel
theorem dX7_replay_33 : decode cX7_replay 33 = .ok (.getfield 10, 3) := by decide +kernel
theorem dX7_replay_36 : decode cX7_replay 36 = .ok (.getfield 83, 3) := by decide +kernel
theorem dX7_replay_39 : decode cX7_replay 39 = .ok (.iload_n 1, 1) := by decide +kernel
theorem dX7_replay_40 : decode cX7_replay 40 = .ok (.iconst 0, 1) := by decide +kernel
theorem dX7_replay_41 : decode cX7_replay 41 = .ok (.invokevirtual 97, 3) := by decide +kernel
theorem dX7_replay_44 : decode cX7_replay 44 = .ok (.aload_n 0, 1) := by decide +kernel
theorem dX7_replay_45 : decode cX7_replay 45 = .ok (.getfield 10, 3) := by decide +kernel
theorem dX7_replay_48 : decode cX7_replay 48 = .ok (.getfield 83, 3) := by decide +kernel
theorem dX7_replay_51 : decode cX7_replay 51 = .ok (.iload_n 1, 1) := by decide +kernel
theorem dX7_replay_52 : decode cX7_replay 52 = .ok (.iconst 1, 1) := by decide +kernel
theorem dX7_replay_53 : decode cX7_replay 53 = .ok (.invokevirtual 97, 3) := by decide +kernel
theorem dX7_replay_56 : decode cX7_replay 56 = .ok (.invokevirtual 156, 3) := by decide +kernel
theorem dX7_replay_59 : decode cX7_replay 59 = .ok (.invokevirtual 174, 3) := by decide +kernel
theorem dX7_replay_62 : decode cX7_replay 62 = .ok (.iinc 1 (-1), 3) := by decide +kernel
theorem dX7_replay_65 : decode cX7_replay 65 = .ok (.goto (-45), 3) := by decide +kernel
theorem dX7_replay_68 : decode cX7_replay 68 = .ok (.aload_n 0, 1) := by decide +kernel
theorem dX7_replay_69 : decode cX7_replay 69 = .ok (.getfield 43, 3) := by decide +kernel
theorem dX7_replay_72 : decode cX7_replay 72 = .ok (.getfield 75, 3) := by decide +kernel
theorem dX7_replay_75 : decode cX7_replay 75 = .ok (.ldc 82, 2) := by decide +kernel
theorem dX7_replay_77 : decode cX7_replay 77 = .ok (.iadd, 1) := by decide +kernel
theorem dX7_replay_78 : decode cX7_replay 78 = .ok (.ireturn, 1) := by decide +kernel
set_option maxRecDepth 20000 in
theorem ggX7_coolest_X7_isAir : GoodIn wsX7_coolest wsX7_isAir := goodIn_r _ [5] (by decide +kernel) (by decide +kernel)
set_option maxRecDepth 20000 in
theorem gX7_coolest_X7_isAir : GoodIn wsX7_coolest (va_wsS RX7 153 yX7_isAir wsX7_isAir) := goodIn_app (goodIn_of _ (by decide +kernel)) ggX7_coolest_X7_isAir
set_option maxRecDepth 20000 in
theorem ggX7_coolest_X0_rateIn : GoodIn wsX7_coolest wsX0_rateIn := goodIn_r _ [10, 11, 12, 13, 14, 9, 15, 16, 17, 18, 19, 20, 27, 28, 29, 30, 31, 32, 33] (by decide +kernel) (by decide +kernel)
set_option maxRecDepth 20000 in
theorem gX7_coolest_X0_rateIn : GoodIn wsX7_coolest (wsV RX7 156 RX0 yX0_rateIn wsX0_rateIn) := goodIn_app (goodIn_of _ (by decide +kernel)) ggX7_coolest_X0_rateIn
theorem dX7_coolest_0 : decode cX7_coolest 0 = .ok (.iload_n 1, 1) := by decide +kernel
theorem dX7_coolest_1 : decode cX7_coolest 1 = .ok (.invokestatic 153, 3) := by decide +kernel
theorem dX7_coolest_4 : decode cX7_coolest 4 = .ok (.ifCond .ne 6, 3) := by decide +kernel
theorem dX7_coolest_7 : decode cX7_coolest 7 = .ok (.bipush (-2), 2) := by decide +kernel
theorem dX7_coolest_9 : decode cX7_coolest 9 = .ok (.ireturn, 1) := by decide +kernel
theorem dX7_coolest_10 : decode cX7_coolest 10 = .ok (.bipush (-20), 2) := by decide +kernel
theorem dX7_coolest_12 : decode cX7_coolest 12 = .ok (.istore_n 2, 1) := by decide +kernel
theorem dX7_coolest_13 : decode cX7_coolest 13 = .ok (.iload_n 2, 1) := by decide +kernel
theorem dX7_coolest_14 : decode cX7_coolest 14 = .ok (.bipush 50, 2) := by decide +kernel
theorem dX7_coolest_16 : decode cX7_coolest 16 = .ok (.if_icmp .gt 26, 3) := by decide +kernel
theorem dX7_coolest_19 : decode cX7_coolest 19 = .ok (.aload_n 0, 1) := by decide +kernel
theorem dX7_coolest_20 : decode cX7_coolest 20 = .ok (.getfield 10, 3) := by decide +kernel
theorem dX7_coolest_23 : decode cX7_coolest 23 = .ok (.iload_n 2, 1) := by decide +kernel
theorem dX7_coolest_24 : decode cX7_coolest 24 = .ok (.iload_n 1, 1) := by decide +kernel
theorem dX7_coolest_25 : decode cX7_coolest 25 = .ok (.invokevirtual 156, 3) := by decide +kernel
theorem dX7_coolest_28 : decode cX7_coolest 28 = .ok (.ifCond .gt 8, 3) := by decide +kernel
theorem dX7_coolest_31 : decode cX7_coolest 31 = .ok (.iload_n 2, 1) := by decide +kernel
theorem dX7_coolest_32 : decode cX7_coolest 32 = .ok (.bipush 100, 2) := by decide +kernel
theorem dX7_coolest_34 : decode cX7_coolest 34 = .ok (.iadd, 1) := by decide +kernel
theorem dX7_coolest_35 : decode cX7_coolest 35 = .ok (.ireturn, 1) := by decide +kernel
theorem dX7_coolest_36 : decode cX7_coolest 36 = .ok (.iinc 2 1, 3) := by decide +kernel
theorem dX7_coolest_39 : decode cX7_coolest 39 = .ok (.goto (-26), 3) := by decide +kernel
theorem dX7_coolest_42 : decode cX7_coolest 42 = .ok (.bipush (-6), 2) := by decide +kernel
theorem dX7_coolest_44 : decode cX7_coolest 44 = .ok (.ireturn, 1) := by decide +kernel
set_option maxRecDepth 20000 in
theorem ggX7_put_X7_signsIn : GoodIn wsX7_put wsX7_signsIn := goodIn_r _ [5, 6, 7, 4, 8] (by decide +kernel) (by decide +kernel)
set_option maxRecDepth 20000 in
theorem gX7_put_X7_signsIn : GoodIn wsX7_put (va_wsS RX7 178 yX7_signsIn wsX7_signsIn) := goodIn_app (goodIn_of _ (by decide +kernel)) ggX7_put_X7_signsIn
set_option maxRecDepth 20000 in
theorem ggX7_put_X7_codeAt : GoodIn wsX7_put wsX7_codeAt := goodIn_r _ [8] (by decide +kernel) (by decide +kernel)
set_option maxRecDepth 20000 in
theorem gX7_put_X7_codeAt : GoodIn wsX7_put (va_wsS RX7 182 yX7_codeAt wsX7_codeAt) := goodIn_app (goodIn_of _ (by decide +kernel)) ggX7_put_X7_codeAt
set_option maxRecDepth 20000 in
theorem ggX7_put_X4_append : GoodIn wsX7_put wsX4_append := goodIn_r _ [13, 14, 15, 30, 31] (by decide +kernel) (by decide +kernel)
set_option maxRecDepth 20000 in
theorem gX7_put_X4_append : GoodIn wsX7_put (wsV RX7 186 RX4 yX4_append wsX4_append) := goodIn_app (goodIn_of _ (by decide +kernel)) ggX7_put_X4_append
theorem dX7_put_0 : decode cX7_put 0 = .ok (.lload_n 1, 1) := by decide +kernel
theorem dX7_put_1 : decode cX7_put 1 = .ok (.invokestatic 178, 3) := by decide +kernel
theorem dX7_put_4 : decode cX7_put 4 = .ok (.istore_n 3, 1) := by decide +kernel
theorem dX7_put_5 : decode cX7_put 5 = .ok (.iload_n 3, 1) := by decide +kernel
theorem dX7_put_6 : decode cX7_put 6 = .ok (.ifCond .ne 6, 3) := by decide +kernel
theorem dX7_put_9 : decode cX7_put 9 = .ok (.bipush (-2), 2) := by decide +kernel
theorem dX7_put_11 : decode cX7_put 11 = .ok (.ireturn, 1) := by decide +kernel
theorem dX7_put_12 : decode cX7_put 12 = .ok (.aload_n 0, 1) := by decide +kernel
theorem dX7_put_13 : decode cX7_put 13 = .ok (.getfield 36, 3) := by decide +kernel
theorem dX7_put_16 : decode cX7_put 16 = .ok (.getfield 118, 3) := by decide +kernel
theorem dX7_put_19 : decode cX7_put 19 = .ok (.getfield 122, 3) := by decide +kernel
theorem dX7_put_22 : decode cX7_put 22 = .ok (.iload_n 3, 1) := by decide +kernel
theorem dX7_put_23 : decode cX7_put 23 = .ok (.iadd, 1) := by decide +kernel
theorem dX7_put_24 : decode cX7_put 24 = .ok (.bipush 80, 2) := by decide +kernel
theorem dX7_put_26 : decode cX7_put 26 = .ok (.if_icmp .le 6, 3) := by decide +kernel
theorem dX7_put_29 : decode cX7_put 29 = .ok (.bipush (-4), 2) := by decide +kernel
theorem dX7_put_31 : decode cX7_put 31 = .ok (.ireturn, 1) := by decide +kernel
theorem dX7_put_32 : decode cX7_put 32 = .ok (.iload_n 3, 1) := by decide +kernel
theorem dX7_put_33 : decode cX7_put 33 = .ok (.iconst 1, 1) := by decide +kernel
theorem dX7_put_34 : decode cX7_put 34 = .ok (.isub, 1) := by decide +kernel
theorem dX7_put_35 : decode cX7_put 35 = .ok (.istore 4, 2) := by decide +kernel
theorem dX7_put_37 : decode cX7_put 37 = .ok (.iload 4, 2) := by decide +kernel
theorem dX7_put_39 : decode cX7_put 39 = .ok (.ifCond .lt 26, 3) := by decide +kernel
theorem dX7_put_42 : decode cX7_put 42 = .ok (.aload_n 0, 1) := by decide +kernel
theorem dX7_put_43 : decode cX7_put 43 = .ok (.getfield 36, 3) := by decide +kernel
theorem dX7_put_46 : decode cX7_put 46 = .ok (.getfield 118, 3) := by decide +kernel
theorem dX7_put_49 : decode cX7_put 49 = .ok (.lload_n 1, 1) := by decide +kernel
theorem dX7_put_50 : decode cX7_put 50 = .ok (.iload 4, 2) := by decide +kernel
theorem dX7_put_52 : decode cX7_put 52 = .ok (.invokestatic 182, 3) := by decide +kernel
theorem dX7_put_55 : decode cX7_put 55 = .ok (.i2c, 1) := by decide +kernel
theorem dX7_put_56 : decode cX7_put 56 = .ok (.invokevirtual 186, 3) := by decide +kernel
theorem dX7_put_59 : decode cX7_put 59 = .ok (.iinc 4 (-1), 3) := by decide +kernel
theorem dX7_put_62 : decode cX7_put 62 = .ok (.goto (-25), 3) := by decide +kernel
theorem dX7_put_65 : decode cX7_put 65 = .ok (.aload_n 0, 1) := by decide +kernel
theorem dX7_put_66 : decode cX7_put 66 = .ok (.getfield 36, 3) := by decide +kernel
theorem dX7_put_69 : decode cX7_put 69 = .ok (.getfield 118, 3) := by decide +kernel
theorem dX7_put_72 : decode cX7_put 72 = .ok (.getfield 122, 3) := by decide +kernel
theorem dX7_put_75 : decode cX7_put 75 = .ok (.ireturn, 1) := by decide +kernel
theorem dX7_wipe_0 : decode cX7_wipe 0 = .ok (.aload_n 0, 1) := by decide +kernel
theorem dX7_wipe_1 : decode cX7_wipe 1 = .ok (.getfield 36, 3) := by decide +kernel
theorem dX7_wipe_4 : decode cX7_wipe 4 = .ok (.getfield 118, 3) := by decide +kernel
theorem dX7_wipe_7 : decode cX7_wipe 7 = .ok (.getfield 122, 3) := by decide +kernel
theorem dX7_wipe_10 : decode cX7_wipe 10 = .ok (.istore_n 1, 1) := by decide +kernel
theorem dX7_wipe_11 : decode cX7_wipe 11 = .ok (.aload_n 0, 1) := by decide +kernel
theorem dX7_wipe_12 : decode cX7_wipe 12 = .ok (.getfield 36, 3) := by decide +kernel
theorem dX7_wipe_15 : decode cX7_wipe 15 = .ok (.getfield 118, 3) := by decide +kernel
theorem dX7_wipe_18 : decode cX7_wipe 18 = .ok (.iconst 0, 1) := by decide +kernel
theorem dX7_wipe_19 : decode cX7_wipe 19 = .ok (.putfield 122, 3) := by decide +kernel
theorem dX7_wipe_22 : decode cX7_wipe 22 = .ok (.iload_n 1, 1) := by decide +kernel
theorem dX7_wipe_23 : decode cX7_wipe 23 = .ok (.ireturn, 1) := by decide +kernel
set_option maxRecDepth 20000 in
theorem ggX7_fault_X5_firstFault : GoodIn wsX7_fault wsX5_firstFault := goodIn_r _ [6, 7, 8, 9, 10, 11, 5, 12, 13, 14, 15, 16, 17, 18, 19, 20, 21, 22, 23, 24, 25, 26, 27, 28, 29, 30, 31, 32, 33, 34, 35, 36, 37, 38, 39, 40, 41, 42, 43, 44, 45, 46, 47, 48, 49, 50, 51, 52, 59, 60, 61, 62, 63, 64, 65, 66, 67, 68] (by decide +kernel) (by decide +kernel)
set_option maxRecDepth 20000 in
theorem gX7_fault_X5_firstFault : GoodIn wsX7_fault (wsV RX7 190 RX5 yX5_firstFault wsX5_firstFault) := goodIn_app (goodIn_of _ (by decide +kernel)) ggX7_fault_X5_firstFault
theorem dX7_fault_0 : decode cX7_fault 0 = .ok (.aload_n 0, 1) := by decide +kernel
theorem dX7_fault_1 : decode cX7_fault 1 = .ok (.getfield 36, 3) := by decide +kernel
theorem dX7_fault_4 : decode cX7_fault 4 = .ok (.invokevirtual 190, 3) := by decide +kernel
theorem dX7_fault_7 : decode cX7_fault 7 = .ok (.ireturn, 1) := by decide +kernel
set_option maxRecDepth 20000 in
theorem ggX7_carryOut_X5_firstFault : GoodIn wsX7_carryOut wsX5_firstFault := goodIn_r _ [8, 9, 10, 11, 12, 13, 7, 14, 15, 16, 17, 18, 19, 20, 21, 22, 23, 24, 25, 26, 27, 28, 29, 30, 31, 32, 33, 34, 35, 36, 37, 38, 39, 40, 41, 42, 43, 44, 45, 46, 47, 48, 49, 50, 51, 52, 53, 54, 185, 186, 187, 188, 189, 190, 191, 192, 193, 194] (by decide +kernel) (by decide +kernel)
set_option maxRecDepth 20000 in
theorem gX7_carryOut_X5_firstFault : GoodIn wsX7_carryOut (wsV RX7 190 RX5 yX5_firstFault wsX5_firstFault) := goodIn_app (goodIn_of _ (by decide +kernel)) ggX7_carryOut_X5_firstFault
set_option maxRecDepth 20000 in
theorem ggX7_carryOut_X2_record : GoodIn wsX7_carryOut wsX2_record := goodIn_r _ [59, 60, 61, 62, 63, 64, 65, 66, 67, 68, 69, 70, 71, 72, 73, 74, 75, 76, 77, 78, 79, 80, 81, 82, 83, 84, 85, 86, 87, 88, 89, 90, 91, 92, 93, 94, 95, 96, 195, 196, 197, 198, 199, 200, 201, 202, 203, 204, 205, 206, 207] (by decide +kernel) (by decide +kernel)
set_option maxRecDepth 20000 in
theorem gX7_carryOut_X2_record : GoodIn wsX7_carryOut (wsV RX7 51 RX2 yX2_record wsX2_record) := goodIn_app (goodIn_of _ (by decide +kernel)) ggX7_carryOut_X2_record
set_option maxRecDepth 20000 in
theorem ggX7_carryOut_X5_start : GoodIn wsX7_carryOut wsX5_start := goodIn_r _ [14, 9, 185, 186, 187, 188, 189, 190, 191, 192] (by decide +kernel) (by decide +kernel)
set_option maxRecDepth 20000 in
theorem gX7_carryOut_X5_start : GoodIn wsX7_carryOut (wsV RX7 193 RX5 yX5_start wsX5_start) := goodIn_app (goodIn_of _ (by decide +kernel)) ggX7_carryOut_X5_start
set_option maxRecDepth 20000 in
theorem ggX7_carryOut_X5_readOrder : GoodIn wsX7_carryOut wsX5_readOrder := goodIn_r _ [18, 10, 9, 19, 20, 21, 22, 23, 24, 25, 26, 27, 28, 29, 7, 30, 31, 32, 33, 34, 35, 36, 37, 38, 39, 40, 41, 42, 43, 44, 45, 46, 47, 48, 49, 50, 51, 52, 53, 54, 185, 186, 187, 188, 189, 190, 191, 192, 193, 194] (by decide +kernel) (by decide +kernel)
set_option maxRecDepth 20000 in
theorem gX7_carryOut_X5_readOrder : GoodIn wsX7_carryOut (wsV RX7 196 RX5 yX5_readOrder wsX5_readOrder) := goodIn_app (goodIn_of _ (by decide +kernel)) ggX7_carryOut_X5_readOrder
set_option maxRecDepth 20000 in
theorem ggX7_carryOut_X7_carryOutOrder : GoodIn wsX7_carryOut wsX7_carryOutOrder := goodIn_r _ [103, 1, 3, 104, 105, 106, 69, 107, 79, 108, 102, 109, 110, 111, 112, 113, 114, 115, 81, 116, 117, 118, 119, 76, 77, 120, 78, 80, 121, 122, 123, 124, 125, 126, 127, 128, 129, 130, 131, 132, 71, 133, 134, 135, 85, 136, 88, 87, 137, 138, 139, 140, 141, 142, 143, 92, 144, 96, 145, 146, 147, 148, 94, 149, 150, 151, 152, 153, 154, 155, 156, 157, 158, 159, 160, 161, 162, 163, 164, 165, 166, 167, 168, 169, 170, 171, 172, 173, 174, 175, 176, 177, 179, 180, 181, 182, 183, 184, 185, 186, 187, 188, 189, 190, 191, 192, 197, 198, 199, 200, 201, 202, 203, 204, 205, 206, 207] (by decide +kernel) (by decide +kernel)
set_option maxRecDepth 20000 in
theorem gX7_carryOut_X7_carryOutOrder : GoodIn wsX7_carryOut (wsV RX7 200 RX7 yX7_carryOutOrder wsX7_carryOutOrder) := goodIn_app (goodIn_of _ (by decide +kernel)) ggX7_carryOut_X7_carryOutOrder
set_option maxRecDepth 20000 in
theorem ggX7_carryOut_X5_readSign : GoodIn wsX7_carryOut wsX5_readSign := goodIn_r _ [43, 10, 9, 20, 21, 22, 23, 24, 25, 26, 185, 186, 187, 188, 189, 190, 191, 192, 193, 194] (by decide +kernel) (by decide +kernel)
set_option maxRecDepth 20000 in
theorem gX7_carryOut_X5_readSign : GoodIn wsX7_carryOut (wsV RX7 203 RX5 yX5_readSign wsX5_readSign) := goodIn_app (goodIn_of _ (by decide +kernel)) ggX7_carryOut_X5_readSign
theorem dX7_carryOut_0 : decode cX7_carryOut 0 = .ok (.aload_n 0, 1) := by decide +kernel
theorem dX7_carryOut_1 : decode cX7_carryOut 1 = .ok (.getfield 36, 3) := by decide +kernel
theorem dX7_carryOut_4 : decode cX7_carryOut 4 = .ok (.invokevirtual 190, 3) := by decide +kernel
theorem dX7_carryOut_7 : decode cX7_carryOut 7 = .ok (.bipush (-6), 2) := by decide +kernel
theorem dX7_carryOut_9 : decode cX7_carryOut 9 = .ok (.if_icmp .eq 6, 3) := by decide +kernel
theorem dX7_carryOut_12 : decode cX7_carryOut 12 = .ok (.bipush (-3), 2) := by decide +kernel
theorem dX7_carryOut_14 : decode cX7_carryOut 14 = .ok (.ireturn, 1) := by decide +kernel
theorem dX7_carryOut_15 : decode cX7_carryOut 15 = .ok (.aload_n 0, 1) := by decide +kernel
theorem dX7_carryOut_16 : decode cX7_carryOut 16 = .ok (.getfield 19, 3) := by decide +kernel
theorem dX7_carryOut_19 : decode cX7_carryOut 19 = .ok (.aload_n 0, 1) := by decide +kernel
theorem dX7_carryOut_20 : decode cX7_carryOut 20 = .ok (.getfield 10, 3) := by decide +kernel
theorem dX7_carryOut_23 : decode cX7_carryOut 23 = .ok (.invokevirtual 51, 3) := by decide +kernel
theorem dX7_carryOut_26 : decode cX7_carryOut 26 = .ok (.iconst 0, 1) := by decide +kernel
theorem dX7_carryOut_27 : decode cX7_carryOut 27 = .ok (.istore_n 1, 1) := by decide +kernel
theorem dX7_carryOut_28 : decode cX7_carryOut 28 = .ok (.aload_n 0, 1) := by decide +kernel
theorem dX7_carryOut_29 : decode cX7_carryOut 29 = .ok (.getfield 36, 3) := by decide +kernel
theorem dX7_carryOut_32 : decode cX7_carryOut 32 = .ok (.invokevirtual 193, 3) := by decide +kernel
theorem dX7_carryOut_35 : decode cX7_carryOut 35 = .ok (.iconst 0, 1) := by decide +kernel
theorem dX7_carryOut_36 : decode cX7_carryOut 36 = .ok (.istore_n 2, 1) := by decide +kernel
theorem dX7_carryOut_37 : decode cX7_carryOut 37 = .ok (.iload_n 2, 1) := by decide +kernel
theorem dX7_carryOut_38 : decode cX7_carryOut 38 = .ok (.bipush 80, 2) := by decide +kernel
theorem dX7_carryOut_40 : decode cX7_carryOut 40 = .ok (.if_icmp .ge 47, 3) := by decide +kernel
theorem dX7_carryOut_43 : decode cX7_carryOut 43 = .ok (.aload_n 0, 1) := by decide +kernel
theorem dX7_carryOut_44 : decode cX7_carryOut 44 = .ok (.getfield 36, 3) := by decide +kernel
theorem dX7_carryOut_47 : decode cX7_carryOut 47 = .ok (.invokevirtual 196, 3) := by decide +kernel
theorem dX7_carryOut_50 : decode cX7_carryOut 50 = .ok (.ifCond .eq 37, 3) := by decide +kernel
theorem dX7_carryOut_53 : decode cX7_carryOut 53 = .ok (.aload_n 0, 1) := by decide +kernel
theorem dX7_carryOut_54 : decode cX7_carryOut 54 = .ok (.invokevirtual 200, 3) := by decide +kernel
theorem dX7_carryOut_57 : decode cX7_carryOut 57 = .ok (.ifCond .ne 6, 3) := by decide +kernel
theorem dX7_carryOut_60 : decode cX7_carryOut 60 = .ok (.goto 27, 3) := by decide +kernel
theorem dX7_carryOut_63 : decode cX7_carryOut 63 = .ok (.iinc 1 1, 3) := by decide +kernel
theorem dX7_carryOut_66 : decode cX7_carryOut 66 = .ok (.aload_n 0, 1) := by decide +kernel
theorem dX7_carryOut_67 : decode cX7_carryOut 67 = .ok (.getfield 36, 3) := by decide +kernel
theorem dX7_carryOut_70 : decode cX7_carryOut 70 = .ok (.bipush 59, 2) := by decide +kernel
theorem dX7_carryOut_72 : decode cX7_carryOut 72 = .ok (.invokevirtual 203, 3) := by decide +kernel
theorem dX7_carryOut_75 : decode cX7_carryOut 75 = .ok (.ifCond .ne 6, 3) := by decide +kernel
theorem dX7_carryOut_78 : decode cX7_carryOut 78 = .ok (.goto 9, 3) := by decide +kernel
theorem dX7_carryOut_81 : decode cX7_carryOut 81 = .ok (.iinc 2 1, 3) := by decide +kernel
theorem dX7_carryOut_84 : decode cX7_carryOut 84 = .ok (.goto (-47), 3) := by decide +kernel
theorem dX7_carryOut_87 : decode cX7_carryOut 87 = .ok (.aload_n 0, 1) := by decide +kernel
theorem dX7_carryOut_88 : decode cX7_carryOut 88 = .ok (.getfield 36, 3) := by decide +kernel
theorem dX7_carryOut_91 : decode cX7_carryOut 91 = .ok (.getfield 118, 3) := by decide +kernel
theorem dX7_carryOut_94 : decode cX7_carryOut 94 = .ok (.iconst 0, 1) := by decide +kernel
theorem dX7_carryOut_95 : decode cX7_carryOut 95 = .ok (.putfield 122, 3) := by decide +kernel
theorem dX7_carryOut_98 : decode cX7_carryOut 98 = .ok (.iload_n 1, 1) := by decide +kernel
theorem dX7_carryOut_99 : decode cX7_carryOut 99 = .ok (.ireturn, 1) := by decide +kernel
set_option maxRecDepth 20000 in
theorem ggX7_undo_X2_takeBack : GoodIn wsX7_undo wsX2_takeBack := goodIn_r _ [7, 8, 9, 10, 11, 12, 13, 14, 15, 16, 17, 18, 19, 20, 21, 22, 23, 24, 25, 26, 27, 28, 29, 30, 31, 32, 33, 34, 35, 36, 37, 38, 39, 40, 47, 48, 49, 50, 51, 52, 53, 54, 55, 56, 57, 58, 59] (by decide +kernel) (by decide +kernel)
set_option maxRecDepth 20000 in
theorem gX7_undo_X2_takeBack : GoodIn wsX7_undo (wsV RX7 207 RX2 yX2_takeBack wsX2_takeBack) := goodIn_app (goodIn_of _ (by decide +kernel)) ggX7_undo_X2_takeBack
theorem dX7_undo_0 : decode cX7_undo 0 = .ok (.aload_n 0, 1) := by decide +kernel
theorem dX7_undo_1 : decode cX7_undo 1 = .ok (.getfield 19, 3) := by decide +kernel
theorem dX7_undo_4 : decode cX7_undo 4 = .ok (.getfield 126, 3) := by decide +kernel
theorem dX7_undo_7 : decode cX7_undo 7 = .ok (.ifCond .ne 6, 3) := by decide +kernel
theorem dX7_undo_10 : decode cX7_undo 10 = .ok (.bipush (-5), 2) := by decide +kernel
theorem dX7_undo_12 : decode cX7_undo 12 = .ok (.ireturn, 1) := by decide +kernel
theorem dX7_undo_13 : decode cX7_undo 13 = .ok (.aload_n 0, 1) := by decide +kernel
theorem dX7_undo_14 : decode cX7_undo 14 = .ok (.getfield 19, 3) := by decide +kernel
theorem dX7_undo_17 : decode cX7_undo 17 = .ok (.aload_n 0, 1) := by decide +kernel
theorem dX7_undo_18 : decode cX7_undo 18 = .ok (.getfield 10, 3) := by decide +kernel
theorem dX7_undo_21 : decode cX7_undo 21 = .ok (.invokevirtual 207, 3) := by decide +kernel
theorem dX7_undo_24 : decode cX7_undo 24 = .ok (.aload_n 0, 1) := by decide +kernel
theorem dX7_undo_25 : decode cX7_undo 25 = .ok (.getfield 19, 3) := by decide +kernel
theorem dX7_undo_28 : decode cX7_undo 28 = .ok (.getfield 126, 3) := by decide +kernel
theorem dX7_undo_31 : decode cX7_undo 31 = .ok (.ireturn, 1) := by decide +kernel
set_option maxRecDepth 20000 in
theorem ggX7_save_X0_become : GoodIn wsX7_save wsX0_become := goodIn_r _ [8, 9, 10, 11, 12, 13, 14, 15, 16, 17, 18, 19, 20, 21, 22, 23, 24, 25, 26, 27, 28, 29, 30, 31, 32, 33, 34, 43, 44, 45, 46, 47, 48, 49, 50, 51, 52, 53] (by decide +kernel) (by decide +kernel)
set_option maxRecDepth 20000 in
theorem gX7_save_X0_become : GoodIn wsX7_save (wsV RX7 213 RX0 yX0_become wsX0_become) := goodIn_app (goodIn_of _ (by decide +kernel)) ggX7_save_X0_become
theorem dX7_save_0 : decode cX7_save 0 = .ok (.iload_n 1, 1) := by decide +kernel
theorem dX7_save_1 : decode cX7_save 1 = .ok (.ifCond .eq 11, 3) := by decide +kernel
theorem dX7_save_4 : decode cX7_save 4 = .ok (.iload_n 1, 1) := by decide +kernel
theorem dX7_save_5 : decode cX7_save 5 = .ok (.iconst 1, 1) := by decide +kernel
theorem dX7_save_6 : decode cX7_save 6 = .ok (.if_icmp .eq 6, 3) := by decide +kernel
theorem dX7_save_9 : decode cX7_save 9 = .ok (.bipush (-2), 2) := by decide +kernel
theorem dX7_save_11 : decode cX7_save 11 = .ok (.ireturn, 1) := by decide +kernel
theorem dX7_save_12 : decode cX7_save 12 = .ok (.iload_n 1, 1) := by decide +kernel
theorem dX7_save_13 : decode cX7_save 13 = .ok (.ifCond .ne 10, 3) := by decide +kernel
theorem dX7_save_16 : decode cX7_save 16 = .ok (.aload_n 0, 1) := by decide +kernel
theorem dX7_save_17 : decode cX7_save 17 = .ok (.getfield 26, 3) := by decide +kernel
theorem dX7_save_20 : decode cX7_save 20 = .ok (.goto 7, 3) := by decide +kernel
theorem dX7_save_23 : decode cX7_save 23 = .ok (.aload_n 0, 1) := by decide +kernel
theorem dX7_save_24 : decode cX7_save 24 = .ok (.getfield 30, 3) := by decide +kernel
theorem dX7_save_27 : decode cX7_save 27 = .ok (.astore_n 2, 1) := by decide +kernel
theorem dX7_save_28 : decode cX7_save 28 = .ok (.aload_n 2, 1) := by decide +kernel
theorem dX7_save_29 : decode cX7_save 29 = .ok (.getfield 210, 3) := by decide +kernel
theorem dX7_save_32 : decode cX7_save 32 = .ok (.aload_n 0, 1) := by decide +kernel
theorem dX7_save_33 : decode cX7_save 33 = .ok (.getfield 10, 3) := by decide +kernel
theorem dX7_save_36 : decode cX7_save 36 = .ok (.invokevirtual 213, 3) := by decide +kernel
theorem dX7_save_39 : decode cX7_save 39 = .ok (.aload_n 2, 1) := by decide +kernel
theorem dX7_save_40 : decode cX7_save 40 = .ok (.iconst 1, 1) := by decide +kernel
theorem dX7_save_41 : decode cX7_save 41 = .ok (.putfield 215, 3) := by decide +kernel
theorem dX7_save_44 : decode cX7_save 44 = .ok (.aload_n 0, 1) := by decide +kernel
theorem dX7_save_45 : decode cX7_save 45 = .ok (.getfield 10, 3) := by decide +kernel
theorem dX7_save_48 : decode cX7_save 48 = .ok (.getfield 106, 3) := by decide +kernel
theorem dX7_save_51 : decode cX7_save 51 = .ok (.ireturn, 1) := by decide +kernel
set_option maxRecDepth 20000 in
theorem ggX7_restore_X2_record : GoodIn wsX7_restore wsX2_record := goodIn_r _ [9, 10, 11, 12, 13, 14, 15, 16, 17, 18, 19, 20, 21, 22, 23, 24, 25, 26, 27, 28, 29, 30, 31, 32, 33, 34, 35, 36, 37, 38, 39, 40, 41, 42, 43, 44, 45, 46, 63, 64, 56, 57, 58, 59, 60, 61, 62, 65, 66, 67, 68] (by decide +kernel) (by decide +kernel)
set_option maxRecDepth 20000 in
theorem gX7_restore_X2_record : GoodIn wsX7_restore (wsV RX7 51 RX2 yX2_record wsX2_record) := goodIn_app (goodIn_of _ (by decide +kernel)) ggX7_restore_X2_record
set_option maxRecDepth 20000 in
theorem ggX7_restore_X0_become : GoodIn wsX7_restore wsX0_become := goodIn_r _ [20, 21, 22, 23, 24, 25, 26, 27, 28, 29, 30, 31, 32, 33, 34, 35, 36, 37, 38, 39, 40, 41, 42, 43, 44, 45, 46, 56, 57, 58, 59, 60, 61, 62, 65, 66, 67, 68] (by decide +kernel) (by decide +kernel)
set_option maxRecDepth 20000 in
theorem gX7_restore_X0_become : GoodIn wsX7_restore (wsV RX7 213 RX0 yX0_become wsX0_become) := goodIn_app (goodIn_of _ (by decide +kernel)) ggX7_restore_X0_become
theorem dX7_restore_0 : decode cX7_restore 0 = .ok (.iload_n 1, 1) := by decide +kernel
theorem dX7_restore_1 : decode cX7_restore 1 = .ok (.ifCond .eq 11, 3) := by decide +kernel
theorem dX7_restore_4 : decode cX7_restore 4 = .ok (.iload_n 1, 1) := by decide +kernel
theorem dX7_restore_5 : decode cX7_restore 5 = .ok (.iconst 1, 1) := by decide +kernel
theorem dX7_restore_6 : decode cX7_restore 6 = .ok (.if_icmp .eq 6, 3) := by decide +kernel
theorem dX7_restore_9 : decode cX7_restore 9 = .ok (.bipush (-2), 2) := by decide +kernel
theorem dX7_restore_11 : decode cX7_restore 11 = .ok (.ireturn, 1) := by decide +kernel
theorem dX7_restore_12 : decode cX7_restore 12 = .ok (.iload_n 1, 1) := by decide +kernel
theorem dX7_restore_13 : decode cX7_restore 13 = .ok (.ifCond .ne 10, 3) := by decide +kernel
theorem dX7_restore_16 : decode cX7_restore 16 = .ok (.aload_n 0, 1) := by decide +kernel
theorem dX7_restore_17 : decode cX7_restore 17 = .ok (.getfield 26, 3) := by decide +kernel
theorem dX7_restore_20 : decode cX7_restore 20 = .ok (.goto 7, 3) := by decide +kernel
theorem dX7_restore_23 : decode cX7_restore 23 = .ok (.aload_n 0, 1) := by decide +kernel
theorem dX7_restore_24 : decode cX7_restore 24 = .ok (.getfield 30, 3) := by decide +kernel
theorem dX7_restore_27 : decode cX7_restore 27 = .ok (.astore_n 2, 1) := by decide +kernel
theorem dX7_restore_28 : decode cX7_restore 28 = .ok (.aload_n 2, 1) := by decide +kernel
theorem dX7_restore_29 : decode cX7_restore 29 = .ok (.getfield 215, 3) := by decide +kernel
theorem dX7_restore_32 : decode cX7_restore 32 = .ok (.ifCond .ne 6, 3) := by decide +kernel
theorem dX7_restore_35 : decode cX7_restore 35 = .ok (.bipush (-5), 2) := by decide +kernel
theorem dX7_restore_37 : decode cX7_restore 37 = .ok (.ireturn, 1) := by decide +kernel
theorem dX7_restore_38 : decode cX7_restore 38 = .ok (.aload_n 0, 1) := by decide +kernel
theorem dX7_restore_39 : decode cX7_restore 39 = .ok (.getfield 19, 3) := by decide +kernel
theorem dX7_restore_42 : decode cX7_restore 42 = .ok (.aload_n 0, 1) := by decide +kernel
theorem dX7_restore_43 : decode cX7_restore 43 = .ok (.getfield 10, 3) := by decide +kernel
theorem dX7_restore_46 : decode cX7_restore 46 = .ok (.invokevirtual 51, 3) := by decide +kernel
theorem dX7_restore_49 : decode cX7_restore 49 = .ok (.aload_n 0, 1) := by decide +kernel
theorem dX7_restore_50 : decode cX7_restore 50 = .ok (.getfield 10, 3) := by decide +kernel
theorem dX7_restore_53 : decode cX7_restore 53 = .ok (.aload_n 2, 1) := by decide +kernel
theorem dX7_restore_54 : decode cX7_restore 54 = .ok (.getfield 210, 3) := by decide +kernel
theorem dX7_restore_57 : decode cX7_restore 57 = .ok (.invokevirtual 213, 3) := by decide +kernel
theorem dX7_restore_60 : decode cX7_restore 60 = .ok (.aload_n 0, 1) := by decide +kernel
theorem dX7_restore_61 : decode cX7_restore 61 = .ok (.getfield 10, 3) := by decide +kernel
theorem dX7_restore_64 : decode cX7_restore 64 = .ok (.getfield 106, 3) := by decide +kernel
theorem dX7_restore_67 : decode cX7_restore 67 = .ok (.ireturn, 1) := by decide +kernel
set_option maxRecDepth 20000 in
theorem ggX7_carryOutOrder_X0_errorOfHours : GoodIn wsX7_carryOutOrder wsX0_errorOfHours := goodIn_r _ [7, 8, 9, 10, 11, 12, 13, 106, 107, 108, 109, 110, 111, 112] (by decide +kernel) (by decide +kernel)
set_option maxRecDepth 20000 in
theorem gX7_carryOutOrder_X0_errorOfHours : GoodIn wsX7_carryOutOrder (wsV RX7 65 RX0 yX0_errorOfHours wsX0_errorOfHours) := goodIn_app (goodIn_of _ (by decide +kernel)) ggX7_carryOutOrder_X0_errorOfHours
set_option maxRecDepth 20000 in
theorem ggX7_carryOutOrder_X0_goHours : GoodIn wsX7_carryOutOrder wsX0_goHours := goodIn_r _ [17, 18, 19, 20, 21, 6, 22, 23, 24, 25, 26, 8, 27, 28, 29, 30, 31, 32, 33, 34, 35, 36, 37, 38, 39, 40, 41, 42, 43, 44, 45, 46, 47, 48, 49, 50, 51, 52, 53, 54, 55, 56, 57, 58, 59, 60, 61, 62, 63, 64, 65, 66, 67, 68, 69, 70, 71, 72, 73, 74, 106, 107, 108, 109, 110, 111, 112, 113, 114, 115, 116] (by decide +kernel) (by decide +kernel)
set_option maxRecDepth 20000 in
theorem gX7_carryOutOrder_X0_goHours : GoodIn wsX7_carryOutOrder (wsV RX7 69 RX0 yX0_goHours wsX0_goHours) := goodIn_app (goodIn_of _ (by decide +kernel)) ggX7_carryOutOrder_X0_goHours
set_option maxRecDepth 20000 in
theorem ggX7_carryOutOrder_X0_errorOfWeight : GoodIn wsX7_carryOutOrder wsX0_errorOfWeight := goodIn_r _ [78] (by decide +kernel) (by decide +kernel)
set_option maxRecDepth 20000 in
theorem gX7_carryOutOrder_X0_errorOfWeight : GoodIn wsX7_carryOutOrder (wsV RX7 58 RX0 yX0_errorOfWeight wsX0_errorOfWeight) := goodIn_app (goodIn_of _ (by decide +kernel)) ggX7_carryOutOrder_X0_errorOfWeight
set_option maxRecDepth 20000 in
theorem ggX7_carryOutOrder_X0_moveWeight : GoodIn wsX7_carryOutOrder wsX0_moveWeight := goodIn_r _ [82, 26, 106, 107, 108, 109, 110, 111, 112] (by decide +kernel) (by decide +kernel)
set_option maxRecDepth 20000 in
theorem gX7_carryOutOrder_X0_moveWeight : GoodIn wsX7_carryOutOrder (wsV RX7 62 RX0 yX0_moveWeight wsX0_moveWeight) := goodIn_app (goodIn_of _ (by decide +kernel)) ggX7_carryOutOrder_X0_moveWeight
set_option maxRecDepth 20000 in
theorem ggX7_carryOutOrder_X0_errorOfSetting : GoodIn wsX7_carryOutOrder wsX0_errorOfSetting := goodIn_r _ [86] (by decide +kernel) (by decide +kernel)
set_option maxRecDepth 20000 in
theorem gX7_carryOutOrder_X0_errorOfSetting : GoodIn wsX7_carryOutOrder (wsV RX7 47 RX0 yX0_errorOfSetting wsX0_errorOfSetting) := goodIn_app (goodIn_of _ (by decide +kernel)) ggX7_carryOutOrder_X0_errorOfSetting
set_option maxRecDepth 20000 in
theorem ggX7_carryOutOrder_X0_changeSetting : GoodIn wsX7_carryOutOrder wsX0_changeSetting := goodIn_r _ [90, 40, 36, 37, 38, 6, 39, 106, 107, 108, 109, 110, 111, 112] (by decide +kernel) (by decide +kernel)
set_option maxRecDepth 20000 in
theorem gX7_carryOutOrder_X0_changeSetting : GoodIn wsX7_carryOutOrder (wsV RX7 55 RX0 yX0_changeSetting wsX0_changeSetting) := goodIn_app (goodIn_of _ (by decide +kernel)) ggX7_carryOutOrder_X0_changeSetting
set_option maxRecDepth 20000 in
theorem ggX7_carryOutOrder_X1_clear : GoodIn wsX7_carryOutOrder wsX1_clear := goodIn_r _ [74, 47, 46, 113, 114] (by decide +kernel) (by decide +kernel)
set_option maxRecDepth 20000 in
theorem gX7_carryOutOrder_X1_clear : GoodIn wsX7_carryOutOrder (wsV RX7 79 RX1 yX1_clear wsX1_clear) := goodIn_app (goodIn_of _ (by decide +kernel)) ggX7_carryOutOrder_X1_clear
theorem dX7_carryOutOrder_0 : decode cX7_carryOutOrder 0 = .ok (.aload_n 0, 1) := by decide +kernel
theorem dX7_carryOutOrder_1 : decode cX7_carryOutOrder 1 = .ok (.getfield 36, 3) := by decide +kernel
theorem dX7_carryOutOrder_4 : decode cX7_carryOutOrder 4 = .ok (.getfield 219, 3) := by decide +kernel
theorem dX7_carryOutOrder_7 : decode cX7_carryOutOrder 7 = .ok (.lookupswitch 185 #[(98, 147), (104, 33), (119, 111)], 33) := by decide +kernel
theorem dX7_carryOutOrder_40 : decode cX7_carryOutOrder 40 = .ok (.aload_n 0, 1) := by decide +kernel
theorem dX7_carryOutOrder_41 : decode cX7_carryOutOrder 41 = .ok (.getfield 10, 3) := by decide +kernel
theorem dX7_carryOutOrder_44 : decode cX7_carryOutOrder 44 = .ok (.aload_n 0, 1) := by decide +kernel
theorem dX7_carryOutOrder_45 : decode cX7_carryOutOrder 45 = .ok (.getfield 36, 3) := by decide +kernel
theorem dX7_carryOutOrder_48 : decode cX7_carryOutOrder 48 = .ok (.getfield 222, 3) := by decide +kernel
theorem dX7_carryOutOrder_51 : decode cX7_carryOutOrder 51 = .ok (.aload_n 0, 1) := by decide +kernel
theorem dX7_carryOutOrder_52 : decode cX7_carryOutOrder 52 = .ok (.getfield 36, 3) := by decide +kernel
theorem dX7_carryOutOrder_55 : decode cX7_carryOutOrder 55 = .ok (.getfield 225, 3) := by decide +kernel
theorem dX7_carryOutOrder_58 : decode cX7_carryOutOrder 58 = .ok (.aload_n 0, 1) := by decide +kernel
theorem dX7_carryOutOrder_59 : decode cX7_carryOutOrder 59 = .ok (.getfield 36, 3) := by decide +kernel
theorem dX7_carryOutOrder_62 : decode cX7_carryOutOrder 62 = .ok (.getfield 228, 3) := by decide +kernel
theorem dX7_carryOutOrder_65 : decode cX7_carryOutOrder 65 = .ok (.aload_n 0, 1) := by decide +kernel
theorem dX7_carryOutOrder_66 : decode cX7_carryOutOrder 66 = .ok (.getfield 36, 3) := by decide +kernel
theorem dX7_carryOutOrder_69 : decode cX7_carryOutOrder 69 = .ok (.getfield 231, 3) := by decide +kernel
theorem dX7_carryOutOrder_72 : decode cX7_carryOutOrder 72 = .ok (.invokevirtual 65, 3) := by decide +kernel
theorem dX7_carryOutOrder_75 : decode cX7_carryOutOrder 75 = .ok (.ifCond .eq 5, 3) := by decide +kernel
theorem dX7_carryOutOrder_78 : decode cX7_carryOutOrder 78 = .ok (.iconst 0, 1) := by decide +kernel
theorem dX7_carryOutOrder_79 : decode cX7_carryOutOrder 79 = .ok (.ireturn, 1) := by decide +kernel
theorem dX7_carryOutOrder_80 : decode cX7_carryOutOrder 80 = .ok (.aload_n 0, 1) := by decide +kernel
theorem dX7_carryOutOrder_81 : decode cX7_carryOutOrder 81 = .ok (.getfield 10, 3) := by decide +kernel
theorem dX7_carryOutOrder_84 : decode cX7_carryOutOrder 84 = .ok (.aload_n 0, 1) := by decide +kernel
theorem dX7_carryOutOrder_85 : decode cX7_carryOutOrder 85 = .ok (.getfield 36, 3) := by decide +kernel
theorem dX7_carryOutOrder_88 : decode cX7_carryOutOrder 88 = .ok (.getfield 222, 3) := by decide +kernel
theorem dX7_carryOutOrder_91 : decode cX7_carryOutOrder 91 = .ok (.aload_n 0, 1) := by decide +kernel
theorem dX7_carryOutOrder_92 : decode cX7_carryOutOrder 92 = .ok (.getfield 36, 3) := by decide +kernel
theorem dX7_carryOutOrder_95 : decode cX7_carryOutOrder 95 = .ok (.getfield 225, 3) := by decide +kernel
theorem dX7_carryOutOrder_98 : decode cX7_carryOutOrder 98 = .ok (.aload_n 0, 1) := by decide +kernel
theorem dX7_carryOutOrder_99 : decode cX7_carryOutOrder 99 = .ok (.getfield 36, 3) := by decide +kernel
theorem dX7_carryOutOrder_102 : decode cX7_carryOutOrder 102 = .ok (.getfield 228, 3) := by decide +kernel
theorem dX7_carryOutOrder_105 : decode cX7_carryOutOrder 105 = .ok (.aload_n 0, 1) := by decide +kernel
theorem dX7_carryOutOrder_106 : decode cX7_carryOutOrder 106 = .ok (.getfield 36, 3) := by decide +kernel
theorem dX7_carryOutOrder_109 : decode cX7_carryOutOrder 109 = .ok (.getfield 231, 3) := by decide +kernel
theorem dX7_carryOutOrder_112 : decode cX7_carryOutOrder 112 = .ok (.invokevirtual 69, 3) := by decide +kernel
theorem dX7_carryOutOrder_115 : decode cX7_carryOutOrder 115 = .ok (.pop, 1) := by decide +kernel
theorem dX7_carryOutOrder_116 : decode cX7_carryOutOrder 116 = .ok (.iconst 1, 1) := by decide +kernel
theorem dX7_carryOutOrder_117 : decode cX7_carryOutOrder 117 = .ok (.ireturn, 1) := by decide +kernel
theorem dX7_carryOutOrder_118 : decode cX7_carryOutOrder 118 = .ok (.aload_n 0, 1) := by decide +kernel
theorem dX7_carryOutOrder_119 : decode cX7_carryOutOrder 119 = .ok (.getfield 10, 3) := by decide +kernel
theorem dX7_carryOutOrder_122 : decode cX7_carryOutOrder 122 = .ok (.aload_n 0, 1) := by decide +kernel
theorem dX7_carryOutOrder_123 : decode cX7_carryOutOrder 123 = .ok (.getfield 36, 3) := by decide +kernel
theorem dX7_carryOutOrder_126 : decode cX7_carryOutOrder 126 = .ok (.getfield 222, 3) := by decide +kernel
theorem dX7_carryOutOrder_129 : decode cX7_carryOutOrder 129 = .ok (.invokevirtual 58, 3) := by decide +kernel
theorem dX7_carryOutOrder_132 : decode cX7_carryOutOrder 132 = .ok (.ifCond .eq 5, 3) := by decide +kernel
theorem dX7_carryOutOrder_135 : decode cX7_carryOutOrder 135 = .ok (.iconst 0, 1) := by decide +kernel
theorem dX7_carryOutOrder_136 : decode cX7_carryOutOrder 136 = .ok (.ireturn, 1) := by decide +kernel
theorem dX7_carryOutOrder_137 : decode cX7_carryOutOrder 137 = .ok (.aload_n 0, 1) := by decide +kernel
theorem dX7_carryOutOrder_138 : decode cX7_carryOutOrder 138 = .ok (.getfield 10, 3) := by decide +kernel
theorem dX7_carryOutOrder_141 : decode cX7_carryOutOrder 141 = .ok (.aload_n 0, 1) := by decide +kernel
theorem dX7_carryOutOrder_142 : decode cX7_carryOutOrder 142 = .ok (.getfield 36, 3) := by decide +kernel
theorem dX7_carryOutOrder_145 : decode cX7_carryOutOrder 145 = .ok (.getfield 222, 3) := by decide +kernel
theorem dX7_carryOutOrder_148 : decode cX7_carryOutOrder 148 = .ok (.invokevirtual 62, 3) := by decide +kernel
theorem dX7_carryOutOrder_151 : decode cX7_carryOutOrder 151 = .ok (.pop, 1) := by decide +kernel
theorem dX7_carryOutOrder_152 : decode cX7_carryOutOrder 152 = .ok (.iconst 1, 1) := by decide +kernel
theorem dX7_carryOutOrder_153 : decode cX7_carryOutOrder 153 = .ok (.ireturn, 1) := by decide +kernel
theorem dX7_carryOutOrder_154 : decode cX7_carryOutOrder 154 = .ok (.aload_n 0, 1) := by decide +kernel
theorem dX7_carryOutOrder_155 : decode cX7_carryOutOrder 155 = .ok (.getfield 10, 3) := by decide +kernel
theorem dX7_carryOutOrder_158 : decode cX7_carryOutOrder 158 = .ok (.iconst 2, 1) := by decide +kernel
theorem dX7_carryOutOrder_159 : decode cX7_carryOutOrder 159 = .ok (.aload_n 0, 1) := by decide +kernel
theorem dX7_carryOutOrder_160 : decode cX7_carryOutOrder 160 = .ok (.getfield 36, 3) := by decide +kernel
theorem dX7_carryOutOrder_163 : decode cX7_carryOutOrder 163 = .ok (.getfield 222, 3) := by decide +kernel
theorem dX7_carryOutOrder_166 : decode cX7_carryOutOrder 166 = .ok (.invokevirtual 47, 3) := by decide +kernel
theorem dX7_carryOutOrder_169 : decode cX7_carryOutOrder 169 = .ok (.ifCond .eq 5, 3) := by decide +kernel
theorem dX7_carryOutOrder_172 : decode cX7_carryOutOrder 172 = .ok (.iconst 0, 1) := by decide +kernel
theorem dX7_carryOutOrder_173 : decode cX7_carryOutOrder 173 = .ok (.ireturn, 1) := by decide +kernel
theorem dX7_carryOutOrder_174 : decode cX7_carryOutOrder 174 = .ok (.aload_n 0, 1) := by decide +kernel
theorem dX7_carryOutOrder_175 : decode cX7_carryOutOrder 175 = .ok (.getfield 10, 3) := by decide +kernel
theorem dX7_carryOutOrder_178 : decode cX7_carryOutOrder 178 = .ok (.iconst 2, 1) := by decide +kernel
theorem dX7_carryOutOrder_179 : decode cX7_carryOutOrder 179 = .ok (.aload_n 0, 1) := by decide +kernel
theorem dX7_carryOutOrder_180 : decode cX7_carryOutOrder 180 = .ok (.getfield 36, 3) := by decide +kernel
theorem dX7_carryOutOrder_183 : decode cX7_carryOutOrder 183 = .ok (.getfield 222, 3) := by decide +kernel
theorem dX7_carryOutOrder_186 : decode cX7_carryOutOrder 186 = .ok (.invokevirtual 55, 3) := by decide +kernel
theorem dX7_carryOutOrder_189 : decode cX7_carryOutOrder 189 = .ok (.pop, 1) := by decide +kernel
theorem dX7_carryOutOrder_190 : decode cX7_carryOutOrder 190 = .ok (.iconst 1, 1) := by decide +kernel
theorem dX7_carryOutOrder_191 : decode cX7_carryOutOrder 191 = .ok (.ireturn, 1) := by decide +kernel
theorem dX7_carryOutOrder_192 : decode cX7_carryOutOrder 192 = .ok (.aload_n 0, 1) := by decide +kernel
theorem dX7_carryOutOrder_193 : decode cX7_carryOutOrder 193 = .ok (.getfield 10, 3) := by decide +kernel
theorem dX7_carryOutOrder_196 : decode cX7_carryOutOrder 196 = .ok (.getfield 72, 3) := by decide +kernel
theorem dX7_carryOutOrder_199 : decode cX7_carryOutOrder 199 = .ok (.invokevirtual 79, 3) := by decide +kernel
theorem dX7_carryOutOrder_202 : decode cX7_carryOutOrder 202 = .ok (.iconst 1, 1) := by decide +kernel
theorem dX7_carryOutOrder_203 : decode cX7_carryOutOrder 203 = .ok (.ireturn, 1) := by decide +kernel
theorem dX7_isHeat_0 : decode cX7_isHeat 0 = .ok (.iload_n 0, 1) := by decide +kernel
theorem dX7_isHeat_1 : decode cX7_isHeat 1 = .ok (.bipush (-20), 2) := by decide +kernel
theorem dX7_isHeat_3 : decode cX7_isHeat 3 = .ok (.if_icmp .lt 13, 3) := by decide +kernel
theorem dX7_isHeat_6 : decode cX7_isHeat 6 = .ok (.iload_n 0, 1) := by decide +kernel
theorem dX7_isHeat_7 : decode cX7_isHeat 7 = .ok (.bipush 50, 2) := by decide +kernel
theorem dX7_isHeat_9 : decode cX7_isHeat 9 = .ok (.if_icmp .gt 7, 3) := by decide +kernel
theorem dX7_isHeat_12 : decode cX7_isHeat 12 = .ok (.iconst 1, 1) := by decide +kernel
theorem dX7_isHeat_13 : decode cX7_isHeat 13 = .ok (.goto 4, 3) := by decide +kernel
theorem dX7_isHeat_16 : decode cX7_isHeat 16 = .ok (.iconst 0, 1) := by decide +kernel
theorem dX7_isHeat_17 : decode cX7_isHeat 17 = .ok (.ireturn, 1) := by decide +kernel
theorem dX7_isAir_0 : decode cX7_isAir 0 = .ok (.iload_n 0, 1) := by decide +kernel
theorem dX7_isAir_1 : decode cX7_isAir 1 = .ok (.sipush 800, 3) := by decide +kernel
theorem dX7_isAir_4 : decode cX7_isAir 4 = .ok (.if_icmp .lt 14, 3) := by decide +kernel
theorem dX7_isAir_7 : decode cX7_isAir 7 = .ok (.iload_n 0, 1) := by decide +kernel
theorem dX7_isAir_8 : decode cX7_isAir 8 = .ok (.sipush 1200, 3) := by decide +kernel
theorem dX7_isAir_11 : decode cX7_isAir 11 = .ok (.if_icmp .gt 7, 3) := by decide +kernel
theorem dX7_isAir_14 : decode cX7_isAir 14 = .ok (.iconst 1, 1) := by decide +kernel
theorem dX7_isAir_15 : decode cX7_isAir 15 = .ok (.goto 4, 3) := by decide +kernel
theorem dX7_isAir_18 : decode cX7_isAir 18 = .ok (.iconst 0, 1) := by decide +kernel
theorem dX7_isAir_19 : decode cX7_isAir 19 = .ok (.ireturn, 1) := by decide +kernel
theorem dX7_codeAt_0 : decode cX7_codeAt 0 = .ok (.lload_n 0, 1) := by decide +kernel
theorem dX7_codeAt_1 : decode cX7_codeAt 1 = .ok (.bipush 8, 2) := by decide +kernel
theorem dX7_codeAt_3 : decode cX7_codeAt 3 = .ok (.iload_n 2, 1) := by decide +kernel
theorem dX7_codeAt_4 : decode cX7_codeAt 4 = .ok (.imul, 1) := by decide +kernel
theorem dX7_codeAt_5 : decode cX7_codeAt 5 = .ok (.lushr, 1) := by decide +kernel
theorem dX7_codeAt_6 : decode cX7_codeAt 6 = .ok (.l2i, 1) := by decide +kernel
theorem dX7_codeAt_7 : decode cX7_codeAt 7 = .ok (.sipush 255, 3) := by decide +kernel
theorem dX7_codeAt_10 : decode cX7_codeAt 10 = .ok (.iand, 1) := by decide +kernel
theorem dX7_codeAt_11 : decode cX7_codeAt 11 = .ok (.ireturn, 1) := by decide +kernel
set_option maxRecDepth 20000 in
theorem ggX7_signsIn_X7_codeAt : GoodIn wsX7_signsIn wsX7_codeAt := goodIn_r _ [4] (by decide +kernel) (by decide +kernel)
set_option maxRecDepth 20000 in
theorem gX7_signsIn_X7_codeAt : GoodIn wsX7_signsIn (va_wsS RX7 182 yX7_codeAt wsX7_codeAt) := goodIn_app (goodIn_of _ (by decide +kernel)) ggX7_signsIn_X7_codeAt
theorem dX7_signsIn_0 : decode cX7_signsIn 0 = .ok (.iconst 0, 1) := by decide +kernel
theorem dX7_signsIn_1 : decode cX7_signsIn 1 = .ok (.istore_n 2, 1) := by decide +kernel
theorem dX7_signsIn_2 : decode cX7_signsIn 2 = .ok (.iload_n 2, 1) := by decide +kernel
theorem dX7_signsIn_3 : decode cX7_signsIn 3 = .ok (.bipush 8, 2) := by decide +kernel
theorem dX7_signsIn_5 : decode cX7_signsIn 5 = .ok (.if_icmp .ge 50, 3) := by decide +kernel
theorem dX7_signsIn_8 : decode cX7_signsIn 8 = .ok (.lload_n 0, 1) := by decide +kernel
theorem dX7_signsIn_9 : decode cX7_signsIn 9 = .ok (.iload_n 2, 1) := by decide +kernel
theorem dX7_signsIn_10 : decode cX7_signsIn 10 = .ok (.invokestatic 182, 3) := by decide +kernel
theorem dX7_signsIn_13 : decode cX7_signsIn 13 = .ok (.istore_n 3, 1) := by decide +kernel
theorem dX7_signsIn_14 : decode cX7_signsIn 14 = .ok (.iload_n 3, 1) := by decide +kernel
theorem dX7_signsIn_15 : decode cX7_signsIn 15 = .ok (.ifCond .ne 20, 3) := by decide +kernel
theorem dX7_signsIn_18 : decode cX7_signsIn 18 = .ok (.lload_n 0, 1) := by decide +kernel
theorem dX7_signsIn_19 : decode cX7_signsIn 19 = .ok (.bipush 8, 2) := by decide +kernel
theorem dX7_signsIn_21 : decode cX7_signsIn 21 = .ok (.iload_n 2, 1) := by decide +kernel
theorem dX7_signsIn_22 : decode cX7_signsIn 22 = .ok (.imul, 1) := by decide +kernel
theorem dX7_signsIn_23 : decode cX7_signsIn 23 = .ok (.lushr, 1) := by decide +kernel
theorem dX7_signsIn_24 : decode cX7_signsIn 24 = .ok (.lconst 0, 1) := by decide +kernel
theorem dX7_signsIn_25 : decode cX7_signsIn 25 = .ok (.lcmp, 1) := by decide +kernel
theorem dX7_signsIn_26 : decode cX7_signsIn 26 = .ok (.ifCond .ne 7, 3) := by decide +kernel
theorem dX7_signsIn_29 : decode cX7_signsIn 29 = .ok (.iload_n 2, 1) := by decide +kernel
theorem dX7_signsIn_30 : decode cX7_signsIn 30 = .ok (.goto 4, 3) := by decide +kernel
theorem dX7_signsIn_33 : decode cX7_signsIn 33 = .ok (.iconst 0, 1) := by decide +kernel
theorem dX7_signsIn_34 : decode cX7_signsIn 34 = .ok (.ireturn, 1) := by decide +kernel
theorem dX7_signsIn_35 : decode cX7_signsIn 35 = .ok (.iload_n 3, 1) := by decide +kernel
theorem dX7_signsIn_36 : decode cX7_signsIn 36 = .ok (.bipush 33, 2) := by decide +kernel
theorem dX7_signsIn_38 : decode cX7_signsIn 38 = .ok (.if_icmp .lt 9, 3) := by decide +kernel
theorem dX7_signsIn_41 : decode cX7_signsIn 41 = .ok (.iload_n 3, 1) := by decide +kernel
theorem dX7_signsIn_42 : decode cX7_signsIn 42 = .ok (.bipush 126, 2) := by decide +kernel
theorem dX7_signsIn_44 : decode cX7_signsIn 44 = .ok (.if_icmp .le 5, 3) := by decide +kernel
theorem dX7_signsIn_47 : decode cX7_signsIn 47 = .ok (.iconst 0, 1) := by decide +kernel
theorem dX7_signsIn_48 : decode cX7_signsIn 48 = .ok (.ireturn, 1) := by decide +kernel
theorem dX7_signsIn_49 : decode cX7_signsIn 49 = .ok (.iinc 2 1, 3) := by decide +kernel
theorem dX7_signsIn_52 : decode cX7_signsIn 52 = .ok (.goto (-50), 3) := by decide +kernel
theorem dX7_signsIn_55 : decode cX7_signsIn 55 = .ok (.bipush 8, 2) := by decide +kernel
theorem dX7_signsIn_57 : decode cX7_signsIn 57 = .ok (.ireturn, 1) := by decide +kernel
theorem dX7_bitsOf_0 : decode cX7_bitsOf 0 = .ok (.dload_n 0, 1) := by decide +kernel
theorem dX7_bitsOf_1 : decode cX7_bitsOf 1 = .ok (.dconst 0, 1) := by decide +kernel
theorem dX7_bitsOf_2 : decode cX7_bitsOf 2 = .ok (.dcmp .l, 1) := by decide +kernel
theorem dX7_bitsOf_3 : decode cX7_bitsOf 3 = .ok (.ifCond .ne 5, 3) := by decide +kernel
theorem dX7_bitsOf_6 : decode cX7_bitsOf 6 = .ok (.lconst 0, 1) := by decide +kernel
theorem dX7_bitsOf_7 : decode cX7_bitsOf 7 = .ok (.lreturn, 1) := by decide +kernel
theorem dX7_bitsOf_8 : decode cX7_bitsOf 8 = .ok (.dload_n 0, 1) := by decide +kernel
theorem dX7_bitsOf_9 : decode cX7_bitsOf 9 = .ok (.dconst 0, 1) := by decide +kernel
theorem dX7_bitsOf_10 : decode cX7_bitsOf 10 = .ok (.dcmp .g, 1) := by decide +kernel
theorem dX7_bitsOf_11 : decode cX7_bitsOf 11 = .ok (.ifCond .ge 8, 3) := by decide +kernel
theorem dX7_bitsOf_14 : decode cX7_bitsOf 14 = .ok (.dload_n 0, 1) := by decide +kernel
theorem dX7_bitsOf_15 : decode cX7_bitsOf 15 = .ok (.dneg, 1) := by decide +kernel
theorem dX7_bitsOf_16 : decode cX7_bitsOf 16 = .ok (.goto 4, 3) := by decide +kernel
theorem dX7_bitsOf_19 : decode cX7_bitsOf 19 = .ok (.dload_n 0, 1) := by decide +kernel
theorem dX7_bitsOf_20 : decode cX7_bitsOf 20 = .ok (.dstore_n 2, 1) := by decide +kernel
theorem dX7_bitsOf_21 : decode cX7_bitsOf 21 = .ok (.ldc2_w 232, 3) := by decide +kernel
theorem dX7_bitsOf_24 : decode cX7_bitsOf 24 = .ok (.lstore 4, 2) := by decide +kernel
theorem dX7_bitsOf_26 : decode cX7_bitsOf 26 = .ok (.iconst 0, 1) := by decide +kernel
theorem dX7_bitsOf_27 : decode cX7_bitsOf 27 = .ok (.istore 6, 2) := by decide +kernel
theorem dX7_bitsOf_29 : decode cX7_bitsOf 29 = .ok (.iload 6, 2) := by decide +kernel
theorem dX7_bitsOf_31 : decode cX7_bitsOf 31 = .ok (.bipush 64, 2) := by decide +kernel
theorem dX7_bitsOf_33 : decode cX7_bitsOf 33 = .ok (.if_icmp .ge 29, 3) := by decide +kernel
theorem dX7_bitsOf_36 : decode cX7_bitsOf 36 = .ok (.dload_n 2, 1) := by decide +kernel
theorem dX7_bitsOf_37 : decode cX7_bitsOf 37 = .ok (.ldc2_w 234, 3) := by decide +kernel
theorem dX7_bitsOf_40 : decode cX7_bitsOf 40 = .ok (.dcmp .g, 1) := by decide +kernel
theorem dX7_bitsOf_41 : decode cX7_bitsOf 41 = .ok (.ifCond .ge 21, 3) := by decide +kernel
theorem dX7_bitsOf_44 : decode cX7_bitsOf 44 = .ok (.dload_n 2, 1) := by decide +kernel
theorem dX7_bitsOf_45 : decode cX7_bitsOf 45 = .ok (.ldc2_w 236, 3) := by decide +kernel
theorem dX7_bitsOf_48 : decode cX7_bitsOf 48 = .ok (.dmul, 1) := by decide +kernel
theorem dX7_bitsOf_49 : decode cX7_bitsOf 49 = .ok (.dstore_n 2, 1) := by decide +kernel
theorem dX7_bitsOf_50 : decode cX7_bitsOf 50 = .ok (.lload 4, 2) := by decide +kernel
theorem dX7_bitsOf_52 : decode cX7_bitsOf 52 = .ok (.lconst 1, 1) := by decide +kernel
theorem dX7_bitsOf_53 : decode cX7_bitsOf 53 = .ok (.lsub, 1) := by decide +kernel
theorem dX7_bitsOf_54 : decode cX7_bitsOf 54 = .ok (.lstore 4, 2) := by decide +kernel
theorem dX7_bitsOf_56 : decode cX7_bitsOf 56 = .ok (.iinc 6 1, 3) := by decide +kernel
theorem dX7_bitsOf_59 : decode cX7_bitsOf 59 = .ok (.goto (-30), 3) := by decide +kernel
theorem dX7_bitsOf_62 : decode cX7_bitsOf 62 = .ok (.dload_n 0, 1) := by decide +kernel
theorem dX7_bitsOf_63 : decode cX7_bitsOf 63 = .ok (.dconst 0, 1) := by decide +kernel
theorem dX7_bitsOf_64 : decode cX7_bitsOf 64 = .ok (.dcmp .g, 1) := by decide +kernel
theorem dX7_bitsOf_65 : decode cX7_bitsOf 65 = .ok (.ifCond .ge 9, 3) := by decide +kernel
theorem dX7_bitsOf_68 : decode cX7_bitsOf 68 = .ok (.ldc2_w 238, 3) := by decide +kernel
theorem dX7_bitsOf_71 : decode cX7_bitsOf 71 = .ok (.goto 4, 3) := by decide +kernel
theorem dX7_bitsOf_74 : decode cX7_bitsOf 74 = .ok (.lconst 0, 1) := by decide +kernel
theorem dX7_bitsOf_75 : decode cX7_bitsOf 75 = .ok (.lstore 6, 2) := by decide +kernel
theorem dX7_bitsOf_77 : decode cX7_bitsOf 77 = .ok (.lload 6, 2) := by decide +kernel
theorem dX7_bitsOf_79 : decode cX7_bitsOf 79 = .ok (.lload 4, 2) := by decide +kernel
theorem dX7_bitsOf_81 : decode cX7_bitsOf 81 = .ok (.bipush 52, 2) := by decide +kernel
theorem dX7_bitsOf_83 : decode cX7_bitsOf 83 = .ok (.lshl, 1) := by decide +kernel
theorem dX7_bitsOf_84 : decode cX7_bitsOf 84 = .ok (.lor, 1) := by decide +kernel
theorem dX7_bitsOf_85 : decode cX7_bitsOf 85 = .ok (.dload_n 2, 1) := by decide +kernel
theorem dX7_bitsOf_86 : decode cX7_bitsOf 86 = .ok (.d2l, 1) := by decide +kernel
theorem dX7_bitsOf_87 : decode cX7_bitsOf 87 = .ok (.ldc2_w 240, 3) := by decide +kernel
theorem dX7_bitsOf_90 : decode cX7_bitsOf 90 = .ok (.lsub, 1) := by decide +kernel
theorem dX7_bitsOf_91 : decode cX7_bitsOf 91 = .ok (.lor, 1) := by decide +kernel
theorem dX7_bitsOf_92 : decode cX7_bitsOf 92 = .ok (.lreturn, 1) := by decide +kernel
theorem dX8_init_0 : decode cX8_init 0 = .ok (.aload_n 0, 1) := by decide +kernel
theorem dX8_init_1 : decode cX8_init 1 = .ok (.invokespecial 1, 3) := by decide +kernel
theorem dX8_init_4 : decode cX8_init 4 = .ok (.aload_n 0, 1) := by decide +kernel
theorem dX8_init_5 : decode cX8_init 5 = .ok (.sipush 347, 3) := by decide +kernel
theorem dX8_init_8 : decode cX8_init 8 = .ok (.newarray .int, 2) := by decide +kernel
theorem dX8_init_10 : decode cX8_init 10 = .ok (.putfield 7, 3) := by decide +kernel
theorem dX8_init_13 : decode cX8_init 13 = .ok (.aload_n 0, 1) := by decide +kernel
theorem dX8_init_14 : decode cX8_init 14 = .ok (.sipush 347, 3) := by decide +kernel
theorem dX8_init_17 : decode cX8_init 17 = .ok (.newarray .int, 2) := by decide +kernel
theorem dX8_init_19 : decode cX8_init 19 = .ok (.putfield 13, 3) := by decide +kernel
theorem dX8_init_22 : decode cX8_init 22 = .ok (.aload_n 0, 1) := by decide +kernel
theorem dX8_init_23 : decode cX8_init 23 = .ok (.sipush 2082, 3) := by decide +kernel
theorem dX8_init_26 : decode cX8_init 26 = .ok (.newarray .int, 2) := by decide +kernel
theorem dX8_init_28 : decode cX8_init 28 = .ok (.putfield 16, 3) := by decide +kernel
theorem dX8_init_31 : decode cX8_init 31 = .ok (.aload_n 0, 1) := by decide +kernel
theorem dX8_init_32 : decode cX8_init 32 = .ok (.sipush 694, 3) := by decide +kernel
theorem dX8_init_35 : decode cX8_init 35 = .ok (.newarray .int, 2) := by decide +kernel
theorem dX8_init_37 : decode cX8_init 37 = .ok (.putfield 19, 3) := by decide +kernel
theorem dX8_init_40 : decode cX8_init 40 = .ok (.aload_n 0, 1) := by decide +kernel
theorem dX8_init_41 : decode cX8_init 41 = .ok (.iconst 2, 1) := by decide +kernel
theorem dX8_init_42 : decode cX8_init 42 = .ok (.newarray .int, 2) := by decide +kernel
theorem dX8_init_44 : decode cX8_init 44 = .ok (.putfield 22, 3) := by decide +kernel
theorem dX8_init_47 : decode cX8_init 47 = .ok (.aload_n 0, 1) := by decide +kernel
theorem dX8_init_48 : decode cX8_init 48 = .ok (.bipush 80, 2) := by decide +kernel
theorem dX8_init_50 : decode cX8_init 50 = .ok (.newarray .int, 2) := by decide +kernel
theorem dX8_init_52 : decode cX8_init 52 = .ok (.putfield 25, 3) := by decide +kernel
theorem dX8_init_55 : decode cX8_init 55 = .ok (.aload_n 0, 1) := by decide +kernel
theorem dX8_init_56 : decode cX8_init 56 = .ok (.getfield 7, 3) := by decide +kernel
theorem dX8_init_59 : decode cX8_init 59 = .ok (.iconst 0, 1) := by decide +kernel
theorem dX8_init_60 : decode cX8_init 60 = .ok (.bipush 12, 2) := by decide +kernel
theorem dX8_init_62 : decode cX8_init 62 = .ok (.iastore, 1) := by decide +kernel
theorem dX8_init_63 : decode cX8_init 63 = .ok (.aload_n 0, 1) := by decide +kernel
theorem dX8_init_64 : decode cX8_init 64 = .ok (.getfield 7, 3) := by decide +kernel
theorem dX8_init_67 : decode cX8_init 67 = .ok (.iconst 1, 1) := by decide +kernel
theorem dX8_init_68 : decode cX8_init 68 = .ok (.bipush 15, 2) := by decide +kernel
theorem dX8_init_70 : decode cX8_init 70 = .ok (.iastore, 1) := by decide +kernel
theorem dX8_init_71 : decode cX8_init 71 = .ok (.aload_n 0, 1) := by decide +kernel
theorem dX8_init_72 : decode cX8_init 72 = .ok (.getfield 7, 3) := by decide +kernel
theorem dX8_init_75 : decode cX8_init 75 = .ok (.iconst 3, 1) := by decide +kernel
theorem dX8_init_76 : decode cX8_init 76 = .ok (.sipush 500, 3) := by decide +kernel
theorem dX8_init_79 : decode cX8_init 79 = .ok (.iastore, 1) := by decide +kernel
theorem dX8_init_80 : decode cX8_init 80 = .ok (.return_, 1) := by decide +kernel
theorem dX8_in_0 : decode cX8_in 0 = .ok (.lload_n 0, 1) := by decide +kernel
theorem dX8_in_1 : decode cX8_in 1 = .ok (.lload_n 2, 1) := by decide +kernel
theorem dX8_in_2 : decode cX8_in 2 = .ok (.lcmp, 1) := by decide +kernel
theorem dX8_in_3 : decode cX8_in 3 = .ok (.ifCond .lt 14, 3) := by decide +kernel
theorem dX8_in_6 : decode cX8_in 6 = .ok (.lload_n 0, 1) := by decide +kernel
theorem dX8_in_7 : decode cX8_in 7 = .ok (.lload 4, 2) := by decide +kernel
theorem dX8_in_9 : decode cX8_in 9 = .ok (.lcmp, 1) := by decide +kernel
theorem dX8_in_10 : decode cX8_in 10 = .ok (.ifCond .gt 7, 3) := by decide +kernel
theorem dX8_in_13 : decode cX8_in 13 = .ok (.iconst 1, 1) := by decide +kernel
theorem dX8_in_14 : decode cX8_in 14 = .ok (.goto 4, 3) := by decide +kernel
theorem dX8_in_17 : decode cX8_in 17 = .ok (.iconst 0, 1) := by decide +kernel
theorem dX8_in_18 : decode cX8_in 18 = .ok (.ireturn, 1) := by decide +kernel
theorem dX8_keep_0 : decode cX8_keep 0 = .ok (.iconst 0, 1) := by decide +kernel
theorem dX8_keep_1 : decode cX8_keep 1 = .ok (.istore_n 1, 1) := by decide +kernel
theorem dX8_keep_2 : decode cX8_keep 2 = .ok (.iload_n 1, 1) := by decide +kernel
theorem dX8_keep_3 : decode cX8_keep 3 = .ok (.sipush 347, 3) := by decide +kernel
theorem dX8_keep_6 : decode cX8_keep 6 = .ok (.if_icmp .ge 21, 3) := by decide +kernel
theorem dX8_keep_9 : decode cX8_keep 9 = .ok (.aload_n 0, 1) := by decide +kernel
theorem dX8_keep_10 : decode cX8_keep 10 = .ok (.getfield 13, 3) := by decide +kernel
theorem dX8_keep_13 : decode cX8_keep 13 = .ok (.iload_n 1, 1) := by decide +kernel
theorem dX8_keep_14 : decode cX8_keep 14 = .ok (.aload_n 0, 1) := by decide +kernel
theorem dX8_keep_15 : decode cX8_keep 15 = .ok (.getfield 7, 3) := by decide +kernel
theorem dX8_keep_18 : decode cX8_keep 18 = .ok (.iload_n 1, 1) := by decide +kernel
theorem dX8_keep_19 : decode cX8_keep 19 = .ok (.iaload, 1) := by decide +kernel
theorem dX8_keep_20 : decode cX8_keep 20 = .ok (.iastore, 1) := by decide +kernel
theorem dX8_keep_21 : decode cX8_keep 21 = .ok (.iinc 1 1, 3) := by decide +kernel
theorem dX8_keep_24 : decode cX8_keep 24 = .ok (.goto (-22), 3) := by decide +kernel
theorem dX8_keep_27 : decode cX8_keep 27 = .ok (.return_, 1) := by decide +kernel
theorem dX8_changed_0 : decode cX8_changed 0 = .ok (.aload_n 0, 1) := by decide +kernel
theorem dX8_changed_1 : decode cX8_changed 1 = .ok (.getfield 28, 3) := by decide +kernel
theorem dX8_changed_4 : decode cX8_changed 4 = .ok (.bipush 6, 2) := by decide +kernel
theorem dX8_changed_6 : decode cX8_changed 6 = .ok (.if_icmp .ne 44, 3) := by decide +kernel
theorem dX8_changed_9 : decode cX8_changed 9 = .ok (.iconst 0, 1) := by decide +kernel
theorem dX8_changed_10 : decode cX8_changed 10 = .ok (.istore_n 2, 1) := by decide +kernel
theorem dX8_changed_11 : decode cX8_changed 11 = .ok (.iload_n 2, 1) := by decide +kernel
theorem dX8_changed_12 : decode cX8_changed 12 = .ok (.sipush 1735, 3) := by decide +kernel
theorem dX8_changed_15 : decode cX8_changed 15 = .ok (.if_icmp .ge 25, 3) := by decide +kernel
theorem dX8_changed_18 : decode cX8_changed 18 = .ok (.aload_n 0, 1) := by decide +kernel
theorem dX8_changed_19 : decode cX8_changed 19 = .ok (.getfield 16, 3) := by decide +kernel
theorem dX8_changed_22 : decode cX8_changed 22 = .ok (.iload_n 2, 1) := by decide +kernel
theorem dX8_changed_23 : decode cX8_changed 23 = .ok (.aload_n 0, 1) := by decide +kernel
theorem dX8_changed_24 : decode cX8_changed 24 = .ok (.getfield 16, 3) := by decide +kernel
theorem dX8_changed_27 : decode cX8_changed 27 = .ok (.iload_n 2, 1) := by decide +kernel
theorem dX8_changed_28 : decode cX8_changed 28 = .ok (.sipush 347, 3) := by decide +kernel
theorem dX8_changed_31 : decode cX8_changed 31 = .ok (.iadd, 1) := by decide +kernel
theorem dX8_changed_32 : decode cX8_changed 32 = .ok (.iaload, 1) := by decide +kernel
theorem dX8_changed_33 : decode cX8_changed 33 = .ok (.iastore, 1) := by decide +kernel
theorem dX8_changed_34 : decode cX8_changed 34 = .ok (.iinc 2 1, 3) := by decide +kernel
theorem dX8_changed_37 : decode cX8_changed 37 = .ok (.goto (-26), 3) := by decide +kernel
theorem dX8_changed_40 : decode cX8_changed 40 = .ok (.aload_n 0, 1) := by decide +kernel
theorem dX8_changed_41 : decode cX8_changed 41 = .ok (.dup, 1) := by decide +kernel
theorem dX8_changed_42 : decode cX8_changed 42 = .ok (.getfield 28, 3) := by decide +kernel
theorem dX8_changed_45 : decode cX8_changed 45 = .ok (.iconst 1, 1) := by decide +kernel
theorem dX8_changed_46 : decode cX8_changed 46 = .ok (.isub, 1) := by decide +kernel
theorem dX8_changed_47 : decode cX8_changed 47 = .ok (.putfield 28, 3) := by decide +kernel
theorem dX8_changed_50 : decode cX8_changed 50 = .ok (.iconst 0, 1) := by decide +kernel
theorem dX8_changed_51 : decode cX8_changed 51 = .ok (.istore_n 2, 1) := by decide +kernel
theorem dX8_changed_52 : decode cX8_changed 52 = .ok (.iload_n 2, 1) := by decide +kernel
theorem dX8_changed_53 : decode cX8_changed 53 = .ok (.sipush 347, 3) := by decide +kernel
theorem dX8_changed_56 : decode cX8_changed 56 = .ok (.if_icmp .ge 30, 3) := by decide +kernel
theorem dX8_changed_59 : decode cX8_changed 59 = .ok (.aload_n 0, 1) := by decide +kernel
theorem dX8_changed_60 : decode cX8_changed 60 = .ok (.getfield 16, 3) := by decide +kernel
theorem dX8_changed_63 : decode cX8_changed 63 = .ok (.sipush 347, 3) := by decide +kernel
theorem dX8_changed_66 : decode cX8_changed 66 = .ok (.aload_n 0, 1) := by decide +kernel
theorem dX8_changed_67 : decode cX8_changed 67 = .ok (.getfield 28, 3) := by decide +kernel
theorem dX8_changed_70 : decode cX8_changed 70 = .ok (.imul, 1) := by decide +kernel
theorem dX8_changed_71 : decode cX8_changed 71 = .ok (.iload_n 2, 1) := by decide +kernel
theorem dX8_changed_72 : decode cX8_changed 72 = .ok (.iadd, 1) := by decide +kernel
theorem dX8_changed_73 : decode cX8_changed 73 = .ok (.aload_n 0, 1) := by decide +kernel
theorem dX8_changed_74 : decode cX8_changed 74 = .ok (.getfield 13, 3) := by decide +kernel
theorem dX8_changed_77 : decode cX8_changed 77 = .ok (.iload_n 2, 1) := by decide +kernel
theorem dX8_changed_78 : decode cX8_changed 78 = .ok (.iaload, 1) := by decide +kernel
theorem dX8_changed_79 : decode cX8_changed 79 = .ok (.iastore, 1) := by decide +kernel
theorem dX8_changed_80 : decode cX8_changed 80 = .ok (.iinc 2 1, 3) := by decide +kernel
theorem dX8_changed_83 : decode cX8_changed 83 = .ok (.goto (-31), 3) := by decide +kernel
theorem dX8_changed_86 : decode cX8_changed 86 = .ok (.aload_n 0, 1) := by decide +kernel
theorem dX8_changed_87 : decode cX8_changed 87 = .ok (.dup, 1) := by decide +kernel
theorem dX8_changed_88 : decode cX8_changed 88 = .ok (.getfield 28, 3) := by decide +kernel
theorem dX8_changed_91 : decode cX8_changed 91 = .ok (.iconst 1, 1) := by decide +kernel
theorem dX8_changed_92 : decode cX8_changed 92 = .ok (.iadd, 1) := by decide +kernel
theorem dX8_changed_93 : decode cX8_changed 93 = .ok (.putfield 28, 3) := by decide +kernel
theorem dX8_changed_96 : decode cX8_changed 96 = .ok (.iload_n 1, 1) := by decide +kernel
theorem dX8_changed_97 : decode cX8_changed 97 = .ok (.ireturn, 1) := by decide +kernel
set_option maxRecDepth 20000 in
theorem ggX8_isHeat_X8_in : GoodIn wsX8_isHeat wsX8_in := goodIn_r _ [6] (by decide +kernel) (by decide +kernel)
set_option maxRecDepth 20000 in
theorem gX8_isHeat_X8_in : GoodIn wsX8_isHeat (va_wsS RX8 36 yX8_in wsX8_in) := goodIn_app (goodIn_of _ (by decide +kernel)) ggX8_isHeat_X8_in
theorem dX8_isHeat_0 : decode cX8_isHeat 0 = .ok (.iload_n 0, 1) := by decide +kernel
theorem dX8_isHeat_1 : decode cX8_isHeat 1 = .ok (.i2l, 1) := by decide +kernel
theorem dX8_isHeat_2 : decode cX8_isHeat 2 = .ok (.ldc2_w 32, 3) := by decide +kernel
theorem dX8_isHeat_5 : decode cX8_isHeat 5 = .ok (.ldc2_w 34, 3) := by decide +kernel
theorem dX8_isHeat_8 : decode cX8_isHeat 8 = .ok (.invokestatic 36, 3) := by decide +kernel
theorem dX8_isHeat_11 : decode cX8_isHeat 11 = .ok (.ireturn, 1) := by decide +kernel
set_option maxRecDepth 20000 in
theorem ggX8_isAir_X8_in : GoodIn wsX8_isAir wsX8_in := goodIn_r _ [6] (by decide +kernel) (by decide +kernel)
set_option maxRecDepth 20000 in
theorem gX8_isAir_X8_in : GoodIn wsX8_isAir (va_wsS RX8 36 yX8_in wsX8_in) := goodIn_app (goodIn_of _ (by decide +kernel)) ggX8_isAir_X8_in
theorem dX8_isAir_0 : decode cX8_isAir 0 = .ok (.iload_n 0, 1) := by decide +kernel
theorem dX8_isAir_1 : decode cX8_isAir 1 = .ok (.i2l, 1) := by decide +kernel
theorem dX8_isAir_2 : decode cX8_isAir 2 = .ok (.ldc2_w 40, 3) := by decide +kernel
theorem dX8_isAir_5 : decode cX8_isAir 5 = .ok (.ldc2_w 42, 3) := by decide +kernel
theorem dX8_isAir_8 : decode cX8_isAir 8 = .ok (.invokestatic 36, 3) := by decide +kernel
theorem dX8_isAir_11 : decode cX8_isAir 11 = .ok (.ireturn, 1) := by decide +kernel
theorem dX8_rateWith_0 : decode cX8_rateWith 0 = .ok (.aload_n 0, 1) := by decide +kernel
theorem dX8_rateWith_1 : decode cX8_rateWith 1 = .ok (.getfield 7, 3) := by decide +kernel
theorem dX8_rateWith_4 : decode cX8_rateWith 4 = .ok (.iconst 2, 1) := by decide +kernel
theorem dX8_rateWith_5 : decode cX8_rateWith 5 = .ok (.iaload, 1) := by decide +kernel
theorem dX8_rateWith_6 : decode cX8_rateWith 6 = .ok (.aload_n 0, 1) := by decide +kernel
theorem dX8_rateWith_7 : decode cX8_rateWith 7 = .ok (.getfield 7, 3) := by decide +kernel
theorem dX8_rateWith_10 : decode cX8_rateWith 10 = .ok (.iconst 0, 1) := by decide +kernel
theorem dX8_rateWith_11 : decode cX8_rateWith 11 = .ok (.iaload, 1) := by decide +kernel
theorem dX8_rateWith_12 : decode cX8_rateWith 12 = .ok (.iload_n 1, 1) := by decide +kernel
theorem dX8_rateWith_13 : decode cX8_rateWith 13 = .ok (.bipush 20, 2) := by decide +kernel
theorem dX8_rateWith_15 : decode cX8_rateWith 15 = .ok (.isub, 1) := by decide +kernel
theorem dX8_rateWith_16 : decode cX8_rateWith 16 = .ok (.imul, 1) := by decide +kernel
theorem dX8_rateWith_17 : decode cX8_rateWith 17 = .ok (.isub, 1) := by decide +kernel
theorem dX8_rateWith_18 : decode cX8_rateWith 18 = .ok (.aload_n 0, 1) := by decide +kernel
theorem dX8_rateWith_19 : decode cX8_rateWith 19 = .ok (.getfield 7, 3) := by decide +kernel
theorem dX8_rateWith_22 : decode cX8_rateWith 22 = .ok (.iconst 1, 1) := by decide +kernel
theorem dX8_rateWith_23 : decode cX8_rateWith 23 = .ok (.iaload, 1) := by decide +kernel
theorem dX8_rateWith_24 : decode cX8_rateWith 24 = .ok (.iload_n 2, 1) := by decide +kernel
theorem dX8_rateWith_25 : decode cX8_rateWith 25 = .ok (.sipush 1000, 3) := by decide +kernel
theorem dX8_rateWith_28 : decode cX8_rateWith 28 = .ok (.isub, 1) := by decide +kernel
theorem dX8_rateWith_29 : decode cX8_rateWith 29 = .ok (.imul, 1) := by decide +kernel
theorem dX8_rateWith_30 : decode cX8_rateWith 30 = .ok (.bipush 10, 2) := by decide +kernel
theorem dX8_rateWith_32 : decode cX8_rateWith 32 = .ok (.idiv, 1) := by decide +kernel
theorem dX8_rateWith_33 : decode cX8_rateWith 33 = .ok (.isub, 1) := by decide +kernel
theorem dX8_rateWith_34 : decode cX8_rateWith 34 = .ok (.iload_n 3, 1) := by decide +kernel
theorem dX8_rateWith_35 : decode cX8_rateWith 35 = .ok (.iadd, 1) := by decide +kernel
theorem dX8_rateWith_36 : decode cX8_rateWith 36 = .ok (.ireturn, 1) := by decide +kernel
set_option maxRecDepth 20000 in
theorem ggX8_rateNow_X8_rateWith : GoodIn wsX8_rateNow wsX8_rateWith := goodIn_r _ [6, 1, 7, 8, 9, 10, 11, 12, 13, 14, 15, 16, 17, 18, 19, 20] (by decide +kernel) (by decide +kernel)
set_option maxRecDepth 20000 in
theorem gX8_rateNow_X8_rateWith : GoodIn wsX8_rateNow (wsV RX8 44 RX8 yX8_rateWith wsX8_rateWith) := goodIn_app (goodIn_of _ (by decide +kernel)) ggX8_rateNow_X8_rateWith
theorem dX8_rateNow_0 : decode cX8_rateNow 0 = .ok (.aload_n 0, 1) := by decide +kernel
theorem dX8_rateNow_1 : decode cX8_rateNow 1 = .ok (.iload_n 1, 1) := by decide +kernel
theorem dX8_rateNow_2 : decode cX8_rateNow 2 = .ok (.iload_n 2, 1) := by decide +kernel
theorem dX8_rateNow_3 : decode cX8_rateNow 3 = .ok (.aload_n 0, 1) := by decide +kernel
theorem dX8_rateNow_4 : decode cX8_rateNow 4 = .ok (.getfield 7, 3) := by decide +kernel
theorem dX8_rateNow_7 : decode cX8_rateNow 7 = .ok (.bipush 7, 2) := by decide +kernel
theorem dX8_rateNow_9 : decode cX8_rateNow 9 = .ok (.iaload, 1) := by decide +kernel
theorem dX8_rateNow_10 : decode cX8_rateNow 10 = .ok (.invokevirtual 44, 3) := by decide +kernel
theorem dX8_rateNow_13 : decode cX8_rateNow 13 = .ok (.ireturn, 1) := by decide +kernel
theorem dX8_goes_0 : decode cX8_goes 0 = .ok (.iload_n 1, 1) := by decide +kernel
theorem dX8_goes_1 : decode cX8_goes 1 = .ok (.sipush 3600, 3) := by decide +kernel
theorem dX8_goes_4 : decode cX8_goes 4 = .ok (.imul, 1) := by decide +kernel
theorem dX8_goes_5 : decode cX8_goes 5 = .ok (.aload_n 0, 1) := by decide +kernel
theorem dX8_goes_6 : decode cX8_goes 6 = .ok (.getfield 48, 3) := by decide +kernel
theorem dX8_goes_9 : decode cX8_goes 9 = .ok (.iadd, 1) := by decide +kernel
theorem dX8_goes_10 : decode cX8_goes 10 = .ok (.istore_n 2, 1) := by decide +kernel
theorem dX8_goes_11 : decode cX8_goes 11 = .ok (.aload_n 0, 1) := by decide +kernel
theorem dX8_goes_12 : decode cX8_goes 12 = .ok (.dup, 1) := by decide +kernel
theorem dX8_goes_13 : decode cX8_goes 13 = .ok (.getfield 51, 3) := by decide +kernel
theorem dX8_goes_16 : decode cX8_goes 16 = .ok (.iload_n 2, 1) := by decide +kernel
theorem dX8_goes_17 : decode cX8_goes 17 = .ok (.sipush 1000, 3) := by decide +kernel
theorem dX8_goes_20 : decode cX8_goes 20 = .ok (.idiv, 1) := by decide +kernel
theorem dX8_goes_21 : decode cX8_goes 21 = .ok (.iadd, 1) := by decide +kernel
theorem dX8_goes_22 : decode cX8_goes 22 = .ok (.putfield 51, 3) := by decide +kernel
theorem dX8_goes_25 : decode cX8_goes 25 = .ok (.aload_n 0, 1) := by decide +kernel
theorem dX8_goes_26 : decode cX8_goes 26 = .ok (.iload_n 2, 1) := by decide +kernel
theorem dX8_goes_27 : decode cX8_goes 27 = .ok (.sipush 1000, 3) := by decide +kernel
theorem dX8_goes_30 : decode cX8_goes 30 = .ok (.irem, 1) := by decide +kernel
theorem dX8_goes_31 : decode cX8_goes 31 = .ok (.putfield 48, 3) := by decide +kernel
theorem dX8_goes_34 : decode cX8_goes 34 = .ok (.return_, 1) := by decide +kernel
theorem dX8_isTooFar_0 : decode cX8_isTooFar 0 = .ok (.aload_n 0, 1) := by decide +kernel
theorem dX8_isTooFar_1 : decode cX8_isTooFar 1 = .ok (.getfield 51, 3) := by decide +kernel
theorem dX8_isTooFar_4 : decode cX8_isTooFar 4 = .ok (.aload_n 0, 1) := by decide +kernel
theorem dX8_isTooFar_5 : decode cX8_isTooFar 5 = .ok (.getfield 7, 3) := by decide +kernel
theorem dX8_isTooFar_8 : decode cX8_isTooFar 8 = .ok (.iconst 3, 1) := by decide +kernel
theorem dX8_isTooFar_9 : decode cX8_isTooFar 9 = .ok (.iaload, 1) := by decide +kernel
theorem dX8_isTooFar_10 : decode cX8_isTooFar 10 = .ok (.if_icmp .gt 17, 3) := by decide +kernel
theorem dX8_isTooFar_13 : decode cX8_isTooFar 13 = .ok (.aload_n 0, 1) := by decide +kernel
theorem dX8_isTooFar_14 : decode cX8_isTooFar 14 = .ok (.getfield 51, 3) := by decide +kernel
theorem dX8_isTooFar_17 : decode cX8_isTooFar 17 = .ok (.ineg, 1) := by decide +kernel
theorem dX8_isTooFar_18 : decode cX8_isTooFar 18 = .ok (.aload_n 0, 1) := by decide +kernel
theorem dX8_isTooFar_19 : decode cX8_isTooFar 19 = .ok (.getfield 7, 3) := by decide +kernel
theorem dX8_isTooFar_22 : decode cX8_isTooFar 22 = .ok (.iconst 3, 1) := by decide +kernel
theorem dX8_isTooFar_23 : decode cX8_isTooFar 23 = .ok (.iaload, 1) := by decide +kernel
theorem dX8_isTooFar_24 : decode cX8_isTooFar 24 = .ok (.if_icmp .le 7, 3) := by decide +kernel
theorem dX8_isTooFar_27 : decode cX8_isTooFar 27 = .ok (.iconst 1, 1) := by decide +kernel
theorem dX8_isTooFar_28 : decode cX8_isTooFar 28 = .ok (.goto 4, 3) := by decide +kernel
theorem dX8_isTooFar_31 : decode cX8_isTooFar 31 = .ok (.iconst 0, 1) := by decide +kernel
theorem dX8_isTooFar_32 : decode cX8_isTooFar 32 = .ok (.ireturn, 1) := by decide +kernel
theorem dX8_lightest_0 : decode cX8_lightest 0 = .ok (.iconst 0, 1) := by decide +kernel
theorem dX8_lightest_1 : decode cX8_lightest 1 = .ok (.istore_n 2, 1) := by decide +kernel
theorem dX8_lightest_2 : decode cX8_lightest 2 = .ok (.iload_n 2, 1) := by decide +kernel
theorem dX8_lightest_3 : decode cX8_lightest 3 = .ok (.bipush 8, 2) := by decide +kernel
theorem dX8_lightest_5 : decode cX8_lightest 5 = .ok (.if_icmp .ge 26, 3) := by decide +kernel
theorem dX8_lightest_8 : decode cX8_lightest 8 = .ok (.aload_n 0, 1) := by decide +kernel
theorem dX8_lightest_9 : decode cX8_lightest 9 = .ok (.getfield 7, 3) := by decide +kernel
theorem dX8_lightest_12 : decode cX8_lightest 12 = .ok (.bipush 7, 2) := by decide +kernel
theorem dX8_lightest_14 : decode cX8_lightest 14 = .ok (.iaload, 1) := by decide +kernel
theorem dX8_lightest_15 : decode cX8_lightest 15 = .ok (.iload_n 2, 1) := by decide +kernel
theorem dX8_lightest_16 : decode cX8_lightest 16 = .ok (.ishr, 1) := by decide +kernel
theorem dX8_lightest_17 : decode cX8_lightest 17 = .ok (.iconst 1, 1) := by decide +kernel
theorem dX8_lightest_18 : decode cX8_lightest 18 = .ok (.iand, 1) := by decide +kernel
theorem dX8_lightest_19 : decode cX8_lightest 19 = .ok (.iload_n 1, 1) := by decide +kernel
theorem dX8_lightest_20 : decode cX8_lightest 20 = .ok (.if_icmp .ne 5, 3) := by decide +kernel
theorem dX8_lightest_23 : decode cX8_lightest 23 = .ok (.iload_n 2, 1) := by decide +kernel
theorem dX8_lightest_24 : decode cX8_lightest 24 = .ok (.ireturn, 1) := by decide +kernel
theorem dX8_lightest_25 : decode cX8_lightest 25 = .ok (.iinc 2 1, 3) := by decide +kernel
theorem dX8_lightest_28 : decode cX8_lightest 28 = .ok (.goto (-26), 3) := by decide +kernel
theorem dX8_lightest_31 : decode cX8_lightest 31 = .ok (.bipush (-6), 2) := by decide +kernel
theorem dX8_lightest_33 : decode cX8_lightest 33 = .ok (.ireturn, 1) := by decide +kernel
set_option maxRecDepth 20000 in
theorem ggX8_corrects_X8_lightest : GoodIn wsX8_corrects wsX8_lightest := goodIn_r _ [8, 2, 9, 10, 11, 12, 13, 14, 15, 16, 17, 18, 19, 20, 21, 22] (by decide +kernel) (by decide +kernel)
set_option maxRecDepth 20000 in
theorem gX8_corrects_X8_lightest : GoodIn wsX8_corrects (wsV RX8 54 RX8 yX8_lightest wsX8_lightest) := goodIn_app (goodIn_of _ (by decide +kernel)) ggX8_corrects_X8_lightest
theorem dX8_corrects_0 : decode cX8_corrects 0 = .ok (.aload_n 0, 1) := by decide +kernel
theorem dX8_corrects_1 : decode cX8_corrects 1 = .ok (.aload_n 0, 1) := by decide +kernel
theorem dX8_corrects_2 : decode cX8_corrects 2 = .ok (.getfield 51, 3) := by decide +kernel
theorem dX8_corrects_5 : decode cX8_corrects 5 = .ok (.ifCond .le 7, 3) := by decide +kernel
theorem dX8_corrects_8 : decode cX8_corrects 8 = .ok (.iconst 1, 1) := by decide +kernel
theorem dX8_corrects_9 : decode cX8_corrects 9 = .ok (.goto 4, 3) := by decide +kernel
theorem dX8_corrects_12 : decode cX8_corrects 12 = .ok (.iconst 0, 1) := by decide +kernel
theorem dX8_corrects_13 : decode cX8_corrects 13 = .ok (.invokevirtual 54, 3) := by decide +kernel
theorem dX8_corrects_16 : decode cX8_corrects 16 = .ok (.istore_n 1, 1) := by decide +kernel
theorem dX8_corrects_17 : decode cX8_corrects 17 = .ok (.aload_n 0, 1) := by decide +kernel
theorem dX8_corrects_18 : decode cX8_corrects 18 = .ok (.getfield 7, 3) := by decide +kernel
theorem dX8_corrects_21 : decode cX8_corrects 21 = .ok (.bipush 7, 2) := by decide +kernel
theorem dX8_corrects_23 : decode cX8_corrects 23 = .ok (.dup2, 1) := by decide +kernel
theorem dX8_corrects_24 : decode cX8_corrects 24 = .ok (.iaload, 1) := by decide +kernel
theorem dX8_corrects_25 : decode cX8_corrects 25 = .ok (.iload_n 1, 1) := by decide +kernel
theorem dX8_corrects_26 : decode cX8_corrects 26 = .ok (.bipush (-6), 2) := by decide +kernel
theorem dX8_corrects_28 : decode cX8_corrects 28 = .ok (.if_icmp .ne 7, 3) := by decide +kernel
theorem dX8_corrects_31 : decode cX8_corrects 31 = .ok (.iconst 0, 1) := by decide +kernel
theorem dX8_corrects_32 : decode cX8_corrects 32 = .ok (.goto 6, 3) := by decide +kernel
theorem dX8_corrects_35 : decode cX8_corrects 35 = .ok (.iconst 1, 1) := by decide +kernel
theorem dX8_corrects_36 : decode cX8_corrects 36 = .ok (.iload_n 1, 1) := by decide +kernel
theorem dX8_corrects_37 : decode cX8_corrects 37 = .ok (.ishl, 1) := by decide +kernel
theorem dX8_corrects_38 : decode cX8_corrects 38 = .ok (.ixor, 1) := by decide +kernel
theorem dX8_corrects_39 : decode cX8_corrects 39 = .ok (.iastore, 1) := by decide +kernel
theorem dX8_corrects_40 : decode cX8_corrects 40 = .ok (.aload_n 0, 1) := by decide +kernel
theorem dX8_corrects_41 : decode cX8_corrects 41 = .ok (.iconst 0, 1) := by decide +kernel
theorem dX8_corrects_42 : decode cX8_corrects 42 = .ok (.putfield 51, 3) := by decide +kernel
theorem dX8_corrects_45 : decode cX8_corrects 45 = .ok (.aload_n 0, 1) := by decide +kernel
theorem dX8_corrects_46 : decode cX8_corrects 46 = .ok (.iconst 0, 1) := by decide +kernel
theorem dX8_corrects_47 : decode cX8_corrects 47 = .ok (.putfield 48, 3) := by decide +kernel
theorem dX8_corrects_50 : decode cX8_corrects 50 = .ok (.aload_n 0, 1) := by decide +kernel
theorem dX8_corrects_51 : decode cX8_corrects 51 = .ok (.getfield 7, 3) := by decide +kernel
theorem dX8_corrects_54 : decode cX8_corrects 54 = .ok (.bipush 8, 2) := by decide +kernel
theorem dX8_corrects_56 : decode cX8_corrects 56 = .ok (.dup2, 1) := by decide +kernel
theorem dX8_corrects_57 : decode cX8_corrects 57 = .ok (.iaload, 1) := by decide +kernel
theorem dX8_corrects_58 : decode cX8_corrects 58 = .ok (.iconst 1, 1) := by decide +kernel
theorem dX8_corrects_59 : decode cX8_corrects 59 = .ok (.iadd, 1) := by decide +kernel
theorem dX8_corrects_60 : decode cX8_corrects 60 = .ok (.iastore, 1) := by decide +kernel
theorem dX8_corrects_61 : decode cX8_corrects 61 = .ok (.return_, 1) := by decide +kernel
set_option maxRecDepth 20000 in
theorem ggX8_passes_X8_rateNow : GoodIn wsX8_passes wsX8_rateNow := goodIn_r _ [8, 1, 9, 10, 11, 7, 12, 29, 30, 31, 32, 33, 34, 35, 36, 37, 38, 39, 40, 41, 42] (by decide +kernel) (by decide +kernel)
set_option maxRecDepth 20000 in
theorem gX8_passes_X8_rateNow : GoodIn wsX8_passes (wsV RX8 58 RX8 yX8_rateNow wsX8_rateNow) := goodIn_app (goodIn_of _ (by decide +kernel)) ggX8_passes_X8_rateNow
set_option maxRecDepth 20000 in
theorem ggX8_passes_X8_goes : GoodIn wsX8_passes wsX8_goes := goodIn_r _ [16, 3, 2, 29, 30, 31, 32, 33, 34, 35, 36, 37, 38, 39, 40, 41, 42] (by decide +kernel) (by decide +kernel)
set_option maxRecDepth 20000 in
theorem gX8_passes_X8_goes : GoodIn wsX8_passes (wsV RX8 62 RX8 yX8_goes wsX8_goes) := goodIn_app (goodIn_of _ (by decide +kernel)) ggX8_passes_X8_goes
set_option maxRecDepth 20000 in
theorem ggX8_passes_X8_isTooFar : GoodIn wsX8_passes wsX8_isTooFar := goodIn_r _ [20, 2, 1, 29, 30, 31, 32, 33, 34, 35, 36, 37, 38, 39, 40, 41, 42] (by decide +kernel) (by decide +kernel)
set_option maxRecDepth 20000 in
theorem gX8_passes_X8_isTooFar : GoodIn wsX8_passes (wsV RX8 66 RX8 yX8_isTooFar wsX8_isTooFar) := goodIn_app (goodIn_of _ (by decide +kernel)) ggX8_passes_X8_isTooFar
set_option maxRecDepth 20000 in
theorem ggX8_passes_X8_corrects : GoodIn wsX8_passes wsX8_corrects := goodIn_r _ [24, 2, 1, 3, 25, 26, 27, 7, 28, 29, 30, 31, 32, 33, 34, 35, 36, 37, 38, 39, 40, 41, 42] (by decide +kernel) (by decide +kernel)
set_option maxRecDepth 20000 in
theorem gX8_passes_X8_corrects : GoodIn wsX8_passes (wsV RX8 70 RX8 yX8_corrects wsX8_corrects) := goodIn_app (goodIn_of _ (by decide +kernel)) ggX8_passes_X8_corrects
theorem dX8_passes_0 : decode cX8_passes 0 = .ok (.aload_n 0, 1) := by decide +kernel
theorem dX8_passes_1 : decode cX8_passes 1 = .ok (.iload_n 1, 1) := by decide +kernel
theorem dX8_passes_2 : decode cX8_passes 2 = .ok (.iload_n 2, 1) := by decide +kernel
theorem dX8_passes_3 : decode cX8_passes 3 = .ok (.invokevirtual 58, 3) := by decide +kernel
theorem dX8_passes_6 : decode cX8_passes 6 = .ok (.istore 4, 2) := by decide +kernel
theorem dX8_passes_8 : decode cX8_passes 8 = .ok (.aload_n 0, 1) := by decide +kernel
theorem dX8_passes_9 : decode cX8_passes 9 = .ok (.getfield 7, 3) := by decide +kernel
theorem dX8_passes_12 : decode cX8_passes 12 = .ok (.bipush 7, 2) := by decide +kernel
theorem dX8_passes_14 : decode cX8_passes 14 = .ok (.iaload, 1) := by decide +kernel
theorem dX8_passes_15 : decode cX8_passes 15 = .ok (.istore 5, 2) := by decide +kernel
theorem dX8_passes_17 : decode cX8_passes 17 = .ok (.aload_n 0, 1) := by decide +kernel
theorem dX8_passes_18 : decode cX8_passes 18 = .ok (.aload_n 0, 1) := by decide +kernel
theorem dX8_passes_19 : decode cX8_passes 19 = .ok (.getfield 7, 3) := by decide +kernel
theorem dX8_passes_22 : decode cX8_passes 22 = .ok (.iconst 5, 1) := by decide +kernel
theorem dX8_passes_23 : decode cX8_passes 23 = .ok (.iaload, 1) := by decide +kernel
theorem dX8_passes_24 : decode cX8_passes 24 = .ok (.putfield 51, 3) := by decide +kernel
theorem dX8_passes_27 : decode cX8_passes 27 = .ok (.aload_n 0, 1) := by decide +kernel
theorem dX8_passes_28 : decode cX8_passes 28 = .ok (.aload_n 0, 1) := by decide +kernel
theorem dX8_passes_29 : decode cX8_passes 29 = .ok (.getfield 7, 3) := by decide +kernel
theorem dX8_passes_32 : decode cX8_passes 32 = .ok (.bipush 6, 2) := by decide +kernel
theorem dX8_passes_34 : decode cX8_passes 34 = .ok (.iaload, 1) := by decide +kernel
theorem dX8_passes_35 : decode cX8_passes 35 = .ok (.putfield 48, 3) := by decide +kernel
theorem dX8_passes_38 : decode cX8_passes 38 = .ok (.aload_n 0, 1) := by decide +kernel
theorem dX8_passes_39 : decode cX8_passes 39 = .ok (.iload 4, 2) := by decide +kernel
theorem dX8_passes_41 : decode cX8_passes 41 = .ok (.invokevirtual 62, 3) := by decide +kernel
theorem dX8_passes_44 : decode cX8_passes 44 = .ok (.aload_n 0, 1) := by decide +kernel
theorem dX8_passes_45 : decode cX8_passes 45 = .ok (.getfield 51, 3) := by decide +kernel
theorem dX8_passes_48 : decode cX8_passes 48 = .ok (.istore 6, 2) := by decide +kernel
theorem dX8_passes_50 : decode cX8_passes 50 = .ok (.iload_n 3, 1) := by decide +kernel
theorem dX8_passes_51 : decode cX8_passes 51 = .ok (.iconst 1, 1) := by decide +kernel
theorem dX8_passes_52 : decode cX8_passes 52 = .ok (.if_icmp .ne 14, 3) := by decide +kernel
theorem dX8_passes_55 : decode cX8_passes 55 = .ok (.aload_n 0, 1) := by decide +kernel
theorem dX8_passes_56 : decode cX8_passes 56 = .ok (.invokevirtual 66, 3) := by decide +kernel
theorem dX8_passes_59 : decode cX8_passes 59 = .ok (.ifCond .eq 7, 3) := by decide +kernel
theorem dX8_passes_62 : decode cX8_passes 62 = .ok (.iconst 1, 1) := by decide +kernel
theorem dX8_passes_63 : decode cX8_passes 63 = .ok (.goto 4, 3) := by decide +kernel
theorem dX8_passes_66 : decode cX8_passes 66 = .ok (.iconst 0, 1) := by decide +kernel
theorem dX8_passes_67 : decode cX8_passes 67 = .ok (.istore 7, 2) := by decide +kernel
theorem dX8_passes_69 : decode cX8_passes 69 = .ok (.iload 7, 2) := by decide +kernel
theorem dX8_passes_71 : decode cX8_passes 71 = .ok (.ifCond .eq 7, 3) := by decide +kernel
theorem dX8_passes_74 : decode cX8_passes 74 = .ok (.aload_n 0, 1) := by decide +kernel
theorem dX8_passes_75 : decode cX8_passes 75 = .ok (.invokevirtual 70, 3) := by decide +kernel
theorem dX8_passes_78 : decode cX8_passes 78 = .ok (.aload_n 0, 1) := by decide +kernel
theorem dX8_passes_79 : decode cX8_passes 79 = .ok (.getfield 7, 3) := by decide +kernel
theorem dX8_passes_82 : decode cX8_passes 82 = .ok (.iconst 5, 1) := by decide +kernel
theorem dX8_passes_83 : decode cX8_passes 83 = .ok (.aload_n 0, 1) := by decide +kernel
theorem dX8_passes_84 : decode cX8_passes 84 = .ok (.getfield 51, 3) := by decide +kernel
theorem dX8_passes_87 : decode cX8_passes 87 = .ok (.iastore, 1) := by decide +kernel
theorem dX8_passes_88 : decode cX8_passes 88 = .ok (.aload_n 0, 1) := by decide +kernel
theorem dX8_passes_89 : decode cX8_passes 89 = .ok (.getfield 7, 3) := by decide +kernel
theorem dX8_passes_92 : decode cX8_passes 92 = .ok (.bipush 6, 2) := by decide +kernel
theorem dX8_passes_94 : decode cX8_passes 94 = .ok (.aload_n 0, 1) := by decide +kernel
theorem dX8_passes_95 : decode cX8_passes 95 = .ok (.getfield 48, 3) := by decide +kernel
theorem dX8_passes_98 : decode cX8_passes 98 = .ok (.iastore, 1) := by decide +kernel
theorem dX8_passes_99 : decode cX8_passes 99 = .ok (.aload_n 0, 1) := by decide +kernel
theorem dX8_passes_100 : decode cX8_passes 100 = .ok (.getfield 7, 3) := by decide +kernel
theorem dX8_passes_103 : decode cX8_passes 103 = .ok (.iconst 4, 1) := by decide +kernel
theorem dX8_passes_104 : decode cX8_passes 104 = .ok (.dup2, 1) := by decide +kernel
theorem dX8_passes_105 : decode cX8_passes 105 = .ok (.iaload, 1) := by decide +kernel
theorem dX8_passes_106 : decode cX8_passes 106 = .ok (.iconst 1, 1) := by decide +kernel
theorem dX8_passes_107 : decode cX8_passes 107 = .ok (.iadd, 1) := by decide +kernel
theorem dX8_passes_108 : decode cX8_passes 108 = .ok (.iastore, 1) := by decide +kernel
theorem dX8_passes_109 : decode cX8_passes 109 = .ok (.aload_n 0, 1) := by decide +kernel
theorem dX8_passes_110 : decode cX8_passes 110 = .ok (.getfield 7, 3) := by decide +kernel
theorem dX8_passes_113 : decode cX8_passes 113 = .ok (.bipush 10, 2) := by decide +kernel
theorem dX8_passes_115 : decode cX8_passes 115 = .ok (.dup2, 1) := by decide +kernel
theorem dX8_passes_116 : decode cX8_passes 116 = .ok (.iaload, 1) := by decide +kernel
theorem dX8_passes_117 : decode cX8_passes 117 = .ok (.iload_n 3, 1) := by decide +kernel
theorem dX8_passes_118 : decode cX8_passes 118 = .ok (.iadd, 1) := by decide +kernel
theorem dX8_passes_119 : decode cX8_passes 119 = .ok (.iastore, 1) := by decide +kernel
theorem dX8_passes_120 : decode cX8_passes 120 = .ok (.aload_n 0, 1) := by decide +kernel
theorem dX8_passes_121 : decode cX8_passes 121 = .ok (.getfield 7, 3) := by decide +kernel
theorem dX8_passes_124 : decode cX8_passes 124 = .ok (.bipush 9, 2) := by decide +kernel
theorem dX8_passes_126 : decode cX8_passes 126 = .ok (.dup2, 1) := by decide +kernel
theorem dX8_passes_127 : decode cX8_passes 127 = .ok (.iaload, 1) := by decide +kernel
theorem dX8_passes_128 : decode cX8_passes 128 = .ok (.aload_n 0, 1) := by decide +kernel
theorem dX8_passes_129 : decode cX8_passes 129 = .ok (.getfield 7, 3) := by decide +kernel
theorem dX8_passes_132 : decode cX8_passes 132 = .ok (.bipush 9, 2) := by decide +kernel
theorem dX8_passes_134 : decode cX8_passes 134 = .ok (.iaload, 1) := by decide +kernel
theorem dX8_passes_135 : decode cX8_passes 135 = .ok (.bipush 48, 2) := by decide +kernel
theorem dX8_passes_137 : decode cX8_passes 137 = .ok (.if_icmp .ge 7, 3) := by decide +kernel
theorem dX8_passes_140 : decode cX8_passes 140 = .ok (.iconst 1, 1) := by decide +kernel
theorem dX8_passes_141 : decode cX8_passes 141 = .ok (.goto 4, 3) := by decide +kernel
theorem dX8_passes_144 : decode cX8_passes 144 = .ok (.iconst 0, 1) := by decide +kernel
theorem dX8_passes_145 : decode cX8_passes 145 = .ok (.iadd, 1) := by decide +kernel
theorem dX8_passes_146 : decode cX8_passes 146 = .ok (.iastore, 1) := by decide +kernel
theorem dX8_passes_147 : decode cX8_passes 147 = .ok (.bipush 7, 2) := by decide +kernel
theorem dX8_passes_149 : decode cX8_passes 149 = .ok (.aload_n 0, 1) := by decide +kernel
theorem dX8_passes_150 : decode cX8_passes 150 = .ok (.getfield 7, 3) := by decide +kernel
theorem dX8_passes_153 : decode cX8_passes 153 = .ok (.bipush 9, 2) := by decide +kernel
theorem dX8_passes_155 : decode cX8_passes 155 = .ok (.iaload, 1) := by decide +kernel
theorem dX8_passes_156 : decode cX8_passes 156 = .ok (.imul, 1) := by decide +kernel
theorem dX8_passes_157 : decode cX8_passes 157 = .ok (.iconst 1, 1) := by decide +kernel
theorem dX8_passes_158 : decode cX8_passes 158 = .ok (.isub, 1) := by decide +kernel
theorem dX8_passes_159 : decode cX8_passes 159 = .ok (.istore 8, 2) := by decide +kernel
theorem dX8_passes_161 : decode cX8_passes 161 = .ok (.iload 8, 2) := by decide +kernel
theorem dX8_passes_163 : decode cX8_passes 163 = .ok (.bipush 7, 2) := by decide +kernel
theorem dX8_passes_165 : decode cX8_passes 165 = .ok (.if_icmp .lt 32, 3) := by decide +kernel
theorem dX8_passes_168 : decode cX8_passes 168 = .ok (.aload_n 0, 1) := by decide +kernel
theorem dX8_passes_169 : decode cX8_passes 169 = .ok (.getfield 7, 3) := by decide +kernel
theorem dX8_passes_172 : decode cX8_passes 172 = .ok (.bipush 11, 2) := by decide +kernel
theorem dX8_passes_174 : decode cX8_passes 174 = .ok (.iload 8, 2) := by decide +kernel
theorem dX8_passes_176 : decode cX8_passes 176 = .ok (.iadd, 1) := by decide +kernel
theorem dX8_passes_177 : decode cX8_passes 177 = .ok (.aload_n 0, 1) := by decide +kernel
theorem dX8_passes_178 : decode cX8_passes 178 = .ok (.getfield 7, 3) := by decide +kernel
theorem dX8_passes_181 : decode cX8_passes 181 = .ok (.bipush 11, 2) := by decide +kernel
theorem dX8_passes_183 : decode cX8_passes 183 = .ok (.iload 8, 2) := by decide +kernel
theorem dX8_passes_185 : decode cX8_passes 185 = .ok (.iadd, 1) := by decide +kernel
theorem dX8_passes_186 : decode cX8_passes 186 = .ok (.bipush 7, 2) := by decide +kernel
theorem dX8_passes_188 : decode cX8_passes 188 = .ok (.isub, 1) := by decide +kernel
theorem dX8_passes_189 : decode cX8_passes 189 = .ok (.iaload, 1) := by decide +kernel
theorem dX8_passes_190 : decode cX8_passes 190 = .ok (.iastore, 1) := by decide +kernel
theorem dX8_passes_191 : decode cX8_passes 191 = .ok (.iinc 8 (-1), 3) := by decide +kernel
theorem dX8_passes_194 : decode cX8_passes 194 = .ok (.goto (-33), 3) := by decide +kernel
theorem dX8_passes_197 : decode cX8_passes 197 = .ok (.aload_n 0, 1) := by decide +kernel
theorem dX8_passes_198 : decode cX8_passes 198 = .ok (.getfield 7, 3) := by decide +kernel
theorem dX8_passes_201 : decode cX8_passes 201 = .ok (.bipush 11, 2) := by decide +kernel
theorem dX8_passes_203 : decode cX8_passes 203 = .ok (.iload_n 1, 1) := by decide +kernel
theorem dX8_passes_204 : decode cX8_passes 204 = .ok (.iastore, 1) := by decide +kernel
theorem dX8_passes_205 : decode cX8_passes 205 = .ok (.aload_n 0, 1) := by decide +kernel
theorem dX8_passes_206 : decode cX8_passes 206 = .ok (.getfield 7, 3) := by decide +kernel
theorem dX8_passes_209 : decode cX8_passes 209 = .ok (.bipush 12, 2) := by decide +kernel
theorem dX8_passes_211 : decode cX8_passes 211 = .ok (.iload_n 2, 1) := by decide +kernel
theorem dX8_passes_212 : decode cX8_passes 212 = .ok (.iastore, 1) := by decide +kernel
theorem dX8_passes_213 : decode cX8_passes 213 = .ok (.aload_n 0, 1) := by decide +kernel
theorem dX8_passes_214 : decode cX8_passes 214 = .ok (.getfield 7, 3) := by decide +kernel
theorem dX8_passes_217 : decode cX8_passes 217 = .ok (.bipush 13, 2) := by decide +kernel
theorem dX8_passes_219 : decode cX8_passes 219 = .ok (.iload_n 3, 1) := by decide +kernel
theorem dX8_passes_220 : decode cX8_passes 220 = .ok (.iastore, 1) := by decide +kernel
theorem dX8_passes_221 : decode cX8_passes 221 = .ok (.aload_n 0, 1) := by decide +kernel
theorem dX8_passes_222 : decode cX8_passes 222 = .ok (.getfield 7, 3) := by decide +kernel
theorem dX8_passes_225 : decode cX8_passes 225 = .ok (.bipush 14, 2) := by decide +kernel
theorem dX8_passes_227 : decode cX8_passes 227 = .ok (.iload 4, 2) := by decide +kernel
theorem dX8_passes_229 : decode cX8_passes 229 = .ok (.iastore, 1) := by decide +kernel
theorem dX8_passes_230 : decode cX8_passes 230 = .ok (.aload_n 0, 1) := by decide +kernel
theorem dX8_passes_231 : decode cX8_passes 231 = .ok (.getfield 7, 3) := by decide +kernel
theorem dX8_passes_234 : decode cX8_passes 234 = .ok (.bipush 15, 2) := by decide +kernel
theorem dX8_passes_236 : decode cX8_passes 236 = .ok (.iload 6, 2) := by decide +kernel
theorem dX8_passes_238 : decode cX8_passes 238 = .ok (.iastore, 1) := by decide +kernel
theorem dX8_passes_239 : decode cX8_passes 239 = .ok (.aload_n 0, 1) := by decide +kernel
theorem dX8_passes_240 : decode cX8_passes 240 = .ok (.getfield 7, 3) := by decide +kernel
theorem dX8_passes_243 : decode cX8_passes 243 = .ok (.bipush 16, 2) := by decide +kernel
theorem dX8_passes_245 : decode cX8_passes 245 = .ok (.iload 7, 2) := by decide +kernel
theorem dX8_passes_247 : decode cX8_passes 247 = .ok (.ifCond .eq 7, 3) := by decide +kernel
theorem dX8_passes_250 : decode cX8_passes 250 = .ok (.iconst 1, 1) := by decide +kernel
theorem dX8_passes_251 : decode cX8_passes 251 = .ok (.goto 4, 3) := by decide +kernel
theorem dX8_passes_254 : decode cX8_passes 254 = .ok (.iconst 0, 1) := by decide +kernel
theorem dX8_passes_255 : decode cX8_passes 255 = .ok (.iastore, 1) := by decide +kernel
theorem dX8_passes_256 : decode cX8_passes 256 = .ok (.aload_n 0, 1) := by decide +kernel
theorem dX8_passes_257 : decode cX8_passes 257 = .ok (.getfield 7, 3) := by decide +kernel
theorem dX8_passes_260 : decode cX8_passes 260 = .ok (.bipush 17, 2) := by decide +kernel
theorem dX8_passes_262 : decode cX8_passes 262 = .ok (.iload 5, 2) := by decide +kernel
theorem dX8_passes_264 : decode cX8_passes 264 = .ok (.iastore, 1) := by decide +kernel
theorem dX8_passes_265 : decode cX8_passes 265 = .ok (.iload 7, 2) := by decide +kernel
theorem dX8_passes_267 : decode cX8_passes 267 = .ok (.ireturn, 1) := by decide +kernel
set_option maxRecDepth 20000 in
theorem ggX8_isSetting_X8_in : GoodIn wsX8_isSetting wsX8_in := goodIn_r _ [8] (by decide +kernel) (by decide +kernel)
set_option maxRecDepth 20000 in
theorem gX8_isSetting_X8_in : GoodIn wsX8_isSetting (va_wsS RX8 36 yX8_in wsX8_in) := goodIn_app (goodIn_of _ (by decide +kernel)) ggX8_isSetting_X8_in
theorem dX8_isSetting_0 : decode cX8_isSetting 0 = .ok (.iload_n 0, 1) := by decide +kernel
theorem dX8_isSetting_1 : decode cX8_isSetting 1 = .ok (.tableswitch 49 0 2 #[27, 27, 37], 27) := by decide +kernel
theorem dX8_isSetting_28 : decode cX8_isSetting 28 = .ok (.iload_n 1, 1) := by decide +kernel
theorem dX8_isSetting_29 : decode cX8_isSetting 29 = .ok (.i2l, 1) := by decide +kernel
theorem dX8_isSetting_30 : decode cX8_isSetting 30 = .ok (.lconst 0, 1) := by decide +kernel
theorem dX8_isSetting_31 : decode cX8_isSetting 31 = .ok (.ldc2_w 73, 3) := by decide +kernel
theorem dX8_isSetting_34 : decode cX8_isSetting 34 = .ok (.invokestatic 36, 3) := by decide +kernel
theorem dX8_isSetting_37 : decode cX8_isSetting 37 = .ok (.ireturn, 1) := by decide +kernel
theorem dX8_isSetting_38 : decode cX8_isSetting 38 = .ok (.iload_n 1, 1) := by decide +kernel
theorem dX8_isSetting_39 : decode cX8_isSetting 39 = .ok (.i2l, 1) := by decide +kernel
theorem dX8_isSetting_40 : decode cX8_isSetting 40 = .ok (.ldc2_w 75, 3) := by decide +kernel
theorem dX8_isSetting_43 : decode cX8_isSetting 43 = .ok (.ldc2_w 77, 3) := by decide +kernel
theorem dX8_isSetting_46 : decode cX8_isSetting 46 = .ok (.invokestatic 36, 3) := by decide +kernel
theorem dX8_isSetting_49 : decode cX8_isSetting 49 = .ok (.ireturn, 1) := by decide +kernel
theorem dX8_isSetting_50 : decode cX8_isSetting 50 = .ok (.iload_n 0, 1) := by decide +kernel
theorem dX8_isSetting_51 : decode cX8_isSetting 51 = .ok (.iconst 3, 1) := by decide +kernel
theorem dX8_isSetting_52 : decode cX8_isSetting 52 = .ok (.if_icmp .ne 19, 3) := by decide +kernel
theorem dX8_isSetting_55 : decode cX8_isSetting 55 = .ok (.iload_n 1, 1) := by decide +kernel
theorem dX8_isSetting_56 : decode cX8_isSetting 56 = .ok (.i2l, 1) := by decide +kernel
theorem dX8_isSetting_57 : decode cX8_isSetting 57 = .ok (.lconst 1, 1) := by decide +kernel
theorem dX8_isSetting_58 : decode cX8_isSetting 58 = .ok (.ldc2_w 79, 3) := by decide +kernel
theorem dX8_isSetting_61 : decode cX8_isSetting 61 = .ok (.invokestatic 36, 3) := by decide +kernel
theorem dX8_isSetting_64 : decode cX8_isSetting 64 = .ok (.ifCond .eq 7, 3) := by decide +kernel
theorem dX8_isSetting_67 : decode cX8_isSetting 67 = .ok (.iconst 1, 1) := by decide +kernel
theorem dX8_isSetting_68 : decode cX8_isSetting 68 = .ok (.goto 4, 3) := by decide +kernel
theorem dX8_isSetting_71 : decode cX8_isSetting 71 = .ok (.iconst 0, 1) := by decide +kernel
theorem dX8_isSetting_72 : decode cX8_isSetting 72 = .ok (.ireturn, 1) := by decide +kernel
set_option maxRecDepth 20000 in
theorem ggX8_doSet_X8_isSetting : GoodIn wsX8_doSet wsX8_isSetting := goodIn_r _ [5, 6, 7, 8, 9, 10, 11, 4, 12] (by decide +kernel) (by decide +kernel)
set_option maxRecDepth 20000 in
theorem gX8_doSet_X8_isSetting : GoodIn wsX8_doSet (va_wsS RX8 81 yX8_isSetting wsX8_isSetting) := goodIn_app (goodIn_of _ (by decide +kernel)) ggX8_doSet_X8_isSetting
theorem dX8_doSet_0 : decode cX8_doSet 0 = .ok (.iload_n 1, 1) := by decide +kernel
theorem dX8_doSet_1 : decode cX8_doSet 1 = .ok (.iload_n 2, 1) := by decide +kernel
theorem dX8_doSet_2 : decode cX8_doSet 2 = .ok (.invokestatic 81, 3) := by decide +kernel
theorem dX8_doSet_5 : decode cX8_doSet 5 = .ok (.ifCond .ne 6, 3) := by decide +kernel
theorem dX8_doSet_8 : decode cX8_doSet 8 = .ok (.bipush (-2), 2) := by decide +kernel
theorem dX8_doSet_10 : decode cX8_doSet 10 = .ok (.ireturn, 1) := by decide +kernel
theorem dX8_doSet_11 : decode cX8_doSet 11 = .ok (.aload_n 0, 1) := by decide +kernel
theorem dX8_doSet_12 : decode cX8_doSet 12 = .ok (.getfield 7, 3) := by decide +kernel
theorem dX8_doSet_15 : decode cX8_doSet 15 = .ok (.iload_n 1, 1) := by decide +kernel
theorem dX8_doSet_16 : decode cX8_doSet 16 = .ok (.iaload, 1) := by decide +kernel
theorem dX8_doSet_17 : decode cX8_doSet 17 = .ok (.istore_n 3, 1) := by decide +kernel
theorem dX8_doSet_18 : decode cX8_doSet 18 = .ok (.aload_n 0, 1) := by decide +kernel
theorem dX8_doSet_19 : decode cX8_doSet 19 = .ok (.getfield 7, 3) := by decide +kernel
theorem dX8_doSet_22 : decode cX8_doSet 22 = .ok (.iload_n 1, 1) := by decide +kernel
theorem dX8_doSet_23 : decode cX8_doSet 23 = .ok (.iload_n 2, 1) := by decide +kernel
theorem dX8_doSet_24 : decode cX8_doSet 24 = .ok (.iastore, 1) := by decide +kernel
theorem dX8_doSet_25 : decode cX8_doSet 25 = .ok (.iload_n 3, 1) := by decide +kernel
theorem dX8_doSet_26 : decode cX8_doSet 26 = .ok (.sipush 1000, 3) := by decide +kernel
theorem dX8_doSet_29 : decode cX8_doSet 29 = .ok (.iadd, 1) := by decide +kernel
theorem dX8_doSet_30 : decode cX8_doSet 30 = .ok (.ireturn, 1) := by decide +kernel
set_option maxRecDepth 20000 in
theorem ggX8_doWeight_X8_in : GoodIn wsX8_doWeight wsX8_in := goodIn_r _ [6] (by decide +kernel) (by decide +kernel)
set_option maxRecDepth 20000 in
theorem gX8_doWeight_X8_in : GoodIn wsX8_doWeight (va_wsS RX8 36 yX8_in wsX8_in) := goodIn_app (goodIn_of _ (by decide +kernel)) ggX8_doWeight_X8_in
theorem dX8_doWeight_0 : decode cX8_doWeight 0 = .ok (.iload_n 1, 1) := by decide +kernel
theorem dX8_doWeight_1 : decode cX8_doWeight 1 = .ok (.i2l, 1) := by decide +kernel
theorem dX8_doWeight_2 : decode cX8_doWeight 2 = .ok (.lconst 0, 1) := by decide +kernel
theorem dX8_doWeight_3 : decode cX8_doWeight 3 = .ok (.ldc2_w 85, 3) := by decide +kernel
theorem dX8_doWeight_6 : decode cX8_doWeight 6 = .ok (.invokestatic 36, 3) := by decide +kernel
theorem dX8_doWeight_9 : decode cX8_doWeight 9 = .ok (.ifCond .ne 5, 3) := by decide +kernel
theorem dX8_doWeight_12 : decode cX8_doWeight 12 = .ok (.iconst (-1), 1) := by decide +kernel
theorem dX8_doWeight_13 : decode cX8_doWeight 13 = .ok (.ireturn, 1) := by decide +kernel
theorem dX8_doWeight_14 : decode cX8_doWeight 14 = .ok (.aload_n 0, 1) := by decide +kernel
theorem dX8_doWeight_15 : decode cX8_doWeight 15 = .ok (.getfield 7, 3) := by decide +kernel
theorem dX8_doWeight_18 : decode cX8_doWeight 18 = .ok (.bipush 7, 2) := by decide +kernel
theorem dX8_doWeight_20 : decode cX8_doWeight 20 = .ok (.dup2, 1) := by decide +kernel
theorem dX8_doWeight_21 : decode cX8_doWeight 21 = .ok (.iaload, 1) := by decide +kernel
theorem dX8_doWeight_22 : decode cX8_doWeight 22 = .ok (.iconst 1, 1) := by decide +kernel
theorem dX8_doWeight_23 : decode cX8_doWeight 23 = .ok (.iload_n 1, 1) := by decide +kernel
theorem dX8_doWeight_24 : decode cX8_doWeight 24 = .ok (.ishl, 1) := by decide +kernel
theorem dX8_doWeight_25 : decode cX8_doWeight 25 = .ok (.ixor, 1) := by decide +kernel
theorem dX8_doWeight_26 : decode cX8_doWeight 26 = .ok (.iastore, 1) := by decide +kernel
theorem dX8_doWeight_27 : decode cX8_doWeight 27 = .ok (.aload_n 0, 1) := by decide +kernel
theorem dX8_doWeight_28 : decode cX8_doWeight 28 = .ok (.getfield 7, 3) := by decide +kernel
theorem dX8_doWeight_31 : decode cX8_doWeight 31 = .ok (.bipush 7, 2) := by decide +kernel
theorem dX8_doWeight_33 : decode cX8_doWeight 33 = .ok (.iaload, 1) := by decide +kernel
theorem dX8_doWeight_34 : decode cX8_doWeight 34 = .ok (.iload_n 1, 1) := by decide +kernel
theorem dX8_doWeight_35 : decode cX8_doWeight 35 = .ok (.ishr, 1) := by decide +kernel
theorem dX8_doWeight_36 : decode cX8_doWeight 36 = .ok (.iconst 1, 1) := by decide +kernel
theorem dX8_doWeight_37 : decode cX8_doWeight 37 = .ok (.iand, 1) := by decide +kernel
theorem dX8_doWeight_38 : decode cX8_doWeight 38 = .ok (.ireturn, 1) := by decide +kernel
set_option maxRecDepth 20000 in
theorem ggX8_doPass_X8_isHeat : GoodIn wsX8_doPass wsX8_isHeat := goodIn_r _ [6, 7, 8, 9, 10, 5, 11] (by decide +kernel) (by decide +kernel)
set_option maxRecDepth 20000 in
theorem gX8_doPass_X8_isHeat : GoodIn wsX8_doPass (va_wsS RX8 87 yX8_isHeat wsX8_isHeat) := goodIn_app (goodIn_of _ (by decide +kernel)) ggX8_doPass_X8_isHeat
set_option maxRecDepth 20000 in
theorem ggX8_doPass_X8_isAir : GoodIn wsX8_doPass wsX8_isAir := goodIn_r _ [14, 15, 16, 9, 10, 5, 11] (by decide +kernel) (by decide +kernel)
set_option maxRecDepth 20000 in
theorem gX8_doPass_X8_isAir : GoodIn wsX8_doPass (va_wsS RX8 91 yX8_isAir wsX8_isAir) := goodIn_app (goodIn_of _ (by decide +kernel)) ggX8_doPass_X8_isAir
set_option maxRecDepth 20000 in
theorem ggX8_doPass_X8_in : GoodIn wsX8_doPass wsX8_in := goodIn_r _ [11] (by decide +kernel) (by decide +kernel)
set_option maxRecDepth 20000 in
theorem gX8_doPass_X8_in : GoodIn wsX8_doPass (va_wsS RX8 36 yX8_in wsX8_in) := goodIn_app (goodIn_of _ (by decide +kernel)) ggX8_doPass_X8_in
set_option maxRecDepth 20000 in
theorem ggX8_doPass_X8_passes : GoodIn wsX8_doPass wsX8_passes := goodIn_r _ [20, 2, 21, 22, 23, 24, 25, 5, 26, 27, 28, 29, 30, 31, 32, 33, 34, 35, 36, 37, 38, 39, 40, 41, 42, 43, 44, 45, 46, 47, 48, 49, 50, 51, 52, 53, 54, 55, 56, 57, 58, 59, 60] (by decide +kernel) (by decide +kernel)
set_option maxRecDepth 20000 in
theorem gX8_doPass_X8_passes : GoodIn wsX8_doPass (wsV RX8 94 RX8 yX8_passes wsX8_passes) := goodIn_app (goodIn_of _ (by decide +kernel)) ggX8_doPass_X8_passes
theorem dX8_doPass_0 : decode cX8_doPass 0 = .ok (.iload_n 1, 1) := by decide +kernel
theorem dX8_doPass_1 : decode cX8_doPass 1 = .ok (.invokestatic 87, 3) := by decide +kernel
theorem dX8_doPass_4 : decode cX8_doPass 4 = .ok (.ifCond .eq 33, 3) := by decide +kernel
theorem dX8_doPass_7 : decode cX8_doPass 7 = .ok (.iload_n 2, 1) := by decide +kernel
theorem dX8_doPass_8 : decode cX8_doPass 8 = .ok (.invokestatic 91, 3) := by decide +kernel
theorem dX8_doPass_11 : decode cX8_doPass 11 = .ok (.ifCond .eq 26, 3) := by decide +kernel
theorem dX8_doPass_14 : decode cX8_doPass 14 = .ok (.iload_n 3, 1) := by decide +kernel
theorem dX8_doPass_15 : decode cX8_doPass 15 = .ok (.i2l, 1) := by decide +kernel
theorem dX8_doPass_16 : decode cX8_doPass 16 = .ok (.lconst 0, 1) := by decide +kernel
theorem dX8_doPass_17 : decode cX8_doPass 17 = .ok (.lconst 1, 1) := by decide +kernel
theorem dX8_doPass_18 : decode cX8_doPass 18 = .ok (.invokestatic 36, 3) := by decide +kernel
theorem dX8_doPass_21 : decode cX8_doPass 21 = .ok (.ifCond .eq 16, 3) := by decide +kernel
theorem dX8_doPass_24 : decode cX8_doPass 24 = .ok (.iload 4, 2) := by decide +kernel
theorem dX8_doPass_26 : decode cX8_doPass 26 = .ok (.i2l, 1) := by decide +kernel
theorem dX8_doPass_27 : decode cX8_doPass 27 = .ok (.lconst 1, 1) := by decide +kernel
theorem dX8_doPass_28 : decode cX8_doPass 28 = .ok (.ldc2_w 73, 3) := by decide +kernel
theorem dX8_doPass_31 : decode cX8_doPass 31 = .ok (.invokestatic 36, 3) := by decide +kernel
theorem dX8_doPass_34 : decode cX8_doPass 34 = .ok (.ifCond .ne 6, 3) := by decide +kernel
theorem dX8_doPass_37 : decode cX8_doPass 37 = .ok (.bipush (-2), 2) := by decide +kernel
theorem dX8_doPass_39 : decode cX8_doPass 39 = .ok (.ireturn, 1) := by decide +kernel
theorem dX8_doPass_40 : decode cX8_doPass 40 = .ok (.aload_n 0, 1) := by decide +kernel
theorem dX8_doPass_41 : decode cX8_doPass 41 = .ok (.getfield 7, 3) := by decide +kernel
theorem dX8_doPass_44 : decode cX8_doPass 44 = .ok (.iconst 4, 1) := by decide +kernel
theorem dX8_doPass_45 : decode cX8_doPass 45 = .ok (.iaload, 1) := by decide +kernel
theorem dX8_doPass_46 : decode cX8_doPass 46 = .ok (.iload 4, 2) := by decide +kernel
theorem dX8_doPass_48 : decode cX8_doPass 48 = .ok (.iadd, 1) := by decide +kernel
theorem dX8_doPass_49 : decode cX8_doPass 49 = .ok (.sipush 9999, 3) := by decide +kernel
theorem dX8_doPass_52 : decode cX8_doPass 52 = .ok (.if_icmp .le 6, 3) := by decide +kernel
theorem dX8_doPass_55 : decode cX8_doPass 55 = .ok (.bipush (-5), 2) := by decide +kernel
theorem dX8_doPass_57 : decode cX8_doPass 57 = .ok (.ireturn, 1) := by decide +kernel
theorem dX8_doPass_58 : decode cX8_doPass 58 = .ok (.iconst 0, 1) := by decide +kernel
theorem dX8_doPass_59 : decode cX8_doPass 59 = .ok (.istore 5, 2) := by decide +kernel
theorem dX8_doPass_61 : decode cX8_doPass 61 = .ok (.iconst 0, 1) := by decide +kernel
theorem dX8_doPass_62 : decode cX8_doPass 62 = .ok (.istore 6, 2) := by decide +kernel
theorem dX8_doPass_64 : decode cX8_doPass 64 = .ok (.iload 6, 2) := by decide +kernel
theorem dX8_doPass_66 : decode cX8_doPass 66 = .ok (.iload 4, 2) := by decide +kernel
theorem dX8_doPass_68 : decode cX8_doPass 68 = .ok (.if_icmp .ge 29, 3) := by decide +kernel
theorem dX8_doPass_71 : decode cX8_doPass 71 = .ok (.iload 5, 2) := by decide +kernel
theorem dX8_doPass_73 : decode cX8_doPass 73 = .ok (.aload_n 0, 1) := by decide +kernel
theorem dX8_doPass_74 : decode cX8_doPass 74 = .ok (.iload_n 1, 1) := by decide +kernel
theorem dX8_doPass_75 : decode cX8_doPass 75 = .ok (.iload_n 2, 1) := by decide +kernel
theorem dX8_doPass_76 : decode cX8_doPass 76 = .ok (.iload_n 3, 1) := by decide +kernel
theorem dX8_doPass_77 : decode cX8_doPass 77 = .ok (.invokevirtual 94, 3) := by decide +kernel
theorem dX8_doPass_80 : decode cX8_doPass 80 = .ok (.ifCond .eq 7, 3) := by decide +kernel
theorem dX8_doPass_83 : decode cX8_doPass 83 = .ok (.iconst 1, 1) := by decide +kernel
theorem dX8_doPass_84 : decode cX8_doPass 84 = .ok (.goto 4, 3) := by decide +kernel
theorem dX8_doPass_87 : decode cX8_doPass 87 = .ok (.iconst 0, 1) := by decide +kernel
theorem dX8_doPass_88 : decode cX8_doPass 88 = .ok (.iadd, 1) := by decide +kernel
theorem dX8_doPass_89 : decode cX8_doPass 89 = .ok (.istore 5, 2) := by decide +kernel
theorem dX8_doPass_91 : decode cX8_doPass 91 = .ok (.iinc 6 1, 3) := by decide +kernel
theorem dX8_doPass_94 : decode cX8_doPass 94 = .ok (.goto (-30), 3) := by decide +kernel
theorem dX8_doPass_97 : decode cX8_doPass 97 = .ok (.iload 5, 2) := by decide +kernel
theorem dX8_doPass_99 : decode cX8_doPass 99 = .ok (.ireturn, 1) := by decide +kernel
theorem dX8_doZero_0 : decode cX8_doZero 0 = .ok (.aload_n 0, 1) := by decide +kernel
theorem dX8_doZero_1 : decode cX8_doZero 1 = .ok (.getfield 7, 3) := by decide +kernel
theorem dX8_doZero_4 : decode cX8_doZero 4 = .ok (.iconst 5, 1) := by decide +kernel
theorem dX8_doZero_5 : decode cX8_doZero 5 = .ok (.iaload, 1) := by decide +kernel
theorem dX8_doZero_6 : decode cX8_doZero 6 = .ok (.istore_n 1, 1) := by decide +kernel
theorem dX8_doZero_7 : decode cX8_doZero 7 = .ok (.aload_n 0, 1) := by decide +kernel
theorem dX8_doZero_8 : decode cX8_doZero 8 = .ok (.getfield 7, 3) := by decide +kernel
theorem dX8_doZero_11 : decode cX8_doZero 11 = .ok (.iconst 5, 1) := by decide +kernel
theorem dX8_doZero_12 : decode cX8_doZero 12 = .ok (.iconst 0, 1) := by decide +kernel
theorem dX8_doZero_13 : decode cX8_doZero 13 = .ok (.iastore, 1) := by decide +kernel
theorem dX8_doZero_14 : decode cX8_doZero 14 = .ok (.aload_n 0, 1) := by decide +kernel
theorem dX8_doZero_15 : decode cX8_doZero 15 = .ok (.getfield 7, 3) := by decide +kernel
theorem dX8_doZero_18 : decode cX8_doZero 18 = .ok (.bipush 6, 2) := by decide +kernel
theorem dX8_doZero_20 : decode cX8_doZero 20 = .ok (.iconst 0, 1) := by decide +kernel
theorem dX8_doZero_21 : decode cX8_doZero 21 = .ok (.iastore, 1) := by decide +kernel
theorem dX8_doZero_22 : decode cX8_doZero 22 = .ok (.iload_n 1, 1) := by decide +kernel
theorem dX8_doZero_23 : decode cX8_doZero 23 = .ok (.ldc 98, 2) := by decide +kernel
theorem dX8_doZero_25 : decode cX8_doZero 25 = .ok (.iadd, 1) := by decide +kernel
theorem dX8_doZero_26 : decode cX8_doZero 26 = .ok (.ireturn, 1) := by decide +kernel
set_option maxRecDepth 20000 in
theorem ggX8_set_X8_keep : GoodIn wsX8_set wsX8_keep := goodIn_r _ [5, 6, 7, 28, 29, 30, 31, 32, 33, 34, 35, 36, 37, 38, 39, 40, 41] (by decide +kernel) (by decide +kernel)
set_option maxRecDepth 20000 in
theorem gX8_set_X8_keep : GoodIn wsX8_set (wsV RX8 99 RX8 yX8_keep wsX8_keep) := goodIn_app (goodIn_of _ (by decide +kernel)) ggX8_set_X8_keep
set_option maxRecDepth 20000 in
theorem ggX8_set_X8_doSet : GoodIn wsX8_set wsX8_doSet := goodIn_r _ [11, 7, 12, 13, 4, 14, 15, 16, 17, 18, 19, 20, 21, 28, 29, 30, 31, 32, 33, 34, 35, 36, 37, 38, 39, 40, 41] (by decide +kernel) (by decide +kernel)
set_option maxRecDepth 20000 in
theorem gX8_set_X8_doSet : GoodIn wsX8_set (wsV RX8 102 RX8 yX8_doSet wsX8_doSet) := goodIn_app (goodIn_of _ (by decide +kernel)) ggX8_set_X8_doSet
set_option maxRecDepth 20000 in
theorem ggX8_set_X8_changed : GoodIn wsX8_set wsX8_changed := goodIn_r _ [25, 26, 27, 6, 28, 29, 30, 31, 32, 33, 34, 35, 36, 37, 38, 39, 40, 41] (by decide +kernel) (by decide +kernel)
set_option maxRecDepth 20000 in
theorem gX8_set_X8_changed : GoodIn wsX8_set (wsV RX8 105 RX8 yX8_changed wsX8_changed) := goodIn_app (goodIn_of _ (by decide +kernel)) ggX8_set_X8_changed
theorem dX8_set_0 : decode cX8_set 0 = .ok (.aload_n 0, 1) := by decide +kernel
theorem dX8_set_1 : decode cX8_set 1 = .ok (.invokevirtual 99, 3) := by decide +kernel
theorem dX8_set_4 : decode cX8_set 4 = .ok (.aload_n 0, 1) := by decide +kernel
theorem dX8_set_5 : decode cX8_set 5 = .ok (.iload_n 1, 1) := by decide +kernel
theorem dX8_set_6 : decode cX8_set 6 = .ok (.iload_n 2, 1) := by decide +kernel
theorem dX8_set_7 : decode cX8_set 7 = .ok (.invokevirtual 102, 3) := by decide +kernel
theorem dX8_set_10 : decode cX8_set 10 = .ok (.istore_n 3, 1) := by decide +kernel
theorem dX8_set_11 : decode cX8_set 11 = .ok (.iload_n 3, 1) := by decide +kernel
theorem dX8_set_12 : decode cX8_set 12 = .ok (.ifCond .ge 7, 3) := by decide +kernel
theorem dX8_set_15 : decode cX8_set 15 = .ok (.iload_n 3, 1) := by decide +kernel
theorem dX8_set_16 : decode cX8_set 16 = .ok (.goto 8, 3) := by decide +kernel
theorem dX8_set_19 : decode cX8_set 19 = .ok (.aload_n 0, 1) := by decide +kernel
theorem dX8_set_20 : decode cX8_set 20 = .ok (.iload_n 3, 1) := by decide +kernel
theorem dX8_set_21 : decode cX8_set 21 = .ok (.invokevirtual 105, 3) := by decide +kernel
theorem dX8_set_24 : decode cX8_set 24 = .ok (.ireturn, 1) := by decide +kernel
set_option maxRecDepth 20000 in
theorem ggX8_weight_X8_keep : GoodIn wsX8_weight wsX8_keep := goodIn_r _ [5, 6, 7, 22, 23, 24, 25, 26, 27, 28, 29, 30, 31, 32, 33, 34, 35] (by decide +kernel) (by decide +kernel)
set_option maxRecDepth 20000 in
theorem gX8_weight_X8_keep : GoodIn wsX8_weight (wsV RX8 99 RX8 yX8_keep wsX8_keep) := goodIn_app (goodIn_of _ (by decide +kernel)) ggX8_weight_X8_keep
set_option maxRecDepth 20000 in
theorem ggX8_weight_X8_doWeight : GoodIn wsX8_weight wsX8_doWeight := goodIn_r _ [11, 12, 7, 13, 14, 4, 15, 22, 23, 24, 25, 26, 27, 28, 29, 30, 31, 32, 33, 34, 35] (by decide +kernel) (by decide +kernel)
set_option maxRecDepth 20000 in
theorem gX8_weight_X8_doWeight : GoodIn wsX8_weight (wsV RX8 108 RX8 yX8_doWeight wsX8_doWeight) := goodIn_app (goodIn_of _ (by decide +kernel)) ggX8_weight_X8_doWeight
set_option maxRecDepth 20000 in
theorem ggX8_weight_X8_changed : GoodIn wsX8_weight wsX8_changed := goodIn_r _ [19, 20, 21, 6, 22, 23, 24, 25, 26, 27, 28, 29, 30, 31, 32, 33, 34, 35] (by decide +kernel) (by decide +kernel)
set_option maxRecDepth 20000 in
theorem gX8_weight_X8_changed : GoodIn wsX8_weight (wsV RX8 105 RX8 yX8_changed wsX8_changed) := goodIn_app (goodIn_of _ (by decide +kernel)) ggX8_weight_X8_changed
theorem dX8_weight_0 : decode cX8_weight 0 = .ok (.aload_n 0, 1) := by decide +kernel
theorem dX8_weight_1 : decode cX8_weight 1 = .ok (.invokevirtual 99, 3) := by decide +kernel
theorem dX8_weight_4 : decode cX8_weight 4 = .ok (.aload_n 0, 1) := by decide +kernel
theorem dX8_weight_5 : decode cX8_weight 5 = .ok (.iload_n 1, 1) := by decide +kernel
theorem dX8_weight_6 : decode cX8_weight 6 = .ok (.invokevirtual 108, 3) := by decide +kernel
theorem dX8_weight_9 : decode cX8_weight 9 = .ok (.istore_n 2, 1) := by decide +kernel
theorem dX8_weight_10 : decode cX8_weight 10 = .ok (.iload_n 2, 1) := by decide +kernel
theorem dX8_weight_11 : decode cX8_weight 11 = .ok (.ifCond .ge 7, 3) := by decide +kernel
theorem dX8_weight_14 : decode cX8_weight 14 = .ok (.iload_n 2, 1) := by decide +kernel
theorem dX8_weight_15 : decode cX8_weight 15 = .ok (.goto 8, 3) := by decide +kernel
theorem dX8_weight_18 : decode cX8_weight 18 = .ok (.aload_n 0, 1) := by decide +kernel
theorem dX8_weight_19 : decode cX8_weight 19 = .ok (.iload_n 2, 1) := by decide +kernel
theorem dX8_weight_20 : decode cX8_weight 20 = .ok (.invokevirtual 105, 3) := by decide +kernel
theorem dX8_weight_23 : decode cX8_weight 23 = .ok (.ireturn, 1) := by decide +kernel
set_option maxRecDepth 20000 in
theorem ggX8_pass_X8_keep : GoodIn wsX8_pass wsX8_keep := goodIn_r _ [5, 6, 7, 62, 63, 64, 65, 66, 67, 68, 69, 70, 71, 72, 73, 74, 75] (by decide +kernel) (by decide +kernel)
set_option maxRecDepth 20000 in
theorem gX8_pass_X8_keep : GoodIn wsX8_pass (wsV RX8 99 RX8 yX8_keep wsX8_keep) := goodIn_app (goodIn_of _ (by decide +kernel)) ggX8_pass_X8_keep
set_option maxRecDepth 20000 in
theorem ggX8_pass_X8_doPass : GoodIn wsX8_pass wsX8_doPass := goodIn_r _ [11, 12, 7, 13, 14, 4, 15, 16, 17, 18, 19, 20, 21, 22, 23, 24, 25, 26, 27, 28, 29, 30, 31, 32, 33, 34, 35, 36, 37, 38, 39, 40, 41, 42, 43, 44, 45, 46, 47, 48, 49, 50, 51, 52, 53, 54, 55, 62, 63, 64, 65, 66, 67, 68, 69, 70, 71, 72, 73, 74, 75] (by decide +kernel) (by decide +kernel)
set_option maxRecDepth 20000 in
theorem gX8_pass_X8_doPass : GoodIn wsX8_pass (wsV RX8 111 RX8 yX8_doPass wsX8_doPass) := goodIn_app (goodIn_of _ (by decide +kernel)) ggX8_pass_X8_doPass
set_option maxRecDepth 20000 in
theorem ggX8_pass_X8_changed : GoodIn wsX8_pass wsX8_changed := goodIn_r _ [59, 60, 61, 6, 62, 63, 64, 65, 66, 67, 68, 69, 70, 71, 72, 73, 74, 75] (by decide +kernel) (by decide +kernel)
set_option maxRecDepth 20000 in
theorem gX8_pass_X8_changed : GoodIn wsX8_pass (wsV RX8 105 RX8 yX8_changed wsX8_changed) := goodIn_app (goodIn_of _ (by decide +kernel)) ggX8_pass_X8_changed
theorem dX8_pass_0 : decode cX8_pass 0 = .ok (.aload_n 0, 1) := by decide +kernel
theorem dX8_pass_1 : decode cX8_pass 1 = .ok (.invokevirtual 99, 3) := by decide +kernel
theorem dX8_pass_4 : decode cX8_pass 4 = .ok (.aload_n 0, 1) := by decide +kernel
theorem dX8_pass_5 : decode cX8_pass 5 = .ok (.iload_n 1, 1) := by decide +kernel
theorem dX8_pass_6 : decode cX8_pass 6 = .ok (.iload_n 2, 1) := by decide +kernel
theorem dX8_pass_7 : decode cX8_pass 7 = .ok (.iload_n 3, 1) := by decide +kernel
theorem dX8_pass_8 : decode cX8_pass 8 = .ok (.iload 4, 2) := by decide +kernel
theorem dX8_pass_10 : decode cX8_pass 10 = .ok (.invokevirtual 111, 3) := by decide +kernel
theorem dX8_pass_13 : decode cX8_pass 13 = .ok (.istore 5, 2) := by decide +kernel
theorem dX8_pass_15 : decode cX8_pass 15 = .ok (.iload 5, 2) := by decide +kernel
theorem dX8_pass_17 : decode cX8_pass 17 = .ok (.ifCond .ge 8, 3) := by decide +kernel
theorem dX8_pass_20 : decode cX8_pass 20 = .ok (.iload 5, 2) := by decide +kernel
theorem dX8_pass_22 : decode cX8_pass 22 = .ok (.goto 9, 3) := by decide +kernel
theorem dX8_pass_25 : decode cX8_pass 25 = .ok (.aload_n 0, 1) := by decide +kernel
theorem dX8_pass_26 : decode cX8_pass 26 = .ok (.iload 5, 2) := by decide +kernel
theorem dX8_pass_28 : decode cX8_pass 28 = .ok (.invokevirtual 105, 3) := by decide +kernel
theorem dX8_pass_31 : decode cX8_pass 31 = .ok (.ireturn, 1) := by decide +kernel
set_option maxRecDepth 20000 in
theorem ggX8_zero_X8_keep : GoodIn wsX8_zero wsX8_keep := goodIn_r _ [5, 6, 7, 19, 20, 21, 22, 23, 24, 25, 26, 27, 28, 29, 30, 31, 32] (by decide +kernel) (by decide +kernel)
set_option maxRecDepth 20000 in
theorem gX8_zero_X8_keep : GoodIn wsX8_zero (wsV RX8 99 RX8 yX8_keep wsX8_keep) := goodIn_app (goodIn_of _ (by decide +kernel)) ggX8_zero_X8_keep
set_option maxRecDepth 20000 in
theorem ggX8_zero_X8_doZero : GoodIn wsX8_zero wsX8_doZero := goodIn_r _ [11, 7, 12, 19, 20, 21, 22, 23, 24, 25, 26, 27, 28, 29, 30, 31, 32] (by decide +kernel) (by decide +kernel)
set_option maxRecDepth 20000 in
theorem gX8_zero_X8_doZero : GoodIn wsX8_zero (wsV RX8 115 RX8 yX8_doZero wsX8_doZero) := goodIn_app (goodIn_of _ (by decide +kernel)) ggX8_zero_X8_doZero
set_option maxRecDepth 20000 in
theorem ggX8_zero_X8_changed : GoodIn wsX8_zero wsX8_changed := goodIn_r _ [16, 17, 18, 6, 19, 20, 21, 22, 23, 24, 25, 26, 27, 28, 29, 30, 31, 32] (by decide +kernel) (by decide +kernel)
set_option maxRecDepth 20000 in
theorem gX8_zero_X8_changed : GoodIn wsX8_zero (wsV RX8 105 RX8 yX8_changed wsX8_changed) := goodIn_app (goodIn_of _ (by decide +kernel)) ggX8_zero_X8_changed
theorem dX8_zero_0 : decode cX8_zero 0 = .ok (.aload_n 0, 1) := by decide +kernel
theorem dX8_zero_1 : decode cX8_zero 1 = .ok (.invokevirtual 99, 3) := by decide +kernel
theorem dX8_zero_4 : decode cX8_zero 4 = .ok (.aload_n 0, 1) := by decide +kernel
theorem dX8_zero_5 : decode cX8_zero 5 = .ok (.aload_n 0, 1) := by decide +kernel
theorem dX8_zero_6 : decode cX8_zero 6 = .ok (.invokevirtual 115, 3) := by decide +kernel
theorem dX8_zero_9 : decode cX8_zero 9 = .ok (.invokevirtual 105, 3) := by decide +kernel
theorem dX8_zero_12 : decode cX8_zero 12 = .ok (.ireturn, 1) := by decide +kernel
theorem dX8_of_0 : decode cX8_of 0 = .ok (.aload_n 0, 1) := by decide +kernel
theorem dX8_of_1 : decode cX8_of 1 = .ok (.getfield 7, 3) := by decide +kernel
theorem dX8_of_4 : decode cX8_of 4 = .ok (.bipush 11, 2) := by decide +kernel
theorem dX8_of_6 : decode cX8_of 6 = .ok (.bipush 7, 2) := by decide +kernel
theorem dX8_of_8 : decode cX8_of 8 = .ok (.iload_n 1, 1) := by decide +kernel
theorem dX8_of_9 : decode cX8_of 9 = .ok (.imul, 1) := by decide +kernel
theorem dX8_of_10 : decode cX8_of 10 = .ok (.iadd, 1) := by decide +kernel
theorem dX8_of_11 : decode cX8_of 11 = .ok (.iload_n 2, 1) := by decide +kernel
theorem dX8_of_12 : decode cX8_of 12 = .ok (.iadd, 1) := by decide +kernel
theorem dX8_of_13 : decode cX8_of 13 = .ok (.iaload, 1) := by decide +kernel
theorem dX8_of_14 : decode cX8_of 14 = .ok (.ireturn, 1) := by decide +kernel
set_option maxRecDepth 20000 in
theorem ggX8_hour_X8_in : GoodIn wsX8_hour wsX8_in := goodIn_r _ [8] (by decide +kernel) (by decide +kernel)
set_option maxRecDepth 20000 in
theorem gX8_hour_X8_in : GoodIn wsX8_hour (va_wsS RX8 36 yX8_in wsX8_in) := goodIn_app (goodIn_of _ (by decide +kernel)) ggX8_hour_X8_in
set_option maxRecDepth 20000 in
theorem ggX8_hour_X8_of : GoodIn wsX8_hour wsX8_of := goodIn_r _ [12, 1, 13, 14, 15, 16, 17, 18, 19, 20, 21, 22, 23, 24, 25, 26] (by decide +kernel) (by decide +kernel)
set_option maxRecDepth 20000 in
theorem gX8_hour_X8_of : GoodIn wsX8_hour (wsV RX8 121 RX8 yX8_of wsX8_of) := goodIn_app (goodIn_of _ (by decide +kernel)) ggX8_hour_X8_of
theorem dX8_hour_0 : decode cX8_hour 0 = .ok (.iload_n 1, 1) := by decide +kernel
theorem dX8_hour_1 : decode cX8_hour 1 = .ok (.i2l, 1) := by decide +kernel
theorem dX8_hour_2 : decode cX8_hour 2 = .ok (.lconst 0, 1) := by decide +kernel
theorem dX8_hour_3 : decode cX8_hour 3 = .ok (.aload_n 0, 1) := by decide +kernel
theorem dX8_hour_4 : decode cX8_hour 4 = .ok (.getfield 7, 3) := by decide +kernel
theorem dX8_hour_7 : decode cX8_hour 7 = .ok (.bipush 9, 2) := by decide +kernel
theorem dX8_hour_9 : decode cX8_hour 9 = .ok (.iaload, 1) := by decide +kernel
theorem dX8_hour_10 : decode cX8_hour 10 = .ok (.i2l, 1) := by decide +kernel
theorem dX8_hour_11 : decode cX8_hour 11 = .ok (.lconst 1, 1) := by decide +kernel
theorem dX8_hour_12 : decode cX8_hour 12 = .ok (.lsub, 1) := by decide +kernel
theorem dX8_hour_13 : decode cX8_hour 13 = .ok (.invokestatic 36, 3) := by decide +kernel
theorem dX8_hour_16 : decode cX8_hour 16 = .ok (.ifCond .ne 5, 3) := by decide +kernel
theorem dX8_hour_19 : decode cX8_hour 19 = .ok (.iconst (-1), 1) := by decide +kernel
theorem dX8_hour_20 : decode cX8_hour 20 = .ok (.ireturn, 1) := by decide +kernel
theorem dX8_hour_21 : decode cX8_hour 21 = .ok (.iload_n 2, 1) := by decide +kernel
theorem dX8_hour_22 : decode cX8_hour 22 = .ok (.i2l, 1) := by decide +kernel
theorem dX8_hour_23 : decode cX8_hour 23 = .ok (.lconst 0, 1) := by decide +kernel
theorem dX8_hour_24 : decode cX8_hour 24 = .ok (.ldc2_w 119, 3) := by decide +kernel
theorem dX8_hour_27 : decode cX8_hour 27 = .ok (.invokestatic 36, 3) := by decide +kernel
theorem dX8_hour_30 : decode cX8_hour 30 = .ok (.ifCond .ne 6, 3) := by decide +kernel
theorem dX8_hour_33 : decode cX8_hour 33 = .ok (.bipush (-2), 2) := by decide +kernel
theorem dX8_hour_35 : decode cX8_hour 35 = .ok (.ireturn, 1) := by decide +kernel
theorem dX8_hour_36 : decode cX8_hour 36 = .ok (.aload_n 0, 1) := by decide +kernel
theorem dX8_hour_37 : decode cX8_hour 37 = .ok (.iload_n 1, 1) := by decide +kernel
theorem dX8_hour_38 : decode cX8_hour 38 = .ok (.iload_n 2, 1) := by decide +kernel
theorem dX8_hour_39 : decode cX8_hour 39 = .ok (.invokevirtual 121, 3) := by decide +kernel
theorem dX8_hour_42 : decode cX8_hour 42 = .ok (.iload_n 2, 1) := by decide +kernel
theorem dX8_hour_43 : decode cX8_hour 43 = .ok (.ifCond .ne 8, 3) := by decide +kernel
theorem dX8_hour_46 : decode cX8_hour 46 = .ok (.bipush 100, 2) := by decide +kernel
theorem dX8_hour_48 : decode cX8_hour 48 = .ok (.goto 24, 3) := by decide +kernel
theorem dX8_hour_51 : decode cX8_hour 51 = .ok (.iload_n 2, 1) := by decide +kernel
theorem dX8_hour_52 : decode cX8_hour 52 = .ok (.iconst 3, 1) := by decide +kernel
theorem dX8_hour_53 : decode cX8_hour 53 = .ok (.if_icmp .ne 8, 3) := by decide +kernel
theorem dX8_hour_56 : decode cX8_hour 56 = .ok (.ldc 124, 2) := by decide +kernel
theorem dX8_hour_58 : decode cX8_hour 58 = .ok (.goto 14, 3) := by decide +kernel
theorem dX8_hour_61 : decode cX8_hour 61 = .ok (.iload_n 2, 1) := by decide +kernel
theorem dX8_hour_62 : decode cX8_hour 62 = .ok (.iconst 4, 1) := by decide +kernel
theorem dX8_hour_63 : decode cX8_hour 63 = .ok (.if_icmp .ne 8, 3) := by decide +kernel
theorem dX8_hour_66 : decode cX8_hour 66 = .ok (.ldc 98, 2) := by decide +kernel
theorem dX8_hour_68 : decode cX8_hour 68 = .ok (.goto 4, 3) := by decide +kernel
theorem dX8_hour_71 : decode cX8_hour 71 = .ok (.iconst 0, 1) := by decide +kernel
theorem dX8_hour_72 : decode cX8_hour 72 = .ok (.iadd, 1) := by decide +kernel
theorem dX8_hour_73 : decode cX8_hour 73 = .ok (.ireturn, 1) := by decide +kernel
theorem dX8_count_0 : decode cX8_count 0 = .ok (.iload_n 1, 1) := by decide +kernel
theorem dX8_count_1 : decode cX8_count 1 = .ok (.tableswitch 152 0 12 #[67, 74, 84, 96, 104, 112, 120, 128, 128, 128, 128, 142, 147], 67) := by decide +kernel
theorem dX8_count_68 : decode cX8_count 68 = .ok (.aload_n 0, 1) := by decide +kernel
theorem dX8_count_69 : decode cX8_count 69 = .ok (.getfield 7, 3) := by decide +kernel
theorem dX8_count_72 : decode cX8_count 72 = .ok (.iconst 4, 1) := by decide +kernel
theorem dX8_count_73 : decode cX8_count 73 = .ok (.iaload, 1) := by decide +kernel
theorem dX8_count_74 : decode cX8_count 74 = .ok (.ireturn, 1) := by decide +kernel
theorem dX8_count_75 : decode cX8_count 75 = .ok (.aload_n 0, 1) := by decide +kernel
theorem dX8_count_76 : decode cX8_count 76 = .ok (.getfield 7, 3) := by decide +kernel
theorem dX8_count_79 : decode cX8_count 79 = .ok (.iconst 5, 1) := by decide +kernel
theorem dX8_count_80 : decode cX8_count 80 = .ok (.iaload, 1) := by decide +kernel
theorem dX8_count_81 : decode cX8_count 81 = .ok (.ldc 98, 2) := by decide +kernel
theorem dX8_count_83 : decode cX8_count 83 = .ok (.iadd, 1) := by decide +kernel
theorem dX8_count_84 : decode cX8_count 84 = .ok (.ireturn, 1) := by decide +kernel
theorem dX8_count_85 : decode cX8_count 85 = .ok (.aload_n 0, 1) := by decide +kernel
theorem dX8_count_86 : decode cX8_count 86 = .ok (.getfield 7, 3) := by decide +kernel
theorem dX8_count_89 : decode cX8_count 89 = .ok (.bipush 6, 2) := by decide +kernel
theorem dX8_count_91 : decode cX8_count 91 = .ok (.iaload, 1) := by decide +kernel
theorem dX8_count_92 : decode cX8_count 92 = .ok (.sipush 1000, 3) := by decide +kernel
theorem dX8_count_95 : decode cX8_count 95 = .ok (.iadd, 1) := by decide +kernel
theorem dX8_count_96 : decode cX8_count 96 = .ok (.ireturn, 1) := by decide +kernel
theorem dX8_count_97 : decode cX8_count 97 = .ok (.aload_n 0, 1) := by decide +kernel
theorem dX8_count_98 : decode cX8_count 98 = .ok (.getfield 7, 3) := by decide +kernel
theorem dX8_count_101 : decode cX8_count 101 = .ok (.bipush 7, 2) := by decide +kernel
theorem dX8_count_103 : decode cX8_count 103 = .ok (.iaload, 1) := by decide +kernel
theorem dX8_count_104 : decode cX8_count 104 = .ok (.ireturn, 1) := by decide +kernel
theorem dX8_count_105 : decode cX8_count 105 = .ok (.aload_n 0, 1) := by decide +kernel
theorem dX8_count_106 : decode cX8_count 106 = .ok (.getfield 7, 3) := by decide +kernel
theorem dX8_count_109 : decode cX8_count 109 = .ok (.bipush 8, 2) := by decide +kernel
theorem dX8_count_111 : decode cX8_count 111 = .ok (.iaload, 1) := by decide +kernel
theorem dX8_count_112 : decode cX8_count 112 = .ok (.ireturn, 1) := by decide +kernel
theorem dX8_count_113 : decode cX8_count 113 = .ok (.aload_n 0, 1) := by decide +kernel
theorem dX8_count_114 : decode cX8_count 114 = .ok (.getfield 7, 3) := by decide +kernel
theorem dX8_count_117 : decode cX8_count 117 = .ok (.bipush 9, 2) := by decide +kernel
theorem dX8_count_119 : decode cX8_count 119 = .ok (.iaload, 1) := by decide +kernel
theorem dX8_count_120 : decode cX8_count 120 = .ok (.ireturn, 1) := by decide +kernel
theorem dX8_count_121 : decode cX8_count 121 = .ok (.aload_n 0, 1) := by decide +kernel
end
section
theorem dX8_count_122 : decode cX8_count 122 = .ok (.getfield 7, 3) := by decide +kernel
theorem dX8_count_125 : decode cX8_count 125 = .ok (.bipush 10, 2) := by decide +kernel
theorem dX8_count_127 : decode cX8_count 127 = .ok (.iaload, 1) := by decide +kernel
theorem dX8_count_128 : decode cX8_count 128 = .ok (.ireturn, 1) := by decide +kernel
theorem dX8_count_129 : decode cX8_count 129 = .ok (.aload_n 0, 1) := by decide +kernel
theorem dX8_count_130 : decode cX8_count 130 = .ok (.getfield 7, 3) := by decide +kernel
theorem dX8_count_133 : decode cX8_count 133 = .ok (.iload_n 1, 1) := by decide +kernel
theorem dX8_count_134 : decode cX8_count 134 = .ok (.bipush 7, 2) := by decide +kernel
theorem dX8_count_136 : decode cX8_count 136 = .ok (.isub, 1) := by decide +kernel
theorem dX8_count_137 : decode cX8_count 137 = .ok (.iaload, 1) := by decide +kernel
theorem dX8_count_138 : decode cX8_count 138 = .ok (.sipush 1000, 3) := by decide +kernel
theorem dX8_count_141 : decode cX8_count 141 = .ok (.iadd, 1) := by decide +kernel
theorem dX8_count_142 : decode cX8_count 142 = .ok (.ireturn, 1) := by decide +kernel
theorem dX8_count_143 : decode cX8_count 143 = .ok (.aload_n 0, 1) := by decide +kernel
theorem dX8_count_144 : decode cX8_count 144 = .ok (.getfield 125, 3) := by decide +kernel
theorem dX8_count_147 : decode cX8_count 147 = .ok (.ireturn, 1) := by decide +kernel
theorem dX8_count_148 : decode cX8_count 148 = .ok (.aload_n 0, 1) := by decide +kernel
theorem dX8_count_149 : decode cX8_count 149 = .ok (.getfield 28, 3) := by decide +kernel
theorem dX8_count_152 : decode cX8_count 152 = .ok (.ireturn, 1) := by decide +kernel
theorem dX8_count_153 : decode cX8_count 153 = .ok (.bipush (-2), 2) := by decide +kernel
theorem dX8_count_155 : decode cX8_count 155 = .ok (.ireturn, 1) := by decide +kernel
set_option maxRecDepth 20000 in
theorem ggX8_meanRate_X8_of : GoodIn wsX8_meanRate wsX8_of := goodIn_r _ [6, 1, 19, 20, 21, 22, 23, 24, 25, 26, 27, 28, 29, 30, 31, 32] (by decide +kernel) (by decide +kernel)
set_option maxRecDepth 20000 in
theorem gX8_meanRate_X8_of : GoodIn wsX8_meanRate (wsV RX8 121 RX8 yX8_of wsX8_of) := goodIn_app (goodIn_of _ (by decide +kernel)) ggX8_meanRate_X8_of
set_option maxRecDepth 20000 in
theorem ggX8_meanRate_Jxe99ae_doubleToLongBits_ccdee : GoodIn wsX8_meanRate wsJxe99ae_doubleToLongBits_ccdee := goodIn_r _ [10, 11, 12, 13, 14, 15, 16, 17, 9, 18] (by decide +kernel) (by decide +kernel)
set_option maxRecDepth 20000 in
theorem gX8_meanRate_Jxe99ae_doubleToLongBits_ccdee : GoodIn wsX8_meanRate (va_wsS RX8 128 yJxe99ae_doubleToLongBits_ccdee wsJxe99ae_doubleToLongBits_ccdee) := goodIn_app (goodIn_of _ (by decide +kernel)) ggX8_meanRate_Jxe99ae_doubleToLongBits_ccdee
theorem dX8_meanRate_0 : decode cX8_meanRate 0 = .ok (.aload_n 0, 1) := by decide +kernel
theorem dX8_meanRate_1 : decode cX8_meanRate 1 = .ok (.getfield 7, 3) := by decide +kernel
theorem dX8_meanRate_4 : decode cX8_meanRate 4 = .ok (.bipush 9, 2) := by decide +kernel
theorem dX8_meanRate_6 : decode cX8_meanRate 6 = .ok (.iaload, 1) := by decide +kernel
theorem dX8_meanRate_7 : decode cX8_meanRate 7 = .ok (.ifCond .ne 5, 3) := by decide +kernel
theorem dX8_meanRate_10 : decode cX8_meanRate 10 = .ok (.lconst 0, 1) := by decide +kernel
theorem dX8_meanRate_11 : decode cX8_meanRate 11 = .ok (.lreturn, 1) := by decide +kernel
theorem dX8_meanRate_12 : decode cX8_meanRate 12 = .ok (.iconst 0, 1) := by decide +kernel
theorem dX8_meanRate_13 : decode cX8_meanRate 13 = .ok (.istore_n 1, 1) := by decide +kernel
theorem dX8_meanRate_14 : decode cX8_meanRate 14 = .ok (.iconst 0, 1) := by decide +kernel
theorem dX8_meanRate_15 : decode cX8_meanRate 15 = .ok (.istore_n 2, 1) := by decide +kernel
theorem dX8_meanRate_16 : decode cX8_meanRate 16 = .ok (.iload_n 2, 1) := by decide +kernel
theorem dX8_meanRate_17 : decode cX8_meanRate 17 = .ok (.aload_n 0, 1) := by decide +kernel
theorem dX8_meanRate_18 : decode cX8_meanRate 18 = .ok (.getfield 7, 3) := by decide +kernel
theorem dX8_meanRate_21 : decode cX8_meanRate 21 = .ok (.bipush 9, 2) := by decide +kernel
theorem dX8_meanRate_23 : decode cX8_meanRate 23 = .ok (.iaload, 1) := by decide +kernel
theorem dX8_meanRate_24 : decode cX8_meanRate 24 = .ok (.if_icmp .ge 18, 3) := by decide +kernel
theorem dX8_meanRate_27 : decode cX8_meanRate 27 = .ok (.iload_n 1, 1) := by decide +kernel
theorem dX8_meanRate_28 : decode cX8_meanRate 28 = .ok (.aload_n 0, 1) := by decide +kernel
theorem dX8_meanRate_29 : decode cX8_meanRate 29 = .ok (.iload_n 2, 1) := by decide +kernel
theorem dX8_meanRate_30 : decode cX8_meanRate 30 = .ok (.iconst 3, 1) := by decide +kernel
theorem dX8_meanRate_31 : decode cX8_meanRate 31 = .ok (.invokevirtual 121, 3) := by decide +kernel
theorem dX8_meanRate_34 : decode cX8_meanRate 34 = .ok (.iadd, 1) := by decide +kernel
theorem dX8_meanRate_35 : decode cX8_meanRate 35 = .ok (.istore_n 1, 1) := by decide +kernel
theorem dX8_meanRate_36 : decode cX8_meanRate 36 = .ok (.iinc 2 1, 3) := by decide +kernel
theorem dX8_meanRate_39 : decode cX8_meanRate 39 = .ok (.goto (-23), 3) := by decide +kernel
theorem dX8_meanRate_42 : decode cX8_meanRate 42 = .ok (.iload_n 1, 1) := by decide +kernel
theorem dX8_meanRate_43 : decode cX8_meanRate 43 = .ok (.i2d, 1) := by decide +kernel
theorem dX8_meanRate_44 : decode cX8_meanRate 44 = .ok (.aload_n 0, 1) := by decide +kernel
theorem dX8_meanRate_45 : decode cX8_meanRate 45 = .ok (.getfield 7, 3) := by decide +kernel
theorem dX8_meanRate_48 : decode cX8_meanRate 48 = .ok (.bipush 9, 2) := by decide +kernel
theorem dX8_meanRate_50 : decode cX8_meanRate 50 = .ok (.iaload, 1) := by decide +kernel
theorem dX8_meanRate_51 : decode cX8_meanRate 51 = .ok (.i2d, 1) := by decide +kernel
theorem dX8_meanRate_52 : decode cX8_meanRate 52 = .ok (.ddiv, 1) := by decide +kernel
theorem dX8_meanRate_53 : decode cX8_meanRate 53 = .ok (.invokestatic 128, 3) := by decide +kernel
theorem dX8_meanRate_56 : decode cX8_meanRate 56 = .ok (.lreturn, 1) := by decide +kernel
set_option maxRecDepth 20000 in
theorem ggX8_greatest_X8_of : GoodIn wsX8_greatest wsX8_of := goodIn_r _ [6, 1, 7, 8, 9, 10, 11, 12, 13, 14, 15, 16, 17, 18, 19, 20] (by decide +kernel) (by decide +kernel)
set_option maxRecDepth 20000 in
theorem gX8_greatest_X8_of : GoodIn wsX8_greatest (wsV RX8 121 RX8 yX8_of wsX8_of) := goodIn_app (goodIn_of _ (by decide +kernel)) ggX8_greatest_X8_of
theorem dX8_greatest_0 : decode cX8_greatest 0 = .ok (.aload_n 0, 1) := by decide +kernel
theorem dX8_greatest_1 : decode cX8_greatest 1 = .ok (.iconst 0, 1) := by decide +kernel
theorem dX8_greatest_2 : decode cX8_greatest 2 = .ok (.iconst 3, 1) := by decide +kernel
theorem dX8_greatest_3 : decode cX8_greatest 3 = .ok (.invokevirtual 121, 3) := by decide +kernel
theorem dX8_greatest_6 : decode cX8_greatest 6 = .ok (.istore_n 1, 1) := by decide +kernel
theorem dX8_greatest_7 : decode cX8_greatest 7 = .ok (.iconst 1, 1) := by decide +kernel
theorem dX8_greatest_8 : decode cX8_greatest 8 = .ok (.istore_n 2, 1) := by decide +kernel
theorem dX8_greatest_9 : decode cX8_greatest 9 = .ok (.iload_n 2, 1) := by decide +kernel
theorem dX8_greatest_10 : decode cX8_greatest 10 = .ok (.aload_n 0, 1) := by decide +kernel
theorem dX8_greatest_11 : decode cX8_greatest 11 = .ok (.getfield 7, 3) := by decide +kernel
theorem dX8_greatest_14 : decode cX8_greatest 14 = .ok (.bipush 9, 2) := by decide +kernel
theorem dX8_greatest_16 : decode cX8_greatest 16 = .ok (.iaload, 1) := by decide +kernel
theorem dX8_greatest_17 : decode cX8_greatest 17 = .ok (.if_icmp .ge 30, 3) := by decide +kernel
theorem dX8_greatest_20 : decode cX8_greatest 20 = .ok (.aload_n 0, 1) := by decide +kernel
theorem dX8_greatest_21 : decode cX8_greatest 21 = .ok (.iload_n 2, 1) := by decide +kernel
theorem dX8_greatest_22 : decode cX8_greatest 22 = .ok (.iconst 3, 1) := by decide +kernel
theorem dX8_greatest_23 : decode cX8_greatest 23 = .ok (.invokevirtual 121, 3) := by decide +kernel
theorem dX8_greatest_26 : decode cX8_greatest 26 = .ok (.iload_n 1, 1) := by decide +kernel
theorem dX8_greatest_27 : decode cX8_greatest 27 = .ok (.if_icmp .le 12, 3) := by decide +kernel
theorem dX8_greatest_30 : decode cX8_greatest 30 = .ok (.aload_n 0, 1) := by decide +kernel
theorem dX8_greatest_31 : decode cX8_greatest 31 = .ok (.iload_n 2, 1) := by decide +kernel
theorem dX8_greatest_32 : decode cX8_greatest 32 = .ok (.iconst 3, 1) := by decide +kernel
theorem dX8_greatest_33 : decode cX8_greatest 33 = .ok (.invokevirtual 121, 3) := by decide +kernel
theorem dX8_greatest_36 : decode cX8_greatest 36 = .ok (.goto 4, 3) := by decide +kernel
theorem dX8_greatest_39 : decode cX8_greatest 39 = .ok (.iload_n 1, 1) := by decide +kernel
theorem dX8_greatest_40 : decode cX8_greatest 40 = .ok (.istore_n 1, 1) := by decide +kernel
theorem dX8_greatest_41 : decode cX8_greatest 41 = .ok (.iinc 2 1, 3) := by decide +kernel
theorem dX8_greatest_44 : decode cX8_greatest 44 = .ok (.goto (-35), 3) := by decide +kernel
theorem dX8_greatest_47 : decode cX8_greatest 47 = .ok (.iload_n 1, 1) := by decide +kernel
theorem dX8_greatest_48 : decode cX8_greatest 48 = .ok (.ireturn, 1) := by decide +kernel
set_option maxRecDepth 20000 in
theorem ggX8_least_X8_of : GoodIn wsX8_least wsX8_of := goodIn_r _ [6, 1, 7, 8, 9, 10, 11, 12, 13, 14, 15, 16, 17, 18, 19, 20] (by decide +kernel) (by decide +kernel)
set_option maxRecDepth 20000 in
theorem gX8_least_X8_of : GoodIn wsX8_least (wsV RX8 121 RX8 yX8_of wsX8_of) := goodIn_app (goodIn_of _ (by decide +kernel)) ggX8_least_X8_of
theorem dX8_least_0 : decode cX8_least 0 = .ok (.aload_n 0, 1) := by decide +kernel
theorem dX8_least_1 : decode cX8_least 1 = .ok (.iconst 0, 1) := by decide +kernel
theorem dX8_least_2 : decode cX8_least 2 = .ok (.iconst 3, 1) := by decide +kernel
theorem dX8_least_3 : decode cX8_least 3 = .ok (.invokevirtual 121, 3) := by decide +kernel
theorem dX8_least_6 : decode cX8_least 6 = .ok (.istore_n 1, 1) := by decide +kernel
theorem dX8_least_7 : decode cX8_least 7 = .ok (.iconst 1, 1) := by decide +kernel
theorem dX8_least_8 : decode cX8_least 8 = .ok (.istore_n 2, 1) := by decide +kernel
theorem dX8_least_9 : decode cX8_least 9 = .ok (.iload_n 2, 1) := by decide +kernel
theorem dX8_least_10 : decode cX8_least 10 = .ok (.aload_n 0, 1) := by decide +kernel
theorem dX8_least_11 : decode cX8_least 11 = .ok (.getfield 7, 3) := by decide +kernel
theorem dX8_least_14 : decode cX8_least 14 = .ok (.bipush 9, 2) := by decide +kernel
theorem dX8_least_16 : decode cX8_least 16 = .ok (.iaload, 1) := by decide +kernel
theorem dX8_least_17 : decode cX8_least 17 = .ok (.if_icmp .ge 30, 3) := by decide +kernel
theorem dX8_least_20 : decode cX8_least 20 = .ok (.aload_n 0, 1) := by decide +kernel
theorem dX8_least_21 : decode cX8_least 21 = .ok (.iload_n 2, 1) := by decide +kernel
theorem dX8_least_22 : decode cX8_least 22 = .ok (.iconst 3, 1) := by decide +kernel
theorem dX8_least_23 : decode cX8_least 23 = .ok (.invokevirtual 121, 3) := by decide +kernel
theorem dX8_least_26 : decode cX8_least 26 = .ok (.iload_n 1, 1) := by decide +kernel
theorem dX8_least_27 : decode cX8_least 27 = .ok (.if_icmp .ge 12, 3) := by decide +kernel
theorem dX8_least_30 : decode cX8_least 30 = .ok (.aload_n 0, 1) := by decide +kernel
theorem dX8_least_31 : decode cX8_least 31 = .ok (.iload_n 2, 1) := by decide +kernel
theorem dX8_least_32 : decode cX8_least 32 = .ok (.iconst 3, 1) := by decide +kernel
theorem dX8_least_33 : decode cX8_least 33 = .ok (.invokevirtual 121, 3) := by decide +kernel
theorem dX8_least_36 : decode cX8_least 36 = .ok (.goto 4, 3) := by decide +kernel
theorem dX8_least_39 : decode cX8_least 39 = .ok (.iload_n 1, 1) := by decide +kernel
theorem dX8_least_40 : decode cX8_least 40 = .ok (.istore_n 1, 1) := by decide +kernel
theorem dX8_least_41 : decode cX8_least 41 = .ok (.iinc 2 1, 3) := by decide +kernel
theorem dX8_least_44 : decode cX8_least 44 = .ok (.goto (-35), 3) := by decide +kernel
theorem dX8_least_47 : decode cX8_least 47 = .ok (.iload_n 1, 1) := by decide +kernel
theorem dX8_least_48 : decode cX8_least 48 = .ok (.ireturn, 1) := by decide +kernel
set_option maxRecDepth 20000 in
theorem ggX8_fastHours_X8_of : GoodIn wsX8_fastHours wsX8_of := goodIn_r _ [6, 1, 7, 8, 9, 10, 11, 12, 13, 14, 15, 16, 17, 18, 19, 20] (by decide +kernel) (by decide +kernel)
set_option maxRecDepth 20000 in
theorem gX8_fastHours_X8_of : GoodIn wsX8_fastHours (wsV RX8 121 RX8 yX8_of wsX8_of) := goodIn_app (goodIn_of _ (by decide +kernel)) ggX8_fastHours_X8_of
theorem dX8_fastHours_0 : decode cX8_fastHours 0 = .ok (.iconst 0, 1) := by decide +kernel
theorem dX8_fastHours_1 : decode cX8_fastHours 1 = .ok (.istore_n 1, 1) := by decide +kernel
theorem dX8_fastHours_2 : decode cX8_fastHours 2 = .ok (.iconst 0, 1) := by decide +kernel
theorem dX8_fastHours_3 : decode cX8_fastHours 3 = .ok (.istore_n 2, 1) := by decide +kernel
theorem dX8_fastHours_4 : decode cX8_fastHours 4 = .ok (.iload_n 2, 1) := by decide +kernel
theorem dX8_fastHours_5 : decode cX8_fastHours 5 = .ok (.aload_n 0, 1) := by decide +kernel
theorem dX8_fastHours_6 : decode cX8_fastHours 6 = .ok (.getfield 7, 3) := by decide +kernel
theorem dX8_fastHours_9 : decode cX8_fastHours 9 = .ok (.bipush 9, 2) := by decide +kernel
theorem dX8_fastHours_11 : decode cX8_fastHours 11 = .ok (.iaload, 1) := by decide +kernel
theorem dX8_fastHours_12 : decode cX8_fastHours 12 = .ok (.if_icmp .ge 26, 3) := by decide +kernel
theorem dX8_fastHours_15 : decode cX8_fastHours 15 = .ok (.iload_n 1, 1) := by decide +kernel
theorem dX8_fastHours_16 : decode cX8_fastHours 16 = .ok (.aload_n 0, 1) := by decide +kernel
theorem dX8_fastHours_17 : decode cX8_fastHours 17 = .ok (.iload_n 2, 1) := by decide +kernel
theorem dX8_fastHours_18 : decode cX8_fastHours 18 = .ok (.iconst 3, 1) := by decide +kernel
theorem dX8_fastHours_19 : decode cX8_fastHours 19 = .ok (.invokevirtual 121, 3) := by decide +kernel
theorem dX8_fastHours_22 : decode cX8_fastHours 22 = .ok (.ifCond .le 7, 3) := by decide +kernel
theorem dX8_fastHours_25 : decode cX8_fastHours 25 = .ok (.iconst 1, 1) := by decide +kernel
theorem dX8_fastHours_26 : decode cX8_fastHours 26 = .ok (.goto 4, 3) := by decide +kernel
theorem dX8_fastHours_29 : decode cX8_fastHours 29 = .ok (.iconst 0, 1) := by decide +kernel
theorem dX8_fastHours_30 : decode cX8_fastHours 30 = .ok (.iadd, 1) := by decide +kernel
theorem dX8_fastHours_31 : decode cX8_fastHours 31 = .ok (.istore_n 1, 1) := by decide +kernel
theorem dX8_fastHours_32 : decode cX8_fastHours 32 = .ok (.iinc 2 1, 3) := by decide +kernel
theorem dX8_fastHours_35 : decode cX8_fastHours 35 = .ok (.goto (-31), 3) := by decide +kernel
theorem dX8_fastHours_38 : decode cX8_fastHours 38 = .ok (.iload_n 1, 1) := by decide +kernel
theorem dX8_fastHours_39 : decode cX8_fastHours 39 = .ok (.ireturn, 1) := by decide +kernel
set_option maxRecDepth 20000 in
theorem ggX8_setHours_X8_of : GoodIn wsX8_setHours wsX8_of := goodIn_r _ [6, 1, 7, 8, 9, 10, 11, 12, 13, 14, 15, 16, 17, 18, 19, 20] (by decide +kernel) (by decide +kernel)
set_option maxRecDepth 20000 in
theorem gX8_setHours_X8_of : GoodIn wsX8_setHours (wsV RX8 121 RX8 yX8_of wsX8_of) := goodIn_app (goodIn_of _ (by decide +kernel)) ggX8_setHours_X8_of
theorem dX8_setHours_0 : decode cX8_setHours 0 = .ok (.iconst 0, 1) := by decide +kernel
theorem dX8_setHours_1 : decode cX8_setHours 1 = .ok (.istore_n 1, 1) := by decide +kernel
theorem dX8_setHours_2 : decode cX8_setHours 2 = .ok (.iconst 0, 1) := by decide +kernel
theorem dX8_setHours_3 : decode cX8_setHours 3 = .ok (.istore_n 2, 1) := by decide +kernel
theorem dX8_setHours_4 : decode cX8_setHours 4 = .ok (.iload_n 2, 1) := by decide +kernel
theorem dX8_setHours_5 : decode cX8_setHours 5 = .ok (.aload_n 0, 1) := by decide +kernel
theorem dX8_setHours_6 : decode cX8_setHours 6 = .ok (.getfield 7, 3) := by decide +kernel
theorem dX8_setHours_9 : decode cX8_setHours 9 = .ok (.bipush 9, 2) := by decide +kernel
theorem dX8_setHours_11 : decode cX8_setHours 11 = .ok (.iaload, 1) := by decide +kernel
theorem dX8_setHours_12 : decode cX8_setHours 12 = .ok (.if_icmp .ge 18, 3) := by decide +kernel
theorem dX8_setHours_15 : decode cX8_setHours 15 = .ok (.iload_n 1, 1) := by decide +kernel
theorem dX8_setHours_16 : decode cX8_setHours 16 = .ok (.aload_n 0, 1) := by decide +kernel
theorem dX8_setHours_17 : decode cX8_setHours 17 = .ok (.iload_n 2, 1) := by decide +kernel
theorem dX8_setHours_18 : decode cX8_setHours 18 = .ok (.iconst 5, 1) := by decide +kernel
theorem dX8_setHours_19 : decode cX8_setHours 19 = .ok (.invokevirtual 121, 3) := by decide +kernel
theorem dX8_setHours_22 : decode cX8_setHours 22 = .ok (.iadd, 1) := by decide +kernel
theorem dX8_setHours_23 : decode cX8_setHours 23 = .ok (.istore_n 1, 1) := by decide +kernel
theorem dX8_setHours_24 : decode cX8_setHours 24 = .ok (.iinc 2 1, 3) := by decide +kernel
theorem dX8_setHours_27 : decode cX8_setHours 27 = .ok (.goto (-23), 3) := by decide +kernel
theorem dX8_setHours_30 : decode cX8_setHours 30 = .ok (.iload_n 1, 1) := by decide +kernel
theorem dX8_setHours_31 : decode cX8_setHours 31 = .ok (.ireturn, 1) := by decide +kernel
set_option maxRecDepth 20000 in
theorem ggX8_changes_X8_of : GoodIn wsX8_changes wsX8_of := goodIn_r _ [6, 1, 7, 8, 9, 10, 11, 12, 13, 14, 15, 16, 17, 18, 19, 20] (by decide +kernel) (by decide +kernel)
set_option maxRecDepth 20000 in
theorem gX8_changes_X8_of : GoodIn wsX8_changes (wsV RX8 121 RX8 yX8_of wsX8_of) := goodIn_app (goodIn_of _ (by decide +kernel)) ggX8_changes_X8_of
theorem dX8_changes_0 : decode cX8_changes 0 = .ok (.iconst 0, 1) := by decide +kernel
theorem dX8_changes_1 : decode cX8_changes 1 = .ok (.istore_n 1, 1) := by decide +kernel
theorem dX8_changes_2 : decode cX8_changes 2 = .ok (.iconst 1, 1) := by decide +kernel
theorem dX8_changes_3 : decode cX8_changes 3 = .ok (.istore_n 2, 1) := by decide +kernel
theorem dX8_changes_4 : decode cX8_changes 4 = .ok (.iload_n 2, 1) := by decide +kernel
theorem dX8_changes_5 : decode cX8_changes 5 = .ok (.aload_n 0, 1) := by decide +kernel
theorem dX8_changes_6 : decode cX8_changes 6 = .ok (.getfield 7, 3) := by decide +kernel
theorem dX8_changes_9 : decode cX8_changes 9 = .ok (.bipush 9, 2) := by decide +kernel
theorem dX8_changes_11 : decode cX8_changes 11 = .ok (.iaload, 1) := by decide +kernel
theorem dX8_changes_12 : decode cX8_changes 12 = .ok (.if_icmp .ge 36, 3) := by decide +kernel
theorem dX8_changes_15 : decode cX8_changes 15 = .ok (.iload_n 1, 1) := by decide +kernel
theorem dX8_changes_16 : decode cX8_changes 16 = .ok (.aload_n 0, 1) := by decide +kernel
theorem dX8_changes_17 : decode cX8_changes 17 = .ok (.iload_n 2, 1) := by decide +kernel
theorem dX8_changes_18 : decode cX8_changes 18 = .ok (.bipush 6, 2) := by decide +kernel
theorem dX8_changes_20 : decode cX8_changes 20 = .ok (.invokevirtual 121, 3) := by decide +kernel
theorem dX8_changes_23 : decode cX8_changes 23 = .ok (.aload_n 0, 1) := by decide +kernel
theorem dX8_changes_24 : decode cX8_changes 24 = .ok (.iload_n 2, 1) := by decide +kernel
theorem dX8_changes_25 : decode cX8_changes 25 = .ok (.iconst 1, 1) := by decide +kernel
theorem dX8_changes_26 : decode cX8_changes 26 = .ok (.isub, 1) := by decide +kernel
theorem dX8_changes_27 : decode cX8_changes 27 = .ok (.bipush 6, 2) := by decide +kernel
theorem dX8_changes_29 : decode cX8_changes 29 = .ok (.invokevirtual 121, 3) := by decide +kernel
theorem dX8_changes_32 : decode cX8_changes 32 = .ok (.if_icmp .eq 7, 3) := by decide +kernel
theorem dX8_changes_35 : decode cX8_changes 35 = .ok (.iconst 1, 1) := by decide +kernel
theorem dX8_changes_36 : decode cX8_changes 36 = .ok (.goto 4, 3) := by decide +kernel
theorem dX8_changes_39 : decode cX8_changes 39 = .ok (.iconst 0, 1) := by decide +kernel
theorem dX8_changes_40 : decode cX8_changes 40 = .ok (.iadd, 1) := by decide +kernel
theorem dX8_changes_41 : decode cX8_changes 41 = .ok (.istore_n 1, 1) := by decide +kernel
theorem dX8_changes_42 : decode cX8_changes 42 = .ok (.iinc 2 1, 3) := by decide +kernel
theorem dX8_changes_45 : decode cX8_changes 45 = .ok (.goto (-41), 3) := by decide +kernel
theorem dX8_changes_48 : decode cX8_changes 48 = .ok (.iload_n 1, 1) := by decide +kernel
theorem dX8_changes_49 : decode cX8_changes 49 = .ok (.ireturn, 1) := by decide +kernel
set_option maxRecDepth 20000 in
theorem ggX8_ofLog_X8_in : GoodIn wsX8_ofLog wsX8_in := goodIn_r _ [7] (by decide +kernel) (by decide +kernel)
set_option maxRecDepth 20000 in
theorem gX8_ofLog_X8_in : GoodIn wsX8_ofLog (va_wsS RX8 36 yX8_in wsX8_in) := goodIn_app (goodIn_of _ (by decide +kernel)) ggX8_ofLog_X8_in
set_option maxRecDepth 20000 in
theorem ggX8_ofLog_X8_greatest : GoodIn wsX8_ofLog wsX8_greatest := goodIn_r _ [11, 2, 12, 13, 14, 6, 15, 32, 33, 34, 35, 36, 37, 38, 39, 40, 41, 42, 43, 44, 45] (by decide +kernel) (by decide +kernel)
set_option maxRecDepth 20000 in
theorem gX8_ofLog_X8_greatest : GoodIn wsX8_ofLog (wsV RX8 136 RX8 yX8_greatest wsX8_greatest) := goodIn_app (goodIn_of _ (by decide +kernel)) ggX8_ofLog_X8_greatest
set_option maxRecDepth 20000 in
theorem ggX8_ofLog_X8_least : GoodIn wsX8_ofLog wsX8_least := goodIn_r _ [19, 2, 12, 13, 14, 6, 15, 32, 33, 34, 35, 36, 37, 38, 39, 40, 41, 42, 43, 44, 45] (by decide +kernel) (by decide +kernel)
set_option maxRecDepth 20000 in
theorem gX8_ofLog_X8_least : GoodIn wsX8_ofLog (wsV RX8 139 RX8 yX8_least wsX8_least) := goodIn_app (goodIn_of _ (by decide +kernel)) ggX8_ofLog_X8_least
set_option maxRecDepth 20000 in
theorem ggX8_ofLog_X8_fastHours : GoodIn wsX8_ofLog wsX8_fastHours := goodIn_r _ [23, 2, 12, 13, 14, 6, 15, 32, 33, 34, 35, 36, 37, 38, 39, 40, 41, 42, 43, 44, 45] (by decide +kernel) (by decide +kernel)
set_option maxRecDepth 20000 in
theorem gX8_ofLog_X8_fastHours : GoodIn wsX8_ofLog (wsV RX8 142 RX8 yX8_fastHours wsX8_fastHours) := goodIn_app (goodIn_of _ (by decide +kernel)) ggX8_ofLog_X8_fastHours
set_option maxRecDepth 20000 in
theorem ggX8_ofLog_X8_setHours : GoodIn wsX8_ofLog wsX8_setHours := goodIn_r _ [27, 2, 12, 13, 14, 6, 15, 32, 33, 34, 35, 36, 37, 38, 39, 40, 41, 42, 43, 44, 45] (by decide +kernel) (by decide +kernel)
set_option maxRecDepth 20000 in
theorem gX8_ofLog_X8_setHours : GoodIn wsX8_ofLog (wsV RX8 145 RX8 yX8_setHours wsX8_setHours) := goodIn_app (goodIn_of _ (by decide +kernel)) ggX8_ofLog_X8_setHours
set_option maxRecDepth 20000 in
theorem ggX8_ofLog_X8_changes : GoodIn wsX8_ofLog wsX8_changes := goodIn_r _ [31, 2, 12, 13, 14, 6, 15, 32, 33, 34, 35, 36, 37, 38, 39, 40, 41, 42, 43, 44, 45] (by decide +kernel) (by decide +kernel)
set_option maxRecDepth 20000 in
theorem gX8_ofLog_X8_changes : GoodIn wsX8_ofLog (wsV RX8 148 RX8 yX8_changes wsX8_changes) := goodIn_app (goodIn_of _ (by decide +kernel)) ggX8_ofLog_X8_changes
theorem dX8_ofLog_0 : decode cX8_ofLog 0 = .ok (.iload_n 1, 1) := by decide +kernel
theorem dX8_ofLog_1 : decode cX8_ofLog 1 = .ok (.i2l, 1) := by decide +kernel
theorem dX8_ofLog_2 : decode cX8_ofLog 2 = .ok (.lconst 0, 1) := by decide +kernel
theorem dX8_ofLog_3 : decode cX8_ofLog 3 = .ok (.ldc2_w 134, 3) := by decide +kernel
theorem dX8_ofLog_6 : decode cX8_ofLog 6 = .ok (.invokestatic 36, 3) := by decide +kernel
theorem dX8_ofLog_9 : decode cX8_ofLog 9 = .ok (.ifCond .ne 6, 3) := by decide +kernel
theorem dX8_ofLog_12 : decode cX8_ofLog 12 = .ok (.bipush (-2), 2) := by decide +kernel
theorem dX8_ofLog_14 : decode cX8_ofLog 14 = .ok (.ireturn, 1) := by decide +kernel
theorem dX8_ofLog_15 : decode cX8_ofLog 15 = .ok (.aload_n 0, 1) := by decide +kernel
theorem dX8_ofLog_16 : decode cX8_ofLog 16 = .ok (.getfield 7, 3) := by decide +kernel
theorem dX8_ofLog_19 : decode cX8_ofLog 19 = .ok (.bipush 9, 2) := by decide +kernel
theorem dX8_ofLog_21 : decode cX8_ofLog 21 = .ok (.iaload, 1) := by decide +kernel
theorem dX8_ofLog_22 : decode cX8_ofLog 22 = .ok (.ifCond .ne 6, 3) := by decide +kernel
theorem dX8_ofLog_25 : decode cX8_ofLog 25 = .ok (.bipush (-6), 2) := by decide +kernel
theorem dX8_ofLog_27 : decode cX8_ofLog 27 = .ok (.ireturn, 1) := by decide +kernel
theorem dX8_ofLog_28 : decode cX8_ofLog 28 = .ok (.iload_n 1, 1) := by decide +kernel
theorem dX8_ofLog_29 : decode cX8_ofLog 29 = .ok (.ifCond .ne 13, 3) := by decide +kernel
theorem dX8_ofLog_32 : decode cX8_ofLog 32 = .ok (.aload_n 0, 1) := by decide +kernel
theorem dX8_ofLog_33 : decode cX8_ofLog 33 = .ok (.invokevirtual 136, 3) := by decide +kernel
theorem dX8_ofLog_36 : decode cX8_ofLog 36 = .ok (.ldc 124, 2) := by decide +kernel
theorem dX8_ofLog_38 : decode cX8_ofLog 38 = .ok (.iadd, 1) := by decide +kernel
theorem dX8_ofLog_39 : decode cX8_ofLog 39 = .ok (.goto 46, 3) := by decide +kernel
theorem dX8_ofLog_42 : decode cX8_ofLog 42 = .ok (.iload_n 1, 1) := by decide +kernel
theorem dX8_ofLog_43 : decode cX8_ofLog 43 = .ok (.iconst 1, 1) := by decide +kernel
theorem dX8_ofLog_44 : decode cX8_ofLog 44 = .ok (.if_icmp .ne 13, 3) := by decide +kernel
theorem dX8_ofLog_47 : decode cX8_ofLog 47 = .ok (.aload_n 0, 1) := by decide +kernel
theorem dX8_ofLog_48 : decode cX8_ofLog 48 = .ok (.invokevirtual 139, 3) := by decide +kernel
theorem dX8_ofLog_51 : decode cX8_ofLog 51 = .ok (.ldc 124, 2) := by decide +kernel
theorem dX8_ofLog_53 : decode cX8_ofLog 53 = .ok (.iadd, 1) := by decide +kernel
theorem dX8_ofLog_54 : decode cX8_ofLog 54 = .ok (.goto 31, 3) := by decide +kernel
theorem dX8_ofLog_57 : decode cX8_ofLog 57 = .ok (.iload_n 1, 1) := by decide +kernel
theorem dX8_ofLog_58 : decode cX8_ofLog 58 = .ok (.iconst 2, 1) := by decide +kernel
theorem dX8_ofLog_59 : decode cX8_ofLog 59 = .ok (.if_icmp .ne 10, 3) := by decide +kernel
theorem dX8_ofLog_62 : decode cX8_ofLog 62 = .ok (.aload_n 0, 1) := by decide +kernel
theorem dX8_ofLog_63 : decode cX8_ofLog 63 = .ok (.invokevirtual 142, 3) := by decide +kernel
theorem dX8_ofLog_66 : decode cX8_ofLog 66 = .ok (.goto 19, 3) := by decide +kernel
theorem dX8_ofLog_69 : decode cX8_ofLog 69 = .ok (.iload_n 1, 1) := by decide +kernel
theorem dX8_ofLog_70 : decode cX8_ofLog 70 = .ok (.iconst 3, 1) := by decide +kernel
theorem dX8_ofLog_71 : decode cX8_ofLog 71 = .ok (.if_icmp .ne 10, 3) := by decide +kernel
theorem dX8_ofLog_74 : decode cX8_ofLog 74 = .ok (.aload_n 0, 1) := by decide +kernel
theorem dX8_ofLog_75 : decode cX8_ofLog 75 = .ok (.invokevirtual 145, 3) := by decide +kernel
theorem dX8_ofLog_78 : decode cX8_ofLog 78 = .ok (.goto 7, 3) := by decide +kernel
theorem dX8_ofLog_81 : decode cX8_ofLog 81 = .ok (.aload_n 0, 1) := by decide +kernel
theorem dX8_ofLog_82 : decode cX8_ofLog 82 = .ok (.invokevirtual 148, 3) := by decide +kernel
theorem dX8_ofLog_85 : decode cX8_ofLog 85 = .ok (.ireturn, 1) := by decide +kernel
set_option maxRecDepth 20000 in
theorem ggX8_rate_X8_isHeat : GoodIn wsX8_rate wsX8_isHeat := goodIn_r _ [5, 6, 7, 8, 9, 4, 10] (by decide +kernel) (by decide +kernel)
set_option maxRecDepth 20000 in
theorem gX8_rate_X8_isHeat : GoodIn wsX8_rate (va_wsS RX8 87 yX8_isHeat wsX8_isHeat) := goodIn_app (goodIn_of _ (by decide +kernel)) ggX8_rate_X8_isHeat
set_option maxRecDepth 20000 in
theorem ggX8_rate_X8_isAir : GoodIn wsX8_rate wsX8_isAir := goodIn_r _ [13, 14, 15, 8, 9, 4, 10] (by decide +kernel) (by decide +kernel)
set_option maxRecDepth 20000 in
theorem gX8_rate_X8_isAir : GoodIn wsX8_rate (va_wsS RX8 91 yX8_isAir wsX8_isAir) := goodIn_app (goodIn_of _ (by decide +kernel)) ggX8_rate_X8_isAir
set_option maxRecDepth 20000 in
theorem ggX8_rate_X8_rateNow : GoodIn wsX8_rate wsX8_rateNow := goodIn_r _ [19, 20, 21, 22, 23, 4, 24, 25, 26, 27, 28, 29, 30, 31, 32, 33, 34, 35, 36, 37, 38] (by decide +kernel) (by decide +kernel)
set_option maxRecDepth 20000 in
theorem gX8_rate_X8_rateNow : GoodIn wsX8_rate (wsV RX8 58 RX8 yX8_rateNow wsX8_rateNow) := goodIn_app (goodIn_of _ (by decide +kernel)) ggX8_rate_X8_rateNow
theorem dX8_rate_0 : decode cX8_rate 0 = .ok (.iload_n 1, 1) := by decide +kernel
theorem dX8_rate_1 : decode cX8_rate 1 = .ok (.invokestatic 87, 3) := by decide +kernel
theorem dX8_rate_4 : decode cX8_rate 4 = .ok (.ifCond .eq 22, 3) := by decide +kernel
theorem dX8_rate_7 : decode cX8_rate 7 = .ok (.iload_n 2, 1) := by decide +kernel
theorem dX8_rate_8 : decode cX8_rate 8 = .ok (.invokestatic 91, 3) := by decide +kernel
theorem dX8_rate_11 : decode cX8_rate 11 = .ok (.ifCond .eq 15, 3) := by decide +kernel
theorem dX8_rate_14 : decode cX8_rate 14 = .ok (.aload_n 0, 1) := by decide +kernel
theorem dX8_rate_15 : decode cX8_rate 15 = .ok (.iload_n 1, 1) := by decide +kernel
theorem dX8_rate_16 : decode cX8_rate 16 = .ok (.iload_n 2, 1) := by decide +kernel
theorem dX8_rate_17 : decode cX8_rate 17 = .ok (.invokevirtual 58, 3) := by decide +kernel
theorem dX8_rate_20 : decode cX8_rate 20 = .ok (.ldc 124, 2) := by decide +kernel
theorem dX8_rate_22 : decode cX8_rate 22 = .ok (.iadd, 1) := by decide +kernel
theorem dX8_rate_23 : decode cX8_rate 23 = .ok (.goto 5, 3) := by decide +kernel
theorem dX8_rate_26 : decode cX8_rate 26 = .ok (.bipush (-2), 2) := by decide +kernel
theorem dX8_rate_28 : decode cX8_rate 28 = .ok (.ireturn, 1) := by decide +kernel
theorem dX8_size_0 : decode cX8_size 0 = .ok (.iload_n 0, 1) := by decide +kernel
theorem dX8_size_1 : decode cX8_size 1 = .ok (.ifCond .ge 8, 3) := by decide +kernel
theorem dX8_size_4 : decode cX8_size 4 = .ok (.iload_n 0, 1) := by decide +kernel
theorem dX8_size_5 : decode cX8_size 5 = .ok (.ineg, 1) := by decide +kernel
theorem dX8_size_6 : decode cX8_size 6 = .ok (.goto 4, 3) := by decide +kernel
theorem dX8_size_9 : decode cX8_size 9 = .ok (.iload_n 0, 1) := by decide +kernel
theorem dX8_size_10 : decode cX8_size 10 = .ok (.ireturn, 1) := by decide +kernel
set_option maxRecDepth 20000 in
theorem ggX8_bestWeights_X8_isHeat : GoodIn wsX8_bestWeights wsX8_isHeat := goodIn_r _ [5, 6, 7, 8, 9, 4, 10] (by decide +kernel) (by decide +kernel)
set_option maxRecDepth 20000 in
theorem gX8_bestWeights_X8_isHeat : GoodIn wsX8_bestWeights (va_wsS RX8 87 yX8_isHeat wsX8_isHeat) := goodIn_app (goodIn_of _ (by decide +kernel)) ggX8_bestWeights_X8_isHeat
set_option maxRecDepth 20000 in
theorem ggX8_bestWeights_X8_isAir : GoodIn wsX8_bestWeights wsX8_isAir := goodIn_r _ [13, 14, 15, 8, 9, 4, 10] (by decide +kernel) (by decide +kernel)
set_option maxRecDepth 20000 in
theorem gX8_bestWeights_X8_isAir : GoodIn wsX8_bestWeights (va_wsS RX8 91 yX8_isAir wsX8_isAir) := goodIn_app (goodIn_of _ (by decide +kernel)) ggX8_bestWeights_X8_isAir
set_option maxRecDepth 20000 in
theorem ggX8_bestWeights_X8_in : GoodIn wsX8_bestWeights wsX8_in := goodIn_r _ [10] (by decide +kernel) (by decide +kernel)
set_option maxRecDepth 20000 in
theorem gX8_bestWeights_X8_in : GoodIn wsX8_bestWeights (va_wsS RX8 36 yX8_in wsX8_in) := goodIn_app (goodIn_of _ (by decide +kernel)) ggX8_bestWeights_X8_in
set_option maxRecDepth 20000 in
theorem ggX8_bestWeights_X8_rateWith : GoodIn wsX8_bestWeights wsX8_rateWith := goodIn_r _ [19, 20, 24, 25, 26, 27, 28, 29, 30, 31, 32, 33, 34, 35, 36, 37] (by decide +kernel) (by decide +kernel)
set_option maxRecDepth 20000 in
theorem gX8_bestWeights_X8_rateWith : GoodIn wsX8_bestWeights (wsV RX8 44 RX8 yX8_rateWith wsX8_rateWith) := goodIn_app (goodIn_of _ (by decide +kernel)) ggX8_bestWeights_X8_rateWith
set_option maxRecDepth 20000 in
theorem ggX8_bestWeights_X8_size : GoodIn wsX8_bestWeights wsX8_size := goodIn_r _ [23] (by decide +kernel) (by decide +kernel)
set_option maxRecDepth 20000 in
theorem gX8_bestWeights_X8_size : GoodIn wsX8_bestWeights (va_wsS RX8 151 yX8_size wsX8_size) := goodIn_app (goodIn_of _ (by decide +kernel)) ggX8_bestWeights_X8_size
theorem dX8_bestWeights_0 : decode cX8_bestWeights 0 = .ok (.iload_n 1, 1) := by decide +kernel
theorem dX8_bestWeights_1 : decode cX8_bestWeights 1 = .ok (.invokestatic 87, 3) := by decide +kernel
theorem dX8_bestWeights_4 : decode cX8_bestWeights 4 = .ok (.ifCond .eq 20, 3) := by decide +kernel
theorem dX8_bestWeights_7 : decode cX8_bestWeights 7 = .ok (.iload_n 2, 1) := by decide +kernel
theorem dX8_bestWeights_8 : decode cX8_bestWeights 8 = .ok (.invokestatic 91, 3) := by decide +kernel
theorem dX8_bestWeights_11 : decode cX8_bestWeights 11 = .ok (.ifCond .eq 13, 3) := by decide +kernel
theorem dX8_bestWeights_14 : decode cX8_bestWeights 14 = .ok (.iload_n 3, 1) := by decide +kernel
theorem dX8_bestWeights_15 : decode cX8_bestWeights 15 = .ok (.i2l, 1) := by decide +kernel
theorem dX8_bestWeights_16 : decode cX8_bestWeights 16 = .ok (.lconst 0, 1) := by decide +kernel
theorem dX8_bestWeights_17 : decode cX8_bestWeights 17 = .ok (.lconst 1, 1) := by decide +kernel
theorem dX8_bestWeights_18 : decode cX8_bestWeights 18 = .ok (.invokestatic 36, 3) := by decide +kernel
theorem dX8_bestWeights_21 : decode cX8_bestWeights 21 = .ok (.ifCond .ne 6, 3) := by decide +kernel
theorem dX8_bestWeights_24 : decode cX8_bestWeights 24 = .ok (.bipush (-2), 2) := by decide +kernel
theorem dX8_bestWeights_26 : decode cX8_bestWeights 26 = .ok (.ireturn, 1) := by decide +kernel
theorem dX8_bestWeights_27 : decode cX8_bestWeights 27 = .ok (.iconst 0, 1) := by decide +kernel
theorem dX8_bestWeights_28 : decode cX8_bestWeights 28 = .ok (.istore 4, 2) := by decide +kernel
theorem dX8_bestWeights_30 : decode cX8_bestWeights 30 = .ok (.iconst 1, 1) := by decide +kernel
theorem dX8_bestWeights_31 : decode cX8_bestWeights 31 = .ok (.istore 5, 2) := by decide +kernel
theorem dX8_bestWeights_33 : decode cX8_bestWeights 33 = .ok (.iload 5, 2) := by decide +kernel
theorem dX8_bestWeights_35 : decode cX8_bestWeights 35 = .ok (.sipush 256, 3) := by decide +kernel
theorem dX8_bestWeights_38 : decode cX8_bestWeights 38 = .ok (.if_icmp .ge 43, 3) := by decide +kernel
theorem dX8_bestWeights_41 : decode cX8_bestWeights 41 = .ok (.aload_n 0, 1) := by decide +kernel
theorem dX8_bestWeights_42 : decode cX8_bestWeights 42 = .ok (.iload_n 1, 1) := by decide +kernel
theorem dX8_bestWeights_43 : decode cX8_bestWeights 43 = .ok (.iload_n 2, 1) := by decide +kernel
theorem dX8_bestWeights_44 : decode cX8_bestWeights 44 = .ok (.iload 5, 2) := by decide +kernel
theorem dX8_bestWeights_46 : decode cX8_bestWeights 46 = .ok (.invokevirtual 44, 3) := by decide +kernel
theorem dX8_bestWeights_49 : decode cX8_bestWeights 49 = .ok (.invokestatic 151, 3) := by decide +kernel
theorem dX8_bestWeights_52 : decode cX8_bestWeights 52 = .ok (.aload_n 0, 1) := by decide +kernel
theorem dX8_bestWeights_53 : decode cX8_bestWeights 53 = .ok (.iload_n 1, 1) := by decide +kernel
theorem dX8_bestWeights_54 : decode cX8_bestWeights 54 = .ok (.iload_n 2, 1) := by decide +kernel
theorem dX8_bestWeights_55 : decode cX8_bestWeights 55 = .ok (.iload 4, 2) := by decide +kernel
theorem dX8_bestWeights_57 : decode cX8_bestWeights 57 = .ok (.invokevirtual 44, 3) := by decide +kernel
theorem dX8_bestWeights_60 : decode cX8_bestWeights 60 = .ok (.invokestatic 151, 3) := by decide +kernel
theorem dX8_bestWeights_63 : decode cX8_bestWeights 63 = .ok (.if_icmp .ge 8, 3) := by decide +kernel
theorem dX8_bestWeights_66 : decode cX8_bestWeights 66 = .ok (.iload 5, 2) := by decide +kernel
theorem dX8_bestWeights_68 : decode cX8_bestWeights 68 = .ok (.goto 5, 3) := by decide +kernel
theorem dX8_bestWeights_71 : decode cX8_bestWeights 71 = .ok (.iload 4, 2) := by decide +kernel
theorem dX8_bestWeights_73 : decode cX8_bestWeights 73 = .ok (.istore 4, 2) := by decide +kernel
theorem dX8_bestWeights_75 : decode cX8_bestWeights 75 = .ok (.iinc 5 1, 3) := by decide +kernel
theorem dX8_bestWeights_78 : decode cX8_bestWeights 78 = .ok (.goto (-45), 3) := by decide +kernel
theorem dX8_bestWeights_81 : decode cX8_bestWeights 81 = .ok (.iload_n 3, 1) := by decide +kernel
theorem dX8_bestWeights_82 : decode cX8_bestWeights 82 = .ok (.ifCond .ne 8, 3) := by decide +kernel
theorem dX8_bestWeights_85 : decode cX8_bestWeights 85 = .ok (.iload 4, 2) := by decide +kernel
theorem dX8_bestWeights_87 : decode cX8_bestWeights 87 = .ok (.goto 14, 3) := by decide +kernel
theorem dX8_bestWeights_90 : decode cX8_bestWeights 90 = .ok (.aload_n 0, 1) := by decide +kernel
theorem dX8_bestWeights_91 : decode cX8_bestWeights 91 = .ok (.iload_n 1, 1) := by decide +kernel
theorem dX8_bestWeights_92 : decode cX8_bestWeights 92 = .ok (.iload_n 2, 1) := by decide +kernel
theorem dX8_bestWeights_93 : decode cX8_bestWeights 93 = .ok (.iload 4, 2) := by decide +kernel
theorem dX8_bestWeights_95 : decode cX8_bestWeights 95 = .ok (.invokevirtual 44, 3) := by decide +kernel
theorem dX8_bestWeights_98 : decode cX8_bestWeights 98 = .ok (.ldc 124, 2) := by decide +kernel
theorem dX8_bestWeights_100 : decode cX8_bestWeights 100 = .ok (.iadd, 1) := by decide +kernel
theorem dX8_bestWeights_101 : decode cX8_bestWeights 101 = .ok (.ireturn, 1) := by decide +kernel
set_option maxRecDepth 20000 in
theorem ggX8_offIn_X8_isHeat : GoodIn wsX8_offIn wsX8_isHeat := goodIn_r _ [7, 8, 9, 10, 11, 6, 12] (by decide +kernel) (by decide +kernel)
set_option maxRecDepth 20000 in
theorem gX8_offIn_X8_isHeat : GoodIn wsX8_offIn (va_wsS RX8 87 yX8_isHeat wsX8_isHeat) := goodIn_app (goodIn_of _ (by decide +kernel)) ggX8_offIn_X8_isHeat
set_option maxRecDepth 20000 in
theorem ggX8_offIn_X8_isAir : GoodIn wsX8_offIn wsX8_isAir := goodIn_r _ [15, 16, 17, 10, 11, 6, 12] (by decide +kernel) (by decide +kernel)
set_option maxRecDepth 20000 in
theorem gX8_offIn_X8_isAir : GoodIn wsX8_offIn (va_wsS RX8 91 yX8_isAir wsX8_isAir) := goodIn_app (goodIn_of _ (by decide +kernel)) ggX8_offIn_X8_isAir
set_option maxRecDepth 20000 in
theorem ggX8_offIn_X8_isTooFar : GoodIn wsX8_offIn wsX8_isTooFar := goodIn_r _ [21, 2, 1, 34, 35, 36, 37, 38, 39, 40, 41, 42, 43, 44, 45, 46, 47] (by decide +kernel) (by decide +kernel)
set_option maxRecDepth 20000 in
theorem gX8_offIn_X8_isTooFar : GoodIn wsX8_offIn (wsV RX8 66 RX8 yX8_isTooFar wsX8_isTooFar) := goodIn_app (goodIn_of _ (by decide +kernel)) ggX8_offIn_X8_isTooFar
set_option maxRecDepth 20000 in
theorem ggX8_offIn_X8_rateNow : GoodIn wsX8_offIn wsX8_rateNow := goodIn_r _ [25, 1, 26, 27, 28, 6, 29, 34, 35, 36, 37, 38, 39, 40, 41, 42, 43, 44, 45, 46, 47] (by decide +kernel) (by decide +kernel)
set_option maxRecDepth 20000 in
theorem gX8_offIn_X8_rateNow : GoodIn wsX8_offIn (wsV RX8 58 RX8 yX8_rateNow wsX8_rateNow) := goodIn_app (goodIn_of _ (by decide +kernel)) ggX8_offIn_X8_rateNow
set_option maxRecDepth 20000 in
theorem ggX8_offIn_X8_goes : GoodIn wsX8_offIn wsX8_goes := goodIn_r _ [33, 3, 2, 34, 35, 36, 37, 38, 39, 40, 41, 42, 43, 44, 45, 46, 47] (by decide +kernel) (by decide +kernel)
set_option maxRecDepth 20000 in
theorem gX8_offIn_X8_goes : GoodIn wsX8_offIn (wsV RX8 62 RX8 yX8_goes wsX8_goes) := goodIn_app (goodIn_of _ (by decide +kernel)) ggX8_offIn_X8_goes
theorem dX8_offIn_0 : decode cX8_offIn 0 = .ok (.iload_n 1, 1) := by decide +kernel
theorem dX8_offIn_1 : decode cX8_offIn 1 = .ok (.invokestatic 87, 3) := by decide +kernel
theorem dX8_offIn_4 : decode cX8_offIn 4 = .ok (.ifCond .eq 10, 3) := by decide +kernel
theorem dX8_offIn_7 : decode cX8_offIn 7 = .ok (.iload_n 2, 1) := by decide +kernel
theorem dX8_offIn_8 : decode cX8_offIn 8 = .ok (.invokestatic 91, 3) := by decide +kernel
theorem dX8_offIn_11 : decode cX8_offIn 11 = .ok (.ifCond .ne 6, 3) := by decide +kernel
theorem dX8_offIn_14 : decode cX8_offIn 14 = .ok (.bipush (-2), 2) := by decide +kernel
theorem dX8_offIn_16 : decode cX8_offIn 16 = .ok (.ireturn, 1) := by decide +kernel
theorem dX8_offIn_17 : decode cX8_offIn 17 = .ok (.aload_n 0, 1) := by decide +kernel
theorem dX8_offIn_18 : decode cX8_offIn 18 = .ok (.aload_n 0, 1) := by decide +kernel
theorem dX8_offIn_19 : decode cX8_offIn 19 = .ok (.getfield 7, 3) := by decide +kernel
theorem dX8_offIn_22 : decode cX8_offIn 22 = .ok (.iconst 5, 1) := by decide +kernel
theorem dX8_offIn_23 : decode cX8_offIn 23 = .ok (.iaload, 1) := by decide +kernel
theorem dX8_offIn_24 : decode cX8_offIn 24 = .ok (.putfield 51, 3) := by decide +kernel
theorem dX8_offIn_27 : decode cX8_offIn 27 = .ok (.aload_n 0, 1) := by decide +kernel
theorem dX8_offIn_28 : decode cX8_offIn 28 = .ok (.aload_n 0, 1) := by decide +kernel
theorem dX8_offIn_29 : decode cX8_offIn 29 = .ok (.getfield 7, 3) := by decide +kernel
theorem dX8_offIn_32 : decode cX8_offIn 32 = .ok (.bipush 6, 2) := by decide +kernel
theorem dX8_offIn_34 : decode cX8_offIn 34 = .ok (.iaload, 1) := by decide +kernel
theorem dX8_offIn_35 : decode cX8_offIn 35 = .ok (.putfield 48, 3) := by decide +kernel
theorem dX8_offIn_38 : decode cX8_offIn 38 = .ok (.iconst 0, 1) := by decide +kernel
theorem dX8_offIn_39 : decode cX8_offIn 39 = .ok (.istore_n 3, 1) := by decide +kernel
theorem dX8_offIn_40 : decode cX8_offIn 40 = .ok (.aload_n 0, 1) := by decide +kernel
theorem dX8_offIn_41 : decode cX8_offIn 41 = .ok (.invokevirtual 66, 3) := by decide +kernel
theorem dX8_offIn_44 : decode cX8_offIn 44 = .ok (.ifCond .ne 26, 3) := by decide +kernel
theorem dX8_offIn_47 : decode cX8_offIn 47 = .ok (.iload_n 3, 1) := by decide +kernel
theorem dX8_offIn_48 : decode cX8_offIn 48 = .ok (.sipush 5000, 3) := by decide +kernel
theorem dX8_offIn_51 : decode cX8_offIn 51 = .ok (.if_icmp .gt 19, 3) := by decide +kernel
theorem dX8_offIn_54 : decode cX8_offIn 54 = .ok (.aload_n 0, 1) := by decide +kernel
theorem dX8_offIn_55 : decode cX8_offIn 55 = .ok (.aload_n 0, 1) := by decide +kernel
theorem dX8_offIn_56 : decode cX8_offIn 56 = .ok (.iload_n 1, 1) := by decide +kernel
theorem dX8_offIn_57 : decode cX8_offIn 57 = .ok (.iload_n 2, 1) := by decide +kernel
theorem dX8_offIn_58 : decode cX8_offIn 58 = .ok (.invokevirtual 58, 3) := by decide +kernel
theorem dX8_offIn_61 : decode cX8_offIn 61 = .ok (.invokevirtual 62, 3) := by decide +kernel
theorem dX8_offIn_64 : decode cX8_offIn 64 = .ok (.iinc 3 1, 3) := by decide +kernel
theorem dX8_offIn_67 : decode cX8_offIn 67 = .ok (.goto (-27), 3) := by decide +kernel
theorem dX8_offIn_70 : decode cX8_offIn 70 = .ok (.iload_n 3, 1) := by decide +kernel
theorem dX8_offIn_71 : decode cX8_offIn 71 = .ok (.sipush 5000, 3) := by decide +kernel
theorem dX8_offIn_74 : decode cX8_offIn 74 = .ok (.if_icmp .le 8, 3) := by decide +kernel
theorem dX8_offIn_77 : decode cX8_offIn 77 = .ok (.bipush (-6), 2) := by decide +kernel
theorem dX8_offIn_79 : decode cX8_offIn 79 = .ok (.goto 4, 3) := by decide +kernel
theorem dX8_offIn_82 : decode cX8_offIn 82 = .ok (.iload_n 3, 1) := by decide +kernel
theorem dX8_offIn_83 : decode cX8_offIn 83 = .ok (.ireturn, 1) := by decide +kernel
set_option maxRecDepth 20000 in
theorem ggX8_replay_X8_of : GoodIn wsX8_replay wsX8_of := goodIn_r _ [9, 3, 22, 23, 24, 25, 26, 27, 28, 29, 30, 31, 32, 33, 34, 35] (by decide +kernel) (by decide +kernel)
set_option maxRecDepth 20000 in
theorem gX8_replay_X8_of : GoodIn wsX8_replay (wsV RX8 121 RX8 yX8_of wsX8_of) := goodIn_app (goodIn_of _ (by decide +kernel)) ggX8_replay_X8_of
set_option maxRecDepth 20000 in
theorem ggX8_replay_X8_rateNow : GoodIn wsX8_replay wsX8_rateNow := goodIn_r _ [13, 3, 14, 15, 16, 8, 17, 22, 23, 24, 25, 26, 27, 28, 29, 30, 31, 32, 33, 34, 35] (by decide +kernel) (by decide +kernel)
set_option maxRecDepth 20000 in
theorem gX8_replay_X8_rateNow : GoodIn wsX8_replay (wsV RX8 58 RX8 yX8_rateNow wsX8_rateNow) := goodIn_app (goodIn_of _ (by decide +kernel)) ggX8_replay_X8_rateNow
set_option maxRecDepth 20000 in
theorem ggX8_replay_X8_goes : GoodIn wsX8_replay wsX8_goes := goodIn_r _ [21, 2, 1, 22, 23, 24, 25, 26, 27, 28, 29, 30, 31, 32, 33, 34, 35] (by decide +kernel) (by decide +kernel)
set_option maxRecDepth 20000 in
theorem gX8_replay_X8_goes : GoodIn wsX8_replay (wsV RX8 62 RX8 yX8_goes wsX8_goes) := goodIn_app (goodIn_of _ (by decide +kernel)) ggX8_replay_X8_goes
theorem dX8_replay_0 : decode cX8_replay 0 = .ok (.aload_n 0, 1) := by decide +kernel
theorem dX8_replay_1 : decode cX8_replay 1 = .ok (.iconst 0, 1) := by decide +kernel
theorem dX8_replay_2 : decode cX8_replay 2 = .ok (.putfield 51, 3) := by decide +kernel
theorem dX8_replay_5 : decode cX8_replay 5 = .ok (.aload_n 0, 1) := by decide +kernel
theorem dX8_replay_6 : decode cX8_replay 6 = .ok (.iconst 0, 1) := by decide +kernel
theorem dX8_replay_7 : decode cX8_replay 7 = .ok (.putfield 48, 3) := by decide +kernel
theorem dX8_replay_10 : decode cX8_replay 10 = .ok (.aload_n 0, 1) := by decide +kernel
theorem dX8_replay_11 : decode cX8_replay 11 = .ok (.getfield 7, 3) := by decide +kernel
theorem dX8_replay_14 : decode cX8_replay 14 = .ok (.bipush 9, 2) := by decide +kernel
theorem dX8_replay_16 : decode cX8_replay 16 = .ok (.iaload, 1) := by decide +kernel
theorem dX8_replay_17 : decode cX8_replay 17 = .ok (.iconst 1, 1) := by decide +kernel
theorem dX8_replay_18 : decode cX8_replay 18 = .ok (.isub, 1) := by decide +kernel
theorem dX8_replay_19 : decode cX8_replay 19 = .ok (.istore_n 1, 1) := by decide +kernel
theorem dX8_replay_20 : decode cX8_replay 20 = .ok (.iload_n 1, 1) := by decide +kernel
theorem dX8_replay_21 : decode cX8_replay 21 = .ok (.ifCond .lt 29, 3) := by decide +kernel
theorem dX8_replay_24 : decode cX8_replay 24 = .ok (.aload_n 0, 1) := by decide +kernel
theorem dX8_replay_25 : decode cX8_replay 25 = .ok (.aload_n 0, 1) := by decide +kernel
theorem dX8_replay_26 : decode cX8_replay 26 = .ok (.aload_n 0, 1) := by decide +kernel
theorem dX8_replay_27 : decode cX8_replay 27 = .ok (.iload_n 1, 1) := by decide +kernel
theorem dX8_replay_28 : decode cX8_replay 28 = .ok (.iconst 0, 1) := by decide +kernel
theorem dX8_replay_29 : decode cX8_replay 29 = .ok (.invokevirtual 121, 3) := by decide +kernel
theorem dX8_replay_32 : decode cX8_replay 32 = .ok (.aload_n 0, 1) := by decide +kernel
theorem dX8_replay_33 : decode cX8_replay 33 = .ok (.iload_n 1, 1) := by decide +kernel
theorem dX8_replay_34 : decode cX8_replay 34 = .ok (.iconst 1, 1) := by decide +kernel
theorem dX8_replay_35 : decode cX8_replay 35 = .ok (.invokevirtual 121, 3) := by decide +kernel
theorem dX8_replay_38 : decode cX8_replay 38 = .ok (.invokevirtual 58, 3) := by decide +kernel
theorem dX8_replay_41 : decode cX8_replay 41 = .ok (.invokevirtual 62, 3) := by decide +kernel
theorem dX8_replay_44 : decode cX8_replay 44 = .ok (.iinc 1 (-1), 3) := by decide +kernel
theorem dX8_replay_47 : decode cX8_replay 47 = .ok (.goto (-27), 3) := by decide +kernel
theorem dX8_replay_50 : decode cX8_replay 50 = .ok (.aload_n 0, 1) := by decide +kernel
theorem dX8_replay_51 : decode cX8_replay 51 = .ok (.getfield 51, 3) := by decide +kernel
theorem dX8_replay_54 : decode cX8_replay 54 = .ok (.ldc 98, 2) := by decide +kernel
theorem dX8_replay_56 : decode cX8_replay 56 = .ok (.iadd, 1) := by decide +kernel
theorem dX8_replay_57 : decode cX8_replay 57 = .ok (.ireturn, 1) := by decide +kernel
set_option maxRecDepth 20000 in
theorem ggX8_coolest_X8_isAir : GoodIn wsX8_coolest wsX8_isAir := goodIn_r _ [4, 5, 6, 7, 8, 3, 9] (by decide +kernel) (by decide +kernel)
set_option maxRecDepth 20000 in
theorem gX8_coolest_X8_isAir : GoodIn wsX8_coolest (va_wsS RX8 91 yX8_isAir wsX8_isAir) := goodIn_app (goodIn_of _ (by decide +kernel)) ggX8_coolest_X8_isAir
set_option maxRecDepth 20000 in
theorem ggX8_coolest_X8_rateNow : GoodIn wsX8_coolest wsX8_rateNow := goodIn_r _ [13, 14, 15, 16, 17, 3, 18, 19, 20, 21, 22, 23, 24, 25, 26, 27, 28, 29, 30, 31, 32] (by decide +kernel) (by decide +kernel)
set_option maxRecDepth 20000 in
theorem gX8_coolest_X8_rateNow : GoodIn wsX8_coolest (wsV RX8 58 RX8 yX8_rateNow wsX8_rateNow) := goodIn_app (goodIn_of _ (by decide +kernel)) ggX8_coolest_X8_rateNow
theorem dX8_coolest_0 : decode cX8_coolest 0 = .ok (.iload_n 1, 1) := by decide +kernel
theorem dX8_coolest_1 : decode cX8_coolest 1 = .ok (.invokestatic 91, 3) := by decide +kernel
theorem dX8_coolest_4 : decode cX8_coolest 4 = .ok (.ifCond .ne 6, 3) := by decide +kernel
theorem dX8_coolest_7 : decode cX8_coolest 7 = .ok (.bipush (-2), 2) := by decide +kernel
theorem dX8_coolest_9 : decode cX8_coolest 9 = .ok (.ireturn, 1) := by decide +kernel
theorem dX8_coolest_10 : decode cX8_coolest 10 = .ok (.bipush (-20), 2) := by decide +kernel
theorem dX8_coolest_12 : decode cX8_coolest 12 = .ok (.istore_n 2, 1) := by decide +kernel
theorem dX8_coolest_13 : decode cX8_coolest 13 = .ok (.iload_n 2, 1) := by decide +kernel
theorem dX8_coolest_14 : decode cX8_coolest 14 = .ok (.bipush 50, 2) := by decide +kernel
theorem dX8_coolest_16 : decode cX8_coolest 16 = .ok (.if_icmp .gt 23, 3) := by decide +kernel
theorem dX8_coolest_19 : decode cX8_coolest 19 = .ok (.aload_n 0, 1) := by decide +kernel
theorem dX8_coolest_20 : decode cX8_coolest 20 = .ok (.iload_n 2, 1) := by decide +kernel
theorem dX8_coolest_21 : decode cX8_coolest 21 = .ok (.iload_n 1, 1) := by decide +kernel
theorem dX8_coolest_22 : decode cX8_coolest 22 = .ok (.invokevirtual 58, 3) := by decide +kernel
theorem dX8_coolest_25 : decode cX8_coolest 25 = .ok (.ifCond .gt 8, 3) := by decide +kernel
theorem dX8_coolest_28 : decode cX8_coolest 28 = .ok (.iload_n 2, 1) := by decide +kernel
theorem dX8_coolest_29 : decode cX8_coolest 29 = .ok (.bipush 100, 2) := by decide +kernel
theorem dX8_coolest_31 : decode cX8_coolest 31 = .ok (.iadd, 1) := by decide +kernel
theorem dX8_coolest_32 : decode cX8_coolest 32 = .ok (.ireturn, 1) := by decide +kernel
theorem dX8_coolest_33 : decode cX8_coolest 33 = .ok (.iinc 2 1, 3) := by decide +kernel
theorem dX8_coolest_36 : decode cX8_coolest 36 = .ok (.goto (-23), 3) := by decide +kernel
theorem dX8_coolest_39 : decode cX8_coolest 39 = .ok (.bipush (-6), 2) := by decide +kernel
theorem dX8_coolest_41 : decode cX8_coolest 41 = .ok (.ireturn, 1) := by decide +kernel
set_option maxRecDepth 20000 in
theorem ggX8_put_X8_in : GoodIn wsX8_put wsX8_in := goodIn_r _ [9] (by decide +kernel) (by decide +kernel)
set_option maxRecDepth 20000 in
theorem gX8_put_X8_in : GoodIn wsX8_put (va_wsS RX8 36 yX8_in wsX8_in) := goodIn_app (goodIn_of _ (by decide +kernel)) ggX8_put_X8_in
theorem dX8_put_0 : decode cX8_put 0 = .ok (.iconst 0, 1) := by decide +kernel
theorem dX8_put_1 : decode cX8_put 1 = .ok (.istore_n 3, 1) := by decide +kernel
theorem dX8_put_2 : decode cX8_put 2 = .ok (.iconst 1, 1) := by decide +kernel
theorem dX8_put_3 : decode cX8_put 3 = .ok (.istore 4, 2) := by decide +kernel
theorem dX8_put_5 : decode cX8_put 5 = .ok (.lload_n 1, 1) := by decide +kernel
theorem dX8_put_6 : decode cX8_put 6 = .ok (.lstore 5, 2) := by decide +kernel
theorem dX8_put_8 : decode cX8_put 8 = .ok (.iload_n 3, 1) := by decide +kernel
theorem dX8_put_9 : decode cX8_put 9 = .ok (.bipush 8, 2) := by decide +kernel
theorem dX8_put_11 : decode cX8_put 11 = .ok (.if_icmp .ge 57, 3) := by decide +kernel
theorem dX8_put_14 : decode cX8_put 14 = .ok (.lload 5, 2) := by decide +kernel
theorem dX8_put_16 : decode cX8_put 16 = .ok (.ldc2_w 154, 3) := by decide +kernel
theorem dX8_put_19 : decode cX8_put 19 = .ok (.land, 1) := by decide +kernel
theorem dX8_put_20 : decode cX8_put 20 = .ok (.lconst 0, 1) := by decide +kernel
theorem dX8_put_21 : decode cX8_put 21 = .ok (.lcmp, 1) := by decide +kernel
theorem dX8_put_22 : decode cX8_put 22 = .ok (.ifCond .eq 46, 3) := by decide +kernel
theorem dX8_put_25 : decode cX8_put 25 = .ok (.iload 4, 2) := by decide +kernel
theorem dX8_put_27 : decode cX8_put 27 = .ok (.ifCond .eq 25, 3) := by decide +kernel
theorem dX8_put_30 : decode cX8_put 30 = .ok (.lload 5, 2) := by decide +kernel
theorem dX8_put_32 : decode cX8_put 32 = .ok (.ldc2_w 154, 3) := by decide +kernel
theorem dX8_put_35 : decode cX8_put 35 = .ok (.land, 1) := by decide +kernel
theorem dX8_put_36 : decode cX8_put 36 = .ok (.ldc2_w 156, 3) := by decide +kernel
theorem dX8_put_39 : decode cX8_put 39 = .ok (.ldc2_w 158, 3) := by decide +kernel
theorem dX8_put_42 : decode cX8_put 42 = .ok (.invokestatic 36, 3) := by decide +kernel
theorem dX8_put_45 : decode cX8_put 45 = .ok (.ifCond .eq 7, 3) := by decide +kernel
theorem dX8_put_48 : decode cX8_put 48 = .ok (.iconst 1, 1) := by decide +kernel
theorem dX8_put_49 : decode cX8_put 49 = .ok (.goto 4, 3) := by decide +kernel
theorem dX8_put_52 : decode cX8_put 52 = .ok (.iconst 0, 1) := by decide +kernel
theorem dX8_put_53 : decode cX8_put 53 = .ok (.istore 4, 2) := by decide +kernel
theorem dX8_put_55 : decode cX8_put 55 = .ok (.lload 5, 2) := by decide +kernel
theorem dX8_put_57 : decode cX8_put 57 = .ok (.bipush 8, 2) := by decide +kernel
theorem dX8_put_59 : decode cX8_put 59 = .ok (.lushr, 1) := by decide +kernel
theorem dX8_put_60 : decode cX8_put 60 = .ok (.lstore 5, 2) := by decide +kernel
theorem dX8_put_62 : decode cX8_put 62 = .ok (.iinc 3 1, 3) := by decide +kernel
theorem dX8_put_65 : decode cX8_put 65 = .ok (.goto (-57), 3) := by decide +kernel
theorem dX8_put_68 : decode cX8_put 68 = .ok (.iload_n 3, 1) := by decide +kernel
theorem dX8_put_69 : decode cX8_put 69 = .ok (.ifCond .eq 15, 3) := by decide +kernel
theorem dX8_put_72 : decode cX8_put 72 = .ok (.lload 5, 2) := by decide +kernel
theorem dX8_put_74 : decode cX8_put 74 = .ok (.lconst 0, 1) := by decide +kernel
theorem dX8_put_75 : decode cX8_put 75 = .ok (.lcmp, 1) := by decide +kernel
theorem dX8_put_76 : decode cX8_put 76 = .ok (.ifCond .ne 8, 3) := by decide +kernel
theorem dX8_put_79 : decode cX8_put 79 = .ok (.iload 4, 2) := by decide +kernel
theorem dX8_put_81 : decode cX8_put 81 = .ok (.ifCond .ne 6, 3) := by decide +kernel
theorem dX8_put_84 : decode cX8_put 84 = .ok (.bipush (-2), 2) := by decide +kernel
theorem dX8_put_86 : decode cX8_put 86 = .ok (.ireturn, 1) := by decide +kernel
theorem dX8_put_87 : decode cX8_put 87 = .ok (.aload_n 0, 1) := by decide +kernel
theorem dX8_put_88 : decode cX8_put 88 = .ok (.getfield 125, 3) := by decide +kernel
theorem dX8_put_91 : decode cX8_put 91 = .ok (.iload_n 3, 1) := by decide +kernel
theorem dX8_put_92 : decode cX8_put 92 = .ok (.iadd, 1) := by decide +kernel
theorem dX8_put_93 : decode cX8_put 93 = .ok (.bipush 80, 2) := by decide +kernel
theorem dX8_put_95 : decode cX8_put 95 = .ok (.if_icmp .le 6, 3) := by decide +kernel
theorem dX8_put_98 : decode cX8_put 98 = .ok (.bipush (-4), 2) := by decide +kernel
theorem dX8_put_100 : decode cX8_put 100 = .ok (.ireturn, 1) := by decide +kernel
theorem dX8_put_101 : decode cX8_put 101 = .ok (.iload_n 3, 1) := by decide +kernel
theorem dX8_put_102 : decode cX8_put 102 = .ok (.iconst 1, 1) := by decide +kernel
theorem dX8_put_103 : decode cX8_put 103 = .ok (.isub, 1) := by decide +kernel
theorem dX8_put_104 : decode cX8_put 104 = .ok (.istore 7, 2) := by decide +kernel
theorem dX8_put_106 : decode cX8_put 106 = .ok (.iload 7, 2) := by decide +kernel
theorem dX8_put_108 : decode cX8_put 108 = .ok (.ifCond .lt 40, 3) := by decide +kernel
theorem dX8_put_111 : decode cX8_put 111 = .ok (.aload_n 0, 1) := by decide +kernel
theorem dX8_put_112 : decode cX8_put 112 = .ok (.getfield 25, 3) := by decide +kernel
theorem dX8_put_115 : decode cX8_put 115 = .ok (.aload_n 0, 1) := by decide +kernel
theorem dX8_put_116 : decode cX8_put 116 = .ok (.getfield 125, 3) := by decide +kernel
theorem dX8_put_119 : decode cX8_put 119 = .ok (.lload_n 1, 1) := by decide +kernel
theorem dX8_put_120 : decode cX8_put 120 = .ok (.bipush 8, 2) := by decide +kernel
theorem dX8_put_122 : decode cX8_put 122 = .ok (.iload 7, 2) := by decide +kernel
theorem dX8_put_124 : decode cX8_put 124 = .ok (.imul, 1) := by decide +kernel
theorem dX8_put_125 : decode cX8_put 125 = .ok (.lushr, 1) := by decide +kernel
theorem dX8_put_126 : decode cX8_put 126 = .ok (.ldc2_w 154, 3) := by decide +kernel
theorem dX8_put_129 : decode cX8_put 129 = .ok (.land, 1) := by decide +kernel
theorem dX8_put_130 : decode cX8_put 130 = .ok (.l2i, 1) := by decide +kernel
theorem dX8_put_131 : decode cX8_put 131 = .ok (.iastore, 1) := by decide +kernel
theorem dX8_put_132 : decode cX8_put 132 = .ok (.aload_n 0, 1) := by decide +kernel
theorem dX8_put_133 : decode cX8_put 133 = .ok (.dup, 1) := by decide +kernel
theorem dX8_put_134 : decode cX8_put 134 = .ok (.getfield 125, 3) := by decide +kernel
theorem dX8_put_137 : decode cX8_put 137 = .ok (.iconst 1, 1) := by decide +kernel
theorem dX8_put_138 : decode cX8_put 138 = .ok (.iadd, 1) := by decide +kernel
theorem dX8_put_139 : decode cX8_put 139 = .ok (.putfield 125, 3) := by decide +kernel
theorem dX8_put_142 : decode cX8_put 142 = .ok (.iinc 7 (-1), 3) := by decide +kernel
theorem dX8_put_145 : decode cX8_put 145 = .ok (.goto (-39), 3) := by decide +kernel
theorem dX8_put_148 : decode cX8_put 148 = .ok (.aload_n 0, 1) := by decide +kernel
theorem dX8_put_149 : decode cX8_put 149 = .ok (.getfield 125, 3) := by decide +kernel
theorem dX8_put_152 : decode cX8_put 152 = .ok (.ireturn, 1) := by decide +kernel
theorem dX8_wipe_0 : decode cX8_wipe 0 = .ok (.aload_n 0, 1) := by decide +kernel
theorem dX8_wipe_1 : decode cX8_wipe 1 = .ok (.getfield 125, 3) := by decide +kernel
theorem dX8_wipe_4 : decode cX8_wipe 4 = .ok (.istore_n 1, 1) := by decide +kernel
theorem dX8_wipe_5 : decode cX8_wipe 5 = .ok (.aload_n 0, 1) := by decide +kernel
theorem dX8_wipe_6 : decode cX8_wipe 6 = .ok (.iconst 0, 1) := by decide +kernel
theorem dX8_wipe_7 : decode cX8_wipe 7 = .ok (.putfield 125, 3) := by decide +kernel
theorem dX8_wipe_10 : decode cX8_wipe 10 = .ok (.iload_n 1, 1) := by decide +kernel
theorem dX8_wipe_11 : decode cX8_wipe 11 = .ok (.ireturn, 1) := by decide +kernel
set_option maxRecDepth 20000 in
theorem ggX8_isHere_X8_in : GoodIn wsX8_isHere wsX8_in := goodIn_r _ [7] (by decide +kernel) (by decide +kernel)
set_option maxRecDepth 20000 in
theorem gX8_isHere_X8_in : GoodIn wsX8_isHere (va_wsS RX8 36 yX8_in wsX8_in) := goodIn_app (goodIn_of _ (by decide +kernel)) ggX8_isHere_X8_in
theorem dX8_isHere_0 : decode cX8_isHere 0 = .ok (.aload_n 0, 1) := by decide +kernel
theorem dX8_isHere_1 : decode cX8_isHere 1 = .ok (.getfield 160, 3) := by decide +kernel
theorem dX8_isHere_4 : decode cX8_isHere 4 = .ok (.aload_n 0, 1) := by decide +kernel
theorem dX8_isHere_5 : decode cX8_isHere 5 = .ok (.getfield 125, 3) := by decide +kernel
theorem dX8_isHere_8 : decode cX8_isHere 8 = .ok (.if_icmp .ge 27, 3) := by decide +kernel
theorem dX8_isHere_11 : decode cX8_isHere 11 = .ok (.aload_n 0, 1) := by decide +kernel
theorem dX8_isHere_12 : decode cX8_isHere 12 = .ok (.getfield 25, 3) := by decide +kernel
theorem dX8_isHere_15 : decode cX8_isHere 15 = .ok (.aload_n 0, 1) := by decide +kernel
theorem dX8_isHere_16 : decode cX8_isHere 16 = .ok (.getfield 160, 3) := by decide +kernel
theorem dX8_isHere_19 : decode cX8_isHere 19 = .ok (.iaload, 1) := by decide +kernel
theorem dX8_isHere_20 : decode cX8_isHere 20 = .ok (.i2l, 1) := by decide +kernel
theorem dX8_isHere_21 : decode cX8_isHere 21 = .ok (.iload_n 1, 1) := by decide +kernel
theorem dX8_isHere_22 : decode cX8_isHere 22 = .ok (.i2l, 1) := by decide +kernel
theorem dX8_isHere_23 : decode cX8_isHere 23 = .ok (.iload_n 2, 1) := by decide +kernel
theorem dX8_isHere_24 : decode cX8_isHere 24 = .ok (.i2l, 1) := by decide +kernel
theorem dX8_isHere_25 : decode cX8_isHere 25 = .ok (.invokestatic 36, 3) := by decide +kernel
theorem dX8_isHere_28 : decode cX8_isHere 28 = .ok (.ifCond .eq 7, 3) := by decide +kernel
theorem dX8_isHere_31 : decode cX8_isHere 31 = .ok (.iconst 1, 1) := by decide +kernel
theorem dX8_isHere_32 : decode cX8_isHere 32 = .ok (.goto 4, 3) := by decide +kernel
theorem dX8_isHere_35 : decode cX8_isHere 35 = .ok (.iconst 0, 1) := by decide +kernel
theorem dX8_isHere_36 : decode cX8_isHere 36 = .ok (.ireturn, 1) := by decide +kernel
set_option maxRecDepth 20000 in
theorem ggX8_takes_X8_isHere : GoodIn wsX8_takes wsX8_isHere := goodIn_r _ [6, 1, 7, 8, 9, 10, 5, 11, 12, 13, 14, 15, 16, 17, 18, 19, 20, 21, 22, 23, 24, 25] (by decide +kernel) (by decide +kernel)
set_option maxRecDepth 20000 in
theorem gX8_takes_X8_isHere : GoodIn wsX8_takes (wsV RX8 163 RX8 yX8_isHere wsX8_isHere) := goodIn_app (goodIn_of _ (by decide +kernel)) ggX8_takes_X8_isHere
theorem dX8_takes_0 : decode cX8_takes 0 = .ok (.aload_n 0, 1) := by decide +kernel
theorem dX8_takes_1 : decode cX8_takes 1 = .ok (.iload_n 1, 1) := by decide +kernel
theorem dX8_takes_2 : decode cX8_takes 2 = .ok (.iload_n 1, 1) := by decide +kernel
theorem dX8_takes_3 : decode cX8_takes 3 = .ok (.invokevirtual 163, 3) := by decide +kernel
theorem dX8_takes_6 : decode cX8_takes 6 = .ok (.istore_n 2, 1) := by decide +kernel
theorem dX8_takes_7 : decode cX8_takes 7 = .ok (.aload_n 0, 1) := by decide +kernel
theorem dX8_takes_8 : decode cX8_takes 8 = .ok (.dup, 1) := by decide +kernel
theorem dX8_takes_9 : decode cX8_takes 9 = .ok (.getfield 160, 3) := by decide +kernel
theorem dX8_takes_12 : decode cX8_takes 12 = .ok (.iload_n 2, 1) := by decide +kernel
theorem dX8_takes_13 : decode cX8_takes 13 = .ok (.ifCond .eq 7, 3) := by decide +kernel
theorem dX8_takes_16 : decode cX8_takes 16 = .ok (.iconst 1, 1) := by decide +kernel
theorem dX8_takes_17 : decode cX8_takes 17 = .ok (.goto 4, 3) := by decide +kernel
theorem dX8_takes_20 : decode cX8_takes 20 = .ok (.iconst 0, 1) := by decide +kernel
theorem dX8_takes_21 : decode cX8_takes 21 = .ok (.iadd, 1) := by decide +kernel
theorem dX8_takes_22 : decode cX8_takes 22 = .ok (.putfield 160, 3) := by decide +kernel
theorem dX8_takes_25 : decode cX8_takes 25 = .ok (.iload_n 2, 1) := by decide +kernel
theorem dX8_takes_26 : decode cX8_takes 26 = .ok (.ireturn, 1) := by decide +kernel
set_option maxRecDepth 20000 in
theorem ggX8_readsNumber_X8_isHere : GoodIn wsX8_readsNumber wsX8_isHere := goodIn_r _ [8, 2, 9, 1, 10, 11, 7, 12, 13, 14, 15, 16, 17, 18, 19, 20, 21, 22, 23, 24, 25, 26] (by decide +kernel) (by decide +kernel)
set_option maxRecDepth 20000 in
theorem gX8_readsNumber_X8_isHere : GoodIn wsX8_readsNumber (wsV RX8 163 RX8 yX8_isHere wsX8_isHere) := goodIn_app (goodIn_of _ (by decide +kernel)) ggX8_readsNumber_X8_isHere
theorem dX8_readsNumber_0 : decode cX8_readsNumber 0 = .ok (.aload_n 0, 1) := by decide +kernel
theorem dX8_readsNumber_1 : decode cX8_readsNumber 1 = .ok (.bipush 48, 2) := by decide +kernel
theorem dX8_readsNumber_3 : decode cX8_readsNumber 3 = .ok (.bipush 57, 2) := by decide +kernel
theorem dX8_readsNumber_5 : decode cX8_readsNumber 5 = .ok (.invokevirtual 163, 3) := by decide +kernel
theorem dX8_readsNumber_8 : decode cX8_readsNumber 8 = .ok (.ifCond .ne 5, 3) := by decide +kernel
theorem dX8_readsNumber_11 : decode cX8_readsNumber 11 = .ok (.iconst 0, 1) := by decide +kernel
theorem dX8_readsNumber_12 : decode cX8_readsNumber 12 = .ok (.ireturn, 1) := by decide +kernel
theorem dX8_readsNumber_13 : decode cX8_readsNumber 13 = .ok (.aload_n 0, 1) := by decide +kernel
theorem dX8_readsNumber_14 : decode cX8_readsNumber 14 = .ok (.aload_n 0, 1) := by decide +kernel
theorem dX8_readsNumber_15 : decode cX8_readsNumber 15 = .ok (.getfield 25, 3) := by decide +kernel
theorem dX8_readsNumber_18 : decode cX8_readsNumber 18 = .ok (.aload_n 0, 1) := by decide +kernel
theorem dX8_readsNumber_19 : decode cX8_readsNumber 19 = .ok (.getfield 160, 3) := by decide +kernel
theorem dX8_readsNumber_22 : decode cX8_readsNumber 22 = .ok (.iaload, 1) := by decide +kernel
theorem dX8_readsNumber_23 : decode cX8_readsNumber 23 = .ok (.bipush 48, 2) := by decide +kernel
theorem dX8_readsNumber_25 : decode cX8_readsNumber 25 = .ok (.isub, 1) := by decide +kernel
theorem dX8_readsNumber_26 : decode cX8_readsNumber 26 = .ok (.putfield 166, 3) := by decide +kernel
theorem dX8_readsNumber_29 : decode cX8_readsNumber 29 = .ok (.aload_n 0, 1) := by decide +kernel
theorem dX8_readsNumber_30 : decode cX8_readsNumber 30 = .ok (.dup, 1) := by decide +kernel
theorem dX8_readsNumber_31 : decode cX8_readsNumber 31 = .ok (.getfield 160, 3) := by decide +kernel
theorem dX8_readsNumber_34 : decode cX8_readsNumber 34 = .ok (.iconst 1, 1) := by decide +kernel
theorem dX8_readsNumber_35 : decode cX8_readsNumber 35 = .ok (.iadd, 1) := by decide +kernel
theorem dX8_readsNumber_36 : decode cX8_readsNumber 36 = .ok (.putfield 160, 3) := by decide +kernel
theorem dX8_readsNumber_39 : decode cX8_readsNumber 39 = .ok (.aload_n 0, 1) := by decide +kernel
theorem dX8_readsNumber_40 : decode cX8_readsNumber 40 = .ok (.getfield 166, 3) := by decide +kernel
theorem dX8_readsNumber_43 : decode cX8_readsNumber 43 = .ok (.ifCond .le 77, 3) := by decide +kernel
theorem dX8_readsNumber_46 : decode cX8_readsNumber 46 = .ok (.aload_n 0, 1) := by decide +kernel
theorem dX8_readsNumber_47 : decode cX8_readsNumber 47 = .ok (.bipush 48, 2) := by decide +kernel
theorem dX8_readsNumber_49 : decode cX8_readsNumber 49 = .ok (.bipush 57, 2) := by decide +kernel
theorem dX8_readsNumber_51 : decode cX8_readsNumber 51 = .ok (.invokevirtual 163, 3) := by decide +kernel
theorem dX8_readsNumber_54 : decode cX8_readsNumber 54 = .ok (.ifCond .eq 66, 3) := by decide +kernel
theorem dX8_readsNumber_57 : decode cX8_readsNumber 57 = .ok (.bipush 10, 2) := by decide +kernel
theorem dX8_readsNumber_59 : decode cX8_readsNumber 59 = .ok (.aload_n 0, 1) := by decide +kernel
theorem dX8_readsNumber_60 : decode cX8_readsNumber 60 = .ok (.getfield 166, 3) := by decide +kernel
theorem dX8_readsNumber_63 : decode cX8_readsNumber 63 = .ok (.imul, 1) := by decide +kernel
theorem dX8_readsNumber_64 : decode cX8_readsNumber 64 = .ok (.aload_n 0, 1) := by decide +kernel
theorem dX8_readsNumber_65 : decode cX8_readsNumber 65 = .ok (.getfield 25, 3) := by decide +kernel
theorem dX8_readsNumber_68 : decode cX8_readsNumber 68 = .ok (.aload_n 0, 1) := by decide +kernel
theorem dX8_readsNumber_69 : decode cX8_readsNumber 69 = .ok (.getfield 160, 3) := by decide +kernel
theorem dX8_readsNumber_72 : decode cX8_readsNumber 72 = .ok (.iaload, 1) := by decide +kernel
theorem dX8_readsNumber_73 : decode cX8_readsNumber 73 = .ok (.iadd, 1) := by decide +kernel
theorem dX8_readsNumber_74 : decode cX8_readsNumber 74 = .ok (.bipush 48, 2) := by decide +kernel
theorem dX8_readsNumber_76 : decode cX8_readsNumber 76 = .ok (.isub, 1) := by decide +kernel
theorem dX8_readsNumber_77 : decode cX8_readsNumber 77 = .ok (.sipush 9999, 3) := by decide +kernel
theorem dX8_readsNumber_80 : decode cX8_readsNumber 80 = .ok (.if_icmp .gt 40, 3) := by decide +kernel
theorem dX8_readsNumber_83 : decode cX8_readsNumber 83 = .ok (.aload_n 0, 1) := by decide +kernel
theorem dX8_readsNumber_84 : decode cX8_readsNumber 84 = .ok (.bipush 10, 2) := by decide +kernel
theorem dX8_readsNumber_86 : decode cX8_readsNumber 86 = .ok (.aload_n 0, 1) := by decide +kernel
theorem dX8_readsNumber_87 : decode cX8_readsNumber 87 = .ok (.getfield 166, 3) := by decide +kernel
theorem dX8_readsNumber_90 : decode cX8_readsNumber 90 = .ok (.imul, 1) := by decide +kernel
theorem dX8_readsNumber_91 : decode cX8_readsNumber 91 = .ok (.aload_n 0, 1) := by decide +kernel
theorem dX8_readsNumber_92 : decode cX8_readsNumber 92 = .ok (.getfield 25, 3) := by decide +kernel
theorem dX8_readsNumber_95 : decode cX8_readsNumber 95 = .ok (.aload_n 0, 1) := by decide +kernel
theorem dX8_readsNumber_96 : decode cX8_readsNumber 96 = .ok (.getfield 160, 3) := by decide +kernel
theorem dX8_readsNumber_99 : decode cX8_readsNumber 99 = .ok (.iaload, 1) := by decide +kernel
theorem dX8_readsNumber_100 : decode cX8_readsNumber 100 = .ok (.iadd, 1) := by decide +kernel
theorem dX8_readsNumber_101 : decode cX8_readsNumber 101 = .ok (.bipush 48, 2) := by decide +kernel
theorem dX8_readsNumber_103 : decode cX8_readsNumber 103 = .ok (.isub, 1) := by decide +kernel
theorem dX8_readsNumber_104 : decode cX8_readsNumber 104 = .ok (.putfield 166, 3) := by decide +kernel
theorem dX8_readsNumber_107 : decode cX8_readsNumber 107 = .ok (.aload_n 0, 1) := by decide +kernel
theorem dX8_readsNumber_108 : decode cX8_readsNumber 108 = .ok (.dup, 1) := by decide +kernel
theorem dX8_readsNumber_109 : decode cX8_readsNumber 109 = .ok (.getfield 160, 3) := by decide +kernel
theorem dX8_readsNumber_112 : decode cX8_readsNumber 112 = .ok (.iconst 1, 1) := by decide +kernel
theorem dX8_readsNumber_113 : decode cX8_readsNumber 113 = .ok (.iadd, 1) := by decide +kernel
theorem dX8_readsNumber_114 : decode cX8_readsNumber 114 = .ok (.putfield 160, 3) := by decide +kernel
theorem dX8_readsNumber_117 : decode cX8_readsNumber 117 = .ok (.goto (-78), 3) := by decide +kernel
theorem dX8_readsNumber_120 : decode cX8_readsNumber 120 = .ok (.iconst 1, 1) := by decide +kernel
theorem dX8_readsNumber_121 : decode cX8_readsNumber 121 = .ok (.ireturn, 1) := by decide +kernel
set_option maxRecDepth 20000 in
theorem ggX8_readsValue_X8_takes : GoodIn wsX8_readsValue wsX8_takes := goodIn_r _ [6, 7, 8, 9, 10, 5, 11, 12, 13, 14, 15, 16, 21, 22, 23, 24, 25, 26, 27, 28, 29, 30, 31, 32, 33, 34] (by decide +kernel) (by decide +kernel)
set_option maxRecDepth 20000 in
theorem gX8_readsValue_X8_takes : GoodIn wsX8_readsValue (wsV RX8 169 RX8 yX8_takes wsX8_takes) := goodIn_app (goodIn_of _ (by decide +kernel)) ggX8_readsValue_X8_takes
set_option maxRecDepth 20000 in
theorem ggX8_readsValue_X8_readsNumber : GoodIn wsX8_readsValue wsX8_readsNumber := goodIn_r _ [20, 13, 7, 1, 8, 9, 10, 5, 11, 12, 14, 15, 16, 21, 22, 23, 24, 25, 26, 27, 28, 29, 30, 31, 32, 33, 34] (by decide +kernel) (by decide +kernel)
set_option maxRecDepth 20000 in
theorem gX8_readsValue_X8_readsNumber : GoodIn wsX8_readsValue (wsV RX8 172 RX8 yX8_readsNumber wsX8_readsNumber) := goodIn_app (goodIn_of _ (by decide +kernel)) ggX8_readsValue_X8_readsNumber
theorem dX8_readsValue_0 : decode cX8_readsValue 0 = .ok (.aload_n 0, 1) := by decide +kernel
theorem dX8_readsValue_1 : decode cX8_readsValue 1 = .ok (.bipush 45, 2) := by decide +kernel
theorem dX8_readsValue_3 : decode cX8_readsValue 3 = .ok (.invokevirtual 169, 3) := by decide +kernel
theorem dX8_readsValue_6 : decode cX8_readsValue 6 = .ok (.istore_n 1, 1) := by decide +kernel
theorem dX8_readsValue_7 : decode cX8_readsValue 7 = .ok (.aload_n 0, 1) := by decide +kernel
theorem dX8_readsValue_8 : decode cX8_readsValue 8 = .ok (.invokevirtual 172, 3) := by decide +kernel
theorem dX8_readsValue_11 : decode cX8_readsValue 11 = .ok (.istore_n 2, 1) := by decide +kernel
theorem dX8_readsValue_12 : decode cX8_readsValue 12 = .ok (.aload_n 0, 1) := by decide +kernel
theorem dX8_readsValue_13 : decode cX8_readsValue 13 = .ok (.iload_n 1, 1) := by decide +kernel
theorem dX8_readsValue_14 : decode cX8_readsValue 14 = .ok (.ifCond .eq 11, 3) := by decide +kernel
theorem dX8_readsValue_17 : decode cX8_readsValue 17 = .ok (.aload_n 0, 1) := by decide +kernel
theorem dX8_readsValue_18 : decode cX8_readsValue 18 = .ok (.getfield 166, 3) := by decide +kernel
theorem dX8_readsValue_21 : decode cX8_readsValue 21 = .ok (.ineg, 1) := by decide +kernel
theorem dX8_readsValue_22 : decode cX8_readsValue 22 = .ok (.goto 7, 3) := by decide +kernel
theorem dX8_readsValue_25 : decode cX8_readsValue 25 = .ok (.aload_n 0, 1) := by decide +kernel
theorem dX8_readsValue_26 : decode cX8_readsValue 26 = .ok (.getfield 166, 3) := by decide +kernel
theorem dX8_readsValue_29 : decode cX8_readsValue 29 = .ok (.putfield 166, 3) := by decide +kernel
theorem dX8_readsValue_32 : decode cX8_readsValue 32 = .ok (.iload_n 2, 1) := by decide +kernel
theorem dX8_readsValue_33 : decode cX8_readsValue 33 = .ok (.ireturn, 1) := by decide +kernel
theorem dX8_does_0 : decode cX8_does 0 = .ok (.aload_n 0, 1) := by decide +kernel
theorem dX8_does_1 : decode cX8_does 1 = .ok (.iload_n 1, 1) := by decide +kernel
theorem dX8_does_2 : decode cX8_does 2 = .ok (.ifCond .ge 7, 3) := by decide +kernel
theorem dX8_does_5 : decode cX8_does 5 = .ok (.iload_n 1, 1) := by decide +kernel
theorem dX8_does_6 : decode cX8_does 6 = .ok (.goto 4, 3) := by decide +kernel
theorem dX8_does_9 : decode cX8_does 9 = .ok (.iconst 0, 1) := by decide +kernel
theorem dX8_does_10 : decode cX8_does 10 = .ok (.putfield 175, 3) := by decide +kernel
theorem dX8_does_13 : decode cX8_does 13 = .ok (.return_, 1) := by decide +kernel
set_option maxRecDepth 20000 in
theorem ggX8_readsHours_X8_readsValue : GoodIn wsX8_readsHours wsX8_readsValue := goodIn_r _ [7, 1, 8, 9, 10, 6, 11, 12, 13, 14, 15, 16, 17, 18, 19, 20, 21, 22, 23, 24, 25, 77, 78, 79, 80, 81, 82, 83, 84, 85, 86, 87, 88, 89, 90] (by decide +kernel) (by decide +kernel)
set_option maxRecDepth 20000 in
theorem gX8_readsHours_X8_readsValue : GoodIn wsX8_readsHours (wsV RX8 178 RX8 yX8_readsValue wsX8_readsValue) := goodIn_app (goodIn_of _ (by decide +kernel)) ggX8_readsHours_X8_readsValue
set_option maxRecDepth 20000 in
theorem ggX8_readsHours_X8_takes : GoodIn wsX8_readsHours wsX8_takes := goodIn_r _ [11, 12, 13, 14, 15, 6, 16, 17, 18, 19, 20, 21, 77, 78, 79, 80, 81, 82, 83, 84, 85, 86, 87, 88, 89, 90] (by decide +kernel) (by decide +kernel)
set_option maxRecDepth 20000 in
theorem gX8_readsHours_X8_takes : GoodIn wsX8_readsHours (wsV RX8 169 RX8 yX8_takes wsX8_takes) := goodIn_app (goodIn_of _ (by decide +kernel)) ggX8_readsHours_X8_takes
set_option maxRecDepth 20000 in
theorem ggX8_readsHours_X8_readsNumber : GoodIn wsX8_readsHours wsX8_readsNumber := goodIn_r _ [25, 18, 12, 1, 13, 14, 15, 6, 16, 17, 19, 20, 21, 77, 78, 79, 80, 81, 82, 83, 84, 85, 86, 87, 88, 89, 90] (by decide +kernel) (by decide +kernel)
set_option maxRecDepth 20000 in
theorem gX8_readsHours_X8_readsNumber : GoodIn wsX8_readsHours (wsV RX8 172 RX8 yX8_readsNumber wsX8_readsNumber) := goodIn_app (goodIn_of _ (by decide +kernel)) ggX8_readsHours_X8_readsNumber
set_option maxRecDepth 20000 in
theorem ggX8_readsHours_X8_doPass : GoodIn wsX8_readsHours wsX8_doPass := goodIn_r _ [29, 30, 31, 32, 33, 6, 34, 35, 36, 19, 20, 21, 37, 38, 39, 40, 41, 42, 43, 44, 45, 46, 47, 48, 49, 50, 51, 52, 53, 54, 55, 56, 57, 58, 59, 60, 61, 62, 63, 64, 65, 66, 67, 68, 69, 70, 71, 77, 78, 79, 80, 81, 82, 83, 84, 85, 86, 87, 88, 89, 90] (by decide +kernel) (by decide +kernel)
set_option maxRecDepth 20000 in
theorem gX8_readsHours_X8_doPass : GoodIn wsX8_readsHours (wsV RX8 111 RX8 yX8_doPass wsX8_doPass) := goodIn_app (goodIn_of _ (by decide +kernel)) ggX8_readsHours_X8_doPass
set_option maxRecDepth 20000 in
theorem ggX8_readsHours_X8_does : GoodIn wsX8_readsHours wsX8_does := goodIn_r _ [75, 76, 77, 78, 79, 80, 81, 82, 83, 84, 85, 86, 87, 88, 89, 90] (by decide +kernel) (by decide +kernel)
set_option maxRecDepth 20000 in
theorem gX8_readsHours_X8_does : GoodIn wsX8_readsHours (wsV RX8 185 RX8 yX8_does wsX8_does) := goodIn_app (goodIn_of _ (by decide +kernel)) ggX8_readsHours_X8_does
theorem dX8_readsHours_0 : decode cX8_readsHours 0 = .ok (.aload_n 0, 1) := by decide +kernel
theorem dX8_readsHours_1 : decode cX8_readsHours 1 = .ok (.invokevirtual 178, 3) := by decide +kernel
theorem dX8_readsHours_4 : decode cX8_readsHours 4 = .ok (.ifCond .ne 5, 3) := by decide +kernel
theorem dX8_readsHours_7 : decode cX8_readsHours 7 = .ok (.iconst 0, 1) := by decide +kernel
theorem dX8_readsHours_8 : decode cX8_readsHours 8 = .ok (.ireturn, 1) := by decide +kernel
theorem dX8_readsHours_9 : decode cX8_readsHours 9 = .ok (.aload_n 0, 1) := by decide +kernel
theorem dX8_readsHours_10 : decode cX8_readsHours 10 = .ok (.getfield 166, 3) := by decide +kernel
theorem dX8_readsHours_13 : decode cX8_readsHours 13 = .ok (.istore_n 1, 1) := by decide +kernel
theorem dX8_readsHours_14 : decode cX8_readsHours 14 = .ok (.aload_n 0, 1) := by decide +kernel
theorem dX8_readsHours_15 : decode cX8_readsHours 15 = .ok (.bipush 44, 2) := by decide +kernel
theorem dX8_readsHours_17 : decode cX8_readsHours 17 = .ok (.invokevirtual 169, 3) := by decide +kernel
theorem dX8_readsHours_20 : decode cX8_readsHours 20 = .ok (.ifCond .eq 10, 3) := by decide +kernel
theorem dX8_readsHours_23 : decode cX8_readsHours 23 = .ok (.aload_n 0, 1) := by decide +kernel
theorem dX8_readsHours_24 : decode cX8_readsHours 24 = .ok (.invokevirtual 172, 3) := by decide +kernel
theorem dX8_readsHours_27 : decode cX8_readsHours 27 = .ok (.ifCond .ne 5, 3) := by decide +kernel
theorem dX8_readsHours_30 : decode cX8_readsHours 30 = .ok (.iconst 0, 1) := by decide +kernel
theorem dX8_readsHours_31 : decode cX8_readsHours 31 = .ok (.ireturn, 1) := by decide +kernel
theorem dX8_readsHours_32 : decode cX8_readsHours 32 = .ok (.aload_n 0, 1) := by decide +kernel
theorem dX8_readsHours_33 : decode cX8_readsHours 33 = .ok (.getfield 166, 3) := by decide +kernel
theorem dX8_readsHours_36 : decode cX8_readsHours 36 = .ok (.istore_n 2, 1) := by decide +kernel
theorem dX8_readsHours_37 : decode cX8_readsHours 37 = .ok (.aload_n 0, 1) := by decide +kernel
theorem dX8_readsHours_38 : decode cX8_readsHours 38 = .ok (.bipush 114, 2) := by decide +kernel
theorem dX8_readsHours_40 : decode cX8_readsHours 40 = .ok (.invokevirtual 169, 3) := by decide +kernel
theorem dX8_readsHours_43 : decode cX8_readsHours 43 = .ok (.ifCond .eq 7, 3) := by decide +kernel
theorem dX8_readsHours_46 : decode cX8_readsHours 46 = .ok (.iconst 1, 1) := by decide +kernel
theorem dX8_readsHours_47 : decode cX8_readsHours 47 = .ok (.goto 4, 3) := by decide +kernel
theorem dX8_readsHours_50 : decode cX8_readsHours 50 = .ok (.iconst 0, 1) := by decide +kernel
theorem dX8_readsHours_51 : decode cX8_readsHours 51 = .ok (.istore_n 3, 1) := by decide +kernel
theorem dX8_readsHours_52 : decode cX8_readsHours 52 = .ok (.aload_n 0, 1) := by decide +kernel
theorem dX8_readsHours_53 : decode cX8_readsHours 53 = .ok (.iconst 1, 1) := by decide +kernel
theorem dX8_readsHours_54 : decode cX8_readsHours 54 = .ok (.putfield 166, 3) := by decide +kernel
theorem dX8_readsHours_57 : decode cX8_readsHours 57 = .ok (.aload_n 0, 1) := by decide +kernel
theorem dX8_readsHours_58 : decode cX8_readsHours 58 = .ok (.bipush 42, 2) := by decide +kernel
theorem dX8_readsHours_60 : decode cX8_readsHours 60 = .ok (.invokevirtual 169, 3) := by decide +kernel
theorem dX8_readsHours_63 : decode cX8_readsHours 63 = .ok (.ifCond .eq 12, 3) := by decide +kernel
theorem dX8_readsHours_66 : decode cX8_readsHours 66 = .ok (.aload_n 0, 1) := by decide +kernel
theorem dX8_readsHours_67 : decode cX8_readsHours 67 = .ok (.invokevirtual 172, 3) := by decide +kernel
theorem dX8_readsHours_70 : decode cX8_readsHours 70 = .ok (.ifCond .ne 5, 3) := by decide +kernel
theorem dX8_readsHours_73 : decode cX8_readsHours 73 = .ok (.iconst 0, 1) := by decide +kernel
theorem dX8_readsHours_74 : decode cX8_readsHours 74 = .ok (.ireturn, 1) := by decide +kernel
theorem dX8_readsHours_75 : decode cX8_readsHours 75 = .ok (.aload_n 0, 1) := by decide +kernel
theorem dX8_readsHours_76 : decode cX8_readsHours 76 = .ok (.getfield 181, 3) := by decide +kernel
theorem dX8_readsHours_79 : decode cX8_readsHours 79 = .ok (.ifCond .eq 18, 3) := by decide +kernel
theorem dX8_readsHours_82 : decode cX8_readsHours 82 = .ok (.aload_n 0, 1) := by decide +kernel
theorem dX8_readsHours_83 : decode cX8_readsHours 83 = .ok (.aload_n 0, 1) := by decide +kernel
theorem dX8_readsHours_84 : decode cX8_readsHours 84 = .ok (.iload_n 1, 1) := by decide +kernel
theorem dX8_readsHours_85 : decode cX8_readsHours 85 = .ok (.iload_n 2, 1) := by decide +kernel
theorem dX8_readsHours_86 : decode cX8_readsHours 86 = .ok (.iload_n 3, 1) := by decide +kernel
theorem dX8_readsHours_87 : decode cX8_readsHours 87 = .ok (.aload_n 0, 1) := by decide +kernel
theorem dX8_readsHours_88 : decode cX8_readsHours 88 = .ok (.getfield 166, 3) := by decide +kernel
theorem dX8_readsHours_91 : decode cX8_readsHours 91 = .ok (.invokevirtual 111, 3) := by decide +kernel
theorem dX8_readsHours_94 : decode cX8_readsHours 94 = .ok (.invokevirtual 185, 3) := by decide +kernel
theorem dX8_readsHours_97 : decode cX8_readsHours 97 = .ok (.iconst 1, 1) := by decide +kernel
theorem dX8_readsHours_98 : decode cX8_readsHours 98 = .ok (.ireturn, 1) := by decide +kernel
set_option maxRecDepth 20000 in
theorem ggX8_readsOrder_X8_takes : GoodIn wsX8_readsOrder wsX8_takes := goodIn_r _ [9, 3, 10, 11, 12, 8, 13, 14, 2, 15, 16, 17, 101, 102, 103, 104, 105, 106, 107, 108, 109, 110, 111, 112, 113, 114] (by decide +kernel) (by decide +kernel)
set_option maxRecDepth 20000 in
theorem gX8_readsOrder_X8_takes : GoodIn wsX8_readsOrder (wsV RX8 169 RX8 yX8_takes wsX8_takes) := goodIn_app (goodIn_of _ (by decide +kernel)) ggX8_readsOrder_X8_takes
set_option maxRecDepth 20000 in
theorem ggX8_readsOrder_X8_doZero : GoodIn wsX8_readsOrder wsX8_doZero := goodIn_r _ [21, 22, 23, 101, 102, 103, 104, 105, 106, 107, 108, 109, 110, 111, 112, 113, 114] (by decide +kernel) (by decide +kernel)
set_option maxRecDepth 20000 in
theorem gX8_readsOrder_X8_doZero : GoodIn wsX8_readsOrder (wsV RX8 115 RX8 yX8_doZero wsX8_doZero) := goodIn_app (goodIn_of _ (by decide +kernel)) ggX8_readsOrder_X8_doZero
set_option maxRecDepth 20000 in
theorem ggX8_readsOrder_X8_does : GoodIn wsX8_readsOrder wsX8_does := goodIn_r _ [27, 28, 101, 102, 103, 104, 105, 106, 107, 108, 109, 110, 111, 112, 113, 114] (by decide +kernel) (by decide +kernel)
set_option maxRecDepth 20000 in
theorem gX8_readsOrder_X8_does : GoodIn wsX8_readsOrder (wsV RX8 185 RX8 yX8_does wsX8_does) := goodIn_app (goodIn_of _ (by decide +kernel)) ggX8_readsOrder_X8_does
set_option maxRecDepth 20000 in
theorem ggX8_readsOrder_X8_isHere : GoodIn wsX8_readsOrder wsX8_isHere := goodIn_r _ [13, 3, 14, 2, 15, 16, 8, 17, 101, 102, 103, 104, 105, 106, 107, 108, 109, 110, 111, 112, 113, 114] (by decide +kernel) (by decide +kernel)
set_option maxRecDepth 20000 in
theorem gX8_readsOrder_X8_isHere : GoodIn wsX8_readsOrder (wsV RX8 163 RX8 yX8_isHere wsX8_isHere) := goodIn_app (goodIn_of _ (by decide +kernel)) ggX8_readsOrder_X8_isHere
set_option maxRecDepth 20000 in
theorem ggX8_readsOrder_X8_doWeight : GoodIn wsX8_readsOrder wsX8_doWeight := goodIn_r _ [32, 33, 22, 15, 16, 8, 17, 101, 102, 103, 104, 105, 106, 107, 108, 109, 110, 111, 112, 113, 114] (by decide +kernel) (by decide +kernel)
set_option maxRecDepth 20000 in
theorem gX8_readsOrder_X8_doWeight : GoodIn wsX8_readsOrder (wsV RX8 108 RX8 yX8_doWeight wsX8_doWeight) := goodIn_app (goodIn_of _ (by decide +kernel)) ggX8_readsOrder_X8_doWeight
set_option maxRecDepth 20000 in
theorem ggX8_readsOrder_X8_readsValue : GoodIn wsX8_readsOrder wsX8_readsValue := goodIn_r _ [37, 4, 5, 6, 7, 8, 9, 3, 10, 11, 12, 13, 14, 2, 15, 16, 17, 38, 39, 40, 41, 101, 102, 103, 104, 105, 106, 107, 108, 109, 110, 111, 112, 113, 114] (by decide +kernel) (by decide +kernel)
set_option maxRecDepth 20000 in
theorem gX8_readsOrder_X8_readsValue : GoodIn wsX8_readsOrder (wsV RX8 178 RX8 yX8_readsValue wsX8_readsValue) := goodIn_app (goodIn_of _ (by decide +kernel)) ggX8_readsOrder_X8_readsValue
set_option maxRecDepth 20000 in
theorem ggX8_readsOrder_X8_doSet : GoodIn wsX8_readsOrder wsX8_doSet := goodIn_r _ [45, 22, 46, 47, 8, 48, 49, 50, 51, 52, 15, 16, 17, 101, 102, 103, 104, 105, 106, 107, 108, 109, 110, 111, 112, 113, 114] (by decide +kernel) (by decide +kernel)
set_option maxRecDepth 20000 in
theorem gX8_readsOrder_X8_doSet : GoodIn wsX8_readsOrder (wsV RX8 102 RX8 yX8_doSet wsX8_doSet) := goodIn_app (goodIn_of _ (by decide +kernel)) ggX8_readsOrder_X8_doSet
set_option maxRecDepth 20000 in
theorem ggX8_readsOrder_X8_readsHours : GoodIn wsX8_readsOrder wsX8_readsHours := goodIn_r _ [56, 4, 1, 34, 35, 36, 8, 37, 5, 6, 7, 9, 3, 10, 11, 12, 13, 14, 2, 15, 16, 17, 38, 39, 40, 41, 57, 58, 59, 60, 49, 22, 61, 62, 63, 64, 65, 66, 67, 68, 69, 70, 71, 72, 73, 74, 75, 76, 77, 78, 79, 80, 81, 82, 83, 84, 85, 86, 87, 88, 89, 90, 91, 92, 93, 94, 95, 96, 97, 98, 99, 100, 24, 25, 26, 27, 28, 101, 102, 103, 104, 105, 106, 107, 108, 109, 110, 111, 112, 113, 114] (by decide +kernel) (by decide +kernel)
set_option maxRecDepth 20000 in
theorem gX8_readsOrder_X8_readsHours : GoodIn wsX8_readsOrder (wsV RX8 188 RX8 yX8_readsHours wsX8_readsHours) := goodIn_app (goodIn_of _ (by decide +kernel)) ggX8_readsOrder_X8_readsHours
theorem dX8_readsOrder_0 : decode cX8_readsOrder 0 = .ok (.aload_n 0, 1) := by decide +kernel
theorem dX8_readsOrder_1 : decode cX8_readsOrder 1 = .ok (.bipush 122, 2) := by decide +kernel
theorem dX8_readsOrder_3 : decode cX8_readsOrder 3 = .ok (.invokevirtual 169, 3) := by decide +kernel
theorem dX8_readsOrder_6 : decode cX8_readsOrder 6 = .ok (.ifCond .eq 20, 3) := by decide +kernel
theorem dX8_readsOrder_9 : decode cX8_readsOrder 9 = .ok (.aload_n 0, 1) := by decide +kernel
theorem dX8_readsOrder_10 : decode cX8_readsOrder 10 = .ok (.getfield 181, 3) := by decide +kernel
theorem dX8_readsOrder_13 : decode cX8_readsOrder 13 = .ok (.ifCond .eq 11, 3) := by decide +kernel
theorem dX8_readsOrder_16 : decode cX8_readsOrder 16 = .ok (.aload_n 0, 1) := by decide +kernel
theorem dX8_readsOrder_17 : decode cX8_readsOrder 17 = .ok (.aload_n 0, 1) := by decide +kernel
theorem dX8_readsOrder_18 : decode cX8_readsOrder 18 = .ok (.invokevirtual 115, 3) := by decide +kernel
theorem dX8_readsOrder_21 : decode cX8_readsOrder 21 = .ok (.invokevirtual 185, 3) := by decide +kernel
theorem dX8_readsOrder_24 : decode cX8_readsOrder 24 = .ok (.iconst 1, 1) := by decide +kernel
theorem dX8_readsOrder_25 : decode cX8_readsOrder 25 = .ok (.ireturn, 1) := by decide +kernel
theorem dX8_readsOrder_26 : decode cX8_readsOrder 26 = .ok (.aload_n 0, 1) := by decide +kernel
theorem dX8_readsOrder_27 : decode cX8_readsOrder 27 = .ok (.bipush 119, 2) := by decide +kernel
theorem dX8_readsOrder_29 : decode cX8_readsOrder 29 = .ok (.invokevirtual 169, 3) := by decide +kernel
theorem dX8_readsOrder_32 : decode cX8_readsOrder 32 = .ok (.ifCond .eq 55, 3) := by decide +kernel
theorem dX8_readsOrder_35 : decode cX8_readsOrder 35 = .ok (.aload_n 0, 1) := by decide +kernel
theorem dX8_readsOrder_36 : decode cX8_readsOrder 36 = .ok (.bipush 48, 2) := by decide +kernel
theorem dX8_readsOrder_38 : decode cX8_readsOrder 38 = .ok (.bipush 55, 2) := by decide +kernel
theorem dX8_readsOrder_40 : decode cX8_readsOrder 40 = .ok (.invokevirtual 163, 3) := by decide +kernel
theorem dX8_readsOrder_43 : decode cX8_readsOrder 43 = .ok (.ifCond .ne 5, 3) := by decide +kernel
theorem dX8_readsOrder_46 : decode cX8_readsOrder 46 = .ok (.iconst 0, 1) := by decide +kernel
theorem dX8_readsOrder_47 : decode cX8_readsOrder 47 = .ok (.ireturn, 1) := by decide +kernel
theorem dX8_readsOrder_48 : decode cX8_readsOrder 48 = .ok (.aload_n 0, 1) := by decide +kernel
theorem dX8_readsOrder_49 : decode cX8_readsOrder 49 = .ok (.getfield 181, 3) := by decide +kernel
theorem dX8_readsOrder_52 : decode cX8_readsOrder 52 = .ok (.ifCond .eq 23, 3) := by decide +kernel
theorem dX8_readsOrder_55 : decode cX8_readsOrder 55 = .ok (.aload_n 0, 1) := by decide +kernel
theorem dX8_readsOrder_56 : decode cX8_readsOrder 56 = .ok (.aload_n 0, 1) := by decide +kernel
theorem dX8_readsOrder_57 : decode cX8_readsOrder 57 = .ok (.aload_n 0, 1) := by decide +kernel
theorem dX8_readsOrder_58 : decode cX8_readsOrder 58 = .ok (.getfield 25, 3) := by decide +kernel
theorem dX8_readsOrder_61 : decode cX8_readsOrder 61 = .ok (.aload_n 0, 1) := by decide +kernel
theorem dX8_readsOrder_62 : decode cX8_readsOrder 62 = .ok (.getfield 160, 3) := by decide +kernel
theorem dX8_readsOrder_65 : decode cX8_readsOrder 65 = .ok (.iaload, 1) := by decide +kernel
theorem dX8_readsOrder_66 : decode cX8_readsOrder 66 = .ok (.bipush 48, 2) := by decide +kernel
theorem dX8_readsOrder_68 : decode cX8_readsOrder 68 = .ok (.isub, 1) := by decide +kernel
theorem dX8_readsOrder_69 : decode cX8_readsOrder 69 = .ok (.invokevirtual 108, 3) := by decide +kernel
theorem dX8_readsOrder_72 : decode cX8_readsOrder 72 = .ok (.invokevirtual 185, 3) := by decide +kernel
theorem dX8_readsOrder_75 : decode cX8_readsOrder 75 = .ok (.aload_n 0, 1) := by decide +kernel
theorem dX8_readsOrder_76 : decode cX8_readsOrder 76 = .ok (.dup, 1) := by decide +kernel
theorem dX8_readsOrder_77 : decode cX8_readsOrder 77 = .ok (.getfield 160, 3) := by decide +kernel
theorem dX8_readsOrder_80 : decode cX8_readsOrder 80 = .ok (.iconst 1, 1) := by decide +kernel
theorem dX8_readsOrder_81 : decode cX8_readsOrder 81 = .ok (.iadd, 1) := by decide +kernel
theorem dX8_readsOrder_82 : decode cX8_readsOrder 82 = .ok (.putfield 160, 3) := by decide +kernel
theorem dX8_readsOrder_85 : decode cX8_readsOrder 85 = .ok (.iconst 1, 1) := by decide +kernel
theorem dX8_readsOrder_86 : decode cX8_readsOrder 86 = .ok (.ireturn, 1) := by decide +kernel
theorem dX8_readsOrder_87 : decode cX8_readsOrder 87 = .ok (.aload_n 0, 1) := by decide +kernel
theorem dX8_readsOrder_88 : decode cX8_readsOrder 88 = .ok (.bipush 98, 2) := by decide +kernel
theorem dX8_readsOrder_90 : decode cX8_readsOrder 90 = .ok (.invokevirtual 169, 3) := by decide +kernel
theorem dX8_readsOrder_93 : decode cX8_readsOrder 93 = .ok (.ifCond .eq 34, 3) := by decide +kernel
theorem dX8_readsOrder_96 : decode cX8_readsOrder 96 = .ok (.aload_n 0, 1) := by decide +kernel
theorem dX8_readsOrder_97 : decode cX8_readsOrder 97 = .ok (.invokevirtual 178, 3) := by decide +kernel
theorem dX8_readsOrder_100 : decode cX8_readsOrder 100 = .ok (.ifCond .ne 5, 3) := by decide +kernel
theorem dX8_readsOrder_103 : decode cX8_readsOrder 103 = .ok (.iconst 0, 1) := by decide +kernel
theorem dX8_readsOrder_104 : decode cX8_readsOrder 104 = .ok (.ireturn, 1) := by decide +kernel
theorem dX8_readsOrder_105 : decode cX8_readsOrder 105 = .ok (.aload_n 0, 1) := by decide +kernel
theorem dX8_readsOrder_106 : decode cX8_readsOrder 106 = .ok (.getfield 181, 3) := by decide +kernel
theorem dX8_readsOrder_109 : decode cX8_readsOrder 109 = .ok (.ifCond .eq 16, 3) := by decide +kernel
theorem dX8_readsOrder_112 : decode cX8_readsOrder 112 = .ok (.aload_n 0, 1) := by decide +kernel
theorem dX8_readsOrder_113 : decode cX8_readsOrder 113 = .ok (.aload_n 0, 1) := by decide +kernel
theorem dX8_readsOrder_114 : decode cX8_readsOrder 114 = .ok (.iconst 2, 1) := by decide +kernel
theorem dX8_readsOrder_115 : decode cX8_readsOrder 115 = .ok (.aload_n 0, 1) := by decide +kernel
theorem dX8_readsOrder_116 : decode cX8_readsOrder 116 = .ok (.getfield 166, 3) := by decide +kernel
theorem dX8_readsOrder_119 : decode cX8_readsOrder 119 = .ok (.invokevirtual 102, 3) := by decide +kernel
theorem dX8_readsOrder_122 : decode cX8_readsOrder 122 = .ok (.invokevirtual 185, 3) := by decide +kernel
theorem dX8_readsOrder_125 : decode cX8_readsOrder 125 = .ok (.iconst 1, 1) := by decide +kernel
theorem dX8_readsOrder_126 : decode cX8_readsOrder 126 = .ok (.ireturn, 1) := by decide +kernel
theorem dX8_readsOrder_127 : decode cX8_readsOrder 127 = .ok (.aload_n 0, 1) := by decide +kernel
theorem dX8_readsOrder_128 : decode cX8_readsOrder 128 = .ok (.bipush 104, 2) := by decide +kernel
theorem dX8_readsOrder_130 : decode cX8_readsOrder 130 = .ok (.invokevirtual 169, 3) := by decide +kernel
theorem dX8_readsOrder_133 : decode cX8_readsOrder 133 = .ok (.ifCond .eq 14, 3) := by decide +kernel
theorem dX8_readsOrder_136 : decode cX8_readsOrder 136 = .ok (.aload_n 0, 1) := by decide +kernel
theorem dX8_readsOrder_137 : decode cX8_readsOrder 137 = .ok (.invokevirtual 188, 3) := by decide +kernel
theorem dX8_readsOrder_140 : decode cX8_readsOrder 140 = .ok (.ifCond .eq 7, 3) := by decide +kernel
theorem dX8_readsOrder_143 : decode cX8_readsOrder 143 = .ok (.iconst 1, 1) := by decide +kernel
theorem dX8_readsOrder_144 : decode cX8_readsOrder 144 = .ok (.goto 4, 3) := by decide +kernel
theorem dX8_readsOrder_147 : decode cX8_readsOrder 147 = .ok (.iconst 0, 1) := by decide +kernel
theorem dX8_readsOrder_148 : decode cX8_readsOrder 148 = .ok (.ireturn, 1) := by decide +kernel
set_option maxRecDepth 20000 in
theorem ggX8_fault_X8_readsOrder : GoodIn wsX8_fault wsX8_readsOrder := goodIn_r _ [8, 2, 9, 1, 10, 11, 12, 13, 7, 14, 15, 16, 17, 18, 3, 19, 20, 21, 22, 23, 24, 25, 26, 27, 28, 29, 30, 31, 32, 33, 34, 35, 36, 37, 38, 39, 40, 41, 42, 43, 44, 45, 46, 47, 48, 49, 50, 51, 52, 53, 54, 55, 56, 57, 58, 59, 60, 61, 62, 63, 64, 65, 66, 67, 68, 69, 70, 71, 72, 73, 74, 75, 76, 77, 78, 79, 80, 81, 82, 83, 84, 85, 86, 87, 88, 89, 90, 91, 92, 93, 94, 95, 96, 97, 98, 99, 100, 101, 102, 103, 104, 105, 106, 107, 108, 109, 110, 111, 112, 113, 114, 115, 116, 117, 118] (by decide +kernel) (by decide +kernel)
set_option maxRecDepth 20000 in
theorem gX8_fault_X8_readsOrder : GoodIn wsX8_fault (wsV RX8 191 RX8 yX8_readsOrder wsX8_readsOrder) := goodIn_app (goodIn_of _ (by decide +kernel)) ggX8_fault_X8_readsOrder
set_option maxRecDepth 20000 in
theorem ggX8_fault_X8_takes : GoodIn wsX8_fault wsX8_takes := goodIn_r _ [14, 1, 15, 16, 17, 7, 18, 3, 9, 19, 20, 21, 105, 106, 107, 108, 109, 110, 111, 112, 113, 114, 115, 116, 117, 118] (by decide +kernel) (by decide +kernel)
set_option maxRecDepth 20000 in
theorem gX8_fault_X8_takes : GoodIn wsX8_fault (wsV RX8 169 RX8 yX8_takes wsX8_takes) := goodIn_app (goodIn_of _ (by decide +kernel)) ggX8_fault_X8_takes
theorem dX8_fault_0 : decode cX8_fault 0 = .ok (.aload_n 0, 1) := by decide +kernel
theorem dX8_fault_1 : decode cX8_fault 1 = .ok (.iconst 0, 1) := by decide +kernel
theorem dX8_fault_2 : decode cX8_fault 2 = .ok (.putfield 160, 3) := by decide +kernel
theorem dX8_fault_5 : decode cX8_fault 5 = .ok (.aload_n 0, 1) := by decide +kernel
theorem dX8_fault_6 : decode cX8_fault 6 = .ok (.iconst 0, 1) := by decide +kernel
theorem dX8_fault_7 : decode cX8_fault 7 = .ok (.putfield 181, 3) := by decide +kernel
theorem dX8_fault_10 : decode cX8_fault 10 = .ok (.iconst 1, 1) := by decide +kernel
theorem dX8_fault_11 : decode cX8_fault 11 = .ok (.istore_n 1, 1) := by decide +kernel
theorem dX8_fault_12 : decode cX8_fault 12 = .ok (.iload_n 1, 1) := by decide +kernel
theorem dX8_fault_13 : decode cX8_fault 13 = .ok (.ifCond .eq 25, 3) := by decide +kernel
theorem dX8_fault_16 : decode cX8_fault 16 = .ok (.aload_n 0, 1) := by decide +kernel
theorem dX8_fault_17 : decode cX8_fault 17 = .ok (.invokevirtual 191, 3) := by decide +kernel
theorem dX8_fault_20 : decode cX8_fault 20 = .ok (.ifCond .ne 8, 3) := by decide +kernel
theorem dX8_fault_23 : decode cX8_fault 23 = .ok (.aload_n 0, 1) := by decide +kernel
theorem dX8_fault_24 : decode cX8_fault 24 = .ok (.getfield 160, 3) := by decide +kernel
theorem dX8_fault_27 : decode cX8_fault 27 = .ok (.ireturn, 1) := by decide +kernel
theorem dX8_fault_28 : decode cX8_fault 28 = .ok (.aload_n 0, 1) := by decide +kernel
theorem dX8_fault_29 : decode cX8_fault 29 = .ok (.bipush 59, 2) := by decide +kernel
theorem dX8_fault_31 : decode cX8_fault 31 = .ok (.invokevirtual 169, 3) := by decide +kernel
theorem dX8_fault_34 : decode cX8_fault 34 = .ok (.istore_n 1, 1) := by decide +kernel
theorem dX8_fault_35 : decode cX8_fault 35 = .ok (.goto (-23), 3) := by decide +kernel
theorem dX8_fault_38 : decode cX8_fault 38 = .ok (.aload_n 0, 1) := by decide +kernel
theorem dX8_fault_39 : decode cX8_fault 39 = .ok (.getfield 160, 3) := by decide +kernel
theorem dX8_fault_42 : decode cX8_fault 42 = .ok (.aload_n 0, 1) := by decide +kernel
theorem dX8_fault_43 : decode cX8_fault 43 = .ok (.getfield 125, 3) := by decide +kernel
theorem dX8_fault_46 : decode cX8_fault 46 = .ok (.if_icmp .ne 8, 3) := by decide +kernel
theorem dX8_fault_49 : decode cX8_fault 49 = .ok (.bipush (-6), 2) := by decide +kernel
theorem dX8_fault_51 : decode cX8_fault 51 = .ok (.goto 7, 3) := by decide +kernel
theorem dX8_fault_54 : decode cX8_fault 54 = .ok (.aload_n 0, 1) := by decide +kernel
theorem dX8_fault_55 : decode cX8_fault 55 = .ok (.getfield 160, 3) := by decide +kernel
theorem dX8_fault_58 : decode cX8_fault 58 = .ok (.ireturn, 1) := by decide +kernel
set_option maxRecDepth 20000 in
theorem ggX8_carryOut_X8_fault : GoodIn wsX8_carryOut wsX8_fault := goodIn_r _ [9, 1, 2, 4, 10, 11, 12, 8, 13, 14, 15, 16, 17, 18, 19, 20, 21, 22, 23, 24, 25, 26, 27, 28, 29, 30, 31, 32, 33, 34, 35, 36, 3, 37, 38, 39, 40, 41, 42, 43, 44, 45, 46, 47, 48, 49, 50, 51, 52, 53, 54, 55, 56, 57, 58, 59, 60, 61, 62, 63, 64, 65, 66, 67, 68, 69, 70, 71, 72, 73, 74, 75, 76, 77, 78, 79, 80, 81, 82, 83, 84, 85, 86, 87, 88, 89, 90, 91, 92, 93, 94, 95, 96, 97, 98, 99, 100, 101, 102, 103, 104, 105, 106, 107, 108, 120, 121, 122, 123, 124, 125, 126, 127, 128, 129, 130, 131, 132, 133] (by decide +kernel) (by decide +kernel)
set_option maxRecDepth 20000 in
theorem gX8_carryOut_X8_fault : GoodIn wsX8_carryOut (wsV RX8 194 RX8 yX8_fault wsX8_fault) := goodIn_app (goodIn_of _ (by decide +kernel)) ggX8_carryOut_X8_fault
set_option maxRecDepth 20000 in
theorem ggX8_carryOut_X8_keep : GoodIn wsX8_carryOut wsX8_keep := goodIn_r _ [112, 113, 31, 120, 121, 122, 123, 124, 125, 126, 127, 128, 129, 130, 131, 132, 133] (by decide +kernel) (by decide +kernel)
set_option maxRecDepth 20000 in
theorem gX8_carryOut_X8_keep : GoodIn wsX8_carryOut (wsV RX8 99 RX8 yX8_keep wsX8_keep) := goodIn_app (goodIn_of _ (by decide +kernel)) ggX8_carryOut_X8_keep
set_option maxRecDepth 20000 in
theorem ggX8_carryOut_X8_readsOrder : GoodIn wsX8_carryOut wsX8_readsOrder := goodIn_r _ [13, 2, 14, 1, 15, 16, 17, 18, 8, 19, 20, 21, 22, 23, 4, 24, 25, 26, 27, 28, 29, 30, 31, 32, 33, 34, 35, 36, 3, 37, 38, 39, 40, 41, 42, 43, 44, 45, 46, 47, 48, 49, 50, 51, 52, 53, 54, 55, 56, 57, 58, 59, 60, 61, 62, 63, 64, 65, 66, 67, 68, 69, 70, 71, 72, 73, 74, 75, 76, 77, 78, 79, 80, 81, 82, 83, 84, 85, 86, 87, 88, 89, 90, 91, 92, 93, 94, 95, 96, 97, 98, 99, 100, 101, 102, 103, 104, 105, 106, 107, 108, 120, 121, 122, 123, 124, 125, 126, 127, 128, 129, 130, 131, 132, 133] (by decide +kernel) (by decide +kernel)
set_option maxRecDepth 20000 in
theorem gX8_carryOut_X8_readsOrder : GoodIn wsX8_carryOut (wsV RX8 191 RX8 yX8_readsOrder wsX8_readsOrder) := goodIn_app (goodIn_of _ (by decide +kernel)) ggX8_carryOut_X8_readsOrder
set_option maxRecDepth 20000 in
theorem ggX8_carryOut_X8_takes : GoodIn wsX8_carryOut wsX8_takes := goodIn_r _ [19, 1, 20, 21, 22, 8, 23, 4, 14, 24, 25, 26, 120, 121, 122, 123, 124, 125, 126, 127, 128, 129, 130, 131, 132, 133] (by decide +kernel) (by decide +kernel)
set_option maxRecDepth 20000 in
theorem gX8_carryOut_X8_takes : GoodIn wsX8_carryOut (wsV RX8 169 RX8 yX8_takes wsX8_takes) := goodIn_app (goodIn_of _ (by decide +kernel)) ggX8_carryOut_X8_takes
set_option maxRecDepth 20000 in
theorem ggX8_carryOut_X8_changed : GoodIn wsX8_carryOut wsX8_changed := goodIn_r _ [117, 118, 119, 113, 120, 121, 122, 123, 124, 125, 126, 127, 128, 129, 130, 131, 132, 133] (by decide +kernel) (by decide +kernel)
set_option maxRecDepth 20000 in
theorem gX8_carryOut_X8_changed : GoodIn wsX8_carryOut (wsV RX8 105 RX8 yX8_changed wsX8_changed) := goodIn_app (goodIn_of _ (by decide +kernel)) ggX8_carryOut_X8_changed
theorem dX8_carryOut_0 : decode cX8_carryOut 0 = .ok (.aload_n 0, 1) := by decide +kernel
theorem dX8_carryOut_1 : decode cX8_carryOut 1 = .ok (.invokevirtual 194, 3) := by decide +kernel
theorem dX8_carryOut_4 : decode cX8_carryOut 4 = .ok (.bipush (-6), 2) := by decide +kernel
theorem dX8_carryOut_6 : decode cX8_carryOut 6 = .ok (.if_icmp .eq 6, 3) := by decide +kernel
theorem dX8_carryOut_9 : decode cX8_carryOut 9 = .ok (.bipush (-3), 2) := by decide +kernel
theorem dX8_carryOut_11 : decode cX8_carryOut 11 = .ok (.ireturn, 1) := by decide +kernel
theorem dX8_carryOut_12 : decode cX8_carryOut 12 = .ok (.aload_n 0, 1) := by decide +kernel
theorem dX8_carryOut_13 : decode cX8_carryOut 13 = .ok (.invokevirtual 99, 3) := by decide +kernel
theorem dX8_carryOut_16 : decode cX8_carryOut 16 = .ok (.aload_n 0, 1) := by decide +kernel
theorem dX8_carryOut_17 : decode cX8_carryOut 17 = .ok (.iconst 0, 1) := by decide +kernel
theorem dX8_carryOut_18 : decode cX8_carryOut 18 = .ok (.putfield 160, 3) := by decide +kernel
theorem dX8_carryOut_21 : decode cX8_carryOut 21 = .ok (.aload_n 0, 1) := by decide +kernel
theorem dX8_carryOut_22 : decode cX8_carryOut 22 = .ok (.iconst 1, 1) := by decide +kernel
theorem dX8_carryOut_23 : decode cX8_carryOut 23 = .ok (.putfield 181, 3) := by decide +kernel
theorem dX8_carryOut_26 : decode cX8_carryOut 26 = .ok (.aload_n 0, 1) := by decide +kernel
theorem dX8_carryOut_27 : decode cX8_carryOut 27 = .ok (.iconst 0, 1) := by decide +kernel
theorem dX8_carryOut_28 : decode cX8_carryOut 28 = .ok (.putfield 175, 3) := by decide +kernel
theorem dX8_carryOut_31 : decode cX8_carryOut 31 = .ok (.iconst 0, 1) := by decide +kernel
theorem dX8_carryOut_32 : decode cX8_carryOut 32 = .ok (.istore_n 1, 1) := by decide +kernel
theorem dX8_carryOut_33 : decode cX8_carryOut 33 = .ok (.iconst 1, 1) := by decide +kernel
theorem dX8_carryOut_34 : decode cX8_carryOut 34 = .ok (.istore_n 2, 1) := by decide +kernel
theorem dX8_carryOut_35 : decode cX8_carryOut 35 = .ok (.iload_n 2, 1) := by decide +kernel
theorem dX8_carryOut_36 : decode cX8_carryOut 36 = .ok (.ifCond .eq 48, 3) := by decide +kernel
theorem dX8_carryOut_39 : decode cX8_carryOut 39 = .ok (.aload_n 0, 1) := by decide +kernel
theorem dX8_carryOut_40 : decode cX8_carryOut 40 = .ok (.invokevirtual 191, 3) := by decide +kernel
theorem dX8_carryOut_43 : decode cX8_carryOut 43 = .ok (.istore_n 3, 1) := by decide +kernel
theorem dX8_carryOut_44 : decode cX8_carryOut 44 = .ok (.iload_n 1, 1) := by decide +kernel
theorem dX8_carryOut_45 : decode cX8_carryOut 45 = .ok (.aload_n 0, 1) := by decide +kernel
theorem dX8_carryOut_46 : decode cX8_carryOut 46 = .ok (.getfield 175, 3) := by decide +kernel
theorem dX8_carryOut_49 : decode cX8_carryOut 49 = .ok (.ifCond .ne 7, 3) := by decide +kernel
theorem dX8_carryOut_52 : decode cX8_carryOut 52 = .ok (.iconst 1, 1) := by decide +kernel
theorem dX8_carryOut_53 : decode cX8_carryOut 53 = .ok (.goto 4, 3) := by decide +kernel
theorem dX8_carryOut_56 : decode cX8_carryOut 56 = .ok (.iconst 0, 1) := by decide +kernel
theorem dX8_carryOut_57 : decode cX8_carryOut 57 = .ok (.iadd, 1) := by decide +kernel
theorem dX8_carryOut_58 : decode cX8_carryOut 58 = .ok (.istore_n 1, 1) := by decide +kernel
theorem dX8_carryOut_59 : decode cX8_carryOut 59 = .ok (.aload_n 0, 1) := by decide +kernel
theorem dX8_carryOut_60 : decode cX8_carryOut 60 = .ok (.getfield 175, 3) := by decide +kernel
theorem dX8_carryOut_63 : decode cX8_carryOut 63 = .ok (.ifCond .ne 16, 3) := by decide +kernel
theorem dX8_carryOut_66 : decode cX8_carryOut 66 = .ok (.aload_n 0, 1) := by decide +kernel
theorem dX8_carryOut_67 : decode cX8_carryOut 67 = .ok (.bipush 59, 2) := by decide +kernel
theorem dX8_carryOut_69 : decode cX8_carryOut 69 = .ok (.invokevirtual 169, 3) := by decide +kernel
theorem dX8_carryOut_72 : decode cX8_carryOut 72 = .ok (.ifCond .eq 7, 3) := by decide +kernel
theorem dX8_carryOut_75 : decode cX8_carryOut 75 = .ok (.iconst 1, 1) := by decide +kernel
theorem dX8_carryOut_76 : decode cX8_carryOut 76 = .ok (.goto 4, 3) := by decide +kernel
theorem dX8_carryOut_79 : decode cX8_carryOut 79 = .ok (.iconst 0, 1) := by decide +kernel
theorem dX8_carryOut_80 : decode cX8_carryOut 80 = .ok (.istore_n 2, 1) := by decide +kernel
theorem dX8_carryOut_81 : decode cX8_carryOut 81 = .ok (.goto (-46), 3) := by decide +kernel
theorem dX8_carryOut_84 : decode cX8_carryOut 84 = .ok (.aload_n 0, 1) := by decide +kernel
theorem dX8_carryOut_85 : decode cX8_carryOut 85 = .ok (.iconst 0, 1) := by decide +kernel
theorem dX8_carryOut_86 : decode cX8_carryOut 86 = .ok (.putfield 125, 3) := by decide +kernel
theorem dX8_carryOut_89 : decode cX8_carryOut 89 = .ok (.aload_n 0, 1) := by decide +kernel
theorem dX8_carryOut_90 : decode cX8_carryOut 90 = .ok (.iload_n 1, 1) := by decide +kernel
theorem dX8_carryOut_91 : decode cX8_carryOut 91 = .ok (.invokevirtual 105, 3) := by decide +kernel
theorem dX8_carryOut_94 : decode cX8_carryOut 94 = .ok (.ireturn, 1) := by decide +kernel
theorem dX8_undo_0 : decode cX8_undo 0 = .ok (.aload_n 0, 1) := by decide +kernel
theorem dX8_undo_1 : decode cX8_undo 1 = .ok (.getfield 28, 3) := by decide +kernel
theorem dX8_undo_4 : decode cX8_undo 4 = .ok (.ifCond .ne 6, 3) := by decide +kernel
theorem dX8_undo_7 : decode cX8_undo 7 = .ok (.bipush (-5), 2) := by decide +kernel
theorem dX8_undo_9 : decode cX8_undo 9 = .ok (.ireturn, 1) := by decide +kernel
theorem dX8_undo_10 : decode cX8_undo 10 = .ok (.aload_n 0, 1) := by decide +kernel
theorem dX8_undo_11 : decode cX8_undo 11 = .ok (.dup, 1) := by decide +kernel
theorem dX8_undo_12 : decode cX8_undo 12 = .ok (.getfield 28, 3) := by decide +kernel
theorem dX8_undo_15 : decode cX8_undo 15 = .ok (.iconst 1, 1) := by decide +kernel
theorem dX8_undo_16 : decode cX8_undo 16 = .ok (.isub, 1) := by decide +kernel
theorem dX8_undo_17 : decode cX8_undo 17 = .ok (.putfield 28, 3) := by decide +kernel
theorem dX8_undo_20 : decode cX8_undo 20 = .ok (.iconst 0, 1) := by decide +kernel
theorem dX8_undo_21 : decode cX8_undo 21 = .ok (.istore_n 1, 1) := by decide +kernel
theorem dX8_undo_22 : decode cX8_undo 22 = .ok (.iload_n 1, 1) := by decide +kernel
theorem dX8_undo_23 : decode cX8_undo 23 = .ok (.sipush 347, 3) := by decide +kernel
theorem dX8_undo_26 : decode cX8_undo 26 = .ok (.if_icmp .ge 30, 3) := by decide +kernel
theorem dX8_undo_29 : decode cX8_undo 29 = .ok (.aload_n 0, 1) := by decide +kernel
theorem dX8_undo_30 : decode cX8_undo 30 = .ok (.getfield 7, 3) := by decide +kernel
theorem dX8_undo_33 : decode cX8_undo 33 = .ok (.iload_n 1, 1) := by decide +kernel
theorem dX8_undo_34 : decode cX8_undo 34 = .ok (.aload_n 0, 1) := by decide +kernel
theorem dX8_undo_35 : decode cX8_undo 35 = .ok (.getfield 16, 3) := by decide +kernel
theorem dX8_undo_38 : decode cX8_undo 38 = .ok (.sipush 347, 3) := by decide +kernel
theorem dX8_undo_41 : decode cX8_undo 41 = .ok (.aload_n 0, 1) := by decide +kernel
theorem dX8_undo_42 : decode cX8_undo 42 = .ok (.getfield 28, 3) := by decide +kernel
theorem dX8_undo_45 : decode cX8_undo 45 = .ok (.imul, 1) := by decide +kernel
theorem dX8_undo_46 : decode cX8_undo 46 = .ok (.iload_n 1, 1) := by decide +kernel
theorem dX8_undo_47 : decode cX8_undo 47 = .ok (.iadd, 1) := by decide +kernel
theorem dX8_undo_48 : decode cX8_undo 48 = .ok (.iaload, 1) := by decide +kernel
theorem dX8_undo_49 : decode cX8_undo 49 = .ok (.iastore, 1) := by decide +kernel
theorem dX8_undo_50 : decode cX8_undo 50 = .ok (.iinc 1 1, 3) := by decide +kernel
theorem dX8_undo_53 : decode cX8_undo 53 = .ok (.goto (-31), 3) := by decide +kernel
theorem dX8_undo_56 : decode cX8_undo 56 = .ok (.aload_n 0, 1) := by decide +kernel
theorem dX8_undo_57 : decode cX8_undo 57 = .ok (.getfield 28, 3) := by decide +kernel
theorem dX8_undo_60 : decode cX8_undo 60 = .ok (.ireturn, 1) := by decide +kernel
set_option maxRecDepth 20000 in
theorem ggX8_save_X8_in : GoodIn wsX8_save wsX8_in := goodIn_r _ [7] (by decide +kernel) (by decide +kernel)
set_option maxRecDepth 20000 in
theorem gX8_save_X8_in : GoodIn wsX8_save (va_wsS RX8 36 yX8_in wsX8_in) := goodIn_app (goodIn_of _ (by decide +kernel)) ggX8_save_X8_in
theorem dX8_save_0 : decode cX8_save 0 = .ok (.iload_n 1, 1) := by decide +kernel
theorem dX8_save_1 : decode cX8_save 1 = .ok (.i2l, 1) := by decide +kernel
theorem dX8_save_2 : decode cX8_save 2 = .ok (.lconst 0, 1) := by decide +kernel
theorem dX8_save_3 : decode cX8_save 3 = .ok (.lconst 1, 1) := by decide +kernel
theorem dX8_save_4 : decode cX8_save 4 = .ok (.invokestatic 36, 3) := by decide +kernel
theorem dX8_save_7 : decode cX8_save 7 = .ok (.ifCond .ne 6, 3) := by decide +kernel
theorem dX8_save_10 : decode cX8_save 10 = .ok (.bipush (-2), 2) := by decide +kernel
theorem dX8_save_12 : decode cX8_save 12 = .ok (.ireturn, 1) := by decide +kernel
theorem dX8_save_13 : decode cX8_save 13 = .ok (.iconst 0, 1) := by decide +kernel
theorem dX8_save_14 : decode cX8_save 14 = .ok (.istore_n 2, 1) := by decide +kernel
theorem dX8_save_15 : decode cX8_save 15 = .ok (.iload_n 2, 1) := by decide +kernel
theorem dX8_save_16 : decode cX8_save 16 = .ok (.sipush 347, 3) := by decide +kernel
theorem dX8_save_19 : decode cX8_save 19 = .ok (.if_icmp .ge 27, 3) := by decide +kernel
theorem dX8_save_22 : decode cX8_save 22 = .ok (.aload_n 0, 1) := by decide +kernel
theorem dX8_save_23 : decode cX8_save 23 = .ok (.getfield 19, 3) := by decide +kernel
theorem dX8_save_26 : decode cX8_save 26 = .ok (.sipush 347, 3) := by decide +kernel
theorem dX8_save_29 : decode cX8_save 29 = .ok (.iload_n 1, 1) := by decide +kernel
theorem dX8_save_30 : decode cX8_save 30 = .ok (.imul, 1) := by decide +kernel
theorem dX8_save_31 : decode cX8_save 31 = .ok (.iload_n 2, 1) := by decide +kernel
theorem dX8_save_32 : decode cX8_save 32 = .ok (.iadd, 1) := by decide +kernel
theorem dX8_save_33 : decode cX8_save 33 = .ok (.aload_n 0, 1) := by decide +kernel
theorem dX8_save_34 : decode cX8_save 34 = .ok (.getfield 7, 3) := by decide +kernel
theorem dX8_save_37 : decode cX8_save 37 = .ok (.iload_n 2, 1) := by decide +kernel
theorem dX8_save_38 : decode cX8_save 38 = .ok (.iaload, 1) := by decide +kernel
theorem dX8_save_39 : decode cX8_save 39 = .ok (.iastore, 1) := by decide +kernel
theorem dX8_save_40 : decode cX8_save 40 = .ok (.iinc 2 1, 3) := by decide +kernel
theorem dX8_save_43 : decode cX8_save 43 = .ok (.goto (-28), 3) := by decide +kernel
theorem dX8_save_46 : decode cX8_save 46 = .ok (.aload_n 0, 1) := by decide +kernel
theorem dX8_save_47 : decode cX8_save 47 = .ok (.getfield 22, 3) := by decide +kernel
theorem dX8_save_50 : decode cX8_save 50 = .ok (.iload_n 1, 1) := by decide +kernel
theorem dX8_save_51 : decode cX8_save 51 = .ok (.iconst 1, 1) := by decide +kernel
theorem dX8_save_52 : decode cX8_save 52 = .ok (.iastore, 1) := by decide +kernel
theorem dX8_save_53 : decode cX8_save 53 = .ok (.aload_n 0, 1) := by decide +kernel
theorem dX8_save_54 : decode cX8_save 54 = .ok (.getfield 7, 3) := by decide +kernel
theorem dX8_save_57 : decode cX8_save 57 = .ok (.bipush 7, 2) := by decide +kernel
theorem dX8_save_59 : decode cX8_save 59 = .ok (.iaload, 1) := by decide +kernel
theorem dX8_save_60 : decode cX8_save 60 = .ok (.ireturn, 1) := by decide +kernel
set_option maxRecDepth 20000 in
theorem ggX8_restore_X8_in : GoodIn wsX8_restore wsX8_in := goodIn_r _ [7] (by decide +kernel) (by decide +kernel)
set_option maxRecDepth 20000 in
theorem gX8_restore_X8_in : GoodIn wsX8_restore (va_wsS RX8 36 yX8_in wsX8_in) := goodIn_app (goodIn_of _ (by decide +kernel)) ggX8_restore_X8_in
set_option maxRecDepth 20000 in
theorem ggX8_restore_X8_keep : GoodIn wsX8_restore wsX8_keep := goodIn_r _ [11, 12, 2, 19, 20, 21, 22, 23, 24, 25, 26, 27, 28, 29, 30, 31, 32] (by decide +kernel) (by decide +kernel)
set_option maxRecDepth 20000 in
theorem gX8_restore_X8_keep : GoodIn wsX8_restore (wsV RX8 99 RX8 yX8_keep wsX8_keep) := goodIn_app (goodIn_of _ (by decide +kernel)) ggX8_restore_X8_keep
set_option maxRecDepth 20000 in
theorem ggX8_restore_X8_changed : GoodIn wsX8_restore wsX8_changed := goodIn_r _ [16, 17, 18, 12, 19, 20, 21, 22, 23, 24, 25, 26, 27, 28, 29, 30, 31, 32] (by decide +kernel) (by decide +kernel)
set_option maxRecDepth 20000 in
theorem gX8_restore_X8_changed : GoodIn wsX8_restore (wsV RX8 105 RX8 yX8_changed wsX8_changed) := goodIn_app (goodIn_of _ (by decide +kernel)) ggX8_restore_X8_changed
theorem dX8_restore_0 : decode cX8_restore 0 = .ok (.iload_n 1, 1) := by decide +kernel
theorem dX8_restore_1 : decode cX8_restore 1 = .ok (.i2l, 1) := by decide +kernel
theorem dX8_restore_2 : decode cX8_restore 2 = .ok (.lconst 0, 1) := by decide +kernel
theorem dX8_restore_3 : decode cX8_restore 3 = .ok (.lconst 1, 1) := by decide +kernel
theorem dX8_restore_4 : decode cX8_restore 4 = .ok (.invokestatic 36, 3) := by decide +kernel
theorem dX8_restore_7 : decode cX8_restore 7 = .ok (.ifCond .ne 6, 3) := by decide +kernel
theorem dX8_restore_10 : decode cX8_restore 10 = .ok (.bipush (-2), 2) := by decide +kernel
theorem dX8_restore_12 : decode cX8_restore 12 = .ok (.ireturn, 1) := by decide +kernel
theorem dX8_restore_13 : decode cX8_restore 13 = .ok (.aload_n 0, 1) := by decide +kernel
theorem dX8_restore_14 : decode cX8_restore 14 = .ok (.getfield 22, 3) := by decide +kernel
theorem dX8_restore_17 : decode cX8_restore 17 = .ok (.iload_n 1, 1) := by decide +kernel
theorem dX8_restore_18 : decode cX8_restore 18 = .ok (.iaload, 1) := by decide +kernel
theorem dX8_restore_19 : decode cX8_restore 19 = .ok (.ifCond .ne 6, 3) := by decide +kernel
theorem dX8_restore_22 : decode cX8_restore 22 = .ok (.bipush (-5), 2) := by decide +kernel
theorem dX8_restore_24 : decode cX8_restore 24 = .ok (.ireturn, 1) := by decide +kernel
theorem dX8_restore_25 : decode cX8_restore 25 = .ok (.aload_n 0, 1) := by decide +kernel
theorem dX8_restore_26 : decode cX8_restore 26 = .ok (.invokevirtual 99, 3) := by decide +kernel
theorem dX8_restore_29 : decode cX8_restore 29 = .ok (.iconst 0, 1) := by decide +kernel
theorem dX8_restore_30 : decode cX8_restore 30 = .ok (.istore_n 2, 1) := by decide +kernel
theorem dX8_restore_31 : decode cX8_restore 31 = .ok (.iload_n 2, 1) := by decide +kernel
theorem dX8_restore_32 : decode cX8_restore 32 = .ok (.sipush 347, 3) := by decide +kernel
theorem dX8_restore_35 : decode cX8_restore 35 = .ok (.if_icmp .ge 27, 3) := by decide +kernel
theorem dX8_restore_38 : decode cX8_restore 38 = .ok (.aload_n 0, 1) := by decide +kernel
theorem dX8_restore_39 : decode cX8_restore 39 = .ok (.getfield 7, 3) := by decide +kernel
theorem dX8_restore_42 : decode cX8_restore 42 = .ok (.iload_n 2, 1) := by decide +kernel
theorem dX8_restore_43 : decode cX8_restore 43 = .ok (.aload_n 0, 1) := by decide +kernel
theorem dX8_restore_44 : decode cX8_restore 44 = .ok (.getfield 19, 3) := by decide +kernel
theorem dX8_restore_47 : decode cX8_restore 47 = .ok (.sipush 347, 3) := by decide +kernel
theorem dX8_restore_50 : decode cX8_restore 50 = .ok (.iload_n 1, 1) := by decide +kernel
theorem dX8_restore_51 : decode cX8_restore 51 = .ok (.imul, 1) := by decide +kernel
theorem dX8_restore_52 : decode cX8_restore 52 = .ok (.iload_n 2, 1) := by decide +kernel
theorem dX8_restore_53 : decode cX8_restore 53 = .ok (.iadd, 1) := by decide +kernel
theorem dX8_restore_54 : decode cX8_restore 54 = .ok (.iaload, 1) := by decide +kernel
theorem dX8_restore_55 : decode cX8_restore 55 = .ok (.iastore, 1) := by decide +kernel
theorem dX8_restore_56 : decode cX8_restore 56 = .ok (.iinc 2 1, 3) := by decide +kernel
theorem dX8_restore_59 : decode cX8_restore 59 = .ok (.goto (-28), 3) := by decide +kernel
theorem dX8_restore_62 : decode cX8_restore 62 = .ok (.aload_n 0, 1) := by decide +kernel
theorem dX8_restore_63 : decode cX8_restore 63 = .ok (.aload_n 0, 1) := by decide +kernel
theorem dX8_restore_64 : decode cX8_restore 64 = .ok (.getfield 7, 3) := by decide +kernel
theorem dX8_restore_67 : decode cX8_restore 67 = .ok (.bipush 7, 2) := by decide +kernel
theorem dX8_restore_69 : decode cX8_restore 69 = .ok (.iaload, 1) := by decide +kernel
theorem dX8_restore_70 : decode cX8_restore 70 = .ok (.invokevirtual 105, 3) := by decide +kernel
theorem dX8_restore_73 : decode cX8_restore 73 = .ok (.ireturn, 1) := by decide +kernel
theorem dJxe99ae_isNaN_b9ae7_0 : decode cJxe99ae_isNaN_b9ae7 0 = .ok (.dload_n 0, 1) := by decide +kernel
theorem dJxe99ae_isNaN_b9ae7_1 : decode cJxe99ae_isNaN_b9ae7 1 = .ok (.dload_n 0, 1) := by decide +kernel
theorem dJxe99ae_isNaN_b9ae7_2 : decode cJxe99ae_isNaN_b9ae7 2 = .ok (.dcmp .l, 1) := by decide +kernel
theorem dJxe99ae_isNaN_b9ae7_3 : decode cJxe99ae_isNaN_b9ae7 3 = .ok (.ifCond .eq 7, 3) := by decide +kernel
theorem dJxe99ae_isNaN_b9ae7_6 : decode cJxe99ae_isNaN_b9ae7 6 = .ok (.iconst 1, 1) := by decide +kernel
theorem dJxe99ae_isNaN_b9ae7_7 : decode cJxe99ae_isNaN_b9ae7 7 = .ok (.goto 4, 3) := by decide +kernel
theorem dJxe99ae_isNaN_b9ae7_10 : decode cJxe99ae_isNaN_b9ae7 10 = .ok (.iconst 0, 1) := by decide +kernel
theorem dJxe99ae_isNaN_b9ae7_11 : decode cJxe99ae_isNaN_b9ae7 11 = .ok (.ireturn, 1) := by decide +kernel
set_option maxRecDepth 20000 in
theorem ggJxe99ae_doubleToLongBits_ccdee_Jxe99ae_isNaN_b9ae7 : GoodIn wsJxe99ae_doubleToLongBits_ccdee wsJxe99ae_isNaN_b9ae7 := goodIn_r _ [9] (by decide +kernel) (by decide +kernel)
set_option maxRecDepth 20000 in
theorem gJxe99ae_doubleToLongBits_ccdee_Jxe99ae_isNaN_b9ae7 : GoodIn wsJxe99ae_doubleToLongBits_ccdee (va_wsS RJxe99ae 122 yJxe99ae_isNaN_b9ae7 wsJxe99ae_isNaN_b9ae7) := goodIn_app (goodIn_of _ (by decide +kernel)) ggJxe99ae_doubleToLongBits_ccdee_Jxe99ae_isNaN_b9ae7
theorem dJxe99ae_doubleToLongBits_ccdee_0 : decode cJxe99ae_doubleToLongBits_ccdee 0 = .ok (.dload_n 0, 1) := by decide +kernel
theorem dJxe99ae_doubleToLongBits_ccdee_1 : decode cJxe99ae_doubleToLongBits_ccdee 1 = .ok (.invokestatic 122, 3) := by decide +kernel
theorem dJxe99ae_doubleToLongBits_ccdee_4 : decode cJxe99ae_doubleToLongBits_ccdee 4 = .ok (.ifCond .ne 8, 3) := by decide +kernel
theorem dJxe99ae_doubleToLongBits_ccdee_7 : decode cJxe99ae_doubleToLongBits_ccdee 7 = .ok (.dload_n 0, 1) := by decide +kernel
theorem dJxe99ae_doubleToLongBits_ccdee_8 : decode cJxe99ae_doubleToLongBits_ccdee 8 = .ok (.invokestatic 134, 3) := by decide +kernel
theorem dJxe99ae_doubleToLongBits_ccdee_11 : decode cJxe99ae_doubleToLongBits_ccdee 11 = .ok (.lreturn, 1) := by decide +kernel
theorem dJxe99ae_doubleToLongBits_ccdee_12 : decode cJxe99ae_doubleToLongBits_ccdee 12 = .ok (.ldc2_w 137, 3) := by decide +kernel
theorem dJxe99ae_doubleToLongBits_ccdee_15 : decode cJxe99ae_doubleToLongBits_ccdee 15 = .ok (.lreturn, 1) := by decide +kernel
theorem dJ9_abs_0f7a4_0 : decode cJ9_abs_0f7a4 0 = .ok (.iload_n 0, 1) := by decide +kernel
theorem dJ9_abs_0f7a4_1 : decode cJ9_abs_0f7a4 1 = .ok (.ifCond .ge 8, 3) := by decide +kernel
theorem dJ9_abs_0f7a4_4 : decode cJ9_abs_0f7a4 4 = .ok (.iload_n 0, 1) := by decide +kernel
theorem dJ9_abs_0f7a4_5 : decode cJ9_abs_0f7a4 5 = .ok (.ineg, 1) := by decide +kernel
theorem dJ9_abs_0f7a4_6 : decode cJ9_abs_0f7a4 6 = .ok (.goto 4, 3) := by decide +kernel
theorem dJ9_abs_0f7a4_9 : decode cJ9_abs_0f7a4 9 = .ok (.iload_n 0, 1) := by decide +kernel
theorem dJ9_abs_0f7a4_10 : decode cJ9_abs_0f7a4 10 = .ok (.ireturn, 1) := by decide +kernel
theorem dJ9_max_7cf53_0 : decode cJ9_max_7cf53 0 = .ok (.iload_n 0, 1) := by decide +kernel
theorem dJ9_max_7cf53_1 : decode cJ9_max_7cf53 1 = .ok (.iload_n 1, 1) := by decide +kernel
theorem dJ9_max_7cf53_2 : decode cJ9_max_7cf53 2 = .ok (.if_icmp .lt 7, 3) := by decide +kernel
theorem dJ9_max_7cf53_5 : decode cJ9_max_7cf53 5 = .ok (.iload_n 0, 1) := by decide +kernel
theorem dJ9_max_7cf53_6 : decode cJ9_max_7cf53 6 = .ok (.goto 4, 3) := by decide +kernel
theorem dJ9_max_7cf53_9 : decode cJ9_max_7cf53 9 = .ok (.iload_n 1, 1) := by decide +kernel
theorem dJ9_max_7cf53_10 : decode cJ9_max_7cf53 10 = .ok (.ireturn, 1) := by decide +kernel
theorem dJ9_min_7cf53_0 : decode cJ9_min_7cf53 0 = .ok (.iload_n 0, 1) := by decide +kernel
theorem dJ9_min_7cf53_1 : decode cJ9_min_7cf53 1 = .ok (.iload_n 1, 1) := by decide +kernel
theorem dJ9_min_7cf53_2 : decode cJ9_min_7cf53 2 = .ok (.if_icmp .gt 7, 3) := by decide +kernel
theorem dJ9_min_7cf53_5 : decode cJ9_min_7cf53 5 = .ok (.iload_n 0, 1) := by decide +kernel
theorem dJ9_min_7cf53_6 : decode cJ9_min_7cf53 6 = .ok (.goto 4, 3) := by decide +kernel
theorem dJ9_min_7cf53_9 : decode cJ9_min_7cf53 9 = .ok (.iload_n 1, 1) := by decide +kernel
theorem dJ9_min_7cf53_10 : decode cJ9_min_7cf53 10 = .ok (.ireturn, 1) := by decide +kernel
set_option maxRecDepth 20000 in
theorem ggL_law_X7_init : GoodIn wsL_law wsX7_init := goodIn_r _ [9, 10, 11, 12, 13, 14, 15, 16, 17, 18, 19, 20, 21, 22, 23, 24, 25, 26, 27, 28, 29, 30, 31, 32, 33, 34, 35, 36, 37, 38, 39, 40, 41, 42, 43, 44, 45, 46, 47, 48, 49, 50, 51, 52, 53, 54, 55, 56, 57, 58, 59, 60, 61, 62, 63, 64, 65, 66, 67, 68, 69, 70, 71, 72, 73, 74, 655, 656, 657, 658, 659, 660, 661, 635, 636, 637, 638, 639, 640, 662, 663, 664, 665, 666, 667, 668, 669, 670, 671, 672, 673, 674, 675, 676, 677, 678, 679] (by decide +kernel) (by decide +kernel)
set_option maxRecDepth 20000 in
theorem gL_law_X7_init : GoodIn wsL_law (wsX7_init) := ggL_law_X7_init
set_option maxRecDepth 20000 in
theorem ggL_law_X8_init : GoodIn wsL_law wsX8_init := goodIn_r _ [77, 78, 11, 12, 37, 79, 80, 81, 82, 83, 84, 641, 642, 643, 644, 645, 646, 647, 648, 649, 650, 651, 652, 653, 654] (by decide +kernel) (by decide +kernel)
set_option maxRecDepth 20000 in
theorem gL_law_X8_init : GoodIn wsL_law (wsX8_init) := ggL_law_X8_init
set_option maxRecDepth 20000 in
theorem ggL_law_X7_set : GoodIn wsL_law wsX7_set := goodIn_r _ [88, 16, 20, 89, 90, 91, 15, 92, 93, 94, 95, 19, 96, 57, 97, 98, 99, 100, 101, 102, 103, 104, 105, 38, 106, 107, 108, 109, 40, 44, 110, 111, 112, 113, 114, 115, 116, 32, 117, 118, 119, 120, 121, 122, 43, 123, 51, 124, 125, 126, 127, 128, 129, 130, 131, 132, 133, 635, 636, 637, 638, 639, 640, 662, 663, 655, 656, 657, 658, 659, 660, 661, 674, 675, 676, 677] (by decide +kernel) (by decide +kernel)
set_option maxRecDepth 20000 in
theorem gL_law_X7_set : GoodIn wsL_law (wsV RL 13 RX7 yX7_set wsX7_set) := goodIn_app (goodIn_of _ (by decide +kernel)) ggL_law_X7_set
set_option maxRecDepth 20000 in
theorem ggL_law_X8_set : GoodIn wsL_law wsX8_set := goodIn_r _ [137, 138, 139, 140, 5, 141, 80, 79, 142, 143, 144, 145, 146, 147, 148, 149, 150, 151, 152, 153, 154, 155, 156, 157, 158, 159, 160, 81, 641, 642, 643, 644, 645, 646, 647, 648, 649, 650, 651, 652, 653, 654] (by decide +kernel) (by decide +kernel)
set_option maxRecDepth 20000 in
theorem gL_law_X8_set : GoodIn wsL_law (wsV RL 17 RX8 yX8_set wsX8_set) := goodIn_app (goodIn_of _ (by decide +kernel)) ggL_law_X8_set
set_option maxRecDepth 20000 in
theorem ggL_law_X7_weight : GoodIn wsL_law wsX7_weight := goodIn_r _ [164, 16, 20, 165, 166, 167, 15, 168, 93, 94, 95, 19, 96, 57, 97, 98, 99, 100, 101, 102, 103, 104, 105, 38, 106, 107, 108, 109, 40, 44, 110, 111, 112, 113, 114, 115, 116, 32, 117, 118, 119, 120, 121, 122, 43, 123, 51, 124, 125, 169, 170, 171, 172, 635, 636, 637, 638, 639, 640, 662, 663, 655, 656, 657, 658, 659, 660, 661, 674, 675, 676, 677] (by decide +kernel) (by decide +kernel)
set_option maxRecDepth 20000 in
theorem gL_law_X7_weight : GoodIn wsL_law (wsV RL 18 RX7 yX7_weight wsX7_weight) := goodIn_app (goodIn_of _ (by decide +kernel)) ggL_law_X7_weight
set_option maxRecDepth 20000 in
theorem ggL_law_X8_weight : GoodIn wsL_law wsX8_weight := goodIn_r _ [176, 138, 139, 140, 5, 141, 80, 79, 177, 178, 179, 180, 181, 153, 154, 155, 156, 157, 158, 159, 160, 81, 641, 642, 643, 644, 645, 646, 647, 648, 649, 650, 651, 652, 653, 654] (by decide +kernel) (by decide +kernel)
set_option maxRecDepth 20000 in
theorem gL_law_X8_weight : GoodIn wsL_law (wsV RL 22 RX8 yX8_weight wsX8_weight) := goodIn_app (goodIn_of _ (by decide +kernel)) ggL_law_X8_weight
set_option maxRecDepth 20000 in
theorem ggL_law_X7_pass : GoodIn wsL_law wsX7_pass := goodIn_r _ [185, 16, 20, 186, 187, 188, 15, 189, 111, 190, 2, 191, 192, 193, 93, 94, 95, 19, 96, 57, 97, 98, 99, 100, 101, 102, 103, 104, 105, 38, 106, 107, 108, 109, 40, 44, 110, 112, 113, 114, 115, 116, 32, 117, 118, 119, 120, 121, 122, 43, 123, 51, 124, 125, 194, 195, 196, 197, 198, 199, 200, 201, 202, 203, 204, 205, 206, 207, 208, 209, 210, 130, 131, 132, 133, 211, 212, 213, 214, 215, 216, 217, 218, 219, 220, 221, 222, 223, 224, 225, 226, 227, 228, 229, 230, 231, 232, 233, 234, 235, 236, 237, 238, 635, 636, 637, 638, 639, 640, 655, 656, 657, 658, 659, 660, 661, 662, 663, 674, 675, 676, 677] (by decide +kernel) (by decide +kernel)
set_option maxRecDepth 20000 in
theorem gL_law_X7_pass : GoodIn wsL_law (wsV RL 23 RX7 yX7_pass wsX7_pass) := goodIn_app (goodIn_of _ (by decide +kernel)) ggL_law_X7_pass
set_option maxRecDepth 20000 in
theorem ggL_law_X8_pass : GoodIn wsL_law wsX8_pass := goodIn_r _ [242, 138, 139, 140, 5, 141, 80, 79, 243, 244, 245, 246, 149, 247, 248, 249, 250, 251, 153, 154, 155, 252, 253, 254, 255, 256, 257, 258, 259, 260, 261, 262, 263, 264, 265, 266, 267, 268, 269, 270, 271, 272, 273, 274, 275, 276, 277, 278, 279, 280, 281, 282, 283, 284, 285, 286, 156, 157, 158, 159, 160, 81, 641, 642, 643, 644, 645, 646, 647, 648, 649, 650, 651, 652, 653, 654] (by decide +kernel) (by decide +kernel)
set_option maxRecDepth 20000 in
theorem gL_law_X8_pass : GoodIn wsL_law (wsV RL 27 RX8 yX8_pass wsX8_pass) := goodIn_app (goodIn_of _ (by decide +kernel)) ggL_law_X8_pass
set_option maxRecDepth 20000 in
theorem ggL_law_X7_zero : GoodIn wsL_law wsX7_zero := goodIn_r _ [290, 20, 16, 291, 292, 93, 94, 95, 19, 96, 57, 97, 98, 99, 100, 101, 102, 103, 104, 15, 105, 38, 106, 107, 108, 109, 40, 44, 110, 111, 112, 113, 114, 115, 116, 32, 117, 118, 119, 120, 121, 122, 43, 123, 51, 124, 125, 293, 236, 237, 238, 635, 636, 637, 638, 639, 640, 655, 656, 657, 658, 659, 660, 661, 674, 675, 662, 663, 676, 677] (by decide +kernel) (by decide +kernel)
set_option maxRecDepth 20000 in
theorem gL_law_X7_zero : GoodIn wsL_law (wsV RL 28 RX7 yX7_zero wsX7_zero) := goodIn_app (goodIn_of _ (by decide +kernel)) ggL_law_X7_zero
set_option maxRecDepth 20000 in
theorem ggL_law_X8_zero : GoodIn wsL_law wsX8_zero := goodIn_r _ [297, 138, 139, 140, 5, 141, 80, 79, 298, 299, 300, 301, 302, 156, 157, 158, 159, 160, 81, 641, 642, 643, 644, 645, 646, 647, 648, 649, 650, 651, 652, 653, 654] (by decide +kernel) (by decide +kernel)
set_option maxRecDepth 20000 in
theorem gL_law_X8_zero : GoodIn wsL_law (wsV RL 32 RX8 yX8_zero wsX8_zero) := goodIn_app (goodIn_of _ (by decide +kernel)) ggL_law_X8_zero
set_option maxRecDepth 20000 in
theorem ggL_law_X7_hour : GoodIn wsL_law wsX7_hour := goodIn_r _ [306, 16, 307, 308, 309, 310, 43, 311, 125, 312, 99, 100, 101, 313, 314, 315, 316, 51, 227, 228, 229, 230, 635, 636, 637, 638, 639, 640, 655, 656, 657, 658, 659, 660, 661, 676, 677] (by decide +kernel) (by decide +kernel)
set_option maxRecDepth 20000 in
theorem gL_law_X7_hour : GoodIn wsL_law (wsV RL 33 RX7 yX7_hour wsX7_hour) := goodIn_app (goodIn_of _ (by decide +kernel)) ggL_law_X7_hour
set_option maxRecDepth 20000 in
theorem ggL_law_X8_hour : GoodIn wsL_law wsX8_hour := goodIn_r _ [320, 79, 321, 322, 302, 153, 154, 5, 155, 323, 324, 325, 326, 641, 642, 643, 644, 645, 646, 647, 648, 649, 650, 651, 652, 653, 654] (by decide +kernel) (by decide +kernel)
set_option maxRecDepth 20000 in
theorem gL_law_X8_hour : GoodIn wsL_law (wsV RL 36 RX8 yX8_hour wsX8_hour) := goodIn_app (goodIn_of _ (by decide +kernel)) ggL_law_X8_hour
set_option maxRecDepth 20000 in
theorem ggL_law_X7_count : GoodIn wsL_law wsX7_count := goodIn_r _ [330, 16, 291, 292, 331, 29, 20, 308, 309, 310, 43, 311, 125, 312, 99, 100, 101, 332, 131, 132, 15, 133, 38, 635, 636, 637, 638, 639, 640, 655, 656, 657, 658, 659, 660, 661, 674, 675, 666, 667, 668, 669, 670, 671, 672, 673, 678, 679, 662, 663, 676, 677] (by decide +kernel) (by decide +kernel)
set_option maxRecDepth 20000 in
theorem gL_law_X7_count : GoodIn wsL_law (wsV RL 37 RX7 yX7_count wsX7_count) := goodIn_app (goodIn_of _ (by decide +kernel)) ggL_law_X7_count
set_option maxRecDepth 20000 in
theorem ggL_law_X8_count : GoodIn wsL_law wsX8_count := goodIn_r _ [336, 79, 302, 337, 160, 641, 642, 643, 644, 645, 646, 647, 648, 649, 650, 651, 652, 653, 654] (by decide +kernel) (by decide +kernel)
set_option maxRecDepth 20000 in
theorem gL_law_X8_count : GoodIn wsL_law (wsV RL 40 RX8 yX8_count wsX8_count) := goodIn_app (goodIn_of _ (by decide +kernel)) ggL_law_X8_count
set_option maxRecDepth 20000 in
theorem ggL_law_X7_meanRate : GoodIn wsL_law wsX7_meanRate := goodIn_r _ [341, 16, 308, 309, 310, 43, 311, 125, 312, 99, 100, 101, 342, 343, 344, 345, 346, 347, 314, 315, 316, 51, 227, 228, 229, 230, 348, 349, 2, 350, 351, 352, 353, 354, 355, 635, 636, 637, 638, 639, 640, 655, 656, 657, 658, 659, 660, 661, 676, 677] (by decide +kernel) (by decide +kernel)
set_option maxRecDepth 20000 in
theorem gL_law_X7_meanRate : GoodIn wsL_law (wsV RL 41 RX7 yX7_meanRate wsX7_meanRate) := goodIn_app (goodIn_of _ (by decide +kernel)) ggL_law_X7_meanRate
set_option maxRecDepth 20000 in
theorem ggL_law_X8_meanRate : GoodIn wsL_law wsX8_meanRate := goodIn_r _ [359, 79, 323, 324, 325, 5, 326, 360, 361, 362, 363, 364, 365, 366, 367, 368, 369, 370, 371, 641, 642, 643, 644, 645, 646, 647, 648, 649, 650, 651, 652, 653, 654] (by decide +kernel) (by decide +kernel)
set_option maxRecDepth 20000 in
theorem gL_law_X8_meanRate : GoodIn wsL_law (wsV RL 45 RX8 yX8_meanRate wsX8_meanRate) := goodIn_app (goodIn_of _ (by decide +kernel)) ggL_law_X8_meanRate
set_option maxRecDepth 20000 in
theorem ggL_law_X7_ofLog : GoodIn wsL_law wsX7_ofLog := goodIn_r _ [375, 16, 376, 308, 309, 310, 43, 311, 125, 312, 99, 100, 101, 377, 378, 379, 380, 381, 382, 383, 347, 314, 315, 316, 51, 227, 228, 229, 230, 346, 384, 385, 386, 387, 388, 389, 390, 391, 392, 393, 394, 395, 635, 636, 637, 638, 639, 640, 655, 656, 657, 658, 659, 660, 661, 676, 677] (by decide +kernel) (by decide +kernel)
set_option maxRecDepth 20000 in
theorem gL_law_X7_ofLog : GoodIn wsL_law (wsV RL 46 RX7 yX7_ofLog wsX7_ofLog) := goodIn_app (goodIn_of _ (by decide +kernel)) ggL_law_X7_ofLog
set_option maxRecDepth 20000 in
theorem ggL_law_X8_ofLog : GoodIn wsL_law wsX8_ofLog := goodIn_r _ [399, 400, 79, 322, 153, 154, 5, 155, 401, 402, 403, 404, 323, 324, 325, 326, 405, 406, 407, 408, 409, 410, 411, 412, 413, 414, 415, 416, 417, 418, 419, 420, 641, 642, 643, 644, 645, 646, 647, 648, 649, 650, 651, 652, 653, 654] (by decide +kernel) (by decide +kernel)
set_option maxRecDepth 20000 in
theorem gL_law_X8_ofLog : GoodIn wsL_law (wsV RL 49 RX8 yX8_ofLog wsX8_ofLog) := goodIn_app (goodIn_of _ (by decide +kernel)) ggL_law_X8_ofLog
set_option maxRecDepth 20000 in
theorem ggL_law_X7_rate : GoodIn wsL_law wsX7_rate := goodIn_r _ [424, 16, 376, 425, 190, 2, 191, 426, 192, 193, 427, 204, 205, 15, 206, 110, 207, 208, 209, 210, 130, 131, 132, 133, 38, 635, 636, 637, 638, 639, 640, 655, 656, 657, 658, 659, 660, 661] (by decide +kernel) (by decide +kernel)
set_option maxRecDepth 20000 in
theorem gL_law_X7_rate : GoodIn wsL_law (wsV RL 50 RX7 yX7_rate wsX7_rate) := goodIn_app (goodIn_of _ (by decide +kernel)) ggL_law_X7_rate
set_option maxRecDepth 20000 in
theorem ggL_law_X8_rate : GoodIn wsL_law wsX8_rate := goodIn_r _ [431, 322, 247, 248, 5, 249, 250, 251, 153, 154, 155, 252, 253, 254, 255, 256, 263, 264, 265, 266, 79, 267, 268, 269, 270, 641, 642, 643, 644, 645, 646, 647, 648, 649, 650, 651, 652, 653, 654] (by decide +kernel) (by decide +kernel)
set_option maxRecDepth 20000 in
theorem gL_law_X8_rate : GoodIn wsL_law (wsV RL 53 RX8 yX8_rate wsX8_rate) := goodIn_app (goodIn_of _ (by decide +kernel)) ggL_law_X8_rate
set_option maxRecDepth 20000 in
theorem ggL_law_X7_bestWeights : GoodIn wsL_law wsX7_bestWeights := goodIn_r _ [435, 16, 436, 437, 100, 438, 376, 425, 190, 2, 191, 426, 192, 193, 439, 208, 209, 15, 210, 130, 131, 132, 133, 38, 635, 636, 637, 638, 639, 640, 655, 656, 657, 658, 659, 660, 661] (by decide +kernel) (by decide +kernel)
set_option maxRecDepth 20000 in
theorem gL_law_X7_bestWeights : GoodIn wsL_law (wsV RL 54 RX7 yX7_bestWeights wsX7_bestWeights) := goodIn_app (goodIn_of _ (by decide +kernel)) ggL_law_X7_bestWeights
set_option maxRecDepth 20000 in
theorem ggL_law_X8_bestWeights : GoodIn wsL_law wsX8_bestWeights := goodIn_r _ [443, 322, 247, 248, 5, 249, 250, 251, 153, 154, 155, 252, 253, 254, 255, 256, 267, 268, 269, 270, 79, 444, 445, 446, 641, 642, 643, 644, 645, 646, 647, 648, 649, 650, 651, 652, 653, 654] (by decide +kernel) (by decide +kernel)
set_option maxRecDepth 20000 in
theorem gL_law_X8_bestWeights : GoodIn wsL_law (wsV RL 58 RX8 yX8_bestWeights wsX8_bestWeights) := goodIn_app (goodIn_of _ (by decide +kernel)) ggL_law_X8_bestWeights
set_option maxRecDepth 20000 in
theorem ggL_law_X7_offIn : GoodIn wsL_law wsX7_offIn := goodIn_r _ [450, 16, 33, 425, 190, 2, 191, 426, 192, 193, 427, 204, 205, 15, 206, 110, 207, 208, 209, 210, 130, 131, 132, 133, 38, 332, 451, 115, 116, 32, 117, 118, 119, 452, 216, 217, 218, 453, 212, 213, 214, 635, 636, 637, 638, 639, 640, 655, 656, 657, 658, 659, 660, 661, 674, 675] (by decide +kernel) (by decide +kernel)
set_option maxRecDepth 20000 in
theorem gL_law_X7_offIn : GoodIn wsL_law (wsV RL 59 RX7 yX7_offIn wsX7_offIn) := goodIn_app (goodIn_of _ (by decide +kernel)) ggL_law_X7_offIn
set_option maxRecDepth 20000 in
theorem ggL_law_X8_offIn : GoodIn wsL_law wsX8_offIn := goodIn_r _ [457, 79, 261, 262, 247, 248, 5, 249, 250, 251, 153, 154, 155, 252, 253, 254, 255, 256, 275, 276, 277, 278, 263, 264, 265, 266, 267, 268, 269, 270, 271, 272, 273, 274, 641, 642, 643, 644, 645, 646, 647, 648, 649, 650, 651, 652, 653, 654] (by decide +kernel) (by decide +kernel)
set_option maxRecDepth 20000 in
theorem gL_law_X8_offIn : GoodIn wsL_law (wsV RL 62 RX8 yX8_offIn wsX8_offIn) := goodIn_app (goodIn_of _ (by decide +kernel)) ggL_law_X8_offIn
set_option maxRecDepth 20000 in
theorem ggL_law_X7_replay : GoodIn wsL_law wsX7_replay := goodIn_r _ [461, 33, 16, 291, 292, 293, 236, 237, 32, 238, 118, 119, 308, 309, 310, 43, 311, 125, 312, 99, 100, 101, 313, 314, 315, 316, 51, 227, 228, 229, 230, 427, 204, 205, 15, 206, 110, 207, 208, 209, 210, 130, 131, 132, 133, 38, 453, 212, 213, 214, 635, 636, 637, 638, 639, 640, 655, 656, 657, 658, 659, 660, 661, 674, 675, 676, 677] (by decide +kernel) (by decide +kernel)
set_option maxRecDepth 20000 in
theorem gL_law_X7_replay : GoodIn wsL_law (wsV RL 63 RX7 yX7_replay wsX7_replay) := goodIn_app (goodIn_of _ (by decide +kernel)) ggL_law_X7_replay
set_option maxRecDepth 20000 in
theorem ggL_law_X8_replay : GoodIn wsL_law wsX8_replay := goodIn_r _ [465, 261, 262, 79, 302, 323, 324, 325, 5, 326, 263, 264, 265, 266, 267, 268, 269, 270, 271, 272, 273, 274, 641, 642, 643, 644, 645, 646, 647, 648, 649, 650, 651, 652, 653, 654] (by decide +kernel) (by decide +kernel)
set_option maxRecDepth 20000 in
theorem gL_law_X8_replay : GoodIn wsL_law (wsV RL 66 RX8 yX8_replay wsX8_replay) := goodIn_app (goodIn_of _ (by decide +kernel)) ggL_law_X8_replay
set_option maxRecDepth 20000 in
theorem ggL_law_X7_coolest : GoodIn wsL_law wsX7_coolest := goodIn_r _ [469, 16, 426, 192, 2, 193, 427, 204, 205, 15, 206, 110, 207, 208, 209, 210, 130, 131, 132, 133, 38, 635, 636, 637, 638, 639, 640, 655, 656, 657, 658, 659, 660, 661] (by decide +kernel) (by decide +kernel)
set_option maxRecDepth 20000 in
theorem gL_law_X7_coolest : GoodIn wsL_law (wsV RL 67 RX7 yX7_coolest wsX7_coolest) := goodIn_app (goodIn_of _ (by decide +kernel)) ggL_law_X7_coolest
set_option maxRecDepth 20000 in
theorem ggL_law_X8_coolest : GoodIn wsL_law wsX8_coolest := goodIn_r _ [473, 252, 253, 5, 254, 255, 256, 153, 154, 155, 263, 264, 265, 266, 79, 267, 268, 269, 270, 641, 642, 643, 644, 645, 646, 647, 648, 649, 650, 651, 652, 653, 654] (by decide +kernel) (by decide +kernel)
set_option maxRecDepth 20000 in
theorem gL_law_X8_coolest : GoodIn wsL_law (wsV RL 70 RX8 yX8_coolest wsX8_coolest) := goodIn_app (goodIn_of _ (by decide +kernel)) ggL_law_X8_coolest
set_option maxRecDepth 20000 in
theorem ggL_law_X7_put : GoodIn wsL_law wsX7_put := goodIn_r _ [477, 29, 478, 479, 2, 480, 481, 482, 483, 484, 485, 486, 68, 487, 488, 74, 635, 636, 637, 638, 639, 640, 666, 667, 668, 669, 670, 671, 672, 673, 678, 679] (by decide +kernel) (by decide +kernel)
set_option maxRecDepth 20000 in
theorem gL_law_X7_put : GoodIn wsL_law (wsV RL 73 RX7 yX7_put wsX7_put) := goodIn_app (goodIn_of _ (by decide +kernel)) ggL_law_X7_put
set_option maxRecDepth 20000 in
theorem ggL_law_X8_put : GoodIn wsL_law wsX8_put := goodIn_r _ [492, 493, 494, 495, 337, 84, 153, 154, 5, 155, 641, 642, 643, 644, 645, 646, 647, 648, 649, 650, 651, 652, 653, 654] (by decide +kernel) (by decide +kernel)
set_option maxRecDepth 20000 in
theorem gL_law_X8_put : GoodIn wsL_law (wsV RL 77 RX8 yX8_put wsX8_put) := goodIn_app (goodIn_of _ (by decide +kernel)) ggL_law_X8_put
set_option maxRecDepth 20000 in
theorem ggL_law_X7_wipe : GoodIn wsL_law wsX7_wipe := goodIn_r _ [499, 29, 635, 636, 637, 638, 639, 640, 666, 667, 668, 669, 670, 671, 672, 673, 678, 679] (by decide +kernel) (by decide +kernel)
set_option maxRecDepth 20000 in
theorem gL_law_X7_wipe : GoodIn wsL_law (wsV RL 78 RX7 yX7_wipe wsX7_wipe) := goodIn_app (goodIn_of _ (by decide +kernel)) ggL_law_X7_wipe
set_option maxRecDepth 20000 in
theorem ggL_law_X8_wipe : GoodIn wsL_law wsX8_wipe := goodIn_r _ [503, 337, 641, 642, 643, 644, 645, 646, 647, 648, 649, 650, 651, 652, 653, 654] (by decide +kernel) (by decide +kernel)
set_option maxRecDepth 20000 in
theorem gL_law_X8_wipe : GoodIn wsL_law (wsV RL 81 RX8 yX8_wipe wsX8_wipe) := goodIn_app (goodIn_of _ (by decide +kernel)) ggL_law_X8_wipe
set_option maxRecDepth 20000 in
theorem ggL_law_X7_fault : GoodIn wsL_law wsX7_fault := goodIn_r _ [507, 29, 508, 509, 510, 28, 511, 512, 69, 513, 514, 515, 516, 517, 518, 519, 520, 521, 522, 523, 524, 68, 525, 488, 74, 526, 527, 528, 529, 530, 531, 532, 533, 534, 535, 536, 537, 538, 539, 540, 541, 542, 543, 544, 545, 546, 547, 548, 549, 550, 551, 552, 553, 635, 636, 637, 638, 639, 640, 666, 667, 668, 669, 670, 671, 672, 673, 678, 679] (by decide +kernel) (by decide +kernel)
set_option maxRecDepth 20000 in
theorem gL_law_X7_fault : GoodIn wsL_law (wsV RL 82 RX7 yX7_fault wsX7_fault) := goodIn_app (goodIn_of _ (by decide +kernel)) ggL_law_X7_fault
set_option maxRecDepth 20000 in
theorem ggL_law_X8_fault : GoodIn wsL_law wsX8_fault := goodIn_r _ [557, 558, 559, 337, 560, 561, 562, 5, 563, 84, 564, 565, 566, 567, 568, 569, 570, 571, 572, 153, 154, 155, 298, 299, 300, 301, 79, 302, 573, 574, 575, 576, 577, 177, 178, 179, 180, 181, 578, 579, 580, 581, 582, 583, 584, 585, 142, 143, 144, 145, 146, 147, 148, 149, 150, 151, 152, 586, 587, 588, 589, 243, 244, 245, 246, 247, 248, 249, 250, 251, 252, 253, 254, 255, 256, 257, 258, 259, 260, 261, 262, 263, 264, 265, 266, 267, 268, 269, 270, 271, 272, 273, 274, 275, 276, 277, 278, 279, 280, 281, 282, 283, 284, 285, 286, 641, 642, 643, 644, 645, 646, 647, 648, 649, 650, 651, 652, 653, 654] (by decide +kernel) (by decide +kernel)
set_option maxRecDepth 20000 in
theorem gL_law_X8_fault : GoodIn wsL_law (wsV RL 85 RX8 yX8_fault wsX8_fault) := goodIn_app (goodIn_of _ (by decide +kernel)) ggL_law_X8_fault
set_option maxRecDepth 20000 in
theorem ggL_law_X7_carryOut : GoodIn wsL_law wsX7_carryOut := goodIn_r _ [593, 29, 20, 16, 508, 509, 510, 28, 511, 512, 69, 513, 514, 515, 516, 517, 518, 519, 520, 521, 522, 523, 524, 68, 525, 488, 74, 526, 527, 528, 529, 530, 531, 532, 533, 534, 535, 536, 537, 538, 539, 540, 541, 542, 543, 544, 545, 546, 547, 548, 549, 550, 551, 552, 553, 93, 94, 95, 19, 96, 57, 97, 98, 99, 100, 101, 102, 103, 104, 15, 105, 38, 106, 107, 108, 109, 40, 44, 110, 111, 112, 113, 114, 115, 116, 32, 117, 118, 119, 120, 121, 122, 43, 123, 51, 124, 125, 594, 595, 596, 597, 598, 2, 599, 186, 187, 188, 189, 190, 191, 192, 193, 194, 195, 196, 197, 198, 199, 200, 201, 202, 203, 204, 205, 206, 207, 208, 209, 210, 130, 131, 132, 133, 211, 212, 213, 214, 215, 216, 217, 218, 219, 220, 221, 222, 223, 224, 225, 226, 227, 228, 229, 230, 231, 232, 233, 234, 235, 236, 237, 238, 165, 166, 167, 168, 169, 170, 171, 172, 89, 90, 91, 92, 126, 127, 128, 129, 293, 600, 635, 636, 637, 638, 639, 640, 666, 667, 668, 669, 670, 671, 672, 673, 678, 679, 662, 663, 655, 656, 657, 658, 659, 660, 661, 674, 675, 676, 677] (by decide +kernel) (by decide +kernel)
set_option maxRecDepth 20000 in
theorem gL_law_X7_carryOut : GoodIn wsL_law (wsV RL 86 RX7 yX7_carryOut wsX7_carryOut) := goodIn_app (goodIn_of _ (by decide +kernel)) ggL_law_X7_carryOut
set_option maxRecDepth 20000 in
theorem ggL_law_X8_carryOut : GoodIn wsL_law wsX8_carryOut := goodIn_r _ [604, 558, 559, 577, 337, 605, 555, 556, 5, 557, 560, 561, 562, 563, 84, 564, 565, 566, 567, 568, 569, 570, 571, 572, 153, 154, 155, 298, 299, 300, 301, 79, 302, 573, 574, 575, 576, 177, 178, 179, 180, 181, 578, 579, 580, 581, 582, 583, 584, 585, 142, 143, 144, 145, 146, 147, 148, 149, 150, 151, 152, 586, 587, 588, 589, 243, 244, 245, 246, 247, 248, 249, 250, 251, 252, 253, 254, 255, 256, 257, 258, 259, 260, 261, 262, 263, 264, 265, 266, 267, 268, 269, 270, 271, 272, 273, 274, 275, 276, 277, 278, 279, 280, 281, 282, 283, 284, 285, 286, 138, 139, 140, 141, 80, 156, 157, 158, 159, 160, 81, 641, 642, 643, 644, 645, 646, 647, 648, 649, 650, 651, 652, 653, 654] (by decide +kernel) (by decide +kernel)
set_option maxRecDepth 20000 in
theorem gL_law_X8_carryOut : GoodIn wsL_law (wsV RL 89 RX8 yX8_carryOut wsX8_carryOut) := goodIn_app (goodIn_of _ (by decide +kernel)) ggL_law_X8_carryOut
set_option maxRecDepth 20000 in
theorem ggL_law_X7_undo : GoodIn wsL_law wsX7_undo := goodIn_r _ [609, 20, 16, 610, 611, 612, 19, 613, 57, 97, 102, 103, 104, 15, 105, 38, 106, 107, 108, 109, 40, 44, 110, 111, 112, 113, 114, 115, 116, 32, 117, 118, 119, 120, 121, 122, 43, 123, 51, 124, 125, 635, 636, 637, 638, 639, 640, 662, 663, 655, 656, 657, 658, 659, 660, 661, 674, 675, 676, 677] (by decide +kernel) (by decide +kernel)
set_option maxRecDepth 20000 in
theorem gL_law_X7_undo : GoodIn wsL_law (wsV RL 90 RX7 yX7_undo wsX7_undo) := goodIn_app (goodIn_of _ (by decide +kernel)) ggL_law_X7_undo
set_option maxRecDepth 20000 in
theorem ggL_law_X8_undo : GoodIn wsL_law wsX8_undo := goodIn_r _ [617, 160, 79, 81, 641, 642, 643, 644, 645, 646, 647, 648, 649, 650, 651, 652, 653, 654] (by decide +kernel) (by decide +kernel)
set_option maxRecDepth 20000 in
theorem gL_law_X8_undo : GoodIn wsL_law (wsV RL 93 RX8 yX8_undo wsX8_undo) := goodIn_app (goodIn_of _ (by decide +kernel)) ggL_law_X8_undo
set_option maxRecDepth 20000 in
theorem ggL_law_X7_save : GoodIn wsL_law wsX7_save := goodIn_r _ [621, 24, 25, 16, 622, 103, 104, 15, 105, 38, 106, 107, 108, 109, 40, 44, 110, 111, 112, 113, 114, 115, 116, 32, 117, 118, 119, 120, 121, 122, 43, 123, 51, 124, 125, 635, 636, 637, 638, 639, 640, 664, 665, 655, 656, 657, 658, 659, 660, 661, 674, 675, 676, 677] (by decide +kernel) (by decide +kernel)
set_option maxRecDepth 20000 in
theorem gL_law_X7_save : GoodIn wsL_law (wsV RL 94 RX7 yX7_save wsX7_save) := goodIn_app (goodIn_of _ (by decide +kernel)) ggL_law_X7_save
set_option maxRecDepth 20000 in
theorem ggL_law_X8_save : GoodIn wsL_law wsX8_save := goodIn_r _ [626, 82, 79, 83, 153, 154, 5, 155, 641, 642, 643, 644, 645, 646, 647, 648, 649, 650, 651, 652, 653, 654] (by decide +kernel) (by decide +kernel)
set_option maxRecDepth 20000 in
theorem gL_law_X8_save : GoodIn wsL_law (wsV RL 97 RX8 yX8_save wsX8_save) := goodIn_app (goodIn_of _ (by decide +kernel)) ggL_law_X8_save
set_option maxRecDepth 20000 in
theorem ggL_law_X7_restore : GoodIn wsL_law wsX7_restore := goodIn_r _ [630, 24, 25, 20, 16, 93, 94, 95, 19, 96, 57, 97, 98, 99, 100, 101, 102, 103, 104, 15, 105, 38, 106, 107, 108, 109, 40, 44, 110, 111, 112, 113, 114, 115, 116, 32, 117, 118, 119, 120, 121, 122, 43, 123, 51, 124, 125, 622, 635, 636, 637, 638, 639, 640, 664, 665, 655, 656, 657, 658, 659, 660, 661, 662, 663, 674, 675, 676, 677] (by decide +kernel) (by decide +kernel)
set_option maxRecDepth 20000 in
theorem gL_law_X7_restore : GoodIn wsL_law (wsV RL 98 RX7 yX7_restore wsX7_restore) := goodIn_app (goodIn_of _ (by decide +kernel)) ggL_law_X7_restore
set_option maxRecDepth 20000 in
theorem ggL_law_X8_restore : GoodIn wsL_law wsX8_restore := goodIn_r _ [634, 83, 79, 82, 153, 154, 5, 155, 138, 139, 140, 141, 80, 156, 157, 158, 159, 160, 81, 641, 642, 643, 644, 645, 646, 647, 648, 649, 650, 651, 652, 653, 654] (by decide +kernel) (by decide +kernel)
set_option maxRecDepth 20000 in
theorem gL_law_X8_restore : GoodIn wsL_law (wsV RL 101 RX8 yX8_restore wsX8_restore) := goodIn_app (goodIn_of _ (by decide +kernel)) ggL_law_X8_restore
theorem dL_law_0 : decode cL_law 0 = .ok (.new 7, 3) := by decide +kernel
theorem dL_law_3 : decode cL_law 3 = .ok (.dup, 1) := by decide +kernel
theorem dL_law_4 : decode cL_law 4 = .ok (.invokespecial 9, 3) := by decide +kernel
theorem dL_law_7 : decode cL_law 7 = .ok (.astore_n 1, 1) := by decide +kernel
theorem dL_law_8 : decode cL_law 8 = .ok (.new 10, 3) := by decide +kernel
theorem dL_law_11 : decode cL_law 11 = .ok (.dup, 1) := by decide +kernel
theorem dL_law_12 : decode cL_law 12 = .ok (.invokespecial 12, 3) := by decide +kernel
theorem dL_law_15 : decode cL_law 15 = .ok (.astore_n 2, 1) := by decide +kernel
theorem dL_law_16 : decode cL_law 16 = .ok (.iconst 0, 1) := by decide +kernel
theorem dL_law_17 : decode cL_law 17 = .ok (.istore_n 3, 1) := by decide +kernel
theorem dL_law_18 : decode cL_law 18 = .ok (.iload_n 3, 1) := by decide +kernel
theorem dL_law_19 : decode cL_law 19 = .ok (.aload_n 0, 1) := by decide +kernel
theorem dL_law_20 : decode cL_law 20 = .ok (.arraylength, 1) := by decide +kernel
theorem dL_law_21 : decode cL_law 21 = .ok (.iconst 5, 1) := by decide +kernel
theorem dL_law_22 : decode cL_law 22 = .ok (.isub, 1) := by decide +kernel
theorem dL_law_23 : decode cL_law 23 = .ok (.if_icmp .gt 622, 3) := by decide +kernel
theorem dL_law_26 : decode cL_law 26 = .ok (.aload_n 0, 1) := by decide +kernel
theorem dL_law_27 : decode cL_law 27 = .ok (.iload_n 3, 1) := by decide +kernel
theorem dL_law_28 : decode cL_law 28 = .ok (.iaload, 1) := by decide +kernel
theorem dL_law_29 : decode cL_law 29 = .ok (.bipush 31, 2) := by decide +kernel
theorem dL_law_31 : decode cL_law 31 = .ok (.iand, 1) := by decide +kernel
theorem dL_law_32 : decode cL_law 32 = .ok (.tableswitch 607 0 19 #[96, 129, 152, 205, 218, 251, 274, 288, 311, 344, 387, 420, 433, 456, 509, 522, 535, 548, 561, 584], 96) := by decide +kernel
theorem dL_law_128 : decode cL_law 128 = .ok (.aload_n 1, 1) := by decide +kernel
theorem dL_law_129 : decode cL_law 129 = .ok (.aload_n 0, 1) := by decide +kernel
theorem dL_law_130 : decode cL_law 130 = .ok (.iload_n 3, 1) := by decide +kernel
theorem dL_law_131 : decode cL_law 131 = .ok (.iconst 1, 1) := by decide +kernel
theorem dL_law_132 : decode cL_law 132 = .ok (.iadd, 1) := by decide +kernel
theorem dL_law_133 : decode cL_law 133 = .ok (.iaload, 1) := by decide +kernel
theorem dL_law_134 : decode cL_law 134 = .ok (.aload_n 0, 1) := by decide +kernel
theorem dL_law_135 : decode cL_law 135 = .ok (.iload_n 3, 1) := by decide +kernel
theorem dL_law_136 : decode cL_law 136 = .ok (.iconst 2, 1) := by decide +kernel
theorem dL_law_137 : decode cL_law 137 = .ok (.iadd, 1) := by decide +kernel
theorem dL_law_138 : decode cL_law 138 = .ok (.iaload, 1) := by decide +kernel
theorem dL_law_139 : decode cL_law 139 = .ok (.invokevirtual 13, 3) := by decide +kernel
theorem dL_law_142 : decode cL_law 142 = .ok (.aload_n 2, 1) := by decide +kernel
theorem dL_law_143 : decode cL_law 143 = .ok (.aload_n 0, 1) := by decide +kernel
theorem dL_law_144 : decode cL_law 144 = .ok (.iload_n 3, 1) := by decide +kernel
theorem dL_law_145 : decode cL_law 145 = .ok (.iconst 1, 1) := by decide +kernel
theorem dL_law_146 : decode cL_law 146 = .ok (.iadd, 1) := by decide +kernel
theorem dL_law_147 : decode cL_law 147 = .ok (.iaload, 1) := by decide +kernel
theorem dL_law_148 : decode cL_law 148 = .ok (.aload_n 0, 1) := by decide +kernel
theorem dL_law_149 : decode cL_law 149 = .ok (.iload_n 3, 1) := by decide +kernel
theorem dL_law_150 : decode cL_law 150 = .ok (.iconst 2, 1) := by decide +kernel
theorem dL_law_151 : decode cL_law 151 = .ok (.iadd, 1) := by decide +kernel
theorem dL_law_152 : decode cL_law 152 = .ok (.iaload, 1) := by decide +kernel
theorem dL_law_153 : decode cL_law 153 = .ok (.invokevirtual 17, 3) := by decide +kernel
theorem dL_law_156 : decode cL_law 156 = .ok (.if_icmp .eq 483, 3) := by decide +kernel
theorem dL_law_159 : decode cL_law 159 = .ok (.iconst 0, 1) := by decide +kernel
theorem dL_law_160 : decode cL_law 160 = .ok (.ireturn, 1) := by decide +kernel
theorem dL_law_161 : decode cL_law 161 = .ok (.aload_n 1, 1) := by decide +kernel
theorem dL_law_162 : decode cL_law 162 = .ok (.aload_n 0, 1) := by decide +kernel
theorem dL_law_163 : decode cL_law 163 = .ok (.iload_n 3, 1) := by decide +kernel
theorem dL_law_164 : decode cL_law 164 = .ok (.iconst 1, 1) := by decide +kernel
theorem dL_law_165 : decode cL_law 165 = .ok (.iadd, 1) := by decide +kernel
theorem dL_law_166 : decode cL_law 166 = .ok (.iaload, 1) := by decide +kernel
theorem dL_law_167 : decode cL_law 167 = .ok (.invokevirtual 18, 3) := by decide +kernel
theorem dL_law_170 : decode cL_law 170 = .ok (.aload_n 2, 1) := by decide +kernel
theorem dL_law_171 : decode cL_law 171 = .ok (.aload_n 0, 1) := by decide +kernel
theorem dL_law_172 : decode cL_law 172 = .ok (.iload_n 3, 1) := by decide +kernel
theorem dL_law_173 : decode cL_law 173 = .ok (.iconst 1, 1) := by decide +kernel
theorem dL_law_174 : decode cL_law 174 = .ok (.iadd, 1) := by decide +kernel
theorem dL_law_175 : decode cL_law 175 = .ok (.iaload, 1) := by decide +kernel
theorem dL_law_176 : decode cL_law 176 = .ok (.invokevirtual 22, 3) := by decide +kernel
theorem dL_law_179 : decode cL_law 179 = .ok (.if_icmp .eq 460, 3) := by decide +kernel
theorem dL_law_182 : decode cL_law 182 = .ok (.iconst 0, 1) := by decide +kernel
theorem dL_law_183 : decode cL_law 183 = .ok (.ireturn, 1) := by decide +kernel
theorem dL_law_184 : decode cL_law 184 = .ok (.aload_n 1, 1) := by decide +kernel
theorem dL_law_185 : decode cL_law 185 = .ok (.aload_n 0, 1) := by decide +kernel
theorem dL_law_186 : decode cL_law 186 = .ok (.iload_n 3, 1) := by decide +kernel
theorem dL_law_187 : decode cL_law 187 = .ok (.iconst 1, 1) := by decide +kernel
theorem dL_law_188 : decode cL_law 188 = .ok (.iadd, 1) := by decide +kernel
theorem dL_law_189 : decode cL_law 189 = .ok (.iaload, 1) := by decide +kernel
theorem dL_law_190 : decode cL_law 190 = .ok (.aload_n 0, 1) := by decide +kernel
theorem dL_law_191 : decode cL_law 191 = .ok (.iload_n 3, 1) := by decide +kernel
theorem dL_law_192 : decode cL_law 192 = .ok (.iconst 2, 1) := by decide +kernel
theorem dL_law_193 : decode cL_law 193 = .ok (.iadd, 1) := by decide +kernel
theorem dL_law_194 : decode cL_law 194 = .ok (.iaload, 1) := by decide +kernel
theorem dL_law_195 : decode cL_law 195 = .ok (.aload_n 0, 1) := by decide +kernel
theorem dL_law_196 : decode cL_law 196 = .ok (.iload_n 3, 1) := by decide +kernel
theorem dL_law_197 : decode cL_law 197 = .ok (.iconst 3, 1) := by decide +kernel
theorem dL_law_198 : decode cL_law 198 = .ok (.iadd, 1) := by decide +kernel
theorem dL_law_199 : decode cL_law 199 = .ok (.iaload, 1) := by decide +kernel
theorem dL_law_200 : decode cL_law 200 = .ok (.aload_n 0, 1) := by decide +kernel
theorem dL_law_201 : decode cL_law 201 = .ok (.iload_n 3, 1) := by decide +kernel
theorem dL_law_202 : decode cL_law 202 = .ok (.iconst 4, 1) := by decide +kernel
theorem dL_law_203 : decode cL_law 203 = .ok (.iadd, 1) := by decide +kernel
theorem dL_law_204 : decode cL_law 204 = .ok (.iaload, 1) := by decide +kernel
theorem dL_law_205 : decode cL_law 205 = .ok (.invokevirtual 23, 3) := by decide +kernel
theorem dL_law_208 : decode cL_law 208 = .ok (.aload_n 2, 1) := by decide +kernel
theorem dL_law_209 : decode cL_law 209 = .ok (.aload_n 0, 1) := by decide +kernel
theorem dL_law_210 : decode cL_law 210 = .ok (.iload_n 3, 1) := by decide +kernel
theorem dL_law_211 : decode cL_law 211 = .ok (.iconst 1, 1) := by decide +kernel
theorem dL_law_212 : decode cL_law 212 = .ok (.iadd, 1) := by decide +kernel
theorem dL_law_213 : decode cL_law 213 = .ok (.iaload, 1) := by decide +kernel
theorem dL_law_214 : decode cL_law 214 = .ok (.aload_n 0, 1) := by decide +kernel
theorem dL_law_215 : decode cL_law 215 = .ok (.iload_n 3, 1) := by decide +kernel
theorem dL_law_216 : decode cL_law 216 = .ok (.iconst 2, 1) := by decide +kernel
theorem dL_law_217 : decode cL_law 217 = .ok (.iadd, 1) := by decide +kernel
theorem dL_law_218 : decode cL_law 218 = .ok (.iaload, 1) := by decide +kernel
theorem dL_law_219 : decode cL_law 219 = .ok (.aload_n 0, 1) := by decide +kernel
theorem dL_law_220 : decode cL_law 220 = .ok (.iload_n 3, 1) := by decide +kernel
theorem dL_law_221 : decode cL_law 221 = .ok (.iconst 3, 1) := by decide +kernel
theorem dL_law_222 : decode cL_law 222 = .ok (.iadd, 1) := by decide +kernel
theorem dL_law_223 : decode cL_law 223 = .ok (.iaload, 1) := by decide +kernel
theorem dL_law_224 : decode cL_law 224 = .ok (.aload_n 0, 1) := by decide +kernel
theorem dL_law_225 : decode cL_law 225 = .ok (.iload_n 3, 1) := by decide +kernel
theorem dL_law_226 : decode cL_law 226 = .ok (.iconst 4, 1) := by decide +kernel
theorem dL_law_227 : decode cL_law 227 = .ok (.iadd, 1) := by decide +kernel
theorem dL_law_228 : decode cL_law 228 = .ok (.iaload, 1) := by decide +kernel
theorem dL_law_229 : decode cL_law 229 = .ok (.invokevirtual 27, 3) := by decide +kernel
theorem dL_law_232 : decode cL_law 232 = .ok (.if_icmp .eq 407, 3) := by decide +kernel
theorem dL_law_235 : decode cL_law 235 = .ok (.iconst 0, 1) := by decide +kernel
theorem dL_law_236 : decode cL_law 236 = .ok (.ireturn, 1) := by decide +kernel
theorem dL_law_237 : decode cL_law 237 = .ok (.aload_n 1, 1) := by decide +kernel
theorem dL_law_238 : decode cL_law 238 = .ok (.invokevirtual 28, 3) := by decide +kernel
theorem dL_law_241 : decode cL_law 241 = .ok (.aload_n 2, 1) := by decide +kernel
theorem dL_law_242 : decode cL_law 242 = .ok (.invokevirtual 32, 3) := by decide +kernel
theorem dL_law_245 : decode cL_law 245 = .ok (.if_icmp .eq 394, 3) := by decide +kernel
theorem dL_law_248 : decode cL_law 248 = .ok (.iconst 0, 1) := by decide +kernel
theorem dL_law_249 : decode cL_law 249 = .ok (.ireturn, 1) := by decide +kernel
theorem dL_law_250 : decode cL_law 250 = .ok (.aload_n 1, 1) := by decide +kernel
theorem dL_law_251 : decode cL_law 251 = .ok (.aload_n 0, 1) := by decide +kernel
theorem dL_law_252 : decode cL_law 252 = .ok (.iload_n 3, 1) := by decide +kernel
theorem dL_law_253 : decode cL_law 253 = .ok (.iconst 1, 1) := by decide +kernel
theorem dL_law_254 : decode cL_law 254 = .ok (.iadd, 1) := by decide +kernel
theorem dL_law_255 : decode cL_law 255 = .ok (.iaload, 1) := by decide +kernel
theorem dL_law_256 : decode cL_law 256 = .ok (.aload_n 0, 1) := by decide +kernel
theorem dL_law_257 : decode cL_law 257 = .ok (.iload_n 3, 1) := by decide +kernel
theorem dL_law_258 : decode cL_law 258 = .ok (.iconst 2, 1) := by decide +kernel
theorem dL_law_259 : decode cL_law 259 = .ok (.iadd, 1) := by decide +kernel
theorem dL_law_260 : decode cL_law 260 = .ok (.iaload, 1) := by decide +kernel
theorem dL_law_261 : decode cL_law 261 = .ok (.invokevirtual 33, 3) := by decide +kernel
theorem dL_law_264 : decode cL_law 264 = .ok (.aload_n 2, 1) := by decide +kernel
theorem dL_law_265 : decode cL_law 265 = .ok (.aload_n 0, 1) := by decide +kernel
theorem dL_law_266 : decode cL_law 266 = .ok (.iload_n 3, 1) := by decide +kernel
theorem dL_law_267 : decode cL_law 267 = .ok (.iconst 1, 1) := by decide +kernel
theorem dL_law_268 : decode cL_law 268 = .ok (.iadd, 1) := by decide +kernel
theorem dL_law_269 : decode cL_law 269 = .ok (.iaload, 1) := by decide +kernel
theorem dL_law_270 : decode cL_law 270 = .ok (.aload_n 0, 1) := by decide +kernel
theorem dL_law_271 : decode cL_law 271 = .ok (.iload_n 3, 1) := by decide +kernel
theorem dL_law_272 : decode cL_law 272 = .ok (.iconst 2, 1) := by decide +kernel
theorem dL_law_273 : decode cL_law 273 = .ok (.iadd, 1) := by decide +kernel
theorem dL_law_274 : decode cL_law 274 = .ok (.iaload, 1) := by decide +kernel
theorem dL_law_275 : decode cL_law 275 = .ok (.invokevirtual 36, 3) := by decide +kernel
theorem dL_law_278 : decode cL_law 278 = .ok (.if_icmp .eq 361, 3) := by decide +kernel
theorem dL_law_281 : decode cL_law 281 = .ok (.iconst 0, 1) := by decide +kernel
theorem dL_law_282 : decode cL_law 282 = .ok (.ireturn, 1) := by decide +kernel
theorem dL_law_283 : decode cL_law 283 = .ok (.aload_n 1, 1) := by decide +kernel
theorem dL_law_284 : decode cL_law 284 = .ok (.aload_n 0, 1) := by decide +kernel
theorem dL_law_285 : decode cL_law 285 = .ok (.iload_n 3, 1) := by decide +kernel
theorem dL_law_286 : decode cL_law 286 = .ok (.iconst 1, 1) := by decide +kernel
theorem dL_law_287 : decode cL_law 287 = .ok (.iadd, 1) := by decide +kernel
theorem dL_law_288 : decode cL_law 288 = .ok (.iaload, 1) := by decide +kernel
theorem dL_law_289 : decode cL_law 289 = .ok (.invokevirtual 37, 3) := by decide +kernel
theorem dL_law_292 : decode cL_law 292 = .ok (.aload_n 2, 1) := by decide +kernel
theorem dL_law_293 : decode cL_law 293 = .ok (.aload_n 0, 1) := by decide +kernel
theorem dL_law_294 : decode cL_law 294 = .ok (.iload_n 3, 1) := by decide +kernel
theorem dL_law_295 : decode cL_law 295 = .ok (.iconst 1, 1) := by decide +kernel
theorem dL_law_296 : decode cL_law 296 = .ok (.iadd, 1) := by decide +kernel
theorem dL_law_297 : decode cL_law 297 = .ok (.iaload, 1) := by decide +kernel
theorem dL_law_298 : decode cL_law 298 = .ok (.invokevirtual 40, 3) := by decide +kernel
theorem dL_law_301 : decode cL_law 301 = .ok (.if_icmp .eq 338, 3) := by decide +kernel
theorem dL_law_304 : decode cL_law 304 = .ok (.iconst 0, 1) := by decide +kernel
theorem dL_law_305 : decode cL_law 305 = .ok (.ireturn, 1) := by decide +kernel
theorem dL_law_306 : decode cL_law 306 = .ok (.aload_n 1, 1) := by decide +kernel
theorem dL_law_307 : decode cL_law 307 = .ok (.invokevirtual 41, 3) := by decide +kernel
theorem dL_law_310 : decode cL_law 310 = .ok (.aload_n 2, 1) := by decide +kernel
theorem dL_law_311 : decode cL_law 311 = .ok (.invokevirtual 45, 3) := by decide +kernel
theorem dL_law_314 : decode cL_law 314 = .ok (.lcmp, 1) := by decide +kernel
theorem dL_law_315 : decode cL_law 315 = .ok (.ifCond .eq 324, 3) := by decide +kernel
theorem dL_law_318 : decode cL_law 318 = .ok (.iconst 0, 1) := by decide +kernel
theorem dL_law_319 : decode cL_law 319 = .ok (.ireturn, 1) := by decide +kernel
theorem dL_law_320 : decode cL_law 320 = .ok (.aload_n 1, 1) := by decide +kernel
theorem dL_law_321 : decode cL_law 321 = .ok (.aload_n 0, 1) := by decide +kernel
theorem dL_law_322 : decode cL_law 322 = .ok (.iload_n 3, 1) := by decide +kernel
theorem dL_law_323 : decode cL_law 323 = .ok (.iconst 1, 1) := by decide +kernel
theorem dL_law_324 : decode cL_law 324 = .ok (.iadd, 1) := by decide +kernel
theorem dL_law_325 : decode cL_law 325 = .ok (.iaload, 1) := by decide +kernel
theorem dL_law_326 : decode cL_law 326 = .ok (.invokevirtual 46, 3) := by decide +kernel
theorem dL_law_329 : decode cL_law 329 = .ok (.aload_n 2, 1) := by decide +kernel
theorem dL_law_330 : decode cL_law 330 = .ok (.aload_n 0, 1) := by decide +kernel
theorem dL_law_331 : decode cL_law 331 = .ok (.iload_n 3, 1) := by decide +kernel
theorem dL_law_332 : decode cL_law 332 = .ok (.iconst 1, 1) := by decide +kernel
theorem dL_law_333 : decode cL_law 333 = .ok (.iadd, 1) := by decide +kernel
theorem dL_law_334 : decode cL_law 334 = .ok (.iaload, 1) := by decide +kernel
theorem dL_law_335 : decode cL_law 335 = .ok (.invokevirtual 49, 3) := by decide +kernel
theorem dL_law_338 : decode cL_law 338 = .ok (.if_icmp .eq 301, 3) := by decide +kernel
theorem dL_law_341 : decode cL_law 341 = .ok (.iconst 0, 1) := by decide +kernel
theorem dL_law_342 : decode cL_law 342 = .ok (.ireturn, 1) := by decide +kernel
theorem dL_law_343 : decode cL_law 343 = .ok (.aload_n 1, 1) := by decide +kernel
theorem dL_law_344 : decode cL_law 344 = .ok (.aload_n 0, 1) := by decide +kernel
theorem dL_law_345 : decode cL_law 345 = .ok (.iload_n 3, 1) := by decide +kernel
theorem dL_law_346 : decode cL_law 346 = .ok (.iconst 1, 1) := by decide +kernel
theorem dL_law_347 : decode cL_law 347 = .ok (.iadd, 1) := by decide +kernel
theorem dL_law_348 : decode cL_law 348 = .ok (.iaload, 1) := by decide +kernel
theorem dL_law_349 : decode cL_law 349 = .ok (.aload_n 0, 1) := by decide +kernel
theorem dL_law_350 : decode cL_law 350 = .ok (.iload_n 3, 1) := by decide +kernel
theorem dL_law_351 : decode cL_law 351 = .ok (.iconst 2, 1) := by decide +kernel
theorem dL_law_352 : decode cL_law 352 = .ok (.iadd, 1) := by decide +kernel
theorem dL_law_353 : decode cL_law 353 = .ok (.iaload, 1) := by decide +kernel
theorem dL_law_354 : decode cL_law 354 = .ok (.invokevirtual 50, 3) := by decide +kernel
theorem dL_law_357 : decode cL_law 357 = .ok (.aload_n 2, 1) := by decide +kernel
theorem dL_law_358 : decode cL_law 358 = .ok (.aload_n 0, 1) := by decide +kernel
theorem dL_law_359 : decode cL_law 359 = .ok (.iload_n 3, 1) := by decide +kernel
theorem dL_law_360 : decode cL_law 360 = .ok (.iconst 1, 1) := by decide +kernel
theorem dL_law_361 : decode cL_law 361 = .ok (.iadd, 1) := by decide +kernel
theorem dL_law_362 : decode cL_law 362 = .ok (.iaload, 1) := by decide +kernel
theorem dL_law_363 : decode cL_law 363 = .ok (.aload_n 0, 1) := by decide +kernel
theorem dL_law_364 : decode cL_law 364 = .ok (.iload_n 3, 1) := by decide +kernel
theorem dL_law_365 : decode cL_law 365 = .ok (.iconst 2, 1) := by decide +kernel
theorem dL_law_366 : decode cL_law 366 = .ok (.iadd, 1) := by decide +kernel
theorem dL_law_367 : decode cL_law 367 = .ok (.iaload, 1) := by decide +kernel
theorem dL_law_368 : decode cL_law 368 = .ok (.invokevirtual 53, 3) := by decide +kernel
theorem dL_law_371 : decode cL_law 371 = .ok (.if_icmp .eq 268, 3) := by decide +kernel
theorem dL_law_374 : decode cL_law 374 = .ok (.iconst 0, 1) := by decide +kernel
theorem dL_law_375 : decode cL_law 375 = .ok (.ireturn, 1) := by decide +kernel
theorem dL_law_376 : decode cL_law 376 = .ok (.aload_n 1, 1) := by decide +kernel
theorem dL_law_377 : decode cL_law 377 = .ok (.aload_n 0, 1) := by decide +kernel
theorem dL_law_378 : decode cL_law 378 = .ok (.iload_n 3, 1) := by decide +kernel
theorem dL_law_379 : decode cL_law 379 = .ok (.iconst 1, 1) := by decide +kernel
theorem dL_law_380 : decode cL_law 380 = .ok (.iadd, 1) := by decide +kernel
theorem dL_law_381 : decode cL_law 381 = .ok (.iaload, 1) := by decide +kernel
theorem dL_law_382 : decode cL_law 382 = .ok (.aload_n 0, 1) := by decide +kernel
theorem dL_law_383 : decode cL_law 383 = .ok (.iload_n 3, 1) := by decide +kernel
theorem dL_law_384 : decode cL_law 384 = .ok (.iconst 2, 1) := by decide +kernel
theorem dL_law_385 : decode cL_law 385 = .ok (.iadd, 1) := by decide +kernel
theorem dL_law_386 : decode cL_law 386 = .ok (.iaload, 1) := by decide +kernel
theorem dL_law_387 : decode cL_law 387 = .ok (.aload_n 0, 1) := by decide +kernel
theorem dL_law_388 : decode cL_law 388 = .ok (.iload_n 3, 1) := by decide +kernel
theorem dL_law_389 : decode cL_law 389 = .ok (.iconst 3, 1) := by decide +kernel
theorem dL_law_390 : decode cL_law 390 = .ok (.iadd, 1) := by decide +kernel
theorem dL_law_391 : decode cL_law 391 = .ok (.iaload, 1) := by decide +kernel
theorem dL_law_392 : decode cL_law 392 = .ok (.invokevirtual 54, 3) := by decide +kernel
theorem dL_law_395 : decode cL_law 395 = .ok (.aload_n 2, 1) := by decide +kernel
theorem dL_law_396 : decode cL_law 396 = .ok (.aload_n 0, 1) := by decide +kernel
theorem dL_law_397 : decode cL_law 397 = .ok (.iload_n 3, 1) := by decide +kernel
theorem dL_law_398 : decode cL_law 398 = .ok (.iconst 1, 1) := by decide +kernel
theorem dL_law_399 : decode cL_law 399 = .ok (.iadd, 1) := by decide +kernel
theorem dL_law_400 : decode cL_law 400 = .ok (.iaload, 1) := by decide +kernel
theorem dL_law_401 : decode cL_law 401 = .ok (.aload_n 0, 1) := by decide +kernel
theorem dL_law_402 : decode cL_law 402 = .ok (.iload_n 3, 1) := by decide +kernel
theorem dL_law_403 : decode cL_law 403 = .ok (.iconst 2, 1) := by decide +kernel
theorem dL_law_404 : decode cL_law 404 = .ok (.iadd, 1) := by decide +kernel
theorem dL_law_405 : decode cL_law 405 = .ok (.iaload, 1) := by decide +kernel
theorem dL_law_406 : decode cL_law 406 = .ok (.aload_n 0, 1) := by decide +kernel
theorem dL_law_407 : decode cL_law 407 = .ok (.iload_n 3, 1) := by decide +kernel
theorem dL_law_408 : decode cL_law 408 = .ok (.iconst 3, 1) := by decide +kernel
theorem dL_law_409 : decode cL_law 409 = .ok (.iadd, 1) := by decide +kernel
theorem dL_law_410 : decode cL_law 410 = .ok (.iaload, 1) := by decide +kernel
theorem dL_law_411 : decode cL_law 411 = .ok (.invokevirtual 58, 3) := by decide +kernel
theorem dL_law_414 : decode cL_law 414 = .ok (.if_icmp .eq 225, 3) := by decide +kernel
theorem dL_law_417 : decode cL_law 417 = .ok (.iconst 0, 1) := by decide +kernel
theorem dL_law_418 : decode cL_law 418 = .ok (.ireturn, 1) := by decide +kernel
theorem dL_law_419 : decode cL_law 419 = .ok (.aload_n 1, 1) := by decide +kernel
theorem dL_law_420 : decode cL_law 420 = .ok (.aload_n 0, 1) := by decide +kernel
theorem dL_law_421 : decode cL_law 421 = .ok (.iload_n 3, 1) := by decide +kernel
theorem dL_law_422 : decode cL_law 422 = .ok (.iconst 1, 1) := by decide +kernel
theorem dL_law_423 : decode cL_law 423 = .ok (.iadd, 1) := by decide +kernel
theorem dL_law_424 : decode cL_law 424 = .ok (.iaload, 1) := by decide +kernel
theorem dL_law_425 : decode cL_law 425 = .ok (.aload_n 0, 1) := by decide +kernel
theorem dL_law_426 : decode cL_law 426 = .ok (.iload_n 3, 1) := by decide +kernel
theorem dL_law_427 : decode cL_law 427 = .ok (.iconst 2, 1) := by decide +kernel
theorem dL_law_428 : decode cL_law 428 = .ok (.iadd, 1) := by decide +kernel
theorem dL_law_429 : decode cL_law 429 = .ok (.iaload, 1) := by decide +kernel
theorem dL_law_430 : decode cL_law 430 = .ok (.invokevirtual 59, 3) := by decide +kernel
theorem dL_law_433 : decode cL_law 433 = .ok (.aload_n 2, 1) := by decide +kernel
theorem dL_law_434 : decode cL_law 434 = .ok (.aload_n 0, 1) := by decide +kernel
theorem dL_law_435 : decode cL_law 435 = .ok (.iload_n 3, 1) := by decide +kernel
theorem dL_law_436 : decode cL_law 436 = .ok (.iconst 1, 1) := by decide +kernel
theorem dL_law_437 : decode cL_law 437 = .ok (.iadd, 1) := by decide +kernel
theorem dL_law_438 : decode cL_law 438 = .ok (.iaload, 1) := by decide +kernel
theorem dL_law_439 : decode cL_law 439 = .ok (.aload_n 0, 1) := by decide +kernel
theorem dL_law_440 : decode cL_law 440 = .ok (.iload_n 3, 1) := by decide +kernel
theorem dL_law_441 : decode cL_law 441 = .ok (.iconst 2, 1) := by decide +kernel
theorem dL_law_442 : decode cL_law 442 = .ok (.iadd, 1) := by decide +kernel
theorem dL_law_443 : decode cL_law 443 = .ok (.iaload, 1) := by decide +kernel
theorem dL_law_444 : decode cL_law 444 = .ok (.invokevirtual 62, 3) := by decide +kernel
theorem dL_law_447 : decode cL_law 447 = .ok (.if_icmp .eq 192, 3) := by decide +kernel
theorem dL_law_450 : decode cL_law 450 = .ok (.iconst 0, 1) := by decide +kernel
theorem dL_law_451 : decode cL_law 451 = .ok (.ireturn, 1) := by decide +kernel
theorem dL_law_452 : decode cL_law 452 = .ok (.aload_n 1, 1) := by decide +kernel
theorem dL_law_453 : decode cL_law 453 = .ok (.invokevirtual 63, 3) := by decide +kernel
theorem dL_law_456 : decode cL_law 456 = .ok (.aload_n 2, 1) := by decide +kernel
theorem dL_law_457 : decode cL_law 457 = .ok (.invokevirtual 66, 3) := by decide +kernel
theorem dL_law_460 : decode cL_law 460 = .ok (.if_icmp .eq 179, 3) := by decide +kernel
theorem dL_law_463 : decode cL_law 463 = .ok (.iconst 0, 1) := by decide +kernel
theorem dL_law_464 : decode cL_law 464 = .ok (.ireturn, 1) := by decide +kernel
theorem dL_law_465 : decode cL_law 465 = .ok (.aload_n 1, 1) := by decide +kernel
theorem dL_law_466 : decode cL_law 466 = .ok (.aload_n 0, 1) := by decide +kernel
theorem dL_law_467 : decode cL_law 467 = .ok (.iload_n 3, 1) := by decide +kernel
theorem dL_law_468 : decode cL_law 468 = .ok (.iconst 1, 1) := by decide +kernel
theorem dL_law_469 : decode cL_law 469 = .ok (.iadd, 1) := by decide +kernel
theorem dL_law_470 : decode cL_law 470 = .ok (.iaload, 1) := by decide +kernel
theorem dL_law_471 : decode cL_law 471 = .ok (.invokevirtual 67, 3) := by decide +kernel
theorem dL_law_474 : decode cL_law 474 = .ok (.aload_n 2, 1) := by decide +kernel
theorem dL_law_475 : decode cL_law 475 = .ok (.aload_n 0, 1) := by decide +kernel
theorem dL_law_476 : decode cL_law 476 = .ok (.iload_n 3, 1) := by decide +kernel
theorem dL_law_477 : decode cL_law 477 = .ok (.iconst 1, 1) := by decide +kernel
theorem dL_law_478 : decode cL_law 478 = .ok (.iadd, 1) := by decide +kernel
theorem dL_law_479 : decode cL_law 479 = .ok (.iaload, 1) := by decide +kernel
theorem dL_law_480 : decode cL_law 480 = .ok (.invokevirtual 70, 3) := by decide +kernel
theorem dL_law_483 : decode cL_law 483 = .ok (.if_icmp .eq 156, 3) := by decide +kernel
theorem dL_law_486 : decode cL_law 486 = .ok (.iconst 0, 1) := by decide +kernel
theorem dL_law_487 : decode cL_law 487 = .ok (.ireturn, 1) := by decide +kernel
theorem dL_law_488 : decode cL_law 488 = .ok (.aload_n 1, 1) := by decide +kernel
theorem dL_law_489 : decode cL_law 489 = .ok (.aload_n 0, 1) := by decide +kernel
theorem dL_law_490 : decode cL_law 490 = .ok (.iload_n 3, 1) := by decide +kernel
theorem dL_law_491 : decode cL_law 491 = .ok (.iconst 1, 1) := by decide +kernel
theorem dL_law_492 : decode cL_law 492 = .ok (.iadd, 1) := by decide +kernel
theorem dL_law_493 : decode cL_law 493 = .ok (.iaload, 1) := by decide +kernel
theorem dL_law_494 : decode cL_law 494 = .ok (.i2l, 1) := by decide +kernel
theorem dL_law_495 : decode cL_law 495 = .ok (.bipush 32, 2) := by decide +kernel
theorem dL_law_497 : decode cL_law 497 = .ok (.lshl, 1) := by decide +kernel
theorem dL_law_498 : decode cL_law 498 = .ok (.aload_n 0, 1) := by decide +kernel
theorem dL_law_499 : decode cL_law 499 = .ok (.iload_n 3, 1) := by decide +kernel
theorem dL_law_500 : decode cL_law 500 = .ok (.iconst 2, 1) := by decide +kernel
theorem dL_law_501 : decode cL_law 501 = .ok (.iadd, 1) := by decide +kernel
theorem dL_law_502 : decode cL_law 502 = .ok (.iaload, 1) := by decide +kernel
theorem dL_law_503 : decode cL_law 503 = .ok (.i2l, 1) := by decide +kernel
theorem dL_law_504 : decode cL_law 504 = .ok (.ldc2_w 71, 3) := by decide +kernel
theorem dL_law_507 : decode cL_law 507 = .ok (.land, 1) := by decide +kernel
theorem dL_law_508 : decode cL_law 508 = .ok (.lor, 1) := by decide +kernel
theorem dL_law_509 : decode cL_law 509 = .ok (.invokevirtual 73, 3) := by decide +kernel
theorem dL_law_512 : decode cL_law 512 = .ok (.aload_n 2, 1) := by decide +kernel
theorem dL_law_513 : decode cL_law 513 = .ok (.aload_n 0, 1) := by decide +kernel
theorem dL_law_514 : decode cL_law 514 = .ok (.iload_n 3, 1) := by decide +kernel
theorem dL_law_515 : decode cL_law 515 = .ok (.iconst 1, 1) := by decide +kernel
theorem dL_law_516 : decode cL_law 516 = .ok (.iadd, 1) := by decide +kernel
theorem dL_law_517 : decode cL_law 517 = .ok (.iaload, 1) := by decide +kernel
theorem dL_law_518 : decode cL_law 518 = .ok (.i2l, 1) := by decide +kernel
theorem dL_law_519 : decode cL_law 519 = .ok (.bipush 32, 2) := by decide +kernel
theorem dL_law_521 : decode cL_law 521 = .ok (.lshl, 1) := by decide +kernel
theorem dL_law_522 : decode cL_law 522 = .ok (.aload_n 0, 1) := by decide +kernel
theorem dL_law_523 : decode cL_law 523 = .ok (.iload_n 3, 1) := by decide +kernel
theorem dL_law_524 : decode cL_law 524 = .ok (.iconst 2, 1) := by decide +kernel
theorem dL_law_525 : decode cL_law 525 = .ok (.iadd, 1) := by decide +kernel
theorem dL_law_526 : decode cL_law 526 = .ok (.iaload, 1) := by decide +kernel
theorem dL_law_527 : decode cL_law 527 = .ok (.i2l, 1) := by decide +kernel
theorem dL_law_528 : decode cL_law 528 = .ok (.ldc2_w 71, 3) := by decide +kernel
theorem dL_law_531 : decode cL_law 531 = .ok (.land, 1) := by decide +kernel
theorem dL_law_532 : decode cL_law 532 = .ok (.lor, 1) := by decide +kernel
theorem dL_law_533 : decode cL_law 533 = .ok (.invokevirtual 77, 3) := by decide +kernel
theorem dL_law_536 : decode cL_law 536 = .ok (.if_icmp .eq 103, 3) := by decide +kernel
theorem dL_law_539 : decode cL_law 539 = .ok (.iconst 0, 1) := by decide +kernel
theorem dL_law_540 : decode cL_law 540 = .ok (.ireturn, 1) := by decide +kernel
theorem dL_law_541 : decode cL_law 541 = .ok (.aload_n 1, 1) := by decide +kernel
theorem dL_law_542 : decode cL_law 542 = .ok (.invokevirtual 78, 3) := by decide +kernel
theorem dL_law_545 : decode cL_law 545 = .ok (.aload_n 2, 1) := by decide +kernel
theorem dL_law_546 : decode cL_law 546 = .ok (.invokevirtual 81, 3) := by decide +kernel
theorem dL_law_549 : decode cL_law 549 = .ok (.if_icmp .eq 90, 3) := by decide +kernel
theorem dL_law_552 : decode cL_law 552 = .ok (.iconst 0, 1) := by decide +kernel
theorem dL_law_553 : decode cL_law 553 = .ok (.ireturn, 1) := by decide +kernel
theorem dL_law_554 : decode cL_law 554 = .ok (.aload_n 1, 1) := by decide +kernel
theorem dL_law_555 : decode cL_law 555 = .ok (.invokevirtual 82, 3) := by decide +kernel
theorem dL_law_558 : decode cL_law 558 = .ok (.aload_n 2, 1) := by decide +kernel
theorem dL_law_559 : decode cL_law 559 = .ok (.invokevirtual 85, 3) := by decide +kernel
theorem dL_law_562 : decode cL_law 562 = .ok (.if_icmp .eq 77, 3) := by decide +kernel
theorem dL_law_565 : decode cL_law 565 = .ok (.iconst 0, 1) := by decide +kernel
theorem dL_law_566 : decode cL_law 566 = .ok (.ireturn, 1) := by decide +kernel
theorem dL_law_567 : decode cL_law 567 = .ok (.aload_n 1, 1) := by decide +kernel
theorem dL_law_568 : decode cL_law 568 = .ok (.invokevirtual 86, 3) := by decide +kernel
theorem dL_law_571 : decode cL_law 571 = .ok (.aload_n 2, 1) := by decide +kernel
theorem dL_law_572 : decode cL_law 572 = .ok (.invokevirtual 89, 3) := by decide +kernel
theorem dL_law_575 : decode cL_law 575 = .ok (.if_icmp .eq 64, 3) := by decide +kernel
theorem dL_law_578 : decode cL_law 578 = .ok (.iconst 0, 1) := by decide +kernel
theorem dL_law_579 : decode cL_law 579 = .ok (.ireturn, 1) := by decide +kernel
theorem dL_law_580 : decode cL_law 580 = .ok (.aload_n 1, 1) := by decide +kernel
theorem dL_law_581 : decode cL_law 581 = .ok (.invokevirtual 90, 3) := by decide +kernel
theorem dL_law_584 : decode cL_law 584 = .ok (.aload_n 2, 1) := by decide +kernel
theorem dL_law_585 : decode cL_law 585 = .ok (.invokevirtual 93, 3) := by decide +kernel
theorem dL_law_588 : decode cL_law 588 = .ok (.if_icmp .eq 51, 3) := by decide +kernel
theorem dL_law_591 : decode cL_law 591 = .ok (.iconst 0, 1) := by decide +kernel
theorem dL_law_592 : decode cL_law 592 = .ok (.ireturn, 1) := by decide +kernel
theorem dL_law_593 : decode cL_law 593 = .ok (.aload_n 1, 1) := by decide +kernel
theorem dL_law_594 : decode cL_law 594 = .ok (.aload_n 0, 1) := by decide +kernel
theorem dL_law_595 : decode cL_law 595 = .ok (.iload_n 3, 1) := by decide +kernel
theorem dL_law_596 : decode cL_law 596 = .ok (.iconst 1, 1) := by decide +kernel
theorem dL_law_597 : decode cL_law 597 = .ok (.iadd, 1) := by decide +kernel
theorem dL_law_598 : decode cL_law 598 = .ok (.iaload, 1) := by decide +kernel
theorem dL_law_599 : decode cL_law 599 = .ok (.invokevirtual 94, 3) := by decide +kernel
theorem dL_law_602 : decode cL_law 602 = .ok (.aload_n 2, 1) := by decide +kernel
theorem dL_law_603 : decode cL_law 603 = .ok (.aload_n 0, 1) := by decide +kernel
theorem dL_law_604 : decode cL_law 604 = .ok (.iload_n 3, 1) := by decide +kernel
theorem dL_law_605 : decode cL_law 605 = .ok (.iconst 1, 1) := by decide +kernel
theorem dL_law_606 : decode cL_law 606 = .ok (.iadd, 1) := by decide +kernel
theorem dL_law_607 : decode cL_law 607 = .ok (.iaload, 1) := by decide +kernel
theorem dL_law_608 : decode cL_law 608 = .ok (.invokevirtual 97, 3) := by decide +kernel
theorem dL_law_611 : decode cL_law 611 = .ok (.if_icmp .eq 28, 3) := by decide +kernel
theorem dL_law_614 : decode cL_law 614 = .ok (.iconst 0, 1) := by decide +kernel
theorem dL_law_615 : decode cL_law 615 = .ok (.ireturn, 1) := by decide +kernel
theorem dL_law_616 : decode cL_law 616 = .ok (.aload_n 1, 1) := by decide +kernel
theorem dL_law_617 : decode cL_law 617 = .ok (.aload_n 0, 1) := by decide +kernel
theorem dL_law_618 : decode cL_law 618 = .ok (.iload_n 3, 1) := by decide +kernel
theorem dL_law_619 : decode cL_law 619 = .ok (.iconst 1, 1) := by decide +kernel
theorem dL_law_620 : decode cL_law 620 = .ok (.iadd, 1) := by decide +kernel
theorem dL_law_621 : decode cL_law 621 = .ok (.iaload, 1) := by decide +kernel
theorem dL_law_622 : decode cL_law 622 = .ok (.invokevirtual 98, 3) := by decide +kernel
theorem dL_law_625 : decode cL_law 625 = .ok (.aload_n 2, 1) := by decide +kernel
theorem dL_law_626 : decode cL_law 626 = .ok (.aload_n 0, 1) := by decide +kernel
theorem dL_law_627 : decode cL_law 627 = .ok (.iload_n 3, 1) := by decide +kernel
theorem dL_law_628 : decode cL_law 628 = .ok (.iconst 1, 1) := by decide +kernel
theorem dL_law_629 : decode cL_law 629 = .ok (.iadd, 1) := by decide +kernel
theorem dL_law_630 : decode cL_law 630 = .ok (.iaload, 1) := by decide +kernel
theorem dL_law_631 : decode cL_law 631 = .ok (.invokevirtual 101, 3) := by decide +kernel
theorem dL_law_634 : decode cL_law 634 = .ok (.if_icmp .eq 5, 3) := by decide +kernel
theorem dL_law_637 : decode cL_law 637 = .ok (.iconst 0, 1) := by decide +kernel
theorem dL_law_638 : decode cL_law 638 = .ok (.ireturn, 1) := by decide +kernel
theorem dL_law_639 : decode cL_law 639 = .ok (.iinc 3 5, 3) := by decide +kernel
theorem dL_law_642 : decode cL_law 642 = .ok (.goto (-624), 3) := by decide +kernel
theorem dL_law_645 : decode cL_law 645 = .ok (.iconst 1, 1) := by decide +kernel
theorem dL_law_646 : decode cL_law 646 = .ok (.ireturn, 1) := by decide +kernel
abbrev vwCl : List vw_C := [(RX0, TX0, 7), (RX1, TX1, 2), (RX2, TX2, 2), (RX3, TX3, 2), (RX4, TX4, 2), (RX5, TX5, 8), (RX6, TX6, 2), (RX7, TX7, 6), (RX8, TX8, 14)]
end
section
/-! generic rows over the kit: worlds, calls, loops -/
abbrev zTy (Z : Nat → ClassId) : List (ClassId × FieldType) := [(Z 0, .int), (Z 1, .char), (Z 2, .object "WarmRods$Clock")]
def zNest : List Cond := [.methodLinkNest "WarmRods" 9 ⟨"WarmRods$Clock", "<init>", "()V"⟩ "WarmRods", .methodLinkNest "WarmRods$Clock" 17 ⟨"WarmRods$Drift", "<init>", "()V"⟩ "WarmRods", .methodLinkNest "WarmRods$Clock" 24 ⟨"WarmRods$Log", "<init>", "()V"⟩ "WarmRods", .fieldLinkNest "WarmRods" 72 "WarmRods$Clock" "drift" "LWarmRods$Drift;" "WarmRods", .fieldLinkNest "WarmRods" 83 "WarmRods$Clock" "log" "LWarmRods$Log;" "WarmRods", .fieldLinkNest "WarmRods" 106 "WarmRods$Clock" "tray" "I" "WarmRods", .fieldLinkNest "WarmRods" 100 "WarmRods$Clock" "hours" "I" "WarmRods", .fieldLinkNest "WarmRods" 112 "WarmRods$Clock" "radioHours" "I" "WarmRods", .fieldLinkNest "WarmRods" 109 "WarmRods$Clock" "timesSet" "I" "WarmRods", .methodLinkNest "WarmRods$History" 17 ⟨"WarmRods$Clock", "<init>", "()V"⟩ "WarmRods", .fieldLinkNest "WarmRods" 126 "WarmRods$History" "kept" "I" "WarmRods", .methodLinkNest "WarmRods" 25 ⟨"WarmRods$Slot", "<init>", "()V"⟩ "WarmRods", .methodLinkNest "WarmRods$Slot" 9 ⟨"WarmRods$Clock", "<init>", "()V"⟩ "WarmRods", .fieldLinkNest "WarmRods" 210 "WarmRods$Slot" "saved" "LWarmRods$Clock;" "WarmRods", .fieldLinkNest "WarmRods" 215 "WarmRods$Slot" "isFilled" "Z" "WarmRods", .methodLinkNest "WarmRods" 35 ⟨"WarmRods$Reader", "<init>", "()V"⟩ "WarmRods", .methodLinkNest "WarmRods$Reader" 11 ⟨"WarmRods$Pad", "<init>", "()V"⟩ "WarmRods", .fieldLinkNest "WarmRods$Reader" 29 "WarmRods$Pad" "length" "I" "WarmRods", .fieldLinkNest "WarmRods" 122 "WarmRods$Pad" "length" "I" "WarmRods", .fieldLinkNest "WarmRods" 118 "WarmRods$Reader" "pad" "LWarmRods$Pad;" "WarmRods", .fieldLinkNest "WarmRods" 219 "WarmRods$Reader" "order" "I" "WarmRods", .fieldLinkNest "WarmRods" 222 "WarmRods$Reader" "value" "I" "WarmRods", .fieldLinkNest "WarmRods" 225 "WarmRods$Reader" "air" "I" "WarmRods", .fieldLinkNest "WarmRods" 228 "WarmRods$Reader" "radio" "I" "WarmRods", .fieldLinkNest "WarmRods" 231 "WarmRods$Reader" "hours" "I" "WarmRods", .methodLinkNest "WarmRods" 42 ⟨"WarmRods$Drift", "<init>", "()V"⟩ "WarmRods", .fieldLinkNest "WarmRods$Clock" 55 "WarmRods" "LEAST_VALUES" "[I" "WarmRods", .fieldLinkNest "WarmRods$Clock" 58 "WarmRods" "GREATEST_VALUES" "[I" "WarmRods", .methodLinkNest "WarmRods$Clock" 69 ⟨"WarmRods", "isHeat", "(I)Z"⟩ "WarmRods", .methodLinkNest "WarmRods$Clock" 73 ⟨"WarmRods", "isAir", "(I)Z"⟩ "WarmRods"]
def zIsNest : Cond → Bool
  | .fieldLinkNest .. => true
  | .methodLinkNest .. => true
  | _ => false
theorem zNest_ok : zNest.all zIsNest = true := rfl
def zNW (U : State) : Prop := (∀ w ∈ zNest, va_Nw w U) ∧ va_AO "WarmRods$Clock" U
theorem zNW_warm {s U : State} (hW : s.WarmedH U.vm) (h : zNW s) : zNW U := by
  refine ⟨fun w hw => ?_, va_AO.moved hW.alike h.2⟩
  have hb : zIsNest w = true := List.all_eq_true.mp zNest_ok w hw
  have h1 := h.1 w hw
  cases w <;> first | exact va_Nw.warmF hW h1 | exact va_Nw.warmM hW h1 | (simp [zIsNest] at hb)
theorem zNW_same {s U : State} (hW : s.vm = U.vm) (h : zNW s) : zNW U := by
  refine ⟨fun w hw => ?_, va_AO.moved (u := s) (by rw [← hW]; exact Vm.Alike.refl s.vm) h.2⟩
  have hb : zIsNest w = true := List.all_eq_true.mp zNest_ok w hw
  have h1 := h.1 w hw
  cases w <;> first | exact va_Nw.same rfl hW h1 | (simp [zIsNest] at hb)
def zLeast : Nat → Int32 := fun k => match k with
  | 2 => -500
  | 3 => 1
  | _ => 0
def zGreat : Nat → Int32 := fun k => match k with
  | 0 => 99
  | 1 => 99
  | 2 => 500
  | _ => 5000
def zMore : Nat → Int32 := fun k => match k with
  | 0 => 100
  | 3 => 100000
  | 4 => 1000000000
  | _ => 0
def zTab (n : String) (N : Nat) (f : Nat → Int32) (A : Nat → Prop) (U : State) (H : Heap) : Prop := ∃ t : Nat, va_Z "WarmRods" n "[I" (.ref t) A U H ∧ va_T .int t N (fun k => .int (f k)) A U H
theorem zTab.moved {n : String} {N : Nat} {f : Nat → Int32} {A : Nat → Prop} {u U : State} {H : Heap} (hvm : u.vm.Alike U.vm) (h : zTab n N f A u H) : zTab n N f A U H := by
  obtain ⟨t, h1, h2⟩ := h
  exact ⟨t, h1.moved hvm, h2.moved hvm⟩
theorem zTab.kept {n : String} {N : Nat} {f : Nat → Int32} {A : Nat → Prop} {U : State} {H H1 : Heap} (h : zTab n N f A U H) (hq : ∀ a : Nat, a < H.size → ¬ A a → H1[a]? = H[a]?) : zTab n N f A U H1 := by
  obtain ⟨t, h1, h2⟩ := h
  exact ⟨t, h1.kept hq, h2.kept hq⟩
theorem zTab.narrow {n : String} {N : Nat} {f : Nat → Int32} {A B : Nat → Prop} {U : State} {H : Heap} (h : zTab n N f A U H) (hAB : ∀ q, B q → A q) : zTab n N f B U H := by
  obtain ⟨t, h1, h2⟩ := h
  exact ⟨t, h1.narrow hAB, h2.narrow hAB⟩
def zST (A : Nat → Prop) (U : State) (H : Heap) : Prop := zTab "LEAST_VALUES" 4 zLeast A U H ∧ zTab "GREATEST_VALUES" 4 zGreat A U H ∧ zTab "MORE_FACTS" 7 zMore A U H
def zSW (A : Nat → Prop) (U : State) : Prop := zNW U ∧ zST A U U.heap
def zWP (G : va_G) (Z : Nat → ClassId) (sz : Nat) (ws : va_W) (U : State) : Prop := U.heap.size = sz ∧ va_P G vwCl ws U.heap ∧ va_K G vwCl (zTy Z) U ∧ va_D (fun _ => True) ws ∧ zSW (va_A ws sz) U
def zB (G : va_G) (A : Nat → Prop) (ws : va_W) (t : State) : Prop := va_P G vwCl ws t.heap ∧ va_D A ws
theorem zSW_call {A B : Nat → Prop} {s U : State} {H : Heap} {locs : List Loc} (h : zSW A s) (hS : va_S A s.heap H locs) (hW : s.WarmedH U.vm) (hU : U.heap = H) (hAB : ∀ q, B q → A q) : zSW B U := by
  refine ⟨zNW_warm hW h.1, ?_⟩
  have f : ∀ {n : String} {N : Nat} {f : Nat → Int32}, zTab n N f A s s.heap → zTab n N f B U U.heap := fun h => by
    rw [hU]
    exact ((h.kept (fun a h1 h2 => hS.2.1 a h1 h2)).moved hW.alike).narrow hAB
  exact ⟨f h.2.1, f h.2.2.1, f h.2.2.2⟩
theorem zBlind {G : va_G} {Z : Nat → ClassId} {sz : Nat} {ws : va_W} {av : List Value} : FrameBlind (va_Pc av (zWP G Z sz ws)) := by
  intro a U g mk q
  obtain ⟨q1, q2, q3, q4, q5, q6⟩ := q
  refine ⟨q1, q2, q3, va_K.moved (u := U) (U := U.calling g mk a) (Vm.Alike.refl U.vm) q4, q5, zNW_same (s := U) (U := U.calling g mk a) rfl q6.1, ?_⟩
  exact ⟨q6.2.1.moved (Vm.Alike.refl U.vm), q6.2.2.1.moved (Vm.Alike.refl U.vm), q6.2.2.2.moved (Vm.Alike.refl U.vm)⟩
/-- the entry of a method -/
theorem zEnter {G : va_G} {Z : Nat → ClassId} {sz : Nat} {ws : va_W} {av : List Value} {args : Array Value} {s : State} (h : va_Pc av (zWP G Z sz ws) args s) : args = av.toArray ∧ sz = s.heap.size ∧ va_P G vwCl ws s.heap ∧ va_K G vwCl (zTy Z) s ∧ va_D (va_A ws s.heap.size) ws ∧ (∀ q : Nat, s.heap.size ≤ q → va_A ws s.heap.size q) ∧ va_S (va_A ws s.heap.size) s.heap s.heap [] ∧ zSW (va_A ws s.heap.size) s := by
  obtain ⟨h1, h2, h3, h4, h5, h6⟩ := h
  subst h2
  exact ⟨h1, rfl, h3, h4, h5.self, fun q h => Or.inr h, va_S.rf, h6⟩
theorem zAt {ws wc : va_W} {is : List Nat} (hs : is.map (fun i => ws[i]?) = wc.map some) : ∀ (k : Nat) (q : Nat × va_E), wc[k]? = some q → ∃ i, is[k]? = some i ∧ ws[i]? = some q := by
  intro k q hq
  have h1 : (is.map (fun i => ws[i]?))[k]? = some (some q) := by rw [hs, List.getElem?_map, hq]; rfl
  rw [List.getElem?_map] at h1
  cases hi : is[k]? with
  | none => rw [hi] at h1; cases h1
  | some i => rw [hi] at h1; exact ⟨i, rfl, Option.some.inj h1⟩
theorem zPsub {G : va_G} {cl : List vw_C} {ws wc : va_W} {H : Heap} (h : va_P G cl ws H) {is : List Nat} (hs : is.map (fun i => ws[i]?) = wc.map some) : va_P G cl wc H := by
  intro k q hq
  obtain ⟨i, -, hi⟩ := zAt hs k q hq
  exact h i q hi
section ZC
variable {p : Program} {l : Launch} {e : Env} {R : Room} {s : State} {m : MethodId} {args : Array Value} {below : List Frame} {meth : Method} {c : Code} {H : Heap} {locs : List Loc} {cells slots : Nat} {Q : State → Prop}
variable {cc : ByteArray} {pc : Nat} {ls : Array Slot} {rest st0 : List Value} {a : Array Value} {A : Nat → Prop} {mc ms : Nat} {G : va_G} {Z : Nat → ClassId} {ws wc wr : va_W}
theorem zPreS {As : List Value} (hK : va_K G vwCl (zTy Z) s) (hP : va_P G vwCl ws H) (hD : va_D A ws) (hS : va_S A s.heap H locs) (hA : ∀ q : Nat, s.heap.size ≤ q → A q) (hSW : zSW A s) (isC : List Nat) (hC : isC.map (fun i => ws[i]?) = wc.map some) (hnC : va_nd isC = true) : PreS s H (va_Pc As (zWP G Z H.size wc)) As :=
  ⟨zBlind, fun U hU hW => ⟨rfl, by rw [hU], by rw [hU]; exact zPsub hP hC, va_K.moved hW.alike hK, (hD.sub isC hnC hC).weaken (fun _ _ _ _ => trivial), zSW_call hSW hS hW hU (va_free hD hS hA isC hC)⟩⟩
theorem zPreV {b : Addr} {As : List Value} {C : String} {q : vw_C} {ci : Nat} {fs : List Value} (hK : va_K G vwCl (zTy Z) s) (hP : va_P G vwCl ws H) (hD : va_D A ws) (hS : va_S A s.heap H locs) (hA : ∀ q : Nat, s.heap.size ≤ q → A q) (hSW : zSW A s) (isC : List Nat) (hC : isC.map (fun i => ws[i]?) = wc.map some) (hnC : va_nd isC = true) (q0 : Nat) (hcq : vwCl[ci]? = some q) (he : ws[q0]? = some (b, .inr (ci, fs))) (hCq : q.1 = C) : PreV s H C b (va_Pc (.ref b :: As) (zWP G Z H.size wc)) As := by
  have h := zPreS (As := .ref b :: As) hK hP hD hS hA hSW isC hC hnC
  subst hCq
  exact ⟨h.1, va_recv hK hP hcq he, h.2⟩
theorem zCi {S : Type} {post : Int32 → S → Prop} {w1 ws1 : S → va_W} (hr : va_Run p l e R s m args below meth c H locs cells slots mc ms (F0 m pc ls st0) rest (va_Qi post (fun u t => zB G (va_A wc H.size) (w1 u) t) (va_A wc H.size) a) (va_A wc H.size))
    (hP : va_P G vwCl ws H) (hD : va_D A ws) (hS : va_S A s.heap H locs) (hA : ∀ q : Nat, s.heap.size ≤ q → A q) (isC isR isN : List Nat) (hC : isC.map (fun i => ws[i]?) = wc.map some) (hR : isR.map (fun i => ws[i]?) = wr.map some) (hn : va_nd isR = true) (hdis : ∀ i ∈ isR, i ∉ isC) (hnN : va_nd isN = true) (hN : ∀ u, isN.map (fun i => (wr ++ w1 u)[i]?) = (ws1 u).map some)
    (kk : ∀ (r : Int32) (u : S) (H1 : Heap) (locs1 : List Loc), post r u → va_P G vwCl (ws1 u) H1 → va_D A (ws1 u) → va_S A s.heap H1 locs1 → W p l e R s m args below meth c H1 locs1 (cells + mc) (slots + ms) Q (F0 m (pc + 3) ls (.int r :: rest))) : W p l e R s m args below meth c H locs cells slots Q (F0 m pc ls st0) := by
  have hF := va_free hD hS hA isC hC
  refine va_calli hr hS (fun q _ h => hF q h) hF (fun r u t H1 locs1 ht hvm hw hB hz1 hk1 hS1 => ?_)
  obtain ⟨hP1, hD1⟩ := hB
  rw [ht] at hP1
  obtain ⟨hP2, hD2⟩ := va_join hP hD isC isR hC hR hn hdis hk1 hF hP1 hD1
  exact kk r u H1 locs1 hw (zPsub hP2 (hN u)) (hD2.sub isN hnN (hN u)) hS1
theorem zCl {S : Type} {post : Int64 → S → Prop} {w1 ws1 : S → va_W} (hr : va_Run p l e R s m args below meth c H locs cells slots mc ms (F0 m pc ls st0) rest (va_Ql post (fun u t => zB G (va_A wc H.size) (w1 u) t) (va_A wc H.size) a) (va_A wc H.size))
    (hP : va_P G vwCl ws H) (hD : va_D A ws) (hS : va_S A s.heap H locs) (hA : ∀ q : Nat, s.heap.size ≤ q → A q) (isC isR isN : List Nat) (hC : isC.map (fun i => ws[i]?) = wc.map some) (hR : isR.map (fun i => ws[i]?) = wr.map some) (hn : va_nd isR = true) (hdis : ∀ i ∈ isR, i ∉ isC) (hnN : va_nd isN = true) (hN : ∀ u, isN.map (fun i => (wr ++ w1 u)[i]?) = (ws1 u).map some)
    (kk : ∀ (r : Int64) (u : S) (H1 : Heap) (locs1 : List Loc), post r u → va_P G vwCl (ws1 u) H1 → va_D A (ws1 u) → va_S A s.heap H1 locs1 → W p l e R s m args below meth c H1 locs1 (cells + mc) (slots + ms) Q (F0 m (pc + 3) ls (.long r :: rest))) : W p l e R s m args below meth c H locs cells slots Q (F0 m pc ls st0) := by
  have hF := va_free hD hS hA isC hC
  refine va_calll hr hS (fun q _ h => hF q h) hF (fun r u t H1 locs1 ht hvm hw hB hz1 hk1 hS1 => ?_)
  obtain ⟨hP1, hD1⟩ := hB
  rw [ht] at hP1
  obtain ⟨hP2, hD2⟩ := va_join hP hD isC isR hC hR hn hdis hk1 hF hP1 hD1
  exact kk r u H1 locs1 hw (zPsub hP2 (hN u)) (hD2.sub isN hnN (hN u)) hS1
theorem zCv {S : Type} {post : S → Prop} {w1 ws1 : S → va_W} (hr : va_Run p l e R s m args below meth c H locs cells slots mc ms (F0 m pc ls st0) rest (va_Qv post (fun u t => zB G (va_A wc H.size) (w1 u) t) (va_A wc H.size) a) (va_A wc H.size))
    (hP : va_P G vwCl ws H) (hD : va_D A ws) (hS : va_S A s.heap H locs) (hA : ∀ q : Nat, s.heap.size ≤ q → A q) (isC isR isN : List Nat) (hC : isC.map (fun i => ws[i]?) = wc.map some) (hR : isR.map (fun i => ws[i]?) = wr.map some) (hn : va_nd isR = true) (hdis : ∀ i ∈ isR, i ∉ isC) (hnN : va_nd isN = true) (hN : ∀ u, isN.map (fun i => (wr ++ w1 u)[i]?) = (ws1 u).map some)
    (kk : ∀ (u : S) (H1 : Heap) (locs1 : List Loc), post u → va_P G vwCl (ws1 u) H1 → va_D A (ws1 u) → va_S A s.heap H1 locs1 → W p l e R s m args below meth c H1 locs1 (cells + mc) (slots + ms) Q (F0 m (pc + 3) ls rest)) : W p l e R s m args below meth c H locs cells slots Q (F0 m pc ls st0) := by
  have hF := va_free hD hS hA isC hC
  refine va_callv hr hS (fun q _ h => hF q h) hF (fun u t H1 locs1 ht hvm hw hB hz1 hk1 hS1 => ?_)
  obtain ⟨hP1, hD1⟩ := hB
  rw [ht] at hP1
  obtain ⟨hP2, hD2⟩ := va_join hP hD isC isR hC hR hn hdis hk1 hF hP1 hD1
  exact kk u H1 locs1 hw (zPsub hP2 (hN u)) (hD2.sub isN hnN (hN u)) hS1
/-- a loop, by a measure that falls -/
theorem zLoop {σ : Type} {nL : Nat} (CW : σ → va_W) (LV : σ → List (Nat × Value)) (INV : σ → Prop) (μ : σ → Nat)
    (step : ∀ x : σ, INV x → (∀ y : σ, INV y → μ y < μ x → ∀ (H : Heap) (locs : List Loc) (ls : Array Slot), va_P G vwCl (CW y) H → va_D A (CW y) → va_S A s.heap H locs → lv_has ls nL (LV y) → W p l e R s m args below meth c H locs cells slots Q (F0 m pc ls [])) →
      ∀ (H : Heap) (locs : List Loc) (ls : Array Slot), va_P G vwCl (CW x) H → va_D A (CW x) → va_S A s.heap H locs → lv_has ls nL (LV x) → W p l e R s m args below meth c H locs cells slots Q (F0 m pc ls []))
    (x0 : σ) (h0 : INV x0) {H : Heap} {locs : List Loc} {ls : Array Slot} (hP : va_P G vwCl (CW x0) H) (hD : va_D A (CW x0)) (hS : va_S A s.heap H locs) (hl : lv_has ls nL (LV x0)) : W p l e R s m args below meth c H locs cells slots Q (F0 m pc ls []) := by
  have key : ∀ (n : Nat) (x : σ), INV x → μ x < n → ∀ (H : Heap) (locs : List Loc) (ls : Array Slot), va_P G vwCl (CW x) H → va_D A (CW x) → va_S A s.heap H locs → lv_has ls nL (LV x) → W p l e R s m args below meth c H locs cells slots Q (F0 m pc ls []) := by
    intro n
    induction n with
    | zero => intro x _ h; exact absurd h (Nat.not_lt_zero _)
    | succ n ih => intro x hx hm; exact step x hx (fun y hy hyx => ih y hy (by omega))
  exact key (μ x0 + 1) x0 h0 (Nat.lt_succ_self _) H locs ls hP hD hS hl
theorem zEi {S : Type} {post : Int32 → S → Prop} {w1 : S → va_W} {r : Int32} (u : S) (hq : post r u) (hP : va_P G vwCl (w1 u) H) (hD : va_D A (w1 u)) (hS : va_S A s.heap H locs) : ∀ t : State, t.heap = H → s.WarmedH t.vm → va_Qi post (fun u t => zB G A (w1 u) t) A args s (.returned (some (.int r))) t :=
  fun t ht _ => ⟨⟨r, u, rfl, hq, by rw [ht]; exact hP, hD⟩, hS.F ht⟩
theorem zEl {S : Type} {post : Int64 → S → Prop} {w1 : S → va_W} {r : Int64} (u : S) (hq : post r u) (hP : va_P G vwCl (w1 u) H) (hD : va_D A (w1 u)) (hS : va_S A s.heap H locs) : ∀ t : State, t.heap = H → s.WarmedH t.vm → va_Ql post (fun u t => zB G A (w1 u) t) A args s (.returned (some (.long r))) t :=
  fun t ht _ => ⟨⟨r, u, rfl, hq, by rw [ht]; exact hP, hD⟩, hS.F ht⟩
theorem zEv {S : Type} {post : S → Prop} {w1 : S → va_W} (u : S) (hq : post u) (hP : va_P G vwCl (w1 u) H) (hD : va_D A (w1 u)) (hS : va_S A s.heap H locs) : ∀ t : State, t.heap = H → s.WarmedH t.vm → va_Qv post (fun u t => zB G A (w1 u) t) A args s (.returned none) t :=
  fun t ht _ => ⟨⟨u, rfl, hq, by rw [ht]; exact hP, hD⟩, hS.F ht⟩
/-- arrays at a place told as a number -/
theorem zIn {i : Int32} {j n : Nat} (hi : i = nI j) (hj : j < n) (hn : n < 2 ^ 31) : vp_in i n := by
  rw [hi]; exact vp_in_nI hj hn
theorem zCl0 {i : Int32} {j n : Nat} (hi : i = nI j) (hj : j < n) (hn : n < 2 ^ 31) : i.toNatClampNeg = j := by
  rw [hi]; exact nI_clamp (Nat.lt_trans hj hn)
theorem zIald {a0 : Nat} {cA : ClassId} {n : Nat} {f : Nat → Int32} {tys : List (ClassId × FieldType)} (hexec : p.tables.exec = Jvm.exec) (hb : c.code = cc) (hK : va_K G vwCl tys s) (hP : va_P G vwCl ws H) (q0 t0 : Nat) (ha : ws[q0]? = some (a0, .inl (cA, n, .inl f))) (ht : tys[t0]? = some (cA, .int)) {i : Int32} (j : Nat) (hi : i = nI j) (hj : j < n) (hn : n < 2 ^ 31) (hdg : decode cc pc = .ok (.iaload, 1))
    (kk : W p l e R s m args below meth c H locs cells slots Q (F0 m (pc + 1) ls (.int (f j) :: rest))) : W p l e R s m args below meth c H locs cells slots Q (F0 m pc ls (.int i :: .ref a0 :: rest)) := by
  refine va_iald hexec hb hK hP q0 t0 ha ht (zIn hi hj hn) hdg ?_
  rw [zCl0 hi hj hn]
  exact kk
theorem zCald {a0 : Nat} {cA : ClassId} {n : Nat} {f : Nat → Int32} {tys : List (ClassId × FieldType)} (hexec : p.tables.exec = Jvm.exec) (hb : c.code = cc) (hK : va_K G vwCl tys s) (hP : va_P G vwCl ws H) (q0 t0 : Nat) (ha : ws[q0]? = some (a0, .inl (cA, n, .inl f))) (ht : tys[t0]? = some (cA, .char)) {i : Int32} (j : Nat) (hi : i = nI j) (hj : j < n) (hn : n < 2 ^ 31) (hdg : decode cc pc = .ok (.caload, 1))
    (kk : W p l e R s m args below meth c H locs cells slots Q (F0 m (pc + 1) ls (.int (f j) :: rest))) : W p l e R s m args below meth c H locs cells slots Q (F0 m pc ls (.int i :: .ref a0 :: rest)) := by
  refine va_cald hexec hb hK hP q0 t0 ha ht (zIn hi hj hn) hdg ?_
  rw [zCl0 hi hj hn]
  exact kk
theorem zIast {a0 : Nat} {cA : ClassId} {n : Nat} {f : Nat → Int32} {tys : List (ClassId × FieldType)} (hexec : p.tables.exec = Jvm.exec) (hb : c.code = cc) (hK : va_K G vwCl tys s) (hP : va_P G vwCl ws H) (hD : va_D A ws) (hS : va_S A s.heap H locs) (q0 t0 : Nat) (ha : ws[q0]? = some (a0, .inl (cA, n, .inl f))) (ht : tys[t0]? = some (cA, .int)) {i x : Int32} (j : Nat) (hi : i = nI j) (hj : j < n) (hn : n < 2 ^ 31) (hdg : decode cc pc = .ok (.iastore, 1))
    (kk : ∀ (H1 : Heap) (locs1 : List Loc), va_P G vwCl (ws.set q0 (a0, .inl (cA, n, .inl (upd f j x)))) H1 → va_D A (ws.set q0 (a0, .inl (cA, n, .inl (upd f j x)))) → va_S A s.heap H1 locs1 → W p l e R s m args below meth c H1 locs1 cells slots Q (F0 m (pc + 1) ls rest)) : W p l e R s m args below meth c H locs cells slots Q (F0 m pc ls (.int x :: .int i :: .ref a0 :: rest)) := by
  refine va_iast hexec hb hK hP hD hS q0 t0 ha ht (zIn hi hj hn) hdg ?_
  rw [zCl0 hi hj hn]
  exact kk
theorem zCast {a0 : Nat} {cA : ClassId} {n : Nat} {f : Nat → Int32} {tys : List (ClassId × FieldType)} (hexec : p.tables.exec = Jvm.exec) (hb : c.code = cc) (hK : va_K G vwCl tys s) (hP : va_P G vwCl ws H) (hD : va_D A ws) (hS : va_S A s.heap H locs) (q0 t0 : Nat) (ha : ws[q0]? = some (a0, .inl (cA, n, .inl f))) (ht : tys[t0]? = some (cA, .char)) {i x : Int32} (j : Nat) (hi : i = nI j) (hj : j < n) (hn : n < 2 ^ 31) (hdg : decode cc pc = .ok (.castore, 1))
    (kk : ∀ (H1 : Heap) (locs1 : List Loc), va_P G vwCl (ws.set q0 (a0, .inl (cA, n, .inl (upd f j (vp_nar .char x))))) H1 → va_D A (ws.set q0 (a0, .inl (cA, n, .inl (upd f j (vp_nar .char x))))) → va_S A s.heap H1 locs1 → W p l e R s m args below meth c H1 locs1 cells slots Q (F0 m (pc + 1) ls rest)) : W p l e R s m args below meth c H locs cells slots Q (F0 m pc ls (.int x :: .int i :: .ref a0 :: rest)) := by
  refine va_cast hexec hb hK hP hD hS q0 t0 ha ht (zIn hi hj hn) hdg ?_
  rw [zCl0 hi hj hn]
  exact kk
end ZC
end
