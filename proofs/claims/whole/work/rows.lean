section
-- ===== PART A: goes FIRST, ahead of the names: the tables' words, and 'selects' of the private methods out of them =====
/-- a private method of a class that the tables say can be made, by its rows of tables_1 -/
def lw_okq (q : MethodName × Nat) : Prop := (q.1.cls ≠ "java/lang/invoke/MethodHandle" ∧ q.1.cls ≠ "java/lang/invoke/VarHandle") ∧ Cond.instantiable q.1.cls q.2 ∈ tables_1 ∧ Cond.privateMethod q.1 ∈ tables_1 ∧ Cond.instanceMethod q.1 ∈ tables_1
theorem lw_p0 : lw_okq (⟨"LineDoubler$State", "lineComes", "()V"⟩, 6) := ⟨⟨by decide +kernel, by decide +kernel⟩, List.mem_of_getElem? (i := 20) (by decide +kernel), List.mem_of_getElem? (i := 201) (by decide +kernel), List.mem_of_getElem? (i := 202) (by decide +kernel)⟩
theorem lw_p1 : lw_okq (⟨"LineDoubler$State", "nextLineWaits", "()V"⟩, 6) := ⟨⟨by decide +kernel, by decide +kernel⟩, List.mem_of_getElem? (i := 20) (by decide +kernel), List.mem_of_getElem? (i := 205) (by decide +kernel), List.mem_of_getElem? (i := 206) (by decide +kernel)⟩
theorem lw_p2 : lw_okq (⟨"LineDoubler$State", "firstNotOut", "()I"⟩, 6) := ⟨⟨by decide +kernel, by decide +kernel⟩, List.mem_of_getElem? (i := 20) (by decide +kernel), List.mem_of_getElem? (i := 217) (by decide +kernel), List.mem_of_getElem? (i := 218) (by decide +kernel)⟩
theorem lw_p3 : lw_okq (⟨"LineDoubler$State", "loseWaiting", "(II)V"⟩, 6) := ⟨⟨by decide +kernel, by decide +kernel⟩, List.mem_of_getElem? (i := 20) (by decide +kernel), List.mem_of_getElem? (i := 225) (by decide +kernel), List.mem_of_getElem? (i := 226) (by decide +kernel)⟩
theorem lw_p4 : lw_okq (⟨"LineDoubler$State", "rowGoesOut", "()V"⟩, 6) := ⟨⟨by decide +kernel, by decide +kernel⟩, List.mem_of_getElem? (i := 20) (by decide +kernel), List.mem_of_getElem? (i := 233) (by decide +kernel), List.mem_of_getElem? (i := 234) (by decide +kernel)⟩
theorem lw_p5 : lw_okq (⟨"LineDoubler$State", "skipToPicture", "()V"⟩, 6) := ⟨⟨by decide +kernel, by decide +kernel⟩, List.mem_of_getElem? (i := 20) (by decide +kernel), List.mem_of_getElem? (i := 241) (by decide +kernel), List.mem_of_getElem? (i := 242) (by decide +kernel)⟩
theorem lw_p6 : lw_okq (⟨"LineDoubler$State", "showFirstWaiting", "(I)V"⟩, 6) := ⟨⟨by decide +kernel, by decide +kernel⟩, List.mem_of_getElem? (i := 20) (by decide +kernel), List.mem_of_getElem? (i := 245) (by decide +kernel), List.mem_of_getElem? (i := 246) (by decide +kernel)⟩
theorem lw_p7 : lw_okq (⟨"LineDoubler$State", "showColour", "(I)V"⟩, 6) := ⟨⟨by decide +kernel, by decide +kernel⟩, List.mem_of_getElem? (i := 20) (by decide +kernel), List.mem_of_getElem? (i := 249) (by decide +kernel), List.mem_of_getElem? (i := 250) (by decide +kernel)⟩
theorem lw_p8 : lw_okq (⟨"LineDoubler$State", "judgeScreen", "(I)I"⟩, 6) := ⟨⟨by decide +kernel, by decide +kernel⟩, List.mem_of_getElem? (i := 20) (by decide +kernel), List.mem_of_getElem? (i := 253) (by decide +kernel), List.mem_of_getElem? (i := 254) (by decide +kernel)⟩
theorem lw_p9 : lw_okq (⟨"LineDoubler", "gainOf", "(I)I"⟩, 5) := ⟨⟨by decide +kernel, by decide +kernel⟩, List.mem_of_getElem? (i := 12) (by decide +kernel), List.mem_of_getElem? (i := 309) (by decide +kernel), List.mem_of_getElem? (i := 310) (by decide +kernel)⟩
theorem lw_p10 : lw_okq (⟨"LineDoubler", "tryWith", "(III)V"⟩, 5) := ⟨⟨by decide +kernel, by decide +kernel⟩, List.mem_of_getElem? (i := 12) (by decide +kernel), List.mem_of_getElem? (i := 318) (by decide +kernel), List.mem_of_getElem? (i := 319) (by decide +kernel)⟩
theorem lw_p11 : lw_okq (⟨"LineDoubler$Pad", "look", "()C"⟩, 6) := ⟨⟨by decide +kernel, by decide +kernel⟩, List.mem_of_getElem? (i := 88) (by decide +kernel), List.mem_of_getElem? (i := 355) (by decide +kernel), List.mem_of_getElem? (i := 356) (by decide +kernel)⟩
theorem lw_p12 : lw_okq (⟨"LineDoubler$Pad", "readNumber", "()I"⟩, 6) := ⟨⟨by decide +kernel, by decide +kernel⟩, List.mem_of_getElem? (i := 88) (by decide +kernel), List.mem_of_getElem? (i := 362) (by decide +kernel), List.mem_of_getElem? (i := 363) (by decide +kernel)⟩
theorem lw_p13 : lw_okq (⟨"LineDoubler", "carryOutOrder", "()I"⟩, 5) := ⟨⟨by decide +kernel, by decide +kernel⟩, List.mem_of_getElem? (i := 12) (by decide +kernel), List.mem_of_getElem? (i := 378) (by decide +kernel), List.mem_of_getElem? (i := 379) (by decide +kernel)⟩
theorem lw_p14 : lw_okq (⟨"LineDoublerModel", "records", "()V"⟩, 11) := ⟨⟨by decide +kernel, by decide +kernel⟩, List.mem_of_getElem? (i := 400) (by decide +kernel), List.mem_of_getElem? (i := 459) (by decide +kernel), List.mem_of_getElem? (i := 460) (by decide +kernel)⟩
theorem lw_p15 : lw_okq (⟨"LineDoublerModel", "changes", "(II)I"⟩, 11) := ⟨⟨by decide +kernel, by decide +kernel⟩, List.mem_of_getElem? (i := 400) (by decide +kernel), List.mem_of_getElem? (i := 470) (by decide +kernel), List.mem_of_getElem? (i := 471) (by decide +kernel)⟩
def lw_privs_1 : List (MethodName × Nat) := [(⟨"LineDoubler$State", "lineComes", "()V"⟩, 6), (⟨"LineDoubler$State", "nextLineWaits", "()V"⟩, 6), (⟨"LineDoubler$State", "firstNotOut", "()I"⟩, 6), (⟨"LineDoubler$State", "loseWaiting", "(II)V"⟩, 6), (⟨"LineDoubler$State", "rowGoesOut", "()V"⟩, 6), (⟨"LineDoubler$State", "skipToPicture", "()V"⟩, 6), (⟨"LineDoubler$State", "showFirstWaiting", "(I)V"⟩, 6), (⟨"LineDoubler$State", "showColour", "(I)V"⟩, 6), (⟨"LineDoubler$State", "judgeScreen", "(I)I"⟩, 6), (⟨"LineDoubler", "gainOf", "(I)I"⟩, 5), (⟨"LineDoubler", "tryWith", "(III)V"⟩, 5), (⟨"LineDoubler$Pad", "look", "()C"⟩, 6), (⟨"LineDoubler$Pad", "readNumber", "()I"⟩, 6), (⟨"LineDoubler", "carryOutOrder", "()I"⟩, 5), (⟨"LineDoublerModel", "records", "()V"⟩, 11), (⟨"LineDoublerModel", "changes", "(II)I"⟩, 11)]
theorem lw_r1 : ∀ q ∈ lw_privs_1, lw_okq q := List.forall_mem_cons.mpr ⟨lw_p0, List.forall_mem_cons.mpr ⟨lw_p1, List.forall_mem_cons.mpr ⟨lw_p2, List.forall_mem_cons.mpr ⟨lw_p3, List.forall_mem_cons.mpr ⟨lw_p4, List.forall_mem_cons.mpr ⟨lw_p5, List.forall_mem_cons.mpr ⟨lw_p6, List.forall_mem_cons.mpr ⟨lw_p7, List.forall_mem_cons.mpr ⟨lw_p8, List.forall_mem_cons.mpr ⟨lw_p9, List.forall_mem_cons.mpr ⟨lw_p10, List.forall_mem_cons.mpr ⟨lw_p11, List.forall_mem_cons.mpr ⟨lw_p12, List.forall_mem_cons.mpr ⟨lw_p13, List.forall_mem_cons.mpr ⟨lw_p14, List.forall_mem_cons.mpr ⟨lw_p15, fun _ h => absurd h List.not_mem_nil⟩⟩⟩⟩⟩⟩⟩⟩⟩⟩⟩⟩⟩⟩⟩⟩
theorem lw_p16 : lw_okq (⟨"LineDoublerModel", "slips", "(II)I"⟩, 11) := ⟨⟨by decide +kernel, by decide +kernel⟩, List.mem_of_getElem? (i := 400) (by decide +kernel), List.mem_of_getElem? (i := 488) (by decide +kernel), List.mem_of_getElem? (i := 489) (by decide +kernel)⟩
theorem lw_p17 : lw_okq (⟨"LineDoublerModel", "mayPass", "(I)I"⟩, 11) := ⟨⟨by decide +kernel, by decide +kernel⟩, List.mem_of_getElem? (i := 400) (by decide +kernel), List.mem_of_getElem? (i := 496) (by decide +kernel), List.mem_of_getElem? (i := 497) (by decide +kernel)⟩
theorem lw_p18 : lw_okq (⟨"LineDoublerModel", "tries", "()V"⟩, 11) := ⟨⟨by decide +kernel, by decide +kernel⟩, List.mem_of_getElem? (i := 400) (by decide +kernel), List.mem_of_getElem? (i := 596) (by decide +kernel), List.mem_of_getElem? (i := 597) (by decide +kernel)⟩
theorem lw_p19 : lw_okq (⟨"LineDoublerModel", "more", "(I)I"⟩, 11) := ⟨⟨by decide +kernel, by decide +kernel⟩, List.mem_of_getElem? (i := 400) (by decide +kernel), List.mem_of_getElem? (i := 600) (by decide +kernel), List.mem_of_getElem? (i := 601) (by decide +kernel)⟩
theorem lw_p20 : lw_okq (⟨"LineDoublerModel", "isText", "()Z"⟩, 11) := ⟨⟨by decide +kernel, by decide +kernel⟩, List.mem_of_getElem? (i := 400) (by decide +kernel), List.mem_of_getElem? (i := 631) (by decide +kernel), List.mem_of_getElem? (i := 632) (by decide +kernel)⟩
theorem lw_p21 : lw_okq (⟨"LineDoublerModel", "isOrder", "()Z"⟩, 11) := ⟨⟨by decide +kernel, by decide +kernel⟩, List.mem_of_getElem? (i := 400) (by decide +kernel), List.mem_of_getElem? (i := 635) (by decide +kernel), List.mem_of_getElem? (i := 636) (by decide +kernel)⟩
theorem lw_p22 : lw_okq (⟨"LineDoublerModel", "isNumber", "(I)Z"⟩, 11) := ⟨⟨by decide +kernel, by decide +kernel⟩, List.mem_of_getElem? (i := 400) (by decide +kernel), List.mem_of_getElem? (i := 639) (by decide +kernel), List.mem_of_getElem? (i := 640) (by decide +kernel)⟩
theorem lw_p23 : lw_okq (⟨"LineDoublerModel", "isAt", "(II)Z"⟩, 11) := ⟨⟨by decide +kernel, by decide +kernel⟩, List.mem_of_getElem? (i := 400) (by decide +kernel), List.mem_of_getElem? (i := 643) (by decide +kernel), List.mem_of_getElem? (i := 644) (by decide +kernel)⟩
theorem lw_p24 : lw_okq (⟨"LineDoublerModel", "isSign", "(I)Z"⟩, 11) := ⟨⟨by decide +kernel, by decide +kernel⟩, List.mem_of_getElem? (i := 400) (by decide +kernel), List.mem_of_getElem? (i := 647) (by decide +kernel), List.mem_of_getElem? (i := 648) (by decide +kernel)⟩
theorem lw_p25 : lw_okq (⟨"LineDoublerModel", "does", "(I)Z"⟩, 11) := ⟨⟨by decide +kernel, by decide +kernel⟩, List.mem_of_getElem? (i := 400) (by decide +kernel), List.mem_of_getElem? (i := 655) (by decide +kernel), List.mem_of_getElem? (i := 656) (by decide +kernel)⟩
theorem lw_p26 : lw_okq (⟨"LineDoublerModel", "mayDo", "(III)I"⟩, 11) := ⟨⟨by decide +kernel, by decide +kernel⟩, List.mem_of_getElem? (i := 400) (by decide +kernel), List.mem_of_getElem? (i := 659) (by decide +kernel), List.mem_of_getElem? (i := 660) (by decide +kernel)⟩
def lw_privs_2 : List (MethodName × Nat) := [(⟨"LineDoublerModel", "slips", "(II)I"⟩, 11), (⟨"LineDoublerModel", "mayPass", "(I)I"⟩, 11), (⟨"LineDoublerModel", "tries", "()V"⟩, 11), (⟨"LineDoublerModel", "more", "(I)I"⟩, 11), (⟨"LineDoublerModel", "isText", "()Z"⟩, 11), (⟨"LineDoublerModel", "isOrder", "()Z"⟩, 11), (⟨"LineDoublerModel", "isNumber", "(I)Z"⟩, 11), (⟨"LineDoublerModel", "isAt", "(II)Z"⟩, 11), (⟨"LineDoublerModel", "isSign", "(I)Z"⟩, 11), (⟨"LineDoublerModel", "does", "(I)Z"⟩, 11), (⟨"LineDoublerModel", "mayDo", "(III)I"⟩, 11)]
theorem lw_r2 : ∀ q ∈ lw_privs_2, lw_okq q := List.forall_mem_cons.mpr ⟨lw_p16, List.forall_mem_cons.mpr ⟨lw_p17, List.forall_mem_cons.mpr ⟨lw_p18, List.forall_mem_cons.mpr ⟨lw_p19, List.forall_mem_cons.mpr ⟨lw_p20, List.forall_mem_cons.mpr ⟨lw_p21, List.forall_mem_cons.mpr ⟨lw_p22, List.forall_mem_cons.mpr ⟨lw_p23, List.forall_mem_cons.mpr ⟨lw_p24, List.forall_mem_cons.mpr ⟨lw_p25, List.forall_mem_cons.mpr ⟨lw_p26, fun _ h => absurd h List.not_mem_nil⟩⟩⟩⟩⟩⟩⟩⟩⟩⟩⟩
def lw_privs : List (MethodName × Nat) := lw_privs_1 ++ (lw_privs_2)
def lw_tbl : List Cond := k2_sels lw_privs ++ tables_1
theorem lw_privs_ok : ∀ q ∈ lw_privs, lw_okq q := by
  show ∀ q ∈ lw_privs_1 ++ (lw_privs_2), lw_okq q
  exact List.forall_mem_append.mpr ⟨lw_r1, lw_r2⟩
/-- the streams that the claim lets the run draw from -/
abbrev lw_cs : List Choice := [Jvm.Choice.named "NaN.bits"]
theorem lw_bits : nanBits ∈ lw_cs := by first | decide | exact List.mem_cons_self | simp [lw_cs, nanBits]
end
section
/-! ===== BEGIN words of one list among another's, by their places ===== -/
theorem goodIn_r {big : List Cond} (ws : List Cond) (ps : List Nat) (hp : ws = ps.filterMap (fun i => big[i]?)) (h : ws.all goodWord = true) : GoodIn big ws := by
  intro w hw
  have h1 := List.all_eq_true.mp h w hw
  rw [hp] at hw
  obtain ⟨i, -, hi⟩ := List.mem_filterMap.mp hw
  have hm : w ∈ big := by first | exact List.mem_of_getElem? hi | exact List.getElem?_mem hi
  exact ⟨hm, good_of_word h1⟩
theorem goodIn_app {big a b : List Cond} (ha : GoodIn big a) (hb : GoodIn big b) : GoodIn big (a ++ b) := fun w h => (List.mem_append.mp h).elim (ha w) (hb w)
theorem goodIn_ca {big a b : List Cond} {c : Cond} (ha : GoodIn big (c :: a)) (hb : GoodIn big b) : GoodIn big (c :: (a ++ b)) := fun w h => (List.mem_cons.mp h).elim (fun e => ha w (List.mem_cons.mpr (Or.inl e))) (fun h => (List.mem_append.mp h).elim (fun h => ha w (List.mem_cons.mpr (Or.inr h))) (hb w))
theorem goodIn_sub {big ws : List Cond} (hm : ∀ w ∈ ws, w ∈ big) (h : ws.all goodWord = true) : GoodIn big ws := fun w hw => ⟨hm w hw, good_of_word (List.all_eq_true.mp h w hw)⟩
/-! ===== END ===== -/

/-! ===== BEGIN printed: names, fields, word lists, decode rows ===== -/
def RX0 : String := "LineDoubler$History"
def TX0 : u_T := fun k => match k with
  | 0 => ("LineDoubler$History", "states", "[LLineDoubler$State;", true)
  | 1 => ("LineDoubler$History", "oldest", "I", false)
  | _ => ("LineDoubler$History", "size", "I", false)
def tyX0 : Nat → FieldType := fun k => match k with
  | 0 => .array (.object "LineDoubler$State")
  | 1 => .int
  | _ => .int
abbrev wsX00 : List Cond := u_ws RX0 TX0 3
theorem nmX0 : ∀ a, a < 3 → ∀ b, b < 3 → a ≠ b → (TX0 a).2.1 ≠ (TX0 b).2.1 := by decide +kernel
theorem tyX0_ok : ∀ k, k < 3 → parseFieldDescriptor (TX0 k).2.2.1 = some (tyX0 k) := by decide +kernel
abbrev cX0_init : ByteArray := prog_2_method_1_code
def yX0_init : MethodName := ⟨RX0, "<init>", "()V"⟩
abbrev cX0_prepare : ByteArray := prog_2_method_2_code
def yX0_prepare : MethodName := ⟨RX0, "prepare", "(LLineDoubler$State;)V"⟩
abbrev cX0_keepIfDone : ByteArray := prog_2_method_3_code
def yX0_keepIfDone : MethodName := ⟨RX0, "keepIfDone", "(I)I"⟩
abbrev cX0_takeLatest : ByteArray := prog_2_method_4_code
def yX0_takeLatest : MethodName := ⟨RX0, "takeLatest", "()LLineDoubler$State;"⟩
def RX1 : String := "LineDoubler$Pad"
def TX1 : u_T := fun k => match k with
  | 0 => ("LineDoubler$Pad", "characters", "[C", true)
  | 1 => ("LineDoubler$Pad", "length", "I", false)
  | 2 => ("LineDoubler$Pad", "at", "I", false)
  | 3 => ("LineDoubler$Pad", "order", "C", false)
  | 4 => ("LineDoubler$Pad", "first", "I", false)
  | _ => ("LineDoubler$Pad", "second", "I", false)
def tyX1 : Nat → FieldType := fun k => match k with
  | 0 => .array .char
  | 1 => .int
  | 2 => .int
  | 3 => .char
  | 4 => .int
  | _ => .int
abbrev wsX10 : List Cond := u_ws RX1 TX1 6
theorem nmX1 : ∀ a, a < 6 → ∀ b, b < 6 → a ≠ b → (TX1 a).2.1 ≠ (TX1 b).2.1 := by decide +kernel
theorem tyX1_ok : ∀ k, k < 6 → parseFieldDescriptor (TX1 k).2.2.1 = some (tyX1 k) := by decide +kernel
abbrev cX1_init : ByteArray := prog_3_method_1_code
def yX1_init : MethodName := ⟨RX1, "<init>", "()V"⟩
abbrev cX1_append : ByteArray := prog_3_method_2_code
def yX1_append : MethodName := ⟨RX1, "append", "(JI)V"⟩
abbrev cX1_findFault : ByteArray := prog_3_method_3_code
def yX1_findFault : MethodName := ⟨RX1, "findFault", "()I"⟩
abbrev cX1_readOrder : ByteArray := prog_3_method_4_code
def yX1_readOrder : MethodName := ⟨RX1, "readOrder", "()Z"⟩
abbrev cX1_readSign : ByteArray := prog_3_method_5_code
def yX1_readSign : MethodName := ⟨RX1, "readSign", "(C)Z"⟩
abbrev cX1_readNumber : ByteArray := prog_3_method_6_code
def yX1_readNumber : MethodName := ⟨RX1, "readNumber", "()I"⟩
abbrev cX1_look : ByteArray := prog_3_method_7_code
def yX1_look : MethodName := ⟨RX1, "look", "()C"⟩
abbrev cX1_isOrder : ByteArray := prog_3_method_8_code
def yX1_isOrder : MethodName := ⟨RX1, "isOrder", "(C)Z"⟩
abbrev cX1_isDigit : ByteArray := prog_3_method_9_code
def yX1_isDigit : MethodName := ⟨RX1, "isDigit", "(C)Z"⟩
def RX2 : String := "LineDoubler$State"
def TX2 : u_T := fun k => match k with
  | 0 => ("LineDoubler$State", "numbers", "[I", true)
  | 1 => ("LineDoubler$State", "values", "[I", true)
  | 2 => ("LineDoubler$State", "queue", "LLineDoubler$Table;", true)
  | 3 => ("LineDoubler$State", "screen", "LLineDoubler$Table;", true)
  | 4 => ("LineDoubler$State", "lost", "LLineDoubler$Table;", true)
  | _ => ("LineDoubler$State", "waitedSum", "I", false)
def tyX2 : Nat → FieldType := fun k => match k with
  | 0 => .array .int
  | 1 => .array .int
  | 2 => .object "LineDoubler$Table"
  | 3 => .object "LineDoubler$Table"
  | 4 => .object "LineDoubler$Table"
  | _ => .int
abbrev wsX20 : List Cond := u_ws RX2 TX2 6
theorem nmX2 : ∀ a, a < 6 → ∀ b, b < 6 → a ≠ b → (TX2 a).2.1 ≠ (TX2 b).2.1 := by decide +kernel
theorem tyX2_ok : ∀ k, k < 6 → parseFieldDescriptor (TX2 k).2.2.1 = some (tyX2 k) := by decide +kernel
abbrev cX2_init : ByteArray := prog_4_method_1_code
def yX2_init : MethodName := ⟨RX2, "<init>", "()V"⟩
abbrev cX2_copyFrom : ByteArray := prog_4_method_2_code
def yX2_copyFrom : MethodName := ⟨RX2, "copyFrom", "(LLineDoubler$State;)V"⟩
abbrev cX2_setting : ByteArray := prog_4_method_3_code
def yX2_setting : MethodName := ⟨RX2, "setting", "(I)I"⟩
abbrev cX2_rowsOfScreen : ByteArray := prog_4_method_4_code
def yX2_rowsOfScreen : MethodName := ⟨RX2, "rowsOfScreen", "()I"⟩
abbrev cX2_changeSetting : ByteArray := prog_4_method_5_code
def yX2_changeSetting : MethodName := ⟨RX2, "changeSetting", "(II)I"⟩
abbrev cX2_changeValue : ByteArray := prog_4_method_6_code
def yX2_changeValue : MethodName := ⟨RX2, "changeValue", "(II)I"⟩
abbrev cX2_delayClock : ByteArray := prog_4_method_7_code
def yX2_delayClock : MethodName := ⟨RX2, "delayClock", "(II)I"⟩
abbrev cX2_passTicks : ByteArray := prog_4_method_8_code
def yX2_passTicks : MethodName := ⟨RX2, "passTicks", "(II)I"⟩
abbrev cX2_skipAll : ByteArray := prog_4_method_9_code
def yX2_skipAll : MethodName := ⟨RX2, "skipAll", "()I"⟩
abbrev cX2_lineComes : ByteArray := prog_4_method_10_code
def yX2_lineComes : MethodName := ⟨RX2, "lineComes", "()V"⟩
abbrev cX2_nextLineWaits : ByteArray := prog_4_method_11_code
def yX2_nextLineWaits : MethodName := ⟨RX2, "nextLineWaits", "()V"⟩
abbrev cX2_firstNotOut : ByteArray := prog_4_method_12_code
def yX2_firstNotOut : MethodName := ⟨RX2, "firstNotOut", "()I"⟩
abbrev cX2_loseWaiting : ByteArray := prog_4_method_13_code
def yX2_loseWaiting : MethodName := ⟨RX2, "loseWaiting", "(II)V"⟩
abbrev cX2_rowGoesOut : ByteArray := prog_4_method_14_code
def yX2_rowGoesOut : MethodName := ⟨RX2, "rowGoesOut", "()V"⟩
abbrev cX2_skipToPicture : ByteArray := prog_4_method_15_code
def yX2_skipToPicture : MethodName := ⟨RX2, "skipToPicture", "()V"⟩
abbrev cX2_showFirstWaiting : ByteArray := prog_4_method_16_code
def yX2_showFirstWaiting : MethodName := ⟨RX2, "showFirstWaiting", "(I)V"⟩
abbrev cX2_showColour : ByteArray := prog_4_method_17_code
def yX2_showColour : MethodName := ⟨RX2, "showColour", "(I)V"⟩
abbrev cX2_judgeScreen : ByteArray := prog_4_method_18_code
def yX2_judgeScreen : MethodName := ⟨RX2, "judgeScreen", "(I)I"⟩
def RX3 : String := "LineDoubler$Table"
def TX3 : u_T := fun k => match k with
  | 0 => ("LineDoubler$Table", "columns", "I", true)
  | _ => ("LineDoubler$Table", "cells", "[I", true)
def tyX3 : Nat → FieldType := fun k => match k with
  | 0 => .int
  | _ => .array .int
abbrev wsX30 : List Cond := u_ws RX3 TX3 2
theorem nmX3 : ∀ a, a < 2 → ∀ b, b < 2 → a ≠ b → (TX3 a).2.1 ≠ (TX3 b).2.1 := by decide +kernel
theorem tyX3_ok : ∀ k, k < 2 → parseFieldDescriptor (TX3 k).2.2.1 = some (tyX3 k) := by decide +kernel
abbrev cX3_init : ByteArray := prog_5_method_1_code
def yX3_init : MethodName := ⟨RX3, "<init>", "(III)V"⟩
abbrev cX3_read : ByteArray := prog_5_method_2_code
def yX3_read : MethodName := ⟨RX3, "read", "(II)I"⟩
abbrev cX3_write : ByteArray := prog_5_method_3_code
def yX3_write : MethodName := ⟨RX3, "write", "(III)V"⟩
abbrev cX3_removeRow : ByteArray := prog_5_method_4_code
def yX3_removeRow : MethodName := ⟨RX3, "removeRow", "(I)V"⟩
abbrev cX3_copyFrom : ByteArray := prog_5_method_5_code
def yX3_copyFrom : MethodName := ⟨RX3, "copyFrom", "(LLineDoubler$Table;)V"⟩
def RX4 : String := "LineDoubler"
def TX4 : u_T := fun k => match k with
  | 0 => ("LineDoubler", "state", "LLineDoubler$State;", true)
  | 1 => ("LineDoubler", "trial", "LLineDoubler$State;", true)
  | 2 => ("LineDoubler", "slots", "[LLineDoubler$State;", true)
  | 3 => ("LineDoubler", "history", "LLineDoubler$History;", true)
  | _ => ("LineDoubler", "pad", "LLineDoubler$Pad;", true)
def tyX4 : Nat → FieldType := fun k => match k with
  | 0 => .object "LineDoubler$State"
  | 1 => .object "LineDoubler$State"
  | 2 => .array (.object "LineDoubler$State")
  | 3 => .object "LineDoubler$History"
  | _ => .object "LineDoubler$Pad"
abbrev wsX40 : List Cond := u_ws RX4 TX4 5
theorem nmX4 : ∀ a, a < 5 → ∀ b, b < 5 → a ≠ b → (TX4 a).2.1 ≠ (TX4 b).2.1 := by decide +kernel
theorem tyX4_ok : ∀ k, k < 5 → parseFieldDescriptor (TX4 k).2.2.1 = some (tyX4 k) := by decide +kernel
abbrev cX4_init : ByteArray := prog_1_method_1_code
def yX4_init : MethodName := ⟨RX4, "<init>", "()V"⟩
abbrev cX4_set : ByteArray := prog_1_method_2_code
def yX4_set : MethodName := ⟨RX4, "set", "(II)I"⟩
abbrev cX4_value : ByteArray := prog_1_method_3_code
def yX4_value : MethodName := ⟨RX4, "value", "(II)I"⟩
abbrev cX4_slip : ByteArray := prog_1_method_4_code
def yX4_slip : MethodName := ⟨RX4, "slip", "(II)I"⟩
abbrev cX4_pass : ByteArray := prog_1_method_5_code
def yX4_pass : MethodName := ⟨RX4, "pass", "(I)I"⟩
abbrev cX4_flush : ByteArray := prog_1_method_6_code
def yX4_flush : MethodName := ⟨RX4, "flush", "()I"⟩
abbrev cX4_waiting : ByteArray := prog_1_method_7_code
def yX4_waiting : MethodName := ⟨RX4, "waiting", "(II)I"⟩
abbrev cX4_row : ByteArray := prog_1_method_8_code
def yX4_row : MethodName := ⟨RX4, "row", "(II)I"⟩
abbrev cX4_ofMissing : ByteArray := prog_1_method_9_code
def yX4_ofMissing : MethodName := ⟨RX4, "ofMissing", "(II)I"⟩
abbrev cX4_count : ByteArray := prog_1_method_10_code
def yX4_count : MethodName := ⟨RX4, "count", "(I)I"⟩
abbrev cX4_shown : ByteArray := prog_1_method_11_code
def yX4_shown : MethodName := ⟨RX4, "shown", "()I"⟩
abbrev cX4_ratio : ByteArray := prog_1_method_12_code
def yX4_ratio : MethodName := ⟨RX4, "ratio", "()I"⟩
abbrev cX4_fill : ByteArray := prog_1_method_13_code
def yX4_fill : MethodName := ⟨RX4, "fill", "()J"⟩
abbrev cX4_would : ByteArray := prog_1_method_14_code
def yX4_would : MethodName := ⟨RX4, "would", "(II)I"⟩
abbrev cX4_leastRoom : ByteArray := prog_1_method_15_code
def yX4_leastRoom : MethodName := ⟨RX4, "leastRoom", "(I)I"⟩
abbrev cX4_bestOut : ByteArray := prog_1_method_16_code
def yX4_bestOut : MethodName := ⟨RX4, "bestOut", "(II)I"⟩
abbrev cX4_put : ByteArray := prog_1_method_17_code
def yX4_put : MethodName := ⟨RX4, "put", "(J)I"⟩
abbrev cX4_wipe : ByteArray := prog_1_method_18_code
def yX4_wipe : MethodName := ⟨RX4, "wipe", "()I"⟩
abbrev cX4_fault : ByteArray := prog_1_method_19_code
def yX4_fault : MethodName := ⟨RX4, "fault", "()I"⟩
abbrev cX4_carryOut : ByteArray := prog_1_method_20_code
def yX4_carryOut : MethodName := ⟨RX4, "carryOut", "()I"⟩
abbrev cX4_undo : ByteArray := prog_1_method_21_code
def yX4_undo : MethodName := ⟨RX4, "undo", "()I"⟩
abbrev cX4_save : ByteArray := prog_1_method_22_code
def yX4_save : MethodName := ⟨RX4, "save", "(I)I"⟩
abbrev cX4_restore : ByteArray := prog_1_method_23_code
def yX4_restore : MethodName := ⟨RX4, "restore", "(I)I"⟩
abbrev cX4_isWithin : ByteArray := prog_1_method_24_code
def yX4_isWithin : MethodName := ⟨RX4, "isWithin", "(III)Z"⟩
abbrev cX4_keepCopy : ByteArray := prog_1_method_25_code
def yX4_keepCopy : MethodName := ⟨RX4, "keepCopy", "([LLineDoubler$State;ILLineDoubler$State;)V"⟩
abbrev cX4_tryWith : ByteArray := prog_1_method_26_code
def yX4_tryWith : MethodName := ⟨RX4, "tryWith", "(III)V"⟩
abbrev cX4_gainOf : ByteArray := prog_1_method_27_code
def yX4_gainOf : MethodName := ⟨RX4, "gainOf", "(I)I"⟩
abbrev cX4_carryOutOrder : ByteArray := prog_1_method_28_code
def yX4_carryOutOrder : MethodName := ⟨RX4, "carryOutOrder", "()I"⟩
abbrev cX4_charactersIn : ByteArray := prog_1_method_29_code
def yX4_charactersIn : MethodName := ⟨RX4, "charactersIn", "(J)I"⟩
abbrev cX4_bitsOf : ByteArray := prog_1_method_30_code
def yX4_bitsOf : MethodName := ⟨RX4, "bitsOf", "(DII)J"⟩
def RX5 : String := "LineDoublerModel"
def TX5 : u_T := fun k => match k with
  | 0 => ("LineDoublerModel", "now", "[I", true)
  | 1 => ("LineDoublerModel", "then", "[I", true)
  | 2 => ("LineDoublerModel", "past", "[I", true)
  | 3 => ("LineDoublerModel", "kept", "I", false)
  | 4 => ("LineDoublerModel", "slots", "[I", true)
  | 5 => ("LineDoublerModel", "held", "[Z", true)
  | 6 => ("LineDoublerModel", "pad", "[I", true)
  | 7 => ("LineDoublerModel", "padded", "I", false)
  | 8 => ("LineDoublerModel", "at", "I", false)
  | 9 => ("LineDoublerModel", "orders", "[I", true)
  | _ => ("LineDoublerModel", "ordered", "I", false)
def tyX5 : Nat → FieldType := fun k => match k with
  | 0 => .array .int
  | 1 => .array .int
  | 2 => .array .int
  | 3 => .int
  | 4 => .array .int
  | 5 => .array .boolean
  | 6 => .array .int
  | 7 => .int
  | 8 => .int
  | 9 => .array .int
  | _ => .int
abbrev wsX50 : List Cond := u_ws RX5 TX5 11
theorem nmX5 : ∀ a, a < 11 → ∀ b, b < 11 → a ≠ b → (TX5 a).2.1 ≠ (TX5 b).2.1 := by decide +kernel
theorem tyX5_ok : ∀ k, k < 11 → parseFieldDescriptor (TX5 k).2.2.1 = some (tyX5 k) := by decide +kernel
abbrev cX5_init : ByteArray := prog_7_method_1_code
def yX5_init : MethodName := ⟨RX5, "<init>", "()V"⟩
abbrev cX5_in : ByteArray := prog_7_method_3_code
def yX5_in : MethodName := ⟨RX5, "in", "(III)Z"⟩
abbrev cX5_lays : ByteArray := prog_7_method_4_code
def yX5_lays : MethodName := ⟨RX5, "lays", "([II[II)V"⟩
abbrev cX5_records : ByteArray := prog_7_method_5_code
def yX5_records : MethodName := ⟨RX5, "records", "()V"⟩
abbrev cX5_undo : ByteArray := prog_7_method_6_code
def yX5_undo : MethodName := ⟨RX5, "undo", "()I"⟩
abbrev cX5_save : ByteArray := prog_7_method_7_code
def yX5_save : MethodName := ⟨RX5, "save", "(I)I"⟩
abbrev cX5_restore : ByteArray := prog_7_method_8_code
def yX5_restore : MethodName := ⟨RX5, "restore", "(I)I"⟩
abbrev cX5_of : ByteArray := prog_7_method_9_code
def yX5_of : MethodName := ⟨RX5, "of", "([III)I"⟩
abbrev cX5_misses : ByteArray := prog_7_method_10_code
def yX5_misses : MethodName := ⟨RX5, "misses", "([IIII)V"⟩
abbrev cX5_leaves : ByteArray := prog_7_method_11_code
def yX5_leaves : MethodName := ⟨RX5, "leaves", "([II)V"⟩
abbrev cX5_loses : ByteArray := prog_7_method_12_code
def yX5_loses : MethodName := ⟨RX5, "loses", "([III)V"⟩
abbrev cX5_queues : ByteArray := prog_7_method_13_code
def yX5_queues : MethodName := ⟨RX5, "queues", "([I)V"⟩
abbrev cX5_firstFresh : ByteArray := prog_7_method_14_code
def yX5_firstFresh : MethodName := ⟨RX5, "firstFresh", "([I)I"⟩
abbrev cX5_comes : ByteArray := prog_7_method_15_code
def yX5_comes : MethodName := ⟨RX5, "comes", "([I)V"⟩
abbrev cX5_isBegin : ByteArray := prog_7_method_16_code
def yX5_isBegin : MethodName := ⟨RX5, "isBegin", "([I)Z"⟩
abbrev cX5_judged : ByteArray := prog_7_method_17_code
def yX5_judged : MethodName := ⟨RX5, "judged", "([I)I"⟩
abbrev cX5_goesOut : ByteArray := prog_7_method_18_code
def yX5_goesOut : MethodName := ⟨RX5, "goesOut", "([I)V"⟩
abbrev cX5_ticks : ByteArray := prog_7_method_19_code
def yX5_ticks : MethodName := ⟨RX5, "ticks", "([I)V"⟩
abbrev cX5_passes : ByteArray := prog_7_method_20_code
def yX5_passes : MethodName := ⟨RX5, "passes", "([II)V"⟩
abbrev cX5_isFor : ByteArray := prog_7_method_21_code
def yX5_isFor : MethodName := ⟨RX5, "isFor", "(II)Z"⟩
abbrev cX5_changes : ByteArray := prog_7_method_22_code
def yX5_changes : MethodName := ⟨RX5, "changes", "(II)I"⟩
abbrev cX5_set : ByteArray := prog_7_method_23_code
def yX5_set : MethodName := ⟨RX5, "set", "(II)I"⟩
abbrev cX5_mayTell : ByteArray := prog_7_method_24_code
def yX5_mayTell : MethodName := ⟨RX5, "mayTell", "(II)I"⟩
abbrev cX5_value : ByteArray := prog_7_method_25_code
def yX5_value : MethodName := ⟨RX5, "value", "(II)I"⟩
abbrev cX5_maySlip : ByteArray := prog_7_method_26_code
def yX5_maySlip : MethodName := ⟨RX5, "maySlip", "(II)I"⟩
abbrev cX5_slips : ByteArray := prog_7_method_27_code
def yX5_slips : MethodName := ⟨RX5, "slips", "(II)I"⟩
abbrev cX5_slip : ByteArray := prog_7_method_28_code
def yX5_slip : MethodName := ⟨RX5, "slip", "(II)I"⟩
abbrev cX5_mayPass : ByteArray := prog_7_method_29_code
def yX5_mayPass : MethodName := ⟨RX5, "mayPass", "(I)I"⟩
abbrev cX5_pass : ByteArray := prog_7_method_30_code
def yX5_pass : MethodName := ⟨RX5, "pass", "(I)I"⟩
abbrev cX5_flush : ByteArray := prog_7_method_31_code
def yX5_flush : MethodName := ⟨RX5, "flush", "()I"⟩
abbrev cX5_waiting : ByteArray := prog_7_method_32_code
def yX5_waiting : MethodName := ⟨RX5, "waiting", "(II)I"⟩
abbrev cX5_row : ByteArray := prog_7_method_33_code
def yX5_row : MethodName := ⟨RX5, "row", "(II)I"⟩
abbrev cX5_ofMissing : ByteArray := prog_7_method_34_code
def yX5_ofMissing : MethodName := ⟨RX5, "ofMissing", "(II)I"⟩
abbrev cX5_count : ByteArray := prog_7_method_35_code
def yX5_count : MethodName := ⟨RX5, "count", "(I)I"⟩
abbrev cX5_shown : ByteArray := prog_7_method_36_code
def yX5_shown : MethodName := ⟨RX5, "shown", "()I"⟩
abbrev cX5_ratio : ByteArray := prog_7_method_37_code
def yX5_ratio : MethodName := ⟨RX5, "ratio", "()I"⟩
abbrev cX5_fill : ByteArray := prog_7_method_38_code
def yX5_fill : MethodName := ⟨RX5, "fill", "()J"⟩
abbrev cX5_tries : ByteArray := prog_7_method_39_code
def yX5_tries : MethodName := ⟨RX5, "tries", "()V"⟩
abbrev cX5_more : ByteArray := prog_7_method_40_code
def yX5_more : MethodName := ⟨RX5, "more", "(I)I"⟩
abbrev cX5_areTicks : ByteArray := prog_7_method_41_code
def yX5_areTicks : MethodName := ⟨RX5, "areTicks", "(I)Z"⟩
abbrev cX5_would : ByteArray := prog_7_method_42_code
def yX5_would : MethodName := ⟨RX5, "would", "(II)I"⟩
abbrev cX5_leastRoom : ByteArray := prog_7_method_43_code
def yX5_leastRoom : MethodName := ⟨RX5, "leastRoom", "(I)I"⟩
abbrev cX5_bestOut : ByteArray := prog_7_method_44_code
def yX5_bestOut : MethodName := ⟨RX5, "bestOut", "(II)I"⟩
abbrev cX5_byteOf : ByteArray := prog_7_method_45_code
def yX5_byteOf : MethodName := ⟨RX5, "byteOf", "(JI)I"⟩
abbrev cX5_toldBy : ByteArray := prog_7_method_46_code
def yX5_toldBy : MethodName := ⟨RX5, "toldBy", "(J)I"⟩
abbrev cX5_put : ByteArray := prog_7_method_47_code
def yX5_put : MethodName := ⟨RX5, "put", "(J)I"⟩
abbrev cX5_wipe : ByteArray := prog_7_method_48_code
def yX5_wipe : MethodName := ⟨RX5, "wipe", "()I"⟩
abbrev cX5_isAt : ByteArray := prog_7_method_49_code
def yX5_isAt : MethodName := ⟨RX5, "isAt", "(II)Z"⟩
abbrev cX5_isSign : ByteArray := prog_7_method_50_code
def yX5_isSign : MethodName := ⟨RX5, "isSign", "(I)Z"⟩
abbrev cX5_isNumber : ByteArray := prog_7_method_51_code
def yX5_isNumber : MethodName := ⟨RX5, "isNumber", "(I)Z"⟩
abbrev cX5_isOrder : ByteArray := prog_7_method_52_code
def yX5_isOrder : MethodName := ⟨RX5, "isOrder", "()Z"⟩
abbrev cX5_isText : ByteArray := prog_7_method_53_code
def yX5_isText : MethodName := ⟨RX5, "isText", "()Z"⟩
abbrev cX5_fault : ByteArray := prog_7_method_54_code
def yX5_fault : MethodName := ⟨RX5, "fault", "()I"⟩
abbrev cX5_mayDo : ByteArray := prog_7_method_55_code
def yX5_mayDo : MethodName := ⟨RX5, "mayDo", "(III)I"⟩
abbrev cX5_does : ByteArray := prog_7_method_56_code
def yX5_does : MethodName := ⟨RX5, "does", "(I)Z"⟩
abbrev cX5_carryOut : ByteArray := prog_7_method_57_code
def yX5_carryOut : MethodName := ⟨RX5, "carryOut", "()I"⟩
def RJxe99ae : String := "java/lang/Double"
def TJxe99ae : u_T := fun k => match k with
  | _ => ("", "", "", false)
def tyJxe99ae : Nat → FieldType := fun k => match k with
  | _ => .int
abbrev wsJxe99ae0 : List Cond := u_ws RJxe99ae TJxe99ae 0
theorem nmJxe99ae : ∀ a, a < 0 → ∀ b, b < 0 → a ≠ b → (TJxe99ae a).2.1 ≠ (TJxe99ae b).2.1 := by decide +kernel
theorem tyJxe99ae_ok : ∀ k, k < 0 → parseFieldDescriptor (TJxe99ae k).2.2.1 = some (tyJxe99ae k) := by decide +kernel
abbrev cJxe99ae_isNaN_b9ae7 : ByteArray := prog_8_method_6_code
def yJxe99ae_isNaN_b9ae7 : MethodName := ⟨RJxe99ae, "isNaN", "(D)Z"⟩
abbrev cJxe99ae_doubleToLongBits_ccdee : ByteArray := prog_8_method_23_code
def yJxe99ae_doubleToLongBits_ccdee : MethodName := ⟨RJxe99ae, "doubleToLongBits", "(D)J"⟩
def RJxf58ca : String := "java/lang/Float"
def TJxf58ca : u_T := fun k => match k with
  | _ => ("", "", "", false)
def tyJxf58ca : Nat → FieldType := fun k => match k with
  | _ => .int
abbrev wsJxf58ca0 : List Cond := u_ws RJxf58ca TJxf58ca 0
theorem nmJxf58ca : ∀ a, a < 0 → ∀ b, b < 0 → a ≠ b → (TJxf58ca a).2.1 ≠ (TJxf58ca b).2.1 := by decide +kernel
theorem tyJxf58ca_ok : ∀ k, k < 0 → parseFieldDescriptor (TJxf58ca k).2.2.1 = some (tyJxf58ca k) := by decide +kernel
abbrev cJxf58ca_isNaN_12338 : ByteArray := prog_9_method_6_code
def yJxf58ca_isNaN_12338 : MethodName := ⟨RJxf58ca, "isNaN", "(F)Z"⟩
abbrev cJxf58ca_floatToIntBits_5c35a : ByteArray := prog_9_method_24_code
def yJxf58ca_floatToIntBits_5c35a : MethodName := ⟨RJxf58ca, "floatToIntBits", "(F)I"⟩
def RJ9 : String := "java/lang/Math"
def TJ9 : u_T := fun k => match k with
  | _ => ("", "", "", false)
def tyJ9 : Nat → FieldType := fun k => match k with
  | _ => .int
abbrev wsJ90 : List Cond := u_ws RJ9 TJ9 0
theorem nmJ9 : ∀ a, a < 0 → ∀ b, b < 0 → a ≠ b → (TJ9 a).2.1 ≠ (TJ9 b).2.1 := by decide +kernel
theorem tyJ9_ok : ∀ k, k < 0 → parseFieldDescriptor (TJ9 k).2.2.1 = some (tyJ9 k) := by decide +kernel
abbrev cJ9_max_7cf53 : ByteArray := prog_10_method_65_code
def yJ9_max_7cf53 : MethodName := ⟨RJ9, "max", "(II)I"⟩
abbrev cJ9_min_7cf53 : ByteArray := prog_10_method_69_code
def yJ9_min_7cf53 : MethodName := ⟨RJ9, "min", "(II)I"⟩
def RJ10 : String := "java/lang/System"
def TJ10 : u_T := fun k => match k with
  | _ => ("", "", "", false)
def tyJ10 : Nat → FieldType := fun k => match k with
  | _ => .int
abbrev wsJ100 : List Cond := u_ws RJ10 TJ10 0
theorem nmJ10 : ∀ a, a < 0 → ∀ b, b < 0 → a ≠ b → (TJ10 a).2.1 ≠ (TJ10 b).2.1 := by decide +kernel
theorem tyJ10_ok : ∀ k, k < 0 → parseFieldDescriptor (TJ10 k).2.2.1 = some (tyJ10 k) := by decide +kernel
def RL : String := "LineDoublerLaw"
abbrev cL_law : ByteArray := code
def yL_law : MethodName := ⟨RL, "law", "([I)Z"⟩
def wsX0_init : List Cond := .code yX0_init cX0_init 1 none :: ([.methodLink RX0 3 objectInit, .instanceMethod objectInit, .code objectInit ⟨#[0xb1]⟩ 1 none, .classLink RX0 11 RX2, .fieldLink RX0 13 "LineDoubler$History" "states" "[LLineDoubler$State;"] ++ wsX00)
def wsX3_init : List Cond := .code yX3_init cX3_init 5 none :: ([.methodLink RX3 3 objectInit, .instanceMethod objectInit, .code objectInit ⟨#[0xb1]⟩ 1 none, .fieldLink RX3 9 "LineDoubler$Table" "columns" "I", .methodLink RX3 15 Lib.Math.max.name, .static Lib.Math.max.name, .initialized "java/lang/Math", .code Lib.Math.max.name Lib.Math.max.code 2 (some .int), .arrayClass .int, .fieldLink RX3 21 "LineDoubler$Table" "cells" "[I"] ++ wsX30)
def wsX2_init : List Cond := .code yX2_init cX2_init 2 none :: ([.methodLink RX2 3 objectInit, .instanceMethod objectInit, .code objectInit ⟨#[0xb1]⟩ 1 none, .arrayClass .int, .fieldLink RX2 9 "LineDoubler$State" "numbers" "[I", .fieldLink RX2 15 "LineDoubler$State" "values" "[I", .classLink RX2 18 RX3, .instantiable RX3 2, .initialized RX3, .fieldLink RX2 23 "LineDoubler$State" "queue" "LLineDoubler$Table;", .fieldLink RX2 27 "LineDoubler$State" "screen" "LLineDoubler$Table;", .fieldLink RX2 30 "LineDoubler$State" "lost" "LLineDoubler$Table;", .methodLink RX2 20 yX3_init, .instanceMethod yX3_init, .code yX3_init cX3_init 5 none, .methodLink RX3 3 objectInit, .fieldLink RX3 9 "LineDoubler$Table" "columns" "I", .methodLink RX3 15 Lib.Math.max.name, .static Lib.Math.max.name, .initialized "java/lang/Math", .code Lib.Math.max.name Lib.Math.max.code 2 (some .int), .fieldLink RX3 21 "LineDoubler$Table" "cells" "[I"] ++ wsX20 ++ wsX30)
def wsX3_copyFrom : List Cond := .code yX3_copyFrom cX3_copyFrom 2 none :: ([.fieldLink RX3 21 "LineDoubler$Table" "cells" "[I", .methodLink RX3 31 Lib.Math.min.name, .static Lib.Math.min.name, .initialized "java/lang/Math", .code Lib.Math.min.name Lib.Math.min.code 2 (some .int), .methodLink RX3 25 arraycopyName, .native arraycopyName, .static arraycopyName, .initialized "java/lang/System"] ++ wsX30)
def wsX2_copyFrom : List Cond := .code yX2_copyFrom cX2_copyFrom 2 none :: ([.fieldLink RX2 9 "LineDoubler$State" "numbers" "[I", .methodLink RX2 36 arraycopyName, .native arraycopyName, .static arraycopyName, .initialized "java/lang/System", .fieldLink RX2 15 "LineDoubler$State" "values" "[I", .fieldLink RX2 23 "LineDoubler$State" "queue" "LLineDoubler$Table;", .fieldLink RX2 27 "LineDoubler$State" "screen" "LLineDoubler$Table;", .fieldLink RX2 30 "LineDoubler$State" "lost" "LLineDoubler$Table;", .fieldLink RX2 46 "LineDoubler$State" "waitedSum" "I", .methodLink RX2 42 yX3_copyFrom, .instanceMethod yX3_copyFrom, .selects RX3 yX3_copyFrom yX3_copyFrom, .initialized RX3, .code yX3_copyFrom cX3_copyFrom 2 none, .fieldLink RX3 21 "LineDoubler$Table" "cells" "[I", .methodLink RX3 31 Lib.Math.min.name, .static Lib.Math.min.name, .initialized "java/lang/Math", .code Lib.Math.min.name Lib.Math.min.code 2 (some .int), .methodLink RX3 25 arraycopyName] ++ wsX20 ++ wsX30)
def wsX4_keepCopy_r1 : List Cond := [Cond.classLink RX4 7 RX2, Cond.instantiable RX2 6, Cond.initialized RX2, Cond.methodLink RX4 9 yX2_init, Cond.instanceMethod yX2_init, Cond.code yX2_init cX2_init 2 none, Cond.methodLink RX2 3 objectInit, Cond.instanceMethod objectInit, Cond.code objectInit ⟨#[0xb1]⟩ 1 none, Cond.arrayClass .int, Cond.fieldLink RX2 9 "LineDoubler$State" "numbers" "[I", Cond.fieldLink RX2 15 "LineDoubler$State" "values" "[I", Cond.classLink RX2 18 RX3, Cond.instantiable RX3 2, Cond.initialized RX3, Cond.fieldLink RX2 23 "LineDoubler$State" "queue" "LLineDoubler$Table;", Cond.fieldLink RX2 27 "LineDoubler$State" "screen" "LLineDoubler$Table;", Cond.fieldLink RX2 30 "LineDoubler$State" "lost" "LLineDoubler$Table;", Cond.methodLink RX2 20 yX3_init, Cond.instanceMethod yX3_init, Cond.code yX3_init cX3_init 5 none, Cond.methodLink RX3 3 objectInit, Cond.fieldLink RX3 9 "LineDoubler$Table" "columns" "I", Cond.methodLink RX3 15 Lib.Math.max.name]
def wsX4_keepCopy_r2 : List Cond := [Cond.static Lib.Math.max.name, Cond.initialized "java/lang/Math", Cond.code Lib.Math.max.name Lib.Math.max.code 2 (some .int), Cond.fieldLink RX3 21 "LineDoubler$Table" "cells" "[I", Cond.methodLink RX4 111 yX2_copyFrom, Cond.instanceMethod yX2_copyFrom, Cond.selects RX2 yX2_copyFrom yX2_copyFrom, Cond.code yX2_copyFrom cX2_copyFrom 2 none, Cond.methodLink RX2 36 arraycopyName, Cond.native arraycopyName, Cond.static arraycopyName, Cond.initialized "java/lang/System", Cond.fieldLink RX2 46 "LineDoubler$State" "waitedSum" "I", Cond.methodLink RX2 42 yX3_copyFrom, Cond.instanceMethod yX3_copyFrom, Cond.selects RX3 yX3_copyFrom yX3_copyFrom, Cond.code yX3_copyFrom cX3_copyFrom 2 none, Cond.methodLink RX3 31 Lib.Math.min.name, Cond.static Lib.Math.min.name, Cond.code Lib.Math.min.name Lib.Math.min.code 2 (some .int), Cond.methodLink RX3 25 arraycopyName]
def wsX4_keepCopy : List Cond := .code yX4_keepCopy cX4_keepCopy 3 none :: ((wsX4_keepCopy_r1 ++ wsX4_keepCopy_r2) ++ wsX20 ++ wsX30)
def wsX0_prepare_r1 : List Cond := [Cond.fieldLink RX0 13 "LineDoubler$History" "states" "[LLineDoubler$State;", Cond.fieldLink RX0 17 "LineDoubler$History" "oldest" "I", Cond.fieldLink RX0 21 "LineDoubler$History" "size" "I", Cond.static yX4_keepCopy, Cond.initialized RX4, Cond.code yX4_keepCopy cX4_keepCopy 3 none, Cond.classLink RX4 7 RX2, Cond.instantiable RX2 6, Cond.initialized RX2, Cond.methodLink RX4 9 yX2_init, Cond.instanceMethod yX2_init, Cond.code yX2_init cX2_init 2 none, Cond.methodLink RX2 3 objectInit, Cond.instanceMethod objectInit, Cond.code objectInit ⟨#[0xb1]⟩ 1 none, Cond.arrayClass .int, Cond.fieldLink RX2 9 "LineDoubler$State" "numbers" "[I", Cond.fieldLink RX2 15 "LineDoubler$State" "values" "[I", Cond.classLink RX2 18 RX3, Cond.instantiable RX3 2, Cond.initialized RX3, Cond.fieldLink RX2 23 "LineDoubler$State" "queue" "LLineDoubler$Table;", Cond.fieldLink RX2 27 "LineDoubler$State" "screen" "LLineDoubler$Table;", Cond.fieldLink RX2 30 "LineDoubler$State" "lost" "LLineDoubler$Table;"]
def wsX0_prepare_r2 : List Cond := [Cond.methodLink RX2 20 yX3_init, Cond.instanceMethod yX3_init, Cond.code yX3_init cX3_init 5 none, Cond.methodLink RX3 3 objectInit, Cond.fieldLink RX3 9 "LineDoubler$Table" "columns" "I", Cond.methodLink RX3 15 Lib.Math.max.name, Cond.static Lib.Math.max.name, Cond.initialized "java/lang/Math", Cond.code Lib.Math.max.name Lib.Math.max.code 2 (some .int), Cond.fieldLink RX3 21 "LineDoubler$Table" "cells" "[I", Cond.methodLink RX4 111 yX2_copyFrom, Cond.instanceMethod yX2_copyFrom, Cond.selects RX2 yX2_copyFrom yX2_copyFrom, Cond.code yX2_copyFrom cX2_copyFrom 2 none, Cond.methodLink RX2 36 arraycopyName, Cond.native arraycopyName, Cond.static arraycopyName, Cond.initialized "java/lang/System", Cond.fieldLink RX2 46 "LineDoubler$State" "waitedSum" "I", Cond.methodLink RX2 42 yX3_copyFrom, Cond.instanceMethod yX3_copyFrom, Cond.selects RX3 yX3_copyFrom yX3_copyFrom, Cond.code yX3_copyFrom cX3_copyFrom 2 none, Cond.methodLink RX3 31 Lib.Math.min.name]
def wsX0_prepare_r3 : List Cond := [Cond.static Lib.Math.min.name, Cond.code Lib.Math.min.name Lib.Math.min.code 2 (some .int), Cond.methodLink RX3 25 arraycopyName]
def wsX0_prepare : List Cond := .code yX0_prepare cX0_prepare 2 none :: ((wsX0_prepare_r1 ++ (wsX0_prepare_r2 ++ wsX0_prepare_r3)) ++ wsX00 ++ wsX20 ++ wsX30)
def wsX0_keepIfDone : List Cond := .code yX0_keepIfDone cX0_keepIfDone 2 (some .int) :: ([.fieldLink RX0 21 "LineDoubler$History" "size" "I", .fieldLink RX0 17 "LineDoubler$History" "oldest" "I"] ++ wsX00)
def wsX0_takeLatest : List Cond := .code yX0_takeLatest cX0_takeLatest 1 (some (.object "LineDoubler$State")) :: ([.fieldLink RX0 21 "LineDoubler$History" "size" "I", .fieldLink RX0 13 "LineDoubler$History" "states" "[LLineDoubler$State;", .fieldLink RX0 17 "LineDoubler$History" "oldest" "I"] ++ wsX00)
def wsX1_init : List Cond := .code yX1_init cX1_init 1 none :: ([.methodLink RX1 3 objectInit, .instanceMethod objectInit, .code objectInit ⟨#[0xb1]⟩ 1 none, .arrayClass .char, .fieldLink RX1 9 "LineDoubler$Pad" "characters" "[C"] ++ wsX10)
def wsX1_append : List Cond := .code yX1_append cX1_append 5 none :: ([.fieldLink RX1 15 "LineDoubler$Pad" "length" "I", .fieldLink RX1 9 "LineDoubler$Pad" "characters" "[C", .constantLong RX1 19 (255)] ++ wsX10)
def wsX1_look : List Cond := .code yX1_look cX1_look 1 (some .char) :: ([.fieldLink RX1 21 "LineDoubler$Pad" "at" "I", .fieldLink RX1 15 "LineDoubler$Pad" "length" "I", .fieldLink RX1 9 "LineDoubler$Pad" "characters" "[C"] ++ wsX10)
def wsX1_isOrder : List Cond := .code yX1_isOrder cX1_isOrder 1 (some .boolean) :: ([])
def wsX1_isDigit : List Cond := .code yX1_isDigit cX1_isDigit 1 (some .boolean) :: ([])
def wsX1_readNumber : List Cond := .code yX1_readNumber cX1_readNumber 3 (some .int) :: ([.fieldLink RX1 21 "LineDoubler$Pad" "at" "I", .methodLink RX1 32 yX1_look, .instanceMethod yX1_look, .selects RX1 yX1_look yX1_look, .initialized RX1, .code yX1_look cX1_look 1 (some .char), .fieldLink RX1 15 "LineDoubler$Pad" "length" "I", .fieldLink RX1 9 "LineDoubler$Pad" "characters" "[C", .methodLink RX1 53 yX1_isDigit, .static yX1_isDigit, .code yX1_isDigit cX1_isDigit 1 (some .boolean)] ++ wsX10)
def wsX1_readSign : List Cond := .code yX1_readSign cX1_readSign 2 (some .boolean) :: ([.fieldLink RX1 21 "LineDoubler$Pad" "at" "I", .methodLink RX1 32 yX1_look, .instanceMethod yX1_look, .selects RX1 yX1_look yX1_look, .initialized RX1, .code yX1_look cX1_look 1 (some .char), .fieldLink RX1 15 "LineDoubler$Pad" "length" "I", .fieldLink RX1 9 "LineDoubler$Pad" "characters" "[C"] ++ wsX10)
def wsX1_readOrder_r1 : List Cond := [Cond.fieldLink RX1 36 "LineDoubler$Pad" "order" "C", Cond.fieldLink RX1 21 "LineDoubler$Pad" "at" "I", Cond.fieldLink RX1 47 "LineDoubler$Pad" "first" "I", Cond.fieldLink RX1 50 "LineDoubler$Pad" "second" "I", Cond.methodLink RX1 32 yX1_look, Cond.instanceMethod yX1_look, Cond.selects RX1 yX1_look yX1_look, Cond.initialized RX1, Cond.code yX1_look cX1_look 1 (some .char), Cond.fieldLink RX1 15 "LineDoubler$Pad" "length" "I", Cond.fieldLink RX1 9 "LineDoubler$Pad" "characters" "[C", Cond.methodLink RX1 40 yX1_isOrder, Cond.static yX1_isOrder, Cond.code yX1_isOrder cX1_isOrder 1 (some .boolean), Cond.methodLink RX1 43 yX1_readNumber, Cond.instanceMethod yX1_readNumber, Cond.selects RX1 yX1_readNumber yX1_readNumber, Cond.code yX1_readNumber cX1_readNumber 3 (some .int), Cond.methodLink RX1 53 yX1_isDigit, Cond.static yX1_isDigit, Cond.code yX1_isDigit cX1_isDigit 1 (some .boolean), Cond.methodLink RX1 28 yX1_readSign, Cond.instanceMethod yX1_readSign, Cond.selects RX1 yX1_readSign yX1_readSign]
def wsX1_readOrder_r2 : List Cond := [Cond.code yX1_readSign cX1_readSign 2 (some .boolean)]
def wsX1_readOrder : List Cond := .code yX1_readOrder cX1_readOrder 1 (some .boolean) :: ((wsX1_readOrder_r1 ++ wsX1_readOrder_r2) ++ wsX10)
def wsX1_findFault_r1 : List Cond := [Cond.fieldLink RX1 21 "LineDoubler$Pad" "at" "I", Cond.fieldLink RX1 15 "LineDoubler$Pad" "length" "I", Cond.methodLink RX1 24 yX1_readOrder, Cond.instanceMethod yX1_readOrder, Cond.selects RX1 yX1_readOrder yX1_readOrder, Cond.initialized RX1, Cond.code yX1_readOrder cX1_readOrder 1 (some .boolean), Cond.fieldLink RX1 36 "LineDoubler$Pad" "order" "C", Cond.fieldLink RX1 47 "LineDoubler$Pad" "first" "I", Cond.fieldLink RX1 50 "LineDoubler$Pad" "second" "I", Cond.methodLink RX1 32 yX1_look, Cond.instanceMethod yX1_look, Cond.selects RX1 yX1_look yX1_look, Cond.code yX1_look cX1_look 1 (some .char), Cond.fieldLink RX1 9 "LineDoubler$Pad" "characters" "[C", Cond.methodLink RX1 40 yX1_isOrder, Cond.static yX1_isOrder, Cond.code yX1_isOrder cX1_isOrder 1 (some .boolean), Cond.methodLink RX1 43 yX1_readNumber, Cond.instanceMethod yX1_readNumber, Cond.selects RX1 yX1_readNumber yX1_readNumber, Cond.code yX1_readNumber cX1_readNumber 3 (some .int), Cond.methodLink RX1 53 yX1_isDigit, Cond.static yX1_isDigit]
def wsX1_findFault_r2 : List Cond := [Cond.code yX1_isDigit cX1_isDigit 1 (some .boolean), Cond.methodLink RX1 28 yX1_readSign, Cond.instanceMethod yX1_readSign, Cond.selects RX1 yX1_readSign yX1_readSign, Cond.code yX1_readSign cX1_readSign 2 (some .boolean)]
def wsX1_findFault : List Cond := .code yX1_findFault cX1_findFault 2 (some .int) :: ((wsX1_findFault_r1 ++ wsX1_findFault_r2) ++ wsX10)
def wsX4_isWithin : List Cond := .code yX4_isWithin cX4_isWithin 3 (some .boolean) :: ([])
def wsX2_setting : List Cond := .code yX2_setting cX2_setting 2 (some .int) :: ([.fieldLink RX2 9 "LineDoubler$State" "numbers" "[I", .static yX4_isWithin, .initialized RX4, .code yX4_isWithin cX4_isWithin 3 (some .boolean)] ++ wsX20)
def wsX2_rowsOfScreen : List Cond := .code yX2_rowsOfScreen cX2_rowsOfScreen 1 (some .int) :: ([.methodLink RX2 54 yX2_setting, .instanceMethod yX2_setting, .selects RX2 yX2_setting yX2_setting, .initialized RX2, .code yX2_setting cX2_setting 2 (some .int), .fieldLink RX2 9 "LineDoubler$State" "numbers" "[I", .static yX4_isWithin, .initialized RX4, .code yX4_isWithin cX4_isWithin 3 (some .boolean)] ++ wsX20)
def wsX2_changeSetting : List Cond := .code yX2_changeSetting cX2_changeSetting 4 (some .int) :: ([.fieldLink RX2 9 "LineDoubler$State" "numbers" "[I", .static yX4_isWithin, .initialized RX4, .code yX4_isWithin cX4_isWithin 3 (some .boolean)] ++ wsX20)
def wsX2_changeValue : List Cond := .code yX2_changeValue cX2_changeValue 4 (some .int) :: ([.fieldLink RX2 15 "LineDoubler$State" "values" "[I", .static yX4_isWithin, .initialized RX4, .code yX4_isWithin cX4_isWithin 3 (some .boolean)] ++ wsX20)
def wsX2_delayClock : List Cond := .code yX2_delayClock cX2_delayClock 4 (some .int) :: ([.fieldLink RX2 9 "LineDoubler$State" "numbers" "[I", .static yX4_isWithin, .initialized RX4, .code yX4_isWithin cX4_isWithin 3 (some .boolean)] ++ wsX20)
def wsX3_write : List Cond := .code yX3_write cX3_write 5 none :: ([.fieldLink RX3 9 "LineDoubler$Table" "columns" "I", .fieldLink RX3 21 "LineDoubler$Table" "cells" "[I"] ++ wsX30)
def wsX2_nextLineWaits : List Cond := .code yX2_nextLineWaits cX2_nextLineWaits 5 none :: ([.fieldLink RX2 9 "LineDoubler$State" "numbers" "[I", .fieldLink RX2 15 "LineDoubler$State" "values" "[I", .fieldLink RX2 23 "LineDoubler$State" "queue" "LLineDoubler$Table;", .static yX4_isWithin, .initialized RX4, .code yX4_isWithin cX4_isWithin 3 (some .boolean), .methodLink RX2 54 yX2_setting, .instanceMethod yX2_setting, .selects RX2 yX2_setting yX2_setting, .initialized RX2, .code yX2_setting cX2_setting 2 (some .int), .methodLink RX2 90 yX3_write, .instanceMethod yX3_write, .selects RX3 yX3_write yX3_write, .initialized RX3, .code yX3_write cX3_write 5 none, .fieldLink RX3 9 "LineDoubler$Table" "columns" "I", .fieldLink RX3 21 "LineDoubler$Table" "cells" "[I"] ++ wsX20 ++ wsX30)
def wsX3_read : List Cond := .code yX3_read cX3_read 4 (some .int) :: ([.fieldLink RX3 9 "LineDoubler$Table" "columns" "I", .fieldLink RX3 21 "LineDoubler$Table" "cells" "[I"] ++ wsX30)
def wsX2_firstNotOut : List Cond := .code yX2_firstNotOut cX2_firstNotOut 2 (some .int) :: ([.fieldLink RX2 9 "LineDoubler$State" "numbers" "[I", .fieldLink RX2 23 "LineDoubler$State" "queue" "LLineDoubler$Table;", .methodLink RX2 93 yX3_read, .instanceMethod yX3_read, .selects RX3 yX3_read yX3_read, .initialized RX3, .code yX3_read cX3_read 4 (some .int), .fieldLink RX3 9 "LineDoubler$Table" "columns" "I", .fieldLink RX3 21 "LineDoubler$Table" "cells" "[I"] ++ wsX20 ++ wsX30)
def wsX3_removeRow : List Cond := .code yX3_removeRow cX3_removeRow 4 none :: ([.fieldLink RX3 9 "LineDoubler$Table" "columns" "I", .fieldLink RX3 21 "LineDoubler$Table" "cells" "[I", .methodLink RX3 25 arraycopyName, .native arraycopyName, .static arraycopyName, .initialized "java/lang/System"] ++ wsX30)
def wsX2_loseWaiting : List Cond := .code yX2_loseWaiting cX2_loseWaiting 4 none :: ([.fieldLink RX2 9 "LineDoubler$State" "numbers" "[I", .fieldLink RX2 30 "LineDoubler$State" "lost" "LLineDoubler$Table;", .fieldLink RX2 23 "LineDoubler$State" "queue" "LLineDoubler$Table;", .methodLink RX2 93 yX3_read, .instanceMethod yX3_read, .selects RX3 yX3_read yX3_read, .initialized RX3, .code yX3_read cX3_read 4 (some .int), .fieldLink RX3 9 "LineDoubler$Table" "columns" "I", .fieldLink RX3 21 "LineDoubler$Table" "cells" "[I", .methodLink RX2 90 yX3_write, .instanceMethod yX3_write, .selects RX3 yX3_write yX3_write, .code yX3_write cX3_write 5 none, .methodLink RX2 96 yX3_removeRow, .instanceMethod yX3_removeRow, .selects RX3 yX3_removeRow yX3_removeRow, .code yX3_removeRow cX3_removeRow 4 none, .methodLink RX3 25 arraycopyName, .native arraycopyName, .static arraycopyName, .initialized "java/lang/System"] ++ wsX20 ++ wsX30)
def wsX2_lineComes_r1 : List Cond := [Cond.fieldLink RX2 9 "LineDoubler$State" "numbers" "[I", Cond.methodLink RX2 83 yX2_nextLineWaits, Cond.instanceMethod yX2_nextLineWaits, Cond.selects RX2 yX2_nextLineWaits yX2_nextLineWaits, Cond.initialized RX2, Cond.code yX2_nextLineWaits cX2_nextLineWaits 5 none, Cond.fieldLink RX2 15 "LineDoubler$State" "values" "[I", Cond.fieldLink RX2 23 "LineDoubler$State" "queue" "LLineDoubler$Table;", Cond.static yX4_isWithin, Cond.initialized RX4, Cond.code yX4_isWithin cX4_isWithin 3 (some .boolean), Cond.methodLink RX2 54 yX2_setting, Cond.instanceMethod yX2_setting, Cond.selects RX2 yX2_setting yX2_setting, Cond.code yX2_setting cX2_setting 2 (some .int), Cond.methodLink RX2 90 yX3_write, Cond.instanceMethod yX3_write, Cond.selects RX3 yX3_write yX3_write, Cond.initialized RX3, Cond.code yX3_write cX3_write 5 none, Cond.fieldLink RX3 9 "LineDoubler$Table" "columns" "I", Cond.fieldLink RX3 21 "LineDoubler$Table" "cells" "[I", Cond.methodLink RX2 86 yX2_firstNotOut, Cond.instanceMethod yX2_firstNotOut]
def wsX2_lineComes_r2 : List Cond := [Cond.selects RX2 yX2_firstNotOut yX2_firstNotOut, Cond.code yX2_firstNotOut cX2_firstNotOut 2 (some .int), Cond.methodLink RX2 93 yX3_read, Cond.instanceMethod yX3_read, Cond.selects RX3 yX3_read yX3_read, Cond.code yX3_read cX3_read 4 (some .int), Cond.methodLink RX2 79 yX2_loseWaiting, Cond.instanceMethod yX2_loseWaiting, Cond.selects RX2 yX2_loseWaiting yX2_loseWaiting, Cond.code yX2_loseWaiting cX2_loseWaiting 4 none, Cond.fieldLink RX2 30 "LineDoubler$State" "lost" "LLineDoubler$Table;", Cond.methodLink RX2 96 yX3_removeRow, Cond.instanceMethod yX3_removeRow, Cond.selects RX3 yX3_removeRow yX3_removeRow, Cond.code yX3_removeRow cX3_removeRow 4 none, Cond.methodLink RX3 25 arraycopyName, Cond.native arraycopyName, Cond.static arraycopyName, Cond.initialized "java/lang/System"]
def wsX2_lineComes : List Cond := .code yX2_lineComes cX2_lineComes 3 none :: ((wsX2_lineComes_r1 ++ wsX2_lineComes_r2) ++ wsX20 ++ wsX30)
def wsX2_skipToPicture_r1 : List Cond := [Cond.fieldLink RX2 9 "LineDoubler$State" "numbers" "[I", Cond.fieldLink RX2 23 "LineDoubler$State" "queue" "LLineDoubler$Table;", Cond.methodLink RX2 93 yX3_read, Cond.instanceMethod yX3_read, Cond.selects RX3 yX3_read yX3_read, Cond.initialized RX3, Cond.code yX3_read cX3_read 4 (some .int), Cond.fieldLink RX3 9 "LineDoubler$Table" "columns" "I", Cond.fieldLink RX3 21 "LineDoubler$Table" "cells" "[I", Cond.methodLink RX2 79 yX2_loseWaiting, Cond.instanceMethod yX2_loseWaiting, Cond.selects RX2 yX2_loseWaiting yX2_loseWaiting, Cond.initialized RX2, Cond.code yX2_loseWaiting cX2_loseWaiting 4 none, Cond.fieldLink RX2 30 "LineDoubler$State" "lost" "LLineDoubler$Table;", Cond.methodLink RX2 90 yX3_write, Cond.instanceMethod yX3_write, Cond.selects RX3 yX3_write yX3_write, Cond.code yX3_write cX3_write 5 none, Cond.methodLink RX2 96 yX3_removeRow, Cond.instanceMethod yX3_removeRow, Cond.selects RX3 yX3_removeRow yX3_removeRow, Cond.code yX3_removeRow cX3_removeRow 4 none, Cond.methodLink RX3 25 arraycopyName]
def wsX2_skipToPicture_r2 : List Cond := [Cond.native arraycopyName, Cond.static arraycopyName, Cond.initialized "java/lang/System"]
def wsX2_skipToPicture : List Cond := .code yX2_skipToPicture cX2_skipToPicture 3 none :: ((wsX2_skipToPicture_r1 ++ wsX2_skipToPicture_r2) ++ wsX20 ++ wsX30)
def wsX2_showFirstWaiting : List Cond := .code yX2_showFirstWaiting cX2_showFirstWaiting 2 none :: ([.fieldLink RX2 27 "LineDoubler$State" "screen" "LLineDoubler$Table;", .fieldLink RX2 23 "LineDoubler$State" "queue" "LLineDoubler$Table;", .fieldLink RX2 9 "LineDoubler$State" "numbers" "[I", .methodLink RX2 93 yX3_read, .instanceMethod yX3_read, .selects RX3 yX3_read yX3_read, .initialized RX3, .code yX3_read cX3_read 4 (some .int), .fieldLink RX3 9 "LineDoubler$Table" "columns" "I", .fieldLink RX3 21 "LineDoubler$Table" "cells" "[I", .methodLink RX2 90 yX3_write, .instanceMethod yX3_write, .selects RX3 yX3_write yX3_write, .code yX3_write cX3_write 5 none, .methodLink RX2 96 yX3_removeRow, .instanceMethod yX3_removeRow, .selects RX3 yX3_removeRow yX3_removeRow, .code yX3_removeRow cX3_removeRow 4 none, .methodLink RX3 25 arraycopyName, .native arraycopyName, .static arraycopyName, .initialized "java/lang/System"] ++ wsX20 ++ wsX30)
def wsX2_showColour : List Cond := .code yX2_showColour cX2_showColour 2 none :: ([.fieldLink RX2 27 "LineDoubler$State" "screen" "LLineDoubler$Table;", .fieldLink RX2 9 "LineDoubler$State" "numbers" "[I", .methodLink RX2 54 yX2_setting, .instanceMethod yX2_setting, .selects RX2 yX2_setting yX2_setting, .initialized RX2, .code yX2_setting cX2_setting 2 (some .int), .static yX4_isWithin, .initialized RX4, .code yX4_isWithin cX4_isWithin 3 (some .boolean), .methodLink RX2 90 yX3_write, .instanceMethod yX3_write, .selects RX3 yX3_write yX3_write, .initialized RX3, .code yX3_write cX3_write 5 none, .fieldLink RX3 9 "LineDoubler$Table" "columns" "I", .fieldLink RX3 21 "LineDoubler$Table" "cells" "[I"] ++ wsX20 ++ wsX30)
def wsX2_judgeScreen : List Cond := .code yX2_judgeScreen cX2_judgeScreen 5 (some .int) :: ([.fieldLink RX2 27 "LineDoubler$State" "screen" "LLineDoubler$Table;", .methodLink RX2 93 yX3_read, .instanceMethod yX3_read, .selects RX3 yX3_read yX3_read, .initialized RX3, .code yX3_read cX3_read 4 (some .int), .fieldLink RX3 9 "LineDoubler$Table" "columns" "I", .fieldLink RX3 21 "LineDoubler$Table" "cells" "[I"] ++ wsX20 ++ wsX30)
def wsX2_rowGoesOut_r1 : List Cond := [Cond.fieldLink RX2 9 "LineDoubler$State" "numbers" "[I", Cond.methodLink RX2 100 yX2_rowsOfScreen, Cond.instanceMethod yX2_rowsOfScreen, Cond.selects RX2 yX2_rowsOfScreen yX2_rowsOfScreen, Cond.initialized RX2, Cond.code yX2_rowsOfScreen cX2_rowsOfScreen 1 (some .int), Cond.methodLink RX2 54 yX2_setting, Cond.instanceMethod yX2_setting, Cond.selects RX2 yX2_setting yX2_setting, Cond.code yX2_setting cX2_setting 2 (some .int), Cond.static yX4_isWithin, Cond.initialized RX4, Cond.code yX4_isWithin cX4_isWithin 3 (some .boolean), Cond.methodLink RX2 103 yX2_skipToPicture, Cond.instanceMethod yX2_skipToPicture, Cond.selects RX2 yX2_skipToPicture yX2_skipToPicture, Cond.code yX2_skipToPicture cX2_skipToPicture 3 none, Cond.fieldLink RX2 23 "LineDoubler$State" "queue" "LLineDoubler$Table;", Cond.methodLink RX2 93 yX3_read, Cond.instanceMethod yX3_read, Cond.selects RX3 yX3_read yX3_read, Cond.initialized RX3, Cond.code yX3_read cX3_read 4 (some .int), Cond.fieldLink RX3 9 "LineDoubler$Table" "columns" "I"]
def wsX2_rowGoesOut_r2 : List Cond := [Cond.fieldLink RX3 21 "LineDoubler$Table" "cells" "[I", Cond.methodLink RX2 79 yX2_loseWaiting, Cond.instanceMethod yX2_loseWaiting, Cond.selects RX2 yX2_loseWaiting yX2_loseWaiting, Cond.code yX2_loseWaiting cX2_loseWaiting 4 none, Cond.fieldLink RX2 30 "LineDoubler$State" "lost" "LLineDoubler$Table;", Cond.methodLink RX2 90 yX3_write, Cond.instanceMethod yX3_write, Cond.selects RX3 yX3_write yX3_write, Cond.code yX3_write cX3_write 5 none, Cond.methodLink RX2 96 yX3_removeRow, Cond.instanceMethod yX3_removeRow, Cond.selects RX3 yX3_removeRow yX3_removeRow, Cond.code yX3_removeRow cX3_removeRow 4 none, Cond.methodLink RX3 25 arraycopyName, Cond.native arraycopyName, Cond.static arraycopyName, Cond.initialized "java/lang/System", Cond.methodLink RX2 106 yX2_showFirstWaiting, Cond.instanceMethod yX2_showFirstWaiting, Cond.selects RX2 yX2_showFirstWaiting yX2_showFirstWaiting, Cond.code yX2_showFirstWaiting cX2_showFirstWaiting 2 none, Cond.fieldLink RX2 27 "LineDoubler$State" "screen" "LLineDoubler$Table;", Cond.methodLink RX2 109 yX2_showColour]
def wsX2_rowGoesOut_r3 : List Cond := [Cond.instanceMethod yX2_showColour, Cond.selects RX2 yX2_showColour yX2_showColour, Cond.code yX2_showColour cX2_showColour 2 none, Cond.methodLink RX2 112 yX2_judgeScreen, Cond.instanceMethod yX2_judgeScreen, Cond.selects RX2 yX2_judgeScreen yX2_judgeScreen, Cond.code yX2_judgeScreen cX2_judgeScreen 5 (some .int)]
def wsX2_rowGoesOut : List Cond := .code yX2_rowGoesOut cX2_rowGoesOut 4 none :: ((wsX2_rowGoesOut_r1 ++ (wsX2_rowGoesOut_r2 ++ wsX2_rowGoesOut_r3)) ++ wsX20 ++ wsX30)
def wsX2_passTicks_r1 : List Cond := [Cond.fieldLink RX2 9 "LineDoubler$State" "numbers" "[I", Cond.methodLink RX2 70 Lib.Math.min.name, Cond.static Lib.Math.min.name, Cond.initialized "java/lang/Math", Cond.code Lib.Math.min.name Lib.Math.min.code 2 (some .int), Cond.methodLink RX2 76 Lib.Math.max.name, Cond.static Lib.Math.max.name, Cond.code Lib.Math.max.name Lib.Math.max.code 2 (some .int), Cond.fieldLink RX2 46 "LineDoubler$State" "waitedSum" "I", Cond.static yX4_isWithin, Cond.initialized RX4, Cond.code yX4_isWithin cX4_isWithin 3 (some .boolean), Cond.methodLink RX2 64 yX2_lineComes, Cond.instanceMethod yX2_lineComes, Cond.selects RX2 yX2_lineComes yX2_lineComes, Cond.initialized RX2, Cond.code yX2_lineComes cX2_lineComes 3 none, Cond.methodLink RX2 83 yX2_nextLineWaits, Cond.instanceMethod yX2_nextLineWaits, Cond.selects RX2 yX2_nextLineWaits yX2_nextLineWaits, Cond.code yX2_nextLineWaits cX2_nextLineWaits 5 none, Cond.fieldLink RX2 15 "LineDoubler$State" "values" "[I", Cond.fieldLink RX2 23 "LineDoubler$State" "queue" "LLineDoubler$Table;", Cond.methodLink RX2 54 yX2_setting]
def wsX2_passTicks_r2 : List Cond := [Cond.instanceMethod yX2_setting, Cond.selects RX2 yX2_setting yX2_setting, Cond.code yX2_setting cX2_setting 2 (some .int), Cond.methodLink RX2 90 yX3_write, Cond.instanceMethod yX3_write, Cond.selects RX3 yX3_write yX3_write, Cond.initialized RX3, Cond.code yX3_write cX3_write 5 none, Cond.fieldLink RX3 9 "LineDoubler$Table" "columns" "I", Cond.fieldLink RX3 21 "LineDoubler$Table" "cells" "[I", Cond.methodLink RX2 86 yX2_firstNotOut, Cond.instanceMethod yX2_firstNotOut, Cond.selects RX2 yX2_firstNotOut yX2_firstNotOut, Cond.code yX2_firstNotOut cX2_firstNotOut 2 (some .int), Cond.methodLink RX2 93 yX3_read, Cond.instanceMethod yX3_read, Cond.selects RX3 yX3_read yX3_read, Cond.code yX3_read cX3_read 4 (some .int), Cond.methodLink RX2 79 yX2_loseWaiting, Cond.instanceMethod yX2_loseWaiting, Cond.selects RX2 yX2_loseWaiting yX2_loseWaiting, Cond.code yX2_loseWaiting cX2_loseWaiting 4 none, Cond.fieldLink RX2 30 "LineDoubler$State" "lost" "LLineDoubler$Table;", Cond.methodLink RX2 96 yX3_removeRow]
def wsX2_passTicks_r3 : List Cond := [Cond.instanceMethod yX3_removeRow, Cond.selects RX3 yX3_removeRow yX3_removeRow, Cond.code yX3_removeRow cX3_removeRow 4 none, Cond.methodLink RX3 25 arraycopyName, Cond.native arraycopyName, Cond.static arraycopyName, Cond.initialized "java/lang/System", Cond.methodLink RX2 67 yX2_rowGoesOut, Cond.instanceMethod yX2_rowGoesOut, Cond.selects RX2 yX2_rowGoesOut yX2_rowGoesOut, Cond.code yX2_rowGoesOut cX2_rowGoesOut 4 none, Cond.methodLink RX2 100 yX2_rowsOfScreen, Cond.instanceMethod yX2_rowsOfScreen, Cond.selects RX2 yX2_rowsOfScreen yX2_rowsOfScreen, Cond.code yX2_rowsOfScreen cX2_rowsOfScreen 1 (some .int), Cond.methodLink RX2 103 yX2_skipToPicture, Cond.instanceMethod yX2_skipToPicture, Cond.selects RX2 yX2_skipToPicture yX2_skipToPicture, Cond.code yX2_skipToPicture cX2_skipToPicture 3 none, Cond.methodLink RX2 106 yX2_showFirstWaiting, Cond.instanceMethod yX2_showFirstWaiting, Cond.selects RX2 yX2_showFirstWaiting yX2_showFirstWaiting, Cond.code yX2_showFirstWaiting cX2_showFirstWaiting 2 none, Cond.fieldLink RX2 27 "LineDoubler$State" "screen" "LLineDoubler$Table;"]
def wsX2_passTicks_r4 : List Cond := [Cond.methodLink RX2 109 yX2_showColour, Cond.instanceMethod yX2_showColour, Cond.selects RX2 yX2_showColour yX2_showColour, Cond.code yX2_showColour cX2_showColour 2 none, Cond.methodLink RX2 112 yX2_judgeScreen, Cond.instanceMethod yX2_judgeScreen, Cond.selects RX2 yX2_judgeScreen yX2_judgeScreen, Cond.code yX2_judgeScreen cX2_judgeScreen 5 (some .int)]
def wsX2_passTicks : List Cond := .code yX2_passTicks cX2_passTicks 6 (some .int) :: ((wsX2_passTicks_r1 ++ (wsX2_passTicks_r2 ++ (wsX2_passTicks_r3 ++ wsX2_passTicks_r4))) ++ wsX20 ++ wsX30)
def wsX2_skipAll_r1 : List Cond := [Cond.fieldLink RX2 9 "LineDoubler$State" "numbers" "[I", Cond.methodLink RX2 79 yX2_loseWaiting, Cond.instanceMethod yX2_loseWaiting, Cond.selects RX2 yX2_loseWaiting yX2_loseWaiting, Cond.initialized RX2, Cond.code yX2_loseWaiting cX2_loseWaiting 4 none, Cond.fieldLink RX2 30 "LineDoubler$State" "lost" "LLineDoubler$Table;", Cond.fieldLink RX2 23 "LineDoubler$State" "queue" "LLineDoubler$Table;", Cond.methodLink RX2 93 yX3_read, Cond.instanceMethod yX3_read, Cond.selects RX3 yX3_read yX3_read, Cond.initialized RX3, Cond.code yX3_read cX3_read 4 (some .int), Cond.fieldLink RX3 9 "LineDoubler$Table" "columns" "I", Cond.fieldLink RX3 21 "LineDoubler$Table" "cells" "[I", Cond.methodLink RX2 90 yX3_write, Cond.instanceMethod yX3_write, Cond.selects RX3 yX3_write yX3_write, Cond.code yX3_write cX3_write 5 none, Cond.methodLink RX2 96 yX3_removeRow, Cond.instanceMethod yX3_removeRow, Cond.selects RX3 yX3_removeRow yX3_removeRow, Cond.code yX3_removeRow cX3_removeRow 4 none, Cond.methodLink RX3 25 arraycopyName]
def wsX2_skipAll_r2 : List Cond := [Cond.native arraycopyName, Cond.static arraycopyName, Cond.initialized "java/lang/System"]
def wsX2_skipAll : List Cond := .code yX2_skipAll cX2_skipAll 3 (some .int) :: ((wsX2_skipAll_r1 ++ wsX2_skipAll_r2) ++ wsX20 ++ wsX30)
def wsX4_init_r1 : List Cond := [Cond.methodLink RX4 1 objectInit, Cond.instanceMethod objectInit, Cond.code objectInit ⟨#[0xb1]⟩ 1 none, Cond.classLink RX4 7 RX2, Cond.instantiable RX2 6, Cond.initialized RX2, Cond.fieldLink RX4 10 "LineDoubler" "state" "LLineDoubler$State;", Cond.fieldLink RX4 16 "LineDoubler" "trial" "LLineDoubler$State;", Cond.fieldLink RX4 19 "LineDoubler" "slots" "[LLineDoubler$State;", Cond.classLink RX4 23 RX0, Cond.instantiable RX0 3, Cond.initialized RX0, Cond.fieldLink RX4 26 "LineDoubler" "history" "LLineDoubler$History;", Cond.classLink RX4 30 RX1, Cond.instantiable RX1 6, Cond.initialized RX1, Cond.fieldLink RX4 33 "LineDoubler" "pad" "LLineDoubler$Pad;", Cond.methodLink RX4 9 yX2_init, Cond.instanceMethod yX2_init, Cond.code yX2_init cX2_init 2 none, Cond.methodLink RX2 3 objectInit, Cond.arrayClass .int, Cond.fieldLink RX2 9 "LineDoubler$State" "numbers" "[I", Cond.fieldLink RX2 15 "LineDoubler$State" "values" "[I"]
def wsX4_init_r2 : List Cond := [Cond.classLink RX2 18 RX3, Cond.instantiable RX3 2, Cond.initialized RX3, Cond.fieldLink RX2 23 "LineDoubler$State" "queue" "LLineDoubler$Table;", Cond.fieldLink RX2 27 "LineDoubler$State" "screen" "LLineDoubler$Table;", Cond.fieldLink RX2 30 "LineDoubler$State" "lost" "LLineDoubler$Table;", Cond.methodLink RX2 20 yX3_init, Cond.instanceMethod yX3_init, Cond.code yX3_init cX3_init 5 none, Cond.methodLink RX3 3 objectInit, Cond.fieldLink RX3 9 "LineDoubler$Table" "columns" "I", Cond.methodLink RX3 15 Lib.Math.max.name, Cond.static Lib.Math.max.name, Cond.initialized "java/lang/Math", Cond.code Lib.Math.max.name Lib.Math.max.code 2 (some .int), Cond.fieldLink RX3 21 "LineDoubler$Table" "cells" "[I", Cond.instanceMethod yX0_init, Cond.code yX0_init cX0_init 1 none, Cond.methodLink RX0 3 objectInit, Cond.classLink RX0 11 RX2, Cond.fieldLink RX0 13 "LineDoubler$History" "states" "[LLineDoubler$State;", Cond.instanceMethod yX1_init, Cond.code yX1_init cX1_init 1 none, Cond.methodLink RX1 3 objectInit]
def wsX4_init_r3 : List Cond := [Cond.arrayClass .char, Cond.fieldLink RX1 9 "LineDoubler$Pad" "characters" "[C"]
def wsX4_init : List Cond := .code yX4_init cX4_init 1 none :: ((wsX4_init_r1 ++ (wsX4_init_r2 ++ wsX4_init_r3)) ++ wsX20 ++ wsX40 ++ wsX00 ++ wsX10 ++ wsX30)
def wsX4_set_r1 : List Cond := [Cond.fieldLink RX4 26 "LineDoubler" "history" "LLineDoubler$History;", Cond.fieldLink RX4 10 "LineDoubler" "state" "LLineDoubler$State;", Cond.methodLink RX4 37 yX0_prepare, Cond.instanceMethod yX0_prepare, Cond.selects RX0 yX0_prepare yX0_prepare, Cond.initialized RX0, Cond.code yX0_prepare cX0_prepare 2 none, Cond.fieldLink RX0 13 "LineDoubler$History" "states" "[LLineDoubler$State;", Cond.fieldLink RX0 17 "LineDoubler$History" "oldest" "I", Cond.fieldLink RX0 21 "LineDoubler$History" "size" "I", Cond.static yX4_keepCopy, Cond.initialized RX4, Cond.code yX4_keepCopy cX4_keepCopy 3 none, Cond.classLink RX4 7 RX2, Cond.instantiable RX2 6, Cond.initialized RX2, Cond.methodLink RX4 9 yX2_init, Cond.instanceMethod yX2_init, Cond.code yX2_init cX2_init 2 none, Cond.methodLink RX2 3 objectInit, Cond.instanceMethod objectInit, Cond.code objectInit ⟨#[0xb1]⟩ 1 none, Cond.arrayClass .int, Cond.fieldLink RX2 9 "LineDoubler$State" "numbers" "[I"]
def wsX4_set_r2 : List Cond := [Cond.fieldLink RX2 15 "LineDoubler$State" "values" "[I", Cond.classLink RX2 18 RX3, Cond.instantiable RX3 2, Cond.initialized RX3, Cond.fieldLink RX2 23 "LineDoubler$State" "queue" "LLineDoubler$Table;", Cond.fieldLink RX2 27 "LineDoubler$State" "screen" "LLineDoubler$Table;", Cond.fieldLink RX2 30 "LineDoubler$State" "lost" "LLineDoubler$Table;", Cond.methodLink RX2 20 yX3_init, Cond.instanceMethod yX3_init, Cond.code yX3_init cX3_init 5 none, Cond.methodLink RX3 3 objectInit, Cond.fieldLink RX3 9 "LineDoubler$Table" "columns" "I", Cond.methodLink RX3 15 Lib.Math.max.name, Cond.static Lib.Math.max.name, Cond.initialized "java/lang/Math", Cond.code Lib.Math.max.name Lib.Math.max.code 2 (some .int), Cond.fieldLink RX3 21 "LineDoubler$Table" "cells" "[I", Cond.methodLink RX4 111 yX2_copyFrom, Cond.instanceMethod yX2_copyFrom, Cond.selects RX2 yX2_copyFrom yX2_copyFrom, Cond.code yX2_copyFrom cX2_copyFrom 2 none, Cond.methodLink RX2 36 arraycopyName, Cond.native arraycopyName, Cond.static arraycopyName]
def wsX4_set_r3 : List Cond := [Cond.initialized "java/lang/System", Cond.fieldLink RX2 46 "LineDoubler$State" "waitedSum" "I", Cond.methodLink RX2 42 yX3_copyFrom, Cond.instanceMethod yX3_copyFrom, Cond.selects RX3 yX3_copyFrom yX3_copyFrom, Cond.code yX3_copyFrom cX3_copyFrom 2 none, Cond.methodLink RX3 31 Lib.Math.min.name, Cond.static Lib.Math.min.name, Cond.code Lib.Math.min.name Lib.Math.min.code 2 (some .int), Cond.methodLink RX3 25 arraycopyName, Cond.methodLink RX4 41 yX2_changeSetting, Cond.instanceMethod yX2_changeSetting, Cond.selects RX2 yX2_changeSetting yX2_changeSetting, Cond.code yX2_changeSetting cX2_changeSetting 4 (some .int), Cond.static yX4_isWithin, Cond.code yX4_isWithin cX4_isWithin 3 (some .boolean), Cond.methodLink RX4 45 yX0_keepIfDone, Cond.instanceMethod yX0_keepIfDone, Cond.selects RX0 yX0_keepIfDone yX0_keepIfDone, Cond.code yX0_keepIfDone cX0_keepIfDone 2 (some .int)]
def wsX4_set : List Cond := .code yX4_set cX4_set 3 (some .int) :: ((wsX4_set_r1 ++ (wsX4_set_r2 ++ wsX4_set_r3)) ++ wsX40 ++ wsX00 ++ wsX20 ++ wsX30)
def wsX4_value_r1 : List Cond := [Cond.fieldLink RX4 26 "LineDoubler" "history" "LLineDoubler$History;", Cond.fieldLink RX4 10 "LineDoubler" "state" "LLineDoubler$State;", Cond.methodLink RX4 37 yX0_prepare, Cond.instanceMethod yX0_prepare, Cond.selects RX0 yX0_prepare yX0_prepare, Cond.initialized RX0, Cond.code yX0_prepare cX0_prepare 2 none, Cond.fieldLink RX0 13 "LineDoubler$History" "states" "[LLineDoubler$State;", Cond.fieldLink RX0 17 "LineDoubler$History" "oldest" "I", Cond.fieldLink RX0 21 "LineDoubler$History" "size" "I", Cond.static yX4_keepCopy, Cond.initialized RX4, Cond.code yX4_keepCopy cX4_keepCopy 3 none, Cond.classLink RX4 7 RX2, Cond.instantiable RX2 6, Cond.initialized RX2, Cond.methodLink RX4 9 yX2_init, Cond.instanceMethod yX2_init, Cond.code yX2_init cX2_init 2 none, Cond.methodLink RX2 3 objectInit, Cond.instanceMethod objectInit, Cond.code objectInit ⟨#[0xb1]⟩ 1 none, Cond.arrayClass .int, Cond.fieldLink RX2 9 "LineDoubler$State" "numbers" "[I"]
def wsX4_value_r2 : List Cond := [Cond.fieldLink RX2 15 "LineDoubler$State" "values" "[I", Cond.classLink RX2 18 RX3, Cond.instantiable RX3 2, Cond.initialized RX3, Cond.fieldLink RX2 23 "LineDoubler$State" "queue" "LLineDoubler$Table;", Cond.fieldLink RX2 27 "LineDoubler$State" "screen" "LLineDoubler$Table;", Cond.fieldLink RX2 30 "LineDoubler$State" "lost" "LLineDoubler$Table;", Cond.methodLink RX2 20 yX3_init, Cond.instanceMethod yX3_init, Cond.code yX3_init cX3_init 5 none, Cond.methodLink RX3 3 objectInit, Cond.fieldLink RX3 9 "LineDoubler$Table" "columns" "I", Cond.methodLink RX3 15 Lib.Math.max.name, Cond.static Lib.Math.max.name, Cond.initialized "java/lang/Math", Cond.code Lib.Math.max.name Lib.Math.max.code 2 (some .int), Cond.fieldLink RX3 21 "LineDoubler$Table" "cells" "[I", Cond.methodLink RX4 111 yX2_copyFrom, Cond.instanceMethod yX2_copyFrom, Cond.selects RX2 yX2_copyFrom yX2_copyFrom, Cond.code yX2_copyFrom cX2_copyFrom 2 none, Cond.methodLink RX2 36 arraycopyName, Cond.native arraycopyName, Cond.static arraycopyName]
def wsX4_value_r3 : List Cond := [Cond.initialized "java/lang/System", Cond.fieldLink RX2 46 "LineDoubler$State" "waitedSum" "I", Cond.methodLink RX2 42 yX3_copyFrom, Cond.instanceMethod yX3_copyFrom, Cond.selects RX3 yX3_copyFrom yX3_copyFrom, Cond.code yX3_copyFrom cX3_copyFrom 2 none, Cond.methodLink RX3 31 Lib.Math.min.name, Cond.static Lib.Math.min.name, Cond.code Lib.Math.min.name Lib.Math.min.code 2 (some .int), Cond.methodLink RX3 25 arraycopyName, Cond.methodLink RX4 49 yX2_changeValue, Cond.instanceMethod yX2_changeValue, Cond.selects RX2 yX2_changeValue yX2_changeValue, Cond.code yX2_changeValue cX2_changeValue 4 (some .int), Cond.static yX4_isWithin, Cond.code yX4_isWithin cX4_isWithin 3 (some .boolean), Cond.methodLink RX4 45 yX0_keepIfDone, Cond.instanceMethod yX0_keepIfDone, Cond.selects RX0 yX0_keepIfDone yX0_keepIfDone, Cond.code yX0_keepIfDone cX0_keepIfDone 2 (some .int)]
def wsX4_value : List Cond := .code yX4_value cX4_value 3 (some .int) :: ((wsX4_value_r1 ++ (wsX4_value_r2 ++ wsX4_value_r3)) ++ wsX40 ++ wsX00 ++ wsX20 ++ wsX30)
def wsX4_slip_r1 : List Cond := [Cond.fieldLink RX4 26 "LineDoubler" "history" "LLineDoubler$History;", Cond.fieldLink RX4 10 "LineDoubler" "state" "LLineDoubler$State;", Cond.methodLink RX4 37 yX0_prepare, Cond.instanceMethod yX0_prepare, Cond.selects RX0 yX0_prepare yX0_prepare, Cond.initialized RX0, Cond.code yX0_prepare cX0_prepare 2 none, Cond.fieldLink RX0 13 "LineDoubler$History" "states" "[LLineDoubler$State;", Cond.fieldLink RX0 17 "LineDoubler$History" "oldest" "I", Cond.fieldLink RX0 21 "LineDoubler$History" "size" "I", Cond.static yX4_keepCopy, Cond.initialized RX4, Cond.code yX4_keepCopy cX4_keepCopy 3 none, Cond.classLink RX4 7 RX2, Cond.instantiable RX2 6, Cond.initialized RX2, Cond.methodLink RX4 9 yX2_init, Cond.instanceMethod yX2_init, Cond.code yX2_init cX2_init 2 none, Cond.methodLink RX2 3 objectInit, Cond.instanceMethod objectInit, Cond.code objectInit ⟨#[0xb1]⟩ 1 none, Cond.arrayClass .int, Cond.fieldLink RX2 9 "LineDoubler$State" "numbers" "[I"]
def wsX4_slip_r2 : List Cond := [Cond.fieldLink RX2 15 "LineDoubler$State" "values" "[I", Cond.classLink RX2 18 RX3, Cond.instantiable RX3 2, Cond.initialized RX3, Cond.fieldLink RX2 23 "LineDoubler$State" "queue" "LLineDoubler$Table;", Cond.fieldLink RX2 27 "LineDoubler$State" "screen" "LLineDoubler$Table;", Cond.fieldLink RX2 30 "LineDoubler$State" "lost" "LLineDoubler$Table;", Cond.methodLink RX2 20 yX3_init, Cond.instanceMethod yX3_init, Cond.code yX3_init cX3_init 5 none, Cond.methodLink RX3 3 objectInit, Cond.fieldLink RX3 9 "LineDoubler$Table" "columns" "I", Cond.methodLink RX3 15 Lib.Math.max.name, Cond.static Lib.Math.max.name, Cond.initialized "java/lang/Math", Cond.code Lib.Math.max.name Lib.Math.max.code 2 (some .int), Cond.fieldLink RX3 21 "LineDoubler$Table" "cells" "[I", Cond.methodLink RX4 111 yX2_copyFrom, Cond.instanceMethod yX2_copyFrom, Cond.selects RX2 yX2_copyFrom yX2_copyFrom, Cond.code yX2_copyFrom cX2_copyFrom 2 none, Cond.methodLink RX2 36 arraycopyName, Cond.native arraycopyName, Cond.static arraycopyName]
def wsX4_slip_r3 : List Cond := [Cond.initialized "java/lang/System", Cond.fieldLink RX2 46 "LineDoubler$State" "waitedSum" "I", Cond.methodLink RX2 42 yX3_copyFrom, Cond.instanceMethod yX3_copyFrom, Cond.selects RX3 yX3_copyFrom yX3_copyFrom, Cond.code yX3_copyFrom cX3_copyFrom 2 none, Cond.methodLink RX3 31 Lib.Math.min.name, Cond.static Lib.Math.min.name, Cond.code Lib.Math.min.name Lib.Math.min.code 2 (some .int), Cond.methodLink RX3 25 arraycopyName, Cond.methodLink RX4 52 yX2_delayClock, Cond.instanceMethod yX2_delayClock, Cond.selects RX2 yX2_delayClock yX2_delayClock, Cond.code yX2_delayClock cX2_delayClock 4 (some .int), Cond.static yX4_isWithin, Cond.code yX4_isWithin cX4_isWithin 3 (some .boolean), Cond.methodLink RX4 45 yX0_keepIfDone, Cond.instanceMethod yX0_keepIfDone, Cond.selects RX0 yX0_keepIfDone yX0_keepIfDone, Cond.code yX0_keepIfDone cX0_keepIfDone 2 (some .int)]
def wsX4_slip : List Cond := .code yX4_slip cX4_slip 3 (some .int) :: ((wsX4_slip_r1 ++ (wsX4_slip_r2 ++ wsX4_slip_r3)) ++ wsX40 ++ wsX00 ++ wsX20 ++ wsX30)
def wsX4_pass_r1 : List Cond := [Cond.fieldLink RX4 26 "LineDoubler" "history" "LLineDoubler$History;", Cond.fieldLink RX4 10 "LineDoubler" "state" "LLineDoubler$State;", Cond.constant RX4 55 (99999), Cond.methodLink RX4 37 yX0_prepare, Cond.instanceMethod yX0_prepare, Cond.selects RX0 yX0_prepare yX0_prepare, Cond.initialized RX0, Cond.code yX0_prepare cX0_prepare 2 none, Cond.fieldLink RX0 13 "LineDoubler$History" "states" "[LLineDoubler$State;", Cond.fieldLink RX0 17 "LineDoubler$History" "oldest" "I", Cond.fieldLink RX0 21 "LineDoubler$History" "size" "I", Cond.static yX4_keepCopy, Cond.initialized RX4, Cond.code yX4_keepCopy cX4_keepCopy 3 none, Cond.classLink RX4 7 RX2, Cond.instantiable RX2 6, Cond.initialized RX2, Cond.methodLink RX4 9 yX2_init, Cond.instanceMethod yX2_init, Cond.code yX2_init cX2_init 2 none, Cond.methodLink RX2 3 objectInit, Cond.instanceMethod objectInit, Cond.code objectInit ⟨#[0xb1]⟩ 1 none, Cond.arrayClass .int]
def wsX4_pass_r2 : List Cond := [Cond.fieldLink RX2 9 "LineDoubler$State" "numbers" "[I", Cond.fieldLink RX2 15 "LineDoubler$State" "values" "[I", Cond.classLink RX2 18 RX3, Cond.instantiable RX3 2, Cond.initialized RX3, Cond.fieldLink RX2 23 "LineDoubler$State" "queue" "LLineDoubler$Table;", Cond.fieldLink RX2 27 "LineDoubler$State" "screen" "LLineDoubler$Table;", Cond.fieldLink RX2 30 "LineDoubler$State" "lost" "LLineDoubler$Table;", Cond.methodLink RX2 20 yX3_init, Cond.instanceMethod yX3_init, Cond.code yX3_init cX3_init 5 none, Cond.methodLink RX3 3 objectInit, Cond.fieldLink RX3 9 "LineDoubler$Table" "columns" "I", Cond.methodLink RX3 15 Lib.Math.max.name, Cond.static Lib.Math.max.name, Cond.initialized "java/lang/Math", Cond.code Lib.Math.max.name Lib.Math.max.code 2 (some .int), Cond.fieldLink RX3 21 "LineDoubler$Table" "cells" "[I", Cond.methodLink RX4 111 yX2_copyFrom, Cond.instanceMethod yX2_copyFrom, Cond.selects RX2 yX2_copyFrom yX2_copyFrom, Cond.code yX2_copyFrom cX2_copyFrom 2 none, Cond.methodLink RX2 36 arraycopyName, Cond.native arraycopyName]
def wsX4_pass_r3 : List Cond := [Cond.static arraycopyName, Cond.initialized "java/lang/System", Cond.fieldLink RX2 46 "LineDoubler$State" "waitedSum" "I", Cond.methodLink RX2 42 yX3_copyFrom, Cond.instanceMethod yX3_copyFrom, Cond.selects RX3 yX3_copyFrom yX3_copyFrom, Cond.code yX3_copyFrom cX3_copyFrom 2 none, Cond.methodLink RX3 31 Lib.Math.min.name, Cond.static Lib.Math.min.name, Cond.code Lib.Math.min.name Lib.Math.min.code 2 (some .int), Cond.methodLink RX3 25 arraycopyName, Cond.methodLink RX4 56 yX2_passTicks, Cond.instanceMethod yX2_passTicks, Cond.selects RX2 yX2_passTicks yX2_passTicks, Cond.code yX2_passTicks cX2_passTicks 6 (some .int), Cond.methodLink RX2 70 Lib.Math.min.name, Cond.methodLink RX2 76 Lib.Math.max.name, Cond.static yX4_isWithin, Cond.code yX4_isWithin cX4_isWithin 3 (some .boolean), Cond.methodLink RX2 64 yX2_lineComes, Cond.instanceMethod yX2_lineComes, Cond.selects RX2 yX2_lineComes yX2_lineComes, Cond.code yX2_lineComes cX2_lineComes 3 none, Cond.methodLink RX2 83 yX2_nextLineWaits]
def wsX4_pass_r4 : List Cond := [Cond.instanceMethod yX2_nextLineWaits, Cond.selects RX2 yX2_nextLineWaits yX2_nextLineWaits, Cond.code yX2_nextLineWaits cX2_nextLineWaits 5 none, Cond.methodLink RX2 54 yX2_setting, Cond.instanceMethod yX2_setting, Cond.selects RX2 yX2_setting yX2_setting, Cond.code yX2_setting cX2_setting 2 (some .int), Cond.methodLink RX2 90 yX3_write, Cond.instanceMethod yX3_write, Cond.selects RX3 yX3_write yX3_write, Cond.code yX3_write cX3_write 5 none, Cond.methodLink RX2 86 yX2_firstNotOut, Cond.instanceMethod yX2_firstNotOut, Cond.selects RX2 yX2_firstNotOut yX2_firstNotOut, Cond.code yX2_firstNotOut cX2_firstNotOut 2 (some .int), Cond.methodLink RX2 93 yX3_read, Cond.instanceMethod yX3_read, Cond.selects RX3 yX3_read yX3_read, Cond.code yX3_read cX3_read 4 (some .int), Cond.methodLink RX2 79 yX2_loseWaiting, Cond.instanceMethod yX2_loseWaiting, Cond.selects RX2 yX2_loseWaiting yX2_loseWaiting, Cond.code yX2_loseWaiting cX2_loseWaiting 4 none, Cond.methodLink RX2 96 yX3_removeRow]
def wsX4_pass_r5 : List Cond := [Cond.instanceMethod yX3_removeRow, Cond.selects RX3 yX3_removeRow yX3_removeRow, Cond.code yX3_removeRow cX3_removeRow 4 none, Cond.methodLink RX2 67 yX2_rowGoesOut, Cond.instanceMethod yX2_rowGoesOut, Cond.selects RX2 yX2_rowGoesOut yX2_rowGoesOut, Cond.code yX2_rowGoesOut cX2_rowGoesOut 4 none, Cond.methodLink RX2 100 yX2_rowsOfScreen, Cond.instanceMethod yX2_rowsOfScreen, Cond.selects RX2 yX2_rowsOfScreen yX2_rowsOfScreen, Cond.code yX2_rowsOfScreen cX2_rowsOfScreen 1 (some .int), Cond.methodLink RX2 103 yX2_skipToPicture, Cond.instanceMethod yX2_skipToPicture, Cond.selects RX2 yX2_skipToPicture yX2_skipToPicture, Cond.code yX2_skipToPicture cX2_skipToPicture 3 none, Cond.methodLink RX2 106 yX2_showFirstWaiting, Cond.instanceMethod yX2_showFirstWaiting, Cond.selects RX2 yX2_showFirstWaiting yX2_showFirstWaiting, Cond.code yX2_showFirstWaiting cX2_showFirstWaiting 2 none, Cond.methodLink RX2 109 yX2_showColour, Cond.instanceMethod yX2_showColour, Cond.selects RX2 yX2_showColour yX2_showColour, Cond.code yX2_showColour cX2_showColour 2 none, Cond.methodLink RX2 112 yX2_judgeScreen]
def wsX4_pass_r6 : List Cond := [Cond.instanceMethod yX2_judgeScreen, Cond.selects RX2 yX2_judgeScreen yX2_judgeScreen, Cond.code yX2_judgeScreen cX2_judgeScreen 5 (some .int), Cond.methodLink RX4 45 yX0_keepIfDone, Cond.instanceMethod yX0_keepIfDone, Cond.selects RX0 yX0_keepIfDone yX0_keepIfDone, Cond.code yX0_keepIfDone cX0_keepIfDone 2 (some .int)]
def wsX4_pass : List Cond := .code yX4_pass cX4_pass 2 (some .int) :: ((wsX4_pass_r1 ++ (wsX4_pass_r2 ++ (wsX4_pass_r3 ++ (wsX4_pass_r4 ++ (wsX4_pass_r5 ++ wsX4_pass_r6))))) ++ wsX40 ++ wsX00 ++ wsX20 ++ wsX30)
def wsX4_flush_r1 : List Cond := [Cond.fieldLink RX4 26 "LineDoubler" "history" "LLineDoubler$History;", Cond.fieldLink RX4 10 "LineDoubler" "state" "LLineDoubler$State;", Cond.methodLink RX4 37 yX0_prepare, Cond.instanceMethod yX0_prepare, Cond.selects RX0 yX0_prepare yX0_prepare, Cond.initialized RX0, Cond.code yX0_prepare cX0_prepare 2 none, Cond.fieldLink RX0 13 "LineDoubler$History" "states" "[LLineDoubler$State;", Cond.fieldLink RX0 17 "LineDoubler$History" "oldest" "I", Cond.fieldLink RX0 21 "LineDoubler$History" "size" "I", Cond.static yX4_keepCopy, Cond.initialized RX4, Cond.code yX4_keepCopy cX4_keepCopy 3 none, Cond.classLink RX4 7 RX2, Cond.instantiable RX2 6, Cond.initialized RX2, Cond.methodLink RX4 9 yX2_init, Cond.instanceMethod yX2_init, Cond.code yX2_init cX2_init 2 none, Cond.methodLink RX2 3 objectInit, Cond.instanceMethod objectInit, Cond.code objectInit ⟨#[0xb1]⟩ 1 none, Cond.arrayClass .int, Cond.fieldLink RX2 9 "LineDoubler$State" "numbers" "[I"]
def wsX4_flush_r2 : List Cond := [Cond.fieldLink RX2 15 "LineDoubler$State" "values" "[I", Cond.classLink RX2 18 RX3, Cond.instantiable RX3 2, Cond.initialized RX3, Cond.fieldLink RX2 23 "LineDoubler$State" "queue" "LLineDoubler$Table;", Cond.fieldLink RX2 27 "LineDoubler$State" "screen" "LLineDoubler$Table;", Cond.fieldLink RX2 30 "LineDoubler$State" "lost" "LLineDoubler$Table;", Cond.methodLink RX2 20 yX3_init, Cond.instanceMethod yX3_init, Cond.code yX3_init cX3_init 5 none, Cond.methodLink RX3 3 objectInit, Cond.fieldLink RX3 9 "LineDoubler$Table" "columns" "I", Cond.methodLink RX3 15 Lib.Math.max.name, Cond.static Lib.Math.max.name, Cond.initialized "java/lang/Math", Cond.code Lib.Math.max.name Lib.Math.max.code 2 (some .int), Cond.fieldLink RX3 21 "LineDoubler$Table" "cells" "[I", Cond.methodLink RX4 111 yX2_copyFrom, Cond.instanceMethod yX2_copyFrom, Cond.selects RX2 yX2_copyFrom yX2_copyFrom, Cond.code yX2_copyFrom cX2_copyFrom 2 none, Cond.methodLink RX2 36 arraycopyName, Cond.native arraycopyName, Cond.static arraycopyName]
def wsX4_flush_r3 : List Cond := [Cond.initialized "java/lang/System", Cond.fieldLink RX2 46 "LineDoubler$State" "waitedSum" "I", Cond.methodLink RX2 42 yX3_copyFrom, Cond.instanceMethod yX3_copyFrom, Cond.selects RX3 yX3_copyFrom yX3_copyFrom, Cond.code yX3_copyFrom cX3_copyFrom 2 none, Cond.methodLink RX3 31 Lib.Math.min.name, Cond.static Lib.Math.min.name, Cond.code Lib.Math.min.name Lib.Math.min.code 2 (some .int), Cond.methodLink RX3 25 arraycopyName, Cond.methodLink RX4 59 yX2_skipAll, Cond.instanceMethod yX2_skipAll, Cond.selects RX2 yX2_skipAll yX2_skipAll, Cond.code yX2_skipAll cX2_skipAll 3 (some .int), Cond.methodLink RX2 79 yX2_loseWaiting, Cond.instanceMethod yX2_loseWaiting, Cond.selects RX2 yX2_loseWaiting yX2_loseWaiting, Cond.code yX2_loseWaiting cX2_loseWaiting 4 none, Cond.methodLink RX2 93 yX3_read, Cond.instanceMethod yX3_read, Cond.selects RX3 yX3_read yX3_read, Cond.code yX3_read cX3_read 4 (some .int), Cond.methodLink RX2 90 yX3_write, Cond.instanceMethod yX3_write]
def wsX4_flush_r4 : List Cond := [Cond.selects RX3 yX3_write yX3_write, Cond.code yX3_write cX3_write 5 none, Cond.methodLink RX2 96 yX3_removeRow, Cond.instanceMethod yX3_removeRow, Cond.selects RX3 yX3_removeRow yX3_removeRow, Cond.code yX3_removeRow cX3_removeRow 4 none, Cond.methodLink RX4 45 yX0_keepIfDone, Cond.instanceMethod yX0_keepIfDone, Cond.selects RX0 yX0_keepIfDone yX0_keepIfDone, Cond.code yX0_keepIfDone cX0_keepIfDone 2 (some .int)]
def wsX4_flush : List Cond := .code yX4_flush cX4_flush 1 (some .int) :: ((wsX4_flush_r1 ++ (wsX4_flush_r2 ++ (wsX4_flush_r3 ++ wsX4_flush_r4))) ++ wsX40 ++ wsX00 ++ wsX20 ++ wsX30)
def wsX4_waiting : List Cond := .code yX4_waiting cX4_waiting 3 (some .int) :: ([.fieldLink RX4 10 "LineDoubler" "state" "LLineDoubler$State;", .methodLink RX4 67 yX4_isWithin, .static yX4_isWithin, .initialized RX4, .code yX4_isWithin cX4_isWithin 3 (some .boolean), .methodLink RX4 75 yX3_read, .instanceMethod yX3_read, .selects RX3 yX3_read yX3_read, .initialized RX3, .code yX3_read cX3_read 4 (some .int), .fieldLink RX3 9 "LineDoubler$Table" "columns" "I", .fieldLink RX3 21 "LineDoubler$Table" "cells" "[I"] ++ wsX40 ++ wsX20 ++ wsX30)
def wsX4_row : List Cond := .code yX4_row cX4_row 3 (some .int) :: ([.fieldLink RX4 10 "LineDoubler" "state" "LLineDoubler$State;", .methodLink RX4 80 yX2_rowsOfScreen, .instanceMethod yX2_rowsOfScreen, .selects RX2 yX2_rowsOfScreen yX2_rowsOfScreen, .initialized RX2, .code yX2_rowsOfScreen cX2_rowsOfScreen 1 (some .int), .methodLink RX2 54 yX2_setting, .instanceMethod yX2_setting, .selects RX2 yX2_setting yX2_setting, .code yX2_setting cX2_setting 2 (some .int), .fieldLink RX2 9 "LineDoubler$State" "numbers" "[I", .static yX4_isWithin, .initialized RX4, .code yX4_isWithin cX4_isWithin 3 (some .boolean), .methodLink RX4 67 yX4_isWithin, .methodLink RX4 75 yX3_read, .instanceMethod yX3_read, .selects RX3 yX3_read yX3_read, .initialized RX3, .code yX3_read cX3_read 4 (some .int), .fieldLink RX3 9 "LineDoubler$Table" "columns" "I", .fieldLink RX3 21 "LineDoubler$Table" "cells" "[I"] ++ wsX40 ++ wsX20 ++ wsX30)
def wsX4_ofMissing : List Cond := .code yX4_ofMissing cX4_ofMissing 3 (some .int) :: ([.fieldLink RX4 10 "LineDoubler" "state" "LLineDoubler$State;", .methodLink RX4 86 Lib.Math.min.name, .static Lib.Math.min.name, .initialized "java/lang/Math", .code Lib.Math.min.name Lib.Math.min.code 2 (some .int), .methodLink RX4 67 yX4_isWithin, .static yX4_isWithin, .initialized RX4, .code yX4_isWithin cX4_isWithin 3 (some .boolean), .methodLink RX4 75 yX3_read, .instanceMethod yX3_read, .selects RX3 yX3_read yX3_read, .initialized RX3, .code yX3_read cX3_read 4 (some .int), .fieldLink RX3 9 "LineDoubler$Table" "columns" "I", .fieldLink RX3 21 "LineDoubler$Table" "cells" "[I"] ++ wsX40 ++ wsX20 ++ wsX30)
def wsX4_count : List Cond := .code yX4_count cX4_count 2 (some .int) :: ([.fieldLink RX4 33 "LineDoubler" "pad" "LLineDoubler$Pad;", .fieldLink RX4 26 "LineDoubler" "history" "LLineDoubler$History;", .fieldLink RX4 10 "LineDoubler" "state" "LLineDoubler$State;", .methodLink RX4 67 yX4_isWithin, .static yX4_isWithin, .initialized RX4, .code yX4_isWithin cX4_isWithin 3 (some .boolean)] ++ wsX40 ++ wsX10 ++ wsX00 ++ wsX20)
def wsX4_shown : List Cond := .code yX4_shown cX4_shown 3 (some .int) :: ([.fieldLink RX4 10 "LineDoubler" "state" "LLineDoubler$State;", .methodLink RX4 80 yX2_rowsOfScreen, .instanceMethod yX2_rowsOfScreen, .selects RX2 yX2_rowsOfScreen yX2_rowsOfScreen, .initialized RX2, .code yX2_rowsOfScreen cX2_rowsOfScreen 1 (some .int), .methodLink RX2 54 yX2_setting, .instanceMethod yX2_setting, .selects RX2 yX2_setting yX2_setting, .code yX2_setting cX2_setting 2 (some .int), .fieldLink RX2 9 "LineDoubler$State" "numbers" "[I", .static yX4_isWithin, .initialized RX4, .code yX4_isWithin cX4_isWithin 3 (some .boolean), .methodLink RX4 75 yX3_read, .instanceMethod yX3_read, .selects RX3 yX3_read yX3_read, .initialized RX3, .code yX3_read cX3_read 4 (some .int), .fieldLink RX3 9 "LineDoubler$Table" "columns" "I", .fieldLink RX3 21 "LineDoubler$Table" "cells" "[I"] ++ wsX40 ++ wsX20 ++ wsX30)
def wsX4_bitsOf : List Cond := .code yX4_bitsOf cX4_bitsOf 9 (some .long) :: ([.constantDouble RX4 170 (4611686018427387904)])
def wsX4_ratio : List Cond := .code yX4_ratio cX4_ratio 3 (some .int) :: ([.fieldLink RX4 10 "LineDoubler" "state" "LLineDoubler$State;", .methodLink RX4 101 yX2_setting, .instanceMethod yX2_setting, .selects RX2 yX2_setting yX2_setting, .initialized RX2, .code yX2_setting cX2_setting 2 (some .int), .fieldLink RX2 9 "LineDoubler$State" "numbers" "[I", .static yX4_isWithin, .initialized RX4, .code yX4_isWithin cX4_isWithin 3 (some .boolean), .methodLink RX4 104 yX4_bitsOf, .static yX4_bitsOf, .code yX4_bitsOf cX4_bitsOf 9 (some .long), .constantDouble RX4 170 (4611686018427387904)] ++ wsX40 ++ wsX20)
def wsX4_fill : List Cond := .code yX4_fill cX4_fill 2 (some .long) :: ([.fieldLink RX4 10 "LineDoubler" "state" "LLineDoubler$State;", .methodLink RX4 104 yX4_bitsOf, .static yX4_bitsOf, .initialized RX4, .code yX4_bitsOf cX4_bitsOf 9 (some .long), .constantDouble RX4 170 (4611686018427387904)] ++ wsX40 ++ wsX20)
def wsX4_gainOf : List Cond := .code yX4_gainOf cX4_gainOf 2 (some .int) :: ([.fieldLink RX4 16 "LineDoubler" "trial" "LLineDoubler$State;", .fieldLink RX4 10 "LineDoubler" "state" "LLineDoubler$State;", .methodLink RX4 67 yX4_isWithin, .static yX4_isWithin, .initialized RX4, .code yX4_isWithin cX4_isWithin 3 (some .boolean)] ++ wsX40 ++ wsX20)
def wsX4_would_r1 : List Cond := [Cond.fieldLink RX4 16 "LineDoubler" "trial" "LLineDoubler$State;", Cond.fieldLink RX4 10 "LineDoubler" "state" "LLineDoubler$State;", Cond.constant RX4 114 (1073741824), Cond.methodLink RX4 67 yX4_isWithin, Cond.static yX4_isWithin, Cond.initialized RX4, Cond.code yX4_isWithin cX4_isWithin 3 (some .boolean), Cond.methodLink RX4 111 yX2_copyFrom, Cond.instanceMethod yX2_copyFrom, Cond.selects RX2 yX2_copyFrom yX2_copyFrom, Cond.initialized RX2, Cond.code yX2_copyFrom cX2_copyFrom 2 none, Cond.fieldLink RX2 9 "LineDoubler$State" "numbers" "[I", Cond.methodLink RX2 36 arraycopyName, Cond.native arraycopyName, Cond.static arraycopyName, Cond.initialized "java/lang/System", Cond.fieldLink RX2 15 "LineDoubler$State" "values" "[I", Cond.fieldLink RX2 23 "LineDoubler$State" "queue" "LLineDoubler$Table;", Cond.fieldLink RX2 27 "LineDoubler$State" "screen" "LLineDoubler$Table;", Cond.fieldLink RX2 30 "LineDoubler$State" "lost" "LLineDoubler$Table;", Cond.fieldLink RX2 46 "LineDoubler$State" "waitedSum" "I", Cond.methodLink RX2 42 yX3_copyFrom, Cond.instanceMethod yX3_copyFrom]
def wsX4_would_r2 : List Cond := [Cond.selects RX3 yX3_copyFrom yX3_copyFrom, Cond.initialized RX3, Cond.code yX3_copyFrom cX3_copyFrom 2 none, Cond.fieldLink RX3 21 "LineDoubler$Table" "cells" "[I", Cond.methodLink RX3 31 Lib.Math.min.name, Cond.static Lib.Math.min.name, Cond.initialized "java/lang/Math", Cond.code Lib.Math.min.name Lib.Math.min.code 2 (some .int), Cond.methodLink RX3 25 arraycopyName, Cond.methodLink RX4 56 yX2_passTicks, Cond.instanceMethod yX2_passTicks, Cond.selects RX2 yX2_passTicks yX2_passTicks, Cond.code yX2_passTicks cX2_passTicks 6 (some .int), Cond.methodLink RX2 70 Lib.Math.min.name, Cond.methodLink RX2 76 Lib.Math.max.name, Cond.static Lib.Math.max.name, Cond.code Lib.Math.max.name Lib.Math.max.code 2 (some .int), Cond.methodLink RX2 64 yX2_lineComes, Cond.instanceMethod yX2_lineComes, Cond.selects RX2 yX2_lineComes yX2_lineComes, Cond.code yX2_lineComes cX2_lineComes 3 none, Cond.methodLink RX2 83 yX2_nextLineWaits, Cond.instanceMethod yX2_nextLineWaits, Cond.selects RX2 yX2_nextLineWaits yX2_nextLineWaits]
def wsX4_would_r3 : List Cond := [Cond.code yX2_nextLineWaits cX2_nextLineWaits 5 none, Cond.methodLink RX2 54 yX2_setting, Cond.instanceMethod yX2_setting, Cond.selects RX2 yX2_setting yX2_setting, Cond.code yX2_setting cX2_setting 2 (some .int), Cond.methodLink RX2 90 yX3_write, Cond.instanceMethod yX3_write, Cond.selects RX3 yX3_write yX3_write, Cond.code yX3_write cX3_write 5 none, Cond.fieldLink RX3 9 "LineDoubler$Table" "columns" "I", Cond.methodLink RX2 86 yX2_firstNotOut, Cond.instanceMethod yX2_firstNotOut, Cond.selects RX2 yX2_firstNotOut yX2_firstNotOut, Cond.code yX2_firstNotOut cX2_firstNotOut 2 (some .int), Cond.methodLink RX2 93 yX3_read, Cond.instanceMethod yX3_read, Cond.selects RX3 yX3_read yX3_read, Cond.code yX3_read cX3_read 4 (some .int), Cond.methodLink RX2 79 yX2_loseWaiting, Cond.instanceMethod yX2_loseWaiting, Cond.selects RX2 yX2_loseWaiting yX2_loseWaiting, Cond.code yX2_loseWaiting cX2_loseWaiting 4 none, Cond.methodLink RX2 96 yX3_removeRow, Cond.instanceMethod yX3_removeRow]
def wsX4_would_r4 : List Cond := [Cond.selects RX3 yX3_removeRow yX3_removeRow, Cond.code yX3_removeRow cX3_removeRow 4 none, Cond.methodLink RX2 67 yX2_rowGoesOut, Cond.instanceMethod yX2_rowGoesOut, Cond.selects RX2 yX2_rowGoesOut yX2_rowGoesOut, Cond.code yX2_rowGoesOut cX2_rowGoesOut 4 none, Cond.methodLink RX2 100 yX2_rowsOfScreen, Cond.instanceMethod yX2_rowsOfScreen, Cond.selects RX2 yX2_rowsOfScreen yX2_rowsOfScreen, Cond.code yX2_rowsOfScreen cX2_rowsOfScreen 1 (some .int), Cond.methodLink RX2 103 yX2_skipToPicture, Cond.instanceMethod yX2_skipToPicture, Cond.selects RX2 yX2_skipToPicture yX2_skipToPicture, Cond.code yX2_skipToPicture cX2_skipToPicture 3 none, Cond.methodLink RX2 106 yX2_showFirstWaiting, Cond.instanceMethod yX2_showFirstWaiting, Cond.selects RX2 yX2_showFirstWaiting yX2_showFirstWaiting, Cond.code yX2_showFirstWaiting cX2_showFirstWaiting 2 none, Cond.methodLink RX2 109 yX2_showColour, Cond.instanceMethod yX2_showColour, Cond.selects RX2 yX2_showColour yX2_showColour, Cond.code yX2_showColour cX2_showColour 2 none, Cond.methodLink RX2 112 yX2_judgeScreen, Cond.instanceMethod yX2_judgeScreen]
def wsX4_would_r5 : List Cond := [Cond.selects RX2 yX2_judgeScreen yX2_judgeScreen, Cond.code yX2_judgeScreen cX2_judgeScreen 5 (some .int), Cond.methodLink RX4 115 yX4_gainOf, Cond.instanceMethod yX4_gainOf, Cond.selects RX4 yX4_gainOf yX4_gainOf, Cond.code yX4_gainOf cX4_gainOf 2 (some .int)]
def wsX4_would : List Cond := .code yX4_would cX4_would 3 (some .int) :: ((wsX4_would_r1 ++ (wsX4_would_r2 ++ (wsX4_would_r3 ++ (wsX4_would_r4 ++ wsX4_would_r5)))) ++ wsX40 ++ wsX20 ++ wsX30)
def wsX4_tryWith_r1 : List Cond := [Cond.fieldLink RX4 16 "LineDoubler" "trial" "LLineDoubler$State;", Cond.fieldLink RX4 10 "LineDoubler" "state" "LLineDoubler$State;", Cond.constant RX4 114 (1073741824), Cond.methodLink RX4 111 yX2_copyFrom, Cond.instanceMethod yX2_copyFrom, Cond.selects RX2 yX2_copyFrom yX2_copyFrom, Cond.initialized RX2, Cond.code yX2_copyFrom cX2_copyFrom 2 none, Cond.fieldLink RX2 9 "LineDoubler$State" "numbers" "[I", Cond.methodLink RX2 36 arraycopyName, Cond.native arraycopyName, Cond.static arraycopyName, Cond.initialized "java/lang/System", Cond.fieldLink RX2 15 "LineDoubler$State" "values" "[I", Cond.fieldLink RX2 23 "LineDoubler$State" "queue" "LLineDoubler$Table;", Cond.fieldLink RX2 27 "LineDoubler$State" "screen" "LLineDoubler$Table;", Cond.fieldLink RX2 30 "LineDoubler$State" "lost" "LLineDoubler$Table;", Cond.fieldLink RX2 46 "LineDoubler$State" "waitedSum" "I", Cond.methodLink RX2 42 yX3_copyFrom, Cond.instanceMethod yX3_copyFrom, Cond.selects RX3 yX3_copyFrom yX3_copyFrom, Cond.initialized RX3, Cond.code yX3_copyFrom cX3_copyFrom 2 none, Cond.fieldLink RX3 21 "LineDoubler$Table" "cells" "[I"]
def wsX4_tryWith_r2 : List Cond := [Cond.methodLink RX3 31 Lib.Math.min.name, Cond.static Lib.Math.min.name, Cond.initialized "java/lang/Math", Cond.code Lib.Math.min.name Lib.Math.min.code 2 (some .int), Cond.methodLink RX3 25 arraycopyName, Cond.methodLink RX4 67 yX4_isWithin, Cond.static yX4_isWithin, Cond.initialized RX4, Cond.code yX4_isWithin cX4_isWithin 3 (some .boolean), Cond.methodLink RX4 56 yX2_passTicks, Cond.instanceMethod yX2_passTicks, Cond.selects RX2 yX2_passTicks yX2_passTicks, Cond.code yX2_passTicks cX2_passTicks 6 (some .int), Cond.methodLink RX2 70 Lib.Math.min.name, Cond.methodLink RX2 76 Lib.Math.max.name, Cond.static Lib.Math.max.name, Cond.code Lib.Math.max.name Lib.Math.max.code 2 (some .int), Cond.methodLink RX2 64 yX2_lineComes, Cond.instanceMethod yX2_lineComes, Cond.selects RX2 yX2_lineComes yX2_lineComes, Cond.code yX2_lineComes cX2_lineComes 3 none, Cond.methodLink RX2 83 yX2_nextLineWaits, Cond.instanceMethod yX2_nextLineWaits, Cond.selects RX2 yX2_nextLineWaits yX2_nextLineWaits]
def wsX4_tryWith_r3 : List Cond := [Cond.code yX2_nextLineWaits cX2_nextLineWaits 5 none, Cond.methodLink RX2 54 yX2_setting, Cond.instanceMethod yX2_setting, Cond.selects RX2 yX2_setting yX2_setting, Cond.code yX2_setting cX2_setting 2 (some .int), Cond.methodLink RX2 90 yX3_write, Cond.instanceMethod yX3_write, Cond.selects RX3 yX3_write yX3_write, Cond.code yX3_write cX3_write 5 none, Cond.fieldLink RX3 9 "LineDoubler$Table" "columns" "I", Cond.methodLink RX2 86 yX2_firstNotOut, Cond.instanceMethod yX2_firstNotOut, Cond.selects RX2 yX2_firstNotOut yX2_firstNotOut, Cond.code yX2_firstNotOut cX2_firstNotOut 2 (some .int), Cond.methodLink RX2 93 yX3_read, Cond.instanceMethod yX3_read, Cond.selects RX3 yX3_read yX3_read, Cond.code yX3_read cX3_read 4 (some .int), Cond.methodLink RX2 79 yX2_loseWaiting, Cond.instanceMethod yX2_loseWaiting, Cond.selects RX2 yX2_loseWaiting yX2_loseWaiting, Cond.code yX2_loseWaiting cX2_loseWaiting 4 none, Cond.methodLink RX2 96 yX3_removeRow, Cond.instanceMethod yX3_removeRow]
def wsX4_tryWith_r4 : List Cond := [Cond.selects RX3 yX3_removeRow yX3_removeRow, Cond.code yX3_removeRow cX3_removeRow 4 none, Cond.methodLink RX2 67 yX2_rowGoesOut, Cond.instanceMethod yX2_rowGoesOut, Cond.selects RX2 yX2_rowGoesOut yX2_rowGoesOut, Cond.code yX2_rowGoesOut cX2_rowGoesOut 4 none, Cond.methodLink RX2 100 yX2_rowsOfScreen, Cond.instanceMethod yX2_rowsOfScreen, Cond.selects RX2 yX2_rowsOfScreen yX2_rowsOfScreen, Cond.code yX2_rowsOfScreen cX2_rowsOfScreen 1 (some .int), Cond.methodLink RX2 103 yX2_skipToPicture, Cond.instanceMethod yX2_skipToPicture, Cond.selects RX2 yX2_skipToPicture yX2_skipToPicture, Cond.code yX2_skipToPicture cX2_skipToPicture 3 none, Cond.methodLink RX2 106 yX2_showFirstWaiting, Cond.instanceMethod yX2_showFirstWaiting, Cond.selects RX2 yX2_showFirstWaiting yX2_showFirstWaiting, Cond.code yX2_showFirstWaiting cX2_showFirstWaiting 2 none, Cond.methodLink RX2 109 yX2_showColour, Cond.instanceMethod yX2_showColour, Cond.selects RX2 yX2_showColour yX2_showColour, Cond.code yX2_showColour cX2_showColour 2 none, Cond.methodLink RX2 112 yX2_judgeScreen, Cond.instanceMethod yX2_judgeScreen]
def wsX4_tryWith_r5 : List Cond := [Cond.selects RX2 yX2_judgeScreen yX2_judgeScreen, Cond.code yX2_judgeScreen cX2_judgeScreen 5 (some .int)]
def wsX4_tryWith : List Cond := .code yX4_tryWith cX4_tryWith 4 none :: ((wsX4_tryWith_r1 ++ (wsX4_tryWith_r2 ++ (wsX4_tryWith_r3 ++ (wsX4_tryWith_r4 ++ wsX4_tryWith_r5)))) ++ wsX40 ++ wsX20 ++ wsX30)
def wsX4_leastRoom_r1 : List Cond := [Cond.fieldLink RX4 10 "LineDoubler" "state" "LLineDoubler$State;", Cond.methodLink RX4 118 Lib.Math.max.name, Cond.static Lib.Math.max.name, Cond.initialized "java/lang/Math", Cond.code Lib.Math.max.name Lib.Math.max.code 2 (some .int), Cond.methodLink RX4 67 yX4_isWithin, Cond.static yX4_isWithin, Cond.initialized RX4, Cond.code yX4_isWithin cX4_isWithin 3 (some .boolean), Cond.methodLink RX4 121 yX4_tryWith, Cond.instanceMethod yX4_tryWith, Cond.selects RX4 yX4_tryWith yX4_tryWith, Cond.code yX4_tryWith cX4_tryWith 4 none, Cond.fieldLink RX4 16 "LineDoubler" "trial" "LLineDoubler$State;", Cond.constant RX4 114 (1073741824), Cond.methodLink RX4 111 yX2_copyFrom, Cond.instanceMethod yX2_copyFrom, Cond.selects RX2 yX2_copyFrom yX2_copyFrom, Cond.initialized RX2, Cond.code yX2_copyFrom cX2_copyFrom 2 none, Cond.fieldLink RX2 9 "LineDoubler$State" "numbers" "[I", Cond.methodLink RX2 36 arraycopyName, Cond.native arraycopyName, Cond.static arraycopyName]
def wsX4_leastRoom_r2 : List Cond := [Cond.initialized "java/lang/System", Cond.fieldLink RX2 15 "LineDoubler$State" "values" "[I", Cond.fieldLink RX2 23 "LineDoubler$State" "queue" "LLineDoubler$Table;", Cond.fieldLink RX2 27 "LineDoubler$State" "screen" "LLineDoubler$Table;", Cond.fieldLink RX2 30 "LineDoubler$State" "lost" "LLineDoubler$Table;", Cond.fieldLink RX2 46 "LineDoubler$State" "waitedSum" "I", Cond.methodLink RX2 42 yX3_copyFrom, Cond.instanceMethod yX3_copyFrom, Cond.selects RX3 yX3_copyFrom yX3_copyFrom, Cond.initialized RX3, Cond.code yX3_copyFrom cX3_copyFrom 2 none, Cond.fieldLink RX3 21 "LineDoubler$Table" "cells" "[I", Cond.methodLink RX3 31 Lib.Math.min.name, Cond.static Lib.Math.min.name, Cond.code Lib.Math.min.name Lib.Math.min.code 2 (some .int), Cond.methodLink RX3 25 arraycopyName, Cond.methodLink RX4 56 yX2_passTicks, Cond.instanceMethod yX2_passTicks, Cond.selects RX2 yX2_passTicks yX2_passTicks, Cond.code yX2_passTicks cX2_passTicks 6 (some .int), Cond.methodLink RX2 70 Lib.Math.min.name, Cond.methodLink RX2 76 Lib.Math.max.name, Cond.methodLink RX2 64 yX2_lineComes, Cond.instanceMethod yX2_lineComes]
def wsX4_leastRoom_r3 : List Cond := [Cond.selects RX2 yX2_lineComes yX2_lineComes, Cond.code yX2_lineComes cX2_lineComes 3 none, Cond.methodLink RX2 83 yX2_nextLineWaits, Cond.instanceMethod yX2_nextLineWaits, Cond.selects RX2 yX2_nextLineWaits yX2_nextLineWaits, Cond.code yX2_nextLineWaits cX2_nextLineWaits 5 none, Cond.methodLink RX2 54 yX2_setting, Cond.instanceMethod yX2_setting, Cond.selects RX2 yX2_setting yX2_setting, Cond.code yX2_setting cX2_setting 2 (some .int), Cond.methodLink RX2 90 yX3_write, Cond.instanceMethod yX3_write, Cond.selects RX3 yX3_write yX3_write, Cond.code yX3_write cX3_write 5 none, Cond.fieldLink RX3 9 "LineDoubler$Table" "columns" "I", Cond.methodLink RX2 86 yX2_firstNotOut, Cond.instanceMethod yX2_firstNotOut, Cond.selects RX2 yX2_firstNotOut yX2_firstNotOut, Cond.code yX2_firstNotOut cX2_firstNotOut 2 (some .int), Cond.methodLink RX2 93 yX3_read, Cond.instanceMethod yX3_read, Cond.selects RX3 yX3_read yX3_read, Cond.code yX3_read cX3_read 4 (some .int), Cond.methodLink RX2 79 yX2_loseWaiting]
def wsX4_leastRoom_r4 : List Cond := [Cond.instanceMethod yX2_loseWaiting, Cond.selects RX2 yX2_loseWaiting yX2_loseWaiting, Cond.code yX2_loseWaiting cX2_loseWaiting 4 none, Cond.methodLink RX2 96 yX3_removeRow, Cond.instanceMethod yX3_removeRow, Cond.selects RX3 yX3_removeRow yX3_removeRow, Cond.code yX3_removeRow cX3_removeRow 4 none, Cond.methodLink RX2 67 yX2_rowGoesOut, Cond.instanceMethod yX2_rowGoesOut, Cond.selects RX2 yX2_rowGoesOut yX2_rowGoesOut, Cond.code yX2_rowGoesOut cX2_rowGoesOut 4 none, Cond.methodLink RX2 100 yX2_rowsOfScreen, Cond.instanceMethod yX2_rowsOfScreen, Cond.selects RX2 yX2_rowsOfScreen yX2_rowsOfScreen, Cond.code yX2_rowsOfScreen cX2_rowsOfScreen 1 (some .int), Cond.methodLink RX2 103 yX2_skipToPicture, Cond.instanceMethod yX2_skipToPicture, Cond.selects RX2 yX2_skipToPicture yX2_skipToPicture, Cond.code yX2_skipToPicture cX2_skipToPicture 3 none, Cond.methodLink RX2 106 yX2_showFirstWaiting, Cond.instanceMethod yX2_showFirstWaiting, Cond.selects RX2 yX2_showFirstWaiting yX2_showFirstWaiting, Cond.code yX2_showFirstWaiting cX2_showFirstWaiting 2 none, Cond.methodLink RX2 109 yX2_showColour]
def wsX4_leastRoom_r5 : List Cond := [Cond.instanceMethod yX2_showColour, Cond.selects RX2 yX2_showColour yX2_showColour, Cond.code yX2_showColour cX2_showColour 2 none, Cond.methodLink RX2 112 yX2_judgeScreen, Cond.instanceMethod yX2_judgeScreen, Cond.selects RX2 yX2_judgeScreen yX2_judgeScreen, Cond.code yX2_judgeScreen cX2_judgeScreen 5 (some .int), Cond.methodLink RX4 115 yX4_gainOf, Cond.instanceMethod yX4_gainOf, Cond.selects RX4 yX4_gainOf yX4_gainOf, Cond.code yX4_gainOf cX4_gainOf 2 (some .int)]
def wsX4_leastRoom : List Cond := .code yX4_leastRoom cX4_leastRoom 3 (some .int) :: ((wsX4_leastRoom_r1 ++ (wsX4_leastRoom_r2 ++ (wsX4_leastRoom_r3 ++ (wsX4_leastRoom_r4 ++ wsX4_leastRoom_r5)))) ++ wsX40 ++ wsX20 ++ wsX30)
def wsX4_bestOut_r1 : List Cond := [Cond.constant RX4 114 (1073741824), Cond.methodLink RX4 67 yX4_isWithin, Cond.static yX4_isWithin, Cond.initialized RX4, Cond.code yX4_isWithin cX4_isWithin 3 (some .boolean), Cond.methodLink RX4 121 yX4_tryWith, Cond.instanceMethod yX4_tryWith, Cond.selects RX4 yX4_tryWith yX4_tryWith, Cond.code yX4_tryWith cX4_tryWith 4 none, Cond.fieldLink RX4 16 "LineDoubler" "trial" "LLineDoubler$State;", Cond.fieldLink RX4 10 "LineDoubler" "state" "LLineDoubler$State;", Cond.methodLink RX4 111 yX2_copyFrom, Cond.instanceMethod yX2_copyFrom, Cond.selects RX2 yX2_copyFrom yX2_copyFrom, Cond.initialized RX2, Cond.code yX2_copyFrom cX2_copyFrom 2 none, Cond.fieldLink RX2 9 "LineDoubler$State" "numbers" "[I", Cond.methodLink RX2 36 arraycopyName, Cond.native arraycopyName, Cond.static arraycopyName, Cond.initialized "java/lang/System", Cond.fieldLink RX2 15 "LineDoubler$State" "values" "[I", Cond.fieldLink RX2 23 "LineDoubler$State" "queue" "LLineDoubler$Table;", Cond.fieldLink RX2 27 "LineDoubler$State" "screen" "LLineDoubler$Table;"]
def wsX4_bestOut_r2 : List Cond := [Cond.fieldLink RX2 30 "LineDoubler$State" "lost" "LLineDoubler$Table;", Cond.fieldLink RX2 46 "LineDoubler$State" "waitedSum" "I", Cond.methodLink RX2 42 yX3_copyFrom, Cond.instanceMethod yX3_copyFrom, Cond.selects RX3 yX3_copyFrom yX3_copyFrom, Cond.initialized RX3, Cond.code yX3_copyFrom cX3_copyFrom 2 none, Cond.fieldLink RX3 21 "LineDoubler$Table" "cells" "[I", Cond.methodLink RX3 31 Lib.Math.min.name, Cond.static Lib.Math.min.name, Cond.initialized "java/lang/Math", Cond.code Lib.Math.min.name Lib.Math.min.code 2 (some .int), Cond.methodLink RX3 25 arraycopyName, Cond.methodLink RX4 56 yX2_passTicks, Cond.instanceMethod yX2_passTicks, Cond.selects RX2 yX2_passTicks yX2_passTicks, Cond.code yX2_passTicks cX2_passTicks 6 (some .int), Cond.methodLink RX2 70 Lib.Math.min.name, Cond.methodLink RX2 76 Lib.Math.max.name, Cond.static Lib.Math.max.name, Cond.code Lib.Math.max.name Lib.Math.max.code 2 (some .int), Cond.methodLink RX2 64 yX2_lineComes, Cond.instanceMethod yX2_lineComes, Cond.selects RX2 yX2_lineComes yX2_lineComes]
def wsX4_bestOut_r3 : List Cond := [Cond.code yX2_lineComes cX2_lineComes 3 none, Cond.methodLink RX2 83 yX2_nextLineWaits, Cond.instanceMethod yX2_nextLineWaits, Cond.selects RX2 yX2_nextLineWaits yX2_nextLineWaits, Cond.code yX2_nextLineWaits cX2_nextLineWaits 5 none, Cond.methodLink RX2 54 yX2_setting, Cond.instanceMethod yX2_setting, Cond.selects RX2 yX2_setting yX2_setting, Cond.code yX2_setting cX2_setting 2 (some .int), Cond.methodLink RX2 90 yX3_write, Cond.instanceMethod yX3_write, Cond.selects RX3 yX3_write yX3_write, Cond.code yX3_write cX3_write 5 none, Cond.fieldLink RX3 9 "LineDoubler$Table" "columns" "I", Cond.methodLink RX2 86 yX2_firstNotOut, Cond.instanceMethod yX2_firstNotOut, Cond.selects RX2 yX2_firstNotOut yX2_firstNotOut, Cond.code yX2_firstNotOut cX2_firstNotOut 2 (some .int), Cond.methodLink RX2 93 yX3_read, Cond.instanceMethod yX3_read, Cond.selects RX3 yX3_read yX3_read, Cond.code yX3_read cX3_read 4 (some .int), Cond.methodLink RX2 79 yX2_loseWaiting, Cond.instanceMethod yX2_loseWaiting]
def wsX4_bestOut_r4 : List Cond := [Cond.selects RX2 yX2_loseWaiting yX2_loseWaiting, Cond.code yX2_loseWaiting cX2_loseWaiting 4 none, Cond.methodLink RX2 96 yX3_removeRow, Cond.instanceMethod yX3_removeRow, Cond.selects RX3 yX3_removeRow yX3_removeRow, Cond.code yX3_removeRow cX3_removeRow 4 none, Cond.methodLink RX2 67 yX2_rowGoesOut, Cond.instanceMethod yX2_rowGoesOut, Cond.selects RX2 yX2_rowGoesOut yX2_rowGoesOut, Cond.code yX2_rowGoesOut cX2_rowGoesOut 4 none, Cond.methodLink RX2 100 yX2_rowsOfScreen, Cond.instanceMethod yX2_rowsOfScreen, Cond.selects RX2 yX2_rowsOfScreen yX2_rowsOfScreen, Cond.code yX2_rowsOfScreen cX2_rowsOfScreen 1 (some .int), Cond.methodLink RX2 103 yX2_skipToPicture, Cond.instanceMethod yX2_skipToPicture, Cond.selects RX2 yX2_skipToPicture yX2_skipToPicture, Cond.code yX2_skipToPicture cX2_skipToPicture 3 none, Cond.methodLink RX2 106 yX2_showFirstWaiting, Cond.instanceMethod yX2_showFirstWaiting, Cond.selects RX2 yX2_showFirstWaiting yX2_showFirstWaiting, Cond.code yX2_showFirstWaiting cX2_showFirstWaiting 2 none, Cond.methodLink RX2 109 yX2_showColour, Cond.instanceMethod yX2_showColour]
def wsX4_bestOut_r5 : List Cond := [Cond.selects RX2 yX2_showColour yX2_showColour, Cond.code yX2_showColour cX2_showColour 2 none, Cond.methodLink RX2 112 yX2_judgeScreen, Cond.instanceMethod yX2_judgeScreen, Cond.selects RX2 yX2_judgeScreen yX2_judgeScreen, Cond.code yX2_judgeScreen cX2_judgeScreen 5 (some .int), Cond.methodLink RX4 115 yX4_gainOf, Cond.instanceMethod yX4_gainOf, Cond.selects RX4 yX4_gainOf yX4_gainOf, Cond.code yX4_gainOf cX4_gainOf 2 (some .int)]
def wsX4_bestOut : List Cond := .code yX4_bestOut cX4_bestOut 7 (some .int) :: ((wsX4_bestOut_r1 ++ (wsX4_bestOut_r2 ++ (wsX4_bestOut_r3 ++ (wsX4_bestOut_r4 ++ wsX4_bestOut_r5)))) ++ wsX40 ++ wsX20 ++ wsX30)
def wsX4_charactersIn : List Cond := .code yX4_charactersIn cX4_charactersIn 5 (some .int) :: ([.constantLong RX4 168 (255), .methodLink RX4 67 yX4_isWithin, .static yX4_isWithin, .initialized RX4, .code yX4_isWithin cX4_isWithin 3 (some .boolean)])
def wsX4_put : List Cond := .code yX4_put cX4_put 4 (some .int) :: ([.fieldLink RX4 33 "LineDoubler" "pad" "LLineDoubler$Pad;", .methodLink RX4 125 yX4_charactersIn, .static yX4_charactersIn, .initialized RX4, .code yX4_charactersIn cX4_charactersIn 5 (some .int), .constantLong RX4 168 (255), .methodLink RX4 67 yX4_isWithin, .static yX4_isWithin, .code yX4_isWithin cX4_isWithin 3 (some .boolean), .methodLink RX4 129 yX1_append, .instanceMethod yX1_append, .selects RX1 yX1_append yX1_append, .initialized RX1, .code yX1_append cX1_append 5 none, .fieldLink RX1 15 "LineDoubler$Pad" "length" "I", .fieldLink RX1 9 "LineDoubler$Pad" "characters" "[C", .constantLong RX1 19 (255)] ++ wsX40 ++ wsX10)
def wsX4_wipe : List Cond := .code yX4_wipe cX4_wipe 2 (some .int) :: ([.fieldLink RX4 33 "LineDoubler" "pad" "LLineDoubler$Pad;"] ++ wsX40 ++ wsX10)
def wsX4_fault_r1 : List Cond := [Cond.fieldLink RX4 33 "LineDoubler" "pad" "LLineDoubler$Pad;", Cond.methodLink RX4 133 yX1_findFault, Cond.instanceMethod yX1_findFault, Cond.selects RX1 yX1_findFault yX1_findFault, Cond.initialized RX1, Cond.code yX1_findFault cX1_findFault 2 (some .int), Cond.fieldLink RX1 21 "LineDoubler$Pad" "at" "I", Cond.fieldLink RX1 15 "LineDoubler$Pad" "length" "I", Cond.methodLink RX1 24 yX1_readOrder, Cond.instanceMethod yX1_readOrder, Cond.selects RX1 yX1_readOrder yX1_readOrder, Cond.code yX1_readOrder cX1_readOrder 1 (some .boolean), Cond.fieldLink RX1 36 "LineDoubler$Pad" "order" "C", Cond.fieldLink RX1 47 "LineDoubler$Pad" "first" "I", Cond.fieldLink RX1 50 "LineDoubler$Pad" "second" "I", Cond.methodLink RX1 32 yX1_look, Cond.instanceMethod yX1_look, Cond.selects RX1 yX1_look yX1_look, Cond.code yX1_look cX1_look 1 (some .char), Cond.fieldLink RX1 9 "LineDoubler$Pad" "characters" "[C", Cond.methodLink RX1 40 yX1_isOrder, Cond.static yX1_isOrder, Cond.code yX1_isOrder cX1_isOrder 1 (some .boolean), Cond.methodLink RX1 43 yX1_readNumber]
def wsX4_fault_r2 : List Cond := [Cond.instanceMethod yX1_readNumber, Cond.selects RX1 yX1_readNumber yX1_readNumber, Cond.code yX1_readNumber cX1_readNumber 3 (some .int), Cond.methodLink RX1 53 yX1_isDigit, Cond.static yX1_isDigit, Cond.code yX1_isDigit cX1_isDigit 1 (some .boolean), Cond.methodLink RX1 28 yX1_readSign, Cond.instanceMethod yX1_readSign, Cond.selects RX1 yX1_readSign yX1_readSign, Cond.code yX1_readSign cX1_readSign 2 (some .boolean)]
def wsX4_fault : List Cond := .code yX4_fault cX4_fault 1 (some .int) :: ((wsX4_fault_r1 ++ wsX4_fault_r2) ++ wsX40 ++ wsX10)
def wsX4_carryOutOrder_r1 : List Cond := [Cond.fieldLink RX4 33 "LineDoubler" "pad" "LLineDoubler$Pad;", Cond.fieldLink RX4 10 "LineDoubler" "state" "LLineDoubler$State;", Cond.constant RX4 55 (99999), Cond.methodLink RX4 41 yX2_changeSetting, Cond.instanceMethod yX2_changeSetting, Cond.selects RX2 yX2_changeSetting yX2_changeSetting, Cond.initialized RX2, Cond.code yX2_changeSetting cX2_changeSetting 4 (some .int), Cond.fieldLink RX2 9 "LineDoubler$State" "numbers" "[I", Cond.static yX4_isWithin, Cond.initialized RX4, Cond.code yX4_isWithin cX4_isWithin 3 (some .boolean), Cond.methodLink RX4 49 yX2_changeValue, Cond.instanceMethod yX2_changeValue, Cond.selects RX2 yX2_changeValue yX2_changeValue, Cond.code yX2_changeValue cX2_changeValue 4 (some .int), Cond.fieldLink RX2 15 "LineDoubler$State" "values" "[I", Cond.methodLink RX4 56 yX2_passTicks, Cond.instanceMethod yX2_passTicks, Cond.selects RX2 yX2_passTicks yX2_passTicks, Cond.code yX2_passTicks cX2_passTicks 6 (some .int), Cond.methodLink RX2 70 Lib.Math.min.name, Cond.static Lib.Math.min.name, Cond.initialized "java/lang/Math"]
def wsX4_carryOutOrder_r2 : List Cond := [Cond.code Lib.Math.min.name Lib.Math.min.code 2 (some .int), Cond.methodLink RX2 76 Lib.Math.max.name, Cond.static Lib.Math.max.name, Cond.code Lib.Math.max.name Lib.Math.max.code 2 (some .int), Cond.fieldLink RX2 46 "LineDoubler$State" "waitedSum" "I", Cond.methodLink RX2 64 yX2_lineComes, Cond.instanceMethod yX2_lineComes, Cond.selects RX2 yX2_lineComes yX2_lineComes, Cond.code yX2_lineComes cX2_lineComes 3 none, Cond.methodLink RX2 83 yX2_nextLineWaits, Cond.instanceMethod yX2_nextLineWaits, Cond.selects RX2 yX2_nextLineWaits yX2_nextLineWaits, Cond.code yX2_nextLineWaits cX2_nextLineWaits 5 none, Cond.fieldLink RX2 23 "LineDoubler$State" "queue" "LLineDoubler$Table;", Cond.methodLink RX2 54 yX2_setting, Cond.instanceMethod yX2_setting, Cond.selects RX2 yX2_setting yX2_setting, Cond.code yX2_setting cX2_setting 2 (some .int), Cond.methodLink RX2 90 yX3_write, Cond.instanceMethod yX3_write, Cond.selects RX3 yX3_write yX3_write, Cond.initialized RX3, Cond.code yX3_write cX3_write 5 none, Cond.fieldLink RX3 9 "LineDoubler$Table" "columns" "I"]
def wsX4_carryOutOrder_r3 : List Cond := [Cond.fieldLink RX3 21 "LineDoubler$Table" "cells" "[I", Cond.methodLink RX2 86 yX2_firstNotOut, Cond.instanceMethod yX2_firstNotOut, Cond.selects RX2 yX2_firstNotOut yX2_firstNotOut, Cond.code yX2_firstNotOut cX2_firstNotOut 2 (some .int), Cond.methodLink RX2 93 yX3_read, Cond.instanceMethod yX3_read, Cond.selects RX3 yX3_read yX3_read, Cond.code yX3_read cX3_read 4 (some .int), Cond.methodLink RX2 79 yX2_loseWaiting, Cond.instanceMethod yX2_loseWaiting, Cond.selects RX2 yX2_loseWaiting yX2_loseWaiting, Cond.code yX2_loseWaiting cX2_loseWaiting 4 none, Cond.fieldLink RX2 30 "LineDoubler$State" "lost" "LLineDoubler$Table;", Cond.methodLink RX2 96 yX3_removeRow, Cond.instanceMethod yX3_removeRow, Cond.selects RX3 yX3_removeRow yX3_removeRow, Cond.code yX3_removeRow cX3_removeRow 4 none, Cond.methodLink RX3 25 arraycopyName, Cond.native arraycopyName, Cond.static arraycopyName, Cond.initialized "java/lang/System", Cond.methodLink RX2 67 yX2_rowGoesOut, Cond.instanceMethod yX2_rowGoesOut]
def wsX4_carryOutOrder_r4 : List Cond := [Cond.selects RX2 yX2_rowGoesOut yX2_rowGoesOut, Cond.code yX2_rowGoesOut cX2_rowGoesOut 4 none, Cond.methodLink RX2 100 yX2_rowsOfScreen, Cond.instanceMethod yX2_rowsOfScreen, Cond.selects RX2 yX2_rowsOfScreen yX2_rowsOfScreen, Cond.code yX2_rowsOfScreen cX2_rowsOfScreen 1 (some .int), Cond.methodLink RX2 103 yX2_skipToPicture, Cond.instanceMethod yX2_skipToPicture, Cond.selects RX2 yX2_skipToPicture yX2_skipToPicture, Cond.code yX2_skipToPicture cX2_skipToPicture 3 none, Cond.methodLink RX2 106 yX2_showFirstWaiting, Cond.instanceMethod yX2_showFirstWaiting, Cond.selects RX2 yX2_showFirstWaiting yX2_showFirstWaiting, Cond.code yX2_showFirstWaiting cX2_showFirstWaiting 2 none, Cond.fieldLink RX2 27 "LineDoubler$State" "screen" "LLineDoubler$Table;", Cond.methodLink RX2 109 yX2_showColour, Cond.instanceMethod yX2_showColour, Cond.selects RX2 yX2_showColour yX2_showColour, Cond.code yX2_showColour cX2_showColour 2 none, Cond.methodLink RX2 112 yX2_judgeScreen, Cond.instanceMethod yX2_judgeScreen, Cond.selects RX2 yX2_judgeScreen yX2_judgeScreen, Cond.code yX2_judgeScreen cX2_judgeScreen 5 (some .int), Cond.methodLink RX4 52 yX2_delayClock]
def wsX4_carryOutOrder_r5 : List Cond := [Cond.instanceMethod yX2_delayClock, Cond.selects RX2 yX2_delayClock yX2_delayClock, Cond.code yX2_delayClock cX2_delayClock 4 (some .int)]
def wsX4_carryOutOrder : List Cond := .code yX4_carryOutOrder cX4_carryOutOrder 1 (some .int) :: ((wsX4_carryOutOrder_r1 ++ (wsX4_carryOutOrder_r2 ++ (wsX4_carryOutOrder_r3 ++ (wsX4_carryOutOrder_r4 ++ wsX4_carryOutOrder_r5)))) ++ wsX40 ++ wsX10 ++ wsX20 ++ wsX30)
def wsX4_carryOut_r1 : List Cond := [Cond.fieldLink RX4 33 "LineDoubler" "pad" "LLineDoubler$Pad;", Cond.fieldLink RX4 26 "LineDoubler" "history" "LLineDoubler$History;", Cond.fieldLink RX4 10 "LineDoubler" "state" "LLineDoubler$State;", Cond.methodLink RX4 133 yX1_findFault, Cond.instanceMethod yX1_findFault, Cond.selects RX1 yX1_findFault yX1_findFault, Cond.initialized RX1, Cond.code yX1_findFault cX1_findFault 2 (some .int), Cond.fieldLink RX1 21 "LineDoubler$Pad" "at" "I", Cond.fieldLink RX1 15 "LineDoubler$Pad" "length" "I", Cond.methodLink RX1 24 yX1_readOrder, Cond.instanceMethod yX1_readOrder, Cond.selects RX1 yX1_readOrder yX1_readOrder, Cond.code yX1_readOrder cX1_readOrder 1 (some .boolean), Cond.fieldLink RX1 36 "LineDoubler$Pad" "order" "C", Cond.fieldLink RX1 47 "LineDoubler$Pad" "first" "I", Cond.fieldLink RX1 50 "LineDoubler$Pad" "second" "I", Cond.methodLink RX1 32 yX1_look, Cond.instanceMethod yX1_look, Cond.selects RX1 yX1_look yX1_look, Cond.code yX1_look cX1_look 1 (some .char), Cond.fieldLink RX1 9 "LineDoubler$Pad" "characters" "[C", Cond.methodLink RX1 40 yX1_isOrder, Cond.static yX1_isOrder]
def wsX4_carryOut_r2 : List Cond := [Cond.code yX1_isOrder cX1_isOrder 1 (some .boolean), Cond.methodLink RX1 43 yX1_readNumber, Cond.instanceMethod yX1_readNumber, Cond.selects RX1 yX1_readNumber yX1_readNumber, Cond.code yX1_readNumber cX1_readNumber 3 (some .int), Cond.methodLink RX1 53 yX1_isDigit, Cond.static yX1_isDigit, Cond.code yX1_isDigit cX1_isDigit 1 (some .boolean), Cond.methodLink RX1 28 yX1_readSign, Cond.instanceMethod yX1_readSign, Cond.selects RX1 yX1_readSign yX1_readSign, Cond.code yX1_readSign cX1_readSign 2 (some .boolean), Cond.methodLink RX4 37 yX0_prepare, Cond.instanceMethod yX0_prepare, Cond.selects RX0 yX0_prepare yX0_prepare, Cond.initialized RX0, Cond.code yX0_prepare cX0_prepare 2 none, Cond.fieldLink RX0 13 "LineDoubler$History" "states" "[LLineDoubler$State;", Cond.fieldLink RX0 17 "LineDoubler$History" "oldest" "I", Cond.fieldLink RX0 21 "LineDoubler$History" "size" "I", Cond.static yX4_keepCopy, Cond.initialized RX4, Cond.code yX4_keepCopy cX4_keepCopy 3 none, Cond.classLink RX4 7 RX2]
def wsX4_carryOut_r3 : List Cond := [Cond.instantiable RX2 6, Cond.initialized RX2, Cond.methodLink RX4 9 yX2_init, Cond.instanceMethod yX2_init, Cond.code yX2_init cX2_init 2 none, Cond.methodLink RX2 3 objectInit, Cond.instanceMethod objectInit, Cond.code objectInit ⟨#[0xb1]⟩ 1 none, Cond.arrayClass .int, Cond.fieldLink RX2 9 "LineDoubler$State" "numbers" "[I", Cond.fieldLink RX2 15 "LineDoubler$State" "values" "[I", Cond.classLink RX2 18 RX3, Cond.instantiable RX3 2, Cond.initialized RX3, Cond.fieldLink RX2 23 "LineDoubler$State" "queue" "LLineDoubler$Table;", Cond.fieldLink RX2 27 "LineDoubler$State" "screen" "LLineDoubler$Table;", Cond.fieldLink RX2 30 "LineDoubler$State" "lost" "LLineDoubler$Table;", Cond.methodLink RX2 20 yX3_init, Cond.instanceMethod yX3_init, Cond.code yX3_init cX3_init 5 none, Cond.methodLink RX3 3 objectInit, Cond.fieldLink RX3 9 "LineDoubler$Table" "columns" "I", Cond.methodLink RX3 15 Lib.Math.max.name, Cond.static Lib.Math.max.name]
def wsX4_carryOut_r4 : List Cond := [Cond.initialized "java/lang/Math", Cond.code Lib.Math.max.name Lib.Math.max.code 2 (some .int), Cond.fieldLink RX3 21 "LineDoubler$Table" "cells" "[I", Cond.methodLink RX4 111 yX2_copyFrom, Cond.instanceMethod yX2_copyFrom, Cond.selects RX2 yX2_copyFrom yX2_copyFrom, Cond.code yX2_copyFrom cX2_copyFrom 2 none, Cond.methodLink RX2 36 arraycopyName, Cond.native arraycopyName, Cond.static arraycopyName, Cond.initialized "java/lang/System", Cond.fieldLink RX2 46 "LineDoubler$State" "waitedSum" "I", Cond.methodLink RX2 42 yX3_copyFrom, Cond.instanceMethod yX3_copyFrom, Cond.selects RX3 yX3_copyFrom yX3_copyFrom, Cond.code yX3_copyFrom cX3_copyFrom 2 none, Cond.methodLink RX3 31 Lib.Math.min.name, Cond.static Lib.Math.min.name, Cond.code Lib.Math.min.name Lib.Math.min.code 2 (some .int), Cond.methodLink RX3 25 arraycopyName, Cond.methodLink RX4 139 yX1_readOrder, Cond.methodLink RX4 143 yX4_carryOutOrder, Cond.instanceMethod yX4_carryOutOrder, Cond.selects RX4 yX4_carryOutOrder yX4_carryOutOrder]
def wsX4_carryOut_r5 : List Cond := [Cond.code yX4_carryOutOrder cX4_carryOutOrder 1 (some .int), Cond.constant RX4 55 (99999), Cond.methodLink RX4 41 yX2_changeSetting, Cond.instanceMethod yX2_changeSetting, Cond.selects RX2 yX2_changeSetting yX2_changeSetting, Cond.code yX2_changeSetting cX2_changeSetting 4 (some .int), Cond.static yX4_isWithin, Cond.code yX4_isWithin cX4_isWithin 3 (some .boolean), Cond.methodLink RX4 49 yX2_changeValue, Cond.instanceMethod yX2_changeValue, Cond.selects RX2 yX2_changeValue yX2_changeValue, Cond.code yX2_changeValue cX2_changeValue 4 (some .int), Cond.methodLink RX4 56 yX2_passTicks, Cond.instanceMethod yX2_passTicks, Cond.selects RX2 yX2_passTicks yX2_passTicks, Cond.code yX2_passTicks cX2_passTicks 6 (some .int), Cond.methodLink RX2 70 Lib.Math.min.name, Cond.methodLink RX2 76 Lib.Math.max.name, Cond.methodLink RX2 64 yX2_lineComes, Cond.instanceMethod yX2_lineComes, Cond.selects RX2 yX2_lineComes yX2_lineComes, Cond.code yX2_lineComes cX2_lineComes 3 none, Cond.methodLink RX2 83 yX2_nextLineWaits, Cond.instanceMethod yX2_nextLineWaits]
def wsX4_carryOut_r6 : List Cond := [Cond.selects RX2 yX2_nextLineWaits yX2_nextLineWaits, Cond.code yX2_nextLineWaits cX2_nextLineWaits 5 none, Cond.methodLink RX2 54 yX2_setting, Cond.instanceMethod yX2_setting, Cond.selects RX2 yX2_setting yX2_setting, Cond.code yX2_setting cX2_setting 2 (some .int), Cond.methodLink RX2 90 yX3_write, Cond.instanceMethod yX3_write, Cond.selects RX3 yX3_write yX3_write, Cond.code yX3_write cX3_write 5 none, Cond.methodLink RX2 86 yX2_firstNotOut, Cond.instanceMethod yX2_firstNotOut, Cond.selects RX2 yX2_firstNotOut yX2_firstNotOut, Cond.code yX2_firstNotOut cX2_firstNotOut 2 (some .int), Cond.methodLink RX2 93 yX3_read, Cond.instanceMethod yX3_read, Cond.selects RX3 yX3_read yX3_read, Cond.code yX3_read cX3_read 4 (some .int), Cond.methodLink RX2 79 yX2_loseWaiting, Cond.instanceMethod yX2_loseWaiting, Cond.selects RX2 yX2_loseWaiting yX2_loseWaiting, Cond.code yX2_loseWaiting cX2_loseWaiting 4 none, Cond.methodLink RX2 96 yX3_removeRow, Cond.instanceMethod yX3_removeRow]
def wsX4_carryOut_r7 : List Cond := [Cond.selects RX3 yX3_removeRow yX3_removeRow, Cond.code yX3_removeRow cX3_removeRow 4 none, Cond.methodLink RX2 67 yX2_rowGoesOut, Cond.instanceMethod yX2_rowGoesOut, Cond.selects RX2 yX2_rowGoesOut yX2_rowGoesOut, Cond.code yX2_rowGoesOut cX2_rowGoesOut 4 none, Cond.methodLink RX2 100 yX2_rowsOfScreen, Cond.instanceMethod yX2_rowsOfScreen, Cond.selects RX2 yX2_rowsOfScreen yX2_rowsOfScreen, Cond.code yX2_rowsOfScreen cX2_rowsOfScreen 1 (some .int), Cond.methodLink RX2 103 yX2_skipToPicture, Cond.instanceMethod yX2_skipToPicture, Cond.selects RX2 yX2_skipToPicture yX2_skipToPicture, Cond.code yX2_skipToPicture cX2_skipToPicture 3 none, Cond.methodLink RX2 106 yX2_showFirstWaiting, Cond.instanceMethod yX2_showFirstWaiting, Cond.selects RX2 yX2_showFirstWaiting yX2_showFirstWaiting, Cond.code yX2_showFirstWaiting cX2_showFirstWaiting 2 none, Cond.methodLink RX2 109 yX2_showColour, Cond.instanceMethod yX2_showColour, Cond.selects RX2 yX2_showColour yX2_showColour, Cond.code yX2_showColour cX2_showColour 2 none, Cond.methodLink RX2 112 yX2_judgeScreen, Cond.instanceMethod yX2_judgeScreen]
def wsX4_carryOut_r8 : List Cond := [Cond.selects RX2 yX2_judgeScreen yX2_judgeScreen, Cond.code yX2_judgeScreen cX2_judgeScreen 5 (some .int), Cond.methodLink RX4 52 yX2_delayClock, Cond.instanceMethod yX2_delayClock, Cond.selects RX2 yX2_delayClock yX2_delayClock, Cond.code yX2_delayClock cX2_delayClock 4 (some .int), Cond.methodLink RX4 146 yX1_readSign, Cond.methodLink RX4 45 yX0_keepIfDone, Cond.instanceMethod yX0_keepIfDone, Cond.selects RX0 yX0_keepIfDone yX0_keepIfDone, Cond.code yX0_keepIfDone cX0_keepIfDone 2 (some .int)]
def wsX4_carryOut : List Cond := .code yX4_carryOut cX4_carryOut 4 (some .int) :: ((wsX4_carryOut_r1 ++ (wsX4_carryOut_r2 ++ (wsX4_carryOut_r3 ++ (wsX4_carryOut_r4 ++ (wsX4_carryOut_r5 ++ (wsX4_carryOut_r6 ++ (wsX4_carryOut_r7 ++ wsX4_carryOut_r8))))))) ++ wsX40 ++ wsX10 ++ wsX00 ++ wsX20 ++ wsX30)
def wsX4_undo_r1 : List Cond := [Cond.fieldLink RX4 26 "LineDoubler" "history" "LLineDoubler$History;", Cond.fieldLink RX4 10 "LineDoubler" "state" "LLineDoubler$State;", Cond.methodLink RX4 150 yX0_takeLatest, Cond.instanceMethod yX0_takeLatest, Cond.selects RX0 yX0_takeLatest yX0_takeLatest, Cond.initialized RX0, Cond.code yX0_takeLatest cX0_takeLatest 1 (some (.object "LineDoubler$State")), Cond.fieldLink RX0 21 "LineDoubler$History" "size" "I", Cond.fieldLink RX0 13 "LineDoubler$History" "states" "[LLineDoubler$State;", Cond.fieldLink RX0 17 "LineDoubler$History" "oldest" "I", Cond.methodLink RX4 111 yX2_copyFrom, Cond.instanceMethod yX2_copyFrom, Cond.selects RX2 yX2_copyFrom yX2_copyFrom, Cond.initialized RX2, Cond.code yX2_copyFrom cX2_copyFrom 2 none, Cond.fieldLink RX2 9 "LineDoubler$State" "numbers" "[I", Cond.methodLink RX2 36 arraycopyName, Cond.native arraycopyName, Cond.static arraycopyName, Cond.initialized "java/lang/System", Cond.fieldLink RX2 15 "LineDoubler$State" "values" "[I", Cond.fieldLink RX2 23 "LineDoubler$State" "queue" "LLineDoubler$Table;", Cond.fieldLink RX2 27 "LineDoubler$State" "screen" "LLineDoubler$Table;", Cond.fieldLink RX2 30 "LineDoubler$State" "lost" "LLineDoubler$Table;"]
def wsX4_undo_r2 : List Cond := [Cond.fieldLink RX2 46 "LineDoubler$State" "waitedSum" "I", Cond.methodLink RX2 42 yX3_copyFrom, Cond.instanceMethod yX3_copyFrom, Cond.selects RX3 yX3_copyFrom yX3_copyFrom, Cond.initialized RX3, Cond.code yX3_copyFrom cX3_copyFrom 2 none, Cond.fieldLink RX3 21 "LineDoubler$Table" "cells" "[I", Cond.methodLink RX3 31 Lib.Math.min.name, Cond.static Lib.Math.min.name, Cond.initialized "java/lang/Math", Cond.code Lib.Math.min.name Lib.Math.min.code 2 (some .int), Cond.methodLink RX3 25 arraycopyName]
def wsX4_undo : List Cond := .code yX4_undo cX4_undo 2 (some .int) :: ((wsX4_undo_r1 ++ wsX4_undo_r2) ++ wsX40 ++ wsX00 ++ wsX20 ++ wsX30)
def wsX4_save_r1 : List Cond := [Cond.fieldLink RX4 19 "LineDoubler" "slots" "[LLineDoubler$State;", Cond.fieldLink RX4 10 "LineDoubler" "state" "LLineDoubler$State;", Cond.methodLink RX4 67 yX4_isWithin, Cond.static yX4_isWithin, Cond.initialized RX4, Cond.code yX4_isWithin cX4_isWithin 3 (some .boolean), Cond.methodLink RX4 154 yX4_keepCopy, Cond.static yX4_keepCopy, Cond.code yX4_keepCopy cX4_keepCopy 3 none, Cond.classLink RX4 7 RX2, Cond.instantiable RX2 6, Cond.initialized RX2, Cond.methodLink RX4 9 yX2_init, Cond.instanceMethod yX2_init, Cond.code yX2_init cX2_init 2 none, Cond.methodLink RX2 3 objectInit, Cond.instanceMethod objectInit, Cond.code objectInit ⟨#[0xb1]⟩ 1 none, Cond.arrayClass .int, Cond.fieldLink RX2 9 "LineDoubler$State" "numbers" "[I", Cond.fieldLink RX2 15 "LineDoubler$State" "values" "[I", Cond.classLink RX2 18 RX3, Cond.instantiable RX3 2, Cond.initialized RX3]
def wsX4_save_r2 : List Cond := [Cond.fieldLink RX2 23 "LineDoubler$State" "queue" "LLineDoubler$Table;", Cond.fieldLink RX2 27 "LineDoubler$State" "screen" "LLineDoubler$Table;", Cond.fieldLink RX2 30 "LineDoubler$State" "lost" "LLineDoubler$Table;", Cond.methodLink RX2 20 yX3_init, Cond.instanceMethod yX3_init, Cond.code yX3_init cX3_init 5 none, Cond.methodLink RX3 3 objectInit, Cond.fieldLink RX3 9 "LineDoubler$Table" "columns" "I", Cond.methodLink RX3 15 Lib.Math.max.name, Cond.static Lib.Math.max.name, Cond.initialized "java/lang/Math", Cond.code Lib.Math.max.name Lib.Math.max.code 2 (some .int), Cond.fieldLink RX3 21 "LineDoubler$Table" "cells" "[I", Cond.methodLink RX4 111 yX2_copyFrom, Cond.instanceMethod yX2_copyFrom, Cond.selects RX2 yX2_copyFrom yX2_copyFrom, Cond.code yX2_copyFrom cX2_copyFrom 2 none, Cond.methodLink RX2 36 arraycopyName, Cond.native arraycopyName, Cond.static arraycopyName, Cond.initialized "java/lang/System", Cond.fieldLink RX2 46 "LineDoubler$State" "waitedSum" "I", Cond.methodLink RX2 42 yX3_copyFrom, Cond.instanceMethod yX3_copyFrom]
def wsX4_save_r3 : List Cond := [Cond.selects RX3 yX3_copyFrom yX3_copyFrom, Cond.code yX3_copyFrom cX3_copyFrom 2 none, Cond.methodLink RX3 31 Lib.Math.min.name, Cond.static Lib.Math.min.name, Cond.code Lib.Math.min.name Lib.Math.min.code 2 (some .int), Cond.methodLink RX3 25 arraycopyName]
def wsX4_save : List Cond := .code yX4_save cX4_save 2 (some .int) :: ((wsX4_save_r1 ++ (wsX4_save_r2 ++ wsX4_save_r3)) ++ wsX40 ++ wsX20 ++ wsX30)
def wsX4_restore_r1 : List Cond := [Cond.fieldLink RX4 19 "LineDoubler" "slots" "[LLineDoubler$State;", Cond.fieldLink RX4 26 "LineDoubler" "history" "LLineDoubler$History;", Cond.fieldLink RX4 10 "LineDoubler" "state" "LLineDoubler$State;", Cond.methodLink RX4 67 yX4_isWithin, Cond.static yX4_isWithin, Cond.initialized RX4, Cond.code yX4_isWithin cX4_isWithin 3 (some .boolean), Cond.methodLink RX4 37 yX0_prepare, Cond.instanceMethod yX0_prepare, Cond.selects RX0 yX0_prepare yX0_prepare, Cond.initialized RX0, Cond.code yX0_prepare cX0_prepare 2 none, Cond.fieldLink RX0 13 "LineDoubler$History" "states" "[LLineDoubler$State;", Cond.fieldLink RX0 17 "LineDoubler$History" "oldest" "I", Cond.fieldLink RX0 21 "LineDoubler$History" "size" "I", Cond.static yX4_keepCopy, Cond.code yX4_keepCopy cX4_keepCopy 3 none, Cond.classLink RX4 7 RX2, Cond.instantiable RX2 6, Cond.initialized RX2, Cond.methodLink RX4 9 yX2_init, Cond.instanceMethod yX2_init, Cond.code yX2_init cX2_init 2 none, Cond.methodLink RX2 3 objectInit]
def wsX4_restore_r2 : List Cond := [Cond.instanceMethod objectInit, Cond.code objectInit ⟨#[0xb1]⟩ 1 none, Cond.arrayClass .int, Cond.fieldLink RX2 9 "LineDoubler$State" "numbers" "[I", Cond.fieldLink RX2 15 "LineDoubler$State" "values" "[I", Cond.classLink RX2 18 RX3, Cond.instantiable RX3 2, Cond.initialized RX3, Cond.fieldLink RX2 23 "LineDoubler$State" "queue" "LLineDoubler$Table;", Cond.fieldLink RX2 27 "LineDoubler$State" "screen" "LLineDoubler$Table;", Cond.fieldLink RX2 30 "LineDoubler$State" "lost" "LLineDoubler$Table;", Cond.methodLink RX2 20 yX3_init, Cond.instanceMethod yX3_init, Cond.code yX3_init cX3_init 5 none, Cond.methodLink RX3 3 objectInit, Cond.fieldLink RX3 9 "LineDoubler$Table" "columns" "I", Cond.methodLink RX3 15 Lib.Math.max.name, Cond.static Lib.Math.max.name, Cond.initialized "java/lang/Math", Cond.code Lib.Math.max.name Lib.Math.max.code 2 (some .int), Cond.fieldLink RX3 21 "LineDoubler$Table" "cells" "[I", Cond.methodLink RX4 111 yX2_copyFrom, Cond.instanceMethod yX2_copyFrom, Cond.selects RX2 yX2_copyFrom yX2_copyFrom]
def wsX4_restore_r3 : List Cond := [Cond.code yX2_copyFrom cX2_copyFrom 2 none, Cond.methodLink RX2 36 arraycopyName, Cond.native arraycopyName, Cond.static arraycopyName, Cond.initialized "java/lang/System", Cond.fieldLink RX2 46 "LineDoubler$State" "waitedSum" "I", Cond.methodLink RX2 42 yX3_copyFrom, Cond.instanceMethod yX3_copyFrom, Cond.selects RX3 yX3_copyFrom yX3_copyFrom, Cond.code yX3_copyFrom cX3_copyFrom 2 none, Cond.methodLink RX3 31 Lib.Math.min.name, Cond.static Lib.Math.min.name, Cond.code Lib.Math.min.name Lib.Math.min.code 2 (some .int), Cond.methodLink RX3 25 arraycopyName, Cond.methodLink RX4 45 yX0_keepIfDone, Cond.instanceMethod yX0_keepIfDone, Cond.selects RX0 yX0_keepIfDone yX0_keepIfDone, Cond.code yX0_keepIfDone cX0_keepIfDone 2 (some .int)]
def wsX4_restore : List Cond := .code yX4_restore cX4_restore 2 (some .int) :: ((wsX4_restore_r1 ++ (wsX4_restore_r2 ++ wsX4_restore_r3)) ++ wsX40 ++ wsX20 ++ wsX00 ++ wsX30)
def wsX5_init : List Cond := .code yX5_init cX5_init 2 none :: ([.methodLink RX5 1 objectInit, .instanceMethod objectInit, .code objectInit ⟨#[0xb1]⟩ 1 none, .arrayClass .int, .fieldLink RX5 7 "LineDoublerModel" "now" "[I", .fieldLink RX5 13 "LineDoublerModel" "then" "[I", .fieldLink RX5 16 "LineDoublerModel" "past" "[I", .fieldLink RX5 19 "LineDoublerModel" "slots" "[I", .arrayClass .boolean, .fieldLink RX5 22 "LineDoublerModel" "held" "[Z", .fieldLink RX5 26 "LineDoublerModel" "pad" "[I", .fieldLink RX5 29 "LineDoublerModel" "orders" "[I"] ++ wsX50)
def wsX5_in : List Cond := .code yX5_in cX5_in 3 (some .boolean) :: ([])
def wsX5_lays : List Cond := .code yX5_lays cX5_lays 5 none :: ([])
def wsX5_records : List Cond := .code yX5_records cX5_records 2 none :: ([.fieldLink RX5 32 "LineDoublerModel" "kept" "I", .fieldLink RX5 16 "LineDoublerModel" "past" "[I", .fieldLink RX5 7 "LineDoublerModel" "now" "[I", .methodLink RX5 36 yX5_lays, .static yX5_lays, .initialized RX5, .code yX5_lays cX5_lays 5 none] ++ wsX50)
def wsX5_undo : List Cond := .code yX5_undo cX5_undo 1 (some .int) :: ([.fieldLink RX5 32 "LineDoublerModel" "kept" "I", .fieldLink RX5 16 "LineDoublerModel" "past" "[I", .fieldLink RX5 7 "LineDoublerModel" "now" "[I", .methodLink RX5 36 yX5_lays, .static yX5_lays, .initialized RX5, .code yX5_lays cX5_lays 5 none] ++ wsX50)
def wsX5_save : List Cond := .code yX5_save cX5_save 2 (some .int) :: ([.fieldLink RX5 7 "LineDoublerModel" "now" "[I", .fieldLink RX5 19 "LineDoublerModel" "slots" "[I", .fieldLink RX5 22 "LineDoublerModel" "held" "[Z", .methodLink RX5 40 yX5_in, .static yX5_in, .initialized RX5, .code yX5_in cX5_in 3 (some .boolean), .methodLink RX5 36 yX5_lays, .static yX5_lays, .code yX5_lays cX5_lays 5 none] ++ wsX50)
def wsX5_restore : List Cond := .code yX5_restore cX5_restore 2 (some .int) :: ([.fieldLink RX5 22 "LineDoublerModel" "held" "[Z", .fieldLink RX5 19 "LineDoublerModel" "slots" "[I", .fieldLink RX5 7 "LineDoublerModel" "now" "[I", .methodLink RX5 40 yX5_in, .static yX5_in, .initialized RX5, .code yX5_in cX5_in 3 (some .boolean), .methodLink RX5 44 yX5_records, .instanceMethod yX5_records, .selects RX5 yX5_records yX5_records, .code yX5_records cX5_records 2 none, .fieldLink RX5 32 "LineDoublerModel" "kept" "I", .fieldLink RX5 16 "LineDoublerModel" "past" "[I", .methodLink RX5 36 yX5_lays, .static yX5_lays, .code yX5_lays cX5_lays 5 none] ++ wsX50)
def wsX5_of : List Cond := .code yX5_of cX5_of 3 (some .int) :: ([])
def wsX5_misses : List Cond := .code yX5_misses cX5_misses 5 none :: ([])
def wsX5_leaves : List Cond := .code yX5_leaves cX5_leaves 3 none :: ([])
def wsX5_loses : List Cond := .code yX5_loses cX5_loses 3 none :: ([.methodLink RX5 47 yX5_of, .static yX5_of, .initialized RX5, .code yX5_of cX5_of 3 (some .int), .methodLink RX5 51 yX5_misses, .static yX5_misses, .code yX5_misses cX5_misses 5 none, .methodLink RX5 55 yX5_leaves, .static yX5_leaves, .code yX5_leaves cX5_leaves 3 none])
def wsX5_queues : List Cond := .code yX5_queues cX5_queues 2 none :: ([])
def wsX5_firstFresh : List Cond := .code yX5_firstFresh cX5_firstFresh 2 (some .int) :: ([.methodLink RX5 47 yX5_of, .static yX5_of, .initialized RX5, .code yX5_of cX5_of 3 (some .int)])
def wsX5_comes : List Cond := .code yX5_comes cX5_comes 2 none :: ([.methodLink RX5 59 yX5_firstFresh, .static yX5_firstFresh, .initialized RX5, .code yX5_firstFresh cX5_firstFresh 2 (some .int), .methodLink RX5 47 yX5_of, .static yX5_of, .code yX5_of cX5_of 3 (some .int), .methodLink RX5 63 yX5_queues, .static yX5_queues, .code yX5_queues cX5_queues 2 none, .methodLink RX5 51 yX5_misses, .static yX5_misses, .code yX5_misses cX5_misses 5 none, .methodLink RX5 67 yX5_loses, .static yX5_loses, .code yX5_loses cX5_loses 3 none, .methodLink RX5 55 yX5_leaves, .static yX5_leaves, .code yX5_leaves cX5_leaves 3 none])
def wsX5_isBegin : List Cond := .code yX5_isBegin cX5_isBegin 1 (some .boolean) :: ([.methodLink RX5 47 yX5_of, .static yX5_of, .initialized RX5, .code yX5_of cX5_of 3 (some .int)])
def wsX5_judged : List Cond := .code yX5_judged cX5_judged 4 (some .int) :: ([])
def wsX5_goesOut : List Cond := .code yX5_goesOut cX5_goesOut 3 none :: ([.methodLink RX5 71 yX5_isBegin, .static yX5_isBegin, .initialized RX5, .code yX5_isBegin cX5_isBegin 1 (some .boolean), .methodLink RX5 47 yX5_of, .static yX5_of, .code yX5_of cX5_of 3 (some .int), .methodLink RX5 67 yX5_loses, .static yX5_loses, .code yX5_loses cX5_loses 3 none, .methodLink RX5 51 yX5_misses, .static yX5_misses, .code yX5_misses cX5_misses 5 none, .methodLink RX5 55 yX5_leaves, .static yX5_leaves, .code yX5_leaves cX5_leaves 3 none, .methodLink RX5 75 yX5_judged, .static yX5_judged, .code yX5_judged cX5_judged 4 (some .int)])
def wsX5_ticks_r1 : List Cond := [Cond.methodLink RX5 78 yX5_comes, Cond.static yX5_comes, Cond.initialized RX5, Cond.code yX5_comes cX5_comes 2 none, Cond.methodLink RX5 59 yX5_firstFresh, Cond.static yX5_firstFresh, Cond.code yX5_firstFresh cX5_firstFresh 2 (some .int), Cond.methodLink RX5 47 yX5_of, Cond.static yX5_of, Cond.code yX5_of cX5_of 3 (some .int), Cond.methodLink RX5 63 yX5_queues, Cond.static yX5_queues, Cond.code yX5_queues cX5_queues 2 none, Cond.methodLink RX5 51 yX5_misses, Cond.static yX5_misses, Cond.code yX5_misses cX5_misses 5 none, Cond.methodLink RX5 67 yX5_loses, Cond.static yX5_loses, Cond.code yX5_loses cX5_loses 3 none, Cond.methodLink RX5 55 yX5_leaves, Cond.static yX5_leaves, Cond.code yX5_leaves cX5_leaves 3 none, Cond.methodLink RX5 81 yX5_goesOut, Cond.static yX5_goesOut]
def wsX5_ticks_r2 : List Cond := [Cond.code yX5_goesOut cX5_goesOut 3 none, Cond.methodLink RX5 71 yX5_isBegin, Cond.static yX5_isBegin, Cond.code yX5_isBegin cX5_isBegin 1 (some .boolean), Cond.methodLink RX5 75 yX5_judged, Cond.static yX5_judged, Cond.code yX5_judged cX5_judged 4 (some .int)]
def wsX5_ticks : List Cond := .code yX5_ticks cX5_ticks 1 none :: ((wsX5_ticks_r1 ++ wsX5_ticks_r2))
def wsX5_passes_r1 : List Cond := [Cond.methodLink RX5 84 yX5_ticks, Cond.static yX5_ticks, Cond.initialized RX5, Cond.code yX5_ticks cX5_ticks 1 none, Cond.methodLink RX5 78 yX5_comes, Cond.static yX5_comes, Cond.code yX5_comes cX5_comes 2 none, Cond.methodLink RX5 59 yX5_firstFresh, Cond.static yX5_firstFresh, Cond.code yX5_firstFresh cX5_firstFresh 2 (some .int), Cond.methodLink RX5 47 yX5_of, Cond.static yX5_of, Cond.code yX5_of cX5_of 3 (some .int), Cond.methodLink RX5 63 yX5_queues, Cond.static yX5_queues, Cond.code yX5_queues cX5_queues 2 none, Cond.methodLink RX5 51 yX5_misses, Cond.static yX5_misses, Cond.code yX5_misses cX5_misses 5 none, Cond.methodLink RX5 67 yX5_loses, Cond.static yX5_loses, Cond.code yX5_loses cX5_loses 3 none, Cond.methodLink RX5 55 yX5_leaves, Cond.static yX5_leaves]
def wsX5_passes_r2 : List Cond := [Cond.code yX5_leaves cX5_leaves 3 none, Cond.methodLink RX5 81 yX5_goesOut, Cond.static yX5_goesOut, Cond.code yX5_goesOut cX5_goesOut 3 none, Cond.methodLink RX5 71 yX5_isBegin, Cond.static yX5_isBegin, Cond.code yX5_isBegin cX5_isBegin 1 (some .boolean), Cond.methodLink RX5 75 yX5_judged, Cond.static yX5_judged, Cond.code yX5_judged cX5_judged 4 (some .int)]
def wsX5_passes : List Cond := .code yX5_passes cX5_passes 3 none :: ((wsX5_passes_r1 ++ wsX5_passes_r2))
def wsX5_isFor : List Cond := .code yX5_isFor cX5_isFor 2 (some .boolean) :: ([.methodLink RX5 40 yX5_in, .static yX5_in, .initialized RX5, .code yX5_in cX5_in 3 (some .boolean)])
def wsX5_changes : List Cond := .code yX5_changes cX5_changes 4 (some .int) :: ([.fieldLink RX5 7 "LineDoublerModel" "now" "[I"] ++ wsX50)
def wsX5_set : List Cond := .code yX5_set cX5_set 3 (some .int) :: ([.fieldLink RX5 7 "LineDoublerModel" "now" "[I", .methodLink RX5 40 yX5_in, .static yX5_in, .initialized RX5, .code yX5_in cX5_in 3 (some .boolean), .methodLink RX5 87 yX5_isFor, .static yX5_isFor, .code yX5_isFor cX5_isFor 2 (some .boolean), .methodLink RX5 44 yX5_records, .instanceMethod yX5_records, .selects RX5 yX5_records yX5_records, .code yX5_records cX5_records 2 none, .fieldLink RX5 32 "LineDoublerModel" "kept" "I", .fieldLink RX5 16 "LineDoublerModel" "past" "[I", .methodLink RX5 36 yX5_lays, .static yX5_lays, .code yX5_lays cX5_lays 5 none, .methodLink RX5 91 yX5_changes, .instanceMethod yX5_changes, .selects RX5 yX5_changes yX5_changes, .code yX5_changes cX5_changes 4 (some .int)] ++ wsX50)
def wsX5_mayTell : List Cond := .code yX5_mayTell cX5_mayTell 2 (some .int) :: ([.methodLink RX5 40 yX5_in, .static yX5_in, .initialized RX5, .code yX5_in cX5_in 3 (some .boolean)])
def wsX5_value : List Cond := .code yX5_value cX5_value 4 (some .int) :: ([.methodLink RX5 95 yX5_mayTell, .static yX5_mayTell, .initialized RX5, .code yX5_mayTell cX5_mayTell 2 (some .int), .methodLink RX5 40 yX5_in, .static yX5_in, .code yX5_in cX5_in 3 (some .boolean), .methodLink RX5 44 yX5_records, .instanceMethod yX5_records, .selects RX5 yX5_records yX5_records, .code yX5_records cX5_records 2 none, .fieldLink RX5 32 "LineDoublerModel" "kept" "I", .fieldLink RX5 16 "LineDoublerModel" "past" "[I", .fieldLink RX5 7 "LineDoublerModel" "now" "[I", .methodLink RX5 36 yX5_lays, .static yX5_lays, .code yX5_lays cX5_lays 5 none, .methodLink RX5 91 yX5_changes, .instanceMethod yX5_changes, .selects RX5 yX5_changes yX5_changes, .code yX5_changes cX5_changes 4 (some .int)] ++ wsX50)
def wsX5_maySlip : List Cond := .code yX5_maySlip cX5_maySlip 2 (some .int) :: ([.methodLink RX5 40 yX5_in, .static yX5_in, .initialized RX5, .code yX5_in cX5_in 3 (some .boolean)])
def wsX5_slips : List Cond := .code yX5_slips cX5_slips 3 (some .int) :: ([.fieldLink RX5 7 "LineDoublerModel" "now" "[I"] ++ wsX50)
def wsX5_slip : List Cond := .code yX5_slip cX5_slip 4 (some .int) :: ([.methodLink RX5 98 yX5_maySlip, .static yX5_maySlip, .initialized RX5, .code yX5_maySlip cX5_maySlip 2 (some .int), .methodLink RX5 40 yX5_in, .static yX5_in, .code yX5_in cX5_in 3 (some .boolean), .methodLink RX5 44 yX5_records, .instanceMethod yX5_records, .selects RX5 yX5_records yX5_records, .code yX5_records cX5_records 2 none, .fieldLink RX5 32 "LineDoublerModel" "kept" "I", .fieldLink RX5 16 "LineDoublerModel" "past" "[I", .fieldLink RX5 7 "LineDoublerModel" "now" "[I", .methodLink RX5 36 yX5_lays, .static yX5_lays, .code yX5_lays cX5_lays 5 none, .methodLink RX5 101 yX5_slips, .instanceMethod yX5_slips, .selects RX5 yX5_slips yX5_slips, .code yX5_slips cX5_slips 3 (some .int)] ++ wsX50)
def wsX5_mayPass : List Cond := .code yX5_mayPass cX5_mayPass 2 (some .int) :: ([.fieldLink RX5 7 "LineDoublerModel" "now" "[I", .constant RX5 104 (99999), .methodLink RX5 40 yX5_in, .static yX5_in, .initialized RX5, .code yX5_in cX5_in 3 (some .boolean)] ++ wsX50)
def wsX5_pass_r1 : List Cond := [Cond.fieldLink RX5 7 "LineDoublerModel" "now" "[I", Cond.methodLink RX5 105 yX5_mayPass, Cond.instanceMethod yX5_mayPass, Cond.selects RX5 yX5_mayPass yX5_mayPass, Cond.initialized RX5, Cond.code yX5_mayPass cX5_mayPass 2 (some .int), Cond.constant RX5 104 (99999), Cond.methodLink RX5 40 yX5_in, Cond.static yX5_in, Cond.code yX5_in cX5_in 3 (some .boolean), Cond.methodLink RX5 44 yX5_records, Cond.instanceMethod yX5_records, Cond.selects RX5 yX5_records yX5_records, Cond.code yX5_records cX5_records 2 none, Cond.fieldLink RX5 32 "LineDoublerModel" "kept" "I", Cond.fieldLink RX5 16 "LineDoublerModel" "past" "[I", Cond.methodLink RX5 36 yX5_lays, Cond.static yX5_lays, Cond.code yX5_lays cX5_lays 5 none, Cond.methodLink RX5 109 yX5_passes, Cond.static yX5_passes, Cond.code yX5_passes cX5_passes 3 none, Cond.methodLink RX5 84 yX5_ticks, Cond.static yX5_ticks]
def wsX5_pass_r2 : List Cond := [Cond.code yX5_ticks cX5_ticks 1 none, Cond.methodLink RX5 78 yX5_comes, Cond.static yX5_comes, Cond.code yX5_comes cX5_comes 2 none, Cond.methodLink RX5 59 yX5_firstFresh, Cond.static yX5_firstFresh, Cond.code yX5_firstFresh cX5_firstFresh 2 (some .int), Cond.methodLink RX5 47 yX5_of, Cond.static yX5_of, Cond.code yX5_of cX5_of 3 (some .int), Cond.methodLink RX5 63 yX5_queues, Cond.static yX5_queues, Cond.code yX5_queues cX5_queues 2 none, Cond.methodLink RX5 51 yX5_misses, Cond.static yX5_misses, Cond.code yX5_misses cX5_misses 5 none, Cond.methodLink RX5 67 yX5_loses, Cond.static yX5_loses, Cond.code yX5_loses cX5_loses 3 none, Cond.methodLink RX5 55 yX5_leaves, Cond.static yX5_leaves, Cond.code yX5_leaves cX5_leaves 3 none, Cond.methodLink RX5 81 yX5_goesOut, Cond.static yX5_goesOut]
def wsX5_pass_r3 : List Cond := [Cond.code yX5_goesOut cX5_goesOut 3 none, Cond.methodLink RX5 71 yX5_isBegin, Cond.static yX5_isBegin, Cond.code yX5_isBegin cX5_isBegin 1 (some .boolean), Cond.methodLink RX5 75 yX5_judged, Cond.static yX5_judged, Cond.code yX5_judged cX5_judged 4 (some .int)]
def wsX5_pass : List Cond := .code yX5_pass cX5_pass 3 (some .int) :: ((wsX5_pass_r1 ++ (wsX5_pass_r2 ++ wsX5_pass_r3)) ++ wsX50)
def wsX5_flush : List Cond := .code yX5_flush cX5_flush 2 (some .int) :: ([.fieldLink RX5 7 "LineDoublerModel" "now" "[I", .methodLink RX5 44 yX5_records, .instanceMethod yX5_records, .selects RX5 yX5_records yX5_records, .initialized RX5, .code yX5_records cX5_records 2 none, .fieldLink RX5 32 "LineDoublerModel" "kept" "I", .fieldLink RX5 16 "LineDoublerModel" "past" "[I", .methodLink RX5 36 yX5_lays, .static yX5_lays, .code yX5_lays cX5_lays 5 none, .methodLink RX5 67 yX5_loses, .static yX5_loses, .code yX5_loses cX5_loses 3 none, .methodLink RX5 47 yX5_of, .static yX5_of, .code yX5_of cX5_of 3 (some .int), .methodLink RX5 51 yX5_misses, .static yX5_misses, .code yX5_misses cX5_misses 5 none, .methodLink RX5 55 yX5_leaves, .static yX5_leaves, .code yX5_leaves cX5_leaves 3 none] ++ wsX50)
def wsX5_waiting : List Cond := .code yX5_waiting cX5_waiting 3 (some .int) :: ([.fieldLink RX5 7 "LineDoublerModel" "now" "[I", .methodLink RX5 40 yX5_in, .static yX5_in, .initialized RX5, .code yX5_in cX5_in 3 (some .boolean), .methodLink RX5 47 yX5_of, .static yX5_of, .code yX5_of cX5_of 3 (some .int)] ++ wsX50)
def wsX5_row : List Cond := .code yX5_row cX5_row 3 (some .int) :: ([.fieldLink RX5 7 "LineDoublerModel" "now" "[I", .methodLink RX5 40 yX5_in, .static yX5_in, .initialized RX5, .code yX5_in cX5_in 3 (some .boolean)] ++ wsX50)
def wsX5_ofMissing : List Cond := .code yX5_ofMissing cX5_ofMissing 3 (some .int) :: ([.fieldLink RX5 7 "LineDoublerModel" "now" "[I", .methodLink RX5 40 yX5_in, .static yX5_in, .initialized RX5, .code yX5_in cX5_in 3 (some .boolean)] ++ wsX50)
def wsX5_count : List Cond := .code yX5_count cX5_count 2 (some .int) :: ([.fieldLink RX5 7 "LineDoublerModel" "now" "[I", .fieldLink RX5 112 "LineDoublerModel" "padded" "I", .fieldLink RX5 32 "LineDoublerModel" "kept" "I", .methodLink RX5 40 yX5_in, .static yX5_in, .initialized RX5, .code yX5_in cX5_in 3 (some .boolean)] ++ wsX50)
def wsX5_shown : List Cond := .code yX5_shown cX5_shown 2 (some .int) :: ([.fieldLink RX5 7 "LineDoublerModel" "now" "[I"] ++ wsX50)
def wsJxf58ca_isNaN_12338 : List Cond := .code yJxf58ca_isNaN_12338 cJxf58ca_isNaN_12338 1 (some .boolean) :: ([])
def wsJxf58ca_floatToIntBits_5c35a : List Cond := .code yJxf58ca_floatToIntBits_5c35a cJxf58ca_floatToIntBits_5c35a 1 (some .int) :: ([.methodLink RJxf58ca 74 ⟨"java/lang/Float", "floatToRawIntBits", "(F)I"⟩, .native ⟨"java/lang/Float", "floatToRawIntBits", "(F)I"⟩, .static ⟨"java/lang/Float", "floatToRawIntBits", "(F)I"⟩, .initialized "java/lang/Float", .constant RJxf58ca 77 (2143289344), .methodLink RJxf58ca 59 yJxf58ca_isNaN_12338, .static yJxf58ca_isNaN_12338, .initialized RJxf58ca, .code yJxf58ca_isNaN_12338 cJxf58ca_isNaN_12338 1 (some .boolean)])
def wsX5_ratio : List Cond := .code yX5_ratio cX5_ratio 1 (some .int) :: ([.fieldLink RX5 7 "LineDoublerModel" "now" "[I", .methodLink RX5 115 yJxf58ca_floatToIntBits_5c35a, .static yJxf58ca_floatToIntBits_5c35a, .initialized RJxf58ca, .code yJxf58ca_floatToIntBits_5c35a cJxf58ca_floatToIntBits_5c35a 1 (some .int), .methodLink RJxf58ca 74 ⟨"java/lang/Float", "floatToRawIntBits", "(F)I"⟩, .native ⟨"java/lang/Float", "floatToRawIntBits", "(F)I"⟩, .static ⟨"java/lang/Float", "floatToRawIntBits", "(F)I"⟩, .initialized "java/lang/Float", .constant RJxf58ca 77 (2143289344), .methodLink RJxf58ca 59 yJxf58ca_isNaN_12338, .static yJxf58ca_isNaN_12338, .code yJxf58ca_isNaN_12338 cJxf58ca_isNaN_12338 1 (some .boolean)] ++ wsX50)
def wsJxe99ae_isNaN_b9ae7 : List Cond := .code yJxe99ae_isNaN_b9ae7 cJxe99ae_isNaN_b9ae7 2 (some .boolean) :: ([])
def wsJxe99ae_doubleToLongBits_ccdee : List Cond := .code yJxe99ae_doubleToLongBits_ccdee cJxe99ae_doubleToLongBits_ccdee 2 (some .long) :: ([.methodLink RJxe99ae 134 ⟨"java/lang/Double", "doubleToRawLongBits", "(D)J"⟩, .native ⟨"java/lang/Double", "doubleToRawLongBits", "(D)J"⟩, .static ⟨"java/lang/Double", "doubleToRawLongBits", "(D)J"⟩, .initialized "java/lang/Double", .constantLong RJxe99ae 137 (9221120237041090560), .methodLink RJxe99ae 122 yJxe99ae_isNaN_b9ae7, .static yJxe99ae_isNaN_b9ae7, .initialized RJxe99ae, .code yJxe99ae_isNaN_b9ae7 cJxe99ae_isNaN_b9ae7 2 (some .boolean)])
def wsX5_fill : List Cond := .code yX5_fill cX5_fill 1 (some .long) :: ([.fieldLink RX5 7 "LineDoublerModel" "now" "[I", .methodLink RX5 121 yJxe99ae_doubleToLongBits_ccdee, .static yJxe99ae_doubleToLongBits_ccdee, .initialized RJxe99ae, .code yJxe99ae_doubleToLongBits_ccdee cJxe99ae_doubleToLongBits_ccdee 2 (some .long), .methodLink RJxe99ae 134 ⟨"java/lang/Double", "doubleToRawLongBits", "(D)J"⟩, .native ⟨"java/lang/Double", "doubleToRawLongBits", "(D)J"⟩, .static ⟨"java/lang/Double", "doubleToRawLongBits", "(D)J"⟩, .initialized "java/lang/Double", .constantLong RJxe99ae 137 (9221120237041090560), .methodLink RJxe99ae 122 yJxe99ae_isNaN_b9ae7, .static yJxe99ae_isNaN_b9ae7, .code yJxe99ae_isNaN_b9ae7 cJxe99ae_isNaN_b9ae7 2 (some .boolean)] ++ wsX50)
def wsX5_tries : List Cond := .code yX5_tries cX5_tries 1 none :: ([.fieldLink RX5 7 "LineDoublerModel" "now" "[I", .fieldLink RX5 13 "LineDoublerModel" "then" "[I", .methodLink RX5 36 yX5_lays, .static yX5_lays, .initialized RX5, .code yX5_lays cX5_lays 5 none] ++ wsX50)
def wsX5_more : List Cond := .code yX5_more cX5_more 3 (some .int) :: ([.fieldLink RX5 13 "LineDoublerModel" "then" "[I", .fieldLink RX5 7 "LineDoublerModel" "now" "[I"] ++ wsX50)
def wsX5_areTicks : List Cond := .code yX5_areTicks cX5_areTicks 1 (some .boolean) :: ([.methodLink RX5 40 yX5_in, .static yX5_in, .initialized RX5, .code yX5_in cX5_in 3 (some .boolean)])
def wsX5_would_r1 : List Cond := [Cond.fieldLink RX5 13 "LineDoublerModel" "then" "[I", Cond.methodLink RX5 127 yX5_areTicks, Cond.static yX5_areTicks, Cond.initialized RX5, Cond.code yX5_areTicks cX5_areTicks 1 (some .boolean), Cond.methodLink RX5 40 yX5_in, Cond.static yX5_in, Cond.code yX5_in cX5_in 3 (some .boolean), Cond.methodLink RX5 131 yX5_tries, Cond.instanceMethod yX5_tries, Cond.selects RX5 yX5_tries yX5_tries, Cond.code yX5_tries cX5_tries 1 none, Cond.fieldLink RX5 7 "LineDoublerModel" "now" "[I", Cond.methodLink RX5 36 yX5_lays, Cond.static yX5_lays, Cond.code yX5_lays cX5_lays 5 none, Cond.methodLink RX5 109 yX5_passes, Cond.static yX5_passes, Cond.code yX5_passes cX5_passes 3 none, Cond.methodLink RX5 84 yX5_ticks, Cond.static yX5_ticks, Cond.code yX5_ticks cX5_ticks 1 none, Cond.methodLink RX5 78 yX5_comes, Cond.static yX5_comes]
def wsX5_would_r2 : List Cond := [Cond.code yX5_comes cX5_comes 2 none, Cond.methodLink RX5 59 yX5_firstFresh, Cond.static yX5_firstFresh, Cond.code yX5_firstFresh cX5_firstFresh 2 (some .int), Cond.methodLink RX5 47 yX5_of, Cond.static yX5_of, Cond.code yX5_of cX5_of 3 (some .int), Cond.methodLink RX5 63 yX5_queues, Cond.static yX5_queues, Cond.code yX5_queues cX5_queues 2 none, Cond.methodLink RX5 51 yX5_misses, Cond.static yX5_misses, Cond.code yX5_misses cX5_misses 5 none, Cond.methodLink RX5 67 yX5_loses, Cond.static yX5_loses, Cond.code yX5_loses cX5_loses 3 none, Cond.methodLink RX5 55 yX5_leaves, Cond.static yX5_leaves, Cond.code yX5_leaves cX5_leaves 3 none, Cond.methodLink RX5 81 yX5_goesOut, Cond.static yX5_goesOut, Cond.code yX5_goesOut cX5_goesOut 3 none, Cond.methodLink RX5 71 yX5_isBegin, Cond.static yX5_isBegin]
def wsX5_would_r3 : List Cond := [Cond.code yX5_isBegin cX5_isBegin 1 (some .boolean), Cond.methodLink RX5 75 yX5_judged, Cond.static yX5_judged, Cond.code yX5_judged cX5_judged 4 (some .int), Cond.methodLink RX5 134 yX5_more, Cond.instanceMethod yX5_more, Cond.selects RX5 yX5_more yX5_more, Cond.code yX5_more cX5_more 3 (some .int)]
def wsX5_would : List Cond := .code yX5_would cX5_would 3 (some .int) :: ((wsX5_would_r1 ++ (wsX5_would_r2 ++ wsX5_would_r3)) ++ wsX50)
def wsX5_leastRoom_r1 : List Cond := [Cond.fieldLink RX5 7 "LineDoublerModel" "now" "[I", Cond.fieldLink RX5 13 "LineDoublerModel" "then" "[I", Cond.methodLink RX5 127 yX5_areTicks, Cond.static yX5_areTicks, Cond.initialized RX5, Cond.code yX5_areTicks cX5_areTicks 1 (some .boolean), Cond.methodLink RX5 40 yX5_in, Cond.static yX5_in, Cond.code yX5_in cX5_in 3 (some .boolean), Cond.methodLink RX5 131 yX5_tries, Cond.instanceMethod yX5_tries, Cond.selects RX5 yX5_tries yX5_tries, Cond.code yX5_tries cX5_tries 1 none, Cond.methodLink RX5 36 yX5_lays, Cond.static yX5_lays, Cond.code yX5_lays cX5_lays 5 none, Cond.methodLink RX5 109 yX5_passes, Cond.static yX5_passes, Cond.code yX5_passes cX5_passes 3 none, Cond.methodLink RX5 84 yX5_ticks, Cond.static yX5_ticks, Cond.code yX5_ticks cX5_ticks 1 none, Cond.methodLink RX5 78 yX5_comes, Cond.static yX5_comes]
def wsX5_leastRoom_r2 : List Cond := [Cond.code yX5_comes cX5_comes 2 none, Cond.methodLink RX5 59 yX5_firstFresh, Cond.static yX5_firstFresh, Cond.code yX5_firstFresh cX5_firstFresh 2 (some .int), Cond.methodLink RX5 47 yX5_of, Cond.static yX5_of, Cond.code yX5_of cX5_of 3 (some .int), Cond.methodLink RX5 63 yX5_queues, Cond.static yX5_queues, Cond.code yX5_queues cX5_queues 2 none, Cond.methodLink RX5 51 yX5_misses, Cond.static yX5_misses, Cond.code yX5_misses cX5_misses 5 none, Cond.methodLink RX5 67 yX5_loses, Cond.static yX5_loses, Cond.code yX5_loses cX5_loses 3 none, Cond.methodLink RX5 55 yX5_leaves, Cond.static yX5_leaves, Cond.code yX5_leaves cX5_leaves 3 none, Cond.methodLink RX5 81 yX5_goesOut, Cond.static yX5_goesOut, Cond.code yX5_goesOut cX5_goesOut 3 none, Cond.methodLink RX5 71 yX5_isBegin, Cond.static yX5_isBegin]
def wsX5_leastRoom_r3 : List Cond := [Cond.code yX5_isBegin cX5_isBegin 1 (some .boolean), Cond.methodLink RX5 75 yX5_judged, Cond.static yX5_judged, Cond.code yX5_judged cX5_judged 4 (some .int), Cond.methodLink RX5 134 yX5_more, Cond.instanceMethod yX5_more, Cond.selects RX5 yX5_more yX5_more, Cond.code yX5_more cX5_more 3 (some .int)]
def wsX5_leastRoom : List Cond := .code yX5_leastRoom cX5_leastRoom 3 (some .int) :: ((wsX5_leastRoom_r1 ++ (wsX5_leastRoom_r2 ++ wsX5_leastRoom_r3)) ++ wsX50)
def wsX5_bestOut_r1 : List Cond := [Cond.fieldLink RX5 13 "LineDoublerModel" "then" "[I", Cond.methodLink RX5 127 yX5_areTicks, Cond.static yX5_areTicks, Cond.initialized RX5, Cond.code yX5_areTicks cX5_areTicks 1 (some .boolean), Cond.methodLink RX5 40 yX5_in, Cond.static yX5_in, Cond.code yX5_in cX5_in 3 (some .boolean), Cond.methodLink RX5 131 yX5_tries, Cond.instanceMethod yX5_tries, Cond.selects RX5 yX5_tries yX5_tries, Cond.code yX5_tries cX5_tries 1 none, Cond.fieldLink RX5 7 "LineDoublerModel" "now" "[I", Cond.methodLink RX5 36 yX5_lays, Cond.static yX5_lays, Cond.code yX5_lays cX5_lays 5 none, Cond.methodLink RX5 109 yX5_passes, Cond.static yX5_passes, Cond.code yX5_passes cX5_passes 3 none, Cond.methodLink RX5 84 yX5_ticks, Cond.static yX5_ticks, Cond.code yX5_ticks cX5_ticks 1 none, Cond.methodLink RX5 78 yX5_comes, Cond.static yX5_comes]
def wsX5_bestOut_r2 : List Cond := [Cond.code yX5_comes cX5_comes 2 none, Cond.methodLink RX5 59 yX5_firstFresh, Cond.static yX5_firstFresh, Cond.code yX5_firstFresh cX5_firstFresh 2 (some .int), Cond.methodLink RX5 47 yX5_of, Cond.static yX5_of, Cond.code yX5_of cX5_of 3 (some .int), Cond.methodLink RX5 63 yX5_queues, Cond.static yX5_queues, Cond.code yX5_queues cX5_queues 2 none, Cond.methodLink RX5 51 yX5_misses, Cond.static yX5_misses, Cond.code yX5_misses cX5_misses 5 none, Cond.methodLink RX5 67 yX5_loses, Cond.static yX5_loses, Cond.code yX5_loses cX5_loses 3 none, Cond.methodLink RX5 55 yX5_leaves, Cond.static yX5_leaves, Cond.code yX5_leaves cX5_leaves 3 none, Cond.methodLink RX5 81 yX5_goesOut, Cond.static yX5_goesOut, Cond.code yX5_goesOut cX5_goesOut 3 none, Cond.methodLink RX5 71 yX5_isBegin, Cond.static yX5_isBegin]
def wsX5_bestOut_r3 : List Cond := [Cond.code yX5_isBegin cX5_isBegin 1 (some .boolean), Cond.methodLink RX5 75 yX5_judged, Cond.static yX5_judged, Cond.code yX5_judged cX5_judged 4 (some .int), Cond.methodLink RX5 134 yX5_more, Cond.instanceMethod yX5_more, Cond.selects RX5 yX5_more yX5_more, Cond.code yX5_more cX5_more 3 (some .int)]
def wsX5_bestOut : List Cond := .code yX5_bestOut cX5_bestOut 7 (some .int) :: ((wsX5_bestOut_r1 ++ (wsX5_bestOut_r2 ++ wsX5_bestOut_r3)) ++ wsX50)
def wsX5_byteOf : List Cond := .code yX5_byteOf cX5_byteOf 3 (some .int) :: ([.constantLong RX5 137 (255)])
def wsX5_toldBy : List Cond := .code yX5_toldBy cX5_toldBy 4 (some .int) :: ([.methodLink RX5 139 yX5_byteOf, .static yX5_byteOf, .initialized RX5, .code yX5_byteOf cX5_byteOf 3 (some .int), .constantLong RX5 137 (255), .methodLink RX5 40 yX5_in, .static yX5_in, .code yX5_in cX5_in 3 (some .boolean)])
def wsX5_put : List Cond := .code yX5_put cX5_put 5 (some .int) :: ([.fieldLink RX5 112 "LineDoublerModel" "padded" "I", .fieldLink RX5 26 "LineDoublerModel" "pad" "[I", .methodLink RX5 143 yX5_toldBy, .static yX5_toldBy, .initialized RX5, .code yX5_toldBy cX5_toldBy 4 (some .int), .methodLink RX5 139 yX5_byteOf, .static yX5_byteOf, .code yX5_byteOf cX5_byteOf 3 (some .int), .constantLong RX5 137 (255), .methodLink RX5 40 yX5_in, .static yX5_in, .code yX5_in cX5_in 3 (some .boolean)] ++ wsX50)
def wsX5_wipe : List Cond := .code yX5_wipe cX5_wipe 2 (some .int) :: ([.fieldLink RX5 112 "LineDoublerModel" "padded" "I"] ++ wsX50)
def wsX5_isAt : List Cond := .code yX5_isAt cX5_isAt 3 (some .boolean) :: ([.fieldLink RX5 147 "LineDoublerModel" "at" "I", .fieldLink RX5 112 "LineDoublerModel" "padded" "I", .fieldLink RX5 26 "LineDoublerModel" "pad" "[I", .methodLink RX5 40 yX5_in, .static yX5_in, .initialized RX5, .code yX5_in cX5_in 3 (some .boolean)] ++ wsX50)
def wsX5_isSign : List Cond := .code yX5_isSign cX5_isSign 3 (some .boolean) :: ([.fieldLink RX5 147 "LineDoublerModel" "at" "I", .methodLink RX5 150 yX5_isAt, .instanceMethod yX5_isAt, .selects RX5 yX5_isAt yX5_isAt, .initialized RX5, .code yX5_isAt cX5_isAt 3 (some .boolean), .fieldLink RX5 112 "LineDoublerModel" "padded" "I", .fieldLink RX5 26 "LineDoublerModel" "pad" "[I", .methodLink RX5 40 yX5_in, .static yX5_in, .code yX5_in cX5_in 3 (some .boolean)] ++ wsX50)
def wsX5_isNumber : List Cond := .code yX5_isNumber cX5_isNumber 3 (some .boolean) :: ([.fieldLink RX5 26 "LineDoublerModel" "pad" "[I", .fieldLink RX5 147 "LineDoublerModel" "at" "I", .fieldLink RX5 29 "LineDoublerModel" "orders" "[I", .fieldLink RX5 153 "LineDoublerModel" "ordered" "I", .methodLink RX5 150 yX5_isAt, .instanceMethod yX5_isAt, .selects RX5 yX5_isAt yX5_isAt, .initialized RX5, .code yX5_isAt cX5_isAt 3 (some .boolean), .fieldLink RX5 112 "LineDoublerModel" "padded" "I", .methodLink RX5 40 yX5_in, .static yX5_in, .code yX5_in cX5_in 3 (some .boolean)] ++ wsX50)
def wsX5_isOrder : List Cond := .code yX5_isOrder cX5_isOrder 2 (some .boolean) :: ([.fieldLink RX5 147 "LineDoublerModel" "at" "I", .fieldLink RX5 112 "LineDoublerModel" "padded" "I", .fieldLink RX5 26 "LineDoublerModel" "pad" "[I", .fieldLink RX5 29 "LineDoublerModel" "orders" "[I", .fieldLink RX5 153 "LineDoublerModel" "ordered" "I", .methodLink RX5 156 yX5_isNumber, .instanceMethod yX5_isNumber, .selects RX5 yX5_isNumber yX5_isNumber, .initialized RX5, .code yX5_isNumber cX5_isNumber 3 (some .boolean), .methodLink RX5 150 yX5_isAt, .instanceMethod yX5_isAt, .selects RX5 yX5_isAt yX5_isAt, .code yX5_isAt cX5_isAt 3 (some .boolean), .methodLink RX5 40 yX5_in, .static yX5_in, .code yX5_in cX5_in 3 (some .boolean), .methodLink RX5 159 yX5_isSign, .instanceMethod yX5_isSign, .selects RX5 yX5_isSign yX5_isSign, .code yX5_isSign cX5_isSign 3 (some .boolean)] ++ wsX50)
def wsX5_isText_r1 : List Cond := [Cond.fieldLink RX5 147 "LineDoublerModel" "at" "I", Cond.fieldLink RX5 153 "LineDoublerModel" "ordered" "I", Cond.fieldLink RX5 112 "LineDoublerModel" "padded" "I", Cond.methodLink RX5 162 yX5_isOrder, Cond.instanceMethod yX5_isOrder, Cond.selects RX5 yX5_isOrder yX5_isOrder, Cond.initialized RX5, Cond.code yX5_isOrder cX5_isOrder 2 (some .boolean), Cond.fieldLink RX5 26 "LineDoublerModel" "pad" "[I", Cond.fieldLink RX5 29 "LineDoublerModel" "orders" "[I", Cond.methodLink RX5 156 yX5_isNumber, Cond.instanceMethod yX5_isNumber, Cond.selects RX5 yX5_isNumber yX5_isNumber, Cond.code yX5_isNumber cX5_isNumber 3 (some .boolean), Cond.methodLink RX5 150 yX5_isAt, Cond.instanceMethod yX5_isAt, Cond.selects RX5 yX5_isAt yX5_isAt, Cond.code yX5_isAt cX5_isAt 3 (some .boolean), Cond.methodLink RX5 40 yX5_in, Cond.static yX5_in, Cond.code yX5_in cX5_in 3 (some .boolean), Cond.methodLink RX5 159 yX5_isSign, Cond.instanceMethod yX5_isSign, Cond.selects RX5 yX5_isSign yX5_isSign]
def wsX5_isText_r2 : List Cond := [Cond.code yX5_isSign cX5_isSign 3 (some .boolean)]
def wsX5_isText : List Cond := .code yX5_isText cX5_isText 2 (some .boolean) :: ((wsX5_isText_r1 ++ wsX5_isText_r2) ++ wsX50)
def wsX5_fault_r1 : List Cond := [Cond.fieldLink RX5 147 "LineDoublerModel" "at" "I", Cond.methodLink RX5 166 yX5_isText, Cond.instanceMethod yX5_isText, Cond.selects RX5 yX5_isText yX5_isText, Cond.initialized RX5, Cond.code yX5_isText cX5_isText 2 (some .boolean), Cond.fieldLink RX5 153 "LineDoublerModel" "ordered" "I", Cond.fieldLink RX5 112 "LineDoublerModel" "padded" "I", Cond.methodLink RX5 162 yX5_isOrder, Cond.instanceMethod yX5_isOrder, Cond.selects RX5 yX5_isOrder yX5_isOrder, Cond.code yX5_isOrder cX5_isOrder 2 (some .boolean), Cond.fieldLink RX5 26 "LineDoublerModel" "pad" "[I", Cond.fieldLink RX5 29 "LineDoublerModel" "orders" "[I", Cond.methodLink RX5 156 yX5_isNumber, Cond.instanceMethod yX5_isNumber, Cond.selects RX5 yX5_isNumber yX5_isNumber, Cond.code yX5_isNumber cX5_isNumber 3 (some .boolean), Cond.methodLink RX5 150 yX5_isAt, Cond.instanceMethod yX5_isAt, Cond.selects RX5 yX5_isAt yX5_isAt, Cond.code yX5_isAt cX5_isAt 3 (some .boolean), Cond.methodLink RX5 40 yX5_in, Cond.static yX5_in]
def wsX5_fault_r2 : List Cond := [Cond.code yX5_in cX5_in 3 (some .boolean), Cond.methodLink RX5 159 yX5_isSign, Cond.instanceMethod yX5_isSign, Cond.selects RX5 yX5_isSign yX5_isSign, Cond.code yX5_isSign cX5_isSign 3 (some .boolean)]
def wsX5_fault : List Cond := .code yX5_fault cX5_fault 1 (some .int) :: ((wsX5_fault_r1 ++ wsX5_fault_r2) ++ wsX50)
def wsX5_mayDo : List Cond := .code yX5_mayDo cX5_mayDo 4 (some .int) :: ([.methodLink RX5 87 yX5_isFor, .static yX5_isFor, .initialized RX5, .code yX5_isFor cX5_isFor 2 (some .boolean), .methodLink RX5 40 yX5_in, .static yX5_in, .code yX5_in cX5_in 3 (some .boolean), .methodLink RX5 95 yX5_mayTell, .static yX5_mayTell, .code yX5_mayTell cX5_mayTell 2 (some .int), .methodLink RX5 105 yX5_mayPass, .instanceMethod yX5_mayPass, .selects RX5 yX5_mayPass yX5_mayPass, .code yX5_mayPass cX5_mayPass 2 (some .int), .fieldLink RX5 7 "LineDoublerModel" "now" "[I", .constant RX5 104 (99999), .methodLink RX5 98 yX5_maySlip, .static yX5_maySlip, .code yX5_maySlip cX5_maySlip 2 (some .int)] ++ wsX50)
def wsX5_does_r1 : List Cond := [Cond.fieldLink RX5 29 "LineDoublerModel" "orders" "[I", Cond.fieldLink RX5 7 "LineDoublerModel" "now" "[I", Cond.methodLink RX5 169 yX5_mayDo, Cond.instanceMethod yX5_mayDo, Cond.selects RX5 yX5_mayDo yX5_mayDo, Cond.initialized RX5, Cond.code yX5_mayDo cX5_mayDo 4 (some .int), Cond.methodLink RX5 87 yX5_isFor, Cond.static yX5_isFor, Cond.code yX5_isFor cX5_isFor 2 (some .boolean), Cond.methodLink RX5 40 yX5_in, Cond.static yX5_in, Cond.code yX5_in cX5_in 3 (some .boolean), Cond.methodLink RX5 95 yX5_mayTell, Cond.static yX5_mayTell, Cond.code yX5_mayTell cX5_mayTell 2 (some .int), Cond.methodLink RX5 105 yX5_mayPass, Cond.instanceMethod yX5_mayPass, Cond.selects RX5 yX5_mayPass yX5_mayPass, Cond.code yX5_mayPass cX5_mayPass 2 (some .int), Cond.constant RX5 104 (99999), Cond.methodLink RX5 98 yX5_maySlip, Cond.static yX5_maySlip, Cond.code yX5_maySlip cX5_maySlip 2 (some .int)]
def wsX5_does_r2 : List Cond := [Cond.methodLink RX5 91 yX5_changes, Cond.instanceMethod yX5_changes, Cond.selects RX5 yX5_changes yX5_changes, Cond.code yX5_changes cX5_changes 4 (some .int), Cond.methodLink RX5 109 yX5_passes, Cond.static yX5_passes, Cond.code yX5_passes cX5_passes 3 none, Cond.methodLink RX5 84 yX5_ticks, Cond.static yX5_ticks, Cond.code yX5_ticks cX5_ticks 1 none, Cond.methodLink RX5 78 yX5_comes, Cond.static yX5_comes, Cond.code yX5_comes cX5_comes 2 none, Cond.methodLink RX5 59 yX5_firstFresh, Cond.static yX5_firstFresh, Cond.code yX5_firstFresh cX5_firstFresh 2 (some .int), Cond.methodLink RX5 47 yX5_of, Cond.static yX5_of, Cond.code yX5_of cX5_of 3 (some .int), Cond.methodLink RX5 63 yX5_queues, Cond.static yX5_queues, Cond.code yX5_queues cX5_queues 2 none, Cond.methodLink RX5 51 yX5_misses, Cond.static yX5_misses]
def wsX5_does_r3 : List Cond := [Cond.code yX5_misses cX5_misses 5 none, Cond.methodLink RX5 67 yX5_loses, Cond.static yX5_loses, Cond.code yX5_loses cX5_loses 3 none, Cond.methodLink RX5 55 yX5_leaves, Cond.static yX5_leaves, Cond.code yX5_leaves cX5_leaves 3 none, Cond.methodLink RX5 81 yX5_goesOut, Cond.static yX5_goesOut, Cond.code yX5_goesOut cX5_goesOut 3 none, Cond.methodLink RX5 71 yX5_isBegin, Cond.static yX5_isBegin, Cond.code yX5_isBegin cX5_isBegin 1 (some .boolean), Cond.methodLink RX5 75 yX5_judged, Cond.static yX5_judged, Cond.code yX5_judged cX5_judged 4 (some .int), Cond.methodLink RX5 101 yX5_slips, Cond.instanceMethod yX5_slips, Cond.selects RX5 yX5_slips yX5_slips, Cond.code yX5_slips cX5_slips 3 (some .int)]
def wsX5_does : List Cond := .code yX5_does cX5_does 5 (some .boolean) :: ((wsX5_does_r1 ++ (wsX5_does_r2 ++ wsX5_does_r3)) ++ wsX50)
def wsX5_carryOut_r1 : List Cond := [Cond.fieldLink RX5 112 "LineDoublerModel" "padded" "I", Cond.fieldLink RX5 153 "LineDoublerModel" "ordered" "I", Cond.methodLink RX5 166 yX5_isText, Cond.instanceMethod yX5_isText, Cond.selects RX5 yX5_isText yX5_isText, Cond.initialized RX5, Cond.code yX5_isText cX5_isText 2 (some .boolean), Cond.fieldLink RX5 147 "LineDoublerModel" "at" "I", Cond.methodLink RX5 162 yX5_isOrder, Cond.instanceMethod yX5_isOrder, Cond.selects RX5 yX5_isOrder yX5_isOrder, Cond.code yX5_isOrder cX5_isOrder 2 (some .boolean), Cond.fieldLink RX5 26 "LineDoublerModel" "pad" "[I", Cond.fieldLink RX5 29 "LineDoublerModel" "orders" "[I", Cond.methodLink RX5 156 yX5_isNumber, Cond.instanceMethod yX5_isNumber, Cond.selects RX5 yX5_isNumber yX5_isNumber, Cond.code yX5_isNumber cX5_isNumber 3 (some .boolean), Cond.methodLink RX5 150 yX5_isAt, Cond.instanceMethod yX5_isAt, Cond.selects RX5 yX5_isAt yX5_isAt, Cond.code yX5_isAt cX5_isAt 3 (some .boolean), Cond.methodLink RX5 40 yX5_in, Cond.static yX5_in]
def wsX5_carryOut_r2 : List Cond := [Cond.code yX5_in cX5_in 3 (some .boolean), Cond.methodLink RX5 159 yX5_isSign, Cond.instanceMethod yX5_isSign, Cond.selects RX5 yX5_isSign yX5_isSign, Cond.code yX5_isSign cX5_isSign 3 (some .boolean), Cond.methodLink RX5 44 yX5_records, Cond.instanceMethod yX5_records, Cond.selects RX5 yX5_records yX5_records, Cond.code yX5_records cX5_records 2 none, Cond.fieldLink RX5 32 "LineDoublerModel" "kept" "I", Cond.fieldLink RX5 16 "LineDoublerModel" "past" "[I", Cond.fieldLink RX5 7 "LineDoublerModel" "now" "[I", Cond.methodLink RX5 36 yX5_lays, Cond.static yX5_lays, Cond.code yX5_lays cX5_lays 5 none, Cond.methodLink RX5 173 yX5_does, Cond.instanceMethod yX5_does, Cond.selects RX5 yX5_does yX5_does, Cond.code yX5_does cX5_does 5 (some .boolean), Cond.methodLink RX5 169 yX5_mayDo, Cond.instanceMethod yX5_mayDo, Cond.selects RX5 yX5_mayDo yX5_mayDo, Cond.code yX5_mayDo cX5_mayDo 4 (some .int), Cond.methodLink RX5 87 yX5_isFor]
def wsX5_carryOut_r3 : List Cond := [Cond.static yX5_isFor, Cond.code yX5_isFor cX5_isFor 2 (some .boolean), Cond.methodLink RX5 95 yX5_mayTell, Cond.static yX5_mayTell, Cond.code yX5_mayTell cX5_mayTell 2 (some .int), Cond.methodLink RX5 105 yX5_mayPass, Cond.instanceMethod yX5_mayPass, Cond.selects RX5 yX5_mayPass yX5_mayPass, Cond.code yX5_mayPass cX5_mayPass 2 (some .int), Cond.constant RX5 104 (99999), Cond.methodLink RX5 98 yX5_maySlip, Cond.static yX5_maySlip, Cond.code yX5_maySlip cX5_maySlip 2 (some .int), Cond.methodLink RX5 91 yX5_changes, Cond.instanceMethod yX5_changes, Cond.selects RX5 yX5_changes yX5_changes, Cond.code yX5_changes cX5_changes 4 (some .int), Cond.methodLink RX5 109 yX5_passes, Cond.static yX5_passes, Cond.code yX5_passes cX5_passes 3 none, Cond.methodLink RX5 84 yX5_ticks, Cond.static yX5_ticks, Cond.code yX5_ticks cX5_ticks 1 none, Cond.methodLink RX5 78 yX5_comes]
def wsX5_carryOut_r4 : List Cond := [Cond.static yX5_comes, Cond.code yX5_comes cX5_comes 2 none, Cond.methodLink RX5 59 yX5_firstFresh, Cond.static yX5_firstFresh, Cond.code yX5_firstFresh cX5_firstFresh 2 (some .int), Cond.methodLink RX5 47 yX5_of, Cond.static yX5_of, Cond.code yX5_of cX5_of 3 (some .int), Cond.methodLink RX5 63 yX5_queues, Cond.static yX5_queues, Cond.code yX5_queues cX5_queues 2 none, Cond.methodLink RX5 51 yX5_misses, Cond.static yX5_misses, Cond.code yX5_misses cX5_misses 5 none, Cond.methodLink RX5 67 yX5_loses, Cond.static yX5_loses, Cond.code yX5_loses cX5_loses 3 none, Cond.methodLink RX5 55 yX5_leaves, Cond.static yX5_leaves, Cond.code yX5_leaves cX5_leaves 3 none, Cond.methodLink RX5 81 yX5_goesOut, Cond.static yX5_goesOut, Cond.code yX5_goesOut cX5_goesOut 3 none, Cond.methodLink RX5 71 yX5_isBegin]
def wsX5_carryOut_r5 : List Cond := [Cond.static yX5_isBegin, Cond.code yX5_isBegin cX5_isBegin 1 (some .boolean), Cond.methodLink RX5 75 yX5_judged, Cond.static yX5_judged, Cond.code yX5_judged cX5_judged 4 (some .int), Cond.methodLink RX5 101 yX5_slips, Cond.instanceMethod yX5_slips, Cond.selects RX5 yX5_slips yX5_slips, Cond.code yX5_slips cX5_slips 3 (some .int)]
def wsX5_carryOut : List Cond := .code yX5_carryOut cX5_carryOut 2 (some .int) :: ((wsX5_carryOut_r1 ++ (wsX5_carryOut_r2 ++ (wsX5_carryOut_r3 ++ (wsX5_carryOut_r4 ++ wsX5_carryOut_r5)))) ++ wsX50)
def wsJ9_max_7cf53 : List Cond := .code yJ9_max_7cf53 cJ9_max_7cf53 2 (some .int) :: ([])
def wsJ9_min_7cf53 : List Cond := .code yJ9_min_7cf53 cJ9_min_7cf53 2 (some .int) :: ([])
def wsL_law_r1 : List Cond := [Cond.classLink RL 7 RX4, Cond.instantiable RX4 5, Cond.initialized RX4, Cond.classLink RL 10 RX5, Cond.instantiable RX5 11, Cond.initialized RX5, Cond.constantLong RL 77 (4294967295), Cond.methodLink RL 9 yX4_init, Cond.instanceMethod yX4_init, Cond.code yX4_init cX4_init 1 none, Cond.methodLink RX4 1 objectInit, Cond.instanceMethod objectInit, Cond.code objectInit ⟨#[0xb1]⟩ 1 none, Cond.classLink RX4 7 RX2, Cond.instantiable RX2 6, Cond.initialized RX2, Cond.fieldLink RX4 10 "LineDoubler" "state" "LLineDoubler$State;", Cond.fieldLink RX4 16 "LineDoubler" "trial" "LLineDoubler$State;", Cond.fieldLink RX4 19 "LineDoubler" "slots" "[LLineDoubler$State;", Cond.classLink RX4 23 RX0, Cond.instantiable RX0 3, Cond.initialized RX0, Cond.fieldLink RX4 26 "LineDoubler" "history" "LLineDoubler$History;", Cond.classLink RX4 30 RX1]
def wsL_law_r2 : List Cond := [Cond.instantiable RX1 6, Cond.initialized RX1, Cond.fieldLink RX4 33 "LineDoubler" "pad" "LLineDoubler$Pad;", Cond.methodLink RX4 9 yX2_init, Cond.instanceMethod yX2_init, Cond.code yX2_init cX2_init 2 none, Cond.methodLink RX2 3 objectInit, Cond.arrayClass .int, Cond.fieldLink RX2 9 "LineDoubler$State" "numbers" "[I", Cond.fieldLink RX2 15 "LineDoubler$State" "values" "[I", Cond.classLink RX2 18 RX3, Cond.instantiable RX3 2, Cond.initialized RX3, Cond.fieldLink RX2 23 "LineDoubler$State" "queue" "LLineDoubler$Table;", Cond.fieldLink RX2 27 "LineDoubler$State" "screen" "LLineDoubler$Table;", Cond.fieldLink RX2 30 "LineDoubler$State" "lost" "LLineDoubler$Table;", Cond.methodLink RX2 20 yX3_init, Cond.instanceMethod yX3_init, Cond.code yX3_init cX3_init 5 none, Cond.methodLink RX3 3 objectInit, Cond.fieldLink RX3 9 "LineDoubler$Table" "columns" "I", Cond.methodLink RX3 15 Lib.Math.max.name, Cond.static Lib.Math.max.name, Cond.initialized "java/lang/Math"]
def wsL_law_r3 : List Cond := [Cond.code Lib.Math.max.name Lib.Math.max.code 2 (some .int), Cond.fieldLink RX3 21 "LineDoubler$Table" "cells" "[I", Cond.instanceMethod yX0_init, Cond.code yX0_init cX0_init 1 none, Cond.methodLink RX0 3 objectInit, Cond.classLink RX0 11 RX2, Cond.fieldLink RX0 13 "LineDoubler$History" "states" "[LLineDoubler$State;", Cond.instanceMethod yX1_init, Cond.code yX1_init cX1_init 1 none, Cond.methodLink RX1 3 objectInit, Cond.arrayClass .char, Cond.fieldLink RX1 9 "LineDoubler$Pad" "characters" "[C", Cond.methodLink RL 12 yX5_init, Cond.instanceMethod yX5_init, Cond.code yX5_init cX5_init 2 none, Cond.methodLink RX5 1 objectInit, Cond.fieldLink RX5 7 "LineDoublerModel" "now" "[I", Cond.fieldLink RX5 13 "LineDoublerModel" "then" "[I", Cond.fieldLink RX5 16 "LineDoublerModel" "past" "[I", Cond.fieldLink RX5 19 "LineDoublerModel" "slots" "[I", Cond.arrayClass .boolean, Cond.fieldLink RX5 22 "LineDoublerModel" "held" "[Z", Cond.fieldLink RX5 26 "LineDoublerModel" "pad" "[I", Cond.fieldLink RX5 29 "LineDoublerModel" "orders" "[I"]
def wsL_law_r4 : List Cond := [Cond.methodLink RL 13 yX4_set, Cond.instanceMethod yX4_set, Cond.selects RX4 yX4_set yX4_set, Cond.code yX4_set cX4_set 3 (some .int), Cond.methodLink RX4 37 yX0_prepare, Cond.instanceMethod yX0_prepare, Cond.selects RX0 yX0_prepare yX0_prepare, Cond.code yX0_prepare cX0_prepare 2 none, Cond.fieldLink RX0 17 "LineDoubler$History" "oldest" "I", Cond.fieldLink RX0 21 "LineDoubler$History" "size" "I", Cond.static yX4_keepCopy, Cond.code yX4_keepCopy cX4_keepCopy 3 none, Cond.methodLink RX4 111 yX2_copyFrom, Cond.instanceMethod yX2_copyFrom, Cond.selects RX2 yX2_copyFrom yX2_copyFrom, Cond.code yX2_copyFrom cX2_copyFrom 2 none, Cond.methodLink RX2 36 arraycopyName, Cond.native arraycopyName, Cond.static arraycopyName, Cond.initialized "java/lang/System", Cond.fieldLink RX2 46 "LineDoubler$State" "waitedSum" "I", Cond.methodLink RX2 42 yX3_copyFrom, Cond.instanceMethod yX3_copyFrom, Cond.selects RX3 yX3_copyFrom yX3_copyFrom]
def wsL_law_r5 : List Cond := [Cond.code yX3_copyFrom cX3_copyFrom 2 none, Cond.methodLink RX3 31 Lib.Math.min.name, Cond.static Lib.Math.min.name, Cond.code Lib.Math.min.name Lib.Math.min.code 2 (some .int), Cond.methodLink RX3 25 arraycopyName, Cond.methodLink RX4 41 yX2_changeSetting, Cond.instanceMethod yX2_changeSetting, Cond.selects RX2 yX2_changeSetting yX2_changeSetting, Cond.code yX2_changeSetting cX2_changeSetting 4 (some .int), Cond.static yX4_isWithin, Cond.code yX4_isWithin cX4_isWithin 3 (some .boolean), Cond.methodLink RX4 45 yX0_keepIfDone, Cond.instanceMethod yX0_keepIfDone, Cond.selects RX0 yX0_keepIfDone yX0_keepIfDone, Cond.code yX0_keepIfDone cX0_keepIfDone 2 (some .int), Cond.methodLink RL 17 yX5_set, Cond.instanceMethod yX5_set, Cond.selects RX5 yX5_set yX5_set, Cond.code yX5_set cX5_set 3 (some .int), Cond.methodLink RX5 40 yX5_in, Cond.static yX5_in, Cond.code yX5_in cX5_in 3 (some .boolean), Cond.methodLink RX5 87 yX5_isFor, Cond.static yX5_isFor]
def wsL_law_r6 : List Cond := [Cond.code yX5_isFor cX5_isFor 2 (some .boolean), Cond.methodLink RX5 44 yX5_records, Cond.instanceMethod yX5_records, Cond.selects RX5 yX5_records yX5_records, Cond.code yX5_records cX5_records 2 none, Cond.fieldLink RX5 32 "LineDoublerModel" "kept" "I", Cond.methodLink RX5 36 yX5_lays, Cond.static yX5_lays, Cond.code yX5_lays cX5_lays 5 none, Cond.methodLink RX5 91 yX5_changes, Cond.instanceMethod yX5_changes, Cond.selects RX5 yX5_changes yX5_changes, Cond.code yX5_changes cX5_changes 4 (some .int), Cond.methodLink RL 18 yX4_value, Cond.instanceMethod yX4_value, Cond.selects RX4 yX4_value yX4_value, Cond.code yX4_value cX4_value 3 (some .int), Cond.methodLink RX4 49 yX2_changeValue, Cond.instanceMethod yX2_changeValue, Cond.selects RX2 yX2_changeValue yX2_changeValue, Cond.code yX2_changeValue cX2_changeValue 4 (some .int), Cond.methodLink RL 21 yX5_value, Cond.instanceMethod yX5_value, Cond.selects RX5 yX5_value yX5_value]
def wsL_law_r7 : List Cond := [Cond.code yX5_value cX5_value 4 (some .int), Cond.methodLink RX5 95 yX5_mayTell, Cond.static yX5_mayTell, Cond.code yX5_mayTell cX5_mayTell 2 (some .int), Cond.methodLink RL 22 yX4_slip, Cond.instanceMethod yX4_slip, Cond.selects RX4 yX4_slip yX4_slip, Cond.code yX4_slip cX4_slip 3 (some .int), Cond.methodLink RX4 52 yX2_delayClock, Cond.instanceMethod yX2_delayClock, Cond.selects RX2 yX2_delayClock yX2_delayClock, Cond.code yX2_delayClock cX2_delayClock 4 (some .int), Cond.methodLink RL 25 yX5_slip, Cond.instanceMethod yX5_slip, Cond.selects RX5 yX5_slip yX5_slip, Cond.code yX5_slip cX5_slip 4 (some .int), Cond.methodLink RX5 98 yX5_maySlip, Cond.static yX5_maySlip, Cond.code yX5_maySlip cX5_maySlip 2 (some .int), Cond.methodLink RX5 101 yX5_slips, Cond.instanceMethod yX5_slips, Cond.selects RX5 yX5_slips yX5_slips, Cond.code yX5_slips cX5_slips 3 (some .int), Cond.methodLink RL 26 yX4_pass]
def wsL_law_r8 : List Cond := [Cond.instanceMethod yX4_pass, Cond.selects RX4 yX4_pass yX4_pass, Cond.code yX4_pass cX4_pass 2 (some .int), Cond.constant RX4 55 (99999), Cond.methodLink RX4 56 yX2_passTicks, Cond.instanceMethod yX2_passTicks, Cond.selects RX2 yX2_passTicks yX2_passTicks, Cond.code yX2_passTicks cX2_passTicks 6 (some .int), Cond.methodLink RX2 70 Lib.Math.min.name, Cond.methodLink RX2 76 Lib.Math.max.name, Cond.methodLink RX2 64 yX2_lineComes, Cond.instanceMethod yX2_lineComes, Cond.selects RX2 yX2_lineComes yX2_lineComes, Cond.code yX2_lineComes cX2_lineComes 3 none, Cond.methodLink RX2 83 yX2_nextLineWaits, Cond.instanceMethod yX2_nextLineWaits, Cond.selects RX2 yX2_nextLineWaits yX2_nextLineWaits, Cond.code yX2_nextLineWaits cX2_nextLineWaits 5 none, Cond.methodLink RX2 54 yX2_setting, Cond.instanceMethod yX2_setting, Cond.selects RX2 yX2_setting yX2_setting, Cond.code yX2_setting cX2_setting 2 (some .int), Cond.methodLink RX2 90 yX3_write, Cond.instanceMethod yX3_write]
def wsL_law_r9 : List Cond := [Cond.selects RX3 yX3_write yX3_write, Cond.code yX3_write cX3_write 5 none, Cond.methodLink RX2 86 yX2_firstNotOut, Cond.instanceMethod yX2_firstNotOut, Cond.selects RX2 yX2_firstNotOut yX2_firstNotOut, Cond.code yX2_firstNotOut cX2_firstNotOut 2 (some .int), Cond.methodLink RX2 93 yX3_read, Cond.instanceMethod yX3_read, Cond.selects RX3 yX3_read yX3_read, Cond.code yX3_read cX3_read 4 (some .int), Cond.methodLink RX2 79 yX2_loseWaiting, Cond.instanceMethod yX2_loseWaiting, Cond.selects RX2 yX2_loseWaiting yX2_loseWaiting, Cond.code yX2_loseWaiting cX2_loseWaiting 4 none, Cond.methodLink RX2 96 yX3_removeRow, Cond.instanceMethod yX3_removeRow, Cond.selects RX3 yX3_removeRow yX3_removeRow, Cond.code yX3_removeRow cX3_removeRow 4 none, Cond.methodLink RX2 67 yX2_rowGoesOut, Cond.instanceMethod yX2_rowGoesOut, Cond.selects RX2 yX2_rowGoesOut yX2_rowGoesOut, Cond.code yX2_rowGoesOut cX2_rowGoesOut 4 none, Cond.methodLink RX2 100 yX2_rowsOfScreen, Cond.instanceMethod yX2_rowsOfScreen]
def wsL_law_r10 : List Cond := [Cond.selects RX2 yX2_rowsOfScreen yX2_rowsOfScreen, Cond.code yX2_rowsOfScreen cX2_rowsOfScreen 1 (some .int), Cond.methodLink RX2 103 yX2_skipToPicture, Cond.instanceMethod yX2_skipToPicture, Cond.selects RX2 yX2_skipToPicture yX2_skipToPicture, Cond.code yX2_skipToPicture cX2_skipToPicture 3 none, Cond.methodLink RX2 106 yX2_showFirstWaiting, Cond.instanceMethod yX2_showFirstWaiting, Cond.selects RX2 yX2_showFirstWaiting yX2_showFirstWaiting, Cond.code yX2_showFirstWaiting cX2_showFirstWaiting 2 none, Cond.methodLink RX2 109 yX2_showColour, Cond.instanceMethod yX2_showColour, Cond.selects RX2 yX2_showColour yX2_showColour, Cond.code yX2_showColour cX2_showColour 2 none, Cond.methodLink RX2 112 yX2_judgeScreen, Cond.instanceMethod yX2_judgeScreen, Cond.selects RX2 yX2_judgeScreen yX2_judgeScreen, Cond.code yX2_judgeScreen cX2_judgeScreen 5 (some .int), Cond.methodLink RL 30 yX5_pass, Cond.instanceMethod yX5_pass, Cond.selects RX5 yX5_pass yX5_pass, Cond.code yX5_pass cX5_pass 3 (some .int), Cond.methodLink RX5 105 yX5_mayPass, Cond.instanceMethod yX5_mayPass]
def wsL_law_r11 : List Cond := [Cond.selects RX5 yX5_mayPass yX5_mayPass, Cond.code yX5_mayPass cX5_mayPass 2 (some .int), Cond.constant RX5 104 (99999), Cond.methodLink RX5 109 yX5_passes, Cond.static yX5_passes, Cond.code yX5_passes cX5_passes 3 none, Cond.methodLink RX5 84 yX5_ticks, Cond.static yX5_ticks, Cond.code yX5_ticks cX5_ticks 1 none, Cond.methodLink RX5 78 yX5_comes, Cond.static yX5_comes, Cond.code yX5_comes cX5_comes 2 none, Cond.methodLink RX5 59 yX5_firstFresh, Cond.static yX5_firstFresh, Cond.code yX5_firstFresh cX5_firstFresh 2 (some .int), Cond.methodLink RX5 47 yX5_of, Cond.static yX5_of, Cond.code yX5_of cX5_of 3 (some .int), Cond.methodLink RX5 63 yX5_queues, Cond.static yX5_queues, Cond.code yX5_queues cX5_queues 2 none, Cond.methodLink RX5 51 yX5_misses, Cond.static yX5_misses, Cond.code yX5_misses cX5_misses 5 none]
def wsL_law_r12 : List Cond := [Cond.methodLink RX5 67 yX5_loses, Cond.static yX5_loses, Cond.code yX5_loses cX5_loses 3 none, Cond.methodLink RX5 55 yX5_leaves, Cond.static yX5_leaves, Cond.code yX5_leaves cX5_leaves 3 none, Cond.methodLink RX5 81 yX5_goesOut, Cond.static yX5_goesOut, Cond.code yX5_goesOut cX5_goesOut 3 none, Cond.methodLink RX5 71 yX5_isBegin, Cond.static yX5_isBegin, Cond.code yX5_isBegin cX5_isBegin 1 (some .boolean), Cond.methodLink RX5 75 yX5_judged, Cond.static yX5_judged, Cond.code yX5_judged cX5_judged 4 (some .int), Cond.methodLink RL 31 yX4_flush, Cond.instanceMethod yX4_flush, Cond.selects RX4 yX4_flush yX4_flush, Cond.code yX4_flush cX4_flush 1 (some .int), Cond.methodLink RX4 59 yX2_skipAll, Cond.instanceMethod yX2_skipAll, Cond.selects RX2 yX2_skipAll yX2_skipAll, Cond.code yX2_skipAll cX2_skipAll 3 (some .int), Cond.methodLink RL 35 yX5_flush]
def wsL_law_r13 : List Cond := [Cond.instanceMethod yX5_flush, Cond.selects RX5 yX5_flush yX5_flush, Cond.code yX5_flush cX5_flush 2 (some .int), Cond.methodLink RL 36 yX4_waiting, Cond.instanceMethod yX4_waiting, Cond.selects RX4 yX4_waiting yX4_waiting, Cond.code yX4_waiting cX4_waiting 3 (some .int), Cond.methodLink RX4 67 yX4_isWithin, Cond.methodLink RX4 75 yX3_read, Cond.methodLink RL 39 yX5_waiting, Cond.instanceMethod yX5_waiting, Cond.selects RX5 yX5_waiting yX5_waiting, Cond.code yX5_waiting cX5_waiting 3 (some .int), Cond.methodLink RL 40 yX4_row, Cond.instanceMethod yX4_row, Cond.selects RX4 yX4_row yX4_row, Cond.code yX4_row cX4_row 3 (some .int), Cond.methodLink RX4 80 yX2_rowsOfScreen, Cond.methodLink RL 43 yX5_row, Cond.instanceMethod yX5_row, Cond.selects RX5 yX5_row yX5_row, Cond.code yX5_row cX5_row 3 (some .int), Cond.methodLink RL 44 yX4_ofMissing, Cond.instanceMethod yX4_ofMissing]
def wsL_law_r14 : List Cond := [Cond.selects RX4 yX4_ofMissing yX4_ofMissing, Cond.code yX4_ofMissing cX4_ofMissing 3 (some .int), Cond.methodLink RX4 86 Lib.Math.min.name, Cond.methodLink RL 47 yX5_ofMissing, Cond.instanceMethod yX5_ofMissing, Cond.selects RX5 yX5_ofMissing yX5_ofMissing, Cond.code yX5_ofMissing cX5_ofMissing 3 (some .int), Cond.methodLink RL 48 yX4_count, Cond.instanceMethod yX4_count, Cond.selects RX4 yX4_count yX4_count, Cond.code yX4_count cX4_count 2 (some .int), Cond.methodLink RL 51 yX5_count, Cond.instanceMethod yX5_count, Cond.selects RX5 yX5_count yX5_count, Cond.code yX5_count cX5_count 2 (some .int), Cond.fieldLink RX5 112 "LineDoublerModel" "padded" "I", Cond.methodLink RL 52 yX4_shown, Cond.instanceMethod yX4_shown, Cond.selects RX4 yX4_shown yX4_shown, Cond.code yX4_shown cX4_shown 3 (some .int), Cond.methodLink RL 55 yX5_shown, Cond.instanceMethod yX5_shown, Cond.selects RX5 yX5_shown yX5_shown, Cond.code yX5_shown cX5_shown 2 (some .int)]
def wsL_law_r15 : List Cond := [Cond.methodLink RL 56 yX4_ratio, Cond.instanceMethod yX4_ratio, Cond.selects RX4 yX4_ratio yX4_ratio, Cond.code yX4_ratio cX4_ratio 3 (some .int), Cond.methodLink RX4 101 yX2_setting, Cond.methodLink RX4 104 yX4_bitsOf, Cond.static yX4_bitsOf, Cond.code yX4_bitsOf cX4_bitsOf 9 (some .long), Cond.constantDouble RX4 170 (4611686018427387904), Cond.methodLink RL 59 yX5_ratio, Cond.instanceMethod yX5_ratio, Cond.selects RX5 yX5_ratio yX5_ratio, Cond.code yX5_ratio cX5_ratio 1 (some .int), Cond.methodLink RX5 115 yJxf58ca_floatToIntBits_5c35a, Cond.static yJxf58ca_floatToIntBits_5c35a, Cond.initialized RJxf58ca, Cond.code yJxf58ca_floatToIntBits_5c35a cJxf58ca_floatToIntBits_5c35a 1 (some .int), Cond.methodLink RJxf58ca 74 ⟨"java/lang/Float", "floatToRawIntBits", "(F)I"⟩, Cond.native ⟨"java/lang/Float", "floatToRawIntBits", "(F)I"⟩, Cond.static ⟨"java/lang/Float", "floatToRawIntBits", "(F)I"⟩, Cond.initialized "java/lang/Float", Cond.constant RJxf58ca 77 (2143289344), Cond.methodLink RJxf58ca 59 yJxf58ca_isNaN_12338, Cond.static yJxf58ca_isNaN_12338]
def wsL_law_r16 : List Cond := [Cond.code yJxf58ca_isNaN_12338 cJxf58ca_isNaN_12338 1 (some .boolean), Cond.methodLink RL 60 yX4_fill, Cond.instanceMethod yX4_fill, Cond.selects RX4 yX4_fill yX4_fill, Cond.code yX4_fill cX4_fill 2 (some .long), Cond.methodLink RL 64 yX5_fill, Cond.instanceMethod yX5_fill, Cond.selects RX5 yX5_fill yX5_fill, Cond.code yX5_fill cX5_fill 1 (some .long), Cond.methodLink RX5 121 yJxe99ae_doubleToLongBits_ccdee, Cond.static yJxe99ae_doubleToLongBits_ccdee, Cond.initialized RJxe99ae, Cond.code yJxe99ae_doubleToLongBits_ccdee cJxe99ae_doubleToLongBits_ccdee 2 (some .long), Cond.methodLink RJxe99ae 134 ⟨"java/lang/Double", "doubleToRawLongBits", "(D)J"⟩, Cond.native ⟨"java/lang/Double", "doubleToRawLongBits", "(D)J"⟩, Cond.static ⟨"java/lang/Double", "doubleToRawLongBits", "(D)J"⟩, Cond.initialized "java/lang/Double", Cond.constantLong RJxe99ae 137 (9221120237041090560), Cond.methodLink RJxe99ae 122 yJxe99ae_isNaN_b9ae7, Cond.static yJxe99ae_isNaN_b9ae7, Cond.code yJxe99ae_isNaN_b9ae7 cJxe99ae_isNaN_b9ae7 2 (some .boolean), Cond.methodLink RL 65 yX4_would, Cond.instanceMethod yX4_would, Cond.selects RX4 yX4_would yX4_would]
def wsL_law_r17 : List Cond := [Cond.code yX4_would cX4_would 3 (some .int), Cond.constant RX4 114 (1073741824), Cond.methodLink RX4 115 yX4_gainOf, Cond.instanceMethod yX4_gainOf, Cond.selects RX4 yX4_gainOf yX4_gainOf, Cond.code yX4_gainOf cX4_gainOf 2 (some .int), Cond.methodLink RL 68 yX5_would, Cond.instanceMethod yX5_would, Cond.selects RX5 yX5_would yX5_would, Cond.code yX5_would cX5_would 3 (some .int), Cond.methodLink RX5 127 yX5_areTicks, Cond.static yX5_areTicks, Cond.code yX5_areTicks cX5_areTicks 1 (some .boolean), Cond.methodLink RX5 131 yX5_tries, Cond.instanceMethod yX5_tries, Cond.selects RX5 yX5_tries yX5_tries, Cond.code yX5_tries cX5_tries 1 none, Cond.methodLink RX5 134 yX5_more, Cond.instanceMethod yX5_more, Cond.selects RX5 yX5_more yX5_more, Cond.code yX5_more cX5_more 3 (some .int), Cond.methodLink RL 69 yX4_leastRoom, Cond.instanceMethod yX4_leastRoom, Cond.selects RX4 yX4_leastRoom yX4_leastRoom]
def wsL_law_r18 : List Cond := [Cond.code yX4_leastRoom cX4_leastRoom 3 (some .int), Cond.methodLink RX4 118 Lib.Math.max.name, Cond.methodLink RX4 121 yX4_tryWith, Cond.instanceMethod yX4_tryWith, Cond.selects RX4 yX4_tryWith yX4_tryWith, Cond.code yX4_tryWith cX4_tryWith 4 none, Cond.methodLink RL 72 yX5_leastRoom, Cond.instanceMethod yX5_leastRoom, Cond.selects RX5 yX5_leastRoom yX5_leastRoom, Cond.code yX5_leastRoom cX5_leastRoom 3 (some .int), Cond.methodLink RL 73 yX4_bestOut, Cond.instanceMethod yX4_bestOut, Cond.selects RX4 yX4_bestOut yX4_bestOut, Cond.code yX4_bestOut cX4_bestOut 7 (some .int), Cond.methodLink RL 76 yX5_bestOut, Cond.instanceMethod yX5_bestOut, Cond.selects RX5 yX5_bestOut yX5_bestOut, Cond.code yX5_bestOut cX5_bestOut 7 (some .int), Cond.methodLink RL 79 yX4_put, Cond.instanceMethod yX4_put, Cond.selects RX4 yX4_put yX4_put, Cond.code yX4_put cX4_put 4 (some .int), Cond.methodLink RX4 125 yX4_charactersIn, Cond.static yX4_charactersIn]
def wsL_law_r19 : List Cond := [Cond.code yX4_charactersIn cX4_charactersIn 5 (some .int), Cond.constantLong RX4 168 (255), Cond.methodLink RX4 129 yX1_append, Cond.instanceMethod yX1_append, Cond.selects RX1 yX1_append yX1_append, Cond.code yX1_append cX1_append 5 none, Cond.fieldLink RX1 15 "LineDoubler$Pad" "length" "I", Cond.constantLong RX1 19 (255), Cond.methodLink RL 83 yX5_put, Cond.instanceMethod yX5_put, Cond.selects RX5 yX5_put yX5_put, Cond.code yX5_put cX5_put 5 (some .int), Cond.methodLink RX5 143 yX5_toldBy, Cond.static yX5_toldBy, Cond.code yX5_toldBy cX5_toldBy 4 (some .int), Cond.methodLink RX5 139 yX5_byteOf, Cond.static yX5_byteOf, Cond.code yX5_byteOf cX5_byteOf 3 (some .int), Cond.constantLong RX5 137 (255), Cond.methodLink RL 84 yX4_wipe, Cond.instanceMethod yX4_wipe, Cond.selects RX4 yX4_wipe yX4_wipe, Cond.code yX4_wipe cX4_wipe 2 (some .int), Cond.methodLink RL 87 yX5_wipe]
def wsL_law_r20 : List Cond := [Cond.instanceMethod yX5_wipe, Cond.selects RX5 yX5_wipe yX5_wipe, Cond.code yX5_wipe cX5_wipe 2 (some .int), Cond.methodLink RL 88 yX4_fault, Cond.instanceMethod yX4_fault, Cond.selects RX4 yX4_fault yX4_fault, Cond.code yX4_fault cX4_fault 1 (some .int), Cond.methodLink RX4 133 yX1_findFault, Cond.instanceMethod yX1_findFault, Cond.selects RX1 yX1_findFault yX1_findFault, Cond.code yX1_findFault cX1_findFault 2 (some .int), Cond.fieldLink RX1 21 "LineDoubler$Pad" "at" "I", Cond.methodLink RX1 24 yX1_readOrder, Cond.instanceMethod yX1_readOrder, Cond.selects RX1 yX1_readOrder yX1_readOrder, Cond.code yX1_readOrder cX1_readOrder 1 (some .boolean), Cond.fieldLink RX1 36 "LineDoubler$Pad" "order" "C", Cond.fieldLink RX1 47 "LineDoubler$Pad" "first" "I", Cond.fieldLink RX1 50 "LineDoubler$Pad" "second" "I", Cond.methodLink RX1 32 yX1_look, Cond.instanceMethod yX1_look, Cond.selects RX1 yX1_look yX1_look, Cond.code yX1_look cX1_look 1 (some .char), Cond.methodLink RX1 40 yX1_isOrder]
def wsL_law_r21 : List Cond := [Cond.static yX1_isOrder, Cond.code yX1_isOrder cX1_isOrder 1 (some .boolean), Cond.methodLink RX1 43 yX1_readNumber, Cond.instanceMethod yX1_readNumber, Cond.selects RX1 yX1_readNumber yX1_readNumber, Cond.code yX1_readNumber cX1_readNumber 3 (some .int), Cond.methodLink RX1 53 yX1_isDigit, Cond.static yX1_isDigit, Cond.code yX1_isDigit cX1_isDigit 1 (some .boolean), Cond.methodLink RX1 28 yX1_readSign, Cond.instanceMethod yX1_readSign, Cond.selects RX1 yX1_readSign yX1_readSign, Cond.code yX1_readSign cX1_readSign 2 (some .boolean), Cond.methodLink RL 91 yX5_fault, Cond.instanceMethod yX5_fault, Cond.selects RX5 yX5_fault yX5_fault, Cond.code yX5_fault cX5_fault 1 (some .int), Cond.fieldLink RX5 147 "LineDoublerModel" "at" "I", Cond.methodLink RX5 166 yX5_isText, Cond.instanceMethod yX5_isText, Cond.selects RX5 yX5_isText yX5_isText, Cond.code yX5_isText cX5_isText 2 (some .boolean), Cond.fieldLink RX5 153 "LineDoublerModel" "ordered" "I", Cond.methodLink RX5 162 yX5_isOrder]
def wsL_law_r22 : List Cond := [Cond.instanceMethod yX5_isOrder, Cond.selects RX5 yX5_isOrder yX5_isOrder, Cond.code yX5_isOrder cX5_isOrder 2 (some .boolean), Cond.methodLink RX5 156 yX5_isNumber, Cond.instanceMethod yX5_isNumber, Cond.selects RX5 yX5_isNumber yX5_isNumber, Cond.code yX5_isNumber cX5_isNumber 3 (some .boolean), Cond.methodLink RX5 150 yX5_isAt, Cond.instanceMethod yX5_isAt, Cond.selects RX5 yX5_isAt yX5_isAt, Cond.code yX5_isAt cX5_isAt 3 (some .boolean), Cond.methodLink RX5 159 yX5_isSign, Cond.instanceMethod yX5_isSign, Cond.selects RX5 yX5_isSign yX5_isSign, Cond.code yX5_isSign cX5_isSign 3 (some .boolean), Cond.methodLink RL 92 yX4_carryOut, Cond.instanceMethod yX4_carryOut, Cond.selects RX4 yX4_carryOut yX4_carryOut, Cond.code yX4_carryOut cX4_carryOut 4 (some .int), Cond.methodLink RX4 139 yX1_readOrder, Cond.methodLink RX4 143 yX4_carryOutOrder, Cond.instanceMethod yX4_carryOutOrder, Cond.selects RX4 yX4_carryOutOrder yX4_carryOutOrder, Cond.code yX4_carryOutOrder cX4_carryOutOrder 1 (some .int)]
def wsL_law_r23 : List Cond := [Cond.methodLink RX4 146 yX1_readSign, Cond.methodLink RL 95 yX5_carryOut, Cond.instanceMethod yX5_carryOut, Cond.selects RX5 yX5_carryOut yX5_carryOut, Cond.code yX5_carryOut cX5_carryOut 2 (some .int), Cond.methodLink RX5 173 yX5_does, Cond.instanceMethod yX5_does, Cond.selects RX5 yX5_does yX5_does, Cond.code yX5_does cX5_does 5 (some .boolean), Cond.methodLink RX5 169 yX5_mayDo, Cond.instanceMethod yX5_mayDo, Cond.selects RX5 yX5_mayDo yX5_mayDo, Cond.code yX5_mayDo cX5_mayDo 4 (some .int), Cond.methodLink RL 96 yX4_undo, Cond.instanceMethod yX4_undo, Cond.selects RX4 yX4_undo yX4_undo, Cond.code yX4_undo cX4_undo 2 (some .int), Cond.methodLink RX4 150 yX0_takeLatest, Cond.instanceMethod yX0_takeLatest, Cond.selects RX0 yX0_takeLatest yX0_takeLatest, Cond.code yX0_takeLatest cX0_takeLatest 1 (some (.object "LineDoubler$State")), Cond.methodLink RL 99 yX5_undo, Cond.instanceMethod yX5_undo, Cond.selects RX5 yX5_undo yX5_undo]
def wsL_law_r24 : List Cond := [Cond.code yX5_undo cX5_undo 1 (some .int), Cond.methodLink RL 100 yX4_save, Cond.instanceMethod yX4_save, Cond.selects RX4 yX4_save yX4_save, Cond.code yX4_save cX4_save 2 (some .int), Cond.methodLink RX4 154 yX4_keepCopy, Cond.methodLink RL 103 yX5_save, Cond.instanceMethod yX5_save, Cond.selects RX5 yX5_save yX5_save, Cond.code yX5_save cX5_save 2 (some .int), Cond.methodLink RL 104 yX4_restore, Cond.instanceMethod yX4_restore, Cond.selects RX4 yX4_restore yX4_restore, Cond.code yX4_restore cX4_restore 2 (some .int), Cond.methodLink RL 107 yX5_restore, Cond.instanceMethod yX5_restore, Cond.selects RX5 yX5_restore yX5_restore, Cond.code yX5_restore cX5_restore 2 (some .int)]
def wsL_law : List Cond := (wsL_law_r1 ++ (wsL_law_r2 ++ (wsL_law_r3 ++ (wsL_law_r4 ++ (wsL_law_r5 ++ (wsL_law_r6 ++ (wsL_law_r7 ++ (wsL_law_r8 ++ (wsL_law_r9 ++ (wsL_law_r10 ++ (wsL_law_r11 ++ (wsL_law_r12 ++ (wsL_law_r13 ++ (wsL_law_r14 ++ (wsL_law_r15 ++ (wsL_law_r16 ++ (wsL_law_r17 ++ (wsL_law_r18 ++ (wsL_law_r19 ++ (wsL_law_r20 ++ (wsL_law_r21 ++ (wsL_law_r22 ++ (wsL_law_r23 ++ wsL_law_r24))))))))))))))))))))))) ++ wsX40 ++ wsX50 ++ wsX20 ++ wsX00 ++ wsX10 ++ wsX30 ++ ([] : List Cond)
theorem mem_r {big : List Cond} (ws : List Cond) (ps : List Nat) (hp : ws = ps.filterMap (fun i => big[i]?)) : ∀ w ∈ ws, w ∈ big := by
  intro w hw
  rw [hp] at hw
  obtain ⟨i, -, hi⟩ := List.mem_filterMap.mp hw
  exact List.mem_of_getElem? hi
set_option maxRecDepth 20000 in
theorem wsL_law_r1_lwin : ∀ w ∈ wsL_law_r1, w ∈ lw_tbl := mem_r _ [38, 39, 28, 426, 427, 34, 689, 40, 41, 42, 43, 44, 45, 46, 47, 29, 145, 146, 147, 96, 97, 32, 148, 114] (by decide +kernel)
set_option maxRecDepth 20000 in
theorem wsL_law_r2_lwin : ∀ w ∈ wsL_law_r2, w ∈ lw_tbl := mem_r _ [115, 33, 149, 48, 49, 50, 51, 68, 71, 73, 52, 53, 30, 74, 76, 78, 54, 55, 56, 57, 61, 58, 59, 31] (by decide +kernel)
set_option maxRecDepth 20000 in
theorem wsL_law_r3_lwin : ∀ w ∈ wsL_law_r3, w ∈ lw_tbl := mem_r _ [60, 62, 99, 100, 101, 102, 103, 117, 118, 119, 144, 120, 428, 429, 430, 431, 432, 433, 434, 436, 466, 437, 438, 441] (by decide +kernel)
set_option maxRecDepth 20000 in
theorem wsL_law_r4_lwin : ∀ w ∈ wsL_law_r4, w ∈ lw_tbl := mem_r _ [161, 162, 163, 164, 165, 166, 167, 168, 104, 105, 170, 171, 172, 173, 174, 175, 176, 178, 177, 35, 80, 179, 180, 181] (by decide +kernel)
set_option maxRecDepth 20000 in
theorem wsL_law_r5_lwin : ∀ w ∈ wsL_law_r5, w ∈ lw_tbl := mem_r _ [182, 183, 184, 185, 186, 187, 188, 189, 190, 192, 193, 198, 199, 200, 201, 489, 490, 491, 492, 478, 479, 480, 493, 494] (by decide +kernel)
set_option maxRecDepth 20000 in
theorem wsL_law_r6_lwin : ∀ w ∈ wsL_law_r6, w ∈ lw_tbl := mem_r _ [495, 485, 487, 14, 488, 435, 471, 472, 473, 496, 498, 15, 499, 202, 203, 204, 205, 206, 207, 208, 209, 500, 501, 502] (by decide +kernel)
set_option maxRecDepth 20000 in
theorem wsL_law_r7_lwin : ∀ w ∈ wsL_law_r7, w ∈ lw_tbl := mem_r _ [503, 504, 505, 506, 210, 211, 212, 213, 214, 215, 216, 217, 507, 508, 509, 510, 511, 512, 513, 514, 516, 16, 517, 218] (by decide +kernel)
set_option maxRecDepth 20000 in
theorem wsL_law_r8_lwin : ∀ w ∈ wsL_law_r8, w ∈ lw_tbl := mem_r _ [219, 220, 221, 222, 223, 224, 225, 226, 283, 284, 227, 229, 0, 230, 231, 233, 1, 234, 235, 236, 237, 238, 239, 240] (by decide +kernel)
set_option maxRecDepth 20000 in
theorem wsL_law_r9_lwin : ∀ w ∈ wsL_law_r9, w ∈ lw_tbl := mem_r _ [241, 242, 243, 245, 2, 246, 247, 248, 249, 250, 251, 253, 3, 254, 255, 256, 257, 258, 259, 261, 4, 262, 263, 264] (by decide +kernel)
set_option maxRecDepth 20000 in
theorem wsL_law_r10_lwin : ∀ w ∈ wsL_law_r10, w ∈ lw_tbl := mem_r _ [265, 266, 267, 269, 5, 270, 271, 273, 6, 274, 275, 277, 7, 278, 279, 281, 8, 282, 518, 519, 520, 521, 522, 524] (by decide +kernel)
set_option maxRecDepth 20000 in
theorem wsL_law_r11_lwin : ∀ w ∈ wsL_law_r11, w ∈ lw_tbl := mem_r _ [17, 525, 526, 527, 528, 529, 530, 531, 532, 533, 534, 535, 536, 537, 538, 539, 540, 541, 542, 543, 544, 545, 546, 547] (by decide +kernel)
set_option maxRecDepth 20000 in
theorem wsL_law_r12_lwin : ∀ w ∈ wsL_law_r12, w ∈ lw_tbl := mem_r _ [548, 549, 550, 551, 552, 553, 554, 555, 556, 557, 558, 559, 560, 561, 562, 285, 286, 287, 288, 289, 290, 291, 292, 563] (by decide +kernel)
set_option maxRecDepth 20000 in
theorem wsL_law_r13_lwin : ∀ w ∈ wsL_law_r13, w ∈ lw_tbl := mem_r _ [564, 565, 566, 293, 294, 295, 296, 297, 298, 567, 568, 569, 570, 299, 300, 301, 302, 303, 571, 572, 573, 574, 304, 305] (by decide +kernel)
set_option maxRecDepth 20000 in
theorem wsL_law_r14_lwin : ∀ w ∈ wsL_law_r14, w ∈ lw_tbl := mem_r _ [306, 307, 308, 575, 576, 577, 578, 309, 310, 311, 312, 579, 580, 581, 582, 439, 313, 314, 315, 316, 583, 584, 585, 586] (by decide +kernel)
set_option maxRecDepth 20000 in
theorem wsL_law_r15_lwin : ∀ w ∈ wsL_law_r15, w ∈ lw_tbl := mem_r _ [317, 318, 319, 320, 321, 322, 323, 324, 325, 587, 588, 589, 590, 591, 592, 36, 593, 597, 599, 598, 36, 600, 594, 595] (by decide +kernel)
set_option maxRecDepth 20000 in
theorem wsL_law_r16_lwin : ∀ w ∈ wsL_law_r16, w ∈ lw_tbl := mem_r _ [596, 326, 327, 328, 329, 601, 602, 603, 604, 605, 606, 37, 607, 611, 613, 612, 37, 614, 608, 609, 610, 330, 331, 332] (by decide +kernel)
set_option maxRecDepth 20000 in
theorem wsL_law_r17_lwin : ∀ w ∈ wsL_law_r17, w ∈ lw_tbl := mem_r _ [333, 334, 335, 337, 9, 338, 615, 616, 617, 618, 619, 620, 621, 622, 624, 18, 625, 626, 628, 19, 629, 339, 340, 341] (by decide +kernel)
set_option maxRecDepth 20000 in
theorem wsL_law_r18_lwin : ∀ w ∈ wsL_law_r18, w ∈ lw_tbl := mem_r _ [342, 343, 344, 346, 10, 347, 630, 631, 632, 633, 348, 349, 350, 351, 634, 635, 636, 637, 352, 353, 354, 355, 356, 357] (by decide +kernel)
set_option maxRecDepth 20000 in
theorem wsL_law_r19_lwin : ∀ w ∈ wsL_law_r19, w ∈ lw_tbl := mem_r _ [358, 359, 360, 361, 362, 363, 121, 364, 638, 639, 640, 641, 642, 643, 644, 645, 646, 647, 648, 365, 366, 367, 368, 649] (by decide +kernel)
set_option maxRecDepth 20000 in
theorem wsL_law_r20_lwin : ∀ w ∈ wsL_law_r20, w ∈ lw_tbl := mem_r _ [650, 651, 652, 369, 370, 371, 372, 373, 374, 375, 376, 123, 377, 378, 379, 380, 125, 127, 129, 381, 383, 11, 384, 385] (by decide +kernel)
set_option maxRecDepth 20000 in
theorem wsL_law_r21_lwin : ∀ w ∈ wsL_law_r21, w ∈ lw_tbl := mem_r _ [386, 387, 388, 390, 12, 391, 392, 393, 394, 395, 396, 397, 398, 653, 654, 655, 656, 440, 657, 659, 20, 660, 442, 661] (by decide +kernel)
set_option maxRecDepth 20000 in
theorem wsL_law_r22_lwin : ∀ w ∈ wsL_law_r22, w ∈ lw_tbl := mem_r _ [663, 21, 664, 665, 667, 22, 668, 669, 671, 23, 672, 673, 675, 24, 676, 399, 400, 401, 402, 403, 404, 406, 13, 407] (by decide +kernel)
set_option maxRecDepth 20000 in
theorem wsL_law_r23_lwin : ∀ w ∈ wsL_law_r23, w ∈ lw_tbl := mem_r _ [408, 677, 678, 679, 680, 681, 683, 25, 684, 685, 687, 26, 688, 409, 410, 411, 412, 413, 414, 415, 416, 467, 468, 469] (by decide +kernel)
set_option maxRecDepth 20000 in
theorem wsL_law_r24_lwin : ∀ w ∈ wsL_law_r24, w ∈ lw_tbl := mem_r _ [470, 417, 418, 419, 420, 421, 474, 475, 476, 477, 422, 423, 424, 425, 481, 482, 483, 484] (by decide +kernel)
set_option maxRecDepth 20000 in
theorem wsX40_lwin : ∀ w ∈ wsX40, w ∈ lw_tbl := mem_r _ [150, 152, 154, 156, 158] (by decide +kernel)
set_option maxRecDepth 20000 in
theorem wsX50_lwin : ∀ w ∈ wsX50, w ∈ lw_tbl := mem_r _ [443, 445, 447, 449, 451, 453, 455, 457, 459, 461, 463] (by decide +kernel)
set_option maxRecDepth 20000 in
theorem wsX20_lwin : ∀ w ∈ wsX20, w ∈ lw_tbl := mem_r _ [82, 84, 86, 88, 90, 92] (by decide +kernel)
set_option maxRecDepth 20000 in
theorem wsX00_lwin : ∀ w ∈ wsX00, w ∈ lw_tbl := mem_r _ [107, 109, 111] (by decide +kernel)
set_option maxRecDepth 20000 in
theorem wsX10_lwin : ∀ w ∈ wsX10, w ∈ lw_tbl := mem_r _ [131, 133, 135, 137, 139, 141] (by decide +kernel)
set_option maxRecDepth 20000 in
theorem wsX30_lwin : ∀ w ∈ wsX30, w ∈ lw_tbl := mem_r _ [63, 65] (by decide +kernel)
theorem wsL_law_in : ∀ w ∈ wsL_law, w ∈ lw_tbl := List.forall_mem_append.mpr ⟨List.forall_mem_append.mpr ⟨List.forall_mem_append.mpr ⟨List.forall_mem_append.mpr ⟨List.forall_mem_append.mpr ⟨List.forall_mem_append.mpr ⟨List.forall_mem_append.mpr ⟨List.forall_mem_append.mpr ⟨wsL_law_r1_lwin, List.forall_mem_append.mpr ⟨wsL_law_r2_lwin, List.forall_mem_append.mpr ⟨wsL_law_r3_lwin, List.forall_mem_append.mpr ⟨wsL_law_r4_lwin, List.forall_mem_append.mpr ⟨wsL_law_r5_lwin, List.forall_mem_append.mpr ⟨wsL_law_r6_lwin, List.forall_mem_append.mpr ⟨wsL_law_r7_lwin, List.forall_mem_append.mpr ⟨wsL_law_r8_lwin, List.forall_mem_append.mpr ⟨wsL_law_r9_lwin, List.forall_mem_append.mpr ⟨wsL_law_r10_lwin, List.forall_mem_append.mpr ⟨wsL_law_r11_lwin, List.forall_mem_append.mpr ⟨wsL_law_r12_lwin, List.forall_mem_append.mpr ⟨wsL_law_r13_lwin, List.forall_mem_append.mpr ⟨wsL_law_r14_lwin, List.forall_mem_append.mpr ⟨wsL_law_r15_lwin, List.forall_mem_append.mpr ⟨wsL_law_r16_lwin, List.forall_mem_append.mpr ⟨wsL_law_r17_lwin, List.forall_mem_append.mpr ⟨wsL_law_r18_lwin, List.forall_mem_append.mpr ⟨wsL_law_r19_lwin, List.forall_mem_append.mpr ⟨wsL_law_r20_lwin, List.forall_mem_append.mpr ⟨wsL_law_r21_lwin, List.forall_mem_append.mpr ⟨wsL_law_r22_lwin, List.forall_mem_append.mpr ⟨wsL_law_r23_lwin, wsL_law_r24_lwin⟩⟩⟩⟩⟩⟩⟩⟩⟩⟩⟩⟩⟩⟩⟩⟩⟩⟩⟩⟩⟩⟩⟩, wsX40_lwin⟩, wsX50_lwin⟩, wsX20_lwin⟩, wsX00_lwin⟩, wsX10_lwin⟩, wsX30_lwin⟩, (fun _ h => absurd h List.not_mem_nil)⟩
theorem inlX0 : ∀ w ∈ wsX00, w ∈ wsL_law := fun _ h => List.mem_append_left _ (List.mem_append_left _ (List.mem_append_left _ (List.mem_append_right _ h)))
theorem inX0 : ∀ w ∈ wsX00, w ∈ lw_tbl := fun w h => wsL_law_in w (inlX0 w h)
theorem inlX1 : ∀ w ∈ wsX10, w ∈ wsL_law := fun _ h => List.mem_append_left _ (List.mem_append_left _ (List.mem_append_right _ h))
theorem inX1 : ∀ w ∈ wsX10, w ∈ lw_tbl := fun w h => wsL_law_in w (inlX1 w h)
theorem inlX2 : ∀ w ∈ wsX20, w ∈ wsL_law := fun _ h => List.mem_append_left _ (List.mem_append_left _ (List.mem_append_left _ (List.mem_append_left _ (List.mem_append_right _ h))))
theorem inX2 : ∀ w ∈ wsX20, w ∈ lw_tbl := fun w h => wsL_law_in w (inlX2 w h)
theorem inlX3 : ∀ w ∈ wsX30, w ∈ wsL_law := fun _ h => List.mem_append_left _ (List.mem_append_right _ h)
theorem inX3 : ∀ w ∈ wsX30, w ∈ lw_tbl := fun w h => wsL_law_in w (inlX3 w h)
theorem inlX4 : ∀ w ∈ wsX40, w ∈ wsL_law := fun _ h => List.mem_append_left _ (List.mem_append_left _ (List.mem_append_left _ (List.mem_append_left _ (List.mem_append_left _ (List.mem_append_left _ (List.mem_append_right _ h))))))
theorem inX4 : ∀ w ∈ wsX40, w ∈ lw_tbl := fun w h => wsL_law_in w (inlX4 w h)
theorem inlX5 : ∀ w ∈ wsX50, w ∈ wsL_law := fun _ h => List.mem_append_left _ (List.mem_append_left _ (List.mem_append_left _ (List.mem_append_left _ (List.mem_append_left _ (List.mem_append_right _ h)))))
theorem inX5 : ∀ w ∈ wsX50, w ∈ lw_tbl := fun w h => wsL_law_in w (inlX5 w h)
theorem inJxe99ae : ∀ w ∈ wsJxe99ae0, w ∈ lw_tbl := by decide +kernel
theorem inJxf58ca : ∀ w ∈ wsJxf58ca0, w ∈ lw_tbl := by decide +kernel
theorem inJ9 : ∀ w ∈ wsJ90, w ∈ lw_tbl := by decide +kernel
theorem inJ10 : ∀ w ∈ wsJ100, w ∈ lw_tbl := by decide +kernel
end
section
theorem dX0_init_0 : decode cX0_init 0 = .ok (.aload_n 0, 1) := by decide +kernel
theorem dX0_init_1 : decode cX0_init 1 = .ok (.invokespecial 3, 3) := by decide +kernel
theorem dX0_init_4 : decode cX0_init 4 = .ok (.aload_n 0, 1) := by decide +kernel
theorem dX0_init_5 : decode cX0_init 5 = .ok (.bipush 7, 2) := by decide +kernel
theorem dX0_init_7 : decode cX0_init 7 = .ok (.anewarray 11, 3) := by decide +kernel
theorem dX0_init_10 : decode cX0_init 10 = .ok (.putfield 13, 3) := by decide +kernel
theorem dX0_init_13 : decode cX0_init 13 = .ok (.return_, 1) := by decide +kernel
set_option maxRecDepth 20000 in
theorem ggX0_prepare_X4_keepCopy : GoodIn wsX0_prepare wsX4_keepCopy := goodIn_r _ [6, 7, 8, 9, 10, 11, 12, 13, 14, 15, 16, 17, 18, 19, 20, 21, 22, 23, 24, 25, 26, 27, 28, 29, 30, 31, 32, 33, 34, 35, 36, 37, 38, 39, 40, 41, 42, 43, 44, 45, 46, 47, 48, 49, 50, 51, 55, 56, 57, 58, 59, 60, 61, 62] (by decide +kernel) (by decide +kernel)
set_option maxRecDepth 20000 in
theorem gX0_prepare_X4_keepCopy_n24 : GoodIn wsX0_prepare (wsX4_keepCopy) := ggX0_prepare_X4_keepCopy
theorem dX0_prepare_0 : decode cX0_prepare 0 = .ok (.aload_n 0, 1) := by decide +kernel
theorem dX0_prepare_1 : decode cX0_prepare 1 = .ok (.getfield 13, 3) := by decide +kernel
theorem dX0_prepare_4 : decode cX0_prepare 4 = .ok (.aload_n 0, 1) := by decide +kernel
theorem dX0_prepare_5 : decode cX0_prepare 5 = .ok (.getfield 17, 3) := by decide +kernel
theorem dX0_prepare_8 : decode cX0_prepare 8 = .ok (.aload_n 0, 1) := by decide +kernel
theorem dX0_prepare_9 : decode cX0_prepare 9 = .ok (.getfield 21, 3) := by decide +kernel
theorem dX0_prepare_12 : decode cX0_prepare 12 = .ok (.iadd, 1) := by decide +kernel
theorem dX0_prepare_13 : decode cX0_prepare 13 = .ok (.bipush 7, 2) := by decide +kernel
theorem dX0_prepare_15 : decode cX0_prepare 15 = .ok (.irem, 1) := by decide +kernel
theorem dX0_prepare_16 : decode cX0_prepare 16 = .ok (.aload_n 1, 1) := by decide +kernel
theorem dX0_prepare_17 : decode cX0_prepare 17 = .ok (.invokestatic 24, 3) := by decide +kernel
theorem dX0_prepare_20 : decode cX0_prepare 20 = .ok (.return_, 1) := by decide +kernel
theorem dX0_keepIfDone_0 : decode cX0_keepIfDone 0 = .ok (.iload_n 1, 1) := by decide +kernel
theorem dX0_keepIfDone_1 : decode cX0_keepIfDone 1 = .ok (.ifCond .lt 38, 3) := by decide +kernel
theorem dX0_keepIfDone_4 : decode cX0_keepIfDone 4 = .ok (.aload_n 0, 1) := by decide +kernel
theorem dX0_keepIfDone_5 : decode cX0_keepIfDone 5 = .ok (.getfield 21, 3) := by decide +kernel
theorem dX0_keepIfDone_8 : decode cX0_keepIfDone 8 = .ok (.bipush 6, 2) := by decide +kernel
theorem dX0_keepIfDone_10 : decode cX0_keepIfDone 10 = .ok (.if_icmp .ge 16, 3) := by decide +kernel
theorem dX0_keepIfDone_13 : decode cX0_keepIfDone 13 = .ok (.aload_n 0, 1) := by decide +kernel
theorem dX0_keepIfDone_14 : decode cX0_keepIfDone 14 = .ok (.dup, 1) := by decide +kernel
theorem dX0_keepIfDone_15 : decode cX0_keepIfDone 15 = .ok (.getfield 21, 3) := by decide +kernel
theorem dX0_keepIfDone_18 : decode cX0_keepIfDone 18 = .ok (.iconst 1, 1) := by decide +kernel
theorem dX0_keepIfDone_19 : decode cX0_keepIfDone 19 = .ok (.iadd, 1) := by decide +kernel
theorem dX0_keepIfDone_20 : decode cX0_keepIfDone 20 = .ok (.putfield 21, 3) := by decide +kernel
theorem dX0_keepIfDone_23 : decode cX0_keepIfDone 23 = .ok (.goto 16, 3) := by decide +kernel
theorem dX0_keepIfDone_26 : decode cX0_keepIfDone 26 = .ok (.aload_n 0, 1) := by decide +kernel
theorem dX0_keepIfDone_27 : decode cX0_keepIfDone 27 = .ok (.aload_n 0, 1) := by decide +kernel
theorem dX0_keepIfDone_28 : decode cX0_keepIfDone 28 = .ok (.getfield 17, 3) := by decide +kernel
theorem dX0_keepIfDone_31 : decode cX0_keepIfDone 31 = .ok (.iconst 1, 1) := by decide +kernel
theorem dX0_keepIfDone_32 : decode cX0_keepIfDone 32 = .ok (.iadd, 1) := by decide +kernel
theorem dX0_keepIfDone_33 : decode cX0_keepIfDone 33 = .ok (.bipush 7, 2) := by decide +kernel
theorem dX0_keepIfDone_35 : decode cX0_keepIfDone 35 = .ok (.irem, 1) := by decide +kernel
theorem dX0_keepIfDone_36 : decode cX0_keepIfDone 36 = .ok (.putfield 17, 3) := by decide +kernel
theorem dX0_keepIfDone_39 : decode cX0_keepIfDone 39 = .ok (.iload_n 1, 1) := by decide +kernel
theorem dX0_keepIfDone_40 : decode cX0_keepIfDone 40 = .ok (.ireturn, 1) := by decide +kernel
theorem dX0_takeLatest_0 : decode cX0_takeLatest 0 = .ok (.aload_n 0, 1) := by decide +kernel
theorem dX0_takeLatest_1 : decode cX0_takeLatest 1 = .ok (.getfield 21, 3) := by decide +kernel
theorem dX0_takeLatest_4 : decode cX0_takeLatest 4 = .ok (.ifCond .gt 5, 3) := by decide +kernel
theorem dX0_takeLatest_7 : decode cX0_takeLatest 7 = .ok (.aconst_null, 1) := by decide +kernel
theorem dX0_takeLatest_8 : decode cX0_takeLatest 8 = .ok (.areturn, 1) := by decide +kernel
theorem dX0_takeLatest_9 : decode cX0_takeLatest 9 = .ok (.aload_n 0, 1) := by decide +kernel
theorem dX0_takeLatest_10 : decode cX0_takeLatest 10 = .ok (.dup, 1) := by decide +kernel
theorem dX0_takeLatest_11 : decode cX0_takeLatest 11 = .ok (.getfield 21, 3) := by decide +kernel
theorem dX0_takeLatest_14 : decode cX0_takeLatest 14 = .ok (.iconst 1, 1) := by decide +kernel
theorem dX0_takeLatest_15 : decode cX0_takeLatest 15 = .ok (.isub, 1) := by decide +kernel
theorem dX0_takeLatest_16 : decode cX0_takeLatest 16 = .ok (.putfield 21, 3) := by decide +kernel
theorem dX0_takeLatest_19 : decode cX0_takeLatest 19 = .ok (.aload_n 0, 1) := by decide +kernel
theorem dX0_takeLatest_20 : decode cX0_takeLatest 20 = .ok (.getfield 13, 3) := by decide +kernel
theorem dX0_takeLatest_23 : decode cX0_takeLatest 23 = .ok (.aload_n 0, 1) := by decide +kernel
theorem dX0_takeLatest_24 : decode cX0_takeLatest 24 = .ok (.getfield 17, 3) := by decide +kernel
theorem dX0_takeLatest_27 : decode cX0_takeLatest 27 = .ok (.aload_n 0, 1) := by decide +kernel
theorem dX0_takeLatest_28 : decode cX0_takeLatest 28 = .ok (.getfield 21, 3) := by decide +kernel
theorem dX0_takeLatest_31 : decode cX0_takeLatest 31 = .ok (.iadd, 1) := by decide +kernel
theorem dX0_takeLatest_32 : decode cX0_takeLatest 32 = .ok (.bipush 7, 2) := by decide +kernel
theorem dX0_takeLatest_34 : decode cX0_takeLatest 34 = .ok (.irem, 1) := by decide +kernel
theorem dX0_takeLatest_35 : decode cX0_takeLatest 35 = .ok (.aaload, 1) := by decide +kernel
theorem dX0_takeLatest_36 : decode cX0_takeLatest 36 = .ok (.areturn, 1) := by decide +kernel
theorem dX1_init_0 : decode cX1_init 0 = .ok (.aload_n 0, 1) := by decide +kernel
theorem dX1_init_1 : decode cX1_init 1 = .ok (.invokespecial 3, 3) := by decide +kernel
theorem dX1_init_4 : decode cX1_init 4 = .ok (.aload_n 0, 1) := by decide +kernel
theorem dX1_init_5 : decode cX1_init 5 = .ok (.bipush 80, 2) := by decide +kernel
theorem dX1_init_7 : decode cX1_init 7 = .ok (.newarray .char, 2) := by decide +kernel
theorem dX1_init_9 : decode cX1_init 9 = .ok (.putfield 9, 3) := by decide +kernel
theorem dX1_init_12 : decode cX1_init 12 = .ok (.return_, 1) := by decide +kernel
theorem dX1_append_0 : decode cX1_append 0 = .ok (.iconst 0, 1) := by decide +kernel
theorem dX1_append_1 : decode cX1_append 1 = .ok (.istore 4, 2) := by decide +kernel
theorem dX1_append_3 : decode cX1_append 3 = .ok (.iload 4, 2) := by decide +kernel
theorem dX1_append_5 : decode cX1_append 5 = .ok (.iload_n 3, 1) := by decide +kernel
theorem dX1_append_6 : decode cX1_append 6 = .ok (.if_icmp .ge 54, 3) := by decide +kernel
theorem dX1_append_9 : decode cX1_append 9 = .ok (.aload_n 0, 1) := by decide +kernel
theorem dX1_append_10 : decode cX1_append 10 = .ok (.getfield 15, 3) := by decide +kernel
theorem dX1_append_13 : decode cX1_append 13 = .ok (.bipush 80, 2) := by decide +kernel
theorem dX1_append_15 : decode cX1_append 15 = .ok (.if_icmp .ge 45, 3) := by decide +kernel
theorem dX1_append_18 : decode cX1_append 18 = .ok (.aload_n 0, 1) := by decide +kernel
theorem dX1_append_19 : decode cX1_append 19 = .ok (.getfield 9, 3) := by decide +kernel
theorem dX1_append_22 : decode cX1_append 22 = .ok (.aload_n 0, 1) := by decide +kernel
theorem dX1_append_23 : decode cX1_append 23 = .ok (.getfield 15, 3) := by decide +kernel
theorem dX1_append_26 : decode cX1_append 26 = .ok (.lload_n 1, 1) := by decide +kernel
theorem dX1_append_27 : decode cX1_append 27 = .ok (.bipush 8, 2) := by decide +kernel
theorem dX1_append_29 : decode cX1_append 29 = .ok (.iload_n 3, 1) := by decide +kernel
theorem dX1_append_30 : decode cX1_append 30 = .ok (.iconst 1, 1) := by decide +kernel
theorem dX1_append_31 : decode cX1_append 31 = .ok (.isub, 1) := by decide +kernel
theorem dX1_append_32 : decode cX1_append 32 = .ok (.iload 4, 2) := by decide +kernel
theorem dX1_append_34 : decode cX1_append 34 = .ok (.isub, 1) := by decide +kernel
theorem dX1_append_35 : decode cX1_append 35 = .ok (.imul, 1) := by decide +kernel
theorem dX1_append_36 : decode cX1_append 36 = .ok (.lushr, 1) := by decide +kernel
theorem dX1_append_37 : decode cX1_append 37 = .ok (.ldc2_w 19, 3) := by decide +kernel
theorem dX1_append_40 : decode cX1_append 40 = .ok (.land, 1) := by decide +kernel
theorem dX1_append_41 : decode cX1_append 41 = .ok (.l2i, 1) := by decide +kernel
theorem dX1_append_42 : decode cX1_append 42 = .ok (.i2c, 1) := by decide +kernel
theorem dX1_append_43 : decode cX1_append 43 = .ok (.castore, 1) := by decide +kernel
theorem dX1_append_44 : decode cX1_append 44 = .ok (.aload_n 0, 1) := by decide +kernel
theorem dX1_append_45 : decode cX1_append 45 = .ok (.dup, 1) := by decide +kernel
theorem dX1_append_46 : decode cX1_append 46 = .ok (.getfield 15, 3) := by decide +kernel
theorem dX1_append_49 : decode cX1_append 49 = .ok (.iconst 1, 1) := by decide +kernel
theorem dX1_append_50 : decode cX1_append 50 = .ok (.iadd, 1) := by decide +kernel
theorem dX1_append_51 : decode cX1_append 51 = .ok (.putfield 15, 3) := by decide +kernel
theorem dX1_append_54 : decode cX1_append 54 = .ok (.iinc 4 1, 3) := by decide +kernel
theorem dX1_append_57 : decode cX1_append 57 = .ok (.goto (-54), 3) := by decide +kernel
theorem dX1_append_60 : decode cX1_append 60 = .ok (.return_, 1) := by decide +kernel
set_option maxRecDepth 20000 in
theorem ggX1_findFault_X1_readOrder : GoodIn wsX1_findFault wsX1_readOrder := goodIn_r _ [7, 8, 1, 9, 10, 11, 12, 13, 6, 14, 2, 15, 16, 17, 18, 19, 20, 21, 22, 23, 24, 25, 26, 27, 28, 29, 30, 31, 32, 33, 34, 35] (by decide +kernel) (by decide +kernel)
set_option maxRecDepth 20000 in
theorem gX1_findFault_X1_readOrder : GoodIn wsX1_findFault (wsV RX1 24 RX1 yX1_readOrder wsX1_readOrder) := goodIn_app (goodIn_of _ (by decide +kernel)) ggX1_findFault_X1_readOrder
set_option maxRecDepth 20000 in
theorem ggX1_findFault_X1_readSign : GoodIn wsX1_findFault wsX1_readSign := goodIn_r _ [29, 1, 11, 12, 13, 6, 14, 2, 15, 30, 31, 32, 33, 34, 35] (by decide +kernel) (by decide +kernel)
set_option maxRecDepth 20000 in
theorem gX1_findFault_X1_readSign : GoodIn wsX1_findFault (wsV RX1 28 RX1 yX1_readSign wsX1_readSign) := goodIn_app (goodIn_of _ (by decide +kernel)) ggX1_findFault_X1_readSign
theorem dX1_findFault_0 : decode cX1_findFault 0 = .ok (.aload_n 0, 1) := by decide +kernel
theorem dX1_findFault_1 : decode cX1_findFault 1 = .ok (.iconst 0, 1) := by decide +kernel
theorem dX1_findFault_2 : decode cX1_findFault 2 = .ok (.putfield 21, 3) := by decide +kernel
theorem dX1_findFault_5 : decode cX1_findFault 5 = .ok (.iconst 0, 1) := by decide +kernel
theorem dX1_findFault_6 : decode cX1_findFault 6 = .ok (.istore_n 1, 1) := by decide +kernel
theorem dX1_findFault_7 : decode cX1_findFault 7 = .ok (.iload_n 1, 1) := by decide +kernel
theorem dX1_findFault_8 : decode cX1_findFault 8 = .ok (.bipush 80, 2) := by decide +kernel
theorem dX1_findFault_10 : decode cX1_findFault 10 = .ok (.if_icmp .ge 33, 3) := by decide +kernel
theorem dX1_findFault_13 : decode cX1_findFault 13 = .ok (.aload_n 0, 1) := by decide +kernel
theorem dX1_findFault_14 : decode cX1_findFault 14 = .ok (.invokevirtual 24, 3) := by decide +kernel
theorem dX1_findFault_17 : decode cX1_findFault 17 = .ok (.ifCond .ne 8, 3) := by decide +kernel
theorem dX1_findFault_20 : decode cX1_findFault 20 = .ok (.aload_n 0, 1) := by decide +kernel
theorem dX1_findFault_21 : decode cX1_findFault 21 = .ok (.getfield 21, 3) := by decide +kernel
theorem dX1_findFault_24 : decode cX1_findFault 24 = .ok (.ireturn, 1) := by decide +kernel
theorem dX1_findFault_25 : decode cX1_findFault 25 = .ok (.aload_n 0, 1) := by decide +kernel
theorem dX1_findFault_26 : decode cX1_findFault 26 = .ok (.bipush 59, 2) := by decide +kernel
theorem dX1_findFault_28 : decode cX1_findFault 28 = .ok (.invokevirtual 28, 3) := by decide +kernel
theorem dX1_findFault_31 : decode cX1_findFault 31 = .ok (.ifCond .ne 6, 3) := by decide +kernel
theorem dX1_findFault_34 : decode cX1_findFault 34 = .ok (.goto 9, 3) := by decide +kernel
theorem dX1_findFault_37 : decode cX1_findFault 37 = .ok (.iinc 1 1, 3) := by decide +kernel
theorem dX1_findFault_40 : decode cX1_findFault 40 = .ok (.goto (-33), 3) := by decide +kernel
theorem dX1_findFault_43 : decode cX1_findFault 43 = .ok (.aload_n 0, 1) := by decide +kernel
theorem dX1_findFault_44 : decode cX1_findFault 44 = .ok (.getfield 21, 3) := by decide +kernel
theorem dX1_findFault_47 : decode cX1_findFault 47 = .ok (.aload_n 0, 1) := by decide +kernel
theorem dX1_findFault_48 : decode cX1_findFault 48 = .ok (.getfield 15, 3) := by decide +kernel
theorem dX1_findFault_51 : decode cX1_findFault 51 = .ok (.if_icmp .ne 8, 3) := by decide +kernel
theorem dX1_findFault_54 : decode cX1_findFault 54 = .ok (.bipush (-6), 2) := by decide +kernel
theorem dX1_findFault_56 : decode cX1_findFault 56 = .ok (.goto 7, 3) := by decide +kernel
theorem dX1_findFault_59 : decode cX1_findFault 59 = .ok (.aload_n 0, 1) := by decide +kernel
theorem dX1_findFault_60 : decode cX1_findFault 60 = .ok (.getfield 21, 3) := by decide +kernel
theorem dX1_findFault_63 : decode cX1_findFault 63 = .ok (.ireturn, 1) := by decide +kernel
set_option maxRecDepth 20000 in
theorem ggX1_readOrder_X1_look : GoodIn wsX1_readOrder wsX1_look := goodIn_r _ [9, 2, 10, 11, 26, 27, 28, 29, 30, 31] (by decide +kernel) (by decide +kernel)
set_option maxRecDepth 20000 in
theorem gX1_readOrder_X1_look : GoodIn wsX1_readOrder (wsV RX1 32 RX1 yX1_look wsX1_look) := goodIn_app (goodIn_of _ (by decide +kernel)) ggX1_readOrder_X1_look
set_option maxRecDepth 20000 in
theorem ggX1_readOrder_X1_isOrder : GoodIn wsX1_readOrder wsX1_isOrder := goodIn_r _ [14] (by decide +kernel) (by decide +kernel)
set_option maxRecDepth 20000 in
theorem gX1_readOrder_X1_isOrder : GoodIn wsX1_readOrder (va_wsS RX1 40 yX1_isOrder wsX1_isOrder) := goodIn_app (goodIn_of _ (by decide +kernel)) ggX1_readOrder_X1_isOrder
set_option maxRecDepth 20000 in
theorem ggX1_readOrder_X1_readNumber : GoodIn wsX1_readOrder wsX1_readNumber := goodIn_r _ [18, 2, 5, 6, 7, 8, 9, 10, 11, 19, 20, 21, 26, 27, 28, 29, 30, 31] (by decide +kernel) (by decide +kernel)
set_option maxRecDepth 20000 in
theorem gX1_readOrder_X1_readNumber : GoodIn wsX1_readOrder (wsV RX1 43 RX1 yX1_readNumber wsX1_readNumber) := goodIn_app (goodIn_of _ (by decide +kernel)) ggX1_readOrder_X1_readNumber
set_option maxRecDepth 20000 in
theorem ggX1_readOrder_X1_readSign : GoodIn wsX1_readOrder wsX1_readSign := goodIn_r _ [25, 2, 5, 6, 7, 8, 9, 10, 11, 26, 27, 28, 29, 30, 31] (by decide +kernel) (by decide +kernel)
set_option maxRecDepth 20000 in
theorem gX1_readOrder_X1_readSign : GoodIn wsX1_readOrder (wsV RX1 28 RX1 yX1_readSign wsX1_readSign) := goodIn_app (goodIn_of _ (by decide +kernel)) ggX1_readOrder_X1_readSign
theorem dX1_readOrder_0 : decode cX1_readOrder 0 = .ok (.aload_n 0, 1) := by decide +kernel
theorem dX1_readOrder_1 : decode cX1_readOrder 1 = .ok (.aload_n 0, 1) := by decide +kernel
theorem dX1_readOrder_2 : decode cX1_readOrder 2 = .ok (.invokevirtual 32, 3) := by decide +kernel
theorem dX1_readOrder_5 : decode cX1_readOrder 5 = .ok (.putfield 36, 3) := by decide +kernel
theorem dX1_readOrder_8 : decode cX1_readOrder 8 = .ok (.aload_n 0, 1) := by decide +kernel
theorem dX1_readOrder_9 : decode cX1_readOrder 9 = .ok (.getfield 36, 3) := by decide +kernel
theorem dX1_readOrder_12 : decode cX1_readOrder 12 = .ok (.invokestatic 40, 3) := by decide +kernel
theorem dX1_readOrder_15 : decode cX1_readOrder 15 = .ok (.ifCond .ne 5, 3) := by decide +kernel
theorem dX1_readOrder_18 : decode cX1_readOrder 18 = .ok (.iconst 0, 1) := by decide +kernel
theorem dX1_readOrder_19 : decode cX1_readOrder 19 = .ok (.ireturn, 1) := by decide +kernel
theorem dX1_readOrder_20 : decode cX1_readOrder 20 = .ok (.aload_n 0, 1) := by decide +kernel
theorem dX1_readOrder_21 : decode cX1_readOrder 21 = .ok (.dup, 1) := by decide +kernel
theorem dX1_readOrder_22 : decode cX1_readOrder 22 = .ok (.getfield 21, 3) := by decide +kernel
theorem dX1_readOrder_25 : decode cX1_readOrder 25 = .ok (.iconst 1, 1) := by decide +kernel
theorem dX1_readOrder_26 : decode cX1_readOrder 26 = .ok (.iadd, 1) := by decide +kernel
theorem dX1_readOrder_27 : decode cX1_readOrder 27 = .ok (.putfield 21, 3) := by decide +kernel
theorem dX1_readOrder_30 : decode cX1_readOrder 30 = .ok (.aload_n 0, 1) := by decide +kernel
theorem dX1_readOrder_31 : decode cX1_readOrder 31 = .ok (.aload_n 0, 1) := by decide +kernel
theorem dX1_readOrder_32 : decode cX1_readOrder 32 = .ok (.invokevirtual 43, 3) := by decide +kernel
theorem dX1_readOrder_35 : decode cX1_readOrder 35 = .ok (.putfield 47, 3) := by decide +kernel
theorem dX1_readOrder_38 : decode cX1_readOrder 38 = .ok (.aload_n 0, 1) := by decide +kernel
theorem dX1_readOrder_39 : decode cX1_readOrder 39 = .ok (.iconst 0, 1) := by decide +kernel
theorem dX1_readOrder_40 : decode cX1_readOrder 40 = .ok (.putfield 50, 3) := by decide +kernel
theorem dX1_readOrder_43 : decode cX1_readOrder 43 = .ok (.aload_n 0, 1) := by decide +kernel
theorem dX1_readOrder_44 : decode cX1_readOrder 44 = .ok (.getfield 36, 3) := by decide +kernel
theorem dX1_readOrder_47 : decode cX1_readOrder 47 = .ok (.bipush 118, 2) := by decide +kernel
theorem dX1_readOrder_49 : decode cX1_readOrder 49 = .ok (.if_icmp .ne 10, 3) := by decide +kernel
theorem dX1_readOrder_52 : decode cX1_readOrder 52 = .ok (.aload_n 0, 1) := by decide +kernel
theorem dX1_readOrder_53 : decode cX1_readOrder 53 = .ok (.getfield 47, 3) := by decide +kernel
theorem dX1_readOrder_56 : decode cX1_readOrder 56 = .ok (.ifCond .ge 16, 3) := by decide +kernel
theorem dX1_readOrder_59 : decode cX1_readOrder 59 = .ok (.aload_n 0, 1) := by decide +kernel
theorem dX1_readOrder_60 : decode cX1_readOrder 60 = .ok (.getfield 47, 3) := by decide +kernel
theorem dX1_readOrder_63 : decode cX1_readOrder 63 = .ok (.ifCond .lt 7, 3) := by decide +kernel
theorem dX1_readOrder_66 : decode cX1_readOrder 66 = .ok (.iconst 1, 1) := by decide +kernel
theorem dX1_readOrder_67 : decode cX1_readOrder 67 = .ok (.goto 4, 3) := by decide +kernel
theorem dX1_readOrder_70 : decode cX1_readOrder 70 = .ok (.iconst 0, 1) := by decide +kernel
theorem dX1_readOrder_71 : decode cX1_readOrder 71 = .ok (.ireturn, 1) := by decide +kernel
theorem dX1_readOrder_72 : decode cX1_readOrder 72 = .ok (.aload_n 0, 1) := by decide +kernel
theorem dX1_readOrder_73 : decode cX1_readOrder 73 = .ok (.bipush 61, 2) := by decide +kernel
theorem dX1_readOrder_75 : decode cX1_readOrder 75 = .ok (.invokevirtual 28, 3) := by decide +kernel
theorem dX1_readOrder_78 : decode cX1_readOrder 78 = .ok (.ifCond .ne 5, 3) := by decide +kernel
theorem dX1_readOrder_81 : decode cX1_readOrder 81 = .ok (.iconst 0, 1) := by decide +kernel
theorem dX1_readOrder_82 : decode cX1_readOrder 82 = .ok (.ireturn, 1) := by decide +kernel
theorem dX1_readOrder_83 : decode cX1_readOrder 83 = .ok (.aload_n 0, 1) := by decide +kernel
theorem dX1_readOrder_84 : decode cX1_readOrder 84 = .ok (.aload_n 0, 1) := by decide +kernel
theorem dX1_readOrder_85 : decode cX1_readOrder 85 = .ok (.invokevirtual 43, 3) := by decide +kernel
theorem dX1_readOrder_88 : decode cX1_readOrder 88 = .ok (.putfield 50, 3) := by decide +kernel
theorem dX1_readOrder_91 : decode cX1_readOrder 91 = .ok (.aload_n 0, 1) := by decide +kernel
theorem dX1_readOrder_92 : decode cX1_readOrder 92 = .ok (.getfield 50, 3) := by decide +kernel
theorem dX1_readOrder_95 : decode cX1_readOrder 95 = .ok (.ifCond .lt 7, 3) := by decide +kernel
theorem dX1_readOrder_98 : decode cX1_readOrder 98 = .ok (.iconst 1, 1) := by decide +kernel
theorem dX1_readOrder_99 : decode cX1_readOrder 99 = .ok (.goto 4, 3) := by decide +kernel
theorem dX1_readOrder_102 : decode cX1_readOrder 102 = .ok (.iconst 0, 1) := by decide +kernel
theorem dX1_readOrder_103 : decode cX1_readOrder 103 = .ok (.ireturn, 1) := by decide +kernel
set_option maxRecDepth 20000 in
theorem ggX1_readSign_X1_look : GoodIn wsX1_readSign wsX1_look := goodIn_r _ [6, 1, 7, 8, 9, 10, 11, 12, 13, 14] (by decide +kernel) (by decide +kernel)
set_option maxRecDepth 20000 in
theorem gX1_readSign_X1_look : GoodIn wsX1_readSign (wsV RX1 32 RX1 yX1_look wsX1_look) := goodIn_app (goodIn_of _ (by decide +kernel)) ggX1_readSign_X1_look
theorem dX1_readSign_0 : decode cX1_readSign 0 = .ok (.aload_n 0, 1) := by decide +kernel
theorem dX1_readSign_1 : decode cX1_readSign 1 = .ok (.invokevirtual 32, 3) := by decide +kernel
theorem dX1_readSign_4 : decode cX1_readSign 4 = .ok (.iload_n 1, 1) := by decide +kernel
theorem dX1_readSign_5 : decode cX1_readSign 5 = .ok (.if_icmp .eq 5, 3) := by decide +kernel
theorem dX1_readSign_8 : decode cX1_readSign 8 = .ok (.iconst 0, 1) := by decide +kernel
theorem dX1_readSign_9 : decode cX1_readSign 9 = .ok (.ireturn, 1) := by decide +kernel
theorem dX1_readSign_10 : decode cX1_readSign 10 = .ok (.aload_n 0, 1) := by decide +kernel
theorem dX1_readSign_11 : decode cX1_readSign 11 = .ok (.dup, 1) := by decide +kernel
theorem dX1_readSign_12 : decode cX1_readSign 12 = .ok (.getfield 21, 3) := by decide +kernel
theorem dX1_readSign_15 : decode cX1_readSign 15 = .ok (.iconst 1, 1) := by decide +kernel
theorem dX1_readSign_16 : decode cX1_readSign 16 = .ok (.iadd, 1) := by decide +kernel
theorem dX1_readSign_17 : decode cX1_readSign 17 = .ok (.putfield 21, 3) := by decide +kernel
theorem dX1_readSign_20 : decode cX1_readSign 20 = .ok (.iconst 1, 1) := by decide +kernel
theorem dX1_readSign_21 : decode cX1_readSign 21 = .ok (.ireturn, 1) := by decide +kernel
set_option maxRecDepth 20000 in
theorem ggX1_readNumber_X1_look : GoodIn wsX1_readNumber wsX1_look := goodIn_r _ [6, 1, 7, 8, 12, 13, 14, 15, 16, 17] (by decide +kernel) (by decide +kernel)
set_option maxRecDepth 20000 in
theorem gX1_readNumber_X1_look : GoodIn wsX1_readNumber (wsV RX1 32 RX1 yX1_look wsX1_look) := goodIn_app (goodIn_of _ (by decide +kernel)) ggX1_readNumber_X1_look
set_option maxRecDepth 20000 in
theorem ggX1_readNumber_X1_isDigit : GoodIn wsX1_readNumber wsX1_isDigit := goodIn_r _ [11] (by decide +kernel) (by decide +kernel)
set_option maxRecDepth 20000 in
theorem gX1_readNumber_X1_isDigit : GoodIn wsX1_readNumber (va_wsS RX1 53 yX1_isDigit wsX1_isDigit) := goodIn_app (goodIn_of _ (by decide +kernel)) ggX1_readNumber_X1_isDigit
theorem dX1_readNumber_0 : decode cX1_readNumber 0 = .ok (.aload_n 0, 1) := by decide +kernel
theorem dX1_readNumber_1 : decode cX1_readNumber 1 = .ok (.invokevirtual 32, 3) := by decide +kernel
theorem dX1_readNumber_4 : decode cX1_readNumber 4 = .ok (.invokestatic 53, 3) := by decide +kernel
theorem dX1_readNumber_7 : decode cX1_readNumber 7 = .ok (.ifCond .ne 6, 3) := by decide +kernel
theorem dX1_readNumber_10 : decode cX1_readNumber 10 = .ok (.bipush (-6), 2) := by decide +kernel
theorem dX1_readNumber_12 : decode cX1_readNumber 12 = .ok (.ireturn, 1) := by decide +kernel
theorem dX1_readNumber_13 : decode cX1_readNumber 13 = .ok (.aload_n 0, 1) := by decide +kernel
theorem dX1_readNumber_14 : decode cX1_readNumber 14 = .ok (.invokevirtual 32, 3) := by decide +kernel
theorem dX1_readNumber_17 : decode cX1_readNumber 17 = .ok (.bipush 48, 2) := by decide +kernel
theorem dX1_readNumber_19 : decode cX1_readNumber 19 = .ok (.isub, 1) := by decide +kernel
theorem dX1_readNumber_20 : decode cX1_readNumber 20 = .ok (.istore_n 1, 1) := by decide +kernel
theorem dX1_readNumber_21 : decode cX1_readNumber 21 = .ok (.aload_n 0, 1) := by decide +kernel
theorem dX1_readNumber_22 : decode cX1_readNumber 22 = .ok (.dup, 1) := by decide +kernel
theorem dX1_readNumber_23 : decode cX1_readNumber 23 = .ok (.getfield 21, 3) := by decide +kernel
theorem dX1_readNumber_26 : decode cX1_readNumber 26 = .ok (.iconst 1, 1) := by decide +kernel
theorem dX1_readNumber_27 : decode cX1_readNumber 27 = .ok (.iadd, 1) := by decide +kernel
theorem dX1_readNumber_28 : decode cX1_readNumber 28 = .ok (.putfield 21, 3) := by decide +kernel
theorem dX1_readNumber_31 : decode cX1_readNumber 31 = .ok (.iconst 1, 1) := by decide +kernel
theorem dX1_readNumber_32 : decode cX1_readNumber 32 = .ok (.istore_n 2, 1) := by decide +kernel
theorem dX1_readNumber_33 : decode cX1_readNumber 33 = .ok (.iload_n 2, 1) := by decide +kernel
theorem dX1_readNumber_34 : decode cX1_readNumber 34 = .ok (.iconst 3, 1) := by decide +kernel
theorem dX1_readNumber_35 : decode cX1_readNumber 35 = .ok (.if_icmp .ge 46, 3) := by decide +kernel
theorem dX1_readNumber_38 : decode cX1_readNumber 38 = .ok (.iload_n 1, 1) := by decide +kernel
theorem dX1_readNumber_39 : decode cX1_readNumber 39 = .ok (.ifCond .le 42, 3) := by decide +kernel
theorem dX1_readNumber_42 : decode cX1_readNumber 42 = .ok (.aload_n 0, 1) := by decide +kernel
theorem dX1_readNumber_43 : decode cX1_readNumber 43 = .ok (.invokevirtual 32, 3) := by decide +kernel
theorem dX1_readNumber_46 : decode cX1_readNumber 46 = .ok (.invokestatic 53, 3) := by decide +kernel
theorem dX1_readNumber_49 : decode cX1_readNumber 49 = .ok (.ifCond .eq 32, 3) := by decide +kernel
theorem dX1_readNumber_52 : decode cX1_readNumber 52 = .ok (.bipush 10, 2) := by decide +kernel
theorem dX1_readNumber_54 : decode cX1_readNumber 54 = .ok (.iload_n 1, 1) := by decide +kernel
theorem dX1_readNumber_55 : decode cX1_readNumber 55 = .ok (.imul, 1) := by decide +kernel
theorem dX1_readNumber_56 : decode cX1_readNumber 56 = .ok (.aload_n 0, 1) := by decide +kernel
theorem dX1_readNumber_57 : decode cX1_readNumber 57 = .ok (.invokevirtual 32, 3) := by decide +kernel
theorem dX1_readNumber_60 : decode cX1_readNumber 60 = .ok (.iadd, 1) := by decide +kernel
theorem dX1_readNumber_61 : decode cX1_readNumber 61 = .ok (.bipush 48, 2) := by decide +kernel
theorem dX1_readNumber_63 : decode cX1_readNumber 63 = .ok (.isub, 1) := by decide +kernel
theorem dX1_readNumber_64 : decode cX1_readNumber 64 = .ok (.istore_n 1, 1) := by decide +kernel
theorem dX1_readNumber_65 : decode cX1_readNumber 65 = .ok (.aload_n 0, 1) := by decide +kernel
theorem dX1_readNumber_66 : decode cX1_readNumber 66 = .ok (.dup, 1) := by decide +kernel
theorem dX1_readNumber_67 : decode cX1_readNumber 67 = .ok (.getfield 21, 3) := by decide +kernel
theorem dX1_readNumber_70 : decode cX1_readNumber 70 = .ok (.iconst 1, 1) := by decide +kernel
theorem dX1_readNumber_71 : decode cX1_readNumber 71 = .ok (.iadd, 1) := by decide +kernel
theorem dX1_readNumber_72 : decode cX1_readNumber 72 = .ok (.putfield 21, 3) := by decide +kernel
theorem dX1_readNumber_75 : decode cX1_readNumber 75 = .ok (.iinc 2 1, 3) := by decide +kernel
theorem dX1_readNumber_78 : decode cX1_readNumber 78 = .ok (.goto (-45), 3) := by decide +kernel
theorem dX1_readNumber_81 : decode cX1_readNumber 81 = .ok (.iload_n 1, 1) := by decide +kernel
theorem dX1_readNumber_82 : decode cX1_readNumber 82 = .ok (.ireturn, 1) := by decide +kernel
theorem dX1_look_0 : decode cX1_look 0 = .ok (.aload_n 0, 1) := by decide +kernel
theorem dX1_look_1 : decode cX1_look 1 = .ok (.getfield 21, 3) := by decide +kernel
theorem dX1_look_4 : decode cX1_look 4 = .ok (.ifCond .lt 35, 3) := by decide +kernel
theorem dX1_look_7 : decode cX1_look 7 = .ok (.aload_n 0, 1) := by decide +kernel
theorem dX1_look_8 : decode cX1_look 8 = .ok (.getfield 21, 3) := by decide +kernel
theorem dX1_look_11 : decode cX1_look 11 = .ok (.aload_n 0, 1) := by decide +kernel
theorem dX1_look_12 : decode cX1_look 12 = .ok (.getfield 15, 3) := by decide +kernel
theorem dX1_look_15 : decode cX1_look 15 = .ok (.if_icmp .ge 24, 3) := by decide +kernel
theorem dX1_look_18 : decode cX1_look 18 = .ok (.aload_n 0, 1) := by decide +kernel
theorem dX1_look_19 : decode cX1_look 19 = .ok (.getfield 21, 3) := by decide +kernel
theorem dX1_look_22 : decode cX1_look 22 = .ok (.bipush 80, 2) := by decide +kernel
theorem dX1_look_24 : decode cX1_look 24 = .ok (.if_icmp .ge 15, 3) := by decide +kernel
theorem dX1_look_27 : decode cX1_look 27 = .ok (.aload_n 0, 1) := by decide +kernel
theorem dX1_look_28 : decode cX1_look 28 = .ok (.getfield 9, 3) := by decide +kernel
theorem dX1_look_31 : decode cX1_look 31 = .ok (.aload_n 0, 1) := by decide +kernel
theorem dX1_look_32 : decode cX1_look 32 = .ok (.getfield 21, 3) := by decide +kernel
theorem dX1_look_35 : decode cX1_look 35 = .ok (.caload, 1) := by decide +kernel
theorem dX1_look_36 : decode cX1_look 36 = .ok (.goto 4, 3) := by decide +kernel
theorem dX1_look_39 : decode cX1_look 39 = .ok (.iconst 0, 1) := by decide +kernel
theorem dX1_look_40 : decode cX1_look 40 = .ok (.ireturn, 1) := by decide +kernel
theorem dX1_isOrder_0 : decode cX1_isOrder 0 = .ok (.iload_n 0, 1) := by decide +kernel
theorem dX1_isOrder_1 : decode cX1_isOrder 1 = .ok (.bipush 105, 2) := by decide +kernel
theorem dX1_isOrder_3 : decode cX1_isOrder 3 = .ok (.if_icmp .eq 33, 3) := by decide +kernel
theorem dX1_isOrder_6 : decode cX1_isOrder 6 = .ok (.iload_n 0, 1) := by decide +kernel
theorem dX1_isOrder_7 : decode cX1_isOrder 7 = .ok (.bipush 111, 2) := by decide +kernel
theorem dX1_isOrder_9 : decode cX1_isOrder 9 = .ok (.if_icmp .eq 27, 3) := by decide +kernel
theorem dX1_isOrder_12 : decode cX1_isOrder 12 = .ok (.iload_n 0, 1) := by decide +kernel
theorem dX1_isOrder_13 : decode cX1_isOrder 13 = .ok (.bipush 118, 2) := by decide +kernel
theorem dX1_isOrder_15 : decode cX1_isOrder 15 = .ok (.if_icmp .eq 21, 3) := by decide +kernel
theorem dX1_isOrder_18 : decode cX1_isOrder 18 = .ok (.iload_n 0, 1) := by decide +kernel
theorem dX1_isOrder_19 : decode cX1_isOrder 19 = .ok (.bipush 116, 2) := by decide +kernel
theorem dX1_isOrder_21 : decode cX1_isOrder 21 = .ok (.if_icmp .eq 15, 3) := by decide +kernel
theorem dX1_isOrder_24 : decode cX1_isOrder 24 = .ok (.iload_n 0, 1) := by decide +kernel
theorem dX1_isOrder_25 : decode cX1_isOrder 25 = .ok (.bipush 60, 2) := by decide +kernel
theorem dX1_isOrder_27 : decode cX1_isOrder 27 = .ok (.if_icmp .eq 9, 3) := by decide +kernel
theorem dX1_isOrder_30 : decode cX1_isOrder 30 = .ok (.iload_n 0, 1) := by decide +kernel
theorem dX1_isOrder_31 : decode cX1_isOrder 31 = .ok (.bipush 62, 2) := by decide +kernel
theorem dX1_isOrder_33 : decode cX1_isOrder 33 = .ok (.if_icmp .ne 7, 3) := by decide +kernel
theorem dX1_isOrder_36 : decode cX1_isOrder 36 = .ok (.iconst 1, 1) := by decide +kernel
theorem dX1_isOrder_37 : decode cX1_isOrder 37 = .ok (.goto 4, 3) := by decide +kernel
theorem dX1_isOrder_40 : decode cX1_isOrder 40 = .ok (.iconst 0, 1) := by decide +kernel
theorem dX1_isOrder_41 : decode cX1_isOrder 41 = .ok (.ireturn, 1) := by decide +kernel
theorem dX1_isDigit_0 : decode cX1_isDigit 0 = .ok (.iload_n 0, 1) := by decide +kernel
theorem dX1_isDigit_1 : decode cX1_isDigit 1 = .ok (.bipush 48, 2) := by decide +kernel
theorem dX1_isDigit_3 : decode cX1_isDigit 3 = .ok (.if_icmp .lt 13, 3) := by decide +kernel
theorem dX1_isDigit_6 : decode cX1_isDigit 6 = .ok (.iload_n 0, 1) := by decide +kernel
theorem dX1_isDigit_7 : decode cX1_isDigit 7 = .ok (.bipush 57, 2) := by decide +kernel
theorem dX1_isDigit_9 : decode cX1_isDigit 9 = .ok (.if_icmp .gt 7, 3) := by decide +kernel
theorem dX1_isDigit_12 : decode cX1_isDigit 12 = .ok (.iconst 1, 1) := by decide +kernel
theorem dX1_isDigit_13 : decode cX1_isDigit 13 = .ok (.goto 4, 3) := by decide +kernel
theorem dX1_isDigit_16 : decode cX1_isDigit 16 = .ok (.iconst 0, 1) := by decide +kernel
theorem dX1_isDigit_17 : decode cX1_isDigit 17 = .ok (.ireturn, 1) := by decide +kernel
set_option maxRecDepth 20000 in
theorem ggX2_init_X3_init : GoodIn wsX2_init wsX3_init := goodIn_r _ [15, 16, 2, 3, 17, 18, 19, 20, 21, 4, 22, 29, 30] (by decide +kernel) (by decide +kernel)
set_option maxRecDepth 20000 in
theorem gX2_init_X3_init : GoodIn wsX2_init (wsX3_init) := ggX2_init_X3_init
theorem dX2_init_0 : decode cX2_init 0 = .ok (.aload_n 0, 1) := by decide +kernel
theorem dX2_init_1 : decode cX2_init 1 = .ok (.invokespecial 3, 3) := by decide +kernel
theorem dX2_init_4 : decode cX2_init 4 = .ok (.aload_n 0, 1) := by decide +kernel
theorem dX2_init_5 : decode cX2_init 5 = .ok (.bipush 24, 2) := by decide +kernel
theorem dX2_init_7 : decode cX2_init 7 = .ok (.newarray .int, 2) := by decide +kernel
theorem dX2_init_9 : decode cX2_init 9 = .ok (.putfield 9, 3) := by decide +kernel
theorem dX2_init_12 : decode cX2_init 12 = .ok (.aload_n 0, 1) := by decide +kernel
theorem dX2_init_13 : decode cX2_init 13 = .ok (.bipush 16, 2) := by decide +kernel
theorem dX2_init_15 : decode cX2_init 15 = .ok (.newarray .int, 2) := by decide +kernel
theorem dX2_init_17 : decode cX2_init 17 = .ok (.putfield 15, 3) := by decide +kernel
theorem dX2_init_20 : decode cX2_init 20 = .ok (.aload_n 0, 1) := by decide +kernel
theorem dX2_init_21 : decode cX2_init 21 = .ok (.new 18, 3) := by decide +kernel
theorem dX2_init_24 : decode cX2_init 24 = .ok (.dup, 1) := by decide +kernel
theorem dX2_init_25 : decode cX2_init 25 = .ok (.bipush 17, 2) := by decide +kernel
theorem dX2_init_27 : decode cX2_init 27 = .ok (.iconst 4, 1) := by decide +kernel
theorem dX2_init_28 : decode cX2_init 28 = .ok (.iconst 0, 1) := by decide +kernel
theorem dX2_init_29 : decode cX2_init 29 = .ok (.invokespecial 20, 3) := by decide +kernel
theorem dX2_init_32 : decode cX2_init 32 = .ok (.putfield 23, 3) := by decide +kernel
theorem dX2_init_35 : decode cX2_init 35 = .ok (.aload_n 0, 1) := by decide +kernel
theorem dX2_init_36 : decode cX2_init 36 = .ok (.new 18, 3) := by decide +kernel
theorem dX2_init_39 : decode cX2_init 39 = .ok (.dup, 1) := by decide +kernel
theorem dX2_init_40 : decode cX2_init 40 = .ok (.bipush 32, 2) := by decide +kernel
theorem dX2_init_42 : decode cX2_init 42 = .ok (.iconst 3, 1) := by decide +kernel
theorem dX2_init_43 : decode cX2_init 43 = .ok (.bipush (-6), 2) := by decide +kernel
theorem dX2_init_45 : decode cX2_init 45 = .ok (.invokespecial 20, 3) := by decide +kernel
theorem dX2_init_48 : decode cX2_init 48 = .ok (.putfield 27, 3) := by decide +kernel
theorem dX2_init_51 : decode cX2_init 51 = .ok (.aload_n 0, 1) := by decide +kernel
theorem dX2_init_52 : decode cX2_init 52 = .ok (.new 18, 3) := by decide +kernel
theorem dX2_init_55 : decode cX2_init 55 = .ok (.dup, 1) := by decide +kernel
theorem dX2_init_56 : decode cX2_init 56 = .ok (.bipush 8, 2) := by decide +kernel
theorem dX2_init_58 : decode cX2_init 58 = .ok (.iconst 4, 1) := by decide +kernel
theorem dX2_init_59 : decode cX2_init 59 = .ok (.iconst 0, 1) := by decide +kernel
theorem dX2_init_60 : decode cX2_init 60 = .ok (.invokespecial 20, 3) := by decide +kernel
theorem dX2_init_63 : decode cX2_init 63 = .ok (.putfield 30, 3) := by decide +kernel
theorem dX2_init_66 : decode cX2_init 66 = .ok (.iconst 0, 1) := by decide +kernel
theorem dX2_init_67 : decode cX2_init 67 = .ok (.istore_n 1, 1) := by decide +kernel
theorem dX2_init_68 : decode cX2_init 68 = .ok (.iload_n 1, 1) := by decide +kernel
theorem dX2_init_69 : decode cX2_init 69 = .ok (.bipush 8, 2) := by decide +kernel
theorem dX2_init_71 : decode cX2_init 71 = .ok (.if_icmp .ge 23, 3) := by decide +kernel
theorem dX2_init_74 : decode cX2_init 74 = .ok (.aload_n 0, 1) := by decide +kernel
theorem dX2_init_75 : decode cX2_init 75 = .ok (.getfield 9, 3) := by decide +kernel
theorem dX2_init_78 : decode cX2_init 78 = .ok (.bipush 16, 2) := by decide +kernel
theorem dX2_init_80 : decode cX2_init 80 = .ok (.iload_n 1, 1) := by decide +kernel
theorem dX2_init_81 : decode cX2_init 81 = .ok (.iadd, 1) := by decide +kernel
theorem dX2_init_82 : decode cX2_init 82 = .ok (.getstatic 33, 3) := by decide +kernel
theorem dX2_init_85 : decode cX2_init 85 = .ok (.iload_n 1, 1) := by decide +kernel
theorem dX2_init_86 : decode cX2_init 86 = .ok (.iaload, 1) := by decide +kernel
theorem dX2_init_87 : decode cX2_init 87 = .ok (.iastore, 1) := by decide +kernel
theorem dX2_init_88 : decode cX2_init 88 = .ok (.iinc 1 1, 3) := by decide +kernel
theorem dX2_init_91 : decode cX2_init 91 = .ok (.goto (-23), 3) := by decide +kernel
theorem dX2_init_94 : decode cX2_init 94 = .ok (.iconst 0, 1) := by decide +kernel
theorem dX2_init_95 : decode cX2_init 95 = .ok (.istore_n 1, 1) := by decide +kernel
theorem dX2_init_96 : decode cX2_init 96 = .ok (.iload_n 1, 1) := by decide +kernel
theorem dX2_init_97 : decode cX2_init 97 = .ok (.bipush 16, 2) := by decide +kernel
theorem dX2_init_99 : decode cX2_init 99 = .ok (.if_icmp .ge 19, 3) := by decide +kernel
theorem dX2_init_102 : decode cX2_init 102 = .ok (.aload_n 0, 1) := by decide +kernel
theorem dX2_init_103 : decode cX2_init 103 = .ok (.getfield 15, 3) := by decide +kernel
theorem dX2_init_106 : decode cX2_init 106 = .ok (.iload_n 1, 1) := by decide +kernel
theorem dX2_init_107 : decode cX2_init 107 = .ok (.bipush 10, 2) := by decide +kernel
theorem dX2_init_109 : decode cX2_init 109 = .ok (.iload_n 1, 1) := by decide +kernel
theorem dX2_init_110 : decode cX2_init 110 = .ok (.imul, 1) := by decide +kernel
theorem dX2_init_111 : decode cX2_init 111 = .ok (.iastore, 1) := by decide +kernel
theorem dX2_init_112 : decode cX2_init 112 = .ok (.iinc 1 1, 3) := by decide +kernel
theorem dX2_init_115 : decode cX2_init 115 = .ok (.goto (-19), 3) := by decide +kernel
theorem dX2_init_118 : decode cX2_init 118 = .ok (.aload_n 0, 1) := by decide +kernel
theorem dX2_init_119 : decode cX2_init 119 = .ok (.getfield 9, 3) := by decide +kernel
theorem dX2_init_122 : decode cX2_init 122 = .ok (.bipush 15, 2) := by decide +kernel
theorem dX2_init_124 : decode cX2_init 124 = .ok (.bipush (-6), 2) := by decide +kernel
theorem dX2_init_126 : decode cX2_init 126 = .ok (.iastore, 1) := by decide +kernel
theorem dX2_init_127 : decode cX2_init 127 = .ok (.return_, 1) := by decide +kernel
set_option maxRecDepth 20000 in
theorem ggX2_copyFrom_X3_copyFrom : GoodIn wsX2_copyFrom wsX3_copyFrom := goodIn_r _ [15, 16, 17, 18, 19, 20, 21, 3, 4, 5, 28, 29] (by decide +kernel) (by decide +kernel)
set_option maxRecDepth 20000 in
theorem gX2_copyFrom_X3_copyFrom : GoodIn wsX2_copyFrom (wsV RX2 42 RX3 yX3_copyFrom wsX3_copyFrom) := goodIn_app (goodIn_of _ (by decide +kernel)) ggX2_copyFrom_X3_copyFrom
theorem dX2_copyFrom_0 : decode cX2_copyFrom 0 = .ok (.aload_n 1, 1) := by decide +kernel
theorem dX2_copyFrom_1 : decode cX2_copyFrom 1 = .ok (.getfield 9, 3) := by decide +kernel
theorem dX2_copyFrom_4 : decode cX2_copyFrom 4 = .ok (.iconst 0, 1) := by decide +kernel
theorem dX2_copyFrom_5 : decode cX2_copyFrom 5 = .ok (.aload_n 0, 1) := by decide +kernel
theorem dX2_copyFrom_6 : decode cX2_copyFrom 6 = .ok (.getfield 9, 3) := by decide +kernel
theorem dX2_copyFrom_9 : decode cX2_copyFrom 9 = .ok (.iconst 0, 1) := by decide +kernel
theorem dX2_copyFrom_10 : decode cX2_copyFrom 10 = .ok (.bipush 24, 2) := by decide +kernel
theorem dX2_copyFrom_12 : decode cX2_copyFrom 12 = .ok (.invokestatic 36, 3) := by decide +kernel
theorem dX2_copyFrom_15 : decode cX2_copyFrom 15 = .ok (.aload_n 1, 1) := by decide +kernel
theorem dX2_copyFrom_16 : decode cX2_copyFrom 16 = .ok (.getfield 15, 3) := by decide +kernel
theorem dX2_copyFrom_19 : decode cX2_copyFrom 19 = .ok (.iconst 0, 1) := by decide +kernel
theorem dX2_copyFrom_20 : decode cX2_copyFrom 20 = .ok (.aload_n 0, 1) := by decide +kernel
theorem dX2_copyFrom_21 : decode cX2_copyFrom 21 = .ok (.getfield 15, 3) := by decide +kernel
theorem dX2_copyFrom_24 : decode cX2_copyFrom 24 = .ok (.iconst 0, 1) := by decide +kernel
theorem dX2_copyFrom_25 : decode cX2_copyFrom 25 = .ok (.bipush 16, 2) := by decide +kernel
theorem dX2_copyFrom_27 : decode cX2_copyFrom 27 = .ok (.invokestatic 36, 3) := by decide +kernel
theorem dX2_copyFrom_30 : decode cX2_copyFrom 30 = .ok (.aload_n 0, 1) := by decide +kernel
theorem dX2_copyFrom_31 : decode cX2_copyFrom 31 = .ok (.getfield 23, 3) := by decide +kernel
theorem dX2_copyFrom_34 : decode cX2_copyFrom 34 = .ok (.aload_n 1, 1) := by decide +kernel
theorem dX2_copyFrom_35 : decode cX2_copyFrom 35 = .ok (.getfield 23, 3) := by decide +kernel
theorem dX2_copyFrom_38 : decode cX2_copyFrom 38 = .ok (.invokevirtual 42, 3) := by decide +kernel
theorem dX2_copyFrom_41 : decode cX2_copyFrom 41 = .ok (.aload_n 0, 1) := by decide +kernel
theorem dX2_copyFrom_42 : decode cX2_copyFrom 42 = .ok (.getfield 27, 3) := by decide +kernel
theorem dX2_copyFrom_45 : decode cX2_copyFrom 45 = .ok (.aload_n 1, 1) := by decide +kernel
theorem dX2_copyFrom_46 : decode cX2_copyFrom 46 = .ok (.getfield 27, 3) := by decide +kernel
theorem dX2_copyFrom_49 : decode cX2_copyFrom 49 = .ok (.invokevirtual 42, 3) := by decide +kernel
theorem dX2_copyFrom_52 : decode cX2_copyFrom 52 = .ok (.aload_n 0, 1) := by decide +kernel
theorem dX2_copyFrom_53 : decode cX2_copyFrom 53 = .ok (.getfield 30, 3) := by decide +kernel
theorem dX2_copyFrom_56 : decode cX2_copyFrom 56 = .ok (.aload_n 1, 1) := by decide +kernel
theorem dX2_copyFrom_57 : decode cX2_copyFrom 57 = .ok (.getfield 30, 3) := by decide +kernel
theorem dX2_copyFrom_60 : decode cX2_copyFrom 60 = .ok (.invokevirtual 42, 3) := by decide +kernel
theorem dX2_copyFrom_63 : decode cX2_copyFrom 63 = .ok (.aload_n 0, 1) := by decide +kernel
theorem dX2_copyFrom_64 : decode cX2_copyFrom 64 = .ok (.aload_n 1, 1) := by decide +kernel
theorem dX2_copyFrom_65 : decode cX2_copyFrom 65 = .ok (.getfield 46, 3) := by decide +kernel
theorem dX2_copyFrom_68 : decode cX2_copyFrom 68 = .ok (.putfield 46, 3) := by decide +kernel
theorem dX2_copyFrom_71 : decode cX2_copyFrom 71 = .ok (.return_, 1) := by decide +kernel
set_option maxRecDepth 20000 in
theorem ggX2_setting_X4_isWithin : GoodIn wsX2_setting wsX4_isWithin := goodIn_r _ [4] (by decide +kernel) (by decide +kernel)
set_option maxRecDepth 20000 in
theorem gX2_setting_X4_isWithin_n50 : GoodIn wsX2_setting (wsX4_isWithin) := ggX2_setting_X4_isWithin
theorem dX2_setting_0 : decode cX2_setting 0 = .ok (.iload_n 1, 1) := by decide +kernel
theorem dX2_setting_1 : decode cX2_setting 1 = .ok (.iconst 0, 1) := by decide +kernel
theorem dX2_setting_2 : decode cX2_setting 2 = .ok (.bipush 7, 2) := by decide +kernel
theorem dX2_setting_4 : decode cX2_setting 4 = .ok (.invokestatic 50, 3) := by decide +kernel
theorem dX2_setting_7 : decode cX2_setting 7 = .ok (.ifCond .eq 15, 3) := by decide +kernel
theorem dX2_setting_10 : decode cX2_setting 10 = .ok (.aload_n 0, 1) := by decide +kernel
theorem dX2_setting_11 : decode cX2_setting 11 = .ok (.getfield 9, 3) := by decide +kernel
theorem dX2_setting_14 : decode cX2_setting 14 = .ok (.bipush 16, 2) := by decide +kernel
theorem dX2_setting_16 : decode cX2_setting 16 = .ok (.iload_n 1, 1) := by decide +kernel
theorem dX2_setting_17 : decode cX2_setting 17 = .ok (.iadd, 1) := by decide +kernel
theorem dX2_setting_18 : decode cX2_setting 18 = .ok (.iaload, 1) := by decide +kernel
theorem dX2_setting_19 : decode cX2_setting 19 = .ok (.goto 4, 3) := by decide +kernel
theorem dX2_setting_22 : decode cX2_setting 22 = .ok (.iconst 0, 1) := by decide +kernel
theorem dX2_setting_23 : decode cX2_setting 23 = .ok (.ireturn, 1) := by decide +kernel
set_option maxRecDepth 20000 in
theorem ggX2_rowsOfScreen_X2_setting : GoodIn wsX2_rowsOfScreen wsX2_setting := goodIn_r _ [5, 6, 7, 8, 9, 10, 11, 12, 13, 14, 15] (by decide +kernel) (by decide +kernel)
set_option maxRecDepth 20000 in
theorem gX2_rowsOfScreen_X2_setting : GoodIn wsX2_rowsOfScreen (wsV RX2 54 RX2 yX2_setting wsX2_setting) := goodIn_app (goodIn_of _ (by decide +kernel)) ggX2_rowsOfScreen_X2_setting
theorem dX2_rowsOfScreen_0 : decode cX2_rowsOfScreen 0 = .ok (.iconst 2, 1) := by decide +kernel
theorem dX2_rowsOfScreen_1 : decode cX2_rowsOfScreen 1 = .ok (.aload_n 0, 1) := by decide +kernel
theorem dX2_rowsOfScreen_2 : decode cX2_rowsOfScreen 2 = .ok (.iconst 3, 1) := by decide +kernel
theorem dX2_rowsOfScreen_3 : decode cX2_rowsOfScreen 3 = .ok (.invokevirtual 54, 3) := by decide +kernel
theorem dX2_rowsOfScreen_6 : decode cX2_rowsOfScreen 6 = .ok (.imul, 1) := by decide +kernel
theorem dX2_rowsOfScreen_7 : decode cX2_rowsOfScreen 7 = .ok (.ireturn, 1) := by decide +kernel
set_option maxRecDepth 20000 in
theorem ggX2_changeSetting_X4_isWithin : GoodIn wsX2_changeSetting wsX4_isWithin := goodIn_r _ [4] (by decide +kernel) (by decide +kernel)
set_option maxRecDepth 20000 in
theorem gX2_changeSetting_X4_isWithin_n50 : GoodIn wsX2_changeSetting (wsX4_isWithin) := ggX2_changeSetting_X4_isWithin
theorem dX2_changeSetting_0 : decode cX2_changeSetting 0 = .ok (.iload_n 1, 1) := by decide +kernel
theorem dX2_changeSetting_1 : decode cX2_changeSetting 1 = .ok (.iconst 0, 1) := by decide +kernel
theorem dX2_changeSetting_2 : decode cX2_changeSetting 2 = .ok (.bipush 7, 2) := by decide +kernel
theorem dX2_changeSetting_4 : decode cX2_changeSetting 4 = .ok (.invokestatic 50, 3) := by decide +kernel
theorem dX2_changeSetting_7 : decode cX2_changeSetting 7 = .ok (.ifCond .eq 20, 3) := by decide +kernel
theorem dX2_changeSetting_10 : decode cX2_changeSetting 10 = .ok (.iload_n 2, 1) := by decide +kernel
theorem dX2_changeSetting_11 : decode cX2_changeSetting 11 = .ok (.getstatic 58, 3) := by decide +kernel
theorem dX2_changeSetting_14 : decode cX2_changeSetting 14 = .ok (.iload_n 1, 1) := by decide +kernel
theorem dX2_changeSetting_15 : decode cX2_changeSetting 15 = .ok (.iaload, 1) := by decide +kernel
theorem dX2_changeSetting_16 : decode cX2_changeSetting 16 = .ok (.getstatic 61, 3) := by decide +kernel
theorem dX2_changeSetting_19 : decode cX2_changeSetting 19 = .ok (.iload_n 1, 1) := by decide +kernel
theorem dX2_changeSetting_20 : decode cX2_changeSetting 20 = .ok (.iaload, 1) := by decide +kernel
theorem dX2_changeSetting_21 : decode cX2_changeSetting 21 = .ok (.invokestatic 50, 3) := by decide +kernel
theorem dX2_changeSetting_24 : decode cX2_changeSetting 24 = .ok (.ifCond .ne 6, 3) := by decide +kernel
theorem dX2_changeSetting_27 : decode cX2_changeSetting 27 = .ok (.bipush (-2), 2) := by decide +kernel
theorem dX2_changeSetting_29 : decode cX2_changeSetting 29 = .ok (.ireturn, 1) := by decide +kernel
theorem dX2_changeSetting_30 : decode cX2_changeSetting 30 = .ok (.iload_n 1, 1) := by decide +kernel
theorem dX2_changeSetting_31 : decode cX2_changeSetting 31 = .ok (.iconst 3, 1) := by decide +kernel
theorem dX2_changeSetting_32 : decode cX2_changeSetting 32 = .ok (.if_icmp .ne 12, 3) := by decide +kernel
theorem dX2_changeSetting_35 : decode cX2_changeSetting 35 = .ok (.aload_n 0, 1) := by decide +kernel
theorem dX2_changeSetting_36 : decode cX2_changeSetting 36 = .ok (.getfield 9, 3) := by decide +kernel
theorem dX2_changeSetting_39 : decode cX2_changeSetting 39 = .ok (.iconst 0, 1) := by decide +kernel
theorem dX2_changeSetting_40 : decode cX2_changeSetting 40 = .ok (.iaload, 1) := by decide +kernel
theorem dX2_changeSetting_41 : decode cX2_changeSetting 41 = .ok (.ifCond .ne 18, 3) := by decide +kernel
theorem dX2_changeSetting_44 : decode cX2_changeSetting 44 = .ok (.iload_n 1, 1) := by decide +kernel
theorem dX2_changeSetting_45 : decode cX2_changeSetting 45 = .ok (.iconst 2, 1) := by decide +kernel
theorem dX2_changeSetting_46 : decode cX2_changeSetting 46 = .ok (.if_icmp .ne 16, 3) := by decide +kernel
theorem dX2_changeSetting_49 : decode cX2_changeSetting 49 = .ok (.iload_n 2, 1) := by decide +kernel
theorem dX2_changeSetting_50 : decode cX2_changeSetting 50 = .ok (.aload_n 0, 1) := by decide +kernel
theorem dX2_changeSetting_51 : decode cX2_changeSetting 51 = .ok (.getfield 9, 3) := by decide +kernel
theorem dX2_changeSetting_54 : decode cX2_changeSetting 54 = .ok (.iconst 2, 1) := by decide +kernel
theorem dX2_changeSetting_55 : decode cX2_changeSetting 55 = .ok (.iaload, 1) := by decide +kernel
theorem dX2_changeSetting_56 : decode cX2_changeSetting 56 = .ok (.if_icmp .ge 6, 3) := by decide +kernel
theorem dX2_changeSetting_59 : decode cX2_changeSetting 59 = .ok (.bipush (-5), 2) := by decide +kernel
theorem dX2_changeSetting_61 : decode cX2_changeSetting 61 = .ok (.ireturn, 1) := by decide +kernel
theorem dX2_changeSetting_62 : decode cX2_changeSetting 62 = .ok (.aload_n 0, 1) := by decide +kernel
theorem dX2_changeSetting_63 : decode cX2_changeSetting 63 = .ok (.getfield 9, 3) := by decide +kernel
theorem dX2_changeSetting_66 : decode cX2_changeSetting 66 = .ok (.bipush 16, 2) := by decide +kernel
theorem dX2_changeSetting_68 : decode cX2_changeSetting 68 = .ok (.iload_n 1, 1) := by decide +kernel
theorem dX2_changeSetting_69 : decode cX2_changeSetting 69 = .ok (.iadd, 1) := by decide +kernel
theorem dX2_changeSetting_70 : decode cX2_changeSetting 70 = .ok (.iaload, 1) := by decide +kernel
theorem dX2_changeSetting_71 : decode cX2_changeSetting 71 = .ok (.istore_n 3, 1) := by decide +kernel
theorem dX2_changeSetting_72 : decode cX2_changeSetting 72 = .ok (.aload_n 0, 1) := by decide +kernel
theorem dX2_changeSetting_73 : decode cX2_changeSetting 73 = .ok (.getfield 9, 3) := by decide +kernel
theorem dX2_changeSetting_76 : decode cX2_changeSetting 76 = .ok (.bipush 16, 2) := by decide +kernel
theorem dX2_changeSetting_78 : decode cX2_changeSetting 78 = .ok (.iload_n 1, 1) := by decide +kernel
theorem dX2_changeSetting_79 : decode cX2_changeSetting 79 = .ok (.iadd, 1) := by decide +kernel
theorem dX2_changeSetting_80 : decode cX2_changeSetting 80 = .ok (.iload_n 2, 1) := by decide +kernel
theorem dX2_changeSetting_81 : decode cX2_changeSetting 81 = .ok (.iastore, 1) := by decide +kernel
theorem dX2_changeSetting_82 : decode cX2_changeSetting 82 = .ok (.iload_n 3, 1) := by decide +kernel
theorem dX2_changeSetting_83 : decode cX2_changeSetting 83 = .ok (.ireturn, 1) := by decide +kernel
set_option maxRecDepth 20000 in
theorem ggX2_changeValue_X4_isWithin : GoodIn wsX2_changeValue wsX4_isWithin := goodIn_r _ [4] (by decide +kernel) (by decide +kernel)
set_option maxRecDepth 20000 in
theorem gX2_changeValue_X4_isWithin_n50 : GoodIn wsX2_changeValue (wsX4_isWithin) := ggX2_changeValue_X4_isWithin
theorem dX2_changeValue_0 : decode cX2_changeValue 0 = .ok (.iload_n 1, 1) := by decide +kernel
theorem dX2_changeValue_1 : decode cX2_changeValue 1 = .ok (.iconst 0, 1) := by decide +kernel
theorem dX2_changeValue_2 : decode cX2_changeValue 2 = .ok (.bipush 15, 2) := by decide +kernel
theorem dX2_changeValue_4 : decode cX2_changeValue 4 = .ok (.invokestatic 50, 3) := by decide +kernel
theorem dX2_changeValue_7 : decode cX2_changeValue 7 = .ok (.ifCond .ne 5, 3) := by decide +kernel
theorem dX2_changeValue_10 : decode cX2_changeValue 10 = .ok (.iconst (-1), 1) := by decide +kernel
theorem dX2_changeValue_11 : decode cX2_changeValue 11 = .ok (.ireturn, 1) := by decide +kernel
theorem dX2_changeValue_12 : decode cX2_changeValue 12 = .ok (.iload_n 2, 1) := by decide +kernel
theorem dX2_changeValue_13 : decode cX2_changeValue 13 = .ok (.iconst 0, 1) := by decide +kernel
theorem dX2_changeValue_14 : decode cX2_changeValue 14 = .ok (.sipush 255, 3) := by decide +kernel
theorem dX2_changeValue_17 : decode cX2_changeValue 17 = .ok (.invokestatic 50, 3) := by decide +kernel
theorem dX2_changeValue_20 : decode cX2_changeValue 20 = .ok (.ifCond .ne 6, 3) := by decide +kernel
theorem dX2_changeValue_23 : decode cX2_changeValue 23 = .ok (.bipush (-2), 2) := by decide +kernel
theorem dX2_changeValue_25 : decode cX2_changeValue 25 = .ok (.ireturn, 1) := by decide +kernel
theorem dX2_changeValue_26 : decode cX2_changeValue 26 = .ok (.aload_n 0, 1) := by decide +kernel
theorem dX2_changeValue_27 : decode cX2_changeValue 27 = .ok (.getfield 15, 3) := by decide +kernel
theorem dX2_changeValue_30 : decode cX2_changeValue 30 = .ok (.iload_n 1, 1) := by decide +kernel
theorem dX2_changeValue_31 : decode cX2_changeValue 31 = .ok (.iaload, 1) := by decide +kernel
theorem dX2_changeValue_32 : decode cX2_changeValue 32 = .ok (.istore_n 3, 1) := by decide +kernel
theorem dX2_changeValue_33 : decode cX2_changeValue 33 = .ok (.aload_n 0, 1) := by decide +kernel
theorem dX2_changeValue_34 : decode cX2_changeValue 34 = .ok (.getfield 15, 3) := by decide +kernel
theorem dX2_changeValue_37 : decode cX2_changeValue 37 = .ok (.iload_n 1, 1) := by decide +kernel
theorem dX2_changeValue_38 : decode cX2_changeValue 38 = .ok (.iload_n 2, 1) := by decide +kernel
theorem dX2_changeValue_39 : decode cX2_changeValue 39 = .ok (.iastore, 1) := by decide +kernel
theorem dX2_changeValue_40 : decode cX2_changeValue 40 = .ok (.iload_n 3, 1) := by decide +kernel
theorem dX2_changeValue_41 : decode cX2_changeValue 41 = .ok (.ireturn, 1) := by decide +kernel
set_option maxRecDepth 20000 in
theorem ggX2_delayClock_X4_isWithin : GoodIn wsX2_delayClock wsX4_isWithin := goodIn_r _ [4] (by decide +kernel) (by decide +kernel)
set_option maxRecDepth 20000 in
theorem gX2_delayClock_X4_isWithin_n50 : GoodIn wsX2_delayClock (wsX4_isWithin) := ggX2_delayClock_X4_isWithin
theorem dX2_delayClock_0 : decode cX2_delayClock 0 = .ok (.iload_n 1, 1) := by decide +kernel
theorem dX2_delayClock_1 : decode cX2_delayClock 1 = .ok (.iconst 0, 1) := by decide +kernel
theorem dX2_delayClock_2 : decode cX2_delayClock 2 = .ok (.iconst 1, 1) := by decide +kernel
theorem dX2_delayClock_3 : decode cX2_delayClock 3 = .ok (.invokestatic 50, 3) := by decide +kernel
theorem dX2_delayClock_6 : decode cX2_delayClock 6 = .ok (.ifCond .eq 13, 3) := by decide +kernel
theorem dX2_delayClock_9 : decode cX2_delayClock 9 = .ok (.iload_n 2, 1) := by decide +kernel
theorem dX2_delayClock_10 : decode cX2_delayClock 10 = .ok (.iconst 1, 1) := by decide +kernel
theorem dX2_delayClock_11 : decode cX2_delayClock 11 = .ok (.bipush 99, 2) := by decide +kernel
theorem dX2_delayClock_13 : decode cX2_delayClock 13 = .ok (.invokestatic 50, 3) := by decide +kernel
theorem dX2_delayClock_16 : decode cX2_delayClock 16 = .ok (.ifCond .ne 6, 3) := by decide +kernel
theorem dX2_delayClock_19 : decode cX2_delayClock 19 = .ok (.bipush (-2), 2) := by decide +kernel
theorem dX2_delayClock_21 : decode cX2_delayClock 21 = .ok (.ireturn, 1) := by decide +kernel
theorem dX2_delayClock_22 : decode cX2_delayClock 22 = .ok (.iload_n 1, 1) := by decide +kernel
theorem dX2_delayClock_23 : decode cX2_delayClock 23 = .ok (.ifCond .ne 8, 3) := by decide +kernel
theorem dX2_delayClock_26 : decode cX2_delayClock 26 = .ok (.bipush 10, 2) := by decide +kernel
theorem dX2_delayClock_28 : decode cX2_delayClock 28 = .ok (.goto 5, 3) := by decide +kernel
theorem dX2_delayClock_31 : decode cX2_delayClock 31 = .ok (.bipush 11, 2) := by decide +kernel
theorem dX2_delayClock_33 : decode cX2_delayClock 33 = .ok (.istore_n 3, 1) := by decide +kernel
theorem dX2_delayClock_34 : decode cX2_delayClock 34 = .ok (.aload_n 0, 1) := by decide +kernel
theorem dX2_delayClock_35 : decode cX2_delayClock 35 = .ok (.getfield 9, 3) := by decide +kernel
theorem dX2_delayClock_38 : decode cX2_delayClock 38 = .ok (.iload_n 3, 1) := by decide +kernel
theorem dX2_delayClock_39 : decode cX2_delayClock 39 = .ok (.dup2, 1) := by decide +kernel
theorem dX2_delayClock_40 : decode cX2_delayClock 40 = .ok (.iaload, 1) := by decide +kernel
theorem dX2_delayClock_41 : decode cX2_delayClock 41 = .ok (.iload_n 2, 1) := by decide +kernel
theorem dX2_delayClock_42 : decode cX2_delayClock 42 = .ok (.iadd, 1) := by decide +kernel
theorem dX2_delayClock_43 : decode cX2_delayClock 43 = .ok (.iastore, 1) := by decide +kernel
theorem dX2_delayClock_44 : decode cX2_delayClock 44 = .ok (.aload_n 0, 1) := by decide +kernel
theorem dX2_delayClock_45 : decode cX2_delayClock 45 = .ok (.getfield 9, 3) := by decide +kernel
theorem dX2_delayClock_48 : decode cX2_delayClock 48 = .ok (.iload_n 3, 1) := by decide +kernel
theorem dX2_delayClock_49 : decode cX2_delayClock 49 = .ok (.iaload, 1) := by decide +kernel
theorem dX2_delayClock_50 : decode cX2_delayClock 50 = .ok (.ireturn, 1) := by decide +kernel
set_option maxRecDepth 20000 in
theorem ggX2_passTicks_X4_isWithin : GoodIn wsX2_passTicks wsX4_isWithin := goodIn_r _ [12] (by decide +kernel) (by decide +kernel)
set_option maxRecDepth 20000 in
theorem gX2_passTicks_X4_isWithin_n50 : GoodIn wsX2_passTicks (wsX4_isWithin) := ggX2_passTicks_X4_isWithin
set_option maxRecDepth 20000 in
theorem ggX2_passTicks_X2_lineComes : GoodIn wsX2_passTicks wsX2_lineComes := goodIn_r _ [17, 1, 18, 19, 20, 16, 21, 22, 23, 10, 11, 12, 24, 25, 26, 27, 28, 29, 30, 31, 32, 33, 34, 35, 36, 37, 38, 39, 40, 41, 42, 43, 44, 45, 46, 47, 48, 49, 50, 51, 52, 53, 54, 55, 81, 82, 83, 84, 85, 86, 87, 88] (by decide +kernel) (by decide +kernel)
set_option maxRecDepth 20000 in
theorem gX2_passTicks_X2_lineComes : GoodIn wsX2_passTicks (wsV RX2 64 RX2 yX2_lineComes wsX2_lineComes) := goodIn_app (goodIn_of _ (by decide +kernel)) ggX2_passTicks_X2_lineComes
set_option maxRecDepth 20000 in
theorem ggX2_passTicks_X2_rowGoesOut : GoodIn wsX2_passTicks wsX2_rowGoesOut := goodIn_r _ [59, 1, 60, 61, 62, 16, 63, 24, 25, 26, 27, 10, 11, 12, 64, 65, 66, 67, 23, 39, 40, 41, 31, 42, 33, 34, 43, 44, 45, 46, 47, 28, 29, 30, 32, 48, 49, 50, 51, 52, 53, 54, 55, 68, 69, 70, 71, 72, 73, 74, 75, 76, 77, 78, 79, 80, 81, 82, 83, 84, 85, 86, 87, 88] (by decide +kernel) (by decide +kernel)
set_option maxRecDepth 20000 in
theorem gX2_passTicks_X2_rowGoesOut : GoodIn wsX2_passTicks (wsV RX2 67 RX2 yX2_rowGoesOut wsX2_rowGoesOut) := goodIn_app (goodIn_of _ (by decide +kernel)) ggX2_passTicks_X2_rowGoesOut
theorem dX2_passTicks_0 : decode cX2_passTicks 0 = .ok (.iload_n 1, 1) := by decide +kernel
theorem dX2_passTicks_1 : decode cX2_passTicks 1 = .ok (.iconst 1, 1) := by decide +kernel
theorem dX2_passTicks_2 : decode cX2_passTicks 2 = .ok (.sipush 999, 3) := by decide +kernel
theorem dX2_passTicks_5 : decode cX2_passTicks 5 = .ok (.invokestatic 50, 3) := by decide +kernel
theorem dX2_passTicks_8 : decode cX2_passTicks 8 = .ok (.ifCond .ne 6, 3) := by decide +kernel
theorem dX2_passTicks_11 : decode cX2_passTicks 11 = .ok (.bipush (-2), 2) := by decide +kernel
theorem dX2_passTicks_13 : decode cX2_passTicks 13 = .ok (.ireturn, 1) := by decide +kernel
theorem dX2_passTicks_14 : decode cX2_passTicks 14 = .ok (.aload_n 0, 1) := by decide +kernel
theorem dX2_passTicks_15 : decode cX2_passTicks 15 = .ok (.getfield 9, 3) := by decide +kernel
theorem dX2_passTicks_18 : decode cX2_passTicks 18 = .ok (.iconst 0, 1) := by decide +kernel
theorem dX2_passTicks_19 : decode cX2_passTicks 19 = .ok (.iaload, 1) := by decide +kernel
theorem dX2_passTicks_20 : decode cX2_passTicks 20 = .ok (.iload_n 2, 1) := by decide +kernel
theorem dX2_passTicks_21 : decode cX2_passTicks 21 = .ok (.iload_n 1, 1) := by decide +kernel
theorem dX2_passTicks_22 : decode cX2_passTicks 22 = .ok (.isub, 1) := by decide +kernel
theorem dX2_passTicks_23 : decode cX2_passTicks 23 = .ok (.if_icmp .le 6, 3) := by decide +kernel
theorem dX2_passTicks_26 : decode cX2_passTicks 26 = .ok (.bipush (-4), 2) := by decide +kernel
theorem dX2_passTicks_28 : decode cX2_passTicks 28 = .ok (.ireturn, 1) := by decide +kernel
theorem dX2_passTicks_29 : decode cX2_passTicks 29 = .ok (.iconst 0, 1) := by decide +kernel
theorem dX2_passTicks_30 : decode cX2_passTicks 30 = .ok (.istore_n 3, 1) := by decide +kernel
theorem dX2_passTicks_31 : decode cX2_passTicks 31 = .ok (.iload_n 3, 1) := by decide +kernel
theorem dX2_passTicks_32 : decode cX2_passTicks 32 = .ok (.iload_n 1, 1) := by decide +kernel
theorem dX2_passTicks_33 : decode cX2_passTicks 33 = .ok (.if_icmp .ge 120, 3) := by decide +kernel
theorem dX2_passTicks_36 : decode cX2_passTicks 36 = .ok (.aload_n 0, 1) := by decide +kernel
theorem dX2_passTicks_37 : decode cX2_passTicks 37 = .ok (.getfield 9, 3) := by decide +kernel
theorem dX2_passTicks_40 : decode cX2_passTicks 40 = .ok (.iconst 0, 1) := by decide +kernel
theorem dX2_passTicks_41 : decode cX2_passTicks 41 = .ok (.iaload, 1) := by decide +kernel
theorem dX2_passTicks_42 : decode cX2_passTicks 42 = .ok (.aload_n 0, 1) := by decide +kernel
theorem dX2_passTicks_43 : decode cX2_passTicks 43 = .ok (.getfield 9, 3) := by decide +kernel
theorem dX2_passTicks_46 : decode cX2_passTicks 46 = .ok (.bipush 10, 2) := by decide +kernel
theorem dX2_passTicks_48 : decode cX2_passTicks 48 = .ok (.iaload, 1) := by decide +kernel
theorem dX2_passTicks_49 : decode cX2_passTicks 49 = .ok (.if_icmp .ne 7, 3) := by decide +kernel
theorem dX2_passTicks_52 : decode cX2_passTicks 52 = .ok (.aload_n 0, 1) := by decide +kernel
theorem dX2_passTicks_53 : decode cX2_passTicks 53 = .ok (.invokevirtual 64, 3) := by decide +kernel
theorem dX2_passTicks_56 : decode cX2_passTicks 56 = .ok (.aload_n 0, 1) := by decide +kernel
theorem dX2_passTicks_57 : decode cX2_passTicks 57 = .ok (.getfield 9, 3) := by decide +kernel
theorem dX2_passTicks_60 : decode cX2_passTicks 60 = .ok (.iconst 0, 1) := by decide +kernel
theorem dX2_passTicks_61 : decode cX2_passTicks 61 = .ok (.iaload, 1) := by decide +kernel
theorem dX2_passTicks_62 : decode cX2_passTicks 62 = .ok (.aload_n 0, 1) := by decide +kernel
theorem dX2_passTicks_63 : decode cX2_passTicks 63 = .ok (.getfield 9, 3) := by decide +kernel
theorem dX2_passTicks_66 : decode cX2_passTicks 66 = .ok (.bipush 11, 2) := by decide +kernel
theorem dX2_passTicks_68 : decode cX2_passTicks 68 = .ok (.iaload, 1) := by decide +kernel
theorem dX2_passTicks_69 : decode cX2_passTicks 69 = .ok (.if_icmp .ne 7, 3) := by decide +kernel
theorem dX2_passTicks_72 : decode cX2_passTicks 72 = .ok (.aload_n 0, 1) := by decide +kernel
theorem dX2_passTicks_73 : decode cX2_passTicks 73 = .ok (.invokevirtual 67, 3) := by decide +kernel
theorem dX2_passTicks_76 : decode cX2_passTicks 76 = .ok (.aload_n 0, 1) := by decide +kernel
theorem dX2_passTicks_77 : decode cX2_passTicks 77 = .ok (.getfield 9, 3) := by decide +kernel
theorem dX2_passTicks_80 : decode cX2_passTicks 80 = .ok (.bipush 10, 2) := by decide +kernel
theorem dX2_passTicks_82 : decode cX2_passTicks 82 = .ok (.iaload, 1) := by decide +kernel
theorem dX2_passTicks_83 : decode cX2_passTicks 83 = .ok (.aload_n 0, 1) := by decide +kernel
theorem dX2_passTicks_84 : decode cX2_passTicks 84 = .ok (.getfield 9, 3) := by decide +kernel
theorem dX2_passTicks_87 : decode cX2_passTicks 87 = .ok (.bipush 11, 2) := by decide +kernel
theorem dX2_passTicks_89 : decode cX2_passTicks 89 = .ok (.iaload, 1) := by decide +kernel
theorem dX2_passTicks_90 : decode cX2_passTicks 90 = .ok (.invokestatic 70, 3) := by decide +kernel
theorem dX2_passTicks_93 : decode cX2_passTicks 93 = .ok (.aload_n 0, 1) := by decide +kernel
theorem dX2_passTicks_94 : decode cX2_passTicks 94 = .ok (.getfield 9, 3) := by decide +kernel
theorem dX2_passTicks_97 : decode cX2_passTicks 97 = .ok (.iconst 0, 1) := by decide +kernel
theorem dX2_passTicks_98 : decode cX2_passTicks 98 = .ok (.iaload, 1) := by decide +kernel
theorem dX2_passTicks_99 : decode cX2_passTicks 99 = .ok (.isub, 1) := by decide +kernel
theorem dX2_passTicks_100 : decode cX2_passTicks 100 = .ok (.istore 4, 2) := by decide +kernel
theorem dX2_passTicks_102 : decode cX2_passTicks 102 = .ok (.iconst 1, 1) := by decide +kernel
theorem dX2_passTicks_103 : decode cX2_passTicks 103 = .ok (.iload 4, 2) := by decide +kernel
theorem dX2_passTicks_105 : decode cX2_passTicks 105 = .ok (.iload_n 1, 1) := by decide +kernel
theorem dX2_passTicks_106 : decode cX2_passTicks 106 = .ok (.iload_n 3, 1) := by decide +kernel
theorem dX2_passTicks_107 : decode cX2_passTicks 107 = .ok (.isub, 1) := by decide +kernel
theorem dX2_passTicks_108 : decode cX2_passTicks 108 = .ok (.invokestatic 70, 3) := by decide +kernel
theorem dX2_passTicks_111 : decode cX2_passTicks 111 = .ok (.invokestatic 76, 3) := by decide +kernel
theorem dX2_passTicks_114 : decode cX2_passTicks 114 = .ok (.istore 5, 2) := by decide +kernel
theorem dX2_passTicks_116 : decode cX2_passTicks 116 = .ok (.aload_n 0, 1) := by decide +kernel
theorem dX2_passTicks_117 : decode cX2_passTicks 117 = .ok (.dup, 1) := by decide +kernel
theorem dX2_passTicks_118 : decode cX2_passTicks 118 = .ok (.getfield 46, 3) := by decide +kernel
theorem dX2_passTicks_121 : decode cX2_passTicks 121 = .ok (.iload 5, 2) := by decide +kernel
theorem dX2_passTicks_123 : decode cX2_passTicks 123 = .ok (.aload_n 0, 1) := by decide +kernel
theorem dX2_passTicks_124 : decode cX2_passTicks 124 = .ok (.getfield 9, 3) := by decide +kernel
theorem dX2_passTicks_127 : decode cX2_passTicks 127 = .ok (.iconst 2, 1) := by decide +kernel
theorem dX2_passTicks_128 : decode cX2_passTicks 128 = .ok (.iaload, 1) := by decide +kernel
theorem dX2_passTicks_129 : decode cX2_passTicks 129 = .ok (.imul, 1) := by decide +kernel
theorem dX2_passTicks_130 : decode cX2_passTicks 130 = .ok (.iadd, 1) := by decide +kernel
theorem dX2_passTicks_131 : decode cX2_passTicks 131 = .ok (.putfield 46, 3) := by decide +kernel
theorem dX2_passTicks_134 : decode cX2_passTicks 134 = .ok (.aload_n 0, 1) := by decide +kernel
theorem dX2_passTicks_135 : decode cX2_passTicks 135 = .ok (.getfield 9, 3) := by decide +kernel
theorem dX2_passTicks_138 : decode cX2_passTicks 138 = .ok (.iconst 0, 1) := by decide +kernel
theorem dX2_passTicks_139 : decode cX2_passTicks 139 = .ok (.dup2, 1) := by decide +kernel
theorem dX2_passTicks_140 : decode cX2_passTicks 140 = .ok (.iaload, 1) := by decide +kernel
theorem dX2_passTicks_141 : decode cX2_passTicks 141 = .ok (.iload 5, 2) := by decide +kernel
theorem dX2_passTicks_143 : decode cX2_passTicks 143 = .ok (.iadd, 1) := by decide +kernel
theorem dX2_passTicks_144 : decode cX2_passTicks 144 = .ok (.iastore, 1) := by decide +kernel
theorem dX2_passTicks_145 : decode cX2_passTicks 145 = .ok (.iload_n 3, 1) := by decide +kernel
theorem dX2_passTicks_146 : decode cX2_passTicks 146 = .ok (.iload 5, 2) := by decide +kernel
theorem dX2_passTicks_148 : decode cX2_passTicks 148 = .ok (.iadd, 1) := by decide +kernel
theorem dX2_passTicks_149 : decode cX2_passTicks 149 = .ok (.istore_n 3, 1) := by decide +kernel
theorem dX2_passTicks_150 : decode cX2_passTicks 150 = .ok (.goto (-119), 3) := by decide +kernel
theorem dX2_passTicks_153 : decode cX2_passTicks 153 = .ok (.aload_n 0, 1) := by decide +kernel
theorem dX2_passTicks_154 : decode cX2_passTicks 154 = .ok (.getfield 9, 3) := by decide +kernel
theorem dX2_passTicks_157 : decode cX2_passTicks 157 = .ok (.iconst 0, 1) := by decide +kernel
theorem dX2_passTicks_158 : decode cX2_passTicks 158 = .ok (.iaload, 1) := by decide +kernel
theorem dX2_passTicks_159 : decode cX2_passTicks 159 = .ok (.ireturn, 1) := by decide +kernel
set_option maxRecDepth 20000 in
theorem ggX2_skipAll_X2_loseWaiting : GoodIn wsX2_skipAll wsX2_loseWaiting := goodIn_r _ [6, 1, 7, 8, 9, 10, 11, 12, 13, 14, 15, 16, 17, 18, 19, 20, 21, 22, 23, 24, 25, 26, 27, 28, 29, 30, 31, 32, 33, 34, 35] (by decide +kernel) (by decide +kernel)
set_option maxRecDepth 20000 in
theorem gX2_skipAll_X2_loseWaiting : GoodIn wsX2_skipAll (wsV RX2 79 RX2 yX2_loseWaiting wsX2_loseWaiting) := goodIn_app (goodIn_of _ (by decide +kernel)) ggX2_skipAll_X2_loseWaiting
theorem dX2_skipAll_0 : decode cX2_skipAll 0 = .ok (.aload_n 0, 1) := by decide +kernel
theorem dX2_skipAll_1 : decode cX2_skipAll 1 = .ok (.getfield 9, 3) := by decide +kernel
theorem dX2_skipAll_4 : decode cX2_skipAll 4 = .ok (.iconst 2, 1) := by decide +kernel
theorem dX2_skipAll_5 : decode cX2_skipAll 5 = .ok (.iaload, 1) := by decide +kernel
theorem dX2_skipAll_6 : decode cX2_skipAll 6 = .ok (.istore_n 1, 1) := by decide +kernel
theorem dX2_skipAll_7 : decode cX2_skipAll 7 = .ok (.iconst 0, 1) := by decide +kernel
theorem dX2_skipAll_8 : decode cX2_skipAll 8 = .ok (.istore_n 2, 1) := by decide +kernel
theorem dX2_skipAll_9 : decode cX2_skipAll 9 = .ok (.iload_n 2, 1) := by decide +kernel
theorem dX2_skipAll_10 : decode cX2_skipAll 10 = .ok (.iload_n 1, 1) := by decide +kernel
theorem dX2_skipAll_11 : decode cX2_skipAll 11 = .ok (.if_icmp .ge 15, 3) := by decide +kernel
theorem dX2_skipAll_14 : decode cX2_skipAll 14 = .ok (.aload_n 0, 1) := by decide +kernel
theorem dX2_skipAll_15 : decode cX2_skipAll 15 = .ok (.iconst 0, 1) := by decide +kernel
theorem dX2_skipAll_16 : decode cX2_skipAll 16 = .ok (.iconst 2, 1) := by decide +kernel
theorem dX2_skipAll_17 : decode cX2_skipAll 17 = .ok (.invokevirtual 79, 3) := by decide +kernel
theorem dX2_skipAll_20 : decode cX2_skipAll 20 = .ok (.iinc 2 1, 3) := by decide +kernel
theorem dX2_skipAll_23 : decode cX2_skipAll 23 = .ok (.goto (-14), 3) := by decide +kernel
theorem dX2_skipAll_26 : decode cX2_skipAll 26 = .ok (.iload_n 1, 1) := by decide +kernel
theorem dX2_skipAll_27 : decode cX2_skipAll 27 = .ok (.ireturn, 1) := by decide +kernel
set_option maxRecDepth 20000 in
theorem ggX2_lineComes_X2_nextLineWaits : GoodIn wsX2_lineComes wsX2_nextLineWaits := goodIn_r _ [6, 1, 7, 8, 9, 10, 11, 12, 13, 14, 5, 15, 16, 17, 18, 19, 20, 21, 22, 44, 45, 46, 47, 48, 49, 50, 51] (by decide +kernel) (by decide +kernel)
set_option maxRecDepth 20000 in
theorem gX2_lineComes_X2_nextLineWaits : GoodIn wsX2_lineComes (wsV RX2 83 RX2 yX2_nextLineWaits wsX2_nextLineWaits) := goodIn_app (goodIn_of _ (by decide +kernel)) ggX2_lineComes_X2_nextLineWaits
set_option maxRecDepth 20000 in
theorem ggX2_lineComes_X2_setting : GoodIn wsX2_lineComes wsX2_setting := goodIn_r _ [15, 1, 9, 10, 11, 44, 45, 46, 47, 48, 49] (by decide +kernel) (by decide +kernel)
set_option maxRecDepth 20000 in
theorem gX2_lineComes_X2_setting : GoodIn wsX2_lineComes (wsV RX2 54 RX2 yX2_setting wsX2_setting) := goodIn_app (goodIn_of _ (by decide +kernel)) ggX2_lineComes_X2_setting
set_option maxRecDepth 20000 in
theorem ggX2_lineComes_X2_firstNotOut : GoodIn wsX2_lineComes wsX2_firstNotOut := goodIn_r _ [26, 1, 8, 27, 28, 29, 19, 30, 21, 22, 44, 45, 46, 47, 48, 49, 50, 51] (by decide +kernel) (by decide +kernel)
set_option maxRecDepth 20000 in
theorem gX2_lineComes_X2_firstNotOut : GoodIn wsX2_lineComes (wsV RX2 86 RX2 yX2_firstNotOut wsX2_firstNotOut) := goodIn_app (goodIn_of _ (by decide +kernel)) ggX2_lineComes_X2_firstNotOut
set_option maxRecDepth 20000 in
theorem ggX2_lineComes_X2_loseWaiting : GoodIn wsX2_lineComes wsX2_loseWaiting := goodIn_r _ [34, 1, 35, 8, 27, 28, 29, 19, 30, 21, 22, 16, 17, 18, 20, 36, 37, 38, 39, 40, 41, 42, 43, 44, 45, 46, 47, 48, 49, 50, 51] (by decide +kernel) (by decide +kernel)
set_option maxRecDepth 20000 in
theorem gX2_lineComes_X2_loseWaiting : GoodIn wsX2_lineComes (wsV RX2 79 RX2 yX2_loseWaiting wsX2_loseWaiting) := goodIn_app (goodIn_of _ (by decide +kernel)) ggX2_lineComes_X2_loseWaiting
theorem dX2_lineComes_0 : decode cX2_lineComes 0 = .ok (.aload_n 0, 1) := by decide +kernel
theorem dX2_lineComes_1 : decode cX2_lineComes 1 = .ok (.getfield 9, 3) := by decide +kernel
theorem dX2_lineComes_4 : decode cX2_lineComes 4 = .ok (.iconst 1, 1) := by decide +kernel
theorem dX2_lineComes_5 : decode cX2_lineComes 5 = .ok (.dup2, 1) := by decide +kernel
theorem dX2_lineComes_6 : decode cX2_lineComes 6 = .ok (.iaload, 1) := by decide +kernel
theorem dX2_lineComes_7 : decode cX2_lineComes 7 = .ok (.iconst 1, 1) := by decide +kernel
theorem dX2_lineComes_8 : decode cX2_lineComes 8 = .ok (.iadd, 1) := by decide +kernel
theorem dX2_lineComes_9 : decode cX2_lineComes 9 = .ok (.iastore, 1) := by decide +kernel
theorem dX2_lineComes_10 : decode cX2_lineComes 10 = .ok (.aload_n 0, 1) := by decide +kernel
theorem dX2_lineComes_11 : decode cX2_lineComes 11 = .ok (.invokevirtual 83, 3) := by decide +kernel
theorem dX2_lineComes_14 : decode cX2_lineComes 14 = .ok (.aload_n 0, 1) := by decide +kernel
theorem dX2_lineComes_15 : decode cX2_lineComes 15 = .ok (.getfield 9, 3) := by decide +kernel
theorem dX2_lineComes_18 : decode cX2_lineComes 18 = .ok (.iconst 2, 1) := by decide +kernel
theorem dX2_lineComes_19 : decode cX2_lineComes 19 = .ok (.iaload, 1) := by decide +kernel
theorem dX2_lineComes_20 : decode cX2_lineComes 20 = .ok (.aload_n 0, 1) := by decide +kernel
theorem dX2_lineComes_21 : decode cX2_lineComes 21 = .ok (.iconst 2, 1) := by decide +kernel
theorem dX2_lineComes_22 : decode cX2_lineComes 22 = .ok (.invokevirtual 54, 3) := by decide +kernel
theorem dX2_lineComes_25 : decode cX2_lineComes 25 = .ok (.if_icmp .le 45, 3) := by decide +kernel
theorem dX2_lineComes_28 : decode cX2_lineComes 28 = .ok (.aload_n 0, 1) := by decide +kernel
theorem dX2_lineComes_29 : decode cX2_lineComes 29 = .ok (.getfield 9, 3) := by decide +kernel
theorem dX2_lineComes_32 : decode cX2_lineComes 32 = .ok (.iconst 2, 1) := by decide +kernel
theorem dX2_lineComes_33 : decode cX2_lineComes 33 = .ok (.iaload, 1) := by decide +kernel
theorem dX2_lineComes_34 : decode cX2_lineComes 34 = .ok (.iconst 1, 1) := by decide +kernel
theorem dX2_lineComes_35 : decode cX2_lineComes 35 = .ok (.isub, 1) := by decide +kernel
theorem dX2_lineComes_36 : decode cX2_lineComes 36 = .ok (.istore_n 1, 1) := by decide +kernel
theorem dX2_lineComes_37 : decode cX2_lineComes 37 = .ok (.aload_n 0, 1) := by decide +kernel
theorem dX2_lineComes_38 : decode cX2_lineComes 38 = .ok (.iconst 4, 1) := by decide +kernel
theorem dX2_lineComes_39 : decode cX2_lineComes 39 = .ok (.invokevirtual 54, 3) := by decide +kernel
theorem dX2_lineComes_42 : decode cX2_lineComes 42 = .ok (.iconst 1, 1) := by decide +kernel
theorem dX2_lineComes_43 : decode cX2_lineComes 43 = .ok (.if_icmp .ne 10, 3) := by decide +kernel
theorem dX2_lineComes_46 : decode cX2_lineComes 46 = .ok (.aload_n 0, 1) := by decide +kernel
theorem dX2_lineComes_47 : decode cX2_lineComes 47 = .ok (.invokevirtual 86, 3) := by decide +kernel
theorem dX2_lineComes_50 : decode cX2_lineComes 50 = .ok (.goto 4, 3) := by decide +kernel
theorem dX2_lineComes_53 : decode cX2_lineComes 53 = .ok (.iload_n 1, 1) := by decide +kernel
theorem dX2_lineComes_54 : decode cX2_lineComes 54 = .ok (.istore_n 2, 1) := by decide +kernel
theorem dX2_lineComes_55 : decode cX2_lineComes 55 = .ok (.aload_n 0, 1) := by decide +kernel
theorem dX2_lineComes_56 : decode cX2_lineComes 56 = .ok (.iload_n 2, 1) := by decide +kernel
theorem dX2_lineComes_57 : decode cX2_lineComes 57 = .ok (.iload_n 2, 1) := by decide +kernel
theorem dX2_lineComes_58 : decode cX2_lineComes 58 = .ok (.iload_n 1, 1) := by decide +kernel
theorem dX2_lineComes_59 : decode cX2_lineComes 59 = .ok (.if_icmp .ne 7, 3) := by decide +kernel
theorem dX2_lineComes_62 : decode cX2_lineComes 62 = .ok (.iconst 0, 1) := by decide +kernel
theorem dX2_lineComes_63 : decode cX2_lineComes 63 = .ok (.goto 4, 3) := by decide +kernel
theorem dX2_lineComes_66 : decode cX2_lineComes 66 = .ok (.iconst 1, 1) := by decide +kernel
theorem dX2_lineComes_67 : decode cX2_lineComes 67 = .ok (.invokevirtual 79, 3) := by decide +kernel
theorem dX2_lineComes_70 : decode cX2_lineComes 70 = .ok (.aload_n 0, 1) := by decide +kernel
theorem dX2_lineComes_71 : decode cX2_lineComes 71 = .ok (.getfield 9, 3) := by decide +kernel
theorem dX2_lineComes_74 : decode cX2_lineComes 74 = .ok (.bipush 8, 2) := by decide +kernel
theorem dX2_lineComes_76 : decode cX2_lineComes 76 = .ok (.dup2, 1) := by decide +kernel
theorem dX2_lineComes_77 : decode cX2_lineComes 77 = .ok (.iaload, 1) := by decide +kernel
theorem dX2_lineComes_78 : decode cX2_lineComes 78 = .ok (.iconst 1, 1) := by decide +kernel
theorem dX2_lineComes_79 : decode cX2_lineComes 79 = .ok (.iadd, 1) := by decide +kernel
theorem dX2_lineComes_80 : decode cX2_lineComes 80 = .ok (.iastore, 1) := by decide +kernel
theorem dX2_lineComes_81 : decode cX2_lineComes 81 = .ok (.aload_n 0, 1) := by decide +kernel
theorem dX2_lineComes_82 : decode cX2_lineComes 82 = .ok (.getfield 9, 3) := by decide +kernel
theorem dX2_lineComes_85 : decode cX2_lineComes 85 = .ok (.bipush 8, 2) := by decide +kernel
theorem dX2_lineComes_87 : decode cX2_lineComes 87 = .ok (.iaload, 1) := by decide +kernel
theorem dX2_lineComes_88 : decode cX2_lineComes 88 = .ok (.aload_n 0, 1) := by decide +kernel
theorem dX2_lineComes_89 : decode cX2_lineComes 89 = .ok (.iconst 3, 1) := by decide +kernel
theorem dX2_lineComes_90 : decode cX2_lineComes 90 = .ok (.invokevirtual 54, 3) := by decide +kernel
theorem dX2_lineComes_93 : decode cX2_lineComes 93 = .ok (.if_icmp .lt 22, 3) := by decide +kernel
theorem dX2_lineComes_96 : decode cX2_lineComes 96 = .ok (.aload_n 0, 1) := by decide +kernel
theorem dX2_lineComes_97 : decode cX2_lineComes 97 = .ok (.getfield 9, 3) := by decide +kernel
theorem dX2_lineComes_100 : decode cX2_lineComes 100 = .ok (.bipush 8, 2) := by decide +kernel
theorem dX2_lineComes_102 : decode cX2_lineComes 102 = .ok (.iconst 0, 1) := by decide +kernel
theorem dX2_lineComes_103 : decode cX2_lineComes 103 = .ok (.iastore, 1) := by decide +kernel
theorem dX2_lineComes_104 : decode cX2_lineComes 104 = .ok (.aload_n 0, 1) := by decide +kernel
theorem dX2_lineComes_105 : decode cX2_lineComes 105 = .ok (.getfield 9, 3) := by decide +kernel
theorem dX2_lineComes_108 : decode cX2_lineComes 108 = .ok (.bipush 9, 2) := by decide +kernel
theorem dX2_lineComes_110 : decode cX2_lineComes 110 = .ok (.dup2, 1) := by decide +kernel
theorem dX2_lineComes_111 : decode cX2_lineComes 111 = .ok (.iaload, 1) := by decide +kernel
theorem dX2_lineComes_112 : decode cX2_lineComes 112 = .ok (.iconst 1, 1) := by decide +kernel
theorem dX2_lineComes_113 : decode cX2_lineComes 113 = .ok (.iadd, 1) := by decide +kernel
theorem dX2_lineComes_114 : decode cX2_lineComes 114 = .ok (.iastore, 1) := by decide +kernel
theorem dX2_lineComes_115 : decode cX2_lineComes 115 = .ok (.aload_n 0, 1) := by decide +kernel
theorem dX2_lineComes_116 : decode cX2_lineComes 116 = .ok (.getfield 9, 3) := by decide +kernel
theorem dX2_lineComes_119 : decode cX2_lineComes 119 = .ok (.bipush 10, 2) := by decide +kernel
theorem dX2_lineComes_121 : decode cX2_lineComes 121 = .ok (.dup2, 1) := by decide +kernel
theorem dX2_lineComes_122 : decode cX2_lineComes 122 = .ok (.iaload, 1) := by decide +kernel
theorem dX2_lineComes_123 : decode cX2_lineComes 123 = .ok (.aload_n 0, 1) := by decide +kernel
theorem dX2_lineComes_124 : decode cX2_lineComes 124 = .ok (.iconst 0, 1) := by decide +kernel
theorem dX2_lineComes_125 : decode cX2_lineComes 125 = .ok (.invokevirtual 54, 3) := by decide +kernel
theorem dX2_lineComes_128 : decode cX2_lineComes 128 = .ok (.iadd, 1) := by decide +kernel
theorem dX2_lineComes_129 : decode cX2_lineComes 129 = .ok (.iastore, 1) := by decide +kernel
theorem dX2_lineComes_130 : decode cX2_lineComes 130 = .ok (.return_, 1) := by decide +kernel
set_option maxRecDepth 20000 in
theorem ggX2_nextLineWaits_X4_isWithin : GoodIn wsX2_nextLineWaits wsX4_isWithin := goodIn_r _ [6] (by decide +kernel) (by decide +kernel)
set_option maxRecDepth 20000 in
theorem gX2_nextLineWaits_X4_isWithin_n50 : GoodIn wsX2_nextLineWaits (wsX4_isWithin) := ggX2_nextLineWaits_X4_isWithin
set_option maxRecDepth 20000 in
theorem ggX2_nextLineWaits_X2_setting : GoodIn wsX2_nextLineWaits wsX2_setting := goodIn_r _ [11, 1, 4, 5, 6, 19, 20, 21, 22, 23, 24] (by decide +kernel) (by decide +kernel)
set_option maxRecDepth 20000 in
theorem gX2_nextLineWaits_X2_setting : GoodIn wsX2_nextLineWaits (wsV RX2 54 RX2 yX2_setting wsX2_setting) := goodIn_app (goodIn_of _ (by decide +kernel)) ggX2_nextLineWaits_X2_setting
set_option maxRecDepth 20000 in
theorem ggX2_nextLineWaits_X3_write : GoodIn wsX2_nextLineWaits wsX3_write := goodIn_r _ [16, 17, 18, 25, 26] (by decide +kernel) (by decide +kernel)
set_option maxRecDepth 20000 in
theorem gX2_nextLineWaits_X3_write : GoodIn wsX2_nextLineWaits (wsV RX2 90 RX3 yX3_write wsX3_write) := goodIn_app (goodIn_of _ (by decide +kernel)) ggX2_nextLineWaits_X3_write
theorem dX2_nextLineWaits_0 : decode cX2_nextLineWaits 0 = .ok (.aload_n 0, 1) := by decide +kernel
theorem dX2_nextLineWaits_1 : decode cX2_nextLineWaits 1 = .ok (.getfield 9, 3) := by decide +kernel
theorem dX2_nextLineWaits_4 : decode cX2_nextLineWaits 4 = .ok (.iconst 2, 1) := by decide +kernel
theorem dX2_nextLineWaits_5 : decode cX2_nextLineWaits 5 = .ok (.iaload, 1) := by decide +kernel
theorem dX2_nextLineWaits_6 : decode cX2_nextLineWaits 6 = .ok (.istore_n 1, 1) := by decide +kernel
theorem dX2_nextLineWaits_7 : decode cX2_nextLineWaits 7 = .ok (.aload_n 0, 1) := by decide +kernel
theorem dX2_nextLineWaits_8 : decode cX2_nextLineWaits 8 = .ok (.getfield 9, 3) := by decide +kernel
theorem dX2_nextLineWaits_11 : decode cX2_nextLineWaits 11 = .ok (.bipush 9, 2) := by decide +kernel
theorem dX2_nextLineWaits_13 : decode cX2_nextLineWaits 13 = .ok (.iaload, 1) := by decide +kernel
theorem dX2_nextLineWaits_14 : decode cX2_nextLineWaits 14 = .ok (.istore_n 2, 1) := by decide +kernel
theorem dX2_nextLineWaits_15 : decode cX2_nextLineWaits 15 = .ok (.aload_n 0, 1) := by decide +kernel
theorem dX2_nextLineWaits_16 : decode cX2_nextLineWaits 16 = .ok (.getfield 9, 3) := by decide +kernel
theorem dX2_nextLineWaits_19 : decode cX2_nextLineWaits 19 = .ok (.bipush 8, 2) := by decide +kernel
theorem dX2_nextLineWaits_21 : decode cX2_nextLineWaits 21 = .ok (.iaload, 1) := by decide +kernel
theorem dX2_nextLineWaits_22 : decode cX2_nextLineWaits 22 = .ok (.istore_n 3, 1) := by decide +kernel
theorem dX2_nextLineWaits_23 : decode cX2_nextLineWaits 23 = .ok (.iload_n 3, 1) := by decide +kernel
theorem dX2_nextLineWaits_24 : decode cX2_nextLineWaits 24 = .ok (.iconst 0, 1) := by decide +kernel
theorem dX2_nextLineWaits_25 : decode cX2_nextLineWaits 25 = .ok (.bipush 15, 2) := by decide +kernel
theorem dX2_nextLineWaits_27 : decode cX2_nextLineWaits 27 = .ok (.invokestatic 50, 3) := by decide +kernel
theorem dX2_nextLineWaits_30 : decode cX2_nextLineWaits 30 = .ok (.ifCond .eq 21, 3) := by decide +kernel
theorem dX2_nextLineWaits_33 : decode cX2_nextLineWaits 33 = .ok (.aload_n 0, 1) := by decide +kernel
theorem dX2_nextLineWaits_34 : decode cX2_nextLineWaits 34 = .ok (.getfield 15, 3) := by decide +kernel
theorem dX2_nextLineWaits_37 : decode cX2_nextLineWaits 37 = .ok (.iload_n 3, 1) := by decide +kernel
theorem dX2_nextLineWaits_38 : decode cX2_nextLineWaits 38 = .ok (.iaload, 1) := by decide +kernel
theorem dX2_nextLineWaits_39 : decode cX2_nextLineWaits 39 = .ok (.aload_n 0, 1) := by decide +kernel
theorem dX2_nextLineWaits_40 : decode cX2_nextLineWaits 40 = .ok (.bipush 7, 2) := by decide +kernel
theorem dX2_nextLineWaits_42 : decode cX2_nextLineWaits 42 = .ok (.invokevirtual 54, 3) := by decide +kernel
theorem dX2_nextLineWaits_45 : decode cX2_nextLineWaits 45 = .ok (.iload_n 2, 1) := by decide +kernel
theorem dX2_nextLineWaits_46 : decode cX2_nextLineWaits 46 = .ok (.imul, 1) := by decide +kernel
theorem dX2_nextLineWaits_47 : decode cX2_nextLineWaits 47 = .ok (.iadd, 1) := by decide +kernel
theorem dX2_nextLineWaits_48 : decode cX2_nextLineWaits 48 = .ok (.goto 4, 3) := by decide +kernel
theorem dX2_nextLineWaits_51 : decode cX2_nextLineWaits 51 = .ok (.iconst 0, 1) := by decide +kernel
theorem dX2_nextLineWaits_52 : decode cX2_nextLineWaits 52 = .ok (.istore 4, 2) := by decide +kernel
theorem dX2_nextLineWaits_54 : decode cX2_nextLineWaits 54 = .ok (.aload_n 0, 1) := by decide +kernel
theorem dX2_nextLineWaits_55 : decode cX2_nextLineWaits 55 = .ok (.getfield 23, 3) := by decide +kernel
theorem dX2_nextLineWaits_58 : decode cX2_nextLineWaits 58 = .ok (.iload_n 1, 1) := by decide +kernel
theorem dX2_nextLineWaits_59 : decode cX2_nextLineWaits 59 = .ok (.iconst 0, 1) := by decide +kernel
theorem dX2_nextLineWaits_60 : decode cX2_nextLineWaits 60 = .ok (.iload_n 2, 1) := by decide +kernel
theorem dX2_nextLineWaits_61 : decode cX2_nextLineWaits 61 = .ok (.invokevirtual 90, 3) := by decide +kernel
theorem dX2_nextLineWaits_64 : decode cX2_nextLineWaits 64 = .ok (.aload_n 0, 1) := by decide +kernel
theorem dX2_nextLineWaits_65 : decode cX2_nextLineWaits 65 = .ok (.getfield 23, 3) := by decide +kernel
theorem dX2_nextLineWaits_68 : decode cX2_nextLineWaits 68 = .ok (.iload_n 1, 1) := by decide +kernel
theorem dX2_nextLineWaits_69 : decode cX2_nextLineWaits 69 = .ok (.iconst 1, 1) := by decide +kernel
theorem dX2_nextLineWaits_70 : decode cX2_nextLineWaits 70 = .ok (.iload_n 3, 1) := by decide +kernel
theorem dX2_nextLineWaits_71 : decode cX2_nextLineWaits 71 = .ok (.invokevirtual 90, 3) := by decide +kernel
theorem dX2_nextLineWaits_74 : decode cX2_nextLineWaits 74 = .ok (.aload_n 0, 1) := by decide +kernel
theorem dX2_nextLineWaits_75 : decode cX2_nextLineWaits 75 = .ok (.getfield 23, 3) := by decide +kernel
theorem dX2_nextLineWaits_78 : decode cX2_nextLineWaits 78 = .ok (.iload_n 1, 1) := by decide +kernel
theorem dX2_nextLineWaits_79 : decode cX2_nextLineWaits 79 = .ok (.iconst 2, 1) := by decide +kernel
theorem dX2_nextLineWaits_80 : decode cX2_nextLineWaits 80 = .ok (.iload 4, 2) := by decide +kernel
theorem dX2_nextLineWaits_82 : decode cX2_nextLineWaits 82 = .ok (.sipush 255, 3) := by decide +kernel
theorem dX2_nextLineWaits_85 : decode cX2_nextLineWaits 85 = .ok (.iand, 1) := by decide +kernel
theorem dX2_nextLineWaits_86 : decode cX2_nextLineWaits 86 = .ok (.invokevirtual 90, 3) := by decide +kernel
theorem dX2_nextLineWaits_89 : decode cX2_nextLineWaits 89 = .ok (.aload_n 0, 1) := by decide +kernel
theorem dX2_nextLineWaits_90 : decode cX2_nextLineWaits 90 = .ok (.getfield 23, 3) := by decide +kernel
theorem dX2_nextLineWaits_93 : decode cX2_nextLineWaits 93 = .ok (.iload_n 1, 1) := by decide +kernel
theorem dX2_nextLineWaits_94 : decode cX2_nextLineWaits 94 = .ok (.iconst 3, 1) := by decide +kernel
theorem dX2_nextLineWaits_95 : decode cX2_nextLineWaits 95 = .ok (.iconst 0, 1) := by decide +kernel
theorem dX2_nextLineWaits_96 : decode cX2_nextLineWaits 96 = .ok (.invokevirtual 90, 3) := by decide +kernel
theorem dX2_nextLineWaits_99 : decode cX2_nextLineWaits 99 = .ok (.aload_n 0, 1) := by decide +kernel
theorem dX2_nextLineWaits_100 : decode cX2_nextLineWaits 100 = .ok (.getfield 9, 3) := by decide +kernel
theorem dX2_nextLineWaits_103 : decode cX2_nextLineWaits 103 = .ok (.iconst 2, 1) := by decide +kernel
theorem dX2_nextLineWaits_104 : decode cX2_nextLineWaits 104 = .ok (.dup2, 1) := by decide +kernel
theorem dX2_nextLineWaits_105 : decode cX2_nextLineWaits 105 = .ok (.iaload, 1) := by decide +kernel
theorem dX2_nextLineWaits_106 : decode cX2_nextLineWaits 106 = .ok (.iconst 1, 1) := by decide +kernel
theorem dX2_nextLineWaits_107 : decode cX2_nextLineWaits 107 = .ok (.iadd, 1) := by decide +kernel
theorem dX2_nextLineWaits_108 : decode cX2_nextLineWaits 108 = .ok (.iastore, 1) := by decide +kernel
theorem dX2_nextLineWaits_109 : decode cX2_nextLineWaits 109 = .ok (.return_, 1) := by decide +kernel
set_option maxRecDepth 20000 in
theorem ggX2_firstNotOut_X3_read : GoodIn wsX2_firstNotOut wsX3_read := goodIn_r _ [7, 8, 9, 16, 17] (by decide +kernel) (by decide +kernel)
set_option maxRecDepth 20000 in
theorem gX2_firstNotOut_X3_read : GoodIn wsX2_firstNotOut (wsV RX2 93 RX3 yX3_read wsX3_read) := goodIn_app (goodIn_of _ (by decide +kernel)) ggX2_firstNotOut_X3_read
theorem dX2_firstNotOut_0 : decode cX2_firstNotOut 0 = .ok (.iconst 0, 1) := by decide +kernel
theorem dX2_firstNotOut_1 : decode cX2_firstNotOut 1 = .ok (.istore_n 1, 1) := by decide +kernel
theorem dX2_firstNotOut_2 : decode cX2_firstNotOut 2 = .ok (.iload_n 1, 1) := by decide +kernel
theorem dX2_firstNotOut_3 : decode cX2_firstNotOut 3 = .ok (.aload_n 0, 1) := by decide +kernel
theorem dX2_firstNotOut_4 : decode cX2_firstNotOut 4 = .ok (.getfield 9, 3) := by decide +kernel
theorem dX2_firstNotOut_7 : decode cX2_firstNotOut 7 = .ok (.iconst 2, 1) := by decide +kernel
theorem dX2_firstNotOut_8 : decode cX2_firstNotOut 8 = .ok (.iaload, 1) := by decide +kernel
theorem dX2_firstNotOut_9 : decode cX2_firstNotOut 9 = .ok (.iconst 1, 1) := by decide +kernel
theorem dX2_firstNotOut_10 : decode cX2_firstNotOut 10 = .ok (.isub, 1) := by decide +kernel
theorem dX2_firstNotOut_11 : decode cX2_firstNotOut 11 = .ok (.if_icmp .ge 21, 3) := by decide +kernel
theorem dX2_firstNotOut_14 : decode cX2_firstNotOut 14 = .ok (.aload_n 0, 1) := by decide +kernel
theorem dX2_firstNotOut_15 : decode cX2_firstNotOut 15 = .ok (.getfield 23, 3) := by decide +kernel
theorem dX2_firstNotOut_18 : decode cX2_firstNotOut 18 = .ok (.iload_n 1, 1) := by decide +kernel
theorem dX2_firstNotOut_19 : decode cX2_firstNotOut 19 = .ok (.iconst 3, 1) := by decide +kernel
theorem dX2_firstNotOut_20 : decode cX2_firstNotOut 20 = .ok (.invokevirtual 93, 3) := by decide +kernel
theorem dX2_firstNotOut_23 : decode cX2_firstNotOut 23 = .ok (.ifCond .eq 9, 3) := by decide +kernel
theorem dX2_firstNotOut_26 : decode cX2_firstNotOut 26 = .ok (.iinc 1 1, 3) := by decide +kernel
theorem dX2_firstNotOut_29 : decode cX2_firstNotOut 29 = .ok (.goto (-27), 3) := by decide +kernel
theorem dX2_firstNotOut_32 : decode cX2_firstNotOut 32 = .ok (.iload_n 1, 1) := by decide +kernel
theorem dX2_firstNotOut_33 : decode cX2_firstNotOut 33 = .ok (.ireturn, 1) := by decide +kernel
set_option maxRecDepth 20000 in
theorem ggX2_loseWaiting_X3_read : GoodIn wsX2_loseWaiting wsX3_read := goodIn_r _ [8, 9, 10, 29, 30] (by decide +kernel) (by decide +kernel)
set_option maxRecDepth 20000 in
theorem gX2_loseWaiting_X3_read : GoodIn wsX2_loseWaiting (wsV RX2 93 RX3 yX3_read wsX3_read) := goodIn_app (goodIn_of _ (by decide +kernel)) ggX2_loseWaiting_X3_read
set_option maxRecDepth 20000 in
theorem ggX2_loseWaiting_X3_write : GoodIn wsX2_loseWaiting wsX3_write := goodIn_r _ [14, 9, 10, 29, 30] (by decide +kernel) (by decide +kernel)
set_option maxRecDepth 20000 in
theorem gX2_loseWaiting_X3_write : GoodIn wsX2_loseWaiting (wsV RX2 90 RX3 yX3_write wsX3_write) := goodIn_app (goodIn_of _ (by decide +kernel)) ggX2_loseWaiting_X3_write
set_option maxRecDepth 20000 in
theorem ggX2_loseWaiting_X3_removeRow : GoodIn wsX2_loseWaiting wsX3_removeRow := goodIn_r _ [18, 9, 10, 19, 20, 21, 22, 29, 30] (by decide +kernel) (by decide +kernel)
set_option maxRecDepth 20000 in
theorem gX2_loseWaiting_X3_removeRow : GoodIn wsX2_loseWaiting (wsV RX2 96 RX3 yX3_removeRow wsX3_removeRow) := goodIn_app (goodIn_of _ (by decide +kernel)) ggX2_loseWaiting_X3_removeRow
theorem dX2_loseWaiting_0 : decode cX2_loseWaiting 0 = .ok (.aload_n 0, 1) := by decide +kernel
theorem dX2_loseWaiting_1 : decode cX2_loseWaiting 1 = .ok (.getfield 9, 3) := by decide +kernel
theorem dX2_loseWaiting_4 : decode cX2_loseWaiting 4 = .ok (.iconst 4, 1) := by decide +kernel
theorem dX2_loseWaiting_5 : decode cX2_loseWaiting 5 = .ok (.iaload, 1) := by decide +kernel
theorem dX2_loseWaiting_6 : decode cX2_loseWaiting 6 = .ok (.bipush 8, 2) := by decide +kernel
theorem dX2_loseWaiting_8 : decode cX2_loseWaiting 8 = .ok (.irem, 1) := by decide +kernel
theorem dX2_loseWaiting_9 : decode cX2_loseWaiting 9 = .ok (.istore_n 3, 1) := by decide +kernel
theorem dX2_loseWaiting_10 : decode cX2_loseWaiting 10 = .ok (.aload_n 0, 1) := by decide +kernel
theorem dX2_loseWaiting_11 : decode cX2_loseWaiting 11 = .ok (.getfield 30, 3) := by decide +kernel
theorem dX2_loseWaiting_14 : decode cX2_loseWaiting 14 = .ok (.iload_n 3, 1) := by decide +kernel
theorem dX2_loseWaiting_15 : decode cX2_loseWaiting 15 = .ok (.iconst 0, 1) := by decide +kernel
theorem dX2_loseWaiting_16 : decode cX2_loseWaiting 16 = .ok (.aload_n 0, 1) := by decide +kernel
theorem dX2_loseWaiting_17 : decode cX2_loseWaiting 17 = .ok (.getfield 23, 3) := by decide +kernel
theorem dX2_loseWaiting_20 : decode cX2_loseWaiting 20 = .ok (.iload_n 1, 1) := by decide +kernel
theorem dX2_loseWaiting_21 : decode cX2_loseWaiting 21 = .ok (.iconst 0, 1) := by decide +kernel
theorem dX2_loseWaiting_22 : decode cX2_loseWaiting 22 = .ok (.invokevirtual 93, 3) := by decide +kernel
theorem dX2_loseWaiting_25 : decode cX2_loseWaiting 25 = .ok (.invokevirtual 90, 3) := by decide +kernel
theorem dX2_loseWaiting_28 : decode cX2_loseWaiting 28 = .ok (.aload_n 0, 1) := by decide +kernel
theorem dX2_loseWaiting_29 : decode cX2_loseWaiting 29 = .ok (.getfield 30, 3) := by decide +kernel
theorem dX2_loseWaiting_32 : decode cX2_loseWaiting 32 = .ok (.iload_n 3, 1) := by decide +kernel
theorem dX2_loseWaiting_33 : decode cX2_loseWaiting 33 = .ok (.iconst 1, 1) := by decide +kernel
theorem dX2_loseWaiting_34 : decode cX2_loseWaiting 34 = .ok (.aload_n 0, 1) := by decide +kernel
theorem dX2_loseWaiting_35 : decode cX2_loseWaiting 35 = .ok (.getfield 23, 3) := by decide +kernel
theorem dX2_loseWaiting_38 : decode cX2_loseWaiting 38 = .ok (.iload_n 1, 1) := by decide +kernel
theorem dX2_loseWaiting_39 : decode cX2_loseWaiting 39 = .ok (.iconst 1, 1) := by decide +kernel
theorem dX2_loseWaiting_40 : decode cX2_loseWaiting 40 = .ok (.invokevirtual 93, 3) := by decide +kernel
theorem dX2_loseWaiting_43 : decode cX2_loseWaiting 43 = .ok (.invokevirtual 90, 3) := by decide +kernel
theorem dX2_loseWaiting_46 : decode cX2_loseWaiting 46 = .ok (.aload_n 0, 1) := by decide +kernel
theorem dX2_loseWaiting_47 : decode cX2_loseWaiting 47 = .ok (.getfield 30, 3) := by decide +kernel
theorem dX2_loseWaiting_50 : decode cX2_loseWaiting 50 = .ok (.iload_n 3, 1) := by decide +kernel
theorem dX2_loseWaiting_51 : decode cX2_loseWaiting 51 = .ok (.iconst 2, 1) := by decide +kernel
theorem dX2_loseWaiting_52 : decode cX2_loseWaiting 52 = .ok (.iload_n 2, 1) := by decide +kernel
theorem dX2_loseWaiting_53 : decode cX2_loseWaiting 53 = .ok (.invokevirtual 90, 3) := by decide +kernel
theorem dX2_loseWaiting_56 : decode cX2_loseWaiting 56 = .ok (.aload_n 0, 1) := by decide +kernel
theorem dX2_loseWaiting_57 : decode cX2_loseWaiting 57 = .ok (.getfield 30, 3) := by decide +kernel
theorem dX2_loseWaiting_60 : decode cX2_loseWaiting 60 = .ok (.iload_n 3, 1) := by decide +kernel
theorem dX2_loseWaiting_61 : decode cX2_loseWaiting 61 = .ok (.iconst 3, 1) := by decide +kernel
theorem dX2_loseWaiting_62 : decode cX2_loseWaiting 62 = .ok (.aload_n 0, 1) := by decide +kernel
theorem dX2_loseWaiting_63 : decode cX2_loseWaiting 63 = .ok (.getfield 9, 3) := by decide +kernel
theorem dX2_loseWaiting_66 : decode cX2_loseWaiting 66 = .ok (.iconst 0, 1) := by decide +kernel
theorem dX2_loseWaiting_67 : decode cX2_loseWaiting 67 = .ok (.iaload, 1) := by decide +kernel
theorem dX2_loseWaiting_68 : decode cX2_loseWaiting 68 = .ok (.invokevirtual 90, 3) := by decide +kernel
theorem dX2_loseWaiting_71 : decode cX2_loseWaiting 71 = .ok (.aload_n 0, 1) := by decide +kernel
theorem dX2_loseWaiting_72 : decode cX2_loseWaiting 72 = .ok (.getfield 9, 3) := by decide +kernel
theorem dX2_loseWaiting_75 : decode cX2_loseWaiting 75 = .ok (.iconst 4, 1) := by decide +kernel
theorem dX2_loseWaiting_76 : decode cX2_loseWaiting 76 = .ok (.dup2, 1) := by decide +kernel
theorem dX2_loseWaiting_77 : decode cX2_loseWaiting 77 = .ok (.iaload, 1) := by decide +kernel
theorem dX2_loseWaiting_78 : decode cX2_loseWaiting 78 = .ok (.iconst 1, 1) := by decide +kernel
theorem dX2_loseWaiting_79 : decode cX2_loseWaiting 79 = .ok (.iadd, 1) := by decide +kernel
theorem dX2_loseWaiting_80 : decode cX2_loseWaiting 80 = .ok (.iastore, 1) := by decide +kernel
theorem dX2_loseWaiting_81 : decode cX2_loseWaiting 81 = .ok (.aload_n 0, 1) := by decide +kernel
theorem dX2_loseWaiting_82 : decode cX2_loseWaiting 82 = .ok (.getfield 23, 3) := by decide +kernel
theorem dX2_loseWaiting_85 : decode cX2_loseWaiting 85 = .ok (.iload_n 1, 1) := by decide +kernel
theorem dX2_loseWaiting_86 : decode cX2_loseWaiting 86 = .ok (.invokevirtual 96, 3) := by decide +kernel
theorem dX2_loseWaiting_89 : decode cX2_loseWaiting 89 = .ok (.aload_n 0, 1) := by decide +kernel
theorem dX2_loseWaiting_90 : decode cX2_loseWaiting 90 = .ok (.getfield 9, 3) := by decide +kernel
theorem dX2_loseWaiting_93 : decode cX2_loseWaiting 93 = .ok (.iconst 2, 1) := by decide +kernel
theorem dX2_loseWaiting_94 : decode cX2_loseWaiting 94 = .ok (.dup2, 1) := by decide +kernel
theorem dX2_loseWaiting_95 : decode cX2_loseWaiting 95 = .ok (.iaload, 1) := by decide +kernel
theorem dX2_loseWaiting_96 : decode cX2_loseWaiting 96 = .ok (.iconst 1, 1) := by decide +kernel
theorem dX2_loseWaiting_97 : decode cX2_loseWaiting 97 = .ok (.isub, 1) := by decide +kernel
theorem dX2_loseWaiting_98 : decode cX2_loseWaiting 98 = .ok (.iastore, 1) := by decide +kernel
theorem dX2_loseWaiting_99 : decode cX2_loseWaiting 99 = .ok (.return_, 1) := by decide +kernel
set_option maxRecDepth 20000 in
theorem ggX2_rowGoesOut_X2_rowsOfScreen : GoodIn wsX2_rowGoesOut wsX2_rowsOfScreen := goodIn_r _ [6, 7, 8, 9, 5, 10, 1, 11, 12, 13, 56, 57, 58, 59, 60, 61] (by decide +kernel) (by decide +kernel)
set_option maxRecDepth 20000 in
theorem gX2_rowGoesOut_X2_rowsOfScreen : GoodIn wsX2_rowGoesOut (wsV RX2 100 RX2 yX2_rowsOfScreen wsX2_rowsOfScreen) := goodIn_app (goodIn_of _ (by decide +kernel)) ggX2_rowGoesOut_X2_rowsOfScreen
set_option maxRecDepth 20000 in
theorem ggX2_rowGoesOut_X2_setting : GoodIn wsX2_rowGoesOut wsX2_setting := goodIn_r _ [10, 1, 11, 12, 13, 56, 57, 58, 59, 60, 61] (by decide +kernel) (by decide +kernel)
set_option maxRecDepth 20000 in
theorem gX2_rowGoesOut_X2_setting : GoodIn wsX2_rowGoesOut (wsV RX2 54 RX2 yX2_setting wsX2_setting) := goodIn_app (goodIn_of _ (by decide +kernel)) ggX2_rowGoesOut_X2_setting
set_option maxRecDepth 20000 in
theorem ggX2_rowGoesOut_X2_skipToPicture : GoodIn wsX2_rowGoesOut wsX2_skipToPicture := goodIn_r _ [17, 1, 18, 19, 20, 21, 22, 23, 24, 25, 26, 27, 28, 5, 29, 30, 31, 32, 33, 34, 35, 36, 37, 38, 39, 40, 41, 42, 56, 57, 58, 59, 60, 61, 62, 63] (by decide +kernel) (by decide +kernel)
set_option maxRecDepth 20000 in
theorem gX2_rowGoesOut_X2_skipToPicture : GoodIn wsX2_rowGoesOut (wsV RX2 103 RX2 yX2_skipToPicture wsX2_skipToPicture) := goodIn_app (goodIn_of _ (by decide +kernel)) ggX2_rowGoesOut_X2_skipToPicture
set_option maxRecDepth 20000 in
theorem ggX2_rowGoesOut_X2_showFirstWaiting : GoodIn wsX2_rowGoesOut wsX2_showFirstWaiting := goodIn_r _ [46, 47, 18, 1, 19, 20, 21, 22, 23, 24, 25, 31, 32, 33, 34, 35, 36, 37, 38, 39, 40, 41, 42, 56, 57, 58, 59, 60, 61, 62, 63] (by decide +kernel) (by decide +kernel)
set_option maxRecDepth 20000 in
theorem gX2_rowGoesOut_X2_showFirstWaiting : GoodIn wsX2_rowGoesOut (wsV RX2 106 RX2 yX2_showFirstWaiting wsX2_showFirstWaiting) := goodIn_app (goodIn_of _ (by decide +kernel)) ggX2_rowGoesOut_X2_showFirstWaiting
set_option maxRecDepth 20000 in
theorem ggX2_rowGoesOut_X2_showColour : GoodIn wsX2_rowGoesOut wsX2_showColour := goodIn_r _ [51, 47, 1, 7, 8, 9, 5, 10, 11, 12, 13, 31, 32, 33, 22, 34, 24, 25, 56, 57, 58, 59, 60, 61, 62, 63] (by decide +kernel) (by decide +kernel)
set_option maxRecDepth 20000 in
theorem gX2_rowGoesOut_X2_showColour : GoodIn wsX2_rowGoesOut (wsV RX2 109 RX2 yX2_showColour wsX2_showColour) := goodIn_app (goodIn_of _ (by decide +kernel)) ggX2_rowGoesOut_X2_showColour
set_option maxRecDepth 20000 in
theorem ggX2_rowGoesOut_X2_judgeScreen : GoodIn wsX2_rowGoesOut wsX2_judgeScreen := goodIn_r _ [55, 47, 19, 20, 21, 22, 23, 24, 25, 56, 57, 58, 59, 60, 61, 62, 63] (by decide +kernel) (by decide +kernel)
set_option maxRecDepth 20000 in
theorem gX2_rowGoesOut_X2_judgeScreen : GoodIn wsX2_rowGoesOut (wsV RX2 112 RX2 yX2_judgeScreen wsX2_judgeScreen) := goodIn_app (goodIn_of _ (by decide +kernel)) ggX2_rowGoesOut_X2_judgeScreen
theorem dX2_rowGoesOut_0 : decode cX2_rowGoesOut 0 = .ok (.aload_n 0, 1) := by decide +kernel
theorem dX2_rowGoesOut_1 : decode cX2_rowGoesOut 1 = .ok (.invokevirtual 100, 3) := by decide +kernel
theorem dX2_rowGoesOut_4 : decode cX2_rowGoesOut 4 = .ok (.istore_n 1, 1) := by decide +kernel
theorem dX2_rowGoesOut_5 : decode cX2_rowGoesOut 5 = .ok (.aload_n 0, 1) := by decide +kernel
theorem dX2_rowGoesOut_6 : decode cX2_rowGoesOut 6 = .ok (.getfield 9, 3) := by decide +kernel
theorem dX2_rowGoesOut_9 : decode cX2_rowGoesOut 9 = .ok (.bipush 7, 2) := by decide +kernel
theorem dX2_rowGoesOut_11 : decode cX2_rowGoesOut 11 = .ok (.iaload, 1) := by decide +kernel
theorem dX2_rowGoesOut_12 : decode cX2_rowGoesOut 12 = .ok (.istore_n 2, 1) := by decide +kernel
theorem dX2_rowGoesOut_13 : decode cX2_rowGoesOut 13 = .ok (.iload_n 2, 1) := by decide +kernel
theorem dX2_rowGoesOut_14 : decode cX2_rowGoesOut 14 = .ok (.ifCond .ne 16, 3) := by decide +kernel
theorem dX2_rowGoesOut_17 : decode cX2_rowGoesOut 17 = .ok (.aload_n 0, 1) := by decide +kernel
theorem dX2_rowGoesOut_18 : decode cX2_rowGoesOut 18 = .ok (.iconst 5, 1) := by decide +kernel
theorem dX2_rowGoesOut_19 : decode cX2_rowGoesOut 19 = .ok (.invokevirtual 54, 3) := by decide +kernel
theorem dX2_rowGoesOut_22 : decode cX2_rowGoesOut 22 = .ok (.iconst 1, 1) := by decide +kernel
theorem dX2_rowGoesOut_23 : decode cX2_rowGoesOut 23 = .ok (.if_icmp .ne 7, 3) := by decide +kernel
theorem dX2_rowGoesOut_26 : decode cX2_rowGoesOut 26 = .ok (.aload_n 0, 1) := by decide +kernel
theorem dX2_rowGoesOut_27 : decode cX2_rowGoesOut 27 = .ok (.invokevirtual 103, 3) := by decide +kernel
theorem dX2_rowGoesOut_30 : decode cX2_rowGoesOut 30 = .ok (.aload_n 0, 1) := by decide +kernel
theorem dX2_rowGoesOut_31 : decode cX2_rowGoesOut 31 = .ok (.getfield 9, 3) := by decide +kernel
theorem dX2_rowGoesOut_34 : decode cX2_rowGoesOut 34 = .ok (.iconst 2, 1) := by decide +kernel
theorem dX2_rowGoesOut_35 : decode cX2_rowGoesOut 35 = .ok (.iaload, 1) := by decide +kernel
theorem dX2_rowGoesOut_36 : decode cX2_rowGoesOut 36 = .ok (.ifCond .le 11, 3) := by decide +kernel
theorem dX2_rowGoesOut_39 : decode cX2_rowGoesOut 39 = .ok (.aload_n 0, 1) := by decide +kernel
theorem dX2_rowGoesOut_40 : decode cX2_rowGoesOut 40 = .ok (.iload_n 2, 1) := by decide +kernel
theorem dX2_rowGoesOut_41 : decode cX2_rowGoesOut 41 = .ok (.invokevirtual 106, 3) := by decide +kernel
theorem dX2_rowGoesOut_44 : decode cX2_rowGoesOut 44 = .ok (.goto 8, 3) := by decide +kernel
theorem dX2_rowGoesOut_47 : decode cX2_rowGoesOut 47 = .ok (.aload_n 0, 1) := by decide +kernel
theorem dX2_rowGoesOut_48 : decode cX2_rowGoesOut 48 = .ok (.iload_n 2, 1) := by decide +kernel
theorem dX2_rowGoesOut_49 : decode cX2_rowGoesOut 49 = .ok (.invokevirtual 109, 3) := by decide +kernel
theorem dX2_rowGoesOut_52 : decode cX2_rowGoesOut 52 = .ok (.aload_n 0, 1) := by decide +kernel
theorem dX2_rowGoesOut_53 : decode cX2_rowGoesOut 53 = .ok (.getfield 9, 3) := by decide +kernel
theorem dX2_rowGoesOut_56 : decode cX2_rowGoesOut 56 = .ok (.iconst 5, 1) := by decide +kernel
theorem dX2_rowGoesOut_57 : decode cX2_rowGoesOut 57 = .ok (.dup2, 1) := by decide +kernel
theorem dX2_rowGoesOut_58 : decode cX2_rowGoesOut 58 = .ok (.iaload, 1) := by decide +kernel
theorem dX2_rowGoesOut_59 : decode cX2_rowGoesOut 59 = .ok (.iconst 1, 1) := by decide +kernel
theorem dX2_rowGoesOut_60 : decode cX2_rowGoesOut 60 = .ok (.iadd, 1) := by decide +kernel
theorem dX2_rowGoesOut_61 : decode cX2_rowGoesOut 61 = .ok (.iastore, 1) := by decide +kernel
theorem dX2_rowGoesOut_62 : decode cX2_rowGoesOut 62 = .ok (.aload_n 0, 1) := by decide +kernel
theorem dX2_rowGoesOut_63 : decode cX2_rowGoesOut 63 = .ok (.getfield 9, 3) := by decide +kernel
theorem dX2_rowGoesOut_66 : decode cX2_rowGoesOut 66 = .ok (.bipush 7, 2) := by decide +kernel
theorem dX2_rowGoesOut_68 : decode cX2_rowGoesOut 68 = .ok (.iload_n 2, 1) := by decide +kernel
theorem dX2_rowGoesOut_69 : decode cX2_rowGoesOut 69 = .ok (.iconst 1, 1) := by decide +kernel
theorem dX2_rowGoesOut_70 : decode cX2_rowGoesOut 70 = .ok (.iadd, 1) := by decide +kernel
theorem dX2_rowGoesOut_71 : decode cX2_rowGoesOut 71 = .ok (.iastore, 1) := by decide +kernel
theorem dX2_rowGoesOut_72 : decode cX2_rowGoesOut 72 = .ok (.aload_n 0, 1) := by decide +kernel
theorem dX2_rowGoesOut_73 : decode cX2_rowGoesOut 73 = .ok (.getfield 9, 3) := by decide +kernel
theorem dX2_rowGoesOut_76 : decode cX2_rowGoesOut 76 = .ok (.bipush 7, 2) := by decide +kernel
theorem dX2_rowGoesOut_78 : decode cX2_rowGoesOut 78 = .ok (.iaload, 1) := by decide +kernel
theorem dX2_rowGoesOut_79 : decode cX2_rowGoesOut 79 = .ok (.iload_n 1, 1) := by decide +kernel
theorem dX2_rowGoesOut_80 : decode cX2_rowGoesOut 80 = .ok (.if_icmp .lt 38, 3) := by decide +kernel
theorem dX2_rowGoesOut_83 : decode cX2_rowGoesOut 83 = .ok (.aload_n 0, 1) := by decide +kernel
theorem dX2_rowGoesOut_84 : decode cX2_rowGoesOut 84 = .ok (.getfield 9, 3) := by decide +kernel
theorem dX2_rowGoesOut_87 : decode cX2_rowGoesOut 87 = .ok (.bipush 7, 2) := by decide +kernel
theorem dX2_rowGoesOut_89 : decode cX2_rowGoesOut 89 = .ok (.iconst 0, 1) := by decide +kernel
theorem dX2_rowGoesOut_90 : decode cX2_rowGoesOut 90 = .ok (.iastore, 1) := by decide +kernel
theorem dX2_rowGoesOut_91 : decode cX2_rowGoesOut 91 = .ok (.aload_n 0, 1) := by decide +kernel
theorem dX2_rowGoesOut_92 : decode cX2_rowGoesOut 92 = .ok (.iload_n 1, 1) := by decide +kernel
theorem dX2_rowGoesOut_93 : decode cX2_rowGoesOut 93 = .ok (.invokevirtual 112, 3) := by decide +kernel
theorem dX2_rowGoesOut_96 : decode cX2_rowGoesOut 96 = .ok (.istore_n 3, 1) := by decide +kernel
theorem dX2_rowGoesOut_97 : decode cX2_rowGoesOut 97 = .ok (.aload_n 0, 1) := by decide +kernel
theorem dX2_rowGoesOut_98 : decode cX2_rowGoesOut 98 = .ok (.getfield 9, 3) := by decide +kernel
theorem dX2_rowGoesOut_101 : decode cX2_rowGoesOut 101 = .ok (.bipush 12, 2) := by decide +kernel
theorem dX2_rowGoesOut_103 : decode cX2_rowGoesOut 103 = .ok (.iload_n 3, 1) := by decide +kernel
theorem dX2_rowGoesOut_104 : decode cX2_rowGoesOut 104 = .ok (.iadd, 1) := by decide +kernel
theorem dX2_rowGoesOut_105 : decode cX2_rowGoesOut 105 = .ok (.dup2, 1) := by decide +kernel
theorem dX2_rowGoesOut_106 : decode cX2_rowGoesOut 106 = .ok (.iaload, 1) := by decide +kernel
theorem dX2_rowGoesOut_107 : decode cX2_rowGoesOut 107 = .ok (.iconst 1, 1) := by decide +kernel
theorem dX2_rowGoesOut_108 : decode cX2_rowGoesOut 108 = .ok (.iadd, 1) := by decide +kernel
theorem dX2_rowGoesOut_109 : decode cX2_rowGoesOut 109 = .ok (.iastore, 1) := by decide +kernel
theorem dX2_rowGoesOut_110 : decode cX2_rowGoesOut 110 = .ok (.aload_n 0, 1) := by decide +kernel
theorem dX2_rowGoesOut_111 : decode cX2_rowGoesOut 111 = .ok (.getfield 9, 3) := by decide +kernel
theorem dX2_rowGoesOut_114 : decode cX2_rowGoesOut 114 = .ok (.bipush 15, 2) := by decide +kernel
theorem dX2_rowGoesOut_116 : decode cX2_rowGoesOut 116 = .ok (.iload_n 3, 1) := by decide +kernel
theorem dX2_rowGoesOut_117 : decode cX2_rowGoesOut 117 = .ok (.iastore, 1) := by decide +kernel
theorem dX2_rowGoesOut_118 : decode cX2_rowGoesOut 118 = .ok (.aload_n 0, 1) := by decide +kernel
theorem dX2_rowGoesOut_119 : decode cX2_rowGoesOut 119 = .ok (.getfield 9, 3) := by decide +kernel
theorem dX2_rowGoesOut_122 : decode cX2_rowGoesOut 122 = .ok (.bipush 11, 2) := by decide +kernel
theorem dX2_rowGoesOut_124 : decode cX2_rowGoesOut 124 = .ok (.dup2, 1) := by decide +kernel
theorem dX2_rowGoesOut_125 : decode cX2_rowGoesOut 125 = .ok (.iaload, 1) := by decide +kernel
theorem dX2_rowGoesOut_126 : decode cX2_rowGoesOut 126 = .ok (.aload_n 0, 1) := by decide +kernel
theorem dX2_rowGoesOut_127 : decode cX2_rowGoesOut 127 = .ok (.iconst 1, 1) := by decide +kernel
theorem dX2_rowGoesOut_128 : decode cX2_rowGoesOut 128 = .ok (.invokevirtual 54, 3) := by decide +kernel
theorem dX2_rowGoesOut_131 : decode cX2_rowGoesOut 131 = .ok (.iadd, 1) := by decide +kernel
theorem dX2_rowGoesOut_132 : decode cX2_rowGoesOut 132 = .ok (.iastore, 1) := by decide +kernel
theorem dX2_rowGoesOut_133 : decode cX2_rowGoesOut 133 = .ok (.return_, 1) := by decide +kernel
set_option maxRecDepth 20000 in
theorem ggX2_skipToPicture_X3_read : GoodIn wsX2_skipToPicture wsX3_read := goodIn_r _ [7, 8, 9, 34, 35] (by decide +kernel) (by decide +kernel)
set_option maxRecDepth 20000 in
theorem gX2_skipToPicture_X3_read : GoodIn wsX2_skipToPicture (wsV RX2 93 RX3 yX3_read wsX3_read) := goodIn_app (goodIn_of _ (by decide +kernel)) ggX2_skipToPicture_X3_read
set_option maxRecDepth 20000 in
theorem ggX2_skipToPicture_X2_loseWaiting : GoodIn wsX2_skipToPicture wsX2_loseWaiting := goodIn_r _ [14, 1, 15, 2, 3, 4, 5, 6, 7, 8, 9, 16, 17, 18, 19, 20, 21, 22, 23, 24, 25, 26, 27, 28, 29, 30, 31, 32, 33, 34, 35] (by decide +kernel) (by decide +kernel)
set_option maxRecDepth 20000 in
theorem gX2_skipToPicture_X2_loseWaiting : GoodIn wsX2_skipToPicture (wsV RX2 79 RX2 yX2_loseWaiting wsX2_loseWaiting) := goodIn_app (goodIn_of _ (by decide +kernel)) ggX2_skipToPicture_X2_loseWaiting
theorem dX2_skipToPicture_0 : decode cX2_skipToPicture 0 = .ok (.aload_n 0, 1) := by decide +kernel
theorem dX2_skipToPicture_1 : decode cX2_skipToPicture 1 = .ok (.getfield 9, 3) := by decide +kernel
theorem dX2_skipToPicture_4 : decode cX2_skipToPicture 4 = .ok (.iconst 2, 1) := by decide +kernel
theorem dX2_skipToPicture_5 : decode cX2_skipToPicture 5 = .ok (.iaload, 1) := by decide +kernel
theorem dX2_skipToPicture_6 : decode cX2_skipToPicture 6 = .ok (.istore_n 1, 1) := by decide +kernel
theorem dX2_skipToPicture_7 : decode cX2_skipToPicture 7 = .ok (.iconst 0, 1) := by decide +kernel
theorem dX2_skipToPicture_8 : decode cX2_skipToPicture 8 = .ok (.istore_n 2, 1) := by decide +kernel
theorem dX2_skipToPicture_9 : decode cX2_skipToPicture 9 = .ok (.iload_n 2, 1) := by decide +kernel
theorem dX2_skipToPicture_10 : decode cX2_skipToPicture 10 = .ok (.iload_n 1, 1) := by decide +kernel
theorem dX2_skipToPicture_11 : decode cX2_skipToPicture 11 = .ok (.if_icmp .ge 40, 3) := by decide +kernel
theorem dX2_skipToPicture_14 : decode cX2_skipToPicture 14 = .ok (.aload_n 0, 1) := by decide +kernel
theorem dX2_skipToPicture_15 : decode cX2_skipToPicture 15 = .ok (.getfield 23, 3) := by decide +kernel
theorem dX2_skipToPicture_18 : decode cX2_skipToPicture 18 = .ok (.iconst 0, 1) := by decide +kernel
theorem dX2_skipToPicture_19 : decode cX2_skipToPicture 19 = .ok (.iconst 1, 1) := by decide +kernel
theorem dX2_skipToPicture_20 : decode cX2_skipToPicture 20 = .ok (.invokevirtual 93, 3) := by decide +kernel
theorem dX2_skipToPicture_23 : decode cX2_skipToPicture 23 = .ok (.ifCond .ne 16, 3) := by decide +kernel
theorem dX2_skipToPicture_26 : decode cX2_skipToPicture 26 = .ok (.aload_n 0, 1) := by decide +kernel
theorem dX2_skipToPicture_27 : decode cX2_skipToPicture 27 = .ok (.getfield 23, 3) := by decide +kernel
theorem dX2_skipToPicture_30 : decode cX2_skipToPicture 30 = .ok (.iconst 0, 1) := by decide +kernel
theorem dX2_skipToPicture_31 : decode cX2_skipToPicture 31 = .ok (.iconst 3, 1) := by decide +kernel
theorem dX2_skipToPicture_32 : decode cX2_skipToPicture 32 = .ok (.invokevirtual 93, 3) := by decide +kernel
theorem dX2_skipToPicture_35 : decode cX2_skipToPicture 35 = .ok (.ifCond .ne 4, 3) := by decide +kernel
theorem dX2_skipToPicture_38 : decode cX2_skipToPicture 38 = .ok (.return_, 1) := by decide +kernel
theorem dX2_skipToPicture_39 : decode cX2_skipToPicture 39 = .ok (.aload_n 0, 1) := by decide +kernel
theorem dX2_skipToPicture_40 : decode cX2_skipToPicture 40 = .ok (.iconst 0, 1) := by decide +kernel
theorem dX2_skipToPicture_41 : decode cX2_skipToPicture 41 = .ok (.iconst 2, 1) := by decide +kernel
theorem dX2_skipToPicture_42 : decode cX2_skipToPicture 42 = .ok (.invokevirtual 79, 3) := by decide +kernel
theorem dX2_skipToPicture_45 : decode cX2_skipToPicture 45 = .ok (.iinc 2 1, 3) := by decide +kernel
theorem dX2_skipToPicture_48 : decode cX2_skipToPicture 48 = .ok (.goto (-39), 3) := by decide +kernel
theorem dX2_skipToPicture_51 : decode cX2_skipToPicture 51 = .ok (.return_, 1) := by decide +kernel
set_option maxRecDepth 20000 in
theorem ggX2_showFirstWaiting_X3_read : GoodIn wsX2_showFirstWaiting wsX3_read := goodIn_r _ [8, 9, 10, 29, 30] (by decide +kernel) (by decide +kernel)
set_option maxRecDepth 20000 in
theorem gX2_showFirstWaiting_X3_read : GoodIn wsX2_showFirstWaiting (wsV RX2 93 RX3 yX3_read wsX3_read) := goodIn_app (goodIn_of _ (by decide +kernel)) ggX2_showFirstWaiting_X3_read
set_option maxRecDepth 20000 in
theorem ggX2_showFirstWaiting_X3_write : GoodIn wsX2_showFirstWaiting wsX3_write := goodIn_r _ [14, 9, 10, 29, 30] (by decide +kernel) (by decide +kernel)
set_option maxRecDepth 20000 in
theorem gX2_showFirstWaiting_X3_write : GoodIn wsX2_showFirstWaiting (wsV RX2 90 RX3 yX3_write wsX3_write) := goodIn_app (goodIn_of _ (by decide +kernel)) ggX2_showFirstWaiting_X3_write
set_option maxRecDepth 20000 in
theorem ggX2_showFirstWaiting_X3_removeRow : GoodIn wsX2_showFirstWaiting wsX3_removeRow := goodIn_r _ [18, 9, 10, 19, 20, 21, 22, 29, 30] (by decide +kernel) (by decide +kernel)
set_option maxRecDepth 20000 in
theorem gX2_showFirstWaiting_X3_removeRow : GoodIn wsX2_showFirstWaiting (wsV RX2 96 RX3 yX3_removeRow wsX3_removeRow) := goodIn_app (goodIn_of _ (by decide +kernel)) ggX2_showFirstWaiting_X3_removeRow
theorem dX2_showFirstWaiting_0 : decode cX2_showFirstWaiting 0 = .ok (.aload_n 0, 1) := by decide +kernel
theorem dX2_showFirstWaiting_1 : decode cX2_showFirstWaiting 1 = .ok (.getfield 27, 3) := by decide +kernel
theorem dX2_showFirstWaiting_4 : decode cX2_showFirstWaiting 4 = .ok (.iload_n 1, 1) := by decide +kernel
theorem dX2_showFirstWaiting_5 : decode cX2_showFirstWaiting 5 = .ok (.iconst 0, 1) := by decide +kernel
theorem dX2_showFirstWaiting_6 : decode cX2_showFirstWaiting 6 = .ok (.aload_n 0, 1) := by decide +kernel
theorem dX2_showFirstWaiting_7 : decode cX2_showFirstWaiting 7 = .ok (.getfield 23, 3) := by decide +kernel
theorem dX2_showFirstWaiting_10 : decode cX2_showFirstWaiting 10 = .ok (.iconst 0, 1) := by decide +kernel
theorem dX2_showFirstWaiting_11 : decode cX2_showFirstWaiting 11 = .ok (.iconst 2, 1) := by decide +kernel
theorem dX2_showFirstWaiting_12 : decode cX2_showFirstWaiting 12 = .ok (.invokevirtual 93, 3) := by decide +kernel
theorem dX2_showFirstWaiting_15 : decode cX2_showFirstWaiting 15 = .ok (.invokevirtual 90, 3) := by decide +kernel
theorem dX2_showFirstWaiting_18 : decode cX2_showFirstWaiting 18 = .ok (.aload_n 0, 1) := by decide +kernel
theorem dX2_showFirstWaiting_19 : decode cX2_showFirstWaiting 19 = .ok (.getfield 27, 3) := by decide +kernel
theorem dX2_showFirstWaiting_22 : decode cX2_showFirstWaiting 22 = .ok (.iload_n 1, 1) := by decide +kernel
theorem dX2_showFirstWaiting_23 : decode cX2_showFirstWaiting 23 = .ok (.iconst 1, 1) := by decide +kernel
theorem dX2_showFirstWaiting_24 : decode cX2_showFirstWaiting 24 = .ok (.aload_n 0, 1) := by decide +kernel
theorem dX2_showFirstWaiting_25 : decode cX2_showFirstWaiting 25 = .ok (.getfield 23, 3) := by decide +kernel
theorem dX2_showFirstWaiting_28 : decode cX2_showFirstWaiting 28 = .ok (.iconst 0, 1) := by decide +kernel
theorem dX2_showFirstWaiting_29 : decode cX2_showFirstWaiting 29 = .ok (.iconst 0, 1) := by decide +kernel
theorem dX2_showFirstWaiting_30 : decode cX2_showFirstWaiting 30 = .ok (.invokevirtual 93, 3) := by decide +kernel
theorem dX2_showFirstWaiting_33 : decode cX2_showFirstWaiting 33 = .ok (.invokevirtual 90, 3) := by decide +kernel
theorem dX2_showFirstWaiting_36 : decode cX2_showFirstWaiting 36 = .ok (.aload_n 0, 1) := by decide +kernel
theorem dX2_showFirstWaiting_37 : decode cX2_showFirstWaiting 37 = .ok (.getfield 27, 3) := by decide +kernel
theorem dX2_showFirstWaiting_40 : decode cX2_showFirstWaiting 40 = .ok (.iload_n 1, 1) := by decide +kernel
theorem dX2_showFirstWaiting_41 : decode cX2_showFirstWaiting 41 = .ok (.iconst 2, 1) := by decide +kernel
theorem dX2_showFirstWaiting_42 : decode cX2_showFirstWaiting 42 = .ok (.aload_n 0, 1) := by decide +kernel
theorem dX2_showFirstWaiting_43 : decode cX2_showFirstWaiting 43 = .ok (.getfield 23, 3) := by decide +kernel
theorem dX2_showFirstWaiting_46 : decode cX2_showFirstWaiting 46 = .ok (.iconst 0, 1) := by decide +kernel
theorem dX2_showFirstWaiting_47 : decode cX2_showFirstWaiting 47 = .ok (.iconst 1, 1) := by decide +kernel
theorem dX2_showFirstWaiting_48 : decode cX2_showFirstWaiting 48 = .ok (.invokevirtual 93, 3) := by decide +kernel
theorem dX2_showFirstWaiting_51 : decode cX2_showFirstWaiting 51 = .ok (.invokevirtual 90, 3) := by decide +kernel
theorem dX2_showFirstWaiting_54 : decode cX2_showFirstWaiting 54 = .ok (.aload_n 0, 1) := by decide +kernel
theorem dX2_showFirstWaiting_55 : decode cX2_showFirstWaiting 55 = .ok (.getfield 23, 3) := by decide +kernel
theorem dX2_showFirstWaiting_58 : decode cX2_showFirstWaiting 58 = .ok (.iconst 0, 1) := by decide +kernel
theorem dX2_showFirstWaiting_59 : decode cX2_showFirstWaiting 59 = .ok (.iconst 3, 1) := by decide +kernel
theorem dX2_showFirstWaiting_60 : decode cX2_showFirstWaiting 60 = .ok (.invokevirtual 93, 3) := by decide +kernel
theorem dX2_showFirstWaiting_63 : decode cX2_showFirstWaiting 63 = .ok (.ifCond .ne 16, 3) := by decide +kernel
theorem dX2_showFirstWaiting_66 : decode cX2_showFirstWaiting 66 = .ok (.aload_n 0, 1) := by decide +kernel
theorem dX2_showFirstWaiting_67 : decode cX2_showFirstWaiting 67 = .ok (.getfield 23, 3) := by decide +kernel
theorem dX2_showFirstWaiting_70 : decode cX2_showFirstWaiting 70 = .ok (.iconst 0, 1) := by decide +kernel
theorem dX2_showFirstWaiting_71 : decode cX2_showFirstWaiting 71 = .ok (.iconst 3, 1) := by decide +kernel
theorem dX2_showFirstWaiting_72 : decode cX2_showFirstWaiting 72 = .ok (.iconst 1, 1) := by decide +kernel
theorem dX2_showFirstWaiting_73 : decode cX2_showFirstWaiting 73 = .ok (.invokevirtual 90, 3) := by decide +kernel
theorem dX2_showFirstWaiting_76 : decode cX2_showFirstWaiting 76 = .ok (.goto 31, 3) := by decide +kernel
theorem dX2_showFirstWaiting_79 : decode cX2_showFirstWaiting 79 = .ok (.aload_n 0, 1) := by decide +kernel
theorem dX2_showFirstWaiting_80 : decode cX2_showFirstWaiting 80 = .ok (.getfield 23, 3) := by decide +kernel
theorem dX2_showFirstWaiting_83 : decode cX2_showFirstWaiting 83 = .ok (.iconst 0, 1) := by decide +kernel
theorem dX2_showFirstWaiting_84 : decode cX2_showFirstWaiting 84 = .ok (.invokevirtual 96, 3) := by decide +kernel
theorem dX2_showFirstWaiting_87 : decode cX2_showFirstWaiting 87 = .ok (.aload_n 0, 1) := by decide +kernel
theorem dX2_showFirstWaiting_88 : decode cX2_showFirstWaiting 88 = .ok (.getfield 9, 3) := by decide +kernel
theorem dX2_showFirstWaiting_91 : decode cX2_showFirstWaiting 91 = .ok (.iconst 2, 1) := by decide +kernel
theorem dX2_showFirstWaiting_92 : decode cX2_showFirstWaiting 92 = .ok (.dup2, 1) := by decide +kernel
theorem dX2_showFirstWaiting_93 : decode cX2_showFirstWaiting 93 = .ok (.iaload, 1) := by decide +kernel
theorem dX2_showFirstWaiting_94 : decode cX2_showFirstWaiting 94 = .ok (.iconst 1, 1) := by decide +kernel
theorem dX2_showFirstWaiting_95 : decode cX2_showFirstWaiting 95 = .ok (.isub, 1) := by decide +kernel
theorem dX2_showFirstWaiting_96 : decode cX2_showFirstWaiting 96 = .ok (.iastore, 1) := by decide +kernel
theorem dX2_showFirstWaiting_97 : decode cX2_showFirstWaiting 97 = .ok (.aload_n 0, 1) := by decide +kernel
theorem dX2_showFirstWaiting_98 : decode cX2_showFirstWaiting 98 = .ok (.getfield 9, 3) := by decide +kernel
theorem dX2_showFirstWaiting_101 : decode cX2_showFirstWaiting 101 = .ok (.iconst 3, 1) := by decide +kernel
theorem dX2_showFirstWaiting_102 : decode cX2_showFirstWaiting 102 = .ok (.dup2, 1) := by decide +kernel
theorem dX2_showFirstWaiting_103 : decode cX2_showFirstWaiting 103 = .ok (.iaload, 1) := by decide +kernel
theorem dX2_showFirstWaiting_104 : decode cX2_showFirstWaiting 104 = .ok (.iconst 1, 1) := by decide +kernel
theorem dX2_showFirstWaiting_105 : decode cX2_showFirstWaiting 105 = .ok (.iadd, 1) := by decide +kernel
theorem dX2_showFirstWaiting_106 : decode cX2_showFirstWaiting 106 = .ok (.iastore, 1) := by decide +kernel
theorem dX2_showFirstWaiting_107 : decode cX2_showFirstWaiting 107 = .ok (.return_, 1) := by decide +kernel
set_option maxRecDepth 20000 in
theorem ggX2_showColour_X2_setting : GoodIn wsX2_showColour wsX2_setting := goodIn_r _ [7, 2, 8, 9, 10, 18, 19, 20, 21, 22, 23] (by decide +kernel) (by decide +kernel)
set_option maxRecDepth 20000 in
theorem gX2_showColour_X2_setting : GoodIn wsX2_showColour (wsV RX2 54 RX2 yX2_setting wsX2_setting) := goodIn_app (goodIn_of _ (by decide +kernel)) ggX2_showColour_X2_setting
set_option maxRecDepth 20000 in
theorem ggX2_showColour_X3_write : GoodIn wsX2_showColour wsX3_write := goodIn_r _ [15, 16, 17, 24, 25] (by decide +kernel) (by decide +kernel)
set_option maxRecDepth 20000 in
theorem gX2_showColour_X3_write : GoodIn wsX2_showColour (wsV RX2 90 RX3 yX3_write wsX3_write) := goodIn_app (goodIn_of _ (by decide +kernel)) ggX2_showColour_X3_write
theorem dX2_showColour_0 : decode cX2_showColour 0 = .ok (.aload_n 0, 1) := by decide +kernel
theorem dX2_showColour_1 : decode cX2_showColour 1 = .ok (.getfield 27, 3) := by decide +kernel
theorem dX2_showColour_4 : decode cX2_showColour 4 = .ok (.iload_n 1, 1) := by decide +kernel
theorem dX2_showColour_5 : decode cX2_showColour 5 = .ok (.iconst 0, 1) := by decide +kernel
theorem dX2_showColour_6 : decode cX2_showColour 6 = .ok (.aload_n 0, 1) := by decide +kernel
theorem dX2_showColour_7 : decode cX2_showColour 7 = .ok (.bipush 6, 2) := by decide +kernel
theorem dX2_showColour_9 : decode cX2_showColour 9 = .ok (.invokevirtual 54, 3) := by decide +kernel
theorem dX2_showColour_12 : decode cX2_showColour 12 = .ok (.invokevirtual 90, 3) := by decide +kernel
theorem dX2_showColour_15 : decode cX2_showColour 15 = .ok (.aload_n 0, 1) := by decide +kernel
theorem dX2_showColour_16 : decode cX2_showColour 16 = .ok (.getfield 27, 3) := by decide +kernel
theorem dX2_showColour_19 : decode cX2_showColour 19 = .ok (.iload_n 1, 1) := by decide +kernel
theorem dX2_showColour_20 : decode cX2_showColour 20 = .ok (.iconst 1, 1) := by decide +kernel
theorem dX2_showColour_21 : decode cX2_showColour 21 = .ok (.bipush (-6), 2) := by decide +kernel
theorem dX2_showColour_23 : decode cX2_showColour 23 = .ok (.invokevirtual 90, 3) := by decide +kernel
theorem dX2_showColour_26 : decode cX2_showColour 26 = .ok (.aload_n 0, 1) := by decide +kernel
theorem dX2_showColour_27 : decode cX2_showColour 27 = .ok (.getfield 27, 3) := by decide +kernel
theorem dX2_showColour_30 : decode cX2_showColour 30 = .ok (.iload_n 1, 1) := by decide +kernel
theorem dX2_showColour_31 : decode cX2_showColour 31 = .ok (.iconst 2, 1) := by decide +kernel
theorem dX2_showColour_32 : decode cX2_showColour 32 = .ok (.bipush (-6), 2) := by decide +kernel
theorem dX2_showColour_34 : decode cX2_showColour 34 = .ok (.invokevirtual 90, 3) := by decide +kernel
theorem dX2_showColour_37 : decode cX2_showColour 37 = .ok (.aload_n 0, 1) := by decide +kernel
theorem dX2_showColour_38 : decode cX2_showColour 38 = .ok (.getfield 9, 3) := by decide +kernel
theorem dX2_showColour_41 : decode cX2_showColour 41 = .ok (.bipush 6, 2) := by decide +kernel
theorem dX2_showColour_43 : decode cX2_showColour 43 = .ok (.dup2, 1) := by decide +kernel
theorem dX2_showColour_44 : decode cX2_showColour 44 = .ok (.iaload, 1) := by decide +kernel
theorem dX2_showColour_45 : decode cX2_showColour 45 = .ok (.iconst 1, 1) := by decide +kernel
theorem dX2_showColour_46 : decode cX2_showColour 46 = .ok (.iadd, 1) := by decide +kernel
theorem dX2_showColour_47 : decode cX2_showColour 47 = .ok (.iastore, 1) := by decide +kernel
theorem dX2_showColour_48 : decode cX2_showColour 48 = .ok (.return_, 1) := by decide +kernel
set_option maxRecDepth 20000 in
theorem ggX2_judgeScreen_X3_read : GoodIn wsX2_judgeScreen wsX3_read := goodIn_r _ [6, 7, 8, 15, 16] (by decide +kernel) (by decide +kernel)
set_option maxRecDepth 20000 in
theorem gX2_judgeScreen_X3_read : GoodIn wsX2_judgeScreen (wsV RX2 93 RX3 yX3_read wsX3_read) := goodIn_app (goodIn_of _ (by decide +kernel)) ggX2_judgeScreen_X3_read
theorem dX2_judgeScreen_0 : decode cX2_judgeScreen 0 = .ok (.aload_n 0, 1) := by decide +kernel
theorem dX2_judgeScreen_1 : decode cX2_judgeScreen 1 = .ok (.getfield 27, 3) := by decide +kernel
theorem dX2_judgeScreen_4 : decode cX2_judgeScreen 4 = .ok (.iconst 0, 1) := by decide +kernel
theorem dX2_judgeScreen_5 : decode cX2_judgeScreen 5 = .ok (.iconst 1, 1) := by decide +kernel
theorem dX2_judgeScreen_6 : decode cX2_judgeScreen 6 = .ok (.invokevirtual 93, 3) := by decide +kernel
theorem dX2_judgeScreen_9 : decode cX2_judgeScreen 9 = .ok (.istore_n 2, 1) := by decide +kernel
theorem dX2_judgeScreen_10 : decode cX2_judgeScreen 10 = .ok (.iconst 0, 1) := by decide +kernel
theorem dX2_judgeScreen_11 : decode cX2_judgeScreen 11 = .ok (.istore_n 3, 1) := by decide +kernel
theorem dX2_judgeScreen_12 : decode cX2_judgeScreen 12 = .ok (.iconst 0, 1) := by decide +kernel
theorem dX2_judgeScreen_13 : decode cX2_judgeScreen 13 = .ok (.istore 4, 2) := by decide +kernel
theorem dX2_judgeScreen_15 : decode cX2_judgeScreen 15 = .ok (.iload 4, 2) := by decide +kernel
theorem dX2_judgeScreen_17 : decode cX2_judgeScreen 17 = .ok (.iload_n 1, 1) := by decide +kernel
theorem dX2_judgeScreen_18 : decode cX2_judgeScreen 18 = .ok (.if_icmp .ge 59, 3) := by decide +kernel
theorem dX2_judgeScreen_21 : decode cX2_judgeScreen 21 = .ok (.aload_n 0, 1) := by decide +kernel
theorem dX2_judgeScreen_22 : decode cX2_judgeScreen 22 = .ok (.getfield 27, 3) := by decide +kernel
theorem dX2_judgeScreen_25 : decode cX2_judgeScreen 25 = .ok (.iload 4, 2) := by decide +kernel
theorem dX2_judgeScreen_27 : decode cX2_judgeScreen 27 = .ok (.iconst 1, 1) := by decide +kernel
theorem dX2_judgeScreen_28 : decode cX2_judgeScreen 28 = .ok (.invokevirtual 93, 3) := by decide +kernel
theorem dX2_judgeScreen_31 : decode cX2_judgeScreen 31 = .ok (.bipush (-6), 2) := by decide +kernel
theorem dX2_judgeScreen_33 : decode cX2_judgeScreen 33 = .ok (.if_icmp .ne 5, 3) := by decide +kernel
theorem dX2_judgeScreen_36 : decode cX2_judgeScreen 36 = .ok (.iconst 2, 1) := by decide +kernel
theorem dX2_judgeScreen_37 : decode cX2_judgeScreen 37 = .ok (.ireturn, 1) := by decide +kernel
theorem dX2_judgeScreen_38 : decode cX2_judgeScreen 38 = .ok (.aload_n 0, 1) := by decide +kernel
theorem dX2_judgeScreen_39 : decode cX2_judgeScreen 39 = .ok (.getfield 27, 3) := by decide +kernel
theorem dX2_judgeScreen_42 : decode cX2_judgeScreen 42 = .ok (.iload 4, 2) := by decide +kernel
theorem dX2_judgeScreen_44 : decode cX2_judgeScreen 44 = .ok (.iconst 1, 1) := by decide +kernel
theorem dX2_judgeScreen_45 : decode cX2_judgeScreen 45 = .ok (.invokevirtual 93, 3) := by decide +kernel
theorem dX2_judgeScreen_48 : decode cX2_judgeScreen 48 = .ok (.iload_n 2, 1) := by decide +kernel
theorem dX2_judgeScreen_49 : decode cX2_judgeScreen 49 = .ok (.if_icmp .ne 20, 3) := by decide +kernel
theorem dX2_judgeScreen_52 : decode cX2_judgeScreen 52 = .ok (.aload_n 0, 1) := by decide +kernel
theorem dX2_judgeScreen_53 : decode cX2_judgeScreen 53 = .ok (.getfield 27, 3) := by decide +kernel
theorem dX2_judgeScreen_56 : decode cX2_judgeScreen 56 = .ok (.iload 4, 2) := by decide +kernel
theorem dX2_judgeScreen_58 : decode cX2_judgeScreen 58 = .ok (.iconst 2, 1) := by decide +kernel
theorem dX2_judgeScreen_59 : decode cX2_judgeScreen 59 = .ok (.invokevirtual 93, 3) := by decide +kernel
theorem dX2_judgeScreen_62 : decode cX2_judgeScreen 62 = .ok (.iload 4, 2) := by decide +kernel
theorem dX2_judgeScreen_64 : decode cX2_judgeScreen 64 = .ok (.iconst 2, 1) := by decide +kernel
theorem dX2_judgeScreen_65 : decode cX2_judgeScreen 65 = .ok (.idiv, 1) := by decide +kernel
theorem dX2_judgeScreen_66 : decode cX2_judgeScreen 66 = .ok (.if_icmp .eq 5, 3) := by decide +kernel
theorem dX2_judgeScreen_69 : decode cX2_judgeScreen 69 = .ok (.iconst 1, 1) := by decide +kernel
theorem dX2_judgeScreen_70 : decode cX2_judgeScreen 70 = .ok (.istore_n 3, 1) := by decide +kernel
theorem dX2_judgeScreen_71 : decode cX2_judgeScreen 71 = .ok (.iinc 4 1, 3) := by decide +kernel
theorem dX2_judgeScreen_74 : decode cX2_judgeScreen 74 = .ok (.goto (-59), 3) := by decide +kernel
theorem dX2_judgeScreen_77 : decode cX2_judgeScreen 77 = .ok (.iload_n 3, 1) := by decide +kernel
theorem dX2_judgeScreen_78 : decode cX2_judgeScreen 78 = .ok (.ireturn, 1) := by decide +kernel
theorem dX3_init_0 : decode cX3_init 0 = .ok (.aload_n 0, 1) := by decide +kernel
theorem dX3_init_1 : decode cX3_init 1 = .ok (.invokespecial 3, 3) := by decide +kernel
theorem dX3_init_4 : decode cX3_init 4 = .ok (.aload_n 0, 1) := by decide +kernel
theorem dX3_init_5 : decode cX3_init 5 = .ok (.iload_n 2, 1) := by decide +kernel
theorem dX3_init_6 : decode cX3_init 6 = .ok (.putfield 9, 3) := by decide +kernel
theorem dX3_init_9 : decode cX3_init 9 = .ok (.aload_n 0, 1) := by decide +kernel
theorem dX3_init_10 : decode cX3_init 10 = .ok (.iconst 0, 1) := by decide +kernel
theorem dX3_init_11 : decode cX3_init 11 = .ok (.iload_n 1, 1) := by decide +kernel
theorem dX3_init_12 : decode cX3_init 12 = .ok (.iload_n 2, 1) := by decide +kernel
theorem dX3_init_13 : decode cX3_init 13 = .ok (.imul, 1) := by decide +kernel
theorem dX3_init_14 : decode cX3_init 14 = .ok (.invokestatic 15, 3) := by decide +kernel
theorem dX3_init_17 : decode cX3_init 17 = .ok (.newarray .int, 2) := by decide +kernel
theorem dX3_init_19 : decode cX3_init 19 = .ok (.putfield 21, 3) := by decide +kernel
theorem dX3_init_22 : decode cX3_init 22 = .ok (.iconst 0, 1) := by decide +kernel
theorem dX3_init_23 : decode cX3_init 23 = .ok (.istore 4, 2) := by decide +kernel
theorem dX3_init_25 : decode cX3_init 25 = .ok (.iload 4, 2) := by decide +kernel
theorem dX3_init_27 : decode cX3_init 27 = .ok (.aload_n 0, 1) := by decide +kernel
theorem dX3_init_28 : decode cX3_init 28 = .ok (.getfield 21, 3) := by decide +kernel
theorem dX3_init_31 : decode cX3_init 31 = .ok (.arraylength, 1) := by decide +kernel
theorem dX3_init_32 : decode cX3_init 32 = .ok (.if_icmp .ge 17, 3) := by decide +kernel
theorem dX3_init_35 : decode cX3_init 35 = .ok (.aload_n 0, 1) := by decide +kernel
theorem dX3_init_36 : decode cX3_init 36 = .ok (.getfield 21, 3) := by decide +kernel
theorem dX3_init_39 : decode cX3_init 39 = .ok (.iload 4, 2) := by decide +kernel
theorem dX3_init_41 : decode cX3_init 41 = .ok (.iload_n 3, 1) := by decide +kernel
theorem dX3_init_42 : decode cX3_init 42 = .ok (.iastore, 1) := by decide +kernel
theorem dX3_init_43 : decode cX3_init 43 = .ok (.iinc 4 1, 3) := by decide +kernel
theorem dX3_init_46 : decode cX3_init 46 = .ok (.goto (-21), 3) := by decide +kernel
theorem dX3_init_49 : decode cX3_init 49 = .ok (.return_, 1) := by decide +kernel
end
section
theorem dX3_read_0 : decode cX3_read 0 = .ok (.iload_n 1, 1) := by decide +kernel
theorem dX3_read_1 : decode cX3_read 1 = .ok (.aload_n 0, 1) := by decide +kernel
theorem dX3_read_2 : decode cX3_read 2 = .ok (.getfield 9, 3) := by decide +kernel
theorem dX3_read_5 : decode cX3_read 5 = .ok (.imul, 1) := by decide +kernel
theorem dX3_read_6 : decode cX3_read 6 = .ok (.iload_n 2, 1) := by decide +kernel
theorem dX3_read_7 : decode cX3_read 7 = .ok (.iadd, 1) := by decide +kernel
theorem dX3_read_8 : decode cX3_read 8 = .ok (.istore_n 3, 1) := by decide +kernel
theorem dX3_read_9 : decode cX3_read 9 = .ok (.iload_n 3, 1) := by decide +kernel
theorem dX3_read_10 : decode cX3_read 10 = .ok (.ifCond .lt 21, 3) := by decide +kernel
theorem dX3_read_13 : decode cX3_read 13 = .ok (.iload_n 3, 1) := by decide +kernel
theorem dX3_read_14 : decode cX3_read 14 = .ok (.aload_n 0, 1) := by decide +kernel
theorem dX3_read_15 : decode cX3_read 15 = .ok (.getfield 21, 3) := by decide +kernel
theorem dX3_read_18 : decode cX3_read 18 = .ok (.arraylength, 1) := by decide +kernel
theorem dX3_read_19 : decode cX3_read 19 = .ok (.if_icmp .ge 12, 3) := by decide +kernel
theorem dX3_read_22 : decode cX3_read 22 = .ok (.aload_n 0, 1) := by decide +kernel
theorem dX3_read_23 : decode cX3_read 23 = .ok (.getfield 21, 3) := by decide +kernel
theorem dX3_read_26 : decode cX3_read 26 = .ok (.iload_n 3, 1) := by decide +kernel
theorem dX3_read_27 : decode cX3_read 27 = .ok (.iaload, 1) := by decide +kernel
theorem dX3_read_28 : decode cX3_read 28 = .ok (.goto 5, 3) := by decide +kernel
theorem dX3_read_31 : decode cX3_read 31 = .ok (.bipush (-6), 2) := by decide +kernel
theorem dX3_read_33 : decode cX3_read 33 = .ok (.ireturn, 1) := by decide +kernel
theorem dX3_write_0 : decode cX3_write 0 = .ok (.iload_n 1, 1) := by decide +kernel
theorem dX3_write_1 : decode cX3_write 1 = .ok (.aload_n 0, 1) := by decide +kernel
theorem dX3_write_2 : decode cX3_write 2 = .ok (.getfield 9, 3) := by decide +kernel
theorem dX3_write_5 : decode cX3_write 5 = .ok (.imul, 1) := by decide +kernel
theorem dX3_write_6 : decode cX3_write 6 = .ok (.iload_n 2, 1) := by decide +kernel
theorem dX3_write_7 : decode cX3_write 7 = .ok (.iadd, 1) := by decide +kernel
theorem dX3_write_8 : decode cX3_write 8 = .ok (.istore 4, 2) := by decide +kernel
theorem dX3_write_10 : decode cX3_write 10 = .ok (.iload 4, 2) := by decide +kernel
theorem dX3_write_12 : decode cX3_write 12 = .ok (.ifCond .lt 21, 3) := by decide +kernel
theorem dX3_write_15 : decode cX3_write 15 = .ok (.iload 4, 2) := by decide +kernel
theorem dX3_write_17 : decode cX3_write 17 = .ok (.aload_n 0, 1) := by decide +kernel
theorem dX3_write_18 : decode cX3_write 18 = .ok (.getfield 21, 3) := by decide +kernel
theorem dX3_write_21 : decode cX3_write 21 = .ok (.arraylength, 1) := by decide +kernel
theorem dX3_write_22 : decode cX3_write 22 = .ok (.if_icmp .ge 11, 3) := by decide +kernel
theorem dX3_write_25 : decode cX3_write 25 = .ok (.aload_n 0, 1) := by decide +kernel
theorem dX3_write_26 : decode cX3_write 26 = .ok (.getfield 21, 3) := by decide +kernel
theorem dX3_write_29 : decode cX3_write 29 = .ok (.iload 4, 2) := by decide +kernel
theorem dX3_write_31 : decode cX3_write 31 = .ok (.iload_n 3, 1) := by decide +kernel
theorem dX3_write_32 : decode cX3_write 32 = .ok (.iastore, 1) := by decide +kernel
theorem dX3_write_33 : decode cX3_write 33 = .ok (.return_, 1) := by decide +kernel
theorem dX3_removeRow_0 : decode cX3_removeRow 0 = .ok (.iload_n 1, 1) := by decide +kernel
theorem dX3_removeRow_1 : decode cX3_removeRow 1 = .ok (.aload_n 0, 1) := by decide +kernel
theorem dX3_removeRow_2 : decode cX3_removeRow 2 = .ok (.getfield 9, 3) := by decide +kernel
theorem dX3_removeRow_5 : decode cX3_removeRow 5 = .ok (.imul, 1) := by decide +kernel
theorem dX3_removeRow_6 : decode cX3_removeRow 6 = .ok (.istore_n 2, 1) := by decide +kernel
theorem dX3_removeRow_7 : decode cX3_removeRow 7 = .ok (.iload_n 2, 1) := by decide +kernel
theorem dX3_removeRow_8 : decode cX3_removeRow 8 = .ok (.aload_n 0, 1) := by decide +kernel
theorem dX3_removeRow_9 : decode cX3_removeRow 9 = .ok (.getfield 9, 3) := by decide +kernel
theorem dX3_removeRow_12 : decode cX3_removeRow 12 = .ok (.iadd, 1) := by decide +kernel
theorem dX3_removeRow_13 : decode cX3_removeRow 13 = .ok (.istore_n 3, 1) := by decide +kernel
theorem dX3_removeRow_14 : decode cX3_removeRow 14 = .ok (.iload_n 2, 1) := by decide +kernel
theorem dX3_removeRow_15 : decode cX3_removeRow 15 = .ok (.ifCond .lt 32, 3) := by decide +kernel
theorem dX3_removeRow_18 : decode cX3_removeRow 18 = .ok (.iload_n 3, 1) := by decide +kernel
theorem dX3_removeRow_19 : decode cX3_removeRow 19 = .ok (.aload_n 0, 1) := by decide +kernel
theorem dX3_removeRow_20 : decode cX3_removeRow 20 = .ok (.getfield 21, 3) := by decide +kernel
theorem dX3_removeRow_23 : decode cX3_removeRow 23 = .ok (.arraylength, 1) := by decide +kernel
theorem dX3_removeRow_24 : decode cX3_removeRow 24 = .ok (.if_icmp .gt 23, 3) := by decide +kernel
theorem dX3_removeRow_27 : decode cX3_removeRow 27 = .ok (.aload_n 0, 1) := by decide +kernel
theorem dX3_removeRow_28 : decode cX3_removeRow 28 = .ok (.getfield 21, 3) := by decide +kernel
theorem dX3_removeRow_31 : decode cX3_removeRow 31 = .ok (.iload_n 3, 1) := by decide +kernel
theorem dX3_removeRow_32 : decode cX3_removeRow 32 = .ok (.aload_n 0, 1) := by decide +kernel
theorem dX3_removeRow_33 : decode cX3_removeRow 33 = .ok (.getfield 21, 3) := by decide +kernel
theorem dX3_removeRow_36 : decode cX3_removeRow 36 = .ok (.iload_n 2, 1) := by decide +kernel
theorem dX3_removeRow_37 : decode cX3_removeRow 37 = .ok (.aload_n 0, 1) := by decide +kernel
theorem dX3_removeRow_38 : decode cX3_removeRow 38 = .ok (.getfield 21, 3) := by decide +kernel
theorem dX3_removeRow_41 : decode cX3_removeRow 41 = .ok (.arraylength, 1) := by decide +kernel
theorem dX3_removeRow_42 : decode cX3_removeRow 42 = .ok (.iload_n 3, 1) := by decide +kernel
theorem dX3_removeRow_43 : decode cX3_removeRow 43 = .ok (.isub, 1) := by decide +kernel
theorem dX3_removeRow_44 : decode cX3_removeRow 44 = .ok (.invokestatic 25, 3) := by decide +kernel
theorem dX3_removeRow_47 : decode cX3_removeRow 47 = .ok (.return_, 1) := by decide +kernel
theorem dX3_copyFrom_0 : decode cX3_copyFrom 0 = .ok (.aload_n 1, 1) := by decide +kernel
theorem dX3_copyFrom_1 : decode cX3_copyFrom 1 = .ok (.getfield 21, 3) := by decide +kernel
theorem dX3_copyFrom_4 : decode cX3_copyFrom 4 = .ok (.iconst 0, 1) := by decide +kernel
theorem dX3_copyFrom_5 : decode cX3_copyFrom 5 = .ok (.aload_n 0, 1) := by decide +kernel
theorem dX3_copyFrom_6 : decode cX3_copyFrom 6 = .ok (.getfield 21, 3) := by decide +kernel
theorem dX3_copyFrom_9 : decode cX3_copyFrom 9 = .ok (.iconst 0, 1) := by decide +kernel
theorem dX3_copyFrom_10 : decode cX3_copyFrom 10 = .ok (.aload_n 1, 1) := by decide +kernel
theorem dX3_copyFrom_11 : decode cX3_copyFrom 11 = .ok (.getfield 21, 3) := by decide +kernel
theorem dX3_copyFrom_14 : decode cX3_copyFrom 14 = .ok (.arraylength, 1) := by decide +kernel
theorem dX3_copyFrom_15 : decode cX3_copyFrom 15 = .ok (.aload_n 0, 1) := by decide +kernel
theorem dX3_copyFrom_16 : decode cX3_copyFrom 16 = .ok (.getfield 21, 3) := by decide +kernel
theorem dX3_copyFrom_19 : decode cX3_copyFrom 19 = .ok (.arraylength, 1) := by decide +kernel
theorem dX3_copyFrom_20 : decode cX3_copyFrom 20 = .ok (.invokestatic 31, 3) := by decide +kernel
theorem dX3_copyFrom_23 : decode cX3_copyFrom 23 = .ok (.invokestatic 25, 3) := by decide +kernel
theorem dX3_copyFrom_26 : decode cX3_copyFrom 26 = .ok (.return_, 1) := by decide +kernel
set_option maxRecDepth 20000 in
theorem ggX4_init_X2_init : GoodIn wsX4_init wsX2_init := goodIn_r _ [20, 21, 2, 3, 22, 23, 24, 25, 26, 27, 28, 29, 30, 31, 32, 33, 34, 35, 36, 37, 38, 39, 40, 51, 52, 53, 54, 55, 56, 71, 72] (by decide +kernel) (by decide +kernel)
set_option maxRecDepth 20000 in
theorem gX4_init_X2_init : GoodIn wsX4_init (wsX2_init) := ggX4_init_X2_init
set_option maxRecDepth 20000 in
theorem ggX4_init_X0_init : GoodIn wsX4_init wsX0_init := goodIn_r _ [42, 43, 2, 3, 44, 45, 62, 63, 64] (by decide +kernel) (by decide +kernel)
set_option maxRecDepth 20000 in
theorem gX4_init_X0_init_n25 : GoodIn wsX4_init (wsX0_init) := ggX4_init_X0_init
set_option maxRecDepth 20000 in
theorem ggX4_init_X1_init : GoodIn wsX4_init wsX1_init := goodIn_r _ [47, 48, 2, 3, 49, 50, 65, 66, 67, 68, 69, 70] (by decide +kernel) (by decide +kernel)
set_option maxRecDepth 20000 in
theorem gX4_init_X1_init_n32 : GoodIn wsX4_init (wsX1_init) := ggX4_init_X1_init
theorem dX4_init_0 : decode cX4_init 0 = .ok (.aload_n 0, 1) := by decide +kernel
theorem dX4_init_1 : decode cX4_init 1 = .ok (.invokespecial 1, 3) := by decide +kernel
theorem dX4_init_4 : decode cX4_init 4 = .ok (.aload_n 0, 1) := by decide +kernel
theorem dX4_init_5 : decode cX4_init 5 = .ok (.new 7, 3) := by decide +kernel
theorem dX4_init_8 : decode cX4_init 8 = .ok (.dup, 1) := by decide +kernel
theorem dX4_init_9 : decode cX4_init 9 = .ok (.invokespecial 9, 3) := by decide +kernel
theorem dX4_init_12 : decode cX4_init 12 = .ok (.putfield 10, 3) := by decide +kernel
theorem dX4_init_15 : decode cX4_init 15 = .ok (.aload_n 0, 1) := by decide +kernel
theorem dX4_init_16 : decode cX4_init 16 = .ok (.new 7, 3) := by decide +kernel
theorem dX4_init_19 : decode cX4_init 19 = .ok (.dup, 1) := by decide +kernel
theorem dX4_init_20 : decode cX4_init 20 = .ok (.invokespecial 9, 3) := by decide +kernel
theorem dX4_init_23 : decode cX4_init 23 = .ok (.putfield 16, 3) := by decide +kernel
theorem dX4_init_26 : decode cX4_init 26 = .ok (.aload_n 0, 1) := by decide +kernel
theorem dX4_init_27 : decode cX4_init 27 = .ok (.iconst 2, 1) := by decide +kernel
theorem dX4_init_28 : decode cX4_init 28 = .ok (.anewarray 7, 3) := by decide +kernel
theorem dX4_init_31 : decode cX4_init 31 = .ok (.putfield 19, 3) := by decide +kernel
theorem dX4_init_34 : decode cX4_init 34 = .ok (.aload_n 0, 1) := by decide +kernel
theorem dX4_init_35 : decode cX4_init 35 = .ok (.new 23, 3) := by decide +kernel
theorem dX4_init_38 : decode cX4_init 38 = .ok (.dup, 1) := by decide +kernel
theorem dX4_init_39 : decode cX4_init 39 = .ok (.invokespecial 25, 3) := by decide +kernel
theorem dX4_init_42 : decode cX4_init 42 = .ok (.putfield 26, 3) := by decide +kernel
theorem dX4_init_45 : decode cX4_init 45 = .ok (.aload_n 0, 1) := by decide +kernel
theorem dX4_init_46 : decode cX4_init 46 = .ok (.new 30, 3) := by decide +kernel
theorem dX4_init_49 : decode cX4_init 49 = .ok (.dup, 1) := by decide +kernel
theorem dX4_init_50 : decode cX4_init 50 = .ok (.invokespecial 32, 3) := by decide +kernel
theorem dX4_init_53 : decode cX4_init 53 = .ok (.putfield 33, 3) := by decide +kernel
theorem dX4_init_56 : decode cX4_init 56 = .ok (.return_, 1) := by decide +kernel
set_option maxRecDepth 20000 in
theorem ggX4_set_X0_prepare : GoodIn wsX4_set wsX0_prepare := goodIn_r _ [7, 8, 9, 10, 11, 12, 13, 14, 15, 16, 17, 18, 19, 20, 21, 22, 23, 24, 25, 26, 27, 28, 29, 30, 31, 32, 33, 34, 35, 36, 37, 38, 39, 40, 41, 42, 43, 44, 45, 46, 47, 48, 49, 50, 51, 52, 53, 54, 55, 56, 57, 58, 74, 75, 76, 77, 78, 79, 80, 81, 82, 83, 84] (by decide +kernel) (by decide +kernel)
set_option maxRecDepth 20000 in
theorem gX4_set_X0_prepare : GoodIn wsX4_set (wsV RX4 37 RX0 yX0_prepare wsX0_prepare) := goodIn_app (goodIn_of _ (by decide +kernel)) ggX4_set_X0_prepare
set_option maxRecDepth 20000 in
theorem ggX4_set_X2_changeSetting : GoodIn wsX4_set wsX2_changeSetting := goodIn_r _ [62, 24, 63, 12, 64, 77, 78, 79, 80, 81, 82] (by decide +kernel) (by decide +kernel)
set_option maxRecDepth 20000 in
theorem gX4_set_X2_changeSetting : GoodIn wsX4_set (wsV RX4 41 RX2 yX2_changeSetting wsX2_changeSetting) := goodIn_app (goodIn_of _ (by decide +kernel)) ggX4_set_X2_changeSetting
set_option maxRecDepth 20000 in
theorem ggX4_set_X0_keepIfDone : GoodIn wsX4_set wsX0_keepIfDone := goodIn_r _ [68, 10, 9, 74, 75, 76] (by decide +kernel) (by decide +kernel)
set_option maxRecDepth 20000 in
theorem gX4_set_X0_keepIfDone : GoodIn wsX4_set (wsV RX4 45 RX0 yX0_keepIfDone wsX0_keepIfDone) := goodIn_app (goodIn_of _ (by decide +kernel)) ggX4_set_X0_keepIfDone
theorem dX4_set_0 : decode cX4_set 0 = .ok (.aload_n 0, 1) := by decide +kernel
theorem dX4_set_1 : decode cX4_set 1 = .ok (.getfield 26, 3) := by decide +kernel
theorem dX4_set_4 : decode cX4_set 4 = .ok (.aload_n 0, 1) := by decide +kernel
theorem dX4_set_5 : decode cX4_set 5 = .ok (.getfield 10, 3) := by decide +kernel
theorem dX4_set_8 : decode cX4_set 8 = .ok (.invokevirtual 37, 3) := by decide +kernel
theorem dX4_set_11 : decode cX4_set 11 = .ok (.aload_n 0, 1) := by decide +kernel
theorem dX4_set_12 : decode cX4_set 12 = .ok (.getfield 26, 3) := by decide +kernel
theorem dX4_set_15 : decode cX4_set 15 = .ok (.aload_n 0, 1) := by decide +kernel
theorem dX4_set_16 : decode cX4_set 16 = .ok (.getfield 10, 3) := by decide +kernel
theorem dX4_set_19 : decode cX4_set 19 = .ok (.iload_n 1, 1) := by decide +kernel
theorem dX4_set_20 : decode cX4_set 20 = .ok (.iload_n 2, 1) := by decide +kernel
theorem dX4_set_21 : decode cX4_set 21 = .ok (.invokevirtual 41, 3) := by decide +kernel
theorem dX4_set_24 : decode cX4_set 24 = .ok (.invokevirtual 45, 3) := by decide +kernel
theorem dX4_set_27 : decode cX4_set 27 = .ok (.ireturn, 1) := by decide +kernel
set_option maxRecDepth 20000 in
theorem ggX4_value_X0_prepare : GoodIn wsX4_value wsX0_prepare := goodIn_r _ [7, 8, 9, 10, 11, 12, 13, 14, 15, 16, 17, 18, 19, 20, 21, 22, 23, 24, 25, 26, 27, 28, 29, 30, 31, 32, 33, 34, 35, 36, 37, 38, 39, 40, 41, 42, 43, 44, 45, 46, 47, 48, 49, 50, 51, 52, 53, 54, 55, 56, 57, 58, 74, 75, 76, 77, 78, 79, 80, 81, 82, 83, 84] (by decide +kernel) (by decide +kernel)
set_option maxRecDepth 20000 in
theorem gX4_value_X0_prepare : GoodIn wsX4_value (wsV RX4 37 RX0 yX0_prepare wsX0_prepare) := goodIn_app (goodIn_of _ (by decide +kernel)) ggX4_value_X0_prepare
set_option maxRecDepth 20000 in
theorem ggX4_value_X2_changeValue : GoodIn wsX4_value wsX2_changeValue := goodIn_r _ [62, 25, 63, 12, 64, 77, 78, 79, 80, 81, 82] (by decide +kernel) (by decide +kernel)
set_option maxRecDepth 20000 in
theorem gX4_value_X2_changeValue : GoodIn wsX4_value (wsV RX4 49 RX2 yX2_changeValue wsX2_changeValue) := goodIn_app (goodIn_of _ (by decide +kernel)) ggX4_value_X2_changeValue
set_option maxRecDepth 20000 in
theorem ggX4_value_X0_keepIfDone : GoodIn wsX4_value wsX0_keepIfDone := goodIn_r _ [68, 10, 9, 74, 75, 76] (by decide +kernel) (by decide +kernel)
set_option maxRecDepth 20000 in
theorem gX4_value_X0_keepIfDone : GoodIn wsX4_value (wsV RX4 45 RX0 yX0_keepIfDone wsX0_keepIfDone) := goodIn_app (goodIn_of _ (by decide +kernel)) ggX4_value_X0_keepIfDone
theorem dX4_value_0 : decode cX4_value 0 = .ok (.aload_n 0, 1) := by decide +kernel
theorem dX4_value_1 : decode cX4_value 1 = .ok (.getfield 26, 3) := by decide +kernel
theorem dX4_value_4 : decode cX4_value 4 = .ok (.aload_n 0, 1) := by decide +kernel
theorem dX4_value_5 : decode cX4_value 5 = .ok (.getfield 10, 3) := by decide +kernel
theorem dX4_value_8 : decode cX4_value 8 = .ok (.invokevirtual 37, 3) := by decide +kernel
theorem dX4_value_11 : decode cX4_value 11 = .ok (.aload_n 0, 1) := by decide +kernel
theorem dX4_value_12 : decode cX4_value 12 = .ok (.getfield 26, 3) := by decide +kernel
theorem dX4_value_15 : decode cX4_value 15 = .ok (.aload_n 0, 1) := by decide +kernel
theorem dX4_value_16 : decode cX4_value 16 = .ok (.getfield 10, 3) := by decide +kernel
theorem dX4_value_19 : decode cX4_value 19 = .ok (.iload_n 1, 1) := by decide +kernel
theorem dX4_value_20 : decode cX4_value 20 = .ok (.iload_n 2, 1) := by decide +kernel
theorem dX4_value_21 : decode cX4_value 21 = .ok (.invokevirtual 49, 3) := by decide +kernel
theorem dX4_value_24 : decode cX4_value 24 = .ok (.invokevirtual 45, 3) := by decide +kernel
theorem dX4_value_27 : decode cX4_value 27 = .ok (.ireturn, 1) := by decide +kernel
set_option maxRecDepth 20000 in
theorem ggX4_slip_X0_prepare : GoodIn wsX4_slip wsX0_prepare := goodIn_r _ [7, 8, 9, 10, 11, 12, 13, 14, 15, 16, 17, 18, 19, 20, 21, 22, 23, 24, 25, 26, 27, 28, 29, 30, 31, 32, 33, 34, 35, 36, 37, 38, 39, 40, 41, 42, 43, 44, 45, 46, 47, 48, 49, 50, 51, 52, 53, 54, 55, 56, 57, 58, 74, 75, 76, 77, 78, 79, 80, 81, 82, 83, 84] (by decide +kernel) (by decide +kernel)
set_option maxRecDepth 20000 in
theorem gX4_slip_X0_prepare : GoodIn wsX4_slip (wsV RX4 37 RX0 yX0_prepare wsX0_prepare) := goodIn_app (goodIn_of _ (by decide +kernel)) ggX4_slip_X0_prepare
set_option maxRecDepth 20000 in
theorem ggX4_slip_X2_delayClock : GoodIn wsX4_slip wsX2_delayClock := goodIn_r _ [62, 24, 63, 12, 64, 77, 78, 79, 80, 81, 82] (by decide +kernel) (by decide +kernel)
set_option maxRecDepth 20000 in
theorem gX4_slip_X2_delayClock : GoodIn wsX4_slip (wsV RX4 52 RX2 yX2_delayClock wsX2_delayClock) := goodIn_app (goodIn_of _ (by decide +kernel)) ggX4_slip_X2_delayClock
set_option maxRecDepth 20000 in
theorem ggX4_slip_X0_keepIfDone : GoodIn wsX4_slip wsX0_keepIfDone := goodIn_r _ [68, 10, 9, 74, 75, 76] (by decide +kernel) (by decide +kernel)
set_option maxRecDepth 20000 in
theorem gX4_slip_X0_keepIfDone : GoodIn wsX4_slip (wsV RX4 45 RX0 yX0_keepIfDone wsX0_keepIfDone) := goodIn_app (goodIn_of _ (by decide +kernel)) ggX4_slip_X0_keepIfDone
theorem dX4_slip_0 : decode cX4_slip 0 = .ok (.aload_n 0, 1) := by decide +kernel
theorem dX4_slip_1 : decode cX4_slip 1 = .ok (.getfield 26, 3) := by decide +kernel
theorem dX4_slip_4 : decode cX4_slip 4 = .ok (.aload_n 0, 1) := by decide +kernel
theorem dX4_slip_5 : decode cX4_slip 5 = .ok (.getfield 10, 3) := by decide +kernel
theorem dX4_slip_8 : decode cX4_slip 8 = .ok (.invokevirtual 37, 3) := by decide +kernel
theorem dX4_slip_11 : decode cX4_slip 11 = .ok (.aload_n 0, 1) := by decide +kernel
theorem dX4_slip_12 : decode cX4_slip 12 = .ok (.getfield 26, 3) := by decide +kernel
theorem dX4_slip_15 : decode cX4_slip 15 = .ok (.aload_n 0, 1) := by decide +kernel
theorem dX4_slip_16 : decode cX4_slip 16 = .ok (.getfield 10, 3) := by decide +kernel
theorem dX4_slip_19 : decode cX4_slip 19 = .ok (.iload_n 1, 1) := by decide +kernel
theorem dX4_slip_20 : decode cX4_slip 20 = .ok (.iload_n 2, 1) := by decide +kernel
theorem dX4_slip_21 : decode cX4_slip 21 = .ok (.invokevirtual 52, 3) := by decide +kernel
theorem dX4_slip_24 : decode cX4_slip 24 = .ok (.invokevirtual 45, 3) := by decide +kernel
theorem dX4_slip_27 : decode cX4_slip 27 = .ok (.ireturn, 1) := by decide +kernel
set_option maxRecDepth 20000 in
theorem ggX4_pass_X0_prepare : GoodIn wsX4_pass wsX0_prepare := goodIn_r _ [8, 9, 10, 11, 12, 13, 14, 15, 16, 17, 18, 19, 20, 21, 22, 23, 24, 25, 26, 27, 28, 29, 30, 31, 32, 33, 34, 35, 36, 37, 38, 39, 40, 41, 42, 43, 44, 45, 46, 47, 48, 49, 50, 51, 52, 53, 54, 55, 56, 57, 58, 59, 133, 134, 135, 136, 137, 138, 139, 140, 141, 142, 143] (by decide +kernel) (by decide +kernel)
set_option maxRecDepth 20000 in
theorem gX4_pass_X0_prepare : GoodIn wsX4_pass (wsV RX4 37 RX0 yX0_prepare wsX0_prepare) := goodIn_app (goodIn_of _ (by decide +kernel)) ggX4_pass_X0_prepare
set_option maxRecDepth 20000 in
theorem ggX4_pass_X2_passTicks : GoodIn wsX4_pass wsX2_passTicks := goodIn_r _ [63, 25, 64, 57, 40, 58, 65, 39, 41, 51, 66, 13, 67, 68, 69, 70, 17, 71, 72, 73, 74, 75, 26, 30, 76, 77, 78, 79, 80, 81, 82, 29, 83, 37, 42, 84, 85, 86, 87, 88, 89, 90, 91, 92, 93, 94, 95, 32, 96, 97, 98, 99, 59, 48, 49, 50, 100, 101, 102, 103, 104, 105, 106, 107, 108, 109, 110, 111, 112, 113, 114, 115, 31, 116, 117, 118, 119, 120, 121, 122, 123, 136, 137, 138, 139, 140, 141, 142, 143] (by decide +kernel) (by decide +kernel)
set_option maxRecDepth 20000 in
theorem gX4_pass_X2_passTicks : GoodIn wsX4_pass (wsV RX4 56 RX2 yX2_passTicks wsX2_passTicks) := goodIn_app (goodIn_of _ (by decide +kernel)) ggX4_pass_X2_passTicks
set_option maxRecDepth 20000 in
theorem ggX4_pass_X0_keepIfDone : GoodIn wsX4_pass wsX0_keepIfDone := goodIn_r _ [127, 11, 10, 133, 134, 135] (by decide +kernel) (by decide +kernel)
set_option maxRecDepth 20000 in
theorem gX4_pass_X0_keepIfDone : GoodIn wsX4_pass (wsV RX4 45 RX0 yX0_keepIfDone wsX0_keepIfDone) := goodIn_app (goodIn_of _ (by decide +kernel)) ggX4_pass_X0_keepIfDone
theorem dX4_pass_0 : decode cX4_pass 0 = .ok (.aload_n 0, 1) := by decide +kernel
theorem dX4_pass_1 : decode cX4_pass 1 = .ok (.getfield 26, 3) := by decide +kernel
theorem dX4_pass_4 : decode cX4_pass 4 = .ok (.aload_n 0, 1) := by decide +kernel
theorem dX4_pass_5 : decode cX4_pass 5 = .ok (.getfield 10, 3) := by decide +kernel
theorem dX4_pass_8 : decode cX4_pass 8 = .ok (.invokevirtual 37, 3) := by decide +kernel
theorem dX4_pass_11 : decode cX4_pass 11 = .ok (.aload_n 0, 1) := by decide +kernel
theorem dX4_pass_12 : decode cX4_pass 12 = .ok (.getfield 26, 3) := by decide +kernel
theorem dX4_pass_15 : decode cX4_pass 15 = .ok (.aload_n 0, 1) := by decide +kernel
theorem dX4_pass_16 : decode cX4_pass 16 = .ok (.getfield 10, 3) := by decide +kernel
theorem dX4_pass_19 : decode cX4_pass 19 = .ok (.iload_n 1, 1) := by decide +kernel
theorem dX4_pass_20 : decode cX4_pass 20 = .ok (.ldc 55, 2) := by decide +kernel
theorem dX4_pass_22 : decode cX4_pass 22 = .ok (.invokevirtual 56, 3) := by decide +kernel
theorem dX4_pass_25 : decode cX4_pass 25 = .ok (.invokevirtual 45, 3) := by decide +kernel
theorem dX4_pass_28 : decode cX4_pass 28 = .ok (.ireturn, 1) := by decide +kernel
set_option maxRecDepth 20000 in
theorem ggX4_flush_X0_prepare : GoodIn wsX4_flush wsX0_prepare := goodIn_r _ [7, 8, 9, 10, 11, 12, 13, 14, 15, 16, 17, 18, 19, 20, 21, 22, 23, 24, 25, 26, 27, 28, 29, 30, 31, 32, 33, 34, 35, 36, 37, 38, 39, 40, 41, 42, 43, 44, 45, 46, 47, 48, 49, 50, 51, 52, 53, 54, 55, 56, 57, 58, 88, 89, 90, 91, 92, 93, 94, 95, 96, 97, 98] (by decide +kernel) (by decide +kernel)
set_option maxRecDepth 20000 in
theorem gX4_flush_X0_prepare : GoodIn wsX4_flush (wsV RX4 37 RX0 yX0_prepare wsX0_prepare) := goodIn_app (goodIn_of _ (by decide +kernel)) ggX4_flush_X0_prepare
set_option maxRecDepth 20000 in
theorem ggX4_flush_X2_skipAll : GoodIn wsX4_flush wsX2_skipAll := goodIn_r _ [62, 24, 63, 64, 65, 16, 66, 31, 29, 67, 68, 69, 28, 70, 36, 41, 71, 72, 73, 74, 75, 76, 77, 78, 58, 47, 48, 49, 91, 92, 93, 94, 95, 96, 97, 98] (by decide +kernel) (by decide +kernel)
set_option maxRecDepth 20000 in
theorem gX4_flush_X2_skipAll : GoodIn wsX4_flush (wsV RX4 59 RX2 yX2_skipAll wsX2_skipAll) := goodIn_app (goodIn_of _ (by decide +kernel)) ggX4_flush_X2_skipAll
set_option maxRecDepth 20000 in
theorem ggX4_flush_X0_keepIfDone : GoodIn wsX4_flush wsX0_keepIfDone := goodIn_r _ [82, 10, 9, 88, 89, 90] (by decide +kernel) (by decide +kernel)
set_option maxRecDepth 20000 in
theorem gX4_flush_X0_keepIfDone : GoodIn wsX4_flush (wsV RX4 45 RX0 yX0_keepIfDone wsX0_keepIfDone) := goodIn_app (goodIn_of _ (by decide +kernel)) ggX4_flush_X0_keepIfDone
theorem dX4_flush_0 : decode cX4_flush 0 = .ok (.aload_n 0, 1) := by decide +kernel
theorem dX4_flush_1 : decode cX4_flush 1 = .ok (.getfield 26, 3) := by decide +kernel
theorem dX4_flush_4 : decode cX4_flush 4 = .ok (.aload_n 0, 1) := by decide +kernel
theorem dX4_flush_5 : decode cX4_flush 5 = .ok (.getfield 10, 3) := by decide +kernel
theorem dX4_flush_8 : decode cX4_flush 8 = .ok (.invokevirtual 37, 3) := by decide +kernel
theorem dX4_flush_11 : decode cX4_flush 11 = .ok (.aload_n 0, 1) := by decide +kernel
theorem dX4_flush_12 : decode cX4_flush 12 = .ok (.getfield 26, 3) := by decide +kernel
theorem dX4_flush_15 : decode cX4_flush 15 = .ok (.aload_n 0, 1) := by decide +kernel
theorem dX4_flush_16 : decode cX4_flush 16 = .ok (.getfield 10, 3) := by decide +kernel
theorem dX4_flush_19 : decode cX4_flush 19 = .ok (.invokevirtual 59, 3) := by decide +kernel
theorem dX4_flush_22 : decode cX4_flush 22 = .ok (.invokevirtual 45, 3) := by decide +kernel
theorem dX4_flush_25 : decode cX4_flush 25 = .ok (.ireturn, 1) := by decide +kernel
set_option maxRecDepth 20000 in
theorem ggX4_waiting_X4_isWithin : GoodIn wsX4_waiting wsX4_isWithin := goodIn_r _ [5] (by decide +kernel) (by decide +kernel)
set_option maxRecDepth 20000 in
theorem gX4_waiting_X4_isWithin : GoodIn wsX4_waiting (va_wsS RX4 67 yX4_isWithin wsX4_isWithin) := goodIn_app (goodIn_of _ (by decide +kernel)) ggX4_waiting_X4_isWithin
set_option maxRecDepth 20000 in
theorem ggX4_waiting_X3_read : GoodIn wsX4_waiting wsX3_read := goodIn_r _ [10, 11, 12, 24, 25] (by decide +kernel) (by decide +kernel)
set_option maxRecDepth 20000 in
theorem gX4_waiting_X3_read : GoodIn wsX4_waiting (wsV RX4 75 RX3 yX3_read wsX3_read) := goodIn_app (goodIn_of _ (by decide +kernel)) ggX4_waiting_X3_read
theorem dX4_waiting_0 : decode cX4_waiting 0 = .ok (.iload_n 1, 1) := by decide +kernel
theorem dX4_waiting_1 : decode cX4_waiting 1 = .ok (.ifCond .lt 16, 3) := by decide +kernel
theorem dX4_waiting_4 : decode cX4_waiting 4 = .ok (.iload_n 1, 1) := by decide +kernel
theorem dX4_waiting_5 : decode cX4_waiting 5 = .ok (.aload_n 0, 1) := by decide +kernel
theorem dX4_waiting_6 : decode cX4_waiting 6 = .ok (.getfield 10, 3) := by decide +kernel
theorem dX4_waiting_9 : decode cX4_waiting 9 = .ok (.getfield 63, 3) := by decide +kernel
theorem dX4_waiting_12 : decode cX4_waiting 12 = .ok (.iconst 2, 1) := by decide +kernel
theorem dX4_waiting_13 : decode cX4_waiting 13 = .ok (.iaload, 1) := by decide +kernel
theorem dX4_waiting_14 : decode cX4_waiting 14 = .ok (.if_icmp .lt 5, 3) := by decide +kernel
theorem dX4_waiting_17 : decode cX4_waiting 17 = .ok (.iconst (-1), 1) := by decide +kernel
theorem dX4_waiting_18 : decode cX4_waiting 18 = .ok (.ireturn, 1) := by decide +kernel
theorem dX4_waiting_19 : decode cX4_waiting 19 = .ok (.iload_n 2, 1) := by decide +kernel
theorem dX4_waiting_20 : decode cX4_waiting 20 = .ok (.iconst 0, 1) := by decide +kernel
theorem dX4_waiting_21 : decode cX4_waiting 21 = .ok (.iconst 3, 1) := by decide +kernel
theorem dX4_waiting_22 : decode cX4_waiting 22 = .ok (.invokestatic 67, 3) := by decide +kernel
theorem dX4_waiting_25 : decode cX4_waiting 25 = .ok (.ifCond .eq 18, 3) := by decide +kernel
theorem dX4_waiting_28 : decode cX4_waiting 28 = .ok (.aload_n 0, 1) := by decide +kernel
theorem dX4_waiting_29 : decode cX4_waiting 29 = .ok (.getfield 10, 3) := by decide +kernel
theorem dX4_waiting_32 : decode cX4_waiting 32 = .ok (.getfield 71, 3) := by decide +kernel
theorem dX4_waiting_35 : decode cX4_waiting 35 = .ok (.iload_n 1, 1) := by decide +kernel
theorem dX4_waiting_36 : decode cX4_waiting 36 = .ok (.iload_n 2, 1) := by decide +kernel
theorem dX4_waiting_37 : decode cX4_waiting 37 = .ok (.invokevirtual 75, 3) := by decide +kernel
theorem dX4_waiting_40 : decode cX4_waiting 40 = .ok (.goto 5, 3) := by decide +kernel
theorem dX4_waiting_43 : decode cX4_waiting 43 = .ok (.bipush (-2), 2) := by decide +kernel
theorem dX4_waiting_45 : decode cX4_waiting 45 = .ok (.ireturn, 1) := by decide +kernel
set_option maxRecDepth 20000 in
theorem ggX4_row_X2_rowsOfScreen : GoodIn wsX4_row wsX2_rowsOfScreen := goodIn_r _ [6, 7, 8, 9, 5, 10, 11, 12, 13, 14, 28, 29, 30, 31, 32, 33] (by decide +kernel) (by decide +kernel)
set_option maxRecDepth 20000 in
theorem gX4_row_X2_rowsOfScreen : GoodIn wsX4_row (wsV RX4 80 RX2 yX2_rowsOfScreen wsX2_rowsOfScreen) := goodIn_app (goodIn_of _ (by decide +kernel)) ggX4_row_X2_rowsOfScreen
set_option maxRecDepth 20000 in
theorem ggX4_row_X4_isWithin : GoodIn wsX4_row wsX4_isWithin := goodIn_r _ [14] (by decide +kernel) (by decide +kernel)
set_option maxRecDepth 20000 in
theorem gX4_row_X4_isWithin : GoodIn wsX4_row (va_wsS RX4 67 yX4_isWithin wsX4_isWithin) := goodIn_app (goodIn_of _ (by decide +kernel)) ggX4_row_X4_isWithin
set_option maxRecDepth 20000 in
theorem ggX4_row_X3_read : GoodIn wsX4_row wsX3_read := goodIn_r _ [20, 21, 22, 34, 35] (by decide +kernel) (by decide +kernel)
set_option maxRecDepth 20000 in
theorem gX4_row_X3_read : GoodIn wsX4_row (wsV RX4 75 RX3 yX3_read wsX3_read) := goodIn_app (goodIn_of _ (by decide +kernel)) ggX4_row_X3_read
theorem dX4_row_0 : decode cX4_row 0 = .ok (.iload_n 1, 1) := by decide +kernel
theorem dX4_row_1 : decode cX4_row 1 = .ok (.ifCond .lt 14, 3) := by decide +kernel
theorem dX4_row_4 : decode cX4_row 4 = .ok (.iload_n 1, 1) := by decide +kernel
theorem dX4_row_5 : decode cX4_row 5 = .ok (.aload_n 0, 1) := by decide +kernel
theorem dX4_row_6 : decode cX4_row 6 = .ok (.getfield 10, 3) := by decide +kernel
theorem dX4_row_9 : decode cX4_row 9 = .ok (.invokevirtual 80, 3) := by decide +kernel
theorem dX4_row_12 : decode cX4_row 12 = .ok (.if_icmp .lt 5, 3) := by decide +kernel
theorem dX4_row_15 : decode cX4_row 15 = .ok (.iconst (-1), 1) := by decide +kernel
theorem dX4_row_16 : decode cX4_row 16 = .ok (.ireturn, 1) := by decide +kernel
theorem dX4_row_17 : decode cX4_row 17 = .ok (.iload_n 2, 1) := by decide +kernel
theorem dX4_row_18 : decode cX4_row 18 = .ok (.iconst 0, 1) := by decide +kernel
theorem dX4_row_19 : decode cX4_row 19 = .ok (.iconst 2, 1) := by decide +kernel
theorem dX4_row_20 : decode cX4_row 20 = .ok (.invokestatic 67, 3) := by decide +kernel
theorem dX4_row_23 : decode cX4_row 23 = .ok (.ifCond .eq 18, 3) := by decide +kernel
theorem dX4_row_26 : decode cX4_row 26 = .ok (.aload_n 0, 1) := by decide +kernel
theorem dX4_row_27 : decode cX4_row 27 = .ok (.getfield 10, 3) := by decide +kernel
theorem dX4_row_30 : decode cX4_row 30 = .ok (.getfield 83, 3) := by decide +kernel
theorem dX4_row_33 : decode cX4_row 33 = .ok (.iload_n 1, 1) := by decide +kernel
theorem dX4_row_34 : decode cX4_row 34 = .ok (.iload_n 2, 1) := by decide +kernel
theorem dX4_row_35 : decode cX4_row 35 = .ok (.invokevirtual 75, 3) := by decide +kernel
theorem dX4_row_38 : decode cX4_row 38 = .ok (.goto 5, 3) := by decide +kernel
theorem dX4_row_41 : decode cX4_row 41 = .ok (.bipush (-2), 2) := by decide +kernel
theorem dX4_row_43 : decode cX4_row 43 = .ok (.ireturn, 1) := by decide +kernel
set_option maxRecDepth 20000 in
theorem ggX4_ofMissing_X4_isWithin : GoodIn wsX4_ofMissing wsX4_isWithin := goodIn_r _ [9] (by decide +kernel) (by decide +kernel)
set_option maxRecDepth 20000 in
theorem gX4_ofMissing_X4_isWithin : GoodIn wsX4_ofMissing (va_wsS RX4 67 yX4_isWithin wsX4_isWithin) := goodIn_app (goodIn_of _ (by decide +kernel)) ggX4_ofMissing_X4_isWithin
set_option maxRecDepth 20000 in
theorem ggX4_ofMissing_X3_read : GoodIn wsX4_ofMissing wsX3_read := goodIn_r _ [14, 15, 16, 28, 29] (by decide +kernel) (by decide +kernel)
set_option maxRecDepth 20000 in
theorem gX4_ofMissing_X3_read : GoodIn wsX4_ofMissing (wsV RX4 75 RX3 yX3_read wsX3_read) := goodIn_app (goodIn_of _ (by decide +kernel)) ggX4_ofMissing_X3_read
theorem dX4_ofMissing_0 : decode cX4_ofMissing 0 = .ok (.iload_n 1, 1) := by decide +kernel
theorem dX4_ofMissing_1 : decode cX4_ofMissing 1 = .ok (.ifCond .lt 21, 3) := by decide +kernel
theorem dX4_ofMissing_4 : decode cX4_ofMissing 4 = .ok (.iload_n 1, 1) := by decide +kernel
theorem dX4_ofMissing_5 : decode cX4_ofMissing 5 = .ok (.bipush 8, 2) := by decide +kernel
theorem dX4_ofMissing_7 : decode cX4_ofMissing 7 = .ok (.aload_n 0, 1) := by decide +kernel
theorem dX4_ofMissing_8 : decode cX4_ofMissing 8 = .ok (.getfield 10, 3) := by decide +kernel
theorem dX4_ofMissing_11 : decode cX4_ofMissing 11 = .ok (.getfield 63, 3) := by decide +kernel
theorem dX4_ofMissing_14 : decode cX4_ofMissing 14 = .ok (.iconst 4, 1) := by decide +kernel
theorem dX4_ofMissing_15 : decode cX4_ofMissing 15 = .ok (.iaload, 1) := by decide +kernel
theorem dX4_ofMissing_16 : decode cX4_ofMissing 16 = .ok (.invokestatic 86, 3) := by decide +kernel
theorem dX4_ofMissing_19 : decode cX4_ofMissing 19 = .ok (.if_icmp .lt 5, 3) := by decide +kernel
theorem dX4_ofMissing_22 : decode cX4_ofMissing 22 = .ok (.iconst (-1), 1) := by decide +kernel
theorem dX4_ofMissing_23 : decode cX4_ofMissing 23 = .ok (.ireturn, 1) := by decide +kernel
theorem dX4_ofMissing_24 : decode cX4_ofMissing 24 = .ok (.iload_n 2, 1) := by decide +kernel
theorem dX4_ofMissing_25 : decode cX4_ofMissing 25 = .ok (.iconst 0, 1) := by decide +kernel
theorem dX4_ofMissing_26 : decode cX4_ofMissing 26 = .ok (.iconst 3, 1) := by decide +kernel
theorem dX4_ofMissing_27 : decode cX4_ofMissing 27 = .ok (.invokestatic 67, 3) := by decide +kernel
theorem dX4_ofMissing_30 : decode cX4_ofMissing 30 = .ok (.ifCond .ne 6, 3) := by decide +kernel
theorem dX4_ofMissing_33 : decode cX4_ofMissing 33 = .ok (.bipush (-2), 2) := by decide +kernel
theorem dX4_ofMissing_35 : decode cX4_ofMissing 35 = .ok (.ireturn, 1) := by decide +kernel
theorem dX4_ofMissing_36 : decode cX4_ofMissing 36 = .ok (.aload_n 0, 1) := by decide +kernel
theorem dX4_ofMissing_37 : decode cX4_ofMissing 37 = .ok (.getfield 10, 3) := by decide +kernel
theorem dX4_ofMissing_40 : decode cX4_ofMissing 40 = .ok (.getfield 91, 3) := by decide +kernel
theorem dX4_ofMissing_43 : decode cX4_ofMissing 43 = .ok (.aload_n 0, 1) := by decide +kernel
theorem dX4_ofMissing_44 : decode cX4_ofMissing 44 = .ok (.getfield 10, 3) := by decide +kernel
theorem dX4_ofMissing_47 : decode cX4_ofMissing 47 = .ok (.getfield 63, 3) := by decide +kernel
theorem dX4_ofMissing_50 : decode cX4_ofMissing 50 = .ok (.iconst 4, 1) := by decide +kernel
theorem dX4_ofMissing_51 : decode cX4_ofMissing 51 = .ok (.iaload, 1) := by decide +kernel
theorem dX4_ofMissing_52 : decode cX4_ofMissing 52 = .ok (.iconst 1, 1) := by decide +kernel
theorem dX4_ofMissing_53 : decode cX4_ofMissing 53 = .ok (.isub, 1) := by decide +kernel
theorem dX4_ofMissing_54 : decode cX4_ofMissing 54 = .ok (.iload_n 1, 1) := by decide +kernel
theorem dX4_ofMissing_55 : decode cX4_ofMissing 55 = .ok (.isub, 1) := by decide +kernel
theorem dX4_ofMissing_56 : decode cX4_ofMissing 56 = .ok (.bipush 8, 2) := by decide +kernel
theorem dX4_ofMissing_58 : decode cX4_ofMissing 58 = .ok (.irem, 1) := by decide +kernel
theorem dX4_ofMissing_59 : decode cX4_ofMissing 59 = .ok (.iload_n 2, 1) := by decide +kernel
theorem dX4_ofMissing_60 : decode cX4_ofMissing 60 = .ok (.invokevirtual 75, 3) := by decide +kernel
theorem dX4_ofMissing_63 : decode cX4_ofMissing 63 = .ok (.ireturn, 1) := by decide +kernel
set_option maxRecDepth 20000 in
theorem ggX4_count_X4_isWithin : GoodIn wsX4_count wsX4_isWithin := goodIn_r _ [7] (by decide +kernel) (by decide +kernel)
set_option maxRecDepth 20000 in
theorem gX4_count_X4_isWithin : GoodIn wsX4_count (va_wsS RX4 67 yX4_isWithin wsX4_isWithin) := goodIn_app (goodIn_of _ (by decide +kernel)) ggX4_count_X4_isWithin
theorem dX4_count_0 : decode cX4_count 0 = .ok (.iload_n 1, 1) := by decide +kernel
theorem dX4_count_1 : decode cX4_count 1 = .ok (.bipush 24, 2) := by decide +kernel
theorem dX4_count_3 : decode cX4_count 3 = .ok (.if_icmp .ne 11, 3) := by decide +kernel
theorem dX4_count_6 : decode cX4_count 6 = .ok (.aload_n 0, 1) := by decide +kernel
theorem dX4_count_7 : decode cX4_count 7 = .ok (.getfield 33, 3) := by decide +kernel
theorem dX4_count_10 : decode cX4_count 10 = .ok (.getfield 94, 3) := by decide +kernel
theorem dX4_count_13 : decode cX4_count 13 = .ok (.ireturn, 1) := by decide +kernel
theorem dX4_count_14 : decode cX4_count 14 = .ok (.iload_n 1, 1) := by decide +kernel
theorem dX4_count_15 : decode cX4_count 15 = .ok (.bipush 25, 2) := by decide +kernel
theorem dX4_count_17 : decode cX4_count 17 = .ok (.if_icmp .ne 11, 3) := by decide +kernel
theorem dX4_count_20 : decode cX4_count 20 = .ok (.aload_n 0, 1) := by decide +kernel
theorem dX4_count_21 : decode cX4_count 21 = .ok (.getfield 26, 3) := by decide +kernel
theorem dX4_count_24 : decode cX4_count 24 = .ok (.getfield 98, 3) := by decide +kernel
theorem dX4_count_27 : decode cX4_count 27 = .ok (.ireturn, 1) := by decide +kernel
theorem dX4_count_28 : decode cX4_count 28 = .ok (.iload_n 1, 1) := by decide +kernel
theorem dX4_count_29 : decode cX4_count 29 = .ok (.iconst 0, 1) := by decide +kernel
theorem dX4_count_30 : decode cX4_count 30 = .ok (.bipush 23, 2) := by decide +kernel
theorem dX4_count_32 : decode cX4_count 32 = .ok (.invokestatic 67, 3) := by decide +kernel
theorem dX4_count_35 : decode cX4_count 35 = .ok (.ifCond .eq 15, 3) := by decide +kernel
theorem dX4_count_38 : decode cX4_count 38 = .ok (.aload_n 0, 1) := by decide +kernel
theorem dX4_count_39 : decode cX4_count 39 = .ok (.getfield 10, 3) := by decide +kernel
theorem dX4_count_42 : decode cX4_count 42 = .ok (.getfield 63, 3) := by decide +kernel
theorem dX4_count_45 : decode cX4_count 45 = .ok (.iload_n 1, 1) := by decide +kernel
theorem dX4_count_46 : decode cX4_count 46 = .ok (.iaload, 1) := by decide +kernel
theorem dX4_count_47 : decode cX4_count 47 = .ok (.goto 5, 3) := by decide +kernel
theorem dX4_count_50 : decode cX4_count 50 = .ok (.bipush (-2), 2) := by decide +kernel
theorem dX4_count_52 : decode cX4_count 52 = .ok (.ireturn, 1) := by decide +kernel
set_option maxRecDepth 20000 in
theorem ggX4_shown_X2_rowsOfScreen : GoodIn wsX4_shown wsX2_rowsOfScreen := goodIn_r _ [6, 7, 8, 9, 5, 10, 11, 12, 13, 14, 27, 28, 29, 30, 31, 32] (by decide +kernel) (by decide +kernel)
set_option maxRecDepth 20000 in
theorem gX4_shown_X2_rowsOfScreen : GoodIn wsX4_shown (wsV RX4 80 RX2 yX2_rowsOfScreen wsX2_rowsOfScreen) := goodIn_app (goodIn_of _ (by decide +kernel)) ggX4_shown_X2_rowsOfScreen
set_option maxRecDepth 20000 in
theorem ggX4_shown_X3_read : GoodIn wsX4_shown wsX3_read := goodIn_r _ [19, 20, 21, 33, 34] (by decide +kernel) (by decide +kernel)
set_option maxRecDepth 20000 in
theorem gX4_shown_X3_read : GoodIn wsX4_shown (wsV RX4 75 RX3 yX3_read wsX3_read) := goodIn_app (goodIn_of _ (by decide +kernel)) ggX4_shown_X3_read
theorem dX4_shown_0 : decode cX4_shown 0 = .ok (.aload_n 0, 1) := by decide +kernel
theorem dX4_shown_1 : decode cX4_shown 1 = .ok (.getfield 10, 3) := by decide +kernel
theorem dX4_shown_4 : decode cX4_shown 4 = .ok (.invokevirtual 80, 3) := by decide +kernel
theorem dX4_shown_7 : decode cX4_shown 7 = .ok (.istore_n 1, 1) := by decide +kernel
theorem dX4_shown_8 : decode cX4_shown 8 = .ok (.iconst 0, 1) := by decide +kernel
theorem dX4_shown_9 : decode cX4_shown 9 = .ok (.istore_n 2, 1) := by decide +kernel
theorem dX4_shown_10 : decode cX4_shown 10 = .ok (.iload_n 2, 1) := by decide +kernel
theorem dX4_shown_11 : decode cX4_shown 11 = .ok (.iload_n 1, 1) := by decide +kernel
theorem dX4_shown_12 : decode cX4_shown 12 = .ok (.if_icmp .ge 26, 3) := by decide +kernel
theorem dX4_shown_15 : decode cX4_shown 15 = .ok (.aload_n 0, 1) := by decide +kernel
theorem dX4_shown_16 : decode cX4_shown 16 = .ok (.getfield 10, 3) := by decide +kernel
theorem dX4_shown_19 : decode cX4_shown 19 = .ok (.getfield 83, 3) := by decide +kernel
theorem dX4_shown_22 : decode cX4_shown 22 = .ok (.iload_n 2, 1) := by decide +kernel
theorem dX4_shown_23 : decode cX4_shown 23 = .ok (.iconst 1, 1) := by decide +kernel
theorem dX4_shown_24 : decode cX4_shown 24 = .ok (.invokevirtual 75, 3) := by decide +kernel
theorem dX4_shown_27 : decode cX4_shown 27 = .ok (.bipush (-6), 2) := by decide +kernel
theorem dX4_shown_29 : decode cX4_shown 29 = .ok (.if_icmp .eq 9, 3) := by decide +kernel
theorem dX4_shown_32 : decode cX4_shown 32 = .ok (.iinc 2 1, 3) := by decide +kernel
theorem dX4_shown_35 : decode cX4_shown 35 = .ok (.goto (-25), 3) := by decide +kernel
theorem dX4_shown_38 : decode cX4_shown 38 = .ok (.iload_n 2, 1) := by decide +kernel
theorem dX4_shown_39 : decode cX4_shown 39 = .ok (.ireturn, 1) := by decide +kernel
set_option maxRecDepth 20000 in
theorem ggX4_ratio_X2_setting : GoodIn wsX4_ratio wsX2_setting := goodIn_r _ [6, 7, 8, 9, 10, 20, 21, 22, 23, 24, 25] (by decide +kernel) (by decide +kernel)
set_option maxRecDepth 20000 in
theorem gX4_ratio_X2_setting : GoodIn wsX4_ratio (wsV RX4 101 RX2 yX2_setting wsX2_setting) := goodIn_app (goodIn_of _ (by decide +kernel)) ggX4_ratio_X2_setting
set_option maxRecDepth 20000 in
theorem ggX4_ratio_X4_bitsOf : GoodIn wsX4_ratio wsX4_bitsOf := goodIn_r _ [13, 14] (by decide +kernel) (by decide +kernel)
set_option maxRecDepth 20000 in
theorem gX4_ratio_X4_bitsOf : GoodIn wsX4_ratio (va_wsS RX4 104 yX4_bitsOf wsX4_bitsOf) := goodIn_app (goodIn_of _ (by decide +kernel)) ggX4_ratio_X4_bitsOf
theorem dX4_ratio_0 : decode cX4_ratio 0 = .ok (.iconst 2, 1) := by decide +kernel
theorem dX4_ratio_1 : decode cX4_ratio 1 = .ok (.aload_n 0, 1) := by decide +kernel
theorem dX4_ratio_2 : decode cX4_ratio 2 = .ok (.getfield 10, 3) := by decide +kernel
theorem dX4_ratio_5 : decode cX4_ratio 5 = .ok (.iconst 1, 1) := by decide +kernel
theorem dX4_ratio_6 : decode cX4_ratio 6 = .ok (.invokevirtual 101, 3) := by decide +kernel
theorem dX4_ratio_9 : decode cX4_ratio 9 = .ok (.imul, 1) := by decide +kernel
theorem dX4_ratio_10 : decode cX4_ratio 10 = .ok (.istore_n 1, 1) := by decide +kernel
theorem dX4_ratio_11 : decode cX4_ratio 11 = .ok (.iload_n 1, 1) := by decide +kernel
theorem dX4_ratio_12 : decode cX4_ratio 12 = .ok (.ifCond .gt 5, 3) := by decide +kernel
theorem dX4_ratio_15 : decode cX4_ratio 15 = .ok (.iconst 0, 1) := by decide +kernel
theorem dX4_ratio_16 : decode cX4_ratio 16 = .ok (.ireturn, 1) := by decide +kernel
theorem dX4_ratio_17 : decode cX4_ratio 17 = .ok (.aload_n 0, 1) := by decide +kernel
theorem dX4_ratio_18 : decode cX4_ratio 18 = .ok (.getfield 10, 3) := by decide +kernel
theorem dX4_ratio_21 : decode cX4_ratio 21 = .ok (.iconst 0, 1) := by decide +kernel
theorem dX4_ratio_22 : decode cX4_ratio 22 = .ok (.invokevirtual 101, 3) := by decide +kernel
theorem dX4_ratio_25 : decode cX4_ratio 25 = .ok (.i2d, 1) := by decide +kernel
theorem dX4_ratio_26 : decode cX4_ratio 26 = .ok (.iload_n 1, 1) := by decide +kernel
theorem dX4_ratio_27 : decode cX4_ratio 27 = .ok (.i2d, 1) := by decide +kernel
theorem dX4_ratio_28 : decode cX4_ratio 28 = .ok (.ddiv, 1) := by decide +kernel
theorem dX4_ratio_29 : decode cX4_ratio 29 = .ok (.d2f, 1) := by decide +kernel
theorem dX4_ratio_30 : decode cX4_ratio 30 = .ok (.fstore_n 2, 1) := by decide +kernel
theorem dX4_ratio_31 : decode cX4_ratio 31 = .ok (.fload_n 2, 1) := by decide +kernel
theorem dX4_ratio_32 : decode cX4_ratio 32 = .ok (.f2d, 1) := by decide +kernel
theorem dX4_ratio_33 : decode cX4_ratio 33 = .ok (.bipush 23, 2) := by decide +kernel
theorem dX4_ratio_35 : decode cX4_ratio 35 = .ok (.bipush 127, 2) := by decide +kernel
theorem dX4_ratio_37 : decode cX4_ratio 37 = .ok (.invokestatic 104, 3) := by decide +kernel
theorem dX4_ratio_40 : decode cX4_ratio 40 = .ok (.l2i, 1) := by decide +kernel
theorem dX4_ratio_41 : decode cX4_ratio 41 = .ok (.ireturn, 1) := by decide +kernel
set_option maxRecDepth 20000 in
theorem ggX4_fill_X4_bitsOf : GoodIn wsX4_fill wsX4_bitsOf := goodIn_r _ [5, 6] (by decide +kernel) (by decide +kernel)
set_option maxRecDepth 20000 in
theorem gX4_fill_X4_bitsOf : GoodIn wsX4_fill (va_wsS RX4 104 yX4_bitsOf wsX4_bitsOf) := goodIn_app (goodIn_of _ (by decide +kernel)) ggX4_fill_X4_bitsOf
theorem dX4_fill_0 : decode cX4_fill 0 = .ok (.aload_n 0, 1) := by decide +kernel
theorem dX4_fill_1 : decode cX4_fill 1 = .ok (.getfield 10, 3) := by decide +kernel
theorem dX4_fill_4 : decode cX4_fill 4 = .ok (.getfield 63, 3) := by decide +kernel
theorem dX4_fill_7 : decode cX4_fill 7 = .ok (.iconst 0, 1) := by decide +kernel
theorem dX4_fill_8 : decode cX4_fill 8 = .ok (.iaload, 1) := by decide +kernel
theorem dX4_fill_9 : decode cX4_fill 9 = .ok (.istore_n 1, 1) := by decide +kernel
theorem dX4_fill_10 : decode cX4_fill 10 = .ok (.iload_n 1, 1) := by decide +kernel
theorem dX4_fill_11 : decode cX4_fill 11 = .ok (.ifCond .gt 5, 3) := by decide +kernel
theorem dX4_fill_14 : decode cX4_fill 14 = .ok (.lconst 0, 1) := by decide +kernel
theorem dX4_fill_15 : decode cX4_fill 15 = .ok (.lreturn, 1) := by decide +kernel
theorem dX4_fill_16 : decode cX4_fill 16 = .ok (.aload_n 0, 1) := by decide +kernel
theorem dX4_fill_17 : decode cX4_fill 17 = .ok (.getfield 10, 3) := by decide +kernel
theorem dX4_fill_20 : decode cX4_fill 20 = .ok (.getfield 108, 3) := by decide +kernel
theorem dX4_fill_23 : decode cX4_fill 23 = .ok (.i2d, 1) := by decide +kernel
theorem dX4_fill_24 : decode cX4_fill 24 = .ok (.iload_n 1, 1) := by decide +kernel
theorem dX4_fill_25 : decode cX4_fill 25 = .ok (.i2d, 1) := by decide +kernel
theorem dX4_fill_26 : decode cX4_fill 26 = .ok (.ddiv, 1) := by decide +kernel
theorem dX4_fill_27 : decode cX4_fill 27 = .ok (.bipush 52, 2) := by decide +kernel
theorem dX4_fill_29 : decode cX4_fill 29 = .ok (.sipush 1023, 3) := by decide +kernel
theorem dX4_fill_32 : decode cX4_fill 32 = .ok (.invokestatic 104, 3) := by decide +kernel
theorem dX4_fill_35 : decode cX4_fill 35 = .ok (.lreturn, 1) := by decide +kernel
set_option maxRecDepth 20000 in
theorem ggX4_would_X4_isWithin : GoodIn wsX4_would wsX4_isWithin := goodIn_r _ [7] (by decide +kernel) (by decide +kernel)
set_option maxRecDepth 20000 in
theorem gX4_would_X4_isWithin : GoodIn wsX4_would (va_wsS RX4 67 yX4_isWithin wsX4_isWithin) := goodIn_app (goodIn_of _ (by decide +kernel)) ggX4_would_X4_isWithin
set_option maxRecDepth 20000 in
theorem ggX4_would_X2_copyFrom : GoodIn wsX4_would wsX2_copyFrom := goodIn_r _ [12, 13, 14, 15, 16, 17, 18, 19, 20, 21, 22, 23, 24, 25, 26, 27, 28, 29, 30, 31, 32, 33, 108, 109, 110, 111, 112, 113, 114, 115] (by decide +kernel) (by decide +kernel)
set_option maxRecDepth 20000 in
theorem gX4_would_X2_copyFrom : GoodIn wsX4_would (wsV RX4 111 RX2 yX2_copyFrom wsX2_copyFrom) := goodIn_app (goodIn_of _ (by decide +kernel)) ggX4_would_X2_copyFrom
set_option maxRecDepth 20000 in
theorem ggX4_would_X2_passTicks : GoodIn wsX4_would wsX2_passTicks := goodIn_r _ [37, 13, 38, 30, 31, 32, 39, 40, 41, 22, 5, 6, 7, 42, 43, 44, 11, 45, 46, 47, 48, 49, 18, 19, 50, 51, 52, 53, 54, 55, 56, 26, 57, 58, 28, 59, 60, 61, 62, 63, 64, 65, 66, 67, 68, 69, 70, 21, 71, 72, 73, 74, 33, 15, 16, 17, 75, 76, 77, 78, 79, 80, 81, 82, 83, 84, 85, 86, 87, 88, 89, 90, 20, 91, 92, 93, 94, 95, 96, 97, 98, 108, 109, 110, 111, 112, 113, 114, 115] (by decide +kernel) (by decide +kernel)
set_option maxRecDepth 20000 in
theorem gX4_would_X2_passTicks : GoodIn wsX4_would (wsV RX4 56 RX2 yX2_passTicks wsX2_passTicks) := goodIn_app (goodIn_of _ (by decide +kernel)) ggX4_would_X2_passTicks
set_option maxRecDepth 20000 in
theorem ggX4_would_X4_gainOf : GoodIn wsX4_would wsX4_gainOf := goodIn_r _ [102, 1, 2, 4, 5, 6, 7, 103, 104, 105, 106, 107, 108, 109, 110, 111, 112, 113] (by decide +kernel) (by decide +kernel)
set_option maxRecDepth 20000 in
theorem gX4_would_X4_gainOf : GoodIn wsX4_would (wsV RX4 115 RX4 yX4_gainOf wsX4_gainOf) := goodIn_app (goodIn_of _ (by decide +kernel)) ggX4_would_X4_gainOf
theorem dX4_would_0 : decode cX4_would 0 = .ok (.iload_n 1, 1) := by decide +kernel
theorem dX4_would_1 : decode cX4_would 1 = .ok (.iconst 1, 1) := by decide +kernel
theorem dX4_would_2 : decode cX4_would 2 = .ok (.sipush 999, 3) := by decide +kernel
theorem dX4_would_5 : decode cX4_would 5 = .ok (.invokestatic 67, 3) := by decide +kernel
theorem dX4_would_8 : decode cX4_would 8 = .ok (.ifCond .eq 12, 3) := by decide +kernel
theorem dX4_would_11 : decode cX4_would 11 = .ok (.iload_n 2, 1) := by decide +kernel
theorem dX4_would_12 : decode cX4_would 12 = .ok (.iconst 0, 1) := by decide +kernel
theorem dX4_would_13 : decode cX4_would 13 = .ok (.iconst 2, 1) := by decide +kernel
theorem dX4_would_14 : decode cX4_would 14 = .ok (.invokestatic 67, 3) := by decide +kernel
theorem dX4_would_17 : decode cX4_would 17 = .ok (.ifCond .ne 6, 3) := by decide +kernel
theorem dX4_would_20 : decode cX4_would 20 = .ok (.bipush (-2), 2) := by decide +kernel
theorem dX4_would_22 : decode cX4_would 22 = .ok (.ireturn, 1) := by decide +kernel
theorem dX4_would_23 : decode cX4_would 23 = .ok (.aload_n 0, 1) := by decide +kernel
theorem dX4_would_24 : decode cX4_would 24 = .ok (.getfield 16, 3) := by decide +kernel
theorem dX4_would_27 : decode cX4_would 27 = .ok (.aload_n 0, 1) := by decide +kernel
theorem dX4_would_28 : decode cX4_would 28 = .ok (.getfield 10, 3) := by decide +kernel
theorem dX4_would_31 : decode cX4_would 31 = .ok (.invokevirtual 111, 3) := by decide +kernel
theorem dX4_would_34 : decode cX4_would 34 = .ok (.aload_n 0, 1) := by decide +kernel
theorem dX4_would_35 : decode cX4_would 35 = .ok (.getfield 16, 3) := by decide +kernel
theorem dX4_would_38 : decode cX4_would 38 = .ok (.iload_n 1, 1) := by decide +kernel
theorem dX4_would_39 : decode cX4_would 39 = .ok (.ldc 114, 2) := by decide +kernel
theorem dX4_would_41 : decode cX4_would 41 = .ok (.invokevirtual 56, 3) := by decide +kernel
theorem dX4_would_44 : decode cX4_would 44 = .ok (.pop, 1) := by decide +kernel
theorem dX4_would_45 : decode cX4_would 45 = .ok (.iload_n 2, 1) := by decide +kernel
theorem dX4_would_46 : decode cX4_would 46 = .ok (.ifCond .ne 9, 3) := by decide +kernel
theorem dX4_would_49 : decode cX4_would 49 = .ok (.aload_n 0, 1) := by decide +kernel
theorem dX4_would_50 : decode cX4_would 50 = .ok (.iconst 4, 1) := by decide +kernel
theorem dX4_would_51 : decode cX4_would 51 = .ok (.invokevirtual 115, 3) := by decide +kernel
theorem dX4_would_54 : decode cX4_would 54 = .ok (.ireturn, 1) := by decide +kernel
theorem dX4_would_55 : decode cX4_would 55 = .ok (.iload_n 2, 1) := by decide +kernel
theorem dX4_would_56 : decode cX4_would 56 = .ok (.iconst 1, 1) := by decide +kernel
theorem dX4_would_57 : decode cX4_would 57 = .ok (.if_icmp .ne 12, 3) := by decide +kernel
theorem dX4_would_60 : decode cX4_would 60 = .ok (.aload_n 0, 1) := by decide +kernel
theorem dX4_would_61 : decode cX4_would 61 = .ok (.bipush 6, 2) := by decide +kernel
theorem dX4_would_63 : decode cX4_would 63 = .ok (.invokevirtual 115, 3) := by decide +kernel
theorem dX4_would_66 : decode cX4_would 66 = .ok (.goto 9, 3) := by decide +kernel
theorem dX4_would_69 : decode cX4_would 69 = .ok (.aload_n 0, 1) := by decide +kernel
theorem dX4_would_70 : decode cX4_would 70 = .ok (.bipush 12, 2) := by decide +kernel
theorem dX4_would_72 : decode cX4_would 72 = .ok (.invokevirtual 115, 3) := by decide +kernel
theorem dX4_would_75 : decode cX4_would 75 = .ok (.ireturn, 1) := by decide +kernel
set_option maxRecDepth 20000 in
theorem ggX4_leastRoom_X4_isWithin : GoodIn wsX4_leastRoom wsX4_isWithin := goodIn_r _ [9] (by decide +kernel) (by decide +kernel)
set_option maxRecDepth 20000 in
theorem gX4_leastRoom_X4_isWithin : GoodIn wsX4_leastRoom (va_wsS RX4 67 yX4_isWithin wsX4_isWithin) := goodIn_app (goodIn_of _ (by decide +kernel)) ggX4_leastRoom_X4_isWithin
set_option maxRecDepth 20000 in
theorem ggX4_leastRoom_X4_tryWith : GoodIn wsX4_leastRoom wsX4_tryWith := goodIn_r _ [13, 14, 1, 15, 16, 17, 18, 19, 20, 21, 22, 23, 24, 25, 26, 27, 28, 29, 30, 31, 32, 33, 34, 35, 36, 37, 38, 4, 39, 40, 6, 7, 8, 9, 41, 42, 43, 44, 45, 46, 3, 5, 47, 48, 49, 50, 51, 52, 53, 54, 55, 56, 57, 58, 59, 60, 61, 62, 63, 64, 65, 66, 67, 68, 69, 70, 71, 72, 73, 74, 75, 76, 77, 78, 79, 80, 81, 82, 83, 84, 85, 86, 87, 88, 89, 90, 91, 92, 93, 94, 95, 96, 97, 98, 99, 100, 101, 102, 103, 108, 109, 110, 111, 112, 113, 114, 115, 116, 117, 118, 119, 120] (by decide +kernel) (by decide +kernel)
set_option maxRecDepth 20000 in
theorem gX4_leastRoom_X4_tryWith : GoodIn wsX4_leastRoom (wsV RX4 121 RX4 yX4_tryWith wsX4_tryWith) := goodIn_app (goodIn_of _ (by decide +kernel)) ggX4_leastRoom_X4_tryWith
set_option maxRecDepth 20000 in
theorem ggX4_leastRoom_X4_gainOf : GoodIn wsX4_leastRoom wsX4_gainOf := goodIn_r _ [107, 14, 1, 6, 7, 8, 9, 108, 109, 110, 111, 112, 113, 114, 115, 116, 117, 118] (by decide +kernel) (by decide +kernel)
set_option maxRecDepth 20000 in
theorem gX4_leastRoom_X4_gainOf : GoodIn wsX4_leastRoom (wsV RX4 115 RX4 yX4_gainOf wsX4_gainOf) := goodIn_app (goodIn_of _ (by decide +kernel)) ggX4_leastRoom_X4_gainOf
theorem dX4_leastRoom_0 : decode cX4_leastRoom 0 = .ok (.iload_n 1, 1) := by decide +kernel
theorem dX4_leastRoom_1 : decode cX4_leastRoom 1 = .ok (.iconst 1, 1) := by decide +kernel
theorem dX4_leastRoom_2 : decode cX4_leastRoom 2 = .ok (.sipush 999, 3) := by decide +kernel
theorem dX4_leastRoom_5 : decode cX4_leastRoom 5 = .ok (.invokestatic 67, 3) := by decide +kernel
theorem dX4_leastRoom_8 : decode cX4_leastRoom 8 = .ok (.ifCond .ne 6, 3) := by decide +kernel
theorem dX4_leastRoom_11 : decode cX4_leastRoom 11 = .ok (.bipush (-2), 2) := by decide +kernel
theorem dX4_leastRoom_13 : decode cX4_leastRoom 13 = .ok (.ireturn, 1) := by decide +kernel
theorem dX4_leastRoom_14 : decode cX4_leastRoom 14 = .ok (.iconst 1, 1) := by decide +kernel
theorem dX4_leastRoom_15 : decode cX4_leastRoom 15 = .ok (.aload_n 0, 1) := by decide +kernel
theorem dX4_leastRoom_16 : decode cX4_leastRoom 16 = .ok (.getfield 10, 3) := by decide +kernel
theorem dX4_leastRoom_19 : decode cX4_leastRoom 19 = .ok (.getfield 63, 3) := by decide +kernel
theorem dX4_leastRoom_22 : decode cX4_leastRoom 22 = .ok (.iconst 2, 1) := by decide +kernel
theorem dX4_leastRoom_23 : decode cX4_leastRoom 23 = .ok (.iaload, 1) := by decide +kernel
theorem dX4_leastRoom_24 : decode cX4_leastRoom 24 = .ok (.invokestatic 118, 3) := by decide +kernel
theorem dX4_leastRoom_27 : decode cX4_leastRoom 27 = .ok (.istore_n 2, 1) := by decide +kernel
theorem dX4_leastRoom_28 : decode cX4_leastRoom 28 = .ok (.iload_n 2, 1) := by decide +kernel
theorem dX4_leastRoom_29 : decode cX4_leastRoom 29 = .ok (.bipush 16, 2) := by decide +kernel
theorem dX4_leastRoom_31 : decode cX4_leastRoom 31 = .ok (.if_icmp .gt 26, 3) := by decide +kernel
theorem dX4_leastRoom_34 : decode cX4_leastRoom 34 = .ok (.aload_n 0, 1) := by decide +kernel
theorem dX4_leastRoom_35 : decode cX4_leastRoom 35 = .ok (.iconst 2, 1) := by decide +kernel
theorem dX4_leastRoom_36 : decode cX4_leastRoom 36 = .ok (.iload_n 2, 1) := by decide +kernel
theorem dX4_leastRoom_37 : decode cX4_leastRoom 37 = .ok (.iload_n 1, 1) := by decide +kernel
theorem dX4_leastRoom_38 : decode cX4_leastRoom 38 = .ok (.invokevirtual 121, 3) := by decide +kernel
theorem dX4_leastRoom_41 : decode cX4_leastRoom 41 = .ok (.aload_n 0, 1) := by decide +kernel
theorem dX4_leastRoom_42 : decode cX4_leastRoom 42 = .ok (.iconst 4, 1) := by decide +kernel
theorem dX4_leastRoom_43 : decode cX4_leastRoom 43 = .ok (.invokevirtual 115, 3) := by decide +kernel
theorem dX4_leastRoom_46 : decode cX4_leastRoom 46 = .ok (.ifCond .ne 5, 3) := by decide +kernel
theorem dX4_leastRoom_49 : decode cX4_leastRoom 49 = .ok (.iload_n 2, 1) := by decide +kernel
theorem dX4_leastRoom_50 : decode cX4_leastRoom 50 = .ok (.ireturn, 1) := by decide +kernel
theorem dX4_leastRoom_51 : decode cX4_leastRoom 51 = .ok (.iinc 2 1, 3) := by decide +kernel
theorem dX4_leastRoom_54 : decode cX4_leastRoom 54 = .ok (.goto (-26), 3) := by decide +kernel
theorem dX4_leastRoom_57 : decode cX4_leastRoom 57 = .ok (.bipush (-6), 2) := by decide +kernel
theorem dX4_leastRoom_59 : decode cX4_leastRoom 59 = .ok (.ireturn, 1) := by decide +kernel
set_option maxRecDepth 20000 in
theorem ggX4_bestOut_X4_isWithin : GoodIn wsX4_bestOut wsX4_isWithin := goodIn_r _ [5] (by decide +kernel) (by decide +kernel)
set_option maxRecDepth 20000 in
theorem gX4_bestOut_X4_isWithin : GoodIn wsX4_bestOut (va_wsS RX4 67 yX4_isWithin wsX4_isWithin) := goodIn_app (goodIn_of _ (by decide +kernel)) ggX4_bestOut_X4_isWithin
set_option maxRecDepth 20000 in
theorem ggX4_bestOut_X4_tryWith : GoodIn wsX4_bestOut wsX4_tryWith := goodIn_r _ [9, 10, 11, 1, 12, 13, 14, 15, 16, 17, 18, 19, 20, 21, 22, 23, 24, 25, 26, 27, 28, 29, 30, 31, 32, 33, 34, 35, 36, 37, 2, 3, 4, 5, 38, 39, 40, 41, 42, 43, 44, 45, 46, 47, 48, 49, 50, 51, 52, 53, 54, 55, 56, 57, 58, 59, 60, 61, 62, 63, 64, 65, 66, 67, 68, 69, 70, 71, 72, 73, 74, 75, 76, 77, 78, 79, 80, 81, 82, 83, 84, 85, 86, 87, 88, 89, 90, 91, 92, 93, 94, 95, 96, 97, 98, 99, 100, 101, 102, 107, 108, 109, 110, 111, 112, 113, 114, 115, 116, 117, 118, 119] (by decide +kernel) (by decide +kernel)
set_option maxRecDepth 20000 in
theorem gX4_bestOut_X4_tryWith : GoodIn wsX4_bestOut (wsV RX4 121 RX4 yX4_tryWith wsX4_tryWith) := goodIn_app (goodIn_of _ (by decide +kernel)) ggX4_bestOut_X4_tryWith
set_option maxRecDepth 20000 in
theorem ggX4_bestOut_X4_gainOf : GoodIn wsX4_bestOut wsX4_gainOf := goodIn_r _ [106, 10, 11, 2, 3, 4, 5, 107, 108, 109, 110, 111, 112, 113, 114, 115, 116, 117] (by decide +kernel) (by decide +kernel)
set_option maxRecDepth 20000 in
theorem gX4_bestOut_X4_gainOf : GoodIn wsX4_bestOut (wsV RX4 115 RX4 yX4_gainOf wsX4_gainOf) := goodIn_app (goodIn_of _ (by decide +kernel)) ggX4_bestOut_X4_gainOf
theorem dX4_bestOut_0 : decode cX4_bestOut 0 = .ok (.iload_n 1, 1) := by decide +kernel
theorem dX4_bestOut_1 : decode cX4_bestOut 1 = .ok (.iconst 1, 1) := by decide +kernel
theorem dX4_bestOut_2 : decode cX4_bestOut 2 = .ok (.sipush 999, 3) := by decide +kernel
theorem dX4_bestOut_5 : decode cX4_bestOut 5 = .ok (.invokestatic 67, 3) := by decide +kernel
theorem dX4_bestOut_8 : decode cX4_bestOut 8 = .ok (.ifCond .eq 12, 3) := by decide +kernel
theorem dX4_bestOut_11 : decode cX4_bestOut 11 = .ok (.iload_n 2, 1) := by decide +kernel
theorem dX4_bestOut_12 : decode cX4_bestOut 12 = .ok (.iconst 0, 1) := by decide +kernel
theorem dX4_bestOut_13 : decode cX4_bestOut 13 = .ok (.iconst 1, 1) := by decide +kernel
theorem dX4_bestOut_14 : decode cX4_bestOut 14 = .ok (.invokestatic 67, 3) := by decide +kernel
theorem dX4_bestOut_17 : decode cX4_bestOut 17 = .ok (.ifCond .ne 6, 3) := by decide +kernel
theorem dX4_bestOut_20 : decode cX4_bestOut 20 = .ok (.bipush (-2), 2) := by decide +kernel
theorem dX4_bestOut_22 : decode cX4_bestOut 22 = .ok (.ireturn, 1) := by decide +kernel
theorem dX4_bestOut_23 : decode cX4_bestOut 23 = .ok (.iconst 0, 1) := by decide +kernel
theorem dX4_bestOut_24 : decode cX4_bestOut 24 = .ok (.istore_n 3, 1) := by decide +kernel
theorem dX4_bestOut_25 : decode cX4_bestOut 25 = .ok (.ldc 114, 2) := by decide +kernel
theorem dX4_bestOut_27 : decode cX4_bestOut 27 = .ok (.istore 4, 2) := by decide +kernel
theorem dX4_bestOut_29 : decode cX4_bestOut 29 = .ok (.iconst 1, 1) := by decide +kernel
theorem dX4_bestOut_30 : decode cX4_bestOut 30 = .ok (.istore 5, 2) := by decide +kernel
theorem dX4_bestOut_32 : decode cX4_bestOut 32 = .ok (.iload 5, 2) := by decide +kernel
theorem dX4_bestOut_34 : decode cX4_bestOut 34 = .ok (.bipush 99, 2) := by decide +kernel
theorem dX4_bestOut_36 : decode cX4_bestOut 36 = .ok (.if_icmp .gt 45, 3) := by decide +kernel
theorem dX4_bestOut_39 : decode cX4_bestOut 39 = .ok (.aload_n 0, 1) := by decide +kernel
theorem dX4_bestOut_40 : decode cX4_bestOut 40 = .ok (.iconst 1, 1) := by decide +kernel
theorem dX4_bestOut_41 : decode cX4_bestOut 41 = .ok (.iload 5, 2) := by decide +kernel
theorem dX4_bestOut_43 : decode cX4_bestOut 43 = .ok (.iload_n 1, 1) := by decide +kernel
theorem dX4_bestOut_44 : decode cX4_bestOut 44 = .ok (.invokevirtual 121, 3) := by decide +kernel
theorem dX4_bestOut_47 : decode cX4_bestOut 47 = .ok (.aload_n 0, 1) := by decide +kernel
theorem dX4_bestOut_48 : decode cX4_bestOut 48 = .ok (.iconst 4, 1) := by decide +kernel
theorem dX4_bestOut_49 : decode cX4_bestOut 49 = .ok (.invokevirtual 115, 3) := by decide +kernel
theorem dX4_bestOut_52 : decode cX4_bestOut 52 = .ok (.aload_n 0, 1) := by decide +kernel
theorem dX4_bestOut_53 : decode cX4_bestOut 53 = .ok (.bipush 6, 2) := by decide +kernel
theorem dX4_bestOut_55 : decode cX4_bestOut 55 = .ok (.invokevirtual 115, 3) := by decide +kernel
theorem dX4_bestOut_58 : decode cX4_bestOut 58 = .ok (.iadd, 1) := by decide +kernel
theorem dX4_bestOut_59 : decode cX4_bestOut 59 = .ok (.istore 6, 2) := by decide +kernel
theorem dX4_bestOut_61 : decode cX4_bestOut 61 = .ok (.iload 6, 2) := by decide +kernel
theorem dX4_bestOut_63 : decode cX4_bestOut 63 = .ok (.iload 4, 2) := by decide +kernel
theorem dX4_bestOut_65 : decode cX4_bestOut 65 = .ok (.if_icmp .ge 10, 3) := by decide +kernel
theorem dX4_bestOut_68 : decode cX4_bestOut 68 = .ok (.iload 5, 2) := by decide +kernel
theorem dX4_bestOut_70 : decode cX4_bestOut 70 = .ok (.istore_n 3, 1) := by decide +kernel
theorem dX4_bestOut_71 : decode cX4_bestOut 71 = .ok (.iload 6, 2) := by decide +kernel
theorem dX4_bestOut_73 : decode cX4_bestOut 73 = .ok (.istore 4, 2) := by decide +kernel
theorem dX4_bestOut_75 : decode cX4_bestOut 75 = .ok (.iinc 5 1, 3) := by decide +kernel
theorem dX4_bestOut_78 : decode cX4_bestOut 78 = .ok (.goto (-46), 3) := by decide +kernel
theorem dX4_bestOut_81 : decode cX4_bestOut 81 = .ok (.iload_n 2, 1) := by decide +kernel
theorem dX4_bestOut_82 : decode cX4_bestOut 82 = .ok (.ifCond .ne 7, 3) := by decide +kernel
theorem dX4_bestOut_85 : decode cX4_bestOut 85 = .ok (.iload_n 3, 1) := by decide +kernel
theorem dX4_bestOut_86 : decode cX4_bestOut 86 = .ok (.goto 5, 3) := by decide +kernel
theorem dX4_bestOut_89 : decode cX4_bestOut 89 = .ok (.iload 4, 2) := by decide +kernel
theorem dX4_bestOut_91 : decode cX4_bestOut 91 = .ok (.ireturn, 1) := by decide +kernel
set_option maxRecDepth 20000 in
theorem ggX4_put_X4_charactersIn : GoodIn wsX4_put wsX4_charactersIn := goodIn_r _ [5, 6, 7, 8, 4, 9] (by decide +kernel) (by decide +kernel)
set_option maxRecDepth 20000 in
theorem gX4_put_X4_charactersIn : GoodIn wsX4_put (va_wsS RX4 125 yX4_charactersIn wsX4_charactersIn) := goodIn_app (goodIn_of _ (by decide +kernel)) ggX4_put_X4_charactersIn
set_option maxRecDepth 20000 in
theorem ggX4_put_X1_append : GoodIn wsX4_put wsX1_append := goodIn_r _ [14, 15, 16, 17, 23, 24, 25, 26, 27, 28] (by decide +kernel) (by decide +kernel)
set_option maxRecDepth 20000 in
theorem gX4_put_X1_append : GoodIn wsX4_put (wsV RX4 129 RX1 yX1_append wsX1_append) := goodIn_app (goodIn_of _ (by decide +kernel)) ggX4_put_X1_append
theorem dX4_put_0 : decode cX4_put 0 = .ok (.lload_n 1, 1) := by decide +kernel
theorem dX4_put_1 : decode cX4_put 1 = .ok (.invokestatic 125, 3) := by decide +kernel
theorem dX4_put_4 : decode cX4_put 4 = .ok (.istore_n 3, 1) := by decide +kernel
theorem dX4_put_5 : decode cX4_put 5 = .ok (.iload_n 3, 1) := by decide +kernel
theorem dX4_put_6 : decode cX4_put 6 = .ok (.ifCond .ne 6, 3) := by decide +kernel
theorem dX4_put_9 : decode cX4_put 9 = .ok (.bipush (-2), 2) := by decide +kernel
theorem dX4_put_11 : decode cX4_put 11 = .ok (.ireturn, 1) := by decide +kernel
theorem dX4_put_12 : decode cX4_put 12 = .ok (.aload_n 0, 1) := by decide +kernel
theorem dX4_put_13 : decode cX4_put 13 = .ok (.getfield 33, 3) := by decide +kernel
theorem dX4_put_16 : decode cX4_put 16 = .ok (.getfield 94, 3) := by decide +kernel
theorem dX4_put_19 : decode cX4_put 19 = .ok (.iload_n 3, 1) := by decide +kernel
theorem dX4_put_20 : decode cX4_put 20 = .ok (.iadd, 1) := by decide +kernel
theorem dX4_put_21 : decode cX4_put 21 = .ok (.bipush 80, 2) := by decide +kernel
theorem dX4_put_23 : decode cX4_put 23 = .ok (.if_icmp .le 6, 3) := by decide +kernel
theorem dX4_put_26 : decode cX4_put 26 = .ok (.bipush (-4), 2) := by decide +kernel
theorem dX4_put_28 : decode cX4_put 28 = .ok (.ireturn, 1) := by decide +kernel
theorem dX4_put_29 : decode cX4_put 29 = .ok (.aload_n 0, 1) := by decide +kernel
theorem dX4_put_30 : decode cX4_put 30 = .ok (.getfield 33, 3) := by decide +kernel
theorem dX4_put_33 : decode cX4_put 33 = .ok (.lload_n 1, 1) := by decide +kernel
theorem dX4_put_34 : decode cX4_put 34 = .ok (.iload_n 3, 1) := by decide +kernel
theorem dX4_put_35 : decode cX4_put 35 = .ok (.invokevirtual 129, 3) := by decide +kernel
theorem dX4_put_38 : decode cX4_put 38 = .ok (.aload_n 0, 1) := by decide +kernel
theorem dX4_put_39 : decode cX4_put 39 = .ok (.getfield 33, 3) := by decide +kernel
theorem dX4_put_42 : decode cX4_put 42 = .ok (.getfield 94, 3) := by decide +kernel
theorem dX4_put_45 : decode cX4_put 45 = .ok (.ireturn, 1) := by decide +kernel
theorem dX4_wipe_0 : decode cX4_wipe 0 = .ok (.aload_n 0, 1) := by decide +kernel
theorem dX4_wipe_1 : decode cX4_wipe 1 = .ok (.getfield 33, 3) := by decide +kernel
theorem dX4_wipe_4 : decode cX4_wipe 4 = .ok (.getfield 94, 3) := by decide +kernel
theorem dX4_wipe_7 : decode cX4_wipe 7 = .ok (.istore_n 1, 1) := by decide +kernel
theorem dX4_wipe_8 : decode cX4_wipe 8 = .ok (.aload_n 0, 1) := by decide +kernel
theorem dX4_wipe_9 : decode cX4_wipe 9 = .ok (.getfield 33, 3) := by decide +kernel
theorem dX4_wipe_12 : decode cX4_wipe 12 = .ok (.iconst 0, 1) := by decide +kernel
theorem dX4_wipe_13 : decode cX4_wipe 13 = .ok (.putfield 94, 3) := by decide +kernel
theorem dX4_wipe_16 : decode cX4_wipe 16 = .ok (.iload_n 1, 1) := by decide +kernel
theorem dX4_wipe_17 : decode cX4_wipe 17 = .ok (.ireturn, 1) := by decide +kernel
set_option maxRecDepth 20000 in
theorem ggX4_fault_X1_findFault : GoodIn wsX4_fault wsX1_findFault := goodIn_r _ [6, 7, 8, 9, 10, 11, 5, 12, 13, 14, 15, 16, 17, 18, 19, 20, 21, 22, 23, 24, 25, 26, 27, 28, 29, 30, 31, 32, 33, 34, 40, 41, 42, 43, 44, 45] (by decide +kernel) (by decide +kernel)
set_option maxRecDepth 20000 in
theorem gX4_fault_X1_findFault : GoodIn wsX4_fault (wsV RX4 133 RX1 yX1_findFault wsX1_findFault) := goodIn_app (goodIn_of _ (by decide +kernel)) ggX4_fault_X1_findFault
theorem dX4_fault_0 : decode cX4_fault 0 = .ok (.aload_n 0, 1) := by decide +kernel
theorem dX4_fault_1 : decode cX4_fault 1 = .ok (.getfield 33, 3) := by decide +kernel
theorem dX4_fault_4 : decode cX4_fault 4 = .ok (.invokevirtual 133, 3) := by decide +kernel
theorem dX4_fault_7 : decode cX4_fault 7 = .ok (.ireturn, 1) := by decide +kernel
set_option maxRecDepth 20000 in
theorem ggX4_carryOut_X1_findFault : GoodIn wsX4_carryOut wsX1_findFault := goodIn_r _ [8, 9, 10, 11, 12, 13, 7, 14, 15, 16, 17, 18, 19, 20, 21, 22, 23, 24, 25, 26, 27, 28, 29, 30, 31, 32, 33, 34, 35, 36, 185, 186, 187, 188, 189, 190] (by decide +kernel) (by decide +kernel)
set_option maxRecDepth 20000 in
theorem gX4_carryOut_X1_findFault : GoodIn wsX4_carryOut (wsV RX4 133 RX1 yX1_findFault wsX1_findFault) := goodIn_app (goodIn_of _ (by decide +kernel)) ggX4_carryOut_X1_findFault
set_option maxRecDepth 20000 in
theorem ggX4_carryOut_X0_prepare : GoodIn wsX4_carryOut wsX0_prepare := goodIn_r _ [41, 42, 43, 44, 45, 46, 47, 48, 49, 50, 51, 52, 53, 54, 55, 56, 57, 58, 59, 60, 61, 62, 63, 64, 65, 66, 67, 68, 69, 70, 71, 72, 73, 74, 75, 76, 77, 78, 79, 80, 81, 82, 83, 84, 85, 86, 87, 88, 89, 90, 91, 92, 191, 192, 193, 194, 195, 196, 197, 198, 199, 200, 201] (by decide +kernel) (by decide +kernel)
set_option maxRecDepth 20000 in
theorem gX4_carryOut_X0_prepare : GoodIn wsX4_carryOut (wsV RX4 37 RX0 yX0_prepare wsX0_prepare) := goodIn_app (goodIn_of _ (by decide +kernel)) ggX4_carryOut_X0_prepare
set_option maxRecDepth 20000 in
theorem ggX4_carryOut_X1_readOrder : GoodIn wsX4_carryOut wsX1_readOrder := goodIn_r _ [14, 15, 9, 16, 17, 18, 19, 20, 7, 21, 10, 22, 23, 24, 25, 26, 27, 28, 29, 30, 31, 32, 33, 34, 35, 36, 185, 186, 187, 188, 189, 190] (by decide +kernel) (by decide +kernel)
set_option maxRecDepth 20000 in
theorem gX4_carryOut_X1_readOrder : GoodIn wsX4_carryOut (wsV RX4 139 RX1 yX1_readOrder wsX1_readOrder) := goodIn_app (goodIn_of _ (by decide +kernel)) ggX4_carryOut_X1_readOrder
set_option maxRecDepth 20000 in
theorem ggX4_carryOut_X4_carryOutOrder : GoodIn wsX4_carryOut wsX4_carryOutOrder := goodIn_r _ [97, 1, 3, 98, 99, 100, 101, 50, 102, 58, 103, 46, 104, 105, 106, 107, 108, 59, 109, 110, 111, 112, 113, 90, 73, 91, 114, 72, 74, 84, 115, 116, 117, 118, 119, 120, 121, 122, 63, 123, 124, 125, 126, 127, 128, 129, 62, 130, 70, 75, 131, 132, 133, 134, 135, 136, 137, 138, 139, 140, 141, 142, 65, 143, 144, 145, 146, 92, 81, 82, 83, 147, 148, 149, 150, 151, 152, 153, 154, 155, 156, 157, 158, 159, 160, 161, 162, 64, 163, 164, 165, 166, 167, 168, 169, 170, 171, 172, 173, 174, 180, 181, 182, 183, 184, 185, 186, 187, 188, 189, 190, 194, 195, 196, 197, 198, 199, 200, 201] (by decide +kernel) (by decide +kernel)
set_option maxRecDepth 20000 in
theorem gX4_carryOut_X4_carryOutOrder : GoodIn wsX4_carryOut (wsV RX4 143 RX4 yX4_carryOutOrder wsX4_carryOutOrder) := goodIn_app (goodIn_of _ (by decide +kernel)) ggX4_carryOut_X4_carryOutOrder
set_option maxRecDepth 20000 in
theorem ggX4_carryOut_X1_readSign : GoodIn wsX4_carryOut wsX1_readSign := goodIn_r _ [36, 9, 18, 19, 20, 7, 21, 10, 22, 185, 186, 187, 188, 189, 190] (by decide +kernel) (by decide +kernel)
set_option maxRecDepth 20000 in
theorem gX4_carryOut_X1_readSign : GoodIn wsX4_carryOut (wsV RX4 146 RX1 yX1_readSign wsX1_readSign) := goodIn_app (goodIn_of _ (by decide +kernel)) ggX4_carryOut_X1_readSign
set_option maxRecDepth 20000 in
theorem ggX4_carryOut_X0_keepIfDone : GoodIn wsX4_carryOut wsX0_keepIfDone := goodIn_r _ [179, 44, 43, 191, 192, 193] (by decide +kernel) (by decide +kernel)
set_option maxRecDepth 20000 in
theorem gX4_carryOut_X0_keepIfDone : GoodIn wsX4_carryOut (wsV RX4 45 RX0 yX0_keepIfDone wsX0_keepIfDone) := goodIn_app (goodIn_of _ (by decide +kernel)) ggX4_carryOut_X0_keepIfDone
theorem dX4_carryOut_0 : decode cX4_carryOut 0 = .ok (.aload_n 0, 1) := by decide +kernel
theorem dX4_carryOut_1 : decode cX4_carryOut 1 = .ok (.getfield 33, 3) := by decide +kernel
theorem dX4_carryOut_4 : decode cX4_carryOut 4 = .ok (.invokevirtual 133, 3) := by decide +kernel
theorem dX4_carryOut_7 : decode cX4_carryOut 7 = .ok (.bipush (-6), 2) := by decide +kernel
theorem dX4_carryOut_9 : decode cX4_carryOut 9 = .ok (.if_icmp .eq 6, 3) := by decide +kernel
theorem dX4_carryOut_12 : decode cX4_carryOut 12 = .ok (.bipush (-3), 2) := by decide +kernel
theorem dX4_carryOut_14 : decode cX4_carryOut 14 = .ok (.ireturn, 1) := by decide +kernel
theorem dX4_carryOut_15 : decode cX4_carryOut 15 = .ok (.aload_n 0, 1) := by decide +kernel
theorem dX4_carryOut_16 : decode cX4_carryOut 16 = .ok (.getfield 26, 3) := by decide +kernel
theorem dX4_carryOut_19 : decode cX4_carryOut 19 = .ok (.aload_n 0, 1) := by decide +kernel
theorem dX4_carryOut_20 : decode cX4_carryOut 20 = .ok (.getfield 10, 3) := by decide +kernel
theorem dX4_carryOut_23 : decode cX4_carryOut 23 = .ok (.invokevirtual 37, 3) := by decide +kernel
theorem dX4_carryOut_26 : decode cX4_carryOut 26 = .ok (.iconst 0, 1) := by decide +kernel
theorem dX4_carryOut_27 : decode cX4_carryOut 27 = .ok (.istore_n 1, 1) := by decide +kernel
theorem dX4_carryOut_28 : decode cX4_carryOut 28 = .ok (.iconst 1, 1) := by decide +kernel
theorem dX4_carryOut_29 : decode cX4_carryOut 29 = .ok (.istore_n 2, 1) := by decide +kernel
theorem dX4_carryOut_30 : decode cX4_carryOut 30 = .ok (.aload_n 0, 1) := by decide +kernel
theorem dX4_carryOut_31 : decode cX4_carryOut 31 = .ok (.getfield 33, 3) := by decide +kernel
theorem dX4_carryOut_34 : decode cX4_carryOut 34 = .ok (.iconst 0, 1) := by decide +kernel
theorem dX4_carryOut_35 : decode cX4_carryOut 35 = .ok (.putfield 136, 3) := by decide +kernel
theorem dX4_carryOut_38 : decode cX4_carryOut 38 = .ok (.iconst 0, 1) := by decide +kernel
theorem dX4_carryOut_39 : decode cX4_carryOut 39 = .ok (.istore_n 3, 1) := by decide +kernel
theorem dX4_carryOut_40 : decode cX4_carryOut 40 = .ok (.iload_n 2, 1) := by decide +kernel
theorem dX4_carryOut_41 : decode cX4_carryOut 41 = .ok (.ifCond .eq 55, 3) := by decide +kernel
theorem dX4_carryOut_44 : decode cX4_carryOut 44 = .ok (.iload_n 3, 1) := by decide +kernel
theorem dX4_carryOut_45 : decode cX4_carryOut 45 = .ok (.bipush 80, 2) := by decide +kernel
theorem dX4_carryOut_47 : decode cX4_carryOut 47 = .ok (.if_icmp .ge 49, 3) := by decide +kernel
theorem dX4_carryOut_50 : decode cX4_carryOut 50 = .ok (.aload_n 0, 1) := by decide +kernel
theorem dX4_carryOut_51 : decode cX4_carryOut 51 = .ok (.getfield 33, 3) := by decide +kernel
theorem dX4_carryOut_54 : decode cX4_carryOut 54 = .ok (.invokevirtual 139, 3) := by decide +kernel
theorem dX4_carryOut_57 : decode cX4_carryOut 57 = .ok (.ifCond .eq 14, 3) := by decide +kernel
theorem dX4_carryOut_60 : decode cX4_carryOut 60 = .ok (.aload_n 0, 1) := by decide +kernel
theorem dX4_carryOut_61 : decode cX4_carryOut 61 = .ok (.invokevirtual 143, 3) := by decide +kernel
theorem dX4_carryOut_64 : decode cX4_carryOut 64 = .ok (.ifCond .lt 7, 3) := by decide +kernel
theorem dX4_carryOut_67 : decode cX4_carryOut 67 = .ok (.iconst 1, 1) := by decide +kernel
theorem dX4_carryOut_68 : decode cX4_carryOut 68 = .ok (.goto 4, 3) := by decide +kernel
theorem dX4_carryOut_71 : decode cX4_carryOut 71 = .ok (.iconst 0, 1) := by decide +kernel
theorem dX4_carryOut_72 : decode cX4_carryOut 72 = .ok (.istore_n 2, 1) := by decide +kernel
theorem dX4_carryOut_73 : decode cX4_carryOut 73 = .ok (.iload_n 2, 1) := by decide +kernel
theorem dX4_carryOut_74 : decode cX4_carryOut 74 = .ok (.ifCond .eq 16, 3) := by decide +kernel
theorem dX4_carryOut_77 : decode cX4_carryOut 77 = .ok (.iinc 1 1, 3) := by decide +kernel
theorem dX4_carryOut_80 : decode cX4_carryOut 80 = .ok (.aload_n 0, 1) := by decide +kernel
theorem dX4_carryOut_81 : decode cX4_carryOut 81 = .ok (.getfield 33, 3) := by decide +kernel
theorem dX4_carryOut_84 : decode cX4_carryOut 84 = .ok (.bipush 59, 2) := by decide +kernel
theorem dX4_carryOut_86 : decode cX4_carryOut 86 = .ok (.invokevirtual 146, 3) := by decide +kernel
theorem dX4_carryOut_89 : decode cX4_carryOut 89 = .ok (.istore_n 2, 1) := by decide +kernel
theorem dX4_carryOut_90 : decode cX4_carryOut 90 = .ok (.iinc 3 1, 3) := by decide +kernel
theorem dX4_carryOut_93 : decode cX4_carryOut 93 = .ok (.goto (-53), 3) := by decide +kernel
theorem dX4_carryOut_96 : decode cX4_carryOut 96 = .ok (.aload_n 0, 1) := by decide +kernel
theorem dX4_carryOut_97 : decode cX4_carryOut 97 = .ok (.getfield 33, 3) := by decide +kernel
theorem dX4_carryOut_100 : decode cX4_carryOut 100 = .ok (.iconst 0, 1) := by decide +kernel
theorem dX4_carryOut_101 : decode cX4_carryOut 101 = .ok (.putfield 94, 3) := by decide +kernel
theorem dX4_carryOut_104 : decode cX4_carryOut 104 = .ok (.aload_n 0, 1) := by decide +kernel
theorem dX4_carryOut_105 : decode cX4_carryOut 105 = .ok (.getfield 26, 3) := by decide +kernel
theorem dX4_carryOut_108 : decode cX4_carryOut 108 = .ok (.iload_n 1, 1) := by decide +kernel
theorem dX4_carryOut_109 : decode cX4_carryOut 109 = .ok (.invokevirtual 45, 3) := by decide +kernel
theorem dX4_carryOut_112 : decode cX4_carryOut 112 = .ok (.ireturn, 1) := by decide +kernel
set_option maxRecDepth 20000 in
theorem ggX4_undo_X0_takeLatest : GoodIn wsX4_undo wsX0_takeLatest := goodIn_r _ [7, 8, 9, 10, 42, 43, 44] (by decide +kernel) (by decide +kernel)
set_option maxRecDepth 20000 in
theorem gX4_undo_X0_takeLatest : GoodIn wsX4_undo (wsV RX4 150 RX0 yX0_takeLatest wsX0_takeLatest) := goodIn_app (goodIn_of _ (by decide +kernel)) ggX4_undo_X0_takeLatest
set_option maxRecDepth 20000 in
theorem ggX4_undo_X2_copyFrom : GoodIn wsX4_undo wsX2_copyFrom := goodIn_r _ [15, 16, 17, 18, 19, 20, 21, 22, 23, 24, 25, 26, 27, 28, 29, 30, 31, 32, 33, 34, 35, 36, 45, 46, 47, 48, 49, 50, 51, 52] (by decide +kernel) (by decide +kernel)
set_option maxRecDepth 20000 in
theorem gX4_undo_X2_copyFrom : GoodIn wsX4_undo (wsV RX4 111 RX2 yX2_copyFrom wsX2_copyFrom) := goodIn_app (goodIn_of _ (by decide +kernel)) ggX4_undo_X2_copyFrom
theorem dX4_undo_0 : decode cX4_undo 0 = .ok (.aload_n 0, 1) := by decide +kernel
theorem dX4_undo_1 : decode cX4_undo 1 = .ok (.getfield 26, 3) := by decide +kernel
theorem dX4_undo_4 : decode cX4_undo 4 = .ok (.invokevirtual 150, 3) := by decide +kernel
theorem dX4_undo_7 : decode cX4_undo 7 = .ok (.astore_n 1, 1) := by decide +kernel
theorem dX4_undo_8 : decode cX4_undo 8 = .ok (.aload_n 1, 1) := by decide +kernel
theorem dX4_undo_9 : decode cX4_undo 9 = .ok (.ifnonnull 6, 3) := by decide +kernel
theorem dX4_undo_12 : decode cX4_undo 12 = .ok (.bipush (-5), 2) := by decide +kernel
theorem dX4_undo_14 : decode cX4_undo 14 = .ok (.ireturn, 1) := by decide +kernel
theorem dX4_undo_15 : decode cX4_undo 15 = .ok (.aload_n 0, 1) := by decide +kernel
theorem dX4_undo_16 : decode cX4_undo 16 = .ok (.getfield 10, 3) := by decide +kernel
theorem dX4_undo_19 : decode cX4_undo 19 = .ok (.aload_n 1, 1) := by decide +kernel
theorem dX4_undo_20 : decode cX4_undo 20 = .ok (.invokevirtual 111, 3) := by decide +kernel
theorem dX4_undo_23 : decode cX4_undo 23 = .ok (.aload_n 0, 1) := by decide +kernel
theorem dX4_undo_24 : decode cX4_undo 24 = .ok (.getfield 26, 3) := by decide +kernel
theorem dX4_undo_27 : decode cX4_undo 27 = .ok (.getfield 98, 3) := by decide +kernel
theorem dX4_undo_30 : decode cX4_undo 30 = .ok (.ireturn, 1) := by decide +kernel
set_option maxRecDepth 20000 in
theorem ggX4_save_X4_isWithin : GoodIn wsX4_save wsX4_isWithin := goodIn_r _ [6] (by decide +kernel) (by decide +kernel)
set_option maxRecDepth 20000 in
theorem gX4_save_X4_isWithin : GoodIn wsX4_save (va_wsS RX4 67 yX4_isWithin wsX4_isWithin) := goodIn_app (goodIn_of _ (by decide +kernel)) ggX4_save_X4_isWithin
set_option maxRecDepth 20000 in
theorem ggX4_save_X4_keepCopy : GoodIn wsX4_save wsX4_keepCopy := goodIn_r _ [9, 10, 11, 12, 13, 14, 15, 16, 17, 18, 19, 20, 21, 22, 23, 24, 25, 26, 27, 28, 29, 30, 31, 32, 33, 34, 35, 36, 37, 38, 39, 40, 41, 42, 43, 44, 45, 46, 47, 48, 49, 50, 51, 52, 53, 54, 60, 61, 62, 63, 64, 65, 66, 67] (by decide +kernel) (by decide +kernel)
set_option maxRecDepth 20000 in
theorem gX4_save_X4_keepCopy : GoodIn wsX4_save (va_wsS RX4 154 yX4_keepCopy wsX4_keepCopy) := goodIn_app (goodIn_of _ (by decide +kernel)) ggX4_save_X4_keepCopy
theorem dX4_save_0 : decode cX4_save 0 = .ok (.iload_n 1, 1) := by decide +kernel
theorem dX4_save_1 : decode cX4_save 1 = .ok (.iconst 0, 1) := by decide +kernel
theorem dX4_save_2 : decode cX4_save 2 = .ok (.iconst 1, 1) := by decide +kernel
theorem dX4_save_3 : decode cX4_save 3 = .ok (.invokestatic 67, 3) := by decide +kernel
theorem dX4_save_6 : decode cX4_save 6 = .ok (.ifCond .ne 6, 3) := by decide +kernel
theorem dX4_save_9 : decode cX4_save 9 = .ok (.bipush (-2), 2) := by decide +kernel
theorem dX4_save_11 : decode cX4_save 11 = .ok (.ireturn, 1) := by decide +kernel
theorem dX4_save_12 : decode cX4_save 12 = .ok (.aload_n 0, 1) := by decide +kernel
theorem dX4_save_13 : decode cX4_save 13 = .ok (.getfield 19, 3) := by decide +kernel
theorem dX4_save_16 : decode cX4_save 16 = .ok (.iload_n 1, 1) := by decide +kernel
theorem dX4_save_17 : decode cX4_save 17 = .ok (.aload_n 0, 1) := by decide +kernel
theorem dX4_save_18 : decode cX4_save 18 = .ok (.getfield 10, 3) := by decide +kernel
theorem dX4_save_21 : decode cX4_save 21 = .ok (.invokestatic 154, 3) := by decide +kernel
theorem dX4_save_24 : decode cX4_save 24 = .ok (.aload_n 0, 1) := by decide +kernel
theorem dX4_save_25 : decode cX4_save 25 = .ok (.getfield 10, 3) := by decide +kernel
theorem dX4_save_28 : decode cX4_save 28 = .ok (.getfield 63, 3) := by decide +kernel
theorem dX4_save_31 : decode cX4_save 31 = .ok (.iconst 0, 1) := by decide +kernel
theorem dX4_save_32 : decode cX4_save 32 = .ok (.iaload, 1) := by decide +kernel
theorem dX4_save_33 : decode cX4_save 33 = .ok (.ireturn, 1) := by decide +kernel
set_option maxRecDepth 20000 in
theorem ggX4_restore_X4_isWithin : GoodIn wsX4_restore wsX4_isWithin := goodIn_r _ [7] (by decide +kernel) (by decide +kernel)
set_option maxRecDepth 20000 in
theorem gX4_restore_X4_isWithin : GoodIn wsX4_restore (va_wsS RX4 67 yX4_isWithin wsX4_isWithin) := goodIn_app (goodIn_of _ (by decide +kernel)) ggX4_restore_X4_isWithin
set_option maxRecDepth 20000 in
theorem ggX4_restore_X0_prepare : GoodIn wsX4_restore wsX0_prepare := goodIn_r _ [12, 13, 14, 15, 16, 6, 17, 18, 19, 20, 21, 22, 23, 24, 25, 26, 27, 28, 29, 30, 31, 32, 33, 34, 35, 36, 37, 38, 39, 40, 41, 42, 43, 44, 45, 46, 47, 48, 49, 50, 51, 52, 53, 54, 55, 56, 57, 58, 59, 60, 61, 62, 78, 79, 80, 72, 73, 74, 75, 76, 77, 81, 82] (by decide +kernel) (by decide +kernel)
set_option maxRecDepth 20000 in
theorem gX4_restore_X0_prepare : GoodIn wsX4_restore (wsV RX4 37 RX0 yX0_prepare wsX0_prepare) := goodIn_app (goodIn_of _ (by decide +kernel)) ggX4_restore_X0_prepare
set_option maxRecDepth 20000 in
theorem ggX4_restore_X2_copyFrom : GoodIn wsX4_restore wsX2_copyFrom := goodIn_r _ [49, 28, 50, 51, 52, 53, 29, 33, 34, 35, 54, 55, 56, 57, 32, 58, 45, 59, 60, 43, 61, 62, 72, 73, 74, 75, 76, 77, 81, 82] (by decide +kernel) (by decide +kernel)
set_option maxRecDepth 20000 in
theorem gX4_restore_X2_copyFrom : GoodIn wsX4_restore (wsV RX4 111 RX2 yX2_copyFrom wsX2_copyFrom) := goodIn_app (goodIn_of _ (by decide +kernel)) ggX4_restore_X2_copyFrom
set_option maxRecDepth 20000 in
theorem ggX4_restore_X0_keepIfDone : GoodIn wsX4_restore wsX0_keepIfDone := goodIn_r _ [66, 15, 14, 78, 79, 80] (by decide +kernel) (by decide +kernel)
set_option maxRecDepth 20000 in
theorem gX4_restore_X0_keepIfDone : GoodIn wsX4_restore (wsV RX4 45 RX0 yX0_keepIfDone wsX0_keepIfDone) := goodIn_app (goodIn_of _ (by decide +kernel)) ggX4_restore_X0_keepIfDone
theorem dX4_restore_0 : decode cX4_restore 0 = .ok (.iload_n 1, 1) := by decide +kernel
theorem dX4_restore_1 : decode cX4_restore 1 = .ok (.iconst 0, 1) := by decide +kernel
theorem dX4_restore_2 : decode cX4_restore 2 = .ok (.iconst 1, 1) := by decide +kernel
theorem dX4_restore_3 : decode cX4_restore 3 = .ok (.invokestatic 67, 3) := by decide +kernel
theorem dX4_restore_6 : decode cX4_restore 6 = .ok (.ifCond .ne 6, 3) := by decide +kernel
theorem dX4_restore_9 : decode cX4_restore 9 = .ok (.bipush (-2), 2) := by decide +kernel
theorem dX4_restore_11 : decode cX4_restore 11 = .ok (.ireturn, 1) := by decide +kernel
theorem dX4_restore_12 : decode cX4_restore 12 = .ok (.aload_n 0, 1) := by decide +kernel
theorem dX4_restore_13 : decode cX4_restore 13 = .ok (.getfield 19, 3) := by decide +kernel
theorem dX4_restore_16 : decode cX4_restore 16 = .ok (.iload_n 1, 1) := by decide +kernel
theorem dX4_restore_17 : decode cX4_restore 17 = .ok (.aaload, 1) := by decide +kernel
theorem dX4_restore_18 : decode cX4_restore 18 = .ok (.ifnonnull 6, 3) := by decide +kernel
theorem dX4_restore_21 : decode cX4_restore 21 = .ok (.bipush (-5), 2) := by decide +kernel
theorem dX4_restore_23 : decode cX4_restore 23 = .ok (.ireturn, 1) := by decide +kernel
theorem dX4_restore_24 : decode cX4_restore 24 = .ok (.aload_n 0, 1) := by decide +kernel
theorem dX4_restore_25 : decode cX4_restore 25 = .ok (.getfield 26, 3) := by decide +kernel
theorem dX4_restore_28 : decode cX4_restore 28 = .ok (.aload_n 0, 1) := by decide +kernel
theorem dX4_restore_29 : decode cX4_restore 29 = .ok (.getfield 10, 3) := by decide +kernel
theorem dX4_restore_32 : decode cX4_restore 32 = .ok (.invokevirtual 37, 3) := by decide +kernel
theorem dX4_restore_35 : decode cX4_restore 35 = .ok (.aload_n 0, 1) := by decide +kernel
theorem dX4_restore_36 : decode cX4_restore 36 = .ok (.getfield 10, 3) := by decide +kernel
theorem dX4_restore_39 : decode cX4_restore 39 = .ok (.aload_n 0, 1) := by decide +kernel
theorem dX4_restore_40 : decode cX4_restore 40 = .ok (.getfield 19, 3) := by decide +kernel
theorem dX4_restore_43 : decode cX4_restore 43 = .ok (.iload_n 1, 1) := by decide +kernel
theorem dX4_restore_44 : decode cX4_restore 44 = .ok (.aaload, 1) := by decide +kernel
theorem dX4_restore_45 : decode cX4_restore 45 = .ok (.invokevirtual 111, 3) := by decide +kernel
theorem dX4_restore_48 : decode cX4_restore 48 = .ok (.aload_n 0, 1) := by decide +kernel
theorem dX4_restore_49 : decode cX4_restore 49 = .ok (.getfield 26, 3) := by decide +kernel
theorem dX4_restore_52 : decode cX4_restore 52 = .ok (.aload_n 0, 1) := by decide +kernel
theorem dX4_restore_53 : decode cX4_restore 53 = .ok (.getfield 10, 3) := by decide +kernel
theorem dX4_restore_56 : decode cX4_restore 56 = .ok (.getfield 63, 3) := by decide +kernel
theorem dX4_restore_59 : decode cX4_restore 59 = .ok (.iconst 0, 1) := by decide +kernel
theorem dX4_restore_60 : decode cX4_restore 60 = .ok (.iaload, 1) := by decide +kernel
theorem dX4_restore_61 : decode cX4_restore 61 = .ok (.invokevirtual 45, 3) := by decide +kernel
theorem dX4_restore_64 : decode cX4_restore 64 = .ok (.ireturn, 1) := by decide +kernel
theorem dX4_isWithin_0 : decode cX4_isWithin 0 = .ok (.iload_n 0, 1) := by decide +kernel
theorem dX4_isWithin_1 : decode cX4_isWithin 1 = .ok (.iload_n 1, 1) := by decide +kernel
theorem dX4_isWithin_2 : decode cX4_isWithin 2 = .ok (.if_icmp .lt 12, 3) := by decide +kernel
theorem dX4_isWithin_5 : decode cX4_isWithin 5 = .ok (.iload_n 0, 1) := by decide +kernel
theorem dX4_isWithin_6 : decode cX4_isWithin 6 = .ok (.iload_n 2, 1) := by decide +kernel
theorem dX4_isWithin_7 : decode cX4_isWithin 7 = .ok (.if_icmp .gt 7, 3) := by decide +kernel
theorem dX4_isWithin_10 : decode cX4_isWithin 10 = .ok (.iconst 1, 1) := by decide +kernel
theorem dX4_isWithin_11 : decode cX4_isWithin 11 = .ok (.goto 4, 3) := by decide +kernel
theorem dX4_isWithin_14 : decode cX4_isWithin 14 = .ok (.iconst 0, 1) := by decide +kernel
theorem dX4_isWithin_15 : decode cX4_isWithin 15 = .ok (.ireturn, 1) := by decide +kernel
set_option maxRecDepth 20000 in
theorem ggX4_keepCopy_X2_init : GoodIn wsX4_keepCopy wsX2_init := goodIn_r _ [6, 7, 8, 9, 10, 11, 12, 13, 14, 15, 16, 17, 18, 19, 20, 21, 22, 23, 24, 25, 26, 27, 28, 46, 47, 48, 49, 50, 51, 52, 53] (by decide +kernel) (by decide +kernel)
set_option maxRecDepth 20000 in
theorem gX4_keepCopy_X2_init : GoodIn wsX4_keepCopy (wsX2_init) := ggX4_keepCopy_X2_init
set_option maxRecDepth 20000 in
theorem ggX4_keepCopy_X2_copyFrom : GoodIn wsX4_keepCopy wsX2_copyFrom := goodIn_r _ [32, 11, 33, 34, 35, 36, 12, 16, 17, 18, 37, 38, 39, 40, 15, 41, 28, 42, 43, 26, 44, 45, 46, 47, 48, 49, 50, 51, 52, 53] (by decide +kernel) (by decide +kernel)
set_option maxRecDepth 20000 in
theorem gX4_keepCopy_X2_copyFrom : GoodIn wsX4_keepCopy (wsV RX4 111 RX2 yX2_copyFrom wsX2_copyFrom) := goodIn_app (goodIn_of _ (by decide +kernel)) ggX4_keepCopy_X2_copyFrom
theorem dX4_keepCopy_0 : decode cX4_keepCopy 0 = .ok (.iload_n 1, 1) := by decide +kernel
theorem dX4_keepCopy_1 : decode cX4_keepCopy 1 = .ok (.ifCond .lt 9, 3) := by decide +kernel
theorem dX4_keepCopy_4 : decode cX4_keepCopy 4 = .ok (.iload_n 1, 1) := by decide +kernel
theorem dX4_keepCopy_5 : decode cX4_keepCopy 5 = .ok (.aload_n 0, 1) := by decide +kernel
theorem dX4_keepCopy_6 : decode cX4_keepCopy 6 = .ok (.arraylength, 1) := by decide +kernel
theorem dX4_keepCopy_7 : decode cX4_keepCopy 7 = .ok (.if_icmp .lt 4, 3) := by decide +kernel
theorem dX4_keepCopy_10 : decode cX4_keepCopy 10 = .ok (.return_, 1) := by decide +kernel
theorem dX4_keepCopy_11 : decode cX4_keepCopy 11 = .ok (.aload_n 0, 1) := by decide +kernel
theorem dX4_keepCopy_12 : decode cX4_keepCopy 12 = .ok (.iload_n 1, 1) := by decide +kernel
theorem dX4_keepCopy_13 : decode cX4_keepCopy 13 = .ok (.aaload, 1) := by decide +kernel
theorem dX4_keepCopy_14 : decode cX4_keepCopy 14 = .ok (.ifnonnull 13, 3) := by decide +kernel
theorem dX4_keepCopy_17 : decode cX4_keepCopy 17 = .ok (.aload_n 0, 1) := by decide +kernel
theorem dX4_keepCopy_18 : decode cX4_keepCopy 18 = .ok (.iload_n 1, 1) := by decide +kernel
theorem dX4_keepCopy_19 : decode cX4_keepCopy 19 = .ok (.new 7, 3) := by decide +kernel
theorem dX4_keepCopy_22 : decode cX4_keepCopy 22 = .ok (.dup, 1) := by decide +kernel
theorem dX4_keepCopy_23 : decode cX4_keepCopy 23 = .ok (.invokespecial 9, 3) := by decide +kernel
theorem dX4_keepCopy_26 : decode cX4_keepCopy 26 = .ok (.aastore, 1) := by decide +kernel
theorem dX4_keepCopy_27 : decode cX4_keepCopy 27 = .ok (.aload_n 0, 1) := by decide +kernel
theorem dX4_keepCopy_28 : decode cX4_keepCopy 28 = .ok (.iload_n 1, 1) := by decide +kernel
theorem dX4_keepCopy_29 : decode cX4_keepCopy 29 = .ok (.aaload, 1) := by decide +kernel
theorem dX4_keepCopy_30 : decode cX4_keepCopy 30 = .ok (.aload_n 2, 1) := by decide +kernel
theorem dX4_keepCopy_31 : decode cX4_keepCopy 31 = .ok (.invokevirtual 111, 3) := by decide +kernel
theorem dX4_keepCopy_34 : decode cX4_keepCopy 34 = .ok (.return_, 1) := by decide +kernel
set_option maxRecDepth 20000 in
theorem ggX4_tryWith_X2_copyFrom : GoodIn wsX4_tryWith wsX2_copyFrom := goodIn_r _ [8, 9, 10, 11, 12, 13, 14, 15, 16, 17, 18, 19, 20, 21, 22, 23, 24, 25, 26, 27, 28, 29, 104, 105, 106, 107, 108, 109, 110, 111] (by decide +kernel) (by decide +kernel)
set_option maxRecDepth 20000 in
theorem gX4_tryWith_X2_copyFrom : GoodIn wsX4_tryWith (wsV RX4 111 RX2 yX2_copyFrom wsX2_copyFrom) := goodIn_app (goodIn_of _ (by decide +kernel)) ggX4_tryWith_X2_copyFrom
set_option maxRecDepth 20000 in
theorem ggX4_tryWith_X4_isWithin : GoodIn wsX4_tryWith wsX4_isWithin := goodIn_r _ [33] (by decide +kernel) (by decide +kernel)
set_option maxRecDepth 20000 in
theorem gX4_tryWith_X4_isWithin : GoodIn wsX4_tryWith (va_wsS RX4 67 yX4_isWithin wsX4_isWithin) := goodIn_app (goodIn_of _ (by decide +kernel)) ggX4_tryWith_X4_isWithin
set_option maxRecDepth 20000 in
theorem ggX4_tryWith_X2_passTicks : GoodIn wsX4_tryWith wsX2_passTicks := goodIn_r _ [37, 9, 38, 26, 27, 28, 39, 40, 41, 18, 31, 32, 33, 42, 43, 44, 7, 45, 46, 47, 48, 49, 14, 15, 50, 51, 52, 53, 54, 55, 56, 22, 57, 58, 24, 59, 60, 61, 62, 63, 64, 65, 66, 67, 68, 69, 70, 17, 71, 72, 73, 74, 29, 11, 12, 13, 75, 76, 77, 78, 79, 80, 81, 82, 83, 84, 85, 86, 87, 88, 89, 90, 16, 91, 92, 93, 94, 95, 96, 97, 98, 104, 105, 106, 107, 108, 109, 110, 111] (by decide +kernel) (by decide +kernel)
set_option maxRecDepth 20000 in
theorem gX4_tryWith_X2_passTicks : GoodIn wsX4_tryWith (wsV RX4 56 RX2 yX2_passTicks wsX2_passTicks) := goodIn_app (goodIn_of _ (by decide +kernel)) ggX4_tryWith_X2_passTicks
theorem dX4_tryWith_0 : decode cX4_tryWith 0 = .ok (.aload_n 0, 1) := by decide +kernel
theorem dX4_tryWith_1 : decode cX4_tryWith 1 = .ok (.getfield 16, 3) := by decide +kernel
theorem dX4_tryWith_4 : decode cX4_tryWith 4 = .ok (.aload_n 0, 1) := by decide +kernel
theorem dX4_tryWith_5 : decode cX4_tryWith 5 = .ok (.getfield 10, 3) := by decide +kernel
theorem dX4_tryWith_8 : decode cX4_tryWith 8 = .ok (.invokevirtual 111, 3) := by decide +kernel
theorem dX4_tryWith_11 : decode cX4_tryWith 11 = .ok (.iload_n 1, 1) := by decide +kernel
theorem dX4_tryWith_12 : decode cX4_tryWith 12 = .ok (.iconst 0, 1) := by decide +kernel
theorem dX4_tryWith_13 : decode cX4_tryWith 13 = .ok (.bipush 7, 2) := by decide +kernel
theorem dX4_tryWith_15 : decode cX4_tryWith 15 = .ok (.invokestatic 67, 3) := by decide +kernel
theorem dX4_tryWith_18 : decode cX4_tryWith 18 = .ok (.ifCond .eq 16, 3) := by decide +kernel
theorem dX4_tryWith_21 : decode cX4_tryWith 21 = .ok (.aload_n 0, 1) := by decide +kernel
theorem dX4_tryWith_22 : decode cX4_tryWith 22 = .ok (.getfield 16, 3) := by decide +kernel
theorem dX4_tryWith_25 : decode cX4_tryWith 25 = .ok (.getfield 63, 3) := by decide +kernel
theorem dX4_tryWith_28 : decode cX4_tryWith 28 = .ok (.bipush 16, 2) := by decide +kernel
theorem dX4_tryWith_30 : decode cX4_tryWith 30 = .ok (.iload_n 1, 1) := by decide +kernel
theorem dX4_tryWith_31 : decode cX4_tryWith 31 = .ok (.iadd, 1) := by decide +kernel
theorem dX4_tryWith_32 : decode cX4_tryWith 32 = .ok (.iload_n 2, 1) := by decide +kernel
theorem dX4_tryWith_33 : decode cX4_tryWith 33 = .ok (.iastore, 1) := by decide +kernel
theorem dX4_tryWith_34 : decode cX4_tryWith 34 = .ok (.aload_n 0, 1) := by decide +kernel
theorem dX4_tryWith_35 : decode cX4_tryWith 35 = .ok (.getfield 16, 3) := by decide +kernel
theorem dX4_tryWith_38 : decode cX4_tryWith 38 = .ok (.iload_n 3, 1) := by decide +kernel
theorem dX4_tryWith_39 : decode cX4_tryWith 39 = .ok (.ldc 114, 2) := by decide +kernel
theorem dX4_tryWith_41 : decode cX4_tryWith 41 = .ok (.invokevirtual 56, 3) := by decide +kernel
theorem dX4_tryWith_44 : decode cX4_tryWith 44 = .ok (.pop, 1) := by decide +kernel
theorem dX4_tryWith_45 : decode cX4_tryWith 45 = .ok (.return_, 1) := by decide +kernel
set_option maxRecDepth 20000 in
theorem ggX4_gainOf_X4_isWithin : GoodIn wsX4_gainOf wsX4_isWithin := goodIn_r _ [6] (by decide +kernel) (by decide +kernel)
set_option maxRecDepth 20000 in
theorem gX4_gainOf_X4_isWithin : GoodIn wsX4_gainOf (va_wsS RX4 67 yX4_isWithin wsX4_isWithin) := goodIn_app (goodIn_of _ (by decide +kernel)) ggX4_gainOf_X4_isWithin
theorem dX4_gainOf_0 : decode cX4_gainOf 0 = .ok (.iload_n 1, 1) := by decide +kernel
theorem dX4_gainOf_1 : decode cX4_gainOf 1 = .ok (.iconst 0, 1) := by decide +kernel
theorem dX4_gainOf_2 : decode cX4_gainOf 2 = .ok (.bipush 23, 2) := by decide +kernel
theorem dX4_gainOf_4 : decode cX4_gainOf 4 = .ok (.invokestatic 67, 3) := by decide +kernel
theorem dX4_gainOf_7 : decode cX4_gainOf 7 = .ok (.ifCond .eq 25, 3) := by decide +kernel
theorem dX4_gainOf_10 : decode cX4_gainOf 10 = .ok (.aload_n 0, 1) := by decide +kernel
theorem dX4_gainOf_11 : decode cX4_gainOf 11 = .ok (.getfield 16, 3) := by decide +kernel
theorem dX4_gainOf_14 : decode cX4_gainOf 14 = .ok (.getfield 63, 3) := by decide +kernel
theorem dX4_gainOf_17 : decode cX4_gainOf 17 = .ok (.iload_n 1, 1) := by decide +kernel
theorem dX4_gainOf_18 : decode cX4_gainOf 18 = .ok (.iaload, 1) := by decide +kernel
theorem dX4_gainOf_19 : decode cX4_gainOf 19 = .ok (.aload_n 0, 1) := by decide +kernel
theorem dX4_gainOf_20 : decode cX4_gainOf 20 = .ok (.getfield 10, 3) := by decide +kernel
theorem dX4_gainOf_23 : decode cX4_gainOf 23 = .ok (.getfield 63, 3) := by decide +kernel
theorem dX4_gainOf_26 : decode cX4_gainOf 26 = .ok (.iload_n 1, 1) := by decide +kernel
theorem dX4_gainOf_27 : decode cX4_gainOf 27 = .ok (.iaload, 1) := by decide +kernel
theorem dX4_gainOf_28 : decode cX4_gainOf 28 = .ok (.isub, 1) := by decide +kernel
theorem dX4_gainOf_29 : decode cX4_gainOf 29 = .ok (.goto 4, 3) := by decide +kernel
theorem dX4_gainOf_32 : decode cX4_gainOf 32 = .ok (.iconst 0, 1) := by decide +kernel
theorem dX4_gainOf_33 : decode cX4_gainOf 33 = .ok (.ireturn, 1) := by decide +kernel
set_option maxRecDepth 20000 in
theorem ggX4_carryOutOrder_X2_changeSetting : GoodIn wsX4_carryOutOrder wsX2_changeSetting := goodIn_r _ [8, 9, 10, 11, 12, 111, 112, 113, 114, 115, 116] (by decide +kernel) (by decide +kernel)
set_option maxRecDepth 20000 in
theorem gX4_carryOutOrder_X2_changeSetting : GoodIn wsX4_carryOutOrder (wsV RX4 41 RX2 yX2_changeSetting wsX2_changeSetting) := goodIn_app (goodIn_of _ (by decide +kernel)) ggX4_carryOutOrder_X2_changeSetting
set_option maxRecDepth 20000 in
theorem ggX4_carryOutOrder_X2_changeValue : GoodIn wsX4_carryOutOrder wsX2_changeValue := goodIn_r _ [16, 17, 10, 11, 12, 111, 112, 113, 114, 115, 116] (by decide +kernel) (by decide +kernel)
set_option maxRecDepth 20000 in
theorem gX4_carryOutOrder_X2_changeValue : GoodIn wsX4_carryOutOrder (wsV RX4 49 RX2 yX2_changeValue wsX2_changeValue) := goodIn_app (goodIn_of _ (by decide +kernel)) ggX4_carryOutOrder_X2_changeValue
set_option maxRecDepth 20000 in
theorem ggX4_carryOutOrder_X2_passTicks : GoodIn wsX4_carryOutOrder wsX2_passTicks := goodIn_r _ [21, 9, 22, 23, 24, 25, 26, 27, 28, 29, 10, 11, 12, 30, 31, 32, 7, 33, 34, 35, 36, 37, 17, 38, 39, 40, 41, 42, 43, 44, 45, 46, 47, 48, 49, 50, 51, 52, 53, 54, 55, 56, 57, 58, 59, 60, 61, 62, 63, 64, 65, 66, 67, 68, 69, 70, 71, 72, 73, 74, 75, 76, 77, 78, 79, 80, 81, 82, 83, 84, 85, 86, 87, 88, 89, 90, 91, 92, 93, 94, 95, 111, 112, 113, 114, 115, 116, 117, 118] (by decide +kernel) (by decide +kernel)
set_option maxRecDepth 20000 in
theorem gX4_carryOutOrder_X2_passTicks : GoodIn wsX4_carryOutOrder (wsV RX4 56 RX2 yX2_passTicks wsX2_passTicks) := goodIn_app (goodIn_of _ (by decide +kernel)) ggX4_carryOutOrder_X2_passTicks
set_option maxRecDepth 20000 in
theorem ggX4_carryOutOrder_X2_delayClock : GoodIn wsX4_carryOutOrder wsX2_delayClock := goodIn_r _ [99, 9, 10, 11, 12, 111, 112, 113, 114, 115, 116] (by decide +kernel) (by decide +kernel)
set_option maxRecDepth 20000 in
theorem gX4_carryOutOrder_X2_delayClock : GoodIn wsX4_carryOutOrder (wsV RX4 52 RX2 yX2_delayClock wsX2_delayClock) := goodIn_app (goodIn_of _ (by decide +kernel)) ggX4_carryOutOrder_X2_delayClock
theorem dX4_carryOutOrder_0 : decode cX4_carryOutOrder 0 = .ok (.aload_n 0, 1) := by decide +kernel
theorem dX4_carryOutOrder_1 : decode cX4_carryOutOrder 1 = .ok (.getfield 33, 3) := by decide +kernel
theorem dX4_carryOutOrder_4 : decode cX4_carryOutOrder 4 = .ok (.getfield 158, 3) := by decide +kernel
theorem dX4_carryOutOrder_7 : decode cX4_carryOutOrder 7 = .ok (.lookupswitch 160 #[(60, 128), (62, 144), (105, 57), (111, 73), (116, 111), (118, 89)], 57) := by decide +kernel
theorem dX4_carryOutOrder_64 : decode cX4_carryOutOrder 64 = .ok (.aload_n 0, 1) := by decide +kernel
theorem dX4_carryOutOrder_65 : decode cX4_carryOutOrder 65 = .ok (.getfield 10, 3) := by decide +kernel
theorem dX4_carryOutOrder_68 : decode cX4_carryOutOrder 68 = .ok (.iconst 0, 1) := by decide +kernel
theorem dX4_carryOutOrder_69 : decode cX4_carryOutOrder 69 = .ok (.aload_n 0, 1) := by decide +kernel
theorem dX4_carryOutOrder_70 : decode cX4_carryOutOrder 70 = .ok (.getfield 33, 3) := by decide +kernel
theorem dX4_carryOutOrder_73 : decode cX4_carryOutOrder 73 = .ok (.getfield 162, 3) := by decide +kernel
theorem dX4_carryOutOrder_76 : decode cX4_carryOutOrder 76 = .ok (.invokevirtual 41, 3) := by decide +kernel
theorem dX4_carryOutOrder_79 : decode cX4_carryOutOrder 79 = .ok (.ireturn, 1) := by decide +kernel
theorem dX4_carryOutOrder_80 : decode cX4_carryOutOrder 80 = .ok (.aload_n 0, 1) := by decide +kernel
theorem dX4_carryOutOrder_81 : decode cX4_carryOutOrder 81 = .ok (.getfield 10, 3) := by decide +kernel
theorem dX4_carryOutOrder_84 : decode cX4_carryOutOrder 84 = .ok (.iconst 1, 1) := by decide +kernel
theorem dX4_carryOutOrder_85 : decode cX4_carryOutOrder 85 = .ok (.aload_n 0, 1) := by decide +kernel
theorem dX4_carryOutOrder_86 : decode cX4_carryOutOrder 86 = .ok (.getfield 33, 3) := by decide +kernel
theorem dX4_carryOutOrder_89 : decode cX4_carryOutOrder 89 = .ok (.getfield 162, 3) := by decide +kernel
theorem dX4_carryOutOrder_92 : decode cX4_carryOutOrder 92 = .ok (.invokevirtual 41, 3) := by decide +kernel
theorem dX4_carryOutOrder_95 : decode cX4_carryOutOrder 95 = .ok (.ireturn, 1) := by decide +kernel
theorem dX4_carryOutOrder_96 : decode cX4_carryOutOrder 96 = .ok (.aload_n 0, 1) := by decide +kernel
theorem dX4_carryOutOrder_97 : decode cX4_carryOutOrder 97 = .ok (.getfield 10, 3) := by decide +kernel
theorem dX4_carryOutOrder_100 : decode cX4_carryOutOrder 100 = .ok (.aload_n 0, 1) := by decide +kernel
theorem dX4_carryOutOrder_101 : decode cX4_carryOutOrder 101 = .ok (.getfield 33, 3) := by decide +kernel
theorem dX4_carryOutOrder_104 : decode cX4_carryOutOrder 104 = .ok (.getfield 162, 3) := by decide +kernel
theorem dX4_carryOutOrder_107 : decode cX4_carryOutOrder 107 = .ok (.aload_n 0, 1) := by decide +kernel
theorem dX4_carryOutOrder_108 : decode cX4_carryOutOrder 108 = .ok (.getfield 33, 3) := by decide +kernel
theorem dX4_carryOutOrder_111 : decode cX4_carryOutOrder 111 = .ok (.getfield 165, 3) := by decide +kernel
theorem dX4_carryOutOrder_114 : decode cX4_carryOutOrder 114 = .ok (.invokevirtual 49, 3) := by decide +kernel
theorem dX4_carryOutOrder_117 : decode cX4_carryOutOrder 117 = .ok (.ireturn, 1) := by decide +kernel
theorem dX4_carryOutOrder_118 : decode cX4_carryOutOrder 118 = .ok (.aload_n 0, 1) := by decide +kernel
theorem dX4_carryOutOrder_119 : decode cX4_carryOutOrder 119 = .ok (.getfield 10, 3) := by decide +kernel
theorem dX4_carryOutOrder_122 : decode cX4_carryOutOrder 122 = .ok (.aload_n 0, 1) := by decide +kernel
theorem dX4_carryOutOrder_123 : decode cX4_carryOutOrder 123 = .ok (.getfield 33, 3) := by decide +kernel
theorem dX4_carryOutOrder_126 : decode cX4_carryOutOrder 126 = .ok (.getfield 162, 3) := by decide +kernel
theorem dX4_carryOutOrder_129 : decode cX4_carryOutOrder 129 = .ok (.ldc 55, 2) := by decide +kernel
theorem dX4_carryOutOrder_131 : decode cX4_carryOutOrder 131 = .ok (.invokevirtual 56, 3) := by decide +kernel
theorem dX4_carryOutOrder_134 : decode cX4_carryOutOrder 134 = .ok (.ireturn, 1) := by decide +kernel
theorem dX4_carryOutOrder_135 : decode cX4_carryOutOrder 135 = .ok (.aload_n 0, 1) := by decide +kernel
theorem dX4_carryOutOrder_136 : decode cX4_carryOutOrder 136 = .ok (.getfield 10, 3) := by decide +kernel
theorem dX4_carryOutOrder_139 : decode cX4_carryOutOrder 139 = .ok (.iconst 0, 1) := by decide +kernel
theorem dX4_carryOutOrder_140 : decode cX4_carryOutOrder 140 = .ok (.aload_n 0, 1) := by decide +kernel
theorem dX4_carryOutOrder_141 : decode cX4_carryOutOrder 141 = .ok (.getfield 33, 3) := by decide +kernel
theorem dX4_carryOutOrder_144 : decode cX4_carryOutOrder 144 = .ok (.getfield 162, 3) := by decide +kernel
theorem dX4_carryOutOrder_147 : decode cX4_carryOutOrder 147 = .ok (.invokevirtual 52, 3) := by decide +kernel
theorem dX4_carryOutOrder_150 : decode cX4_carryOutOrder 150 = .ok (.ireturn, 1) := by decide +kernel
theorem dX4_carryOutOrder_151 : decode cX4_carryOutOrder 151 = .ok (.aload_n 0, 1) := by decide +kernel
theorem dX4_carryOutOrder_152 : decode cX4_carryOutOrder 152 = .ok (.getfield 10, 3) := by decide +kernel
theorem dX4_carryOutOrder_155 : decode cX4_carryOutOrder 155 = .ok (.iconst 1, 1) := by decide +kernel
theorem dX4_carryOutOrder_156 : decode cX4_carryOutOrder 156 = .ok (.aload_n 0, 1) := by decide +kernel
theorem dX4_carryOutOrder_157 : decode cX4_carryOutOrder 157 = .ok (.getfield 33, 3) := by decide +kernel
theorem dX4_carryOutOrder_160 : decode cX4_carryOutOrder 160 = .ok (.getfield 162, 3) := by decide +kernel
theorem dX4_carryOutOrder_163 : decode cX4_carryOutOrder 163 = .ok (.invokevirtual 52, 3) := by decide +kernel
theorem dX4_carryOutOrder_166 : decode cX4_carryOutOrder 166 = .ok (.ireturn, 1) := by decide +kernel
theorem dX4_carryOutOrder_167 : decode cX4_carryOutOrder 167 = .ok (.bipush (-3), 2) := by decide +kernel
theorem dX4_carryOutOrder_169 : decode cX4_carryOutOrder 169 = .ok (.ireturn, 1) := by decide +kernel
set_option maxRecDepth 20000 in
theorem ggX4_charactersIn_X4_isWithin : GoodIn wsX4_charactersIn wsX4_isWithin := goodIn_r _ [5] (by decide +kernel) (by decide +kernel)
set_option maxRecDepth 20000 in
theorem gX4_charactersIn_X4_isWithin : GoodIn wsX4_charactersIn (va_wsS RX4 67 yX4_isWithin wsX4_isWithin) := goodIn_app (goodIn_of _ (by decide +kernel)) ggX4_charactersIn_X4_isWithin
theorem dX4_charactersIn_0 : decode cX4_charactersIn 0 = .ok (.lload_n 0, 1) := by decide +kernel
theorem dX4_charactersIn_1 : decode cX4_charactersIn 1 = .ok (.lstore_n 2, 1) := by decide +kernel
theorem dX4_charactersIn_2 : decode cX4_charactersIn 2 = .ok (.iconst 0, 1) := by decide +kernel
theorem dX4_charactersIn_3 : decode cX4_charactersIn 3 = .ok (.istore 4, 2) := by decide +kernel
theorem dX4_charactersIn_5 : decode cX4_charactersIn 5 = .ok (.iload 4, 2) := by decide +kernel
theorem dX4_charactersIn_7 : decode cX4_charactersIn 7 = .ok (.bipush 8, 2) := by decide +kernel
theorem dX4_charactersIn_9 : decode cX4_charactersIn 9 = .ok (.if_icmp .ge 42, 3) := by decide +kernel
theorem dX4_charactersIn_12 : decode cX4_charactersIn 12 = .ok (.lload_n 2, 1) := by decide +kernel
theorem dX4_charactersIn_13 : decode cX4_charactersIn 13 = .ok (.ldc2_w 168, 3) := by decide +kernel
theorem dX4_charactersIn_16 : decode cX4_charactersIn 16 = .ok (.land, 1) := by decide +kernel
theorem dX4_charactersIn_17 : decode cX4_charactersIn 17 = .ok (.lconst 0, 1) := by decide +kernel
theorem dX4_charactersIn_18 : decode cX4_charactersIn 18 = .ok (.lcmp, 1) := by decide +kernel
theorem dX4_charactersIn_19 : decode cX4_charactersIn 19 = .ok (.ifCond .eq 32, 3) := by decide +kernel
theorem dX4_charactersIn_22 : decode cX4_charactersIn 22 = .ok (.lload_n 2, 1) := by decide +kernel
theorem dX4_charactersIn_23 : decode cX4_charactersIn 23 = .ok (.ldc2_w 168, 3) := by decide +kernel
theorem dX4_charactersIn_26 : decode cX4_charactersIn 26 = .ok (.land, 1) := by decide +kernel
theorem dX4_charactersIn_27 : decode cX4_charactersIn 27 = .ok (.l2i, 1) := by decide +kernel
theorem dX4_charactersIn_28 : decode cX4_charactersIn 28 = .ok (.bipush 33, 2) := by decide +kernel
theorem dX4_charactersIn_30 : decode cX4_charactersIn 30 = .ok (.bipush 126, 2) := by decide +kernel
theorem dX4_charactersIn_32 : decode cX4_charactersIn 32 = .ok (.invokestatic 67, 3) := by decide +kernel
theorem dX4_charactersIn_35 : decode cX4_charactersIn 35 = .ok (.ifCond .ne 5, 3) := by decide +kernel
theorem dX4_charactersIn_38 : decode cX4_charactersIn 38 = .ok (.iconst 0, 1) := by decide +kernel
theorem dX4_charactersIn_39 : decode cX4_charactersIn 39 = .ok (.ireturn, 1) := by decide +kernel
theorem dX4_charactersIn_40 : decode cX4_charactersIn 40 = .ok (.lload_n 2, 1) := by decide +kernel
theorem dX4_charactersIn_41 : decode cX4_charactersIn 41 = .ok (.bipush 8, 2) := by decide +kernel
theorem dX4_charactersIn_43 : decode cX4_charactersIn 43 = .ok (.lushr, 1) := by decide +kernel
theorem dX4_charactersIn_44 : decode cX4_charactersIn 44 = .ok (.lstore_n 2, 1) := by decide +kernel
theorem dX4_charactersIn_45 : decode cX4_charactersIn 45 = .ok (.iinc 4 1, 3) := by decide +kernel
theorem dX4_charactersIn_48 : decode cX4_charactersIn 48 = .ok (.goto (-43), 3) := by decide +kernel
theorem dX4_charactersIn_51 : decode cX4_charactersIn 51 = .ok (.lload_n 2, 1) := by decide +kernel
theorem dX4_charactersIn_52 : decode cX4_charactersIn 52 = .ok (.lconst 0, 1) := by decide +kernel
theorem dX4_charactersIn_53 : decode cX4_charactersIn 53 = .ok (.lcmp, 1) := by decide +kernel
theorem dX4_charactersIn_54 : decode cX4_charactersIn 54 = .ok (.ifCond .ne 8, 3) := by decide +kernel
theorem dX4_charactersIn_57 : decode cX4_charactersIn 57 = .ok (.iload 4, 2) := by decide +kernel
theorem dX4_charactersIn_59 : decode cX4_charactersIn 59 = .ok (.goto 4, 3) := by decide +kernel
theorem dX4_charactersIn_62 : decode cX4_charactersIn 62 = .ok (.iconst 0, 1) := by decide +kernel
theorem dX4_charactersIn_63 : decode cX4_charactersIn 63 = .ok (.ireturn, 1) := by decide +kernel
theorem dX4_bitsOf_0 : decode cX4_bitsOf 0 = .ok (.dload_n 0, 1) := by decide +kernel
theorem dX4_bitsOf_1 : decode cX4_bitsOf 1 = .ok (.dconst 0, 1) := by decide +kernel
theorem dX4_bitsOf_2 : decode cX4_bitsOf 2 = .ok (.dcmp .l, 1) := by decide +kernel
theorem dX4_bitsOf_3 : decode cX4_bitsOf 3 = .ok (.ifCond .gt 5, 3) := by decide +kernel
theorem dX4_bitsOf_6 : decode cX4_bitsOf 6 = .ok (.lconst 0, 1) := by decide +kernel
theorem dX4_bitsOf_7 : decode cX4_bitsOf 7 = .ok (.lreturn, 1) := by decide +kernel
theorem dX4_bitsOf_8 : decode cX4_bitsOf 8 = .ok (.dload_n 0, 1) := by decide +kernel
theorem dX4_bitsOf_9 : decode cX4_bitsOf 9 = .ok (.dstore 4, 2) := by decide +kernel
theorem dX4_bitsOf_11 : decode cX4_bitsOf 11 = .ok (.iconst 0, 1) := by decide +kernel
theorem dX4_bitsOf_12 : decode cX4_bitsOf 12 = .ok (.istore 6, 2) := by decide +kernel
theorem dX4_bitsOf_14 : decode cX4_bitsOf 14 = .ok (.dload 4, 2) := by decide +kernel
theorem dX4_bitsOf_16 : decode cX4_bitsOf 16 = .ok (.ldc2_w 170, 3) := by decide +kernel
theorem dX4_bitsOf_19 : decode cX4_bitsOf 19 = .ok (.dcmp .l, 1) := by decide +kernel
theorem dX4_bitsOf_20 : decode cX4_bitsOf 20 = .ok (.ifCond .lt 23, 3) := by decide +kernel
theorem dX4_bitsOf_23 : decode cX4_bitsOf 23 = .ok (.iload 6, 2) := by decide +kernel
theorem dX4_bitsOf_25 : decode cX4_bitsOf 25 = .ok (.iload_n 3, 1) := by decide +kernel
theorem dX4_bitsOf_26 : decode cX4_bitsOf 26 = .ok (.if_icmp .ge 17, 3) := by decide +kernel
theorem dX4_bitsOf_29 : decode cX4_bitsOf 29 = .ok (.dload 4, 2) := by decide +kernel
theorem dX4_bitsOf_31 : decode cX4_bitsOf 31 = .ok (.ldc2_w 170, 3) := by decide +kernel
theorem dX4_bitsOf_34 : decode cX4_bitsOf 34 = .ok (.ddiv, 1) := by decide +kernel
theorem dX4_bitsOf_35 : decode cX4_bitsOf 35 = .ok (.dstore 4, 2) := by decide +kernel
theorem dX4_bitsOf_37 : decode cX4_bitsOf 37 = .ok (.iinc 6 1, 3) := by decide +kernel
theorem dX4_bitsOf_40 : decode cX4_bitsOf 40 = .ok (.goto (-26), 3) := by decide +kernel
theorem dX4_bitsOf_43 : decode cX4_bitsOf 43 = .ok (.dload 4, 2) := by decide +kernel
theorem dX4_bitsOf_45 : decode cX4_bitsOf 45 = .ok (.dconst 1, 1) := by decide +kernel
theorem dX4_bitsOf_46 : decode cX4_bitsOf 46 = .ok (.dcmp .g, 1) := by decide +kernel
theorem dX4_bitsOf_47 : decode cX4_bitsOf 47 = .ok (.ifCond .ge 25, 3) := by decide +kernel
theorem dX4_bitsOf_50 : decode cX4_bitsOf 50 = .ok (.iload 6, 2) := by decide +kernel
theorem dX4_bitsOf_52 : decode cX4_bitsOf 52 = .ok (.iconst 1, 1) := by decide +kernel
theorem dX4_bitsOf_53 : decode cX4_bitsOf 53 = .ok (.iload_n 3, 1) := by decide +kernel
theorem dX4_bitsOf_54 : decode cX4_bitsOf 54 = .ok (.isub, 1) := by decide +kernel
theorem dX4_bitsOf_55 : decode cX4_bitsOf 55 = .ok (.if_icmp .le 17, 3) := by decide +kernel
theorem dX4_bitsOf_58 : decode cX4_bitsOf 58 = .ok (.dload 4, 2) := by decide +kernel
theorem dX4_bitsOf_60 : decode cX4_bitsOf 60 = .ok (.ldc2_w 170, 3) := by decide +kernel
theorem dX4_bitsOf_63 : decode cX4_bitsOf 63 = .ok (.dmul, 1) := by decide +kernel
theorem dX4_bitsOf_64 : decode cX4_bitsOf 64 = .ok (.dstore 4, 2) := by decide +kernel
theorem dX4_bitsOf_66 : decode cX4_bitsOf 66 = .ok (.iinc 6 (-1), 3) := by decide +kernel
theorem dX4_bitsOf_69 : decode cX4_bitsOf 69 = .ok (.goto (-26), 3) := by decide +kernel
theorem dX4_bitsOf_72 : decode cX4_bitsOf 72 = .ok (.dload 4, 2) := by decide +kernel
theorem dX4_bitsOf_74 : decode cX4_bitsOf 74 = .ok (.dconst 1, 1) := by decide +kernel
theorem dX4_bitsOf_75 : decode cX4_bitsOf 75 = .ok (.dsub, 1) := by decide +kernel
theorem dX4_bitsOf_76 : decode cX4_bitsOf 76 = .ok (.lconst 1, 1) := by decide +kernel
theorem dX4_bitsOf_77 : decode cX4_bitsOf 77 = .ok (.iload_n 2, 1) := by decide +kernel
theorem dX4_bitsOf_78 : decode cX4_bitsOf 78 = .ok (.lshl, 1) := by decide +kernel
theorem dX4_bitsOf_79 : decode cX4_bitsOf 79 = .ok (.l2d, 1) := by decide +kernel
theorem dX4_bitsOf_80 : decode cX4_bitsOf 80 = .ok (.dmul, 1) := by decide +kernel
theorem dX4_bitsOf_81 : decode cX4_bitsOf 81 = .ok (.d2l, 1) := by decide +kernel
theorem dX4_bitsOf_82 : decode cX4_bitsOf 82 = .ok (.lstore 7, 2) := by decide +kernel
theorem dX4_bitsOf_84 : decode cX4_bitsOf 84 = .ok (.iload 6, 2) := by decide +kernel
theorem dX4_bitsOf_86 : decode cX4_bitsOf 86 = .ok (.iload_n 3, 1) := by decide +kernel
theorem dX4_bitsOf_87 : decode cX4_bitsOf 87 = .ok (.iadd, 1) := by decide +kernel
theorem dX4_bitsOf_88 : decode cX4_bitsOf 88 = .ok (.i2l, 1) := by decide +kernel
theorem dX4_bitsOf_89 : decode cX4_bitsOf 89 = .ok (.iload_n 2, 1) := by decide +kernel
theorem dX4_bitsOf_90 : decode cX4_bitsOf 90 = .ok (.lshl, 1) := by decide +kernel
theorem dX4_bitsOf_91 : decode cX4_bitsOf 91 = .ok (.lload 7, 2) := by decide +kernel
theorem dX4_bitsOf_93 : decode cX4_bitsOf 93 = .ok (.ladd, 1) := by decide +kernel
theorem dX4_bitsOf_94 : decode cX4_bitsOf 94 = .ok (.lreturn, 1) := by decide +kernel
theorem dX5_init_0 : decode cX5_init 0 = .ok (.aload_n 0, 1) := by decide +kernel
theorem dX5_init_1 : decode cX5_init 1 = .ok (.invokespecial 1, 3) := by decide +kernel
theorem dX5_init_4 : decode cX5_init 4 = .ok (.aload_n 0, 1) := by decide +kernel
theorem dX5_init_5 : decode cX5_init 5 = .ok (.sipush 234, 3) := by decide +kernel
theorem dX5_init_8 : decode cX5_init 8 = .ok (.newarray .int, 2) := by decide +kernel
theorem dX5_init_10 : decode cX5_init 10 = .ok (.putfield 7, 3) := by decide +kernel
theorem dX5_init_13 : decode cX5_init 13 = .ok (.aload_n 0, 1) := by decide +kernel
theorem dX5_init_14 : decode cX5_init 14 = .ok (.sipush 234, 3) := by decide +kernel
theorem dX5_init_17 : decode cX5_init 17 = .ok (.newarray .int, 2) := by decide +kernel
theorem dX5_init_19 : decode cX5_init 19 = .ok (.putfield 13, 3) := by decide +kernel
theorem dX5_init_22 : decode cX5_init 22 = .ok (.aload_n 0, 1) := by decide +kernel
theorem dX5_init_23 : decode cX5_init 23 = .ok (.sipush 1404, 3) := by decide +kernel
theorem dX5_init_26 : decode cX5_init 26 = .ok (.newarray .int, 2) := by decide +kernel
theorem dX5_init_28 : decode cX5_init 28 = .ok (.putfield 16, 3) := by decide +kernel
theorem dX5_init_31 : decode cX5_init 31 = .ok (.aload_n 0, 1) := by decide +kernel
theorem dX5_init_32 : decode cX5_init 32 = .ok (.sipush 468, 3) := by decide +kernel
theorem dX5_init_35 : decode cX5_init 35 = .ok (.newarray .int, 2) := by decide +kernel
theorem dX5_init_37 : decode cX5_init 37 = .ok (.putfield 19, 3) := by decide +kernel
theorem dX5_init_40 : decode cX5_init 40 = .ok (.aload_n 0, 1) := by decide +kernel
theorem dX5_init_41 : decode cX5_init 41 = .ok (.iconst 2, 1) := by decide +kernel
theorem dX5_init_42 : decode cX5_init 42 = .ok (.newarray .boolean, 2) := by decide +kernel
theorem dX5_init_44 : decode cX5_init 44 = .ok (.putfield 22, 3) := by decide +kernel
theorem dX5_init_47 : decode cX5_init 47 = .ok (.aload_n 0, 1) := by decide +kernel
theorem dX5_init_48 : decode cX5_init 48 = .ok (.bipush 80, 2) := by decide +kernel
theorem dX5_init_50 : decode cX5_init 50 = .ok (.newarray .int, 2) := by decide +kernel
theorem dX5_init_52 : decode cX5_init 52 = .ok (.putfield 26, 3) := by decide +kernel
theorem dX5_init_55 : decode cX5_init 55 = .ok (.aload_n 0, 1) := by decide +kernel
theorem dX5_init_56 : decode cX5_init 56 = .ok (.bipush 123, 2) := by decide +kernel
theorem dX5_init_58 : decode cX5_init 58 = .ok (.newarray .int, 2) := by decide +kernel
theorem dX5_init_60 : decode cX5_init 60 = .ok (.putfield 29, 3) := by decide +kernel
theorem dX5_init_63 : decode cX5_init 63 = .ok (.aload_n 0, 1) := by decide +kernel
theorem dX5_init_64 : decode cX5_init 64 = .ok (.getfield 7, 3) := by decide +kernel
theorem dX5_init_67 : decode cX5_init 67 = .ok (.iconst 1, 1) := by decide +kernel
theorem dX5_init_68 : decode cX5_init 68 = .ok (.bipush 10, 2) := by decide +kernel
theorem dX5_init_70 : decode cX5_init 70 = .ok (.iastore, 1) := by decide +kernel
theorem dX5_init_71 : decode cX5_init 71 = .ok (.aload_n 0, 1) := by decide +kernel
theorem dX5_init_72 : decode cX5_init 72 = .ok (.getfield 7, 3) := by decide +kernel
theorem dX5_init_75 : decode cX5_init 75 = .ok (.iconst 2, 1) := by decide +kernel
theorem dX5_init_76 : decode cX5_init 76 = .ok (.iconst 5, 1) := by decide +kernel
theorem dX5_init_77 : decode cX5_init 77 = .ok (.iastore, 1) := by decide +kernel
theorem dX5_init_78 : decode cX5_init 78 = .ok (.aload_n 0, 1) := by decide +kernel
theorem dX5_init_79 : decode cX5_init 79 = .ok (.getfield 7, 3) := by decide +kernel
theorem dX5_init_82 : decode cX5_init 82 = .ok (.iconst 3, 1) := by decide +kernel
theorem dX5_init_83 : decode cX5_init 83 = .ok (.iconst 4, 1) := by decide +kernel
theorem dX5_init_84 : decode cX5_init 84 = .ok (.iastore, 1) := by decide +kernel
theorem dX5_init_85 : decode cX5_init 85 = .ok (.aload_n 0, 1) := by decide +kernel
theorem dX5_init_86 : decode cX5_init 86 = .ok (.getfield 7, 3) := by decide +kernel
theorem dX5_init_89 : decode cX5_init 89 = .ok (.iconst 4, 1) := by decide +kernel
theorem dX5_init_90 : decode cX5_init 90 = .ok (.iconst 4, 1) := by decide +kernel
theorem dX5_init_91 : decode cX5_init 91 = .ok (.iastore, 1) := by decide +kernel
theorem dX5_init_92 : decode cX5_init 92 = .ok (.aload_n 0, 1) := by decide +kernel
theorem dX5_init_93 : decode cX5_init 93 = .ok (.getfield 7, 3) := by decide +kernel
theorem dX5_init_96 : decode cX5_init 96 = .ok (.bipush 7, 2) := by decide +kernel
theorem dX5_init_98 : decode cX5_init 98 = .ok (.sipush 255, 3) := by decide +kernel
theorem dX5_init_101 : decode cX5_init 101 = .ok (.iastore, 1) := by decide +kernel
theorem dX5_init_102 : decode cX5_init 102 = .ok (.aload_n 0, 1) := by decide +kernel
theorem dX5_init_103 : decode cX5_init 103 = .ok (.getfield 7, 3) := by decide +kernel
theorem dX5_init_106 : decode cX5_init 106 = .ok (.bipush 23, 2) := by decide +kernel
theorem dX5_init_108 : decode cX5_init 108 = .ok (.bipush (-6), 2) := by decide +kernel
theorem dX5_init_110 : decode cX5_init 110 = .ok (.iastore, 1) := by decide +kernel
theorem dX5_init_111 : decode cX5_init 111 = .ok (.iconst 0, 1) := by decide +kernel
theorem dX5_init_112 : decode cX5_init 112 = .ok (.istore_n 1, 1) := by decide +kernel
theorem dX5_init_113 : decode cX5_init 113 = .ok (.iload_n 1, 1) := by decide +kernel
theorem dX5_init_114 : decode cX5_init 114 = .ok (.bipush 16, 2) := by decide +kernel
theorem dX5_init_116 : decode cX5_init 116 = .ok (.if_icmp .ge 22, 3) := by decide +kernel
theorem dX5_init_119 : decode cX5_init 119 = .ok (.aload_n 0, 1) := by decide +kernel
theorem dX5_init_120 : decode cX5_init 120 = .ok (.getfield 7, 3) := by decide +kernel
theorem dX5_init_123 : decode cX5_init 123 = .ok (.bipush 26, 2) := by decide +kernel
theorem dX5_init_125 : decode cX5_init 125 = .ok (.iload_n 1, 1) := by decide +kernel
theorem dX5_init_126 : decode cX5_init 126 = .ok (.iadd, 1) := by decide +kernel
theorem dX5_init_127 : decode cX5_init 127 = .ok (.bipush 10, 2) := by decide +kernel
theorem dX5_init_129 : decode cX5_init 129 = .ok (.iload_n 1, 1) := by decide +kernel
theorem dX5_init_130 : decode cX5_init 130 = .ok (.imul, 1) := by decide +kernel
theorem dX5_init_131 : decode cX5_init 131 = .ok (.iastore, 1) := by decide +kernel
theorem dX5_init_132 : decode cX5_init 132 = .ok (.iinc 1 1, 3) := by decide +kernel
theorem dX5_init_135 : decode cX5_init 135 = .ok (.goto (-22), 3) := by decide +kernel
theorem dX5_init_138 : decode cX5_init 138 = .ok (.iconst 0, 1) := by decide +kernel
theorem dX5_init_139 : decode cX5_init 139 = .ok (.istore_n 1, 1) := by decide +kernel
theorem dX5_init_140 : decode cX5_init 140 = .ok (.iload_n 1, 1) := by decide +kernel
theorem dX5_init_141 : decode cX5_init 141 = .ok (.bipush 96, 2) := by decide +kernel
theorem dX5_init_143 : decode cX5_init 143 = .ok (.if_icmp .ge 20, 3) := by decide +kernel
theorem dX5_init_146 : decode cX5_init 146 = .ok (.aload_n 0, 1) := by decide +kernel
theorem dX5_init_147 : decode cX5_init 147 = .ok (.getfield 7, 3) := by decide +kernel
theorem dX5_init_150 : decode cX5_init 150 = .ok (.bipush 106, 2) := by decide +kernel
theorem dX5_init_152 : decode cX5_init 152 = .ok (.iload_n 1, 1) := by decide +kernel
theorem dX5_init_153 : decode cX5_init 153 = .ok (.iadd, 1) := by decide +kernel
theorem dX5_init_154 : decode cX5_init 154 = .ok (.bipush (-6), 2) := by decide +kernel
theorem dX5_init_156 : decode cX5_init 156 = .ok (.iastore, 1) := by decide +kernel
theorem dX5_init_157 : decode cX5_init 157 = .ok (.iinc 1 1, 3) := by decide +kernel
theorem dX5_init_160 : decode cX5_init 160 = .ok (.goto (-20), 3) := by decide +kernel
theorem dX5_init_163 : decode cX5_init 163 = .ok (.return_, 1) := by decide +kernel
theorem dX5_in_0 : decode cX5_in 0 = .ok (.iload_n 0, 1) := by decide +kernel
theorem dX5_in_1 : decode cX5_in 1 = .ok (.iload_n 1, 1) := by decide +kernel
theorem dX5_in_2 : decode cX5_in 2 = .ok (.if_icmp .lt 12, 3) := by decide +kernel
theorem dX5_in_5 : decode cX5_in 5 = .ok (.iload_n 0, 1) := by decide +kernel
theorem dX5_in_6 : decode cX5_in 6 = .ok (.iload_n 2, 1) := by decide +kernel
theorem dX5_in_7 : decode cX5_in 7 = .ok (.if_icmp .gt 7, 3) := by decide +kernel
theorem dX5_in_10 : decode cX5_in 10 = .ok (.iconst 1, 1) := by decide +kernel
theorem dX5_in_11 : decode cX5_in 11 = .ok (.goto 4, 3) := by decide +kernel
theorem dX5_in_14 : decode cX5_in 14 = .ok (.iconst 0, 1) := by decide +kernel
theorem dX5_in_15 : decode cX5_in 15 = .ok (.ireturn, 1) := by decide +kernel
theorem dX5_lays_0 : decode cX5_lays 0 = .ok (.iconst 0, 1) := by decide +kernel
theorem dX5_lays_1 : decode cX5_lays 1 = .ok (.istore 4, 2) := by decide +kernel
theorem dX5_lays_3 : decode cX5_lays 3 = .ok (.iload 4, 2) := by decide +kernel
theorem dX5_lays_5 : decode cX5_lays 5 = .ok (.sipush 234, 3) := by decide +kernel
theorem dX5_lays_8 : decode cX5_lays 8 = .ok (.if_icmp .ge 21, 3) := by decide +kernel
theorem dX5_lays_11 : decode cX5_lays 11 = .ok (.aload_n 2, 1) := by decide +kernel
theorem dX5_lays_12 : decode cX5_lays 12 = .ok (.iload_n 3, 1) := by decide +kernel
theorem dX5_lays_13 : decode cX5_lays 13 = .ok (.iload 4, 2) := by decide +kernel
theorem dX5_lays_15 : decode cX5_lays 15 = .ok (.iadd, 1) := by decide +kernel
theorem dX5_lays_16 : decode cX5_lays 16 = .ok (.aload_n 0, 1) := by decide +kernel
theorem dX5_lays_17 : decode cX5_lays 17 = .ok (.iload_n 1, 1) := by decide +kernel
theorem dX5_lays_18 : decode cX5_lays 18 = .ok (.iload 4, 2) := by decide +kernel
theorem dX5_lays_20 : decode cX5_lays 20 = .ok (.iadd, 1) := by decide +kernel
theorem dX5_lays_21 : decode cX5_lays 21 = .ok (.iaload, 1) := by decide +kernel
theorem dX5_lays_22 : decode cX5_lays 22 = .ok (.iastore, 1) := by decide +kernel
theorem dX5_lays_23 : decode cX5_lays 23 = .ok (.iinc 4 1, 3) := by decide +kernel
theorem dX5_lays_26 : decode cX5_lays 26 = .ok (.goto (-23), 3) := by decide +kernel
theorem dX5_lays_29 : decode cX5_lays 29 = .ok (.return_, 1) := by decide +kernel
set_option maxRecDepth 20000 in
theorem ggX5_records_X5_lays : GoodIn wsX5_records wsX5_lays := goodIn_r _ [7] (by decide +kernel) (by decide +kernel)
set_option maxRecDepth 20000 in
theorem gX5_records_X5_lays : GoodIn wsX5_records (va_wsS RX5 36 yX5_lays wsX5_lays) := goodIn_app (goodIn_of _ (by decide +kernel)) ggX5_records_X5_lays
theorem dX5_records_0 : decode cX5_records 0 = .ok (.aload_n 0, 1) := by decide +kernel
theorem dX5_records_1 : decode cX5_records 1 = .ok (.getfield 32, 3) := by decide +kernel
theorem dX5_records_4 : decode cX5_records 4 = .ok (.bipush 6, 2) := by decide +kernel
theorem dX5_records_6 : decode cX5_records 6 = .ok (.if_icmp .ne 44, 3) := by decide +kernel
theorem dX5_records_9 : decode cX5_records 9 = .ok (.iconst 0, 1) := by decide +kernel
theorem dX5_records_10 : decode cX5_records 10 = .ok (.istore_n 1, 1) := by decide +kernel
theorem dX5_records_11 : decode cX5_records 11 = .ok (.iload_n 1, 1) := by decide +kernel
theorem dX5_records_12 : decode cX5_records 12 = .ok (.sipush 1170, 3) := by decide +kernel
theorem dX5_records_15 : decode cX5_records 15 = .ok (.if_icmp .ge 25, 3) := by decide +kernel
theorem dX5_records_18 : decode cX5_records 18 = .ok (.aload_n 0, 1) := by decide +kernel
theorem dX5_records_19 : decode cX5_records 19 = .ok (.getfield 16, 3) := by decide +kernel
theorem dX5_records_22 : decode cX5_records 22 = .ok (.iload_n 1, 1) := by decide +kernel
theorem dX5_records_23 : decode cX5_records 23 = .ok (.aload_n 0, 1) := by decide +kernel
theorem dX5_records_24 : decode cX5_records 24 = .ok (.getfield 16, 3) := by decide +kernel
theorem dX5_records_27 : decode cX5_records 27 = .ok (.iload_n 1, 1) := by decide +kernel
theorem dX5_records_28 : decode cX5_records 28 = .ok (.sipush 234, 3) := by decide +kernel
theorem dX5_records_31 : decode cX5_records 31 = .ok (.iadd, 1) := by decide +kernel
theorem dX5_records_32 : decode cX5_records 32 = .ok (.iaload, 1) := by decide +kernel
theorem dX5_records_33 : decode cX5_records 33 = .ok (.iastore, 1) := by decide +kernel
theorem dX5_records_34 : decode cX5_records 34 = .ok (.iinc 1 1, 3) := by decide +kernel
theorem dX5_records_37 : decode cX5_records 37 = .ok (.goto (-26), 3) := by decide +kernel
theorem dX5_records_40 : decode cX5_records 40 = .ok (.aload_n 0, 1) := by decide +kernel
theorem dX5_records_41 : decode cX5_records 41 = .ok (.dup, 1) := by decide +kernel
theorem dX5_records_42 : decode cX5_records 42 = .ok (.getfield 32, 3) := by decide +kernel
theorem dX5_records_45 : decode cX5_records 45 = .ok (.iconst 1, 1) := by decide +kernel
theorem dX5_records_46 : decode cX5_records 46 = .ok (.isub, 1) := by decide +kernel
theorem dX5_records_47 : decode cX5_records 47 = .ok (.putfield 32, 3) := by decide +kernel
theorem dX5_records_50 : decode cX5_records 50 = .ok (.aload_n 0, 1) := by decide +kernel
theorem dX5_records_51 : decode cX5_records 51 = .ok (.getfield 7, 3) := by decide +kernel
theorem dX5_records_54 : decode cX5_records 54 = .ok (.iconst 0, 1) := by decide +kernel
theorem dX5_records_55 : decode cX5_records 55 = .ok (.aload_n 0, 1) := by decide +kernel
theorem dX5_records_56 : decode cX5_records 56 = .ok (.getfield 16, 3) := by decide +kernel
theorem dX5_records_59 : decode cX5_records 59 = .ok (.sipush 234, 3) := by decide +kernel
theorem dX5_records_62 : decode cX5_records 62 = .ok (.aload_n 0, 1) := by decide +kernel
theorem dX5_records_63 : decode cX5_records 63 = .ok (.getfield 32, 3) := by decide +kernel
theorem dX5_records_66 : decode cX5_records 66 = .ok (.imul, 1) := by decide +kernel
theorem dX5_records_67 : decode cX5_records 67 = .ok (.invokestatic 36, 3) := by decide +kernel
theorem dX5_records_70 : decode cX5_records 70 = .ok (.aload_n 0, 1) := by decide +kernel
theorem dX5_records_71 : decode cX5_records 71 = .ok (.dup, 1) := by decide +kernel
theorem dX5_records_72 : decode cX5_records 72 = .ok (.getfield 32, 3) := by decide +kernel
theorem dX5_records_75 : decode cX5_records 75 = .ok (.iconst 1, 1) := by decide +kernel
theorem dX5_records_76 : decode cX5_records 76 = .ok (.iadd, 1) := by decide +kernel
theorem dX5_records_77 : decode cX5_records 77 = .ok (.putfield 32, 3) := by decide +kernel
theorem dX5_records_80 : decode cX5_records 80 = .ok (.return_, 1) := by decide +kernel
set_option maxRecDepth 20000 in
theorem ggX5_undo_X5_lays : GoodIn wsX5_undo wsX5_lays := goodIn_r _ [7] (by decide +kernel) (by decide +kernel)
set_option maxRecDepth 20000 in
theorem gX5_undo_X5_lays : GoodIn wsX5_undo (va_wsS RX5 36 yX5_lays wsX5_lays) := goodIn_app (goodIn_of _ (by decide +kernel)) ggX5_undo_X5_lays
theorem dX5_undo_0 : decode cX5_undo 0 = .ok (.aload_n 0, 1) := by decide +kernel
theorem dX5_undo_1 : decode cX5_undo 1 = .ok (.getfield 32, 3) := by decide +kernel
theorem dX5_undo_4 : decode cX5_undo 4 = .ok (.ifCond .ne 6, 3) := by decide +kernel
theorem dX5_undo_7 : decode cX5_undo 7 = .ok (.bipush (-5), 2) := by decide +kernel
theorem dX5_undo_9 : decode cX5_undo 9 = .ok (.ireturn, 1) := by decide +kernel
theorem dX5_undo_10 : decode cX5_undo 10 = .ok (.aload_n 0, 1) := by decide +kernel
theorem dX5_undo_11 : decode cX5_undo 11 = .ok (.dup, 1) := by decide +kernel
theorem dX5_undo_12 : decode cX5_undo 12 = .ok (.getfield 32, 3) := by decide +kernel
theorem dX5_undo_15 : decode cX5_undo 15 = .ok (.iconst 1, 1) := by decide +kernel
theorem dX5_undo_16 : decode cX5_undo 16 = .ok (.isub, 1) := by decide +kernel
theorem dX5_undo_17 : decode cX5_undo 17 = .ok (.putfield 32, 3) := by decide +kernel
theorem dX5_undo_20 : decode cX5_undo 20 = .ok (.aload_n 0, 1) := by decide +kernel
theorem dX5_undo_21 : decode cX5_undo 21 = .ok (.getfield 16, 3) := by decide +kernel
theorem dX5_undo_24 : decode cX5_undo 24 = .ok (.sipush 234, 3) := by decide +kernel
theorem dX5_undo_27 : decode cX5_undo 27 = .ok (.aload_n 0, 1) := by decide +kernel
theorem dX5_undo_28 : decode cX5_undo 28 = .ok (.getfield 32, 3) := by decide +kernel
theorem dX5_undo_31 : decode cX5_undo 31 = .ok (.imul, 1) := by decide +kernel
theorem dX5_undo_32 : decode cX5_undo 32 = .ok (.aload_n 0, 1) := by decide +kernel
theorem dX5_undo_33 : decode cX5_undo 33 = .ok (.getfield 7, 3) := by decide +kernel
theorem dX5_undo_36 : decode cX5_undo 36 = .ok (.iconst 0, 1) := by decide +kernel
theorem dX5_undo_37 : decode cX5_undo 37 = .ok (.invokestatic 36, 3) := by decide +kernel
theorem dX5_undo_40 : decode cX5_undo 40 = .ok (.aload_n 0, 1) := by decide +kernel
theorem dX5_undo_41 : decode cX5_undo 41 = .ok (.getfield 32, 3) := by decide +kernel
theorem dX5_undo_44 : decode cX5_undo 44 = .ok (.ireturn, 1) := by decide +kernel
set_option maxRecDepth 20000 in
theorem ggX5_save_X5_in : GoodIn wsX5_save wsX5_in := goodIn_r _ [7] (by decide +kernel) (by decide +kernel)
set_option maxRecDepth 20000 in
theorem gX5_save_X5_in : GoodIn wsX5_save (va_wsS RX5 40 yX5_in wsX5_in) := goodIn_app (goodIn_of _ (by decide +kernel)) ggX5_save_X5_in
set_option maxRecDepth 20000 in
theorem ggX5_save_X5_lays : GoodIn wsX5_save wsX5_lays := goodIn_r _ [10] (by decide +kernel) (by decide +kernel)
set_option maxRecDepth 20000 in
theorem gX5_save_X5_lays : GoodIn wsX5_save (va_wsS RX5 36 yX5_lays wsX5_lays) := goodIn_app (goodIn_of _ (by decide +kernel)) ggX5_save_X5_lays
theorem dX5_save_0 : decode cX5_save 0 = .ok (.iload_n 1, 1) := by decide +kernel
theorem dX5_save_1 : decode cX5_save 1 = .ok (.iconst 0, 1) := by decide +kernel
theorem dX5_save_2 : decode cX5_save 2 = .ok (.iconst 1, 1) := by decide +kernel
theorem dX5_save_3 : decode cX5_save 3 = .ok (.invokestatic 40, 3) := by decide +kernel
theorem dX5_save_6 : decode cX5_save 6 = .ok (.ifCond .ne 6, 3) := by decide +kernel
theorem dX5_save_9 : decode cX5_save 9 = .ok (.bipush (-2), 2) := by decide +kernel
theorem dX5_save_11 : decode cX5_save 11 = .ok (.ireturn, 1) := by decide +kernel
theorem dX5_save_12 : decode cX5_save 12 = .ok (.aload_n 0, 1) := by decide +kernel
theorem dX5_save_13 : decode cX5_save 13 = .ok (.getfield 7, 3) := by decide +kernel
theorem dX5_save_16 : decode cX5_save 16 = .ok (.iconst 0, 1) := by decide +kernel
theorem dX5_save_17 : decode cX5_save 17 = .ok (.aload_n 0, 1) := by decide +kernel
theorem dX5_save_18 : decode cX5_save 18 = .ok (.getfield 19, 3) := by decide +kernel
theorem dX5_save_21 : decode cX5_save 21 = .ok (.sipush 234, 3) := by decide +kernel
theorem dX5_save_24 : decode cX5_save 24 = .ok (.iload_n 1, 1) := by decide +kernel
theorem dX5_save_25 : decode cX5_save 25 = .ok (.imul, 1) := by decide +kernel
theorem dX5_save_26 : decode cX5_save 26 = .ok (.invokestatic 36, 3) := by decide +kernel
theorem dX5_save_29 : decode cX5_save 29 = .ok (.aload_n 0, 1) := by decide +kernel
theorem dX5_save_30 : decode cX5_save 30 = .ok (.getfield 22, 3) := by decide +kernel
theorem dX5_save_33 : decode cX5_save 33 = .ok (.iload_n 1, 1) := by decide +kernel
theorem dX5_save_34 : decode cX5_save 34 = .ok (.iconst 1, 1) := by decide +kernel
theorem dX5_save_35 : decode cX5_save 35 = .ok (.bastore, 1) := by decide +kernel
theorem dX5_save_36 : decode cX5_save 36 = .ok (.aload_n 0, 1) := by decide +kernel
theorem dX5_save_37 : decode cX5_save 37 = .ok (.getfield 7, 3) := by decide +kernel
theorem dX5_save_40 : decode cX5_save 40 = .ok (.iconst 0, 1) := by decide +kernel
theorem dX5_save_41 : decode cX5_save 41 = .ok (.iaload, 1) := by decide +kernel
theorem dX5_save_42 : decode cX5_save 42 = .ok (.ireturn, 1) := by decide +kernel
set_option maxRecDepth 20000 in
theorem ggX5_restore_X5_in : GoodIn wsX5_restore wsX5_in := goodIn_r _ [7] (by decide +kernel) (by decide +kernel)
set_option maxRecDepth 20000 in
theorem gX5_restore_X5_in : GoodIn wsX5_restore (va_wsS RX5 40 yX5_in wsX5_in) := goodIn_app (goodIn_of _ (by decide +kernel)) ggX5_restore_X5_in
set_option maxRecDepth 20000 in
theorem ggX5_restore_X5_records : GoodIn wsX5_restore wsX5_records := goodIn_r _ [11, 12, 13, 3, 14, 15, 6, 16, 17, 18, 19, 20, 21, 22, 23, 24, 25, 26, 27] (by decide +kernel) (by decide +kernel)
set_option maxRecDepth 20000 in
theorem gX5_restore_X5_records : GoodIn wsX5_restore (wsV RX5 44 RX5 yX5_records wsX5_records) := goodIn_app (goodIn_of _ (by decide +kernel)) ggX5_restore_X5_records
set_option maxRecDepth 20000 in
theorem ggX5_restore_X5_lays : GoodIn wsX5_restore wsX5_lays := goodIn_r _ [16] (by decide +kernel) (by decide +kernel)
set_option maxRecDepth 20000 in
theorem gX5_restore_X5_lays : GoodIn wsX5_restore (va_wsS RX5 36 yX5_lays wsX5_lays) := goodIn_app (goodIn_of _ (by decide +kernel)) ggX5_restore_X5_lays
end
section
theorem dX5_restore_0 : decode cX5_restore 0 = .ok (.iload_n 1, 1) := by decide +kernel
theorem dX5_restore_1 : decode cX5_restore 1 = .ok (.iconst 0, 1) := by decide +kernel
theorem dX5_restore_2 : decode cX5_restore 2 = .ok (.iconst 1, 1) := by decide +kernel
theorem dX5_restore_3 : decode cX5_restore 3 = .ok (.invokestatic 40, 3) := by decide +kernel
theorem dX5_restore_6 : decode cX5_restore 6 = .ok (.ifCond .ne 6, 3) := by decide +kernel
theorem dX5_restore_9 : decode cX5_restore 9 = .ok (.bipush (-2), 2) := by decide +kernel
theorem dX5_restore_11 : decode cX5_restore 11 = .ok (.ireturn, 1) := by decide +kernel
theorem dX5_restore_12 : decode cX5_restore 12 = .ok (.aload_n 0, 1) := by decide +kernel
theorem dX5_restore_13 : decode cX5_restore 13 = .ok (.getfield 22, 3) := by decide +kernel
theorem dX5_restore_16 : decode cX5_restore 16 = .ok (.iload_n 1, 1) := by decide +kernel
theorem dX5_restore_17 : decode cX5_restore 17 = .ok (.baload, 1) := by decide +kernel
theorem dX5_restore_18 : decode cX5_restore 18 = .ok (.ifCond .ne 6, 3) := by decide +kernel
theorem dX5_restore_21 : decode cX5_restore 21 = .ok (.bipush (-5), 2) := by decide +kernel
theorem dX5_restore_23 : decode cX5_restore 23 = .ok (.ireturn, 1) := by decide +kernel
theorem dX5_restore_24 : decode cX5_restore 24 = .ok (.aload_n 0, 1) := by decide +kernel
theorem dX5_restore_25 : decode cX5_restore 25 = .ok (.invokevirtual 44, 3) := by decide +kernel
theorem dX5_restore_28 : decode cX5_restore 28 = .ok (.aload_n 0, 1) := by decide +kernel
theorem dX5_restore_29 : decode cX5_restore 29 = .ok (.getfield 19, 3) := by decide +kernel
theorem dX5_restore_32 : decode cX5_restore 32 = .ok (.sipush 234, 3) := by decide +kernel
theorem dX5_restore_35 : decode cX5_restore 35 = .ok (.iload_n 1, 1) := by decide +kernel
theorem dX5_restore_36 : decode cX5_restore 36 = .ok (.imul, 1) := by decide +kernel
theorem dX5_restore_37 : decode cX5_restore 37 = .ok (.aload_n 0, 1) := by decide +kernel
theorem dX5_restore_38 : decode cX5_restore 38 = .ok (.getfield 7, 3) := by decide +kernel
theorem dX5_restore_41 : decode cX5_restore 41 = .ok (.iconst 0, 1) := by decide +kernel
theorem dX5_restore_42 : decode cX5_restore 42 = .ok (.invokestatic 36, 3) := by decide +kernel
theorem dX5_restore_45 : decode cX5_restore 45 = .ok (.aload_n 0, 1) := by decide +kernel
theorem dX5_restore_46 : decode cX5_restore 46 = .ok (.getfield 7, 3) := by decide +kernel
theorem dX5_restore_49 : decode cX5_restore 49 = .ok (.iconst 0, 1) := by decide +kernel
theorem dX5_restore_50 : decode cX5_restore 50 = .ok (.iaload, 1) := by decide +kernel
theorem dX5_restore_51 : decode cX5_restore 51 = .ok (.ireturn, 1) := by decide +kernel
theorem dX5_of_0 : decode cX5_of 0 = .ok (.aload_n 0, 1) := by decide +kernel
theorem dX5_of_1 : decode cX5_of 1 = .ok (.bipush 42, 2) := by decide +kernel
theorem dX5_of_3 : decode cX5_of 3 = .ok (.iconst 4, 1) := by decide +kernel
theorem dX5_of_4 : decode cX5_of 4 = .ok (.iload_n 1, 1) := by decide +kernel
theorem dX5_of_5 : decode cX5_of 5 = .ok (.imul, 1) := by decide +kernel
theorem dX5_of_6 : decode cX5_of 6 = .ok (.iadd, 1) := by decide +kernel
theorem dX5_of_7 : decode cX5_of 7 = .ok (.iload_n 2, 1) := by decide +kernel
theorem dX5_of_8 : decode cX5_of 8 = .ok (.iadd, 1) := by decide +kernel
theorem dX5_of_9 : decode cX5_of 9 = .ok (.iaload, 1) := by decide +kernel
theorem dX5_of_10 : decode cX5_of 10 = .ok (.ireturn, 1) := by decide +kernel
theorem dX5_misses_0 : decode cX5_misses 0 = .ok (.sipush 233, 3) := by decide +kernel
theorem dX5_misses_3 : decode cX5_misses 3 = .ok (.istore 4, 2) := by decide +kernel
theorem dX5_misses_5 : decode cX5_misses 5 = .ok (.iload 4, 2) := by decide +kernel
theorem dX5_misses_7 : decode cX5_misses 7 = .ok (.sipush 206, 3) := by decide +kernel
theorem dX5_misses_10 : decode cX5_misses 10 = .ok (.if_icmp .lt 19, 3) := by decide +kernel
theorem dX5_misses_13 : decode cX5_misses 13 = .ok (.aload_n 0, 1) := by decide +kernel
theorem dX5_misses_14 : decode cX5_misses 14 = .ok (.iload 4, 2) := by decide +kernel
theorem dX5_misses_16 : decode cX5_misses 16 = .ok (.aload_n 0, 1) := by decide +kernel
theorem dX5_misses_17 : decode cX5_misses 17 = .ok (.iload 4, 2) := by decide +kernel
theorem dX5_misses_19 : decode cX5_misses 19 = .ok (.iconst 4, 1) := by decide +kernel
theorem dX5_misses_20 : decode cX5_misses 20 = .ok (.isub, 1) := by decide +kernel
theorem dX5_misses_21 : decode cX5_misses 21 = .ok (.iaload, 1) := by decide +kernel
theorem dX5_misses_22 : decode cX5_misses 22 = .ok (.iastore, 1) := by decide +kernel
theorem dX5_misses_23 : decode cX5_misses 23 = .ok (.iinc 4 (-1), 3) := by decide +kernel
theorem dX5_misses_26 : decode cX5_misses 26 = .ok (.goto (-21), 3) := by decide +kernel
theorem dX5_misses_29 : decode cX5_misses 29 = .ok (.aload_n 0, 1) := by decide +kernel
theorem dX5_misses_30 : decode cX5_misses 30 = .ok (.sipush 202, 3) := by decide +kernel
theorem dX5_misses_33 : decode cX5_misses 33 = .ok (.iload_n 1, 1) := by decide +kernel
theorem dX5_misses_34 : decode cX5_misses 34 = .ok (.iastore, 1) := by decide +kernel
theorem dX5_misses_35 : decode cX5_misses 35 = .ok (.aload_n 0, 1) := by decide +kernel
theorem dX5_misses_36 : decode cX5_misses 36 = .ok (.sipush 203, 3) := by decide +kernel
theorem dX5_misses_39 : decode cX5_misses 39 = .ok (.iload_n 2, 1) := by decide +kernel
theorem dX5_misses_40 : decode cX5_misses 40 = .ok (.iastore, 1) := by decide +kernel
theorem dX5_misses_41 : decode cX5_misses 41 = .ok (.aload_n 0, 1) := by decide +kernel
theorem dX5_misses_42 : decode cX5_misses 42 = .ok (.sipush 204, 3) := by decide +kernel
theorem dX5_misses_45 : decode cX5_misses 45 = .ok (.iload_n 3, 1) := by decide +kernel
theorem dX5_misses_46 : decode cX5_misses 46 = .ok (.iastore, 1) := by decide +kernel
theorem dX5_misses_47 : decode cX5_misses 47 = .ok (.aload_n 0, 1) := by decide +kernel
theorem dX5_misses_48 : decode cX5_misses 48 = .ok (.sipush 205, 3) := by decide +kernel
theorem dX5_misses_51 : decode cX5_misses 51 = .ok (.aload_n 0, 1) := by decide +kernel
theorem dX5_misses_52 : decode cX5_misses 52 = .ok (.iconst 0, 1) := by decide +kernel
theorem dX5_misses_53 : decode cX5_misses 53 = .ok (.iaload, 1) := by decide +kernel
theorem dX5_misses_54 : decode cX5_misses 54 = .ok (.iastore, 1) := by decide +kernel
theorem dX5_misses_55 : decode cX5_misses 55 = .ok (.aload_n 0, 1) := by decide +kernel
theorem dX5_misses_56 : decode cX5_misses 56 = .ok (.bipush 24, 2) := by decide +kernel
theorem dX5_misses_58 : decode cX5_misses 58 = .ok (.dup2, 1) := by decide +kernel
theorem dX5_misses_59 : decode cX5_misses 59 = .ok (.iaload, 1) := by decide +kernel
theorem dX5_misses_60 : decode cX5_misses 60 = .ok (.aload_n 0, 1) := by decide +kernel
theorem dX5_misses_61 : decode cX5_misses 61 = .ok (.bipush 24, 2) := by decide +kernel
theorem dX5_misses_63 : decode cX5_misses 63 = .ok (.iaload, 1) := by decide +kernel
theorem dX5_misses_64 : decode cX5_misses 64 = .ok (.bipush 8, 2) := by decide +kernel
theorem dX5_misses_66 : decode cX5_misses 66 = .ok (.if_icmp .ge 7, 3) := by decide +kernel
theorem dX5_misses_69 : decode cX5_misses 69 = .ok (.iconst 1, 1) := by decide +kernel
theorem dX5_misses_70 : decode cX5_misses 70 = .ok (.goto 4, 3) := by decide +kernel
theorem dX5_misses_73 : decode cX5_misses 73 = .ok (.iconst 0, 1) := by decide +kernel
theorem dX5_misses_74 : decode cX5_misses 74 = .ok (.iadd, 1) := by decide +kernel
theorem dX5_misses_75 : decode cX5_misses 75 = .ok (.iastore, 1) := by decide +kernel
theorem dX5_misses_76 : decode cX5_misses 76 = .ok (.aload_n 0, 1) := by decide +kernel
theorem dX5_misses_77 : decode cX5_misses 77 = .ok (.bipush 12, 2) := by decide +kernel
theorem dX5_misses_79 : decode cX5_misses 79 = .ok (.dup2, 1) := by decide +kernel
theorem dX5_misses_80 : decode cX5_misses 80 = .ok (.iaload, 1) := by decide +kernel
theorem dX5_misses_81 : decode cX5_misses 81 = .ok (.iconst 1, 1) := by decide +kernel
theorem dX5_misses_82 : decode cX5_misses 82 = .ok (.iadd, 1) := by decide +kernel
theorem dX5_misses_83 : decode cX5_misses 83 = .ok (.iastore, 1) := by decide +kernel
theorem dX5_misses_84 : decode cX5_misses 84 = .ok (.return_, 1) := by decide +kernel
theorem dX5_leaves_0 : decode cX5_leaves 0 = .ok (.aload_n 0, 1) := by decide +kernel
theorem dX5_leaves_1 : decode cX5_leaves 1 = .ok (.bipush 10, 2) := by decide +kernel
theorem dX5_leaves_3 : decode cX5_leaves 3 = .ok (.dup2, 1) := by decide +kernel
theorem dX5_leaves_4 : decode cX5_leaves 4 = .ok (.iaload, 1) := by decide +kernel
theorem dX5_leaves_5 : decode cX5_leaves 5 = .ok (.iconst 1, 1) := by decide +kernel
theorem dX5_leaves_6 : decode cX5_leaves 6 = .ok (.isub, 1) := by decide +kernel
theorem dX5_leaves_7 : decode cX5_leaves 7 = .ok (.iastore, 1) := by decide +kernel
theorem dX5_leaves_8 : decode cX5_leaves 8 = .ok (.bipush 42, 2) := by decide +kernel
theorem dX5_leaves_10 : decode cX5_leaves 10 = .ok (.iconst 4, 1) := by decide +kernel
theorem dX5_leaves_11 : decode cX5_leaves 11 = .ok (.iload_n 1, 1) := by decide +kernel
theorem dX5_leaves_12 : decode cX5_leaves 12 = .ok (.imul, 1) := by decide +kernel
theorem dX5_leaves_13 : decode cX5_leaves 13 = .ok (.iadd, 1) := by decide +kernel
theorem dX5_leaves_14 : decode cX5_leaves 14 = .ok (.istore_n 2, 1) := by decide +kernel
theorem dX5_leaves_15 : decode cX5_leaves 15 = .ok (.iload_n 2, 1) := by decide +kernel
theorem dX5_leaves_16 : decode cX5_leaves 16 = .ok (.bipush 42, 2) := by decide +kernel
theorem dX5_leaves_18 : decode cX5_leaves 18 = .ok (.iconst 4, 1) := by decide +kernel
theorem dX5_leaves_19 : decode cX5_leaves 19 = .ok (.aload_n 0, 1) := by decide +kernel
theorem dX5_leaves_20 : decode cX5_leaves 20 = .ok (.bipush 10, 2) := by decide +kernel
theorem dX5_leaves_22 : decode cX5_leaves 22 = .ok (.iaload, 1) := by decide +kernel
theorem dX5_leaves_23 : decode cX5_leaves 23 = .ok (.imul, 1) := by decide +kernel
theorem dX5_leaves_24 : decode cX5_leaves 24 = .ok (.iadd, 1) := by decide +kernel
theorem dX5_leaves_25 : decode cX5_leaves 25 = .ok (.if_icmp .ge 17, 3) := by decide +kernel
theorem dX5_leaves_28 : decode cX5_leaves 28 = .ok (.aload_n 0, 1) := by decide +kernel
theorem dX5_leaves_29 : decode cX5_leaves 29 = .ok (.iload_n 2, 1) := by decide +kernel
theorem dX5_leaves_30 : decode cX5_leaves 30 = .ok (.aload_n 0, 1) := by decide +kernel
theorem dX5_leaves_31 : decode cX5_leaves 31 = .ok (.iload_n 2, 1) := by decide +kernel
theorem dX5_leaves_32 : decode cX5_leaves 32 = .ok (.iconst 4, 1) := by decide +kernel
theorem dX5_leaves_33 : decode cX5_leaves 33 = .ok (.iadd, 1) := by decide +kernel
theorem dX5_leaves_34 : decode cX5_leaves 34 = .ok (.iaload, 1) := by decide +kernel
theorem dX5_leaves_35 : decode cX5_leaves 35 = .ok (.iastore, 1) := by decide +kernel
theorem dX5_leaves_36 : decode cX5_leaves 36 = .ok (.iinc 2 1, 3) := by decide +kernel
theorem dX5_leaves_39 : decode cX5_leaves 39 = .ok (.goto (-24), 3) := by decide +kernel
theorem dX5_leaves_42 : decode cX5_leaves 42 = .ok (.return_, 1) := by decide +kernel
set_option maxRecDepth 20000 in
theorem ggX5_loses_X5_of : GoodIn wsX5_loses wsX5_of := goodIn_r _ [4] (by decide +kernel) (by decide +kernel)
set_option maxRecDepth 20000 in
theorem gX5_loses_X5_of : GoodIn wsX5_loses (va_wsS RX5 47 yX5_of wsX5_of) := goodIn_app (goodIn_of _ (by decide +kernel)) ggX5_loses_X5_of
set_option maxRecDepth 20000 in
theorem ggX5_loses_X5_misses : GoodIn wsX5_loses wsX5_misses := goodIn_r _ [7] (by decide +kernel) (by decide +kernel)
set_option maxRecDepth 20000 in
theorem gX5_loses_X5_misses : GoodIn wsX5_loses (va_wsS RX5 51 yX5_misses wsX5_misses) := goodIn_app (goodIn_of _ (by decide +kernel)) ggX5_loses_X5_misses
set_option maxRecDepth 20000 in
theorem ggX5_loses_X5_leaves : GoodIn wsX5_loses wsX5_leaves := goodIn_r _ [10] (by decide +kernel) (by decide +kernel)
set_option maxRecDepth 20000 in
theorem gX5_loses_X5_leaves : GoodIn wsX5_loses (va_wsS RX5 55 yX5_leaves wsX5_leaves) := goodIn_app (goodIn_of _ (by decide +kernel)) ggX5_loses_X5_leaves
theorem dX5_loses_0 : decode cX5_loses 0 = .ok (.aload_n 0, 1) := by decide +kernel
theorem dX5_loses_1 : decode cX5_loses 1 = .ok (.aload_n 0, 1) := by decide +kernel
theorem dX5_loses_2 : decode cX5_loses 2 = .ok (.iload_n 1, 1) := by decide +kernel
theorem dX5_loses_3 : decode cX5_loses 3 = .ok (.iconst 0, 1) := by decide +kernel
theorem dX5_loses_4 : decode cX5_loses 4 = .ok (.invokestatic 47, 3) := by decide +kernel
theorem dX5_loses_7 : decode cX5_loses 7 = .ok (.aload_n 0, 1) := by decide +kernel
theorem dX5_loses_8 : decode cX5_loses 8 = .ok (.iload_n 1, 1) := by decide +kernel
theorem dX5_loses_9 : decode cX5_loses 9 = .ok (.iconst 1, 1) := by decide +kernel
theorem dX5_loses_10 : decode cX5_loses 10 = .ok (.invokestatic 47, 3) := by decide +kernel
theorem dX5_loses_13 : decode cX5_loses 13 = .ok (.iload_n 2, 1) := by decide +kernel
theorem dX5_loses_14 : decode cX5_loses 14 = .ok (.invokestatic 51, 3) := by decide +kernel
theorem dX5_loses_17 : decode cX5_loses 17 = .ok (.aload_n 0, 1) := by decide +kernel
theorem dX5_loses_18 : decode cX5_loses 18 = .ok (.iload_n 1, 1) := by decide +kernel
theorem dX5_loses_19 : decode cX5_loses 19 = .ok (.invokestatic 55, 3) := by decide +kernel
theorem dX5_loses_22 : decode cX5_loses 22 = .ok (.return_, 1) := by decide +kernel
theorem dX5_queues_0 : decode cX5_queues 0 = .ok (.bipush 42, 2) := by decide +kernel
theorem dX5_queues_2 : decode cX5_queues 2 = .ok (.iconst 4, 1) := by decide +kernel
theorem dX5_queues_3 : decode cX5_queues 3 = .ok (.aload_n 0, 1) := by decide +kernel
theorem dX5_queues_4 : decode cX5_queues 4 = .ok (.bipush 10, 2) := by decide +kernel
theorem dX5_queues_6 : decode cX5_queues 6 = .ok (.iaload, 1) := by decide +kernel
theorem dX5_queues_7 : decode cX5_queues 7 = .ok (.imul, 1) := by decide +kernel
theorem dX5_queues_8 : decode cX5_queues 8 = .ok (.iadd, 1) := by decide +kernel
theorem dX5_queues_9 : decode cX5_queues 9 = .ok (.istore_n 1, 1) := by decide +kernel
theorem dX5_queues_10 : decode cX5_queues 10 = .ok (.aload_n 0, 1) := by decide +kernel
theorem dX5_queues_11 : decode cX5_queues 11 = .ok (.iload_n 1, 1) := by decide +kernel
theorem dX5_queues_12 : decode cX5_queues 12 = .ok (.aload_n 0, 1) := by decide +kernel
theorem dX5_queues_13 : decode cX5_queues 13 = .ok (.bipush 17, 2) := by decide +kernel
theorem dX5_queues_15 : decode cX5_queues 15 = .ok (.iaload, 1) := by decide +kernel
theorem dX5_queues_16 : decode cX5_queues 16 = .ok (.iastore, 1) := by decide +kernel
theorem dX5_queues_17 : decode cX5_queues 17 = .ok (.aload_n 0, 1) := by decide +kernel
theorem dX5_queues_18 : decode cX5_queues 18 = .ok (.iload_n 1, 1) := by decide +kernel
theorem dX5_queues_19 : decode cX5_queues 19 = .ok (.iconst 1, 1) := by decide +kernel
theorem dX5_queues_20 : decode cX5_queues 20 = .ok (.iadd, 1) := by decide +kernel
theorem dX5_queues_21 : decode cX5_queues 21 = .ok (.aload_n 0, 1) := by decide +kernel
theorem dX5_queues_22 : decode cX5_queues 22 = .ok (.bipush 16, 2) := by decide +kernel
theorem dX5_queues_24 : decode cX5_queues 24 = .ok (.iaload, 1) := by decide +kernel
theorem dX5_queues_25 : decode cX5_queues 25 = .ok (.iastore, 1) := by decide +kernel
theorem dX5_queues_26 : decode cX5_queues 26 = .ok (.aload_n 0, 1) := by decide +kernel
theorem dX5_queues_27 : decode cX5_queues 27 = .ok (.iload_n 1, 1) := by decide +kernel
theorem dX5_queues_28 : decode cX5_queues 28 = .ok (.iconst 2, 1) := by decide +kernel
theorem dX5_queues_29 : decode cX5_queues 29 = .ok (.iadd, 1) := by decide +kernel
theorem dX5_queues_30 : decode cX5_queues 30 = .ok (.aload_n 0, 1) := by decide +kernel
theorem dX5_queues_31 : decode cX5_queues 31 = .ok (.bipush 26, 2) := by decide +kernel
theorem dX5_queues_33 : decode cX5_queues 33 = .ok (.aload_n 0, 1) := by decide +kernel
theorem dX5_queues_34 : decode cX5_queues 34 = .ok (.bipush 16, 2) := by decide +kernel
theorem dX5_queues_36 : decode cX5_queues 36 = .ok (.iaload, 1) := by decide +kernel
theorem dX5_queues_37 : decode cX5_queues 37 = .ok (.iadd, 1) := by decide +kernel
theorem dX5_queues_38 : decode cX5_queues 38 = .ok (.iaload, 1) := by decide +kernel
theorem dX5_queues_39 : decode cX5_queues 39 = .ok (.aload_n 0, 1) := by decide +kernel
theorem dX5_queues_40 : decode cX5_queues 40 = .ok (.bipush 8, 2) := by decide +kernel
theorem dX5_queues_42 : decode cX5_queues 42 = .ok (.iaload, 1) := by decide +kernel
theorem dX5_queues_43 : decode cX5_queues 43 = .ok (.aload_n 0, 1) := by decide +kernel
theorem dX5_queues_44 : decode cX5_queues 44 = .ok (.bipush 17, 2) := by decide +kernel
theorem dX5_queues_46 : decode cX5_queues 46 = .ok (.iaload, 1) := by decide +kernel
theorem dX5_queues_47 : decode cX5_queues 47 = .ok (.imul, 1) := by decide +kernel
theorem dX5_queues_48 : decode cX5_queues 48 = .ok (.iadd, 1) := by decide +kernel
theorem dX5_queues_49 : decode cX5_queues 49 = .ok (.sipush 256, 3) := by decide +kernel
theorem dX5_queues_52 : decode cX5_queues 52 = .ok (.irem, 1) := by decide +kernel
theorem dX5_queues_53 : decode cX5_queues 53 = .ok (.iastore, 1) := by decide +kernel
theorem dX5_queues_54 : decode cX5_queues 54 = .ok (.aload_n 0, 1) := by decide +kernel
theorem dX5_queues_55 : decode cX5_queues 55 = .ok (.iload_n 1, 1) := by decide +kernel
theorem dX5_queues_56 : decode cX5_queues 56 = .ok (.iconst 3, 1) := by decide +kernel
theorem dX5_queues_57 : decode cX5_queues 57 = .ok (.iadd, 1) := by decide +kernel
theorem dX5_queues_58 : decode cX5_queues 58 = .ok (.iconst 0, 1) := by decide +kernel
theorem dX5_queues_59 : decode cX5_queues 59 = .ok (.iastore, 1) := by decide +kernel
theorem dX5_queues_60 : decode cX5_queues 60 = .ok (.aload_n 0, 1) := by decide +kernel
theorem dX5_queues_61 : decode cX5_queues 61 = .ok (.bipush 10, 2) := by decide +kernel
theorem dX5_queues_63 : decode cX5_queues 63 = .ok (.dup2, 1) := by decide +kernel
theorem dX5_queues_64 : decode cX5_queues 64 = .ok (.iaload, 1) := by decide +kernel
theorem dX5_queues_65 : decode cX5_queues 65 = .ok (.iconst 1, 1) := by decide +kernel
theorem dX5_queues_66 : decode cX5_queues 66 = .ok (.iadd, 1) := by decide +kernel
theorem dX5_queues_67 : decode cX5_queues 67 = .ok (.iastore, 1) := by decide +kernel
theorem dX5_queues_68 : decode cX5_queues 68 = .ok (.return_, 1) := by decide +kernel
set_option maxRecDepth 20000 in
theorem ggX5_firstFresh_X5_of : GoodIn wsX5_firstFresh wsX5_of := goodIn_r _ [4] (by decide +kernel) (by decide +kernel)
set_option maxRecDepth 20000 in
theorem gX5_firstFresh_X5_of : GoodIn wsX5_firstFresh (va_wsS RX5 47 yX5_of wsX5_of) := goodIn_app (goodIn_of _ (by decide +kernel)) ggX5_firstFresh_X5_of
theorem dX5_firstFresh_0 : decode cX5_firstFresh 0 = .ok (.iconst 0, 1) := by decide +kernel
theorem dX5_firstFresh_1 : decode cX5_firstFresh 1 = .ok (.istore_n 1, 1) := by decide +kernel
theorem dX5_firstFresh_2 : decode cX5_firstFresh 2 = .ok (.iload_n 1, 1) := by decide +kernel
theorem dX5_firstFresh_3 : decode cX5_firstFresh 3 = .ok (.aload_n 0, 1) := by decide +kernel
theorem dX5_firstFresh_4 : decode cX5_firstFresh 4 = .ok (.bipush 10, 2) := by decide +kernel
theorem dX5_firstFresh_6 : decode cX5_firstFresh 6 = .ok (.iaload, 1) := by decide +kernel
theorem dX5_firstFresh_7 : decode cX5_firstFresh 7 = .ok (.if_icmp .ge 20, 3) := by decide +kernel
theorem dX5_firstFresh_10 : decode cX5_firstFresh 10 = .ok (.aload_n 0, 1) := by decide +kernel
theorem dX5_firstFresh_11 : decode cX5_firstFresh 11 = .ok (.iload_n 1, 1) := by decide +kernel
theorem dX5_firstFresh_12 : decode cX5_firstFresh 12 = .ok (.iconst 3, 1) := by decide +kernel
theorem dX5_firstFresh_13 : decode cX5_firstFresh 13 = .ok (.invokestatic 47, 3) := by decide +kernel
theorem dX5_firstFresh_16 : decode cX5_firstFresh 16 = .ok (.ifCond .ne 5, 3) := by decide +kernel
theorem dX5_firstFresh_19 : decode cX5_firstFresh 19 = .ok (.iload_n 1, 1) := by decide +kernel
theorem dX5_firstFresh_20 : decode cX5_firstFresh 20 = .ok (.ireturn, 1) := by decide +kernel
theorem dX5_firstFresh_21 : decode cX5_firstFresh 21 = .ok (.iinc 1 1, 3) := by decide +kernel
theorem dX5_firstFresh_24 : decode cX5_firstFresh 24 = .ok (.goto (-22), 3) := by decide +kernel
theorem dX5_firstFresh_27 : decode cX5_firstFresh 27 = .ok (.bipush (-6), 2) := by decide +kernel
theorem dX5_firstFresh_29 : decode cX5_firstFresh 29 = .ok (.ireturn, 1) := by decide +kernel
set_option maxRecDepth 20000 in
theorem ggX5_comes_X5_firstFresh : GoodIn wsX5_comes wsX5_firstFresh := goodIn_r _ [4, 5, 6, 3, 7] (by decide +kernel) (by decide +kernel)
set_option maxRecDepth 20000 in
theorem gX5_comes_X5_firstFresh : GoodIn wsX5_comes (va_wsS RX5 59 yX5_firstFresh wsX5_firstFresh) := goodIn_app (goodIn_of _ (by decide +kernel)) ggX5_comes_X5_firstFresh
set_option maxRecDepth 20000 in
theorem ggX5_comes_X5_queues : GoodIn wsX5_comes wsX5_queues := goodIn_r _ [10] (by decide +kernel) (by decide +kernel)
set_option maxRecDepth 20000 in
theorem gX5_comes_X5_queues : GoodIn wsX5_comes (va_wsS RX5 63 yX5_queues wsX5_queues) := goodIn_app (goodIn_of _ (by decide +kernel)) ggX5_comes_X5_queues
set_option maxRecDepth 20000 in
theorem ggX5_comes_X5_misses : GoodIn wsX5_comes wsX5_misses := goodIn_r _ [13] (by decide +kernel) (by decide +kernel)
set_option maxRecDepth 20000 in
theorem gX5_comes_X5_misses : GoodIn wsX5_comes (va_wsS RX5 51 yX5_misses wsX5_misses) := goodIn_app (goodIn_of _ (by decide +kernel)) ggX5_comes_X5_misses
set_option maxRecDepth 20000 in
theorem ggX5_comes_X5_loses : GoodIn wsX5_comes wsX5_loses := goodIn_r _ [16, 5, 6, 3, 7, 11, 12, 13, 17, 18, 19] (by decide +kernel) (by decide +kernel)
set_option maxRecDepth 20000 in
theorem gX5_comes_X5_loses : GoodIn wsX5_comes (va_wsS RX5 67 yX5_loses wsX5_loses) := goodIn_app (goodIn_of _ (by decide +kernel)) ggX5_comes_X5_loses
theorem dX5_comes_0 : decode cX5_comes 0 = .ok (.aload_n 0, 1) := by decide +kernel
theorem dX5_comes_1 : decode cX5_comes 1 = .ok (.bipush 9, 2) := by decide +kernel
theorem dX5_comes_3 : decode cX5_comes 3 = .ok (.dup2, 1) := by decide +kernel
theorem dX5_comes_4 : decode cX5_comes 4 = .ok (.iaload, 1) := by decide +kernel
theorem dX5_comes_5 : decode cX5_comes 5 = .ok (.iconst 1, 1) := by decide +kernel
theorem dX5_comes_6 : decode cX5_comes 6 = .ok (.iadd, 1) := by decide +kernel
theorem dX5_comes_7 : decode cX5_comes 7 = .ok (.iastore, 1) := by decide +kernel
theorem dX5_comes_8 : decode cX5_comes 8 = .ok (.aload_n 0, 1) := by decide +kernel
theorem dX5_comes_9 : decode cX5_comes 9 = .ok (.iconst 5, 1) := by decide +kernel
theorem dX5_comes_10 : decode cX5_comes 10 = .ok (.iaload, 1) := by decide +kernel
theorem dX5_comes_11 : decode cX5_comes 11 = .ok (.iconst 1, 1) := by decide +kernel
theorem dX5_comes_12 : decode cX5_comes 12 = .ok (.if_icmp .ne 10, 3) := by decide +kernel
theorem dX5_comes_15 : decode cX5_comes 15 = .ok (.aload_n 0, 1) := by decide +kernel
theorem dX5_comes_16 : decode cX5_comes 16 = .ok (.invokestatic 59, 3) := by decide +kernel
theorem dX5_comes_19 : decode cX5_comes 19 = .ok (.goto 5, 3) := by decide +kernel
theorem dX5_comes_22 : decode cX5_comes 22 = .ok (.bipush (-6), 2) := by decide +kernel
theorem dX5_comes_24 : decode cX5_comes 24 = .ok (.istore_n 1, 1) := by decide +kernel
theorem dX5_comes_25 : decode cX5_comes 25 = .ok (.aload_n 0, 1) := by decide +kernel
theorem dX5_comes_26 : decode cX5_comes 26 = .ok (.bipush 10, 2) := by decide +kernel
theorem dX5_comes_28 : decode cX5_comes 28 = .ok (.iaload, 1) := by decide +kernel
theorem dX5_comes_29 : decode cX5_comes 29 = .ok (.aload_n 0, 1) := by decide +kernel
theorem dX5_comes_30 : decode cX5_comes 30 = .ok (.iconst 3, 1) := by decide +kernel
theorem dX5_comes_31 : decode cX5_comes 31 = .ok (.iaload, 1) := by decide +kernel
theorem dX5_comes_32 : decode cX5_comes 32 = .ok (.if_icmp .ge 10, 3) := by decide +kernel
theorem dX5_comes_35 : decode cX5_comes 35 = .ok (.aload_n 0, 1) := by decide +kernel
theorem dX5_comes_36 : decode cX5_comes 36 = .ok (.invokestatic 63, 3) := by decide +kernel
theorem dX5_comes_39 : decode cX5_comes 39 = .ok (.goto 35, 3) := by decide +kernel
theorem dX5_comes_42 : decode cX5_comes 42 = .ok (.iload_n 1, 1) := by decide +kernel
theorem dX5_comes_43 : decode cX5_comes 43 = .ok (.bipush (-6), 2) := by decide +kernel
theorem dX5_comes_45 : decode cX5_comes 45 = .ok (.if_icmp .ne 19, 3) := by decide +kernel
theorem dX5_comes_48 : decode cX5_comes 48 = .ok (.aload_n 0, 1) := by decide +kernel
theorem dX5_comes_49 : decode cX5_comes 49 = .ok (.aload_n 0, 1) := by decide +kernel
theorem dX5_comes_50 : decode cX5_comes 50 = .ok (.bipush 17, 2) := by decide +kernel
theorem dX5_comes_52 : decode cX5_comes 52 = .ok (.iaload, 1) := by decide +kernel
theorem dX5_comes_53 : decode cX5_comes 53 = .ok (.aload_n 0, 1) := by decide +kernel
theorem dX5_comes_54 : decode cX5_comes 54 = .ok (.bipush 16, 2) := by decide +kernel
theorem dX5_comes_56 : decode cX5_comes 56 = .ok (.iaload, 1) := by decide +kernel
theorem dX5_comes_57 : decode cX5_comes 57 = .ok (.iconst 0, 1) := by decide +kernel
theorem dX5_comes_58 : decode cX5_comes 58 = .ok (.invokestatic 51, 3) := by decide +kernel
theorem dX5_comes_61 : decode cX5_comes 61 = .ok (.goto 13, 3) := by decide +kernel
theorem dX5_comes_64 : decode cX5_comes 64 = .ok (.aload_n 0, 1) := by decide +kernel
theorem dX5_comes_65 : decode cX5_comes 65 = .ok (.iload_n 1, 1) := by decide +kernel
theorem dX5_comes_66 : decode cX5_comes 66 = .ok (.iconst 1, 1) := by decide +kernel
theorem dX5_comes_67 : decode cX5_comes 67 = .ok (.invokestatic 67, 3) := by decide +kernel
theorem dX5_comes_70 : decode cX5_comes 70 = .ok (.aload_n 0, 1) := by decide +kernel
theorem dX5_comes_71 : decode cX5_comes 71 = .ok (.invokestatic 63, 3) := by decide +kernel
theorem dX5_comes_74 : decode cX5_comes 74 = .ok (.aload_n 0, 1) := by decide +kernel
theorem dX5_comes_75 : decode cX5_comes 75 = .ok (.bipush 16, 2) := by decide +kernel
theorem dX5_comes_77 : decode cX5_comes 77 = .ok (.dup2, 1) := by decide +kernel
theorem dX5_comes_78 : decode cX5_comes 78 = .ok (.iaload, 1) := by decide +kernel
theorem dX5_comes_79 : decode cX5_comes 79 = .ok (.iconst 1, 1) := by decide +kernel
theorem dX5_comes_80 : decode cX5_comes 80 = .ok (.iadd, 1) := by decide +kernel
theorem dX5_comes_81 : decode cX5_comes 81 = .ok (.iastore, 1) := by decide +kernel
theorem dX5_comes_82 : decode cX5_comes 82 = .ok (.aload_n 0, 1) := by decide +kernel
theorem dX5_comes_83 : decode cX5_comes 83 = .ok (.bipush 16, 2) := by decide +kernel
theorem dX5_comes_85 : decode cX5_comes 85 = .ok (.iaload, 1) := by decide +kernel
theorem dX5_comes_86 : decode cX5_comes 86 = .ok (.aload_n 0, 1) := by decide +kernel
theorem dX5_comes_87 : decode cX5_comes 87 = .ok (.iconst 4, 1) := by decide +kernel
theorem dX5_comes_88 : decode cX5_comes 88 = .ok (.iaload, 1) := by decide +kernel
theorem dX5_comes_89 : decode cX5_comes 89 = .ok (.if_icmp .lt 16, 3) := by decide +kernel
theorem dX5_comes_92 : decode cX5_comes 92 = .ok (.aload_n 0, 1) := by decide +kernel
theorem dX5_comes_93 : decode cX5_comes 93 = .ok (.bipush 16, 2) := by decide +kernel
theorem dX5_comes_95 : decode cX5_comes 95 = .ok (.iconst 0, 1) := by decide +kernel
theorem dX5_comes_96 : decode cX5_comes 96 = .ok (.iastore, 1) := by decide +kernel
theorem dX5_comes_97 : decode cX5_comes 97 = .ok (.aload_n 0, 1) := by decide +kernel
theorem dX5_comes_98 : decode cX5_comes 98 = .ok (.bipush 17, 2) := by decide +kernel
theorem dX5_comes_100 : decode cX5_comes 100 = .ok (.dup2, 1) := by decide +kernel
theorem dX5_comes_101 : decode cX5_comes 101 = .ok (.iaload, 1) := by decide +kernel
theorem dX5_comes_102 : decode cX5_comes 102 = .ok (.iconst 1, 1) := by decide +kernel
theorem dX5_comes_103 : decode cX5_comes 103 = .ok (.iadd, 1) := by decide +kernel
theorem dX5_comes_104 : decode cX5_comes 104 = .ok (.iastore, 1) := by decide +kernel
theorem dX5_comes_105 : decode cX5_comes 105 = .ok (.aload_n 0, 1) := by decide +kernel
theorem dX5_comes_106 : decode cX5_comes 106 = .ok (.bipush 18, 2) := by decide +kernel
theorem dX5_comes_108 : decode cX5_comes 108 = .ok (.dup2, 1) := by decide +kernel
theorem dX5_comes_109 : decode cX5_comes 109 = .ok (.iaload, 1) := by decide +kernel
theorem dX5_comes_110 : decode cX5_comes 110 = .ok (.aload_n 0, 1) := by decide +kernel
theorem dX5_comes_111 : decode cX5_comes 111 = .ok (.iconst 1, 1) := by decide +kernel
theorem dX5_comes_112 : decode cX5_comes 112 = .ok (.iaload, 1) := by decide +kernel
theorem dX5_comes_113 : decode cX5_comes 113 = .ok (.iadd, 1) := by decide +kernel
theorem dX5_comes_114 : decode cX5_comes 114 = .ok (.iastore, 1) := by decide +kernel
theorem dX5_comes_115 : decode cX5_comes 115 = .ok (.return_, 1) := by decide +kernel
set_option maxRecDepth 20000 in
theorem ggX5_isBegin_X5_of : GoodIn wsX5_isBegin wsX5_of := goodIn_r _ [4] (by decide +kernel) (by decide +kernel)
set_option maxRecDepth 20000 in
theorem gX5_isBegin_X5_of : GoodIn wsX5_isBegin (va_wsS RX5 47 yX5_of wsX5_of) := goodIn_app (goodIn_of _ (by decide +kernel)) ggX5_isBegin_X5_of
theorem dX5_isBegin_0 : decode cX5_isBegin 0 = .ok (.aload_n 0, 1) := by decide +kernel
theorem dX5_isBegin_1 : decode cX5_isBegin 1 = .ok (.iconst 0, 1) := by decide +kernel
theorem dX5_isBegin_2 : decode cX5_isBegin 2 = .ok (.iconst 1, 1) := by decide +kernel
theorem dX5_isBegin_3 : decode cX5_isBegin 3 = .ok (.invokestatic 47, 3) := by decide +kernel
theorem dX5_isBegin_6 : decode cX5_isBegin 6 = .ok (.ifCond .ne 16, 3) := by decide +kernel
theorem dX5_isBegin_9 : decode cX5_isBegin 9 = .ok (.aload_n 0, 1) := by decide +kernel
theorem dX5_isBegin_10 : decode cX5_isBegin 10 = .ok (.iconst 0, 1) := by decide +kernel
theorem dX5_isBegin_11 : decode cX5_isBegin 11 = .ok (.iconst 3, 1) := by decide +kernel
theorem dX5_isBegin_12 : decode cX5_isBegin 12 = .ok (.invokestatic 47, 3) := by decide +kernel
theorem dX5_isBegin_15 : decode cX5_isBegin 15 = .ok (.ifCond .ne 7, 3) := by decide +kernel
theorem dX5_isBegin_18 : decode cX5_isBegin 18 = .ok (.iconst 1, 1) := by decide +kernel
theorem dX5_isBegin_19 : decode cX5_isBegin 19 = .ok (.goto 4, 3) := by decide +kernel
theorem dX5_isBegin_22 : decode cX5_isBegin 22 = .ok (.iconst 0, 1) := by decide +kernel
theorem dX5_isBegin_23 : decode cX5_isBegin 23 = .ok (.ireturn, 1) := by decide +kernel
theorem dX5_judged_0 : decode cX5_judged 0 = .ok (.iconst 0, 1) := by decide +kernel
theorem dX5_judged_1 : decode cX5_judged 1 = .ok (.istore_n 1, 1) := by decide +kernel
theorem dX5_judged_2 : decode cX5_judged 2 = .ok (.iconst 1, 1) := by decide +kernel
theorem dX5_judged_3 : decode cX5_judged 3 = .ok (.istore_n 2, 1) := by decide +kernel
theorem dX5_judged_4 : decode cX5_judged 4 = .ok (.iconst 0, 1) := by decide +kernel
theorem dX5_judged_5 : decode cX5_judged 5 = .ok (.istore_n 3, 1) := by decide +kernel
theorem dX5_judged_6 : decode cX5_judged 6 = .ok (.iload_n 3, 1) := by decide +kernel
theorem dX5_judged_7 : decode cX5_judged 7 = .ok (.iconst 2, 1) := by decide +kernel
theorem dX5_judged_8 : decode cX5_judged 8 = .ok (.aload_n 0, 1) := by decide +kernel
theorem dX5_judged_9 : decode cX5_judged 9 = .ok (.iconst 4, 1) := by decide +kernel
theorem dX5_judged_10 : decode cX5_judged 10 = .ok (.iaload, 1) := by decide +kernel
theorem dX5_judged_11 : decode cX5_judged 11 = .ok (.imul, 1) := by decide +kernel
theorem dX5_judged_12 : decode cX5_judged 12 = .ok (.if_icmp .ge 77, 3) := by decide +kernel
theorem dX5_judged_15 : decode cX5_judged 15 = .ok (.iload_n 1, 1) := by decide +kernel
theorem dX5_judged_16 : decode cX5_judged 16 = .ok (.ifCond .ne 18, 3) := by decide +kernel
theorem dX5_judged_19 : decode cX5_judged 19 = .ok (.aload_n 0, 1) := by decide +kernel
theorem dX5_judged_20 : decode cX5_judged 20 = .ok (.bipush 106, 2) := by decide +kernel
theorem dX5_judged_22 : decode cX5_judged 22 = .ok (.iconst 3, 1) := by decide +kernel
theorem dX5_judged_23 : decode cX5_judged 23 = .ok (.iload_n 3, 1) := by decide +kernel
theorem dX5_judged_24 : decode cX5_judged 24 = .ok (.imul, 1) := by decide +kernel
theorem dX5_judged_25 : decode cX5_judged 25 = .ok (.iadd, 1) := by decide +kernel
theorem dX5_judged_26 : decode cX5_judged 26 = .ok (.iconst 1, 1) := by decide +kernel
theorem dX5_judged_27 : decode cX5_judged 27 = .ok (.iadd, 1) := by decide +kernel
theorem dX5_judged_28 : decode cX5_judged 28 = .ok (.iaload, 1) := by decide +kernel
theorem dX5_judged_29 : decode cX5_judged 29 = .ok (.bipush (-6), 2) := by decide +kernel
theorem dX5_judged_31 : decode cX5_judged 31 = .ok (.if_icmp .ne 7, 3) := by decide +kernel
theorem dX5_judged_34 : decode cX5_judged 34 = .ok (.iconst 1, 1) := by decide +kernel
theorem dX5_judged_35 : decode cX5_judged 35 = .ok (.goto 4, 3) := by decide +kernel
theorem dX5_judged_38 : decode cX5_judged 38 = .ok (.iconst 0, 1) := by decide +kernel
theorem dX5_judged_39 : decode cX5_judged 39 = .ok (.istore_n 1, 1) := by decide +kernel
theorem dX5_judged_40 : decode cX5_judged 40 = .ok (.iload_n 2, 1) := by decide +kernel
theorem dX5_judged_41 : decode cX5_judged 41 = .ok (.ifCond .eq 40, 3) := by decide +kernel
theorem dX5_judged_44 : decode cX5_judged 44 = .ok (.aload_n 0, 1) := by decide +kernel
theorem dX5_judged_45 : decode cX5_judged 45 = .ok (.bipush 106, 2) := by decide +kernel
theorem dX5_judged_47 : decode cX5_judged 47 = .ok (.iconst 3, 1) := by decide +kernel
theorem dX5_judged_48 : decode cX5_judged 48 = .ok (.iload_n 3, 1) := by decide +kernel
theorem dX5_judged_49 : decode cX5_judged 49 = .ok (.imul, 1) := by decide +kernel
theorem dX5_judged_50 : decode cX5_judged 50 = .ok (.iadd, 1) := by decide +kernel
theorem dX5_judged_51 : decode cX5_judged 51 = .ok (.iconst 1, 1) := by decide +kernel
theorem dX5_judged_52 : decode cX5_judged 52 = .ok (.iadd, 1) := by decide +kernel
theorem dX5_judged_53 : decode cX5_judged 53 = .ok (.iaload, 1) := by decide +kernel
theorem dX5_judged_54 : decode cX5_judged 54 = .ok (.aload_n 0, 1) := by decide +kernel
theorem dX5_judged_55 : decode cX5_judged 55 = .ok (.bipush 107, 2) := by decide +kernel
theorem dX5_judged_57 : decode cX5_judged 57 = .ok (.iaload, 1) := by decide +kernel
theorem dX5_judged_58 : decode cX5_judged 58 = .ok (.if_icmp .ne 23, 3) := by decide +kernel
theorem dX5_judged_61 : decode cX5_judged 61 = .ok (.aload_n 0, 1) := by decide +kernel
theorem dX5_judged_62 : decode cX5_judged 62 = .ok (.bipush 106, 2) := by decide +kernel
theorem dX5_judged_64 : decode cX5_judged 64 = .ok (.iconst 3, 1) := by decide +kernel
theorem dX5_judged_65 : decode cX5_judged 65 = .ok (.iload_n 3, 1) := by decide +kernel
theorem dX5_judged_66 : decode cX5_judged 66 = .ok (.imul, 1) := by decide +kernel
theorem dX5_judged_67 : decode cX5_judged 67 = .ok (.iadd, 1) := by decide +kernel
theorem dX5_judged_68 : decode cX5_judged 68 = .ok (.iconst 2, 1) := by decide +kernel
theorem dX5_judged_69 : decode cX5_judged 69 = .ok (.iadd, 1) := by decide +kernel
theorem dX5_judged_70 : decode cX5_judged 70 = .ok (.iaload, 1) := by decide +kernel
theorem dX5_judged_71 : decode cX5_judged 71 = .ok (.iload_n 3, 1) := by decide +kernel
theorem dX5_judged_72 : decode cX5_judged 72 = .ok (.iconst 2, 1) := by decide +kernel
theorem dX5_judged_73 : decode cX5_judged 73 = .ok (.idiv, 1) := by decide +kernel
theorem dX5_judged_74 : decode cX5_judged 74 = .ok (.if_icmp .ne 7, 3) := by decide +kernel
theorem dX5_judged_77 : decode cX5_judged 77 = .ok (.iconst 1, 1) := by decide +kernel
theorem dX5_judged_78 : decode cX5_judged 78 = .ok (.goto 4, 3) := by decide +kernel
theorem dX5_judged_81 : decode cX5_judged 81 = .ok (.iconst 0, 1) := by decide +kernel
theorem dX5_judged_82 : decode cX5_judged 82 = .ok (.istore_n 2, 1) := by decide +kernel
theorem dX5_judged_83 : decode cX5_judged 83 = .ok (.iinc 3 1, 3) := by decide +kernel
theorem dX5_judged_86 : decode cX5_judged 86 = .ok (.goto (-80), 3) := by decide +kernel
theorem dX5_judged_89 : decode cX5_judged 89 = .ok (.iload_n 1, 1) := by decide +kernel
theorem dX5_judged_90 : decode cX5_judged 90 = .ok (.ifCond .eq 7, 3) := by decide +kernel
theorem dX5_judged_93 : decode cX5_judged 93 = .ok (.iconst 2, 1) := by decide +kernel
theorem dX5_judged_94 : decode cX5_judged 94 = .ok (.goto 12, 3) := by decide +kernel
theorem dX5_judged_97 : decode cX5_judged 97 = .ok (.iload_n 2, 1) := by decide +kernel
theorem dX5_judged_98 : decode cX5_judged 98 = .ok (.ifCond .eq 7, 3) := by decide +kernel
theorem dX5_judged_101 : decode cX5_judged 101 = .ok (.iconst 0, 1) := by decide +kernel
theorem dX5_judged_102 : decode cX5_judged 102 = .ok (.goto 4, 3) := by decide +kernel
theorem dX5_judged_105 : decode cX5_judged 105 = .ok (.iconst 1, 1) := by decide +kernel
theorem dX5_judged_106 : decode cX5_judged 106 = .ok (.ireturn, 1) := by decide +kernel
set_option maxRecDepth 20000 in
theorem ggX5_goesOut_X5_isBegin : GoodIn wsX5_goesOut wsX5_isBegin := goodIn_r _ [4, 5, 6, 3, 7] (by decide +kernel) (by decide +kernel)
set_option maxRecDepth 20000 in
theorem gX5_goesOut_X5_isBegin : GoodIn wsX5_goesOut (va_wsS RX5 71 yX5_isBegin wsX5_isBegin) := goodIn_app (goodIn_of _ (by decide +kernel)) ggX5_goesOut_X5_isBegin
set_option maxRecDepth 20000 in
theorem ggX5_goesOut_X5_loses : GoodIn wsX5_goesOut wsX5_loses := goodIn_r _ [10, 5, 6, 3, 7, 11, 12, 13, 14, 15, 16] (by decide +kernel) (by decide +kernel)
set_option maxRecDepth 20000 in
theorem gX5_goesOut_X5_loses : GoodIn wsX5_goesOut (va_wsS RX5 67 yX5_loses wsX5_loses) := goodIn_app (goodIn_of _ (by decide +kernel)) ggX5_goesOut_X5_loses
set_option maxRecDepth 20000 in
theorem ggX5_goesOut_X5_of : GoodIn wsX5_goesOut wsX5_of := goodIn_r _ [7] (by decide +kernel) (by decide +kernel)
set_option maxRecDepth 20000 in
theorem gX5_goesOut_X5_of : GoodIn wsX5_goesOut (va_wsS RX5 47 yX5_of wsX5_of) := goodIn_app (goodIn_of _ (by decide +kernel)) ggX5_goesOut_X5_of
set_option maxRecDepth 20000 in
theorem ggX5_goesOut_X5_leaves : GoodIn wsX5_goesOut wsX5_leaves := goodIn_r _ [16] (by decide +kernel) (by decide +kernel)
set_option maxRecDepth 20000 in
theorem gX5_goesOut_X5_leaves : GoodIn wsX5_goesOut (va_wsS RX5 55 yX5_leaves wsX5_leaves) := goodIn_app (goodIn_of _ (by decide +kernel)) ggX5_goesOut_X5_leaves
set_option maxRecDepth 20000 in
theorem ggX5_goesOut_X5_judged : GoodIn wsX5_goesOut wsX5_judged := goodIn_r _ [19] (by decide +kernel) (by decide +kernel)
set_option maxRecDepth 20000 in
theorem gX5_goesOut_X5_judged : GoodIn wsX5_goesOut (va_wsS RX5 75 yX5_judged wsX5_judged) := goodIn_app (goodIn_of _ (by decide +kernel)) ggX5_goesOut_X5_judged
theorem dX5_goesOut_0 : decode cX5_goesOut 0 = .ok (.aload_n 0, 1) := by decide +kernel
theorem dX5_goesOut_1 : decode cX5_goesOut 1 = .ok (.bipush 15, 2) := by decide +kernel
theorem dX5_goesOut_3 : decode cX5_goesOut 3 = .ok (.iaload, 1) := by decide +kernel
theorem dX5_goesOut_4 : decode cX5_goesOut 4 = .ok (.istore_n 1, 1) := by decide +kernel
theorem dX5_goesOut_5 : decode cX5_goesOut 5 = .ok (.aload_n 0, 1) := by decide +kernel
theorem dX5_goesOut_6 : decode cX5_goesOut 6 = .ok (.bipush 6, 2) := by decide +kernel
theorem dX5_goesOut_8 : decode cX5_goesOut 8 = .ok (.iaload, 1) := by decide +kernel
theorem dX5_goesOut_9 : decode cX5_goesOut 9 = .ok (.iconst 1, 1) := by decide +kernel
theorem dX5_goesOut_10 : decode cX5_goesOut 10 = .ok (.if_icmp .ne 30, 3) := by decide +kernel
theorem dX5_goesOut_13 : decode cX5_goesOut 13 = .ok (.iload_n 1, 1) := by decide +kernel
theorem dX5_goesOut_14 : decode cX5_goesOut 14 = .ok (.ifCond .ne 26, 3) := by decide +kernel
theorem dX5_goesOut_17 : decode cX5_goesOut 17 = .ok (.aload_n 0, 1) := by decide +kernel
theorem dX5_goesOut_18 : decode cX5_goesOut 18 = .ok (.bipush 10, 2) := by decide +kernel
theorem dX5_goesOut_20 : decode cX5_goesOut 20 = .ok (.iaload, 1) := by decide +kernel
theorem dX5_goesOut_21 : decode cX5_goesOut 21 = .ok (.ifCond .le 19, 3) := by decide +kernel
theorem dX5_goesOut_24 : decode cX5_goesOut 24 = .ok (.aload_n 0, 1) := by decide +kernel
theorem dX5_goesOut_25 : decode cX5_goesOut 25 = .ok (.invokestatic 71, 3) := by decide +kernel
theorem dX5_goesOut_28 : decode cX5_goesOut 28 = .ok (.ifCond .ne 12, 3) := by decide +kernel
theorem dX5_goesOut_31 : decode cX5_goesOut 31 = .ok (.aload_n 0, 1) := by decide +kernel
theorem dX5_goesOut_32 : decode cX5_goesOut 32 = .ok (.iconst 0, 1) := by decide +kernel
theorem dX5_goesOut_33 : decode cX5_goesOut 33 = .ok (.iconst 2, 1) := by decide +kernel
theorem dX5_goesOut_34 : decode cX5_goesOut 34 = .ok (.invokestatic 67, 3) := by decide +kernel
theorem dX5_goesOut_37 : decode cX5_goesOut 37 = .ok (.goto (-32), 3) := by decide +kernel
theorem dX5_goesOut_40 : decode cX5_goesOut 40 = .ok (.aload_n 0, 1) := by decide +kernel
theorem dX5_goesOut_41 : decode cX5_goesOut 41 = .ok (.bipush 10, 2) := by decide +kernel
theorem dX5_goesOut_43 : decode cX5_goesOut 43 = .ok (.iaload, 1) := by decide +kernel
theorem dX5_goesOut_44 : decode cX5_goesOut 44 = .ok (.ifCond .le 7, 3) := by decide +kernel
theorem dX5_goesOut_47 : decode cX5_goesOut 47 = .ok (.iconst 1, 1) := by decide +kernel
theorem dX5_goesOut_48 : decode cX5_goesOut 48 = .ok (.goto 4, 3) := by decide +kernel
theorem dX5_goesOut_51 : decode cX5_goesOut 51 = .ok (.iconst 0, 1) := by decide +kernel
theorem dX5_goesOut_52 : decode cX5_goesOut 52 = .ok (.istore_n 2, 1) := by decide +kernel
theorem dX5_goesOut_53 : decode cX5_goesOut 53 = .ok (.aload_n 0, 1) := by decide +kernel
theorem dX5_goesOut_54 : decode cX5_goesOut 54 = .ok (.bipush 106, 2) := by decide +kernel
theorem dX5_goesOut_56 : decode cX5_goesOut 56 = .ok (.iconst 3, 1) := by decide +kernel
theorem dX5_goesOut_57 : decode cX5_goesOut 57 = .ok (.iload_n 1, 1) := by decide +kernel
theorem dX5_goesOut_58 : decode cX5_goesOut 58 = .ok (.imul, 1) := by decide +kernel
theorem dX5_goesOut_59 : decode cX5_goesOut 59 = .ok (.iadd, 1) := by decide +kernel
theorem dX5_goesOut_60 : decode cX5_goesOut 60 = .ok (.iload_n 2, 1) := by decide +kernel
theorem dX5_goesOut_61 : decode cX5_goesOut 61 = .ok (.ifCond .eq 12, 3) := by decide +kernel
theorem dX5_goesOut_64 : decode cX5_goesOut 64 = .ok (.aload_n 0, 1) := by decide +kernel
theorem dX5_goesOut_65 : decode cX5_goesOut 65 = .ok (.iconst 0, 1) := by decide +kernel
theorem dX5_goesOut_66 : decode cX5_goesOut 66 = .ok (.iconst 2, 1) := by decide +kernel
theorem dX5_goesOut_67 : decode cX5_goesOut 67 = .ok (.invokestatic 47, 3) := by decide +kernel
theorem dX5_goesOut_70 : decode cX5_goesOut 70 = .ok (.goto 7, 3) := by decide +kernel
theorem dX5_goesOut_73 : decode cX5_goesOut 73 = .ok (.aload_n 0, 1) := by decide +kernel
theorem dX5_goesOut_74 : decode cX5_goesOut 74 = .ok (.bipush 7, 2) := by decide +kernel
theorem dX5_goesOut_76 : decode cX5_goesOut 76 = .ok (.iaload, 1) := by decide +kernel
theorem dX5_goesOut_77 : decode cX5_goesOut 77 = .ok (.iastore, 1) := by decide +kernel
theorem dX5_goesOut_78 : decode cX5_goesOut 78 = .ok (.aload_n 0, 1) := by decide +kernel
theorem dX5_goesOut_79 : decode cX5_goesOut 79 = .ok (.bipush 106, 2) := by decide +kernel
theorem dX5_goesOut_81 : decode cX5_goesOut 81 = .ok (.iconst 3, 1) := by decide +kernel
theorem dX5_goesOut_82 : decode cX5_goesOut 82 = .ok (.iload_n 1, 1) := by decide +kernel
theorem dX5_goesOut_83 : decode cX5_goesOut 83 = .ok (.imul, 1) := by decide +kernel
theorem dX5_goesOut_84 : decode cX5_goesOut 84 = .ok (.iadd, 1) := by decide +kernel
theorem dX5_goesOut_85 : decode cX5_goesOut 85 = .ok (.iconst 1, 1) := by decide +kernel
theorem dX5_goesOut_86 : decode cX5_goesOut 86 = .ok (.iadd, 1) := by decide +kernel
theorem dX5_goesOut_87 : decode cX5_goesOut 87 = .ok (.iload_n 2, 1) := by decide +kernel
theorem dX5_goesOut_88 : decode cX5_goesOut 88 = .ok (.ifCond .eq 12, 3) := by decide +kernel
theorem dX5_goesOut_91 : decode cX5_goesOut 91 = .ok (.aload_n 0, 1) := by decide +kernel
theorem dX5_goesOut_92 : decode cX5_goesOut 92 = .ok (.iconst 0, 1) := by decide +kernel
theorem dX5_goesOut_93 : decode cX5_goesOut 93 = .ok (.iconst 0, 1) := by decide +kernel
theorem dX5_goesOut_94 : decode cX5_goesOut 94 = .ok (.invokestatic 47, 3) := by decide +kernel
theorem dX5_goesOut_97 : decode cX5_goesOut 97 = .ok (.goto 5, 3) := by decide +kernel
theorem dX5_goesOut_100 : decode cX5_goesOut 100 = .ok (.bipush (-6), 2) := by decide +kernel
theorem dX5_goesOut_102 : decode cX5_goesOut 102 = .ok (.iastore, 1) := by decide +kernel
theorem dX5_goesOut_103 : decode cX5_goesOut 103 = .ok (.aload_n 0, 1) := by decide +kernel
theorem dX5_goesOut_104 : decode cX5_goesOut 104 = .ok (.bipush 106, 2) := by decide +kernel
theorem dX5_goesOut_106 : decode cX5_goesOut 106 = .ok (.iconst 3, 1) := by decide +kernel
theorem dX5_goesOut_107 : decode cX5_goesOut 107 = .ok (.iload_n 1, 1) := by decide +kernel
theorem dX5_goesOut_108 : decode cX5_goesOut 108 = .ok (.imul, 1) := by decide +kernel
theorem dX5_goesOut_109 : decode cX5_goesOut 109 = .ok (.iadd, 1) := by decide +kernel
theorem dX5_goesOut_110 : decode cX5_goesOut 110 = .ok (.iconst 2, 1) := by decide +kernel
theorem dX5_goesOut_111 : decode cX5_goesOut 111 = .ok (.iadd, 1) := by decide +kernel
theorem dX5_goesOut_112 : decode cX5_goesOut 112 = .ok (.iload_n 2, 1) := by decide +kernel
theorem dX5_goesOut_113 : decode cX5_goesOut 113 = .ok (.ifCond .eq 12, 3) := by decide +kernel
theorem dX5_goesOut_116 : decode cX5_goesOut 116 = .ok (.aload_n 0, 1) := by decide +kernel
theorem dX5_goesOut_117 : decode cX5_goesOut 117 = .ok (.iconst 0, 1) := by decide +kernel
theorem dX5_goesOut_118 : decode cX5_goesOut 118 = .ok (.iconst 1, 1) := by decide +kernel
theorem dX5_goesOut_119 : decode cX5_goesOut 119 = .ok (.invokestatic 47, 3) := by decide +kernel
theorem dX5_goesOut_122 : decode cX5_goesOut 122 = .ok (.goto 5, 3) := by decide +kernel
theorem dX5_goesOut_125 : decode cX5_goesOut 125 = .ok (.bipush (-6), 2) := by decide +kernel
theorem dX5_goesOut_127 : decode cX5_goesOut 127 = .ok (.iastore, 1) := by decide +kernel
theorem dX5_goesOut_128 : decode cX5_goesOut 128 = .ok (.aload_n 0, 1) := by decide +kernel
theorem dX5_goesOut_129 : decode cX5_goesOut 129 = .ok (.bipush 13, 2) := by decide +kernel
theorem dX5_goesOut_131 : decode cX5_goesOut 131 = .ok (.dup2, 1) := by decide +kernel
theorem dX5_goesOut_132 : decode cX5_goesOut 132 = .ok (.iaload, 1) := by decide +kernel
theorem dX5_goesOut_133 : decode cX5_goesOut 133 = .ok (.iconst 1, 1) := by decide +kernel
theorem dX5_goesOut_134 : decode cX5_goesOut 134 = .ok (.iadd, 1) := by decide +kernel
theorem dX5_goesOut_135 : decode cX5_goesOut 135 = .ok (.iastore, 1) := by decide +kernel
theorem dX5_goesOut_136 : decode cX5_goesOut 136 = .ok (.aload_n 0, 1) := by decide +kernel
theorem dX5_goesOut_137 : decode cX5_goesOut 137 = .ok (.bipush 14, 2) := by decide +kernel
theorem dX5_goesOut_139 : decode cX5_goesOut 139 = .ok (.dup2, 1) := by decide +kernel
theorem dX5_goesOut_140 : decode cX5_goesOut 140 = .ok (.iaload, 1) := by decide +kernel
theorem dX5_goesOut_141 : decode cX5_goesOut 141 = .ok (.iload_n 2, 1) := by decide +kernel
theorem dX5_goesOut_142 : decode cX5_goesOut 142 = .ok (.ifCond .eq 7, 3) := by decide +kernel
theorem dX5_goesOut_145 : decode cX5_goesOut 145 = .ok (.iconst 0, 1) := by decide +kernel
theorem dX5_goesOut_146 : decode cX5_goesOut 146 = .ok (.goto 4, 3) := by decide +kernel
theorem dX5_goesOut_149 : decode cX5_goesOut 149 = .ok (.iconst 1, 1) := by decide +kernel
theorem dX5_goesOut_150 : decode cX5_goesOut 150 = .ok (.iadd, 1) := by decide +kernel
theorem dX5_goesOut_151 : decode cX5_goesOut 151 = .ok (.iastore, 1) := by decide +kernel
theorem dX5_goesOut_152 : decode cX5_goesOut 152 = .ok (.iload_n 2, 1) := by decide +kernel
theorem dX5_goesOut_153 : decode cX5_goesOut 153 = .ok (.ifCond .eq 32, 3) := by decide +kernel
theorem dX5_goesOut_156 : decode cX5_goesOut 156 = .ok (.aload_n 0, 1) := by decide +kernel
theorem dX5_goesOut_157 : decode cX5_goesOut 157 = .ok (.bipush 45, 2) := by decide +kernel
theorem dX5_goesOut_159 : decode cX5_goesOut 159 = .ok (.dup2, 1) := by decide +kernel
theorem dX5_goesOut_160 : decode cX5_goesOut 160 = .ok (.iaload, 1) := by decide +kernel
theorem dX5_goesOut_161 : decode cX5_goesOut 161 = .ok (.iconst 1, 1) := by decide +kernel
theorem dX5_goesOut_162 : decode cX5_goesOut 162 = .ok (.iadd, 1) := by decide +kernel
theorem dX5_goesOut_163 : decode cX5_goesOut 163 = .ok (.iastore, 1) := by decide +kernel
theorem dX5_goesOut_164 : decode cX5_goesOut 164 = .ok (.aload_n 0, 1) := by decide +kernel
theorem dX5_goesOut_165 : decode cX5_goesOut 165 = .ok (.bipush 45, 2) := by decide +kernel
theorem dX5_goesOut_167 : decode cX5_goesOut 167 = .ok (.iaload, 1) := by decide +kernel
theorem dX5_goesOut_168 : decode cX5_goesOut 168 = .ok (.iconst 2, 1) := by decide +kernel
theorem dX5_goesOut_169 : decode cX5_goesOut 169 = .ok (.if_icmp .ne 16, 3) := by decide +kernel
theorem dX5_goesOut_172 : decode cX5_goesOut 172 = .ok (.aload_n 0, 1) := by decide +kernel
theorem dX5_goesOut_173 : decode cX5_goesOut 173 = .ok (.bipush 11, 2) := by decide +kernel
theorem dX5_goesOut_175 : decode cX5_goesOut 175 = .ok (.dup2, 1) := by decide +kernel
theorem dX5_goesOut_176 : decode cX5_goesOut 176 = .ok (.iaload, 1) := by decide +kernel
theorem dX5_goesOut_177 : decode cX5_goesOut 177 = .ok (.iconst 1, 1) := by decide +kernel
theorem dX5_goesOut_178 : decode cX5_goesOut 178 = .ok (.iadd, 1) := by decide +kernel
theorem dX5_goesOut_179 : decode cX5_goesOut 179 = .ok (.iastore, 1) := by decide +kernel
theorem dX5_goesOut_180 : decode cX5_goesOut 180 = .ok (.aload_n 0, 1) := by decide +kernel
theorem dX5_goesOut_181 : decode cX5_goesOut 181 = .ok (.iconst 0, 1) := by decide +kernel
theorem dX5_goesOut_182 : decode cX5_goesOut 182 = .ok (.invokestatic 55, 3) := by decide +kernel
theorem dX5_goesOut_185 : decode cX5_goesOut 185 = .ok (.aload_n 0, 1) := by decide +kernel
theorem dX5_goesOut_186 : decode cX5_goesOut 186 = .ok (.bipush 15, 2) := by decide +kernel
theorem dX5_goesOut_188 : decode cX5_goesOut 188 = .ok (.dup2, 1) := by decide +kernel
theorem dX5_goesOut_189 : decode cX5_goesOut 189 = .ok (.iaload, 1) := by decide +kernel
theorem dX5_goesOut_190 : decode cX5_goesOut 190 = .ok (.iconst 1, 1) := by decide +kernel
theorem dX5_goesOut_191 : decode cX5_goesOut 191 = .ok (.iadd, 1) := by decide +kernel
theorem dX5_goesOut_192 : decode cX5_goesOut 192 = .ok (.iastore, 1) := by decide +kernel
theorem dX5_goesOut_193 : decode cX5_goesOut 193 = .ok (.aload_n 0, 1) := by decide +kernel
theorem dX5_goesOut_194 : decode cX5_goesOut 194 = .ok (.bipush 15, 2) := by decide +kernel
theorem dX5_goesOut_196 : decode cX5_goesOut 196 = .ok (.iaload, 1) := by decide +kernel
theorem dX5_goesOut_197 : decode cX5_goesOut 197 = .ok (.iconst 2, 1) := by decide +kernel
theorem dX5_goesOut_198 : decode cX5_goesOut 198 = .ok (.aload_n 0, 1) := by decide +kernel
theorem dX5_goesOut_199 : decode cX5_goesOut 199 = .ok (.iconst 4, 1) := by decide +kernel
theorem dX5_goesOut_200 : decode cX5_goesOut 200 = .ok (.iaload, 1) := by decide +kernel
theorem dX5_goesOut_201 : decode cX5_goesOut 201 = .ok (.imul, 1) := by decide +kernel
theorem dX5_goesOut_202 : decode cX5_goesOut 202 = .ok (.if_icmp .lt 29, 3) := by decide +kernel
theorem dX5_goesOut_205 : decode cX5_goesOut 205 = .ok (.aload_n 0, 1) := by decide +kernel
theorem dX5_goesOut_206 : decode cX5_goesOut 206 = .ok (.bipush 15, 2) := by decide +kernel
theorem dX5_goesOut_208 : decode cX5_goesOut 208 = .ok (.iconst 0, 1) := by decide +kernel
theorem dX5_goesOut_209 : decode cX5_goesOut 209 = .ok (.iastore, 1) := by decide +kernel
theorem dX5_goesOut_210 : decode cX5_goesOut 210 = .ok (.aload_n 0, 1) := by decide +kernel
theorem dX5_goesOut_211 : decode cX5_goesOut 211 = .ok (.bipush 23, 2) := by decide +kernel
theorem dX5_goesOut_213 : decode cX5_goesOut 213 = .ok (.aload_n 0, 1) := by decide +kernel
theorem dX5_goesOut_214 : decode cX5_goesOut 214 = .ok (.invokestatic 75, 3) := by decide +kernel
theorem dX5_goesOut_217 : decode cX5_goesOut 217 = .ok (.iastore, 1) := by decide +kernel
theorem dX5_goesOut_218 : decode cX5_goesOut 218 = .ok (.aload_n 0, 1) := by decide +kernel
theorem dX5_goesOut_219 : decode cX5_goesOut 219 = .ok (.bipush 20, 2) := by decide +kernel
theorem dX5_goesOut_221 : decode cX5_goesOut 221 = .ok (.aload_n 0, 1) := by decide +kernel
theorem dX5_goesOut_222 : decode cX5_goesOut 222 = .ok (.bipush 23, 2) := by decide +kernel
theorem dX5_goesOut_224 : decode cX5_goesOut 224 = .ok (.iaload, 1) := by decide +kernel
theorem dX5_goesOut_225 : decode cX5_goesOut 225 = .ok (.iadd, 1) := by decide +kernel
theorem dX5_goesOut_226 : decode cX5_goesOut 226 = .ok (.dup2, 1) := by decide +kernel
theorem dX5_goesOut_227 : decode cX5_goesOut 227 = .ok (.iaload, 1) := by decide +kernel
theorem dX5_goesOut_228 : decode cX5_goesOut 228 = .ok (.iconst 1, 1) := by decide +kernel
theorem dX5_goesOut_229 : decode cX5_goesOut 229 = .ok (.iadd, 1) := by decide +kernel
theorem dX5_goesOut_230 : decode cX5_goesOut 230 = .ok (.iastore, 1) := by decide +kernel
theorem dX5_goesOut_231 : decode cX5_goesOut 231 = .ok (.aload_n 0, 1) := by decide +kernel
theorem dX5_goesOut_232 : decode cX5_goesOut 232 = .ok (.bipush 19, 2) := by decide +kernel
theorem dX5_goesOut_234 : decode cX5_goesOut 234 = .ok (.dup2, 1) := by decide +kernel
theorem dX5_goesOut_235 : decode cX5_goesOut 235 = .ok (.iaload, 1) := by decide +kernel
theorem dX5_goesOut_236 : decode cX5_goesOut 236 = .ok (.aload_n 0, 1) := by decide +kernel
theorem dX5_goesOut_237 : decode cX5_goesOut 237 = .ok (.iconst 2, 1) := by decide +kernel
theorem dX5_goesOut_238 : decode cX5_goesOut 238 = .ok (.iaload, 1) := by decide +kernel
theorem dX5_goesOut_239 : decode cX5_goesOut 239 = .ok (.iadd, 1) := by decide +kernel
theorem dX5_goesOut_240 : decode cX5_goesOut 240 = .ok (.iastore, 1) := by decide +kernel
theorem dX5_goesOut_241 : decode cX5_goesOut 241 = .ok (.return_, 1) := by decide +kernel
set_option maxRecDepth 20000 in
theorem ggX5_ticks_X5_comes : GoodIn wsX5_ticks wsX5_comes := goodIn_r _ [4, 5, 6, 3, 7, 8, 9, 10, 11, 12, 13, 14, 15, 16, 17, 18, 19, 20, 21, 22] (by decide +kernel) (by decide +kernel)
set_option maxRecDepth 20000 in
theorem gX5_ticks_X5_comes : GoodIn wsX5_ticks (va_wsS RX5 78 yX5_comes wsX5_comes) := goodIn_app (goodIn_of _ (by decide +kernel)) ggX5_ticks_X5_comes
set_option maxRecDepth 20000 in
theorem ggX5_ticks_X5_goesOut : GoodIn wsX5_ticks wsX5_goesOut := goodIn_r _ [25, 26, 27, 3, 28, 8, 9, 10, 17, 18, 19, 14, 15, 16, 20, 21, 22, 29, 30, 31] (by decide +kernel) (by decide +kernel)
set_option maxRecDepth 20000 in
theorem gX5_ticks_X5_goesOut : GoodIn wsX5_ticks (va_wsS RX5 81 yX5_goesOut wsX5_goesOut) := goodIn_app (goodIn_of _ (by decide +kernel)) ggX5_ticks_X5_goesOut
theorem dX5_ticks_0 : decode cX5_ticks 0 = .ok (.aload_n 0, 1) := by decide +kernel
theorem dX5_ticks_1 : decode cX5_ticks 1 = .ok (.bipush 18, 2) := by decide +kernel
theorem dX5_ticks_3 : decode cX5_ticks 3 = .ok (.iaload, 1) := by decide +kernel
theorem dX5_ticks_4 : decode cX5_ticks 4 = .ok (.aload_n 0, 1) := by decide +kernel
theorem dX5_ticks_5 : decode cX5_ticks 5 = .ok (.iconst 0, 1) := by decide +kernel
theorem dX5_ticks_6 : decode cX5_ticks 6 = .ok (.iaload, 1) := by decide +kernel
theorem dX5_ticks_7 : decode cX5_ticks 7 = .ok (.if_icmp .ne 7, 3) := by decide +kernel
theorem dX5_ticks_10 : decode cX5_ticks 10 = .ok (.aload_n 0, 1) := by decide +kernel
theorem dX5_ticks_11 : decode cX5_ticks 11 = .ok (.invokestatic 78, 3) := by decide +kernel
theorem dX5_ticks_14 : decode cX5_ticks 14 = .ok (.aload_n 0, 1) := by decide +kernel
theorem dX5_ticks_15 : decode cX5_ticks 15 = .ok (.bipush 19, 2) := by decide +kernel
theorem dX5_ticks_17 : decode cX5_ticks 17 = .ok (.iaload, 1) := by decide +kernel
theorem dX5_ticks_18 : decode cX5_ticks 18 = .ok (.aload_n 0, 1) := by decide +kernel
theorem dX5_ticks_19 : decode cX5_ticks 19 = .ok (.iconst 0, 1) := by decide +kernel
theorem dX5_ticks_20 : decode cX5_ticks 20 = .ok (.iaload, 1) := by decide +kernel
theorem dX5_ticks_21 : decode cX5_ticks 21 = .ok (.if_icmp .ne 7, 3) := by decide +kernel
theorem dX5_ticks_24 : decode cX5_ticks 24 = .ok (.aload_n 0, 1) := by decide +kernel
theorem dX5_ticks_25 : decode cX5_ticks 25 = .ok (.invokestatic 81, 3) := by decide +kernel
theorem dX5_ticks_28 : decode cX5_ticks 28 = .ok (.aload_n 0, 1) := by decide +kernel
theorem dX5_ticks_29 : decode cX5_ticks 29 = .ok (.iconst 0, 1) := by decide +kernel
theorem dX5_ticks_30 : decode cX5_ticks 30 = .ok (.dup2, 1) := by decide +kernel
theorem dX5_ticks_31 : decode cX5_ticks 31 = .ok (.iaload, 1) := by decide +kernel
theorem dX5_ticks_32 : decode cX5_ticks 32 = .ok (.iconst 1, 1) := by decide +kernel
theorem dX5_ticks_33 : decode cX5_ticks 33 = .ok (.iadd, 1) := by decide +kernel
theorem dX5_ticks_34 : decode cX5_ticks 34 = .ok (.iastore, 1) := by decide +kernel
theorem dX5_ticks_35 : decode cX5_ticks 35 = .ok (.aload_n 0, 1) := by decide +kernel
theorem dX5_ticks_36 : decode cX5_ticks 36 = .ok (.bipush 25, 2) := by decide +kernel
theorem dX5_ticks_38 : decode cX5_ticks 38 = .ok (.dup2, 1) := by decide +kernel
theorem dX5_ticks_39 : decode cX5_ticks 39 = .ok (.iaload, 1) := by decide +kernel
theorem dX5_ticks_40 : decode cX5_ticks 40 = .ok (.aload_n 0, 1) := by decide +kernel
theorem dX5_ticks_41 : decode cX5_ticks 41 = .ok (.bipush 10, 2) := by decide +kernel
theorem dX5_ticks_43 : decode cX5_ticks 43 = .ok (.iaload, 1) := by decide +kernel
theorem dX5_ticks_44 : decode cX5_ticks 44 = .ok (.iadd, 1) := by decide +kernel
theorem dX5_ticks_45 : decode cX5_ticks 45 = .ok (.iastore, 1) := by decide +kernel
theorem dX5_ticks_46 : decode cX5_ticks 46 = .ok (.return_, 1) := by decide +kernel
set_option maxRecDepth 20000 in
theorem ggX5_passes_X5_ticks : GoodIn wsX5_passes wsX5_ticks := goodIn_r _ [4, 5, 6, 3, 7, 8, 9, 10, 11, 12, 13, 14, 15, 16, 17, 18, 19, 20, 21, 22, 23, 24, 25, 26, 27, 28, 29, 30, 31, 32, 33, 34] (by decide +kernel) (by decide +kernel)
set_option maxRecDepth 20000 in
theorem gX5_passes_X5_ticks : GoodIn wsX5_passes (va_wsS RX5 84 yX5_ticks wsX5_ticks) := goodIn_app (goodIn_of _ (by decide +kernel)) ggX5_passes_X5_ticks
theorem dX5_passes_0 : decode cX5_passes 0 = .ok (.iconst 0, 1) := by decide +kernel
theorem dX5_passes_1 : decode cX5_passes 1 = .ok (.istore_n 2, 1) := by decide +kernel
theorem dX5_passes_2 : decode cX5_passes 2 = .ok (.iload_n 2, 1) := by decide +kernel
theorem dX5_passes_3 : decode cX5_passes 3 = .ok (.iload_n 1, 1) := by decide +kernel
theorem dX5_passes_4 : decode cX5_passes 4 = .ok (.if_icmp .ge 13, 3) := by decide +kernel
theorem dX5_passes_7 : decode cX5_passes 7 = .ok (.aload_n 0, 1) := by decide +kernel
theorem dX5_passes_8 : decode cX5_passes 8 = .ok (.invokestatic 84, 3) := by decide +kernel
theorem dX5_passes_11 : decode cX5_passes 11 = .ok (.iinc 2 1, 3) := by decide +kernel
theorem dX5_passes_14 : decode cX5_passes 14 = .ok (.goto (-12), 3) := by decide +kernel
theorem dX5_passes_17 : decode cX5_passes 17 = .ok (.return_, 1) := by decide +kernel
set_option maxRecDepth 20000 in
theorem ggX5_isFor_X5_in : GoodIn wsX5_isFor wsX5_in := goodIn_r _ [4] (by decide +kernel) (by decide +kernel)
set_option maxRecDepth 20000 in
theorem gX5_isFor_X5_in : GoodIn wsX5_isFor (va_wsS RX5 40 yX5_in wsX5_in) := goodIn_app (goodIn_of _ (by decide +kernel)) ggX5_isFor_X5_in
theorem dX5_isFor_0 : decode cX5_isFor 0 = .ok (.iload_n 0, 1) := by decide +kernel
theorem dX5_isFor_1 : decode cX5_isFor 1 = .ok (.tableswitch 78 0 5 #[39, 47, 55, 63, 71, 71], 39) := by decide +kernel
theorem dX5_isFor_40 : decode cX5_isFor 40 = .ok (.iload_n 1, 1) := by decide +kernel
theorem dX5_isFor_41 : decode cX5_isFor 41 = .ok (.iconst 2, 1) := by decide +kernel
theorem dX5_isFor_42 : decode cX5_isFor 42 = .ok (.bipush 99, 2) := by decide +kernel
theorem dX5_isFor_44 : decode cX5_isFor 44 = .ok (.invokestatic 40, 3) := by decide +kernel
theorem dX5_isFor_47 : decode cX5_isFor 47 = .ok (.ireturn, 1) := by decide +kernel
theorem dX5_isFor_48 : decode cX5_isFor 48 = .ok (.iload_n 1, 1) := by decide +kernel
theorem dX5_isFor_49 : decode cX5_isFor 49 = .ok (.iconst 1, 1) := by decide +kernel
theorem dX5_isFor_50 : decode cX5_isFor 50 = .ok (.bipush 99, 2) := by decide +kernel
theorem dX5_isFor_52 : decode cX5_isFor 52 = .ok (.invokestatic 40, 3) := by decide +kernel
theorem dX5_isFor_55 : decode cX5_isFor 55 = .ok (.ireturn, 1) := by decide +kernel
theorem dX5_isFor_56 : decode cX5_isFor 56 = .ok (.iload_n 1, 1) := by decide +kernel
theorem dX5_isFor_57 : decode cX5_isFor 57 = .ok (.iconst 1, 1) := by decide +kernel
theorem dX5_isFor_58 : decode cX5_isFor 58 = .ok (.bipush 16, 2) := by decide +kernel
theorem dX5_isFor_60 : decode cX5_isFor 60 = .ok (.invokestatic 40, 3) := by decide +kernel
theorem dX5_isFor_63 : decode cX5_isFor 63 = .ok (.ireturn, 1) := by decide +kernel
theorem dX5_isFor_64 : decode cX5_isFor 64 = .ok (.iload_n 1, 1) := by decide +kernel
theorem dX5_isFor_65 : decode cX5_isFor 65 = .ok (.iconst 2, 1) := by decide +kernel
theorem dX5_isFor_66 : decode cX5_isFor 66 = .ok (.bipush 16, 2) := by decide +kernel
theorem dX5_isFor_68 : decode cX5_isFor 68 = .ok (.invokestatic 40, 3) := by decide +kernel
theorem dX5_isFor_71 : decode cX5_isFor 71 = .ok (.ireturn, 1) := by decide +kernel
theorem dX5_isFor_72 : decode cX5_isFor 72 = .ok (.iload_n 1, 1) := by decide +kernel
theorem dX5_isFor_73 : decode cX5_isFor 73 = .ok (.iconst 0, 1) := by decide +kernel
theorem dX5_isFor_74 : decode cX5_isFor 74 = .ok (.iconst 1, 1) := by decide +kernel
theorem dX5_isFor_75 : decode cX5_isFor 75 = .ok (.invokestatic 40, 3) := by decide +kernel
theorem dX5_isFor_78 : decode cX5_isFor 78 = .ok (.ireturn, 1) := by decide +kernel
theorem dX5_isFor_79 : decode cX5_isFor 79 = .ok (.iload_n 1, 1) := by decide +kernel
theorem dX5_isFor_80 : decode cX5_isFor 80 = .ok (.iconst 0, 1) := by decide +kernel
theorem dX5_isFor_81 : decode cX5_isFor 81 = .ok (.sipush 255, 3) := by decide +kernel
theorem dX5_isFor_84 : decode cX5_isFor 84 = .ok (.invokestatic 40, 3) := by decide +kernel
theorem dX5_isFor_87 : decode cX5_isFor 87 = .ok (.ireturn, 1) := by decide +kernel
theorem dX5_changes_0 : decode cX5_changes 0 = .ok (.aload_n 0, 1) := by decide +kernel
theorem dX5_changes_1 : decode cX5_changes 1 = .ok (.getfield 7, 3) := by decide +kernel
theorem dX5_changes_4 : decode cX5_changes 4 = .ok (.iload_n 1, 1) := by decide +kernel
theorem dX5_changes_5 : decode cX5_changes 5 = .ok (.iaload, 1) := by decide +kernel
theorem dX5_changes_6 : decode cX5_changes 6 = .ok (.istore_n 3, 1) := by decide +kernel
theorem dX5_changes_7 : decode cX5_changes 7 = .ok (.aload_n 0, 1) := by decide +kernel
theorem dX5_changes_8 : decode cX5_changes 8 = .ok (.getfield 7, 3) := by decide +kernel
theorem dX5_changes_11 : decode cX5_changes 11 = .ok (.iload_n 1, 1) := by decide +kernel
theorem dX5_changes_12 : decode cX5_changes 12 = .ok (.iload_n 2, 1) := by decide +kernel
theorem dX5_changes_13 : decode cX5_changes 13 = .ok (.iastore, 1) := by decide +kernel
theorem dX5_changes_14 : decode cX5_changes 14 = .ok (.iload_n 3, 1) := by decide +kernel
theorem dX5_changes_15 : decode cX5_changes 15 = .ok (.ireturn, 1) := by decide +kernel
set_option maxRecDepth 20000 in
theorem ggX5_set_X5_in : GoodIn wsX5_set wsX5_in := goodIn_r _ [5] (by decide +kernel) (by decide +kernel)
set_option maxRecDepth 20000 in
theorem gX5_set_X5_in : GoodIn wsX5_set (va_wsS RX5 40 yX5_in wsX5_in) := goodIn_app (goodIn_of _ (by decide +kernel)) ggX5_set_X5_in
set_option maxRecDepth 20000 in
theorem ggX5_set_X5_isFor : GoodIn wsX5_set wsX5_isFor := goodIn_r _ [8, 2, 3, 4, 5] (by decide +kernel) (by decide +kernel)
set_option maxRecDepth 20000 in
theorem gX5_set_X5_isFor : GoodIn wsX5_set (va_wsS RX5 87 yX5_isFor wsX5_isFor) := goodIn_app (goodIn_of _ (by decide +kernel)) ggX5_set_X5_isFor
set_option maxRecDepth 20000 in
theorem ggX5_set_X5_records : GoodIn wsX5_set wsX5_records := goodIn_r _ [12, 13, 14, 1, 15, 16, 4, 17, 22, 23, 24, 25, 26, 27, 28, 29, 30, 31, 32] (by decide +kernel) (by decide +kernel)
set_option maxRecDepth 20000 in
theorem gX5_set_X5_records : GoodIn wsX5_set (wsV RX5 44 RX5 yX5_records wsX5_records) := goodIn_app (goodIn_of _ (by decide +kernel)) ggX5_set_X5_records
set_option maxRecDepth 20000 in
theorem ggX5_set_X5_changes : GoodIn wsX5_set wsX5_changes := goodIn_r _ [21, 1, 22, 23, 24, 25, 26, 27, 28, 29, 30, 31, 32] (by decide +kernel) (by decide +kernel)
set_option maxRecDepth 20000 in
theorem gX5_set_X5_changes : GoodIn wsX5_set (wsV RX5 91 RX5 yX5_changes wsX5_changes) := goodIn_app (goodIn_of _ (by decide +kernel)) ggX5_set_X5_changes
theorem dX5_set_0 : decode cX5_set 0 = .ok (.iload_n 1, 1) := by decide +kernel
theorem dX5_set_1 : decode cX5_set 1 = .ok (.iconst 0, 1) := by decide +kernel
theorem dX5_set_2 : decode cX5_set 2 = .ok (.bipush 7, 2) := by decide +kernel
theorem dX5_set_4 : decode cX5_set 4 = .ok (.invokestatic 40, 3) := by decide +kernel
theorem dX5_set_7 : decode cX5_set 7 = .ok (.ifCond .eq 11, 3) := by decide +kernel
theorem dX5_set_10 : decode cX5_set 10 = .ok (.iload_n 1, 1) := by decide +kernel
theorem dX5_set_11 : decode cX5_set 11 = .ok (.iload_n 2, 1) := by decide +kernel
theorem dX5_set_12 : decode cX5_set 12 = .ok (.invokestatic 87, 3) := by decide +kernel
theorem dX5_set_15 : decode cX5_set 15 = .ok (.ifCond .ne 6, 3) := by decide +kernel
theorem dX5_set_18 : decode cX5_set 18 = .ok (.bipush (-2), 2) := by decide +kernel
theorem dX5_set_20 : decode cX5_set 20 = .ok (.ireturn, 1) := by decide +kernel
theorem dX5_set_21 : decode cX5_set 21 = .ok (.iload_n 1, 1) := by decide +kernel
theorem dX5_set_22 : decode cX5_set 22 = .ok (.iconst 3, 1) := by decide +kernel
theorem dX5_set_23 : decode cX5_set 23 = .ok (.if_icmp .ne 12, 3) := by decide +kernel
theorem dX5_set_26 : decode cX5_set 26 = .ok (.aload_n 0, 1) := by decide +kernel
theorem dX5_set_27 : decode cX5_set 27 = .ok (.getfield 7, 3) := by decide +kernel
theorem dX5_set_30 : decode cX5_set 30 = .ok (.iconst 0, 1) := by decide +kernel
theorem dX5_set_31 : decode cX5_set 31 = .ok (.iaload, 1) := by decide +kernel
theorem dX5_set_32 : decode cX5_set 32 = .ok (.ifCond .ne 19, 3) := by decide +kernel
theorem dX5_set_35 : decode cX5_set 35 = .ok (.iload_n 1, 1) := by decide +kernel
theorem dX5_set_36 : decode cX5_set 36 = .ok (.iconst 2, 1) := by decide +kernel
theorem dX5_set_37 : decode cX5_set 37 = .ok (.if_icmp .ne 17, 3) := by decide +kernel
theorem dX5_set_40 : decode cX5_set 40 = .ok (.iload_n 2, 1) := by decide +kernel
theorem dX5_set_41 : decode cX5_set 41 = .ok (.aload_n 0, 1) := by decide +kernel
theorem dX5_set_42 : decode cX5_set 42 = .ok (.getfield 7, 3) := by decide +kernel
theorem dX5_set_45 : decode cX5_set 45 = .ok (.bipush 10, 2) := by decide +kernel
theorem dX5_set_47 : decode cX5_set 47 = .ok (.iaload, 1) := by decide +kernel
theorem dX5_set_48 : decode cX5_set 48 = .ok (.if_icmp .ge 6, 3) := by decide +kernel
theorem dX5_set_51 : decode cX5_set 51 = .ok (.bipush (-5), 2) := by decide +kernel
theorem dX5_set_53 : decode cX5_set 53 = .ok (.ireturn, 1) := by decide +kernel
theorem dX5_set_54 : decode cX5_set 54 = .ok (.aload_n 0, 1) := by decide +kernel
theorem dX5_set_55 : decode cX5_set 55 = .ok (.invokevirtual 44, 3) := by decide +kernel
theorem dX5_set_58 : decode cX5_set 58 = .ok (.aload_n 0, 1) := by decide +kernel
theorem dX5_set_59 : decode cX5_set 59 = .ok (.iconst 1, 1) := by decide +kernel
theorem dX5_set_60 : decode cX5_set 60 = .ok (.iload_n 1, 1) := by decide +kernel
theorem dX5_set_61 : decode cX5_set 61 = .ok (.iadd, 1) := by decide +kernel
theorem dX5_set_62 : decode cX5_set 62 = .ok (.iload_n 2, 1) := by decide +kernel
theorem dX5_set_63 : decode cX5_set 63 = .ok (.invokevirtual 91, 3) := by decide +kernel
theorem dX5_set_66 : decode cX5_set 66 = .ok (.ireturn, 1) := by decide +kernel
set_option maxRecDepth 20000 in
theorem ggX5_mayTell_X5_in : GoodIn wsX5_mayTell wsX5_in := goodIn_r _ [4] (by decide +kernel) (by decide +kernel)
set_option maxRecDepth 20000 in
theorem gX5_mayTell_X5_in : GoodIn wsX5_mayTell (va_wsS RX5 40 yX5_in wsX5_in) := goodIn_app (goodIn_of _ (by decide +kernel)) ggX5_mayTell_X5_in
theorem dX5_mayTell_0 : decode cX5_mayTell 0 = .ok (.iload_n 0, 1) := by decide +kernel
theorem dX5_mayTell_1 : decode cX5_mayTell 1 = .ok (.iconst 0, 1) := by decide +kernel
theorem dX5_mayTell_2 : decode cX5_mayTell 2 = .ok (.bipush 15, 2) := by decide +kernel
theorem dX5_mayTell_4 : decode cX5_mayTell 4 = .ok (.invokestatic 40, 3) := by decide +kernel
theorem dX5_mayTell_7 : decode cX5_mayTell 7 = .ok (.ifCond .ne 7, 3) := by decide +kernel
theorem dX5_mayTell_10 : decode cX5_mayTell 10 = .ok (.iconst (-1), 1) := by decide +kernel
theorem dX5_mayTell_11 : decode cX5_mayTell 11 = .ok (.goto 20, 3) := by decide +kernel
theorem dX5_mayTell_14 : decode cX5_mayTell 14 = .ok (.iload_n 1, 1) := by decide +kernel
theorem dX5_mayTell_15 : decode cX5_mayTell 15 = .ok (.iconst 0, 1) := by decide +kernel
theorem dX5_mayTell_16 : decode cX5_mayTell 16 = .ok (.sipush 255, 3) := by decide +kernel
theorem dX5_mayTell_19 : decode cX5_mayTell 19 = .ok (.invokestatic 40, 3) := by decide +kernel
theorem dX5_mayTell_22 : decode cX5_mayTell 22 = .ok (.ifCond .eq 7, 3) := by decide +kernel
theorem dX5_mayTell_25 : decode cX5_mayTell 25 = .ok (.iconst 0, 1) := by decide +kernel
theorem dX5_mayTell_26 : decode cX5_mayTell 26 = .ok (.goto 5, 3) := by decide +kernel
theorem dX5_mayTell_29 : decode cX5_mayTell 29 = .ok (.bipush (-2), 2) := by decide +kernel
theorem dX5_mayTell_31 : decode cX5_mayTell 31 = .ok (.ireturn, 1) := by decide +kernel
set_option maxRecDepth 20000 in
theorem ggX5_value_X5_mayTell : GoodIn wsX5_value wsX5_mayTell := goodIn_r _ [4, 5, 6, 3, 7] (by decide +kernel) (by decide +kernel)
set_option maxRecDepth 20000 in
theorem gX5_value_X5_mayTell : GoodIn wsX5_value (va_wsS RX5 95 yX5_mayTell wsX5_mayTell) := goodIn_app (goodIn_of _ (by decide +kernel)) ggX5_value_X5_mayTell
set_option maxRecDepth 20000 in
theorem ggX5_value_X5_records : GoodIn wsX5_value wsX5_records := goodIn_r _ [11, 12, 13, 14, 15, 16, 3, 17, 22, 23, 24, 25, 26, 27, 28, 29, 30, 31, 32] (by decide +kernel) (by decide +kernel)
set_option maxRecDepth 20000 in
theorem gX5_value_X5_records : GoodIn wsX5_value (wsV RX5 44 RX5 yX5_records wsX5_records) := goodIn_app (goodIn_of _ (by decide +kernel)) ggX5_value_X5_records
set_option maxRecDepth 20000 in
theorem ggX5_value_X5_changes : GoodIn wsX5_value wsX5_changes := goodIn_r _ [21, 14, 22, 23, 24, 25, 26, 27, 28, 29, 30, 31, 32] (by decide +kernel) (by decide +kernel)
set_option maxRecDepth 20000 in
theorem gX5_value_X5_changes : GoodIn wsX5_value (wsV RX5 91 RX5 yX5_changes wsX5_changes) := goodIn_app (goodIn_of _ (by decide +kernel)) ggX5_value_X5_changes
theorem dX5_value_0 : decode cX5_value 0 = .ok (.iload_n 1, 1) := by decide +kernel
theorem dX5_value_1 : decode cX5_value 1 = .ok (.iload_n 2, 1) := by decide +kernel
theorem dX5_value_2 : decode cX5_value 2 = .ok (.invokestatic 95, 3) := by decide +kernel
theorem dX5_value_5 : decode cX5_value 5 = .ok (.istore_n 3, 1) := by decide +kernel
theorem dX5_value_6 : decode cX5_value 6 = .ok (.iload_n 3, 1) := by decide +kernel
theorem dX5_value_7 : decode cX5_value 7 = .ok (.ifCond .eq 5, 3) := by decide +kernel
theorem dX5_value_10 : decode cX5_value 10 = .ok (.iload_n 3, 1) := by decide +kernel
theorem dX5_value_11 : decode cX5_value 11 = .ok (.ireturn, 1) := by decide +kernel
theorem dX5_value_12 : decode cX5_value 12 = .ok (.aload_n 0, 1) := by decide +kernel
theorem dX5_value_13 : decode cX5_value 13 = .ok (.invokevirtual 44, 3) := by decide +kernel
theorem dX5_value_16 : decode cX5_value 16 = .ok (.aload_n 0, 1) := by decide +kernel
theorem dX5_value_17 : decode cX5_value 17 = .ok (.bipush 26, 2) := by decide +kernel
theorem dX5_value_19 : decode cX5_value 19 = .ok (.iload_n 1, 1) := by decide +kernel
theorem dX5_value_20 : decode cX5_value 20 = .ok (.iadd, 1) := by decide +kernel
theorem dX5_value_21 : decode cX5_value 21 = .ok (.iload_n 2, 1) := by decide +kernel
theorem dX5_value_22 : decode cX5_value 22 = .ok (.invokevirtual 91, 3) := by decide +kernel
theorem dX5_value_25 : decode cX5_value 25 = .ok (.ireturn, 1) := by decide +kernel
set_option maxRecDepth 20000 in
theorem ggX5_maySlip_X5_in : GoodIn wsX5_maySlip wsX5_in := goodIn_r _ [4] (by decide +kernel) (by decide +kernel)
set_option maxRecDepth 20000 in
theorem gX5_maySlip_X5_in : GoodIn wsX5_maySlip (va_wsS RX5 40 yX5_in wsX5_in) := goodIn_app (goodIn_of _ (by decide +kernel)) ggX5_maySlip_X5_in
theorem dX5_maySlip_0 : decode cX5_maySlip 0 = .ok (.iload_n 0, 1) := by decide +kernel
theorem dX5_maySlip_1 : decode cX5_maySlip 1 = .ok (.iconst 0, 1) := by decide +kernel
theorem dX5_maySlip_2 : decode cX5_maySlip 2 = .ok (.iconst 1, 1) := by decide +kernel
theorem dX5_maySlip_3 : decode cX5_maySlip 3 = .ok (.invokestatic 40, 3) := by decide +kernel
theorem dX5_maySlip_6 : decode cX5_maySlip 6 = .ok (.ifCond .eq 17, 3) := by decide +kernel
theorem dX5_maySlip_9 : decode cX5_maySlip 9 = .ok (.iload_n 1, 1) := by decide +kernel
theorem dX5_maySlip_10 : decode cX5_maySlip 10 = .ok (.iconst 1, 1) := by decide +kernel
theorem dX5_maySlip_11 : decode cX5_maySlip 11 = .ok (.bipush 99, 2) := by decide +kernel
theorem dX5_maySlip_13 : decode cX5_maySlip 13 = .ok (.invokestatic 40, 3) := by decide +kernel
theorem dX5_maySlip_16 : decode cX5_maySlip 16 = .ok (.ifCond .eq 7, 3) := by decide +kernel
theorem dX5_maySlip_19 : decode cX5_maySlip 19 = .ok (.iconst 0, 1) := by decide +kernel
theorem dX5_maySlip_20 : decode cX5_maySlip 20 = .ok (.goto 5, 3) := by decide +kernel
theorem dX5_maySlip_23 : decode cX5_maySlip 23 = .ok (.bipush (-2), 2) := by decide +kernel
theorem dX5_maySlip_25 : decode cX5_maySlip 25 = .ok (.ireturn, 1) := by decide +kernel
theorem dX5_slips_0 : decode cX5_slips 0 = .ok (.aload_n 0, 1) := by decide +kernel
theorem dX5_slips_1 : decode cX5_slips 1 = .ok (.getfield 7, 3) := by decide +kernel
theorem dX5_slips_4 : decode cX5_slips 4 = .ok (.bipush 18, 2) := by decide +kernel
theorem dX5_slips_6 : decode cX5_slips 6 = .ok (.iload_n 1, 1) := by decide +kernel
theorem dX5_slips_7 : decode cX5_slips 7 = .ok (.iadd, 1) := by decide +kernel
theorem dX5_slips_8 : decode cX5_slips 8 = .ok (.dup2, 1) := by decide +kernel
theorem dX5_slips_9 : decode cX5_slips 9 = .ok (.iaload, 1) := by decide +kernel
theorem dX5_slips_10 : decode cX5_slips 10 = .ok (.iload_n 2, 1) := by decide +kernel
theorem dX5_slips_11 : decode cX5_slips 11 = .ok (.iadd, 1) := by decide +kernel
theorem dX5_slips_12 : decode cX5_slips 12 = .ok (.iastore, 1) := by decide +kernel
theorem dX5_slips_13 : decode cX5_slips 13 = .ok (.aload_n 0, 1) := by decide +kernel
theorem dX5_slips_14 : decode cX5_slips 14 = .ok (.getfield 7, 3) := by decide +kernel
theorem dX5_slips_17 : decode cX5_slips 17 = .ok (.bipush 18, 2) := by decide +kernel
theorem dX5_slips_19 : decode cX5_slips 19 = .ok (.iload_n 1, 1) := by decide +kernel
theorem dX5_slips_20 : decode cX5_slips 20 = .ok (.iadd, 1) := by decide +kernel
theorem dX5_slips_21 : decode cX5_slips 21 = .ok (.iaload, 1) := by decide +kernel
theorem dX5_slips_22 : decode cX5_slips 22 = .ok (.ireturn, 1) := by decide +kernel
set_option maxRecDepth 20000 in
theorem ggX5_slip_X5_maySlip : GoodIn wsX5_slip wsX5_maySlip := goodIn_r _ [4, 5, 6, 3, 7] (by decide +kernel) (by decide +kernel)
set_option maxRecDepth 20000 in
theorem gX5_slip_X5_maySlip : GoodIn wsX5_slip (va_wsS RX5 98 yX5_maySlip wsX5_maySlip) := goodIn_app (goodIn_of _ (by decide +kernel)) ggX5_slip_X5_maySlip
set_option maxRecDepth 20000 in
theorem ggX5_slip_X5_records : GoodIn wsX5_slip wsX5_records := goodIn_r _ [11, 12, 13, 14, 15, 16, 3, 17, 22, 23, 24, 25, 26, 27, 28, 29, 30, 31, 32] (by decide +kernel) (by decide +kernel)
set_option maxRecDepth 20000 in
theorem gX5_slip_X5_records : GoodIn wsX5_slip (wsV RX5 44 RX5 yX5_records wsX5_records) := goodIn_app (goodIn_of _ (by decide +kernel)) ggX5_slip_X5_records
set_option maxRecDepth 20000 in
theorem ggX5_slip_X5_slips : GoodIn wsX5_slip wsX5_slips := goodIn_r _ [21, 14, 22, 23, 24, 25, 26, 27, 28, 29, 30, 31, 32] (by decide +kernel) (by decide +kernel)
set_option maxRecDepth 20000 in
theorem gX5_slip_X5_slips : GoodIn wsX5_slip (wsV RX5 101 RX5 yX5_slips wsX5_slips) := goodIn_app (goodIn_of _ (by decide +kernel)) ggX5_slip_X5_slips
theorem dX5_slip_0 : decode cX5_slip 0 = .ok (.iload_n 1, 1) := by decide +kernel
theorem dX5_slip_1 : decode cX5_slip 1 = .ok (.iload_n 2, 1) := by decide +kernel
theorem dX5_slip_2 : decode cX5_slip 2 = .ok (.invokestatic 98, 3) := by decide +kernel
theorem dX5_slip_5 : decode cX5_slip 5 = .ok (.istore_n 3, 1) := by decide +kernel
theorem dX5_slip_6 : decode cX5_slip 6 = .ok (.iload_n 3, 1) := by decide +kernel
theorem dX5_slip_7 : decode cX5_slip 7 = .ok (.ifCond .eq 5, 3) := by decide +kernel
theorem dX5_slip_10 : decode cX5_slip 10 = .ok (.iload_n 3, 1) := by decide +kernel
theorem dX5_slip_11 : decode cX5_slip 11 = .ok (.ireturn, 1) := by decide +kernel
theorem dX5_slip_12 : decode cX5_slip 12 = .ok (.aload_n 0, 1) := by decide +kernel
theorem dX5_slip_13 : decode cX5_slip 13 = .ok (.invokevirtual 44, 3) := by decide +kernel
theorem dX5_slip_16 : decode cX5_slip 16 = .ok (.aload_n 0, 1) := by decide +kernel
theorem dX5_slip_17 : decode cX5_slip 17 = .ok (.iload_n 1, 1) := by decide +kernel
theorem dX5_slip_18 : decode cX5_slip 18 = .ok (.iload_n 2, 1) := by decide +kernel
theorem dX5_slip_19 : decode cX5_slip 19 = .ok (.invokevirtual 101, 3) := by decide +kernel
theorem dX5_slip_22 : decode cX5_slip 22 = .ok (.ireturn, 1) := by decide +kernel
set_option maxRecDepth 20000 in
theorem ggX5_mayPass_X5_in : GoodIn wsX5_mayPass wsX5_in := goodIn_r _ [6] (by decide +kernel) (by decide +kernel)
set_option maxRecDepth 20000 in
theorem gX5_mayPass_X5_in : GoodIn wsX5_mayPass (va_wsS RX5 40 yX5_in wsX5_in) := goodIn_app (goodIn_of _ (by decide +kernel)) ggX5_mayPass_X5_in
theorem dX5_mayPass_0 : decode cX5_mayPass 0 = .ok (.iload_n 1, 1) := by decide +kernel
theorem dX5_mayPass_1 : decode cX5_mayPass 1 = .ok (.iconst 1, 1) := by decide +kernel
theorem dX5_mayPass_2 : decode cX5_mayPass 2 = .ok (.sipush 999, 3) := by decide +kernel
theorem dX5_mayPass_5 : decode cX5_mayPass 5 = .ok (.invokestatic 40, 3) := by decide +kernel
theorem dX5_mayPass_8 : decode cX5_mayPass 8 = .ok (.ifCond .ne 8, 3) := by decide +kernel
theorem dX5_mayPass_11 : decode cX5_mayPass 11 = .ok (.bipush (-2), 2) := by decide +kernel
theorem dX5_mayPass_13 : decode cX5_mayPass 13 = .ok (.goto 22, 3) := by decide +kernel
theorem dX5_mayPass_16 : decode cX5_mayPass 16 = .ok (.aload_n 0, 1) := by decide +kernel
theorem dX5_mayPass_17 : decode cX5_mayPass 17 = .ok (.getfield 7, 3) := by decide +kernel
theorem dX5_mayPass_20 : decode cX5_mayPass 20 = .ok (.iconst 0, 1) := by decide +kernel
theorem dX5_mayPass_21 : decode cX5_mayPass 21 = .ok (.iaload, 1) := by decide +kernel
theorem dX5_mayPass_22 : decode cX5_mayPass 22 = .ok (.iload_n 1, 1) := by decide +kernel
theorem dX5_mayPass_23 : decode cX5_mayPass 23 = .ok (.iadd, 1) := by decide +kernel
theorem dX5_mayPass_24 : decode cX5_mayPass 24 = .ok (.ldc 104, 2) := by decide +kernel
theorem dX5_mayPass_26 : decode cX5_mayPass 26 = .ok (.if_icmp .le 8, 3) := by decide +kernel
theorem dX5_mayPass_29 : decode cX5_mayPass 29 = .ok (.bipush (-4), 2) := by decide +kernel
theorem dX5_mayPass_31 : decode cX5_mayPass 31 = .ok (.goto 4, 3) := by decide +kernel
theorem dX5_mayPass_34 : decode cX5_mayPass 34 = .ok (.iconst 0, 1) := by decide +kernel
theorem dX5_mayPass_35 : decode cX5_mayPass 35 = .ok (.ireturn, 1) := by decide +kernel
set_option maxRecDepth 20000 in
theorem ggX5_pass_X5_mayPass : GoodIn wsX5_pass wsX5_mayPass := goodIn_r _ [6, 1, 7, 8, 9, 5, 10, 56, 57, 58, 59, 60, 61, 62, 63, 64, 65, 66] (by decide +kernel) (by decide +kernel)
set_option maxRecDepth 20000 in
theorem gX5_pass_X5_mayPass : GoodIn wsX5_pass (wsV RX5 105 RX5 yX5_mayPass wsX5_mayPass) := goodIn_app (goodIn_of _ (by decide +kernel)) ggX5_pass_X5_mayPass
set_option maxRecDepth 20000 in
theorem ggX5_pass_X5_records : GoodIn wsX5_pass wsX5_records := goodIn_r _ [14, 15, 16, 1, 17, 18, 5, 19, 56, 57, 58, 59, 60, 61, 62, 63, 64, 65, 66] (by decide +kernel) (by decide +kernel)
set_option maxRecDepth 20000 in
theorem gX5_pass_X5_records : GoodIn wsX5_pass (wsV RX5 44 RX5 yX5_records wsX5_records) := goodIn_app (goodIn_of _ (by decide +kernel)) ggX5_pass_X5_records
set_option maxRecDepth 20000 in
theorem ggX5_pass_X5_passes : GoodIn wsX5_pass wsX5_passes := goodIn_r _ [22, 23, 24, 5, 25, 26, 27, 28, 29, 30, 31, 32, 33, 34, 35, 36, 37, 38, 39, 40, 41, 42, 43, 44, 45, 46, 47, 48, 49, 50, 51, 52, 53, 54, 55] (by decide +kernel) (by decide +kernel)
set_option maxRecDepth 20000 in
theorem gX5_pass_X5_passes : GoodIn wsX5_pass (va_wsS RX5 109 yX5_passes wsX5_passes) := goodIn_app (goodIn_of _ (by decide +kernel)) ggX5_pass_X5_passes
theorem dX5_pass_0 : decode cX5_pass 0 = .ok (.aload_n 0, 1) := by decide +kernel
theorem dX5_pass_1 : decode cX5_pass 1 = .ok (.iload_n 1, 1) := by decide +kernel
theorem dX5_pass_2 : decode cX5_pass 2 = .ok (.invokevirtual 105, 3) := by decide +kernel
theorem dX5_pass_5 : decode cX5_pass 5 = .ok (.istore_n 2, 1) := by decide +kernel
theorem dX5_pass_6 : decode cX5_pass 6 = .ok (.iload_n 2, 1) := by decide +kernel
theorem dX5_pass_7 : decode cX5_pass 7 = .ok (.ifCond .eq 5, 3) := by decide +kernel
theorem dX5_pass_10 : decode cX5_pass 10 = .ok (.iload_n 2, 1) := by decide +kernel
theorem dX5_pass_11 : decode cX5_pass 11 = .ok (.ireturn, 1) := by decide +kernel
theorem dX5_pass_12 : decode cX5_pass 12 = .ok (.aload_n 0, 1) := by decide +kernel
theorem dX5_pass_13 : decode cX5_pass 13 = .ok (.invokevirtual 44, 3) := by decide +kernel
theorem dX5_pass_16 : decode cX5_pass 16 = .ok (.aload_n 0, 1) := by decide +kernel
theorem dX5_pass_17 : decode cX5_pass 17 = .ok (.getfield 7, 3) := by decide +kernel
theorem dX5_pass_20 : decode cX5_pass 20 = .ok (.iload_n 1, 1) := by decide +kernel
theorem dX5_pass_21 : decode cX5_pass 21 = .ok (.invokestatic 109, 3) := by decide +kernel
theorem dX5_pass_24 : decode cX5_pass 24 = .ok (.aload_n 0, 1) := by decide +kernel
theorem dX5_pass_25 : decode cX5_pass 25 = .ok (.getfield 7, 3) := by decide +kernel
theorem dX5_pass_28 : decode cX5_pass 28 = .ok (.iconst 0, 1) := by decide +kernel
theorem dX5_pass_29 : decode cX5_pass 29 = .ok (.iaload, 1) := by decide +kernel
theorem dX5_pass_30 : decode cX5_pass 30 = .ok (.ireturn, 1) := by decide +kernel
set_option maxRecDepth 20000 in
theorem ggX5_flush_X5_records : GoodIn wsX5_flush wsX5_records := goodIn_r _ [6, 7, 8, 1, 9, 10, 5, 11, 24, 25, 26, 27, 28, 29, 30, 31, 32, 33, 34] (by decide +kernel) (by decide +kernel)
set_option maxRecDepth 20000 in
theorem gX5_flush_X5_records : GoodIn wsX5_flush (wsV RX5 44 RX5 yX5_records wsX5_records) := goodIn_app (goodIn_of _ (by decide +kernel)) ggX5_flush_X5_records
set_option maxRecDepth 20000 in
theorem ggX5_flush_X5_loses : GoodIn wsX5_flush wsX5_loses := goodIn_r _ [14, 15, 16, 5, 17, 18, 19, 20, 21, 22, 23] (by decide +kernel) (by decide +kernel)
set_option maxRecDepth 20000 in
theorem gX5_flush_X5_loses : GoodIn wsX5_flush (va_wsS RX5 67 yX5_loses wsX5_loses) := goodIn_app (goodIn_of _ (by decide +kernel)) ggX5_flush_X5_loses
theorem dX5_flush_0 : decode cX5_flush 0 = .ok (.aload_n 0, 1) := by decide +kernel
theorem dX5_flush_1 : decode cX5_flush 1 = .ok (.invokevirtual 44, 3) := by decide +kernel
theorem dX5_flush_4 : decode cX5_flush 4 = .ok (.aload_n 0, 1) := by decide +kernel
theorem dX5_flush_5 : decode cX5_flush 5 = .ok (.getfield 7, 3) := by decide +kernel
theorem dX5_flush_8 : decode cX5_flush 8 = .ok (.bipush 10, 2) := by decide +kernel
theorem dX5_flush_10 : decode cX5_flush 10 = .ok (.iaload, 1) := by decide +kernel
theorem dX5_flush_11 : decode cX5_flush 11 = .ok (.istore_n 1, 1) := by decide +kernel
theorem dX5_flush_12 : decode cX5_flush 12 = .ok (.aload_n 0, 1) := by decide +kernel
theorem dX5_flush_13 : decode cX5_flush 13 = .ok (.getfield 7, 3) := by decide +kernel
theorem dX5_flush_16 : decode cX5_flush 16 = .ok (.bipush 10, 2) := by decide +kernel
theorem dX5_flush_18 : decode cX5_flush 18 = .ok (.iaload, 1) := by decide +kernel
theorem dX5_flush_19 : decode cX5_flush 19 = .ok (.ifCond .le 15, 3) := by decide +kernel
theorem dX5_flush_22 : decode cX5_flush 22 = .ok (.aload_n 0, 1) := by decide +kernel
theorem dX5_flush_23 : decode cX5_flush 23 = .ok (.getfield 7, 3) := by decide +kernel
theorem dX5_flush_26 : decode cX5_flush 26 = .ok (.iconst 0, 1) := by decide +kernel
theorem dX5_flush_27 : decode cX5_flush 27 = .ok (.iconst 2, 1) := by decide +kernel
theorem dX5_flush_28 : decode cX5_flush 28 = .ok (.invokestatic 67, 3) := by decide +kernel
theorem dX5_flush_31 : decode cX5_flush 31 = .ok (.goto (-19), 3) := by decide +kernel
theorem dX5_flush_34 : decode cX5_flush 34 = .ok (.iload_n 1, 1) := by decide +kernel
theorem dX5_flush_35 : decode cX5_flush 35 = .ok (.ireturn, 1) := by decide +kernel
set_option maxRecDepth 20000 in
theorem ggX5_waiting_X5_in : GoodIn wsX5_waiting wsX5_in := goodIn_r _ [5] (by decide +kernel) (by decide +kernel)
set_option maxRecDepth 20000 in
theorem gX5_waiting_X5_in : GoodIn wsX5_waiting (va_wsS RX5 40 yX5_in wsX5_in) := goodIn_app (goodIn_of _ (by decide +kernel)) ggX5_waiting_X5_in
set_option maxRecDepth 20000 in
theorem ggX5_waiting_X5_of : GoodIn wsX5_waiting wsX5_of := goodIn_r _ [8] (by decide +kernel) (by decide +kernel)
set_option maxRecDepth 20000 in
theorem gX5_waiting_X5_of : GoodIn wsX5_waiting (va_wsS RX5 47 yX5_of wsX5_of) := goodIn_app (goodIn_of _ (by decide +kernel)) ggX5_waiting_X5_of
theorem dX5_waiting_0 : decode cX5_waiting 0 = .ok (.iload_n 1, 1) := by decide +kernel
theorem dX5_waiting_1 : decode cX5_waiting 1 = .ok (.iconst 0, 1) := by decide +kernel
theorem dX5_waiting_2 : decode cX5_waiting 2 = .ok (.aload_n 0, 1) := by decide +kernel
theorem dX5_waiting_3 : decode cX5_waiting 3 = .ok (.getfield 7, 3) := by decide +kernel
theorem dX5_waiting_6 : decode cX5_waiting 6 = .ok (.bipush 10, 2) := by decide +kernel
theorem dX5_waiting_8 : decode cX5_waiting 8 = .ok (.iaload, 1) := by decide +kernel
theorem dX5_waiting_9 : decode cX5_waiting 9 = .ok (.iconst 1, 1) := by decide +kernel
theorem dX5_waiting_10 : decode cX5_waiting 10 = .ok (.isub, 1) := by decide +kernel
theorem dX5_waiting_11 : decode cX5_waiting 11 = .ok (.invokestatic 40, 3) := by decide +kernel
theorem dX5_waiting_14 : decode cX5_waiting 14 = .ok (.ifCond .ne 5, 3) := by decide +kernel
theorem dX5_waiting_17 : decode cX5_waiting 17 = .ok (.iconst (-1), 1) := by decide +kernel
theorem dX5_waiting_18 : decode cX5_waiting 18 = .ok (.ireturn, 1) := by decide +kernel
theorem dX5_waiting_19 : decode cX5_waiting 19 = .ok (.iload_n 2, 1) := by decide +kernel
theorem dX5_waiting_20 : decode cX5_waiting 20 = .ok (.iconst 0, 1) := by decide +kernel
theorem dX5_waiting_21 : decode cX5_waiting 21 = .ok (.iconst 3, 1) := by decide +kernel
theorem dX5_waiting_22 : decode cX5_waiting 22 = .ok (.invokestatic 40, 3) := by decide +kernel
theorem dX5_waiting_25 : decode cX5_waiting 25 = .ok (.ifCond .eq 15, 3) := by decide +kernel
theorem dX5_waiting_28 : decode cX5_waiting 28 = .ok (.aload_n 0, 1) := by decide +kernel
theorem dX5_waiting_29 : decode cX5_waiting 29 = .ok (.getfield 7, 3) := by decide +kernel
theorem dX5_waiting_32 : decode cX5_waiting 32 = .ok (.iload_n 1, 1) := by decide +kernel
theorem dX5_waiting_33 : decode cX5_waiting 33 = .ok (.iload_n 2, 1) := by decide +kernel
theorem dX5_waiting_34 : decode cX5_waiting 34 = .ok (.invokestatic 47, 3) := by decide +kernel
theorem dX5_waiting_37 : decode cX5_waiting 37 = .ok (.goto 5, 3) := by decide +kernel
theorem dX5_waiting_40 : decode cX5_waiting 40 = .ok (.bipush (-2), 2) := by decide +kernel
theorem dX5_waiting_42 : decode cX5_waiting 42 = .ok (.ireturn, 1) := by decide +kernel
set_option maxRecDepth 20000 in
theorem ggX5_row_X5_in : GoodIn wsX5_row wsX5_in := goodIn_r _ [5] (by decide +kernel) (by decide +kernel)
set_option maxRecDepth 20000 in
theorem gX5_row_X5_in : GoodIn wsX5_row (va_wsS RX5 40 yX5_in wsX5_in) := goodIn_app (goodIn_of _ (by decide +kernel)) ggX5_row_X5_in
theorem dX5_row_0 : decode cX5_row 0 = .ok (.iload_n 1, 1) := by decide +kernel
theorem dX5_row_1 : decode cX5_row 1 = .ok (.iconst 0, 1) := by decide +kernel
theorem dX5_row_2 : decode cX5_row 2 = .ok (.iconst 2, 1) := by decide +kernel
theorem dX5_row_3 : decode cX5_row 3 = .ok (.aload_n 0, 1) := by decide +kernel
theorem dX5_row_4 : decode cX5_row 4 = .ok (.getfield 7, 3) := by decide +kernel
theorem dX5_row_7 : decode cX5_row 7 = .ok (.iconst 4, 1) := by decide +kernel
theorem dX5_row_8 : decode cX5_row 8 = .ok (.iaload, 1) := by decide +kernel
theorem dX5_row_9 : decode cX5_row 9 = .ok (.imul, 1) := by decide +kernel
theorem dX5_row_10 : decode cX5_row 10 = .ok (.iconst 1, 1) := by decide +kernel
theorem dX5_row_11 : decode cX5_row 11 = .ok (.isub, 1) := by decide +kernel
theorem dX5_row_12 : decode cX5_row 12 = .ok (.invokestatic 40, 3) := by decide +kernel
theorem dX5_row_15 : decode cX5_row 15 = .ok (.ifCond .ne 5, 3) := by decide +kernel
theorem dX5_row_18 : decode cX5_row 18 = .ok (.iconst (-1), 1) := by decide +kernel
theorem dX5_row_19 : decode cX5_row 19 = .ok (.ireturn, 1) := by decide +kernel
theorem dX5_row_20 : decode cX5_row 20 = .ok (.iload_n 2, 1) := by decide +kernel
theorem dX5_row_21 : decode cX5_row 21 = .ok (.iconst 0, 1) := by decide +kernel
theorem dX5_row_22 : decode cX5_row 22 = .ok (.iconst 2, 1) := by decide +kernel
theorem dX5_row_23 : decode cX5_row 23 = .ok (.invokestatic 40, 3) := by decide +kernel
theorem dX5_row_26 : decode cX5_row 26 = .ok (.ifCond .eq 19, 3) := by decide +kernel
theorem dX5_row_29 : decode cX5_row 29 = .ok (.aload_n 0, 1) := by decide +kernel
theorem dX5_row_30 : decode cX5_row 30 = .ok (.getfield 7, 3) := by decide +kernel
theorem dX5_row_33 : decode cX5_row 33 = .ok (.bipush 106, 2) := by decide +kernel
theorem dX5_row_35 : decode cX5_row 35 = .ok (.iconst 3, 1) := by decide +kernel
theorem dX5_row_36 : decode cX5_row 36 = .ok (.iload_n 1, 1) := by decide +kernel
theorem dX5_row_37 : decode cX5_row 37 = .ok (.imul, 1) := by decide +kernel
theorem dX5_row_38 : decode cX5_row 38 = .ok (.iadd, 1) := by decide +kernel
theorem dX5_row_39 : decode cX5_row 39 = .ok (.iload_n 2, 1) := by decide +kernel
theorem dX5_row_40 : decode cX5_row 40 = .ok (.iadd, 1) := by decide +kernel
theorem dX5_row_41 : decode cX5_row 41 = .ok (.iaload, 1) := by decide +kernel
theorem dX5_row_42 : decode cX5_row 42 = .ok (.goto 5, 3) := by decide +kernel
theorem dX5_row_45 : decode cX5_row 45 = .ok (.bipush (-2), 2) := by decide +kernel
theorem dX5_row_47 : decode cX5_row 47 = .ok (.ireturn, 1) := by decide +kernel
set_option maxRecDepth 20000 in
theorem ggX5_ofMissing_X5_in : GoodIn wsX5_ofMissing wsX5_in := goodIn_r _ [5] (by decide +kernel) (by decide +kernel)
set_option maxRecDepth 20000 in
theorem gX5_ofMissing_X5_in : GoodIn wsX5_ofMissing (va_wsS RX5 40 yX5_in wsX5_in) := goodIn_app (goodIn_of _ (by decide +kernel)) ggX5_ofMissing_X5_in
theorem dX5_ofMissing_0 : decode cX5_ofMissing 0 = .ok (.iload_n 1, 1) := by decide +kernel
theorem dX5_ofMissing_1 : decode cX5_ofMissing 1 = .ok (.iconst 0, 1) := by decide +kernel
theorem dX5_ofMissing_2 : decode cX5_ofMissing 2 = .ok (.aload_n 0, 1) := by decide +kernel
theorem dX5_ofMissing_3 : decode cX5_ofMissing 3 = .ok (.getfield 7, 3) := by decide +kernel
theorem dX5_ofMissing_6 : decode cX5_ofMissing 6 = .ok (.bipush 24, 2) := by decide +kernel
theorem dX5_ofMissing_8 : decode cX5_ofMissing 8 = .ok (.iaload, 1) := by decide +kernel
theorem dX5_ofMissing_9 : decode cX5_ofMissing 9 = .ok (.iconst 1, 1) := by decide +kernel
theorem dX5_ofMissing_10 : decode cX5_ofMissing 10 = .ok (.isub, 1) := by decide +kernel
theorem dX5_ofMissing_11 : decode cX5_ofMissing 11 = .ok (.invokestatic 40, 3) := by decide +kernel
theorem dX5_ofMissing_14 : decode cX5_ofMissing 14 = .ok (.ifCond .ne 5, 3) := by decide +kernel
theorem dX5_ofMissing_17 : decode cX5_ofMissing 17 = .ok (.iconst (-1), 1) := by decide +kernel
theorem dX5_ofMissing_18 : decode cX5_ofMissing 18 = .ok (.ireturn, 1) := by decide +kernel
theorem dX5_ofMissing_19 : decode cX5_ofMissing 19 = .ok (.iload_n 2, 1) := by decide +kernel
theorem dX5_ofMissing_20 : decode cX5_ofMissing 20 = .ok (.iconst 0, 1) := by decide +kernel
theorem dX5_ofMissing_21 : decode cX5_ofMissing 21 = .ok (.iconst 3, 1) := by decide +kernel
theorem dX5_ofMissing_22 : decode cX5_ofMissing 22 = .ok (.invokestatic 40, 3) := by decide +kernel
theorem dX5_ofMissing_25 : decode cX5_ofMissing 25 = .ok (.ifCond .eq 20, 3) := by decide +kernel
theorem dX5_ofMissing_28 : decode cX5_ofMissing 28 = .ok (.aload_n 0, 1) := by decide +kernel
theorem dX5_ofMissing_29 : decode cX5_ofMissing 29 = .ok (.getfield 7, 3) := by decide +kernel
theorem dX5_ofMissing_32 : decode cX5_ofMissing 32 = .ok (.sipush 202, 3) := by decide +kernel
theorem dX5_ofMissing_35 : decode cX5_ofMissing 35 = .ok (.iconst 4, 1) := by decide +kernel
theorem dX5_ofMissing_36 : decode cX5_ofMissing 36 = .ok (.iload_n 1, 1) := by decide +kernel
theorem dX5_ofMissing_37 : decode cX5_ofMissing 37 = .ok (.imul, 1) := by decide +kernel
theorem dX5_ofMissing_38 : decode cX5_ofMissing 38 = .ok (.iadd, 1) := by decide +kernel
theorem dX5_ofMissing_39 : decode cX5_ofMissing 39 = .ok (.iload_n 2, 1) := by decide +kernel
theorem dX5_ofMissing_40 : decode cX5_ofMissing 40 = .ok (.iadd, 1) := by decide +kernel
theorem dX5_ofMissing_41 : decode cX5_ofMissing 41 = .ok (.iaload, 1) := by decide +kernel
theorem dX5_ofMissing_42 : decode cX5_ofMissing 42 = .ok (.goto 5, 3) := by decide +kernel
theorem dX5_ofMissing_45 : decode cX5_ofMissing 45 = .ok (.bipush (-2), 2) := by decide +kernel
theorem dX5_ofMissing_47 : decode cX5_ofMissing 47 = .ok (.ireturn, 1) := by decide +kernel
set_option maxRecDepth 20000 in
theorem ggX5_count_X5_in : GoodIn wsX5_count wsX5_in := goodIn_r _ [7] (by decide +kernel) (by decide +kernel)
set_option maxRecDepth 20000 in
theorem gX5_count_X5_in : GoodIn wsX5_count (va_wsS RX5 40 yX5_in wsX5_in) := goodIn_app (goodIn_of _ (by decide +kernel)) ggX5_count_X5_in
theorem dX5_count_0 : decode cX5_count 0 = .ok (.iload_n 1, 1) := by decide +kernel
theorem dX5_count_1 : decode cX5_count 1 = .ok (.iconst 0, 1) := by decide +kernel
theorem dX5_count_2 : decode cX5_count 2 = .ok (.bipush 25, 2) := by decide +kernel
theorem dX5_count_4 : decode cX5_count 4 = .ok (.invokestatic 40, 3) := by decide +kernel
theorem dX5_count_7 : decode cX5_count 7 = .ok (.ifCond .ne 6, 3) := by decide +kernel
theorem dX5_count_10 : decode cX5_count 10 = .ok (.bipush (-2), 2) := by decide +kernel
theorem dX5_count_12 : decode cX5_count 12 = .ok (.ireturn, 1) := by decide +kernel
theorem dX5_count_13 : decode cX5_count 13 = .ok (.iload_n 1, 1) := by decide +kernel
theorem dX5_count_14 : decode cX5_count 14 = .ok (.bipush 16, 2) := by decide +kernel
theorem dX5_count_16 : decode cX5_count 16 = .ok (.if_icmp .ge 28, 3) := by decide +kernel
theorem dX5_count_19 : decode cX5_count 19 = .ok (.iload_n 1, 1) := by decide +kernel
theorem dX5_count_20 : decode cX5_count 20 = .ok (.ifCond .ne 12, 3) := by decide +kernel
theorem dX5_count_23 : decode cX5_count 23 = .ok (.aload_n 0, 1) := by decide +kernel
theorem dX5_count_24 : decode cX5_count 24 = .ok (.getfield 7, 3) := by decide +kernel
theorem dX5_count_27 : decode cX5_count 27 = .ok (.iconst 0, 1) := by decide +kernel
theorem dX5_count_28 : decode cX5_count 28 = .ok (.iaload, 1) := by decide +kernel
theorem dX5_count_29 : decode cX5_count 29 = .ok (.goto 14, 3) := by decide +kernel
theorem dX5_count_32 : decode cX5_count 32 = .ok (.aload_n 0, 1) := by decide +kernel
theorem dX5_count_33 : decode cX5_count 33 = .ok (.getfield 7, 3) := by decide +kernel
theorem dX5_count_36 : decode cX5_count 36 = .ok (.bipush 9, 2) := by decide +kernel
theorem dX5_count_38 : decode cX5_count 38 = .ok (.iload_n 1, 1) := by decide +kernel
theorem dX5_count_39 : decode cX5_count 39 = .ok (.iadd, 1) := by decide +kernel
theorem dX5_count_40 : decode cX5_count 40 = .ok (.iconst 1, 1) := by decide +kernel
theorem dX5_count_41 : decode cX5_count 41 = .ok (.isub, 1) := by decide +kernel
theorem dX5_count_42 : decode cX5_count 42 = .ok (.iaload, 1) := by decide +kernel
theorem dX5_count_43 : decode cX5_count 43 = .ok (.ireturn, 1) := by decide +kernel
theorem dX5_count_44 : decode cX5_count 44 = .ok (.iload_n 1, 1) := by decide +kernel
theorem dX5_count_45 : decode cX5_count 45 = .ok (.bipush 24, 2) := by decide +kernel
theorem dX5_count_47 : decode cX5_count 47 = .ok (.if_icmp .ge 17, 3) := by decide +kernel
theorem dX5_count_50 : decode cX5_count 50 = .ok (.aload_n 0, 1) := by decide +kernel
theorem dX5_count_51 : decode cX5_count 51 = .ok (.getfield 7, 3) := by decide +kernel
theorem dX5_count_54 : decode cX5_count 54 = .ok (.iconst 1, 1) := by decide +kernel
theorem dX5_count_55 : decode cX5_count 55 = .ok (.iload_n 1, 1) := by decide +kernel
theorem dX5_count_56 : decode cX5_count 56 = .ok (.iadd, 1) := by decide +kernel
theorem dX5_count_57 : decode cX5_count 57 = .ok (.bipush 16, 2) := by decide +kernel
theorem dX5_count_59 : decode cX5_count 59 = .ok (.isub, 1) := by decide +kernel
theorem dX5_count_60 : decode cX5_count 60 = .ok (.iaload, 1) := by decide +kernel
theorem dX5_count_61 : decode cX5_count 61 = .ok (.goto 20, 3) := by decide +kernel
theorem dX5_count_64 : decode cX5_count 64 = .ok (.iload_n 1, 1) := by decide +kernel
theorem dX5_count_65 : decode cX5_count 65 = .ok (.bipush 24, 2) := by decide +kernel
theorem dX5_count_67 : decode cX5_count 67 = .ok (.if_icmp .ne 10, 3) := by decide +kernel
theorem dX5_count_70 : decode cX5_count 70 = .ok (.aload_n 0, 1) := by decide +kernel
theorem dX5_count_71 : decode cX5_count 71 = .ok (.getfield 112, 3) := by decide +kernel
theorem dX5_count_74 : decode cX5_count 74 = .ok (.goto 7, 3) := by decide +kernel
theorem dX5_count_77 : decode cX5_count 77 = .ok (.aload_n 0, 1) := by decide +kernel
theorem dX5_count_78 : decode cX5_count 78 = .ok (.getfield 32, 3) := by decide +kernel
theorem dX5_count_81 : decode cX5_count 81 = .ok (.ireturn, 1) := by decide +kernel
theorem dX5_shown_0 : decode cX5_shown 0 = .ok (.iconst 0, 1) := by decide +kernel
theorem dX5_shown_1 : decode cX5_shown 1 = .ok (.istore_n 1, 1) := by decide +kernel
theorem dX5_shown_2 : decode cX5_shown 2 = .ok (.iload_n 1, 1) := by decide +kernel
theorem dX5_shown_3 : decode cX5_shown 3 = .ok (.iconst 2, 1) := by decide +kernel
theorem dX5_shown_4 : decode cX5_shown 4 = .ok (.aload_n 0, 1) := by decide +kernel
theorem dX5_shown_5 : decode cX5_shown 5 = .ok (.getfield 7, 3) := by decide +kernel
theorem dX5_shown_8 : decode cX5_shown 8 = .ok (.iconst 4, 1) := by decide +kernel
theorem dX5_shown_9 : decode cX5_shown 9 = .ok (.iaload, 1) := by decide +kernel
theorem dX5_shown_10 : decode cX5_shown 10 = .ok (.imul, 1) := by decide +kernel
theorem dX5_shown_11 : decode cX5_shown 11 = .ok (.if_icmp .ge 27, 3) := by decide +kernel
theorem dX5_shown_14 : decode cX5_shown 14 = .ok (.aload_n 0, 1) := by decide +kernel
theorem dX5_shown_15 : decode cX5_shown 15 = .ok (.getfield 7, 3) := by decide +kernel
theorem dX5_shown_18 : decode cX5_shown 18 = .ok (.bipush 106, 2) := by decide +kernel
theorem dX5_shown_20 : decode cX5_shown 20 = .ok (.iconst 3, 1) := by decide +kernel
theorem dX5_shown_21 : decode cX5_shown 21 = .ok (.iload_n 1, 1) := by decide +kernel
theorem dX5_shown_22 : decode cX5_shown 22 = .ok (.imul, 1) := by decide +kernel
theorem dX5_shown_23 : decode cX5_shown 23 = .ok (.iadd, 1) := by decide +kernel
theorem dX5_shown_24 : decode cX5_shown 24 = .ok (.iconst 1, 1) := by decide +kernel
theorem dX5_shown_25 : decode cX5_shown 25 = .ok (.iadd, 1) := by decide +kernel
theorem dX5_shown_26 : decode cX5_shown 26 = .ok (.iaload, 1) := by decide +kernel
theorem dX5_shown_27 : decode cX5_shown 27 = .ok (.bipush (-6), 2) := by decide +kernel
theorem dX5_shown_29 : decode cX5_shown 29 = .ok (.if_icmp .eq 9, 3) := by decide +kernel
theorem dX5_shown_32 : decode cX5_shown 32 = .ok (.iinc 1 1, 3) := by decide +kernel
theorem dX5_shown_35 : decode cX5_shown 35 = .ok (.goto (-33), 3) := by decide +kernel
theorem dX5_shown_38 : decode cX5_shown 38 = .ok (.iload_n 1, 1) := by decide +kernel
theorem dX5_shown_39 : decode cX5_shown 39 = .ok (.ireturn, 1) := by decide +kernel
set_option maxRecDepth 20000 in
theorem ggX5_ratio_Jxf58ca_floatToIntBits_5c35a : GoodIn wsX5_ratio wsJxf58ca_floatToIntBits_5c35a := goodIn_r _ [5, 6, 7, 8, 9, 10, 11, 12, 4, 13] (by decide +kernel) (by decide +kernel)
set_option maxRecDepth 20000 in
theorem gX5_ratio_Jxf58ca_floatToIntBits_5c35a : GoodIn wsX5_ratio (va_wsS RX5 115 yJxf58ca_floatToIntBits_5c35a wsJxf58ca_floatToIntBits_5c35a) := goodIn_app (goodIn_of _ (by decide +kernel)) ggX5_ratio_Jxf58ca_floatToIntBits_5c35a
theorem dX5_ratio_0 : decode cX5_ratio 0 = .ok (.aload_n 0, 1) := by decide +kernel
theorem dX5_ratio_1 : decode cX5_ratio 1 = .ok (.getfield 7, 3) := by decide +kernel
theorem dX5_ratio_4 : decode cX5_ratio 4 = .ok (.iconst 1, 1) := by decide +kernel
theorem dX5_ratio_5 : decode cX5_ratio 5 = .ok (.iaload, 1) := by decide +kernel
theorem dX5_ratio_6 : decode cX5_ratio 6 = .ok (.i2d, 1) := by decide +kernel
theorem dX5_ratio_7 : decode cX5_ratio 7 = .ok (.iconst 2, 1) := by decide +kernel
theorem dX5_ratio_8 : decode cX5_ratio 8 = .ok (.aload_n 0, 1) := by decide +kernel
theorem dX5_ratio_9 : decode cX5_ratio 9 = .ok (.getfield 7, 3) := by decide +kernel
theorem dX5_ratio_12 : decode cX5_ratio 12 = .ok (.iconst 2, 1) := by decide +kernel
theorem dX5_ratio_13 : decode cX5_ratio 13 = .ok (.iaload, 1) := by decide +kernel
theorem dX5_ratio_14 : decode cX5_ratio 14 = .ok (.imul, 1) := by decide +kernel
theorem dX5_ratio_15 : decode cX5_ratio 15 = .ok (.i2d, 1) := by decide +kernel
theorem dX5_ratio_16 : decode cX5_ratio 16 = .ok (.ddiv, 1) := by decide +kernel
theorem dX5_ratio_17 : decode cX5_ratio 17 = .ok (.d2f, 1) := by decide +kernel
theorem dX5_ratio_18 : decode cX5_ratio 18 = .ok (.invokestatic 115, 3) := by decide +kernel
theorem dX5_ratio_21 : decode cX5_ratio 21 = .ok (.ireturn, 1) := by decide +kernel
set_option maxRecDepth 20000 in
theorem ggX5_fill_Jxe99ae_doubleToLongBits_ccdee : GoodIn wsX5_fill wsJxe99ae_doubleToLongBits_ccdee := goodIn_r _ [5, 6, 7, 8, 9, 10, 11, 12, 4, 13] (by decide +kernel) (by decide +kernel)
set_option maxRecDepth 20000 in
theorem gX5_fill_Jxe99ae_doubleToLongBits_ccdee : GoodIn wsX5_fill (va_wsS RX5 121 yJxe99ae_doubleToLongBits_ccdee wsJxe99ae_doubleToLongBits_ccdee) := goodIn_app (goodIn_of _ (by decide +kernel)) ggX5_fill_Jxe99ae_doubleToLongBits_ccdee
theorem dX5_fill_0 : decode cX5_fill 0 = .ok (.aload_n 0, 1) := by decide +kernel
theorem dX5_fill_1 : decode cX5_fill 1 = .ok (.getfield 7, 3) := by decide +kernel
theorem dX5_fill_4 : decode cX5_fill 4 = .ok (.iconst 0, 1) := by decide +kernel
theorem dX5_fill_5 : decode cX5_fill 5 = .ok (.iaload, 1) := by decide +kernel
theorem dX5_fill_6 : decode cX5_fill 6 = .ok (.ifCond .ne 7, 3) := by decide +kernel
theorem dX5_fill_9 : decode cX5_fill 9 = .ok (.lconst 0, 1) := by decide +kernel
theorem dX5_fill_10 : decode cX5_fill 10 = .ok (.goto 22, 3) := by decide +kernel
theorem dX5_fill_13 : decode cX5_fill 13 = .ok (.aload_n 0, 1) := by decide +kernel
theorem dX5_fill_14 : decode cX5_fill 14 = .ok (.getfield 7, 3) := by decide +kernel
theorem dX5_fill_17 : decode cX5_fill 17 = .ok (.bipush 25, 2) := by decide +kernel
theorem dX5_fill_19 : decode cX5_fill 19 = .ok (.iaload, 1) := by decide +kernel
theorem dX5_fill_20 : decode cX5_fill 20 = .ok (.i2d, 1) := by decide +kernel
theorem dX5_fill_21 : decode cX5_fill 21 = .ok (.aload_n 0, 1) := by decide +kernel
theorem dX5_fill_22 : decode cX5_fill 22 = .ok (.getfield 7, 3) := by decide +kernel
theorem dX5_fill_25 : decode cX5_fill 25 = .ok (.iconst 0, 1) := by decide +kernel
theorem dX5_fill_26 : decode cX5_fill 26 = .ok (.iaload, 1) := by decide +kernel
theorem dX5_fill_27 : decode cX5_fill 27 = .ok (.i2d, 1) := by decide +kernel
theorem dX5_fill_28 : decode cX5_fill 28 = .ok (.ddiv, 1) := by decide +kernel
theorem dX5_fill_29 : decode cX5_fill 29 = .ok (.invokestatic 121, 3) := by decide +kernel
theorem dX5_fill_32 : decode cX5_fill 32 = .ok (.lreturn, 1) := by decide +kernel
set_option maxRecDepth 20000 in
theorem ggX5_tries_X5_lays : GoodIn wsX5_tries wsX5_lays := goodIn_r _ [6] (by decide +kernel) (by decide +kernel)
set_option maxRecDepth 20000 in
theorem gX5_tries_X5_lays : GoodIn wsX5_tries (va_wsS RX5 36 yX5_lays wsX5_lays) := goodIn_app (goodIn_of _ (by decide +kernel)) ggX5_tries_X5_lays
theorem dX5_tries_0 : decode cX5_tries 0 = .ok (.aload_n 0, 1) := by decide +kernel
theorem dX5_tries_1 : decode cX5_tries 1 = .ok (.getfield 7, 3) := by decide +kernel
theorem dX5_tries_4 : decode cX5_tries 4 = .ok (.iconst 0, 1) := by decide +kernel
theorem dX5_tries_5 : decode cX5_tries 5 = .ok (.aload_n 0, 1) := by decide +kernel
theorem dX5_tries_6 : decode cX5_tries 6 = .ok (.getfield 13, 3) := by decide +kernel
theorem dX5_tries_9 : decode cX5_tries 9 = .ok (.iconst 0, 1) := by decide +kernel
theorem dX5_tries_10 : decode cX5_tries 10 = .ok (.invokestatic 36, 3) := by decide +kernel
theorem dX5_tries_13 : decode cX5_tries 13 = .ok (.return_, 1) := by decide +kernel
theorem dX5_more_0 : decode cX5_more 0 = .ok (.iload_n 1, 1) := by decide +kernel
theorem dX5_more_1 : decode cX5_more 1 = .ok (.ifCond .ne 8, 3) := by decide +kernel
theorem dX5_more_4 : decode cX5_more 4 = .ok (.bipush 12, 2) := by decide +kernel
theorem dX5_more_6 : decode cX5_more 6 = .ok (.goto 15, 3) := by decide +kernel
theorem dX5_more_9 : decode cX5_more 9 = .ok (.iload_n 1, 1) := by decide +kernel
theorem dX5_more_10 : decode cX5_more 10 = .ok (.iconst 1, 1) := by decide +kernel
theorem dX5_more_11 : decode cX5_more 11 = .ok (.if_icmp .ne 8, 3) := by decide +kernel
theorem dX5_more_14 : decode cX5_more 14 = .ok (.bipush 14, 2) := by decide +kernel
theorem dX5_more_16 : decode cX5_more 16 = .ok (.goto 5, 3) := by decide +kernel
theorem dX5_more_19 : decode cX5_more 19 = .ok (.bipush 20, 2) := by decide +kernel
theorem dX5_more_21 : decode cX5_more 21 = .ok (.istore_n 2, 1) := by decide +kernel
theorem dX5_more_22 : decode cX5_more 22 = .ok (.aload_n 0, 1) := by decide +kernel
theorem dX5_more_23 : decode cX5_more 23 = .ok (.getfield 13, 3) := by decide +kernel
theorem dX5_more_26 : decode cX5_more 26 = .ok (.iload_n 2, 1) := by decide +kernel
theorem dX5_more_27 : decode cX5_more 27 = .ok (.iaload, 1) := by decide +kernel
theorem dX5_more_28 : decode cX5_more 28 = .ok (.aload_n 0, 1) := by decide +kernel
theorem dX5_more_29 : decode cX5_more 29 = .ok (.getfield 7, 3) := by decide +kernel
theorem dX5_more_32 : decode cX5_more 32 = .ok (.iload_n 2, 1) := by decide +kernel
theorem dX5_more_33 : decode cX5_more 33 = .ok (.iaload, 1) := by decide +kernel
theorem dX5_more_34 : decode cX5_more 34 = .ok (.isub, 1) := by decide +kernel
theorem dX5_more_35 : decode cX5_more 35 = .ok (.ireturn, 1) := by decide +kernel
set_option maxRecDepth 20000 in
theorem ggX5_areTicks_X5_in : GoodIn wsX5_areTicks wsX5_in := goodIn_r _ [4] (by decide +kernel) (by decide +kernel)
set_option maxRecDepth 20000 in
theorem gX5_areTicks_X5_in : GoodIn wsX5_areTicks (va_wsS RX5 40 yX5_in wsX5_in) := goodIn_app (goodIn_of _ (by decide +kernel)) ggX5_areTicks_X5_in
theorem dX5_areTicks_0 : decode cX5_areTicks 0 = .ok (.iload_n 0, 1) := by decide +kernel
theorem dX5_areTicks_1 : decode cX5_areTicks 1 = .ok (.iconst 1, 1) := by decide +kernel
theorem dX5_areTicks_2 : decode cX5_areTicks 2 = .ok (.sipush 999, 3) := by decide +kernel
theorem dX5_areTicks_5 : decode cX5_areTicks 5 = .ok (.invokestatic 40, 3) := by decide +kernel
theorem dX5_areTicks_8 : decode cX5_areTicks 8 = .ok (.ireturn, 1) := by decide +kernel
set_option maxRecDepth 20000 in
theorem ggX5_would_X5_areTicks : GoodIn wsX5_would wsX5_areTicks := goodIn_r _ [5, 6, 7, 4, 8] (by decide +kernel) (by decide +kernel)
set_option maxRecDepth 20000 in
theorem gX5_would_X5_areTicks : GoodIn wsX5_would (va_wsS RX5 127 yX5_areTicks wsX5_areTicks) := goodIn_app (goodIn_of _ (by decide +kernel)) ggX5_would_X5_areTicks
set_option maxRecDepth 20000 in
theorem ggX5_would_X5_in : GoodIn wsX5_would wsX5_in := goodIn_r _ [8] (by decide +kernel) (by decide +kernel)
set_option maxRecDepth 20000 in
theorem gX5_would_X5_in : GoodIn wsX5_would (va_wsS RX5 40 yX5_in wsX5_in) := goodIn_app (goodIn_of _ (by decide +kernel)) ggX5_would_X5_in
set_option maxRecDepth 20000 in
theorem ggX5_would_X5_tries : GoodIn wsX5_would wsX5_tries := goodIn_r _ [12, 13, 1, 14, 15, 4, 16, 57, 58, 59, 60, 61, 62, 63, 64, 65, 66, 67] (by decide +kernel) (by decide +kernel)
set_option maxRecDepth 20000 in
theorem gX5_would_X5_tries : GoodIn wsX5_would (wsV RX5 131 RX5 yX5_tries wsX5_tries) := goodIn_app (goodIn_of _ (by decide +kernel)) ggX5_would_X5_tries
set_option maxRecDepth 20000 in
theorem ggX5_would_X5_passes : GoodIn wsX5_would wsX5_passes := goodIn_r _ [19, 20, 21, 4, 22, 23, 24, 25, 26, 27, 28, 29, 30, 31, 32, 33, 34, 35, 36, 37, 38, 39, 40, 41, 42, 43, 44, 45, 46, 47, 48, 49, 50, 51, 52] (by decide +kernel) (by decide +kernel)
set_option maxRecDepth 20000 in
theorem gX5_would_X5_passes : GoodIn wsX5_would (va_wsS RX5 109 yX5_passes wsX5_passes) := goodIn_app (goodIn_of _ (by decide +kernel)) ggX5_would_X5_passes
set_option maxRecDepth 20000 in
theorem ggX5_would_X5_more : GoodIn wsX5_would wsX5_more := goodIn_r _ [56, 1, 13, 57, 58, 59, 60, 61, 62, 63, 64, 65, 66, 67] (by decide +kernel) (by decide +kernel)
set_option maxRecDepth 20000 in
theorem gX5_would_X5_more : GoodIn wsX5_would (wsV RX5 134 RX5 yX5_more wsX5_more) := goodIn_app (goodIn_of _ (by decide +kernel)) ggX5_would_X5_more
theorem dX5_would_0 : decode cX5_would 0 = .ok (.iload_n 1, 1) := by decide +kernel
theorem dX5_would_1 : decode cX5_would 1 = .ok (.invokestatic 127, 3) := by decide +kernel
theorem dX5_would_4 : decode cX5_would 4 = .ok (.ifCond .eq 12, 3) := by decide +kernel
theorem dX5_would_7 : decode cX5_would 7 = .ok (.iload_n 2, 1) := by decide +kernel
theorem dX5_would_8 : decode cX5_would 8 = .ok (.iconst 0, 1) := by decide +kernel
theorem dX5_would_9 : decode cX5_would 9 = .ok (.iconst 2, 1) := by decide +kernel
theorem dX5_would_10 : decode cX5_would 10 = .ok (.invokestatic 40, 3) := by decide +kernel
theorem dX5_would_13 : decode cX5_would 13 = .ok (.ifCond .ne 6, 3) := by decide +kernel
theorem dX5_would_16 : decode cX5_would 16 = .ok (.bipush (-2), 2) := by decide +kernel
theorem dX5_would_18 : decode cX5_would 18 = .ok (.ireturn, 1) := by decide +kernel
theorem dX5_would_19 : decode cX5_would 19 = .ok (.aload_n 0, 1) := by decide +kernel
theorem dX5_would_20 : decode cX5_would 20 = .ok (.invokevirtual 131, 3) := by decide +kernel
theorem dX5_would_23 : decode cX5_would 23 = .ok (.aload_n 0, 1) := by decide +kernel
theorem dX5_would_24 : decode cX5_would 24 = .ok (.getfield 13, 3) := by decide +kernel
theorem dX5_would_27 : decode cX5_would 27 = .ok (.iload_n 1, 1) := by decide +kernel
theorem dX5_would_28 : decode cX5_would 28 = .ok (.invokestatic 109, 3) := by decide +kernel
theorem dX5_would_31 : decode cX5_would 31 = .ok (.aload_n 0, 1) := by decide +kernel
theorem dX5_would_32 : decode cX5_would 32 = .ok (.iload_n 2, 1) := by decide +kernel
theorem dX5_would_33 : decode cX5_would 33 = .ok (.invokevirtual 134, 3) := by decide +kernel
theorem dX5_would_36 : decode cX5_would 36 = .ok (.ireturn, 1) := by decide +kernel
set_option maxRecDepth 20000 in
theorem ggX5_leastRoom_X5_areTicks : GoodIn wsX5_leastRoom wsX5_areTicks := goodIn_r _ [6, 7, 8, 5, 9] (by decide +kernel) (by decide +kernel)
set_option maxRecDepth 20000 in
theorem gX5_leastRoom_X5_areTicks : GoodIn wsX5_leastRoom (va_wsS RX5 127 yX5_areTicks wsX5_areTicks) := goodIn_app (goodIn_of _ (by decide +kernel)) ggX5_leastRoom_X5_areTicks
set_option maxRecDepth 20000 in
theorem ggX5_leastRoom_X5_tries : GoodIn wsX5_leastRoom wsX5_tries := goodIn_r _ [13, 1, 2, 14, 15, 5, 16, 57, 58, 59, 60, 61, 62, 63, 64, 65, 66, 67] (by decide +kernel) (by decide +kernel)
set_option maxRecDepth 20000 in
theorem gX5_leastRoom_X5_tries : GoodIn wsX5_leastRoom (wsV RX5 131 RX5 yX5_tries wsX5_tries) := goodIn_app (goodIn_of _ (by decide +kernel)) ggX5_leastRoom_X5_tries
set_option maxRecDepth 20000 in
theorem ggX5_leastRoom_X5_passes : GoodIn wsX5_leastRoom wsX5_passes := goodIn_r _ [19, 20, 21, 5, 22, 23, 24, 25, 26, 27, 28, 29, 30, 31, 32, 33, 34, 35, 36, 37, 38, 39, 40, 41, 42, 43, 44, 45, 46, 47, 48, 49, 50, 51, 52] (by decide +kernel) (by decide +kernel)
set_option maxRecDepth 20000 in
theorem gX5_leastRoom_X5_passes : GoodIn wsX5_leastRoom (va_wsS RX5 109 yX5_passes wsX5_passes) := goodIn_app (goodIn_of _ (by decide +kernel)) ggX5_leastRoom_X5_passes
set_option maxRecDepth 20000 in
theorem ggX5_leastRoom_X5_more : GoodIn wsX5_leastRoom wsX5_more := goodIn_r _ [56, 2, 1, 57, 58, 59, 60, 61, 62, 63, 64, 65, 66, 67] (by decide +kernel) (by decide +kernel)
set_option maxRecDepth 20000 in
theorem gX5_leastRoom_X5_more : GoodIn wsX5_leastRoom (wsV RX5 134 RX5 yX5_more wsX5_more) := goodIn_app (goodIn_of _ (by decide +kernel)) ggX5_leastRoom_X5_more
theorem dX5_leastRoom_0 : decode cX5_leastRoom 0 = .ok (.iload_n 1, 1) := by decide +kernel
theorem dX5_leastRoom_1 : decode cX5_leastRoom 1 = .ok (.invokestatic 127, 3) := by decide +kernel
theorem dX5_leastRoom_4 : decode cX5_leastRoom 4 = .ok (.ifCond .ne 6, 3) := by decide +kernel
theorem dX5_leastRoom_7 : decode cX5_leastRoom 7 = .ok (.bipush (-2), 2) := by decide +kernel
theorem dX5_leastRoom_9 : decode cX5_leastRoom 9 = .ok (.ireturn, 1) := by decide +kernel
theorem dX5_leastRoom_10 : decode cX5_leastRoom 10 = .ok (.aload_n 0, 1) := by decide +kernel
theorem dX5_leastRoom_11 : decode cX5_leastRoom 11 = .ok (.getfield 7, 3) := by decide +kernel
theorem dX5_leastRoom_14 : decode cX5_leastRoom 14 = .ok (.bipush 10, 2) := by decide +kernel
theorem dX5_leastRoom_16 : decode cX5_leastRoom 16 = .ok (.iaload, 1) := by decide +kernel
theorem dX5_leastRoom_17 : decode cX5_leastRoom 17 = .ok (.iconst 1, 1) := by decide +kernel
theorem dX5_leastRoom_18 : decode cX5_leastRoom 18 = .ok (.if_icmp .le 13, 3) := by decide +kernel
theorem dX5_leastRoom_21 : decode cX5_leastRoom 21 = .ok (.aload_n 0, 1) := by decide +kernel
theorem dX5_leastRoom_22 : decode cX5_leastRoom 22 = .ok (.getfield 7, 3) := by decide +kernel
theorem dX5_leastRoom_25 : decode cX5_leastRoom 25 = .ok (.bipush 10, 2) := by decide +kernel
theorem dX5_leastRoom_27 : decode cX5_leastRoom 27 = .ok (.iaload, 1) := by decide +kernel
theorem dX5_leastRoom_28 : decode cX5_leastRoom 28 = .ok (.goto 4, 3) := by decide +kernel
theorem dX5_leastRoom_31 : decode cX5_leastRoom 31 = .ok (.iconst 1, 1) := by decide +kernel
theorem dX5_leastRoom_32 : decode cX5_leastRoom 32 = .ok (.istore_n 2, 1) := by decide +kernel
theorem dX5_leastRoom_33 : decode cX5_leastRoom 33 = .ok (.iload_n 2, 1) := by decide +kernel
theorem dX5_leastRoom_34 : decode cX5_leastRoom 34 = .ok (.bipush 16, 2) := by decide +kernel
theorem dX5_leastRoom_36 : decode cX5_leastRoom 36 = .ok (.if_icmp .gt 38, 3) := by decide +kernel
theorem dX5_leastRoom_39 : decode cX5_leastRoom 39 = .ok (.aload_n 0, 1) := by decide +kernel
theorem dX5_leastRoom_40 : decode cX5_leastRoom 40 = .ok (.invokevirtual 131, 3) := by decide +kernel
theorem dX5_leastRoom_43 : decode cX5_leastRoom 43 = .ok (.aload_n 0, 1) := by decide +kernel
theorem dX5_leastRoom_44 : decode cX5_leastRoom 44 = .ok (.getfield 13, 3) := by decide +kernel
theorem dX5_leastRoom_47 : decode cX5_leastRoom 47 = .ok (.iconst 3, 1) := by decide +kernel
theorem dX5_leastRoom_48 : decode cX5_leastRoom 48 = .ok (.iload_n 2, 1) := by decide +kernel
theorem dX5_leastRoom_49 : decode cX5_leastRoom 49 = .ok (.iastore, 1) := by decide +kernel
theorem dX5_leastRoom_50 : decode cX5_leastRoom 50 = .ok (.aload_n 0, 1) := by decide +kernel
theorem dX5_leastRoom_51 : decode cX5_leastRoom 51 = .ok (.getfield 13, 3) := by decide +kernel
theorem dX5_leastRoom_54 : decode cX5_leastRoom 54 = .ok (.iload_n 1, 1) := by decide +kernel
theorem dX5_leastRoom_55 : decode cX5_leastRoom 55 = .ok (.invokestatic 109, 3) := by decide +kernel
theorem dX5_leastRoom_58 : decode cX5_leastRoom 58 = .ok (.aload_n 0, 1) := by decide +kernel
theorem dX5_leastRoom_59 : decode cX5_leastRoom 59 = .ok (.iconst 0, 1) := by decide +kernel
theorem dX5_leastRoom_60 : decode cX5_leastRoom 60 = .ok (.invokevirtual 134, 3) := by decide +kernel
theorem dX5_leastRoom_63 : decode cX5_leastRoom 63 = .ok (.ifCond .ne 5, 3) := by decide +kernel
theorem dX5_leastRoom_66 : decode cX5_leastRoom 66 = .ok (.iload_n 2, 1) := by decide +kernel
theorem dX5_leastRoom_67 : decode cX5_leastRoom 67 = .ok (.ireturn, 1) := by decide +kernel
theorem dX5_leastRoom_68 : decode cX5_leastRoom 68 = .ok (.iinc 2 1, 3) := by decide +kernel
theorem dX5_leastRoom_71 : decode cX5_leastRoom 71 = .ok (.goto (-38), 3) := by decide +kernel
theorem dX5_leastRoom_74 : decode cX5_leastRoom 74 = .ok (.bipush (-6), 2) := by decide +kernel
theorem dX5_leastRoom_76 : decode cX5_leastRoom 76 = .ok (.ireturn, 1) := by decide +kernel
set_option maxRecDepth 20000 in
theorem ggX5_bestOut_X5_areTicks : GoodIn wsX5_bestOut wsX5_areTicks := goodIn_r _ [5, 6, 7, 4, 8] (by decide +kernel) (by decide +kernel)
set_option maxRecDepth 20000 in
theorem gX5_bestOut_X5_areTicks : GoodIn wsX5_bestOut (va_wsS RX5 127 yX5_areTicks wsX5_areTicks) := goodIn_app (goodIn_of _ (by decide +kernel)) ggX5_bestOut_X5_areTicks
set_option maxRecDepth 20000 in
theorem ggX5_bestOut_X5_in : GoodIn wsX5_bestOut wsX5_in := goodIn_r _ [8] (by decide +kernel) (by decide +kernel)
set_option maxRecDepth 20000 in
theorem gX5_bestOut_X5_in : GoodIn wsX5_bestOut (va_wsS RX5 40 yX5_in wsX5_in) := goodIn_app (goodIn_of _ (by decide +kernel)) ggX5_bestOut_X5_in
set_option maxRecDepth 20000 in
theorem ggX5_bestOut_X5_tries : GoodIn wsX5_bestOut wsX5_tries := goodIn_r _ [12, 13, 1, 14, 15, 4, 16, 57, 58, 59, 60, 61, 62, 63, 64, 65, 66, 67] (by decide +kernel) (by decide +kernel)
set_option maxRecDepth 20000 in
theorem gX5_bestOut_X5_tries : GoodIn wsX5_bestOut (wsV RX5 131 RX5 yX5_tries wsX5_tries) := goodIn_app (goodIn_of _ (by decide +kernel)) ggX5_bestOut_X5_tries
set_option maxRecDepth 20000 in
theorem ggX5_bestOut_X5_passes : GoodIn wsX5_bestOut wsX5_passes := goodIn_r _ [19, 20, 21, 4, 22, 23, 24, 25, 26, 27, 28, 29, 30, 31, 32, 33, 34, 35, 36, 37, 38, 39, 40, 41, 42, 43, 44, 45, 46, 47, 48, 49, 50, 51, 52] (by decide +kernel) (by decide +kernel)
set_option maxRecDepth 20000 in
theorem gX5_bestOut_X5_passes : GoodIn wsX5_bestOut (va_wsS RX5 109 yX5_passes wsX5_passes) := goodIn_app (goodIn_of _ (by decide +kernel)) ggX5_bestOut_X5_passes
set_option maxRecDepth 20000 in
theorem ggX5_bestOut_X5_more : GoodIn wsX5_bestOut wsX5_more := goodIn_r _ [56, 1, 13, 57, 58, 59, 60, 61, 62, 63, 64, 65, 66, 67] (by decide +kernel) (by decide +kernel)
set_option maxRecDepth 20000 in
theorem gX5_bestOut_X5_more : GoodIn wsX5_bestOut (wsV RX5 134 RX5 yX5_more wsX5_more) := goodIn_app (goodIn_of _ (by decide +kernel)) ggX5_bestOut_X5_more
theorem dX5_bestOut_0 : decode cX5_bestOut 0 = .ok (.iload_n 1, 1) := by decide +kernel
theorem dX5_bestOut_1 : decode cX5_bestOut 1 = .ok (.invokestatic 127, 3) := by decide +kernel
theorem dX5_bestOut_4 : decode cX5_bestOut 4 = .ok (.ifCond .eq 12, 3) := by decide +kernel
theorem dX5_bestOut_7 : decode cX5_bestOut 7 = .ok (.iload_n 2, 1) := by decide +kernel
theorem dX5_bestOut_8 : decode cX5_bestOut 8 = .ok (.iconst 0, 1) := by decide +kernel
theorem dX5_bestOut_9 : decode cX5_bestOut 9 = .ok (.iconst 1, 1) := by decide +kernel
theorem dX5_bestOut_10 : decode cX5_bestOut 10 = .ok (.invokestatic 40, 3) := by decide +kernel
theorem dX5_bestOut_13 : decode cX5_bestOut 13 = .ok (.ifCond .ne 6, 3) := by decide +kernel
theorem dX5_bestOut_16 : decode cX5_bestOut 16 = .ok (.bipush (-2), 2) := by decide +kernel
theorem dX5_bestOut_18 : decode cX5_bestOut 18 = .ok (.ireturn, 1) := by decide +kernel
theorem dX5_bestOut_19 : decode cX5_bestOut 19 = .ok (.iconst 0, 1) := by decide +kernel
theorem dX5_bestOut_20 : decode cX5_bestOut 20 = .ok (.istore_n 3, 1) := by decide +kernel
theorem dX5_bestOut_21 : decode cX5_bestOut 21 = .ok (.iconst 0, 1) := by decide +kernel
theorem dX5_bestOut_22 : decode cX5_bestOut 22 = .ok (.istore 4, 2) := by decide +kernel
theorem dX5_bestOut_24 : decode cX5_bestOut 24 = .ok (.iconst 1, 1) := by decide +kernel
theorem dX5_bestOut_25 : decode cX5_bestOut 25 = .ok (.istore 5, 2) := by decide +kernel
theorem dX5_bestOut_27 : decode cX5_bestOut 27 = .ok (.iload 5, 2) := by decide +kernel
theorem dX5_bestOut_29 : decode cX5_bestOut 29 = .ok (.bipush 99, 2) := by decide +kernel
theorem dX5_bestOut_31 : decode cX5_bestOut 31 = .ok (.if_icmp .gt 60, 3) := by decide +kernel
theorem dX5_bestOut_34 : decode cX5_bestOut 34 = .ok (.aload_n 0, 1) := by decide +kernel
theorem dX5_bestOut_35 : decode cX5_bestOut 35 = .ok (.invokevirtual 131, 3) := by decide +kernel
theorem dX5_bestOut_38 : decode cX5_bestOut 38 = .ok (.aload_n 0, 1) := by decide +kernel
theorem dX5_bestOut_39 : decode cX5_bestOut 39 = .ok (.getfield 13, 3) := by decide +kernel
theorem dX5_bestOut_42 : decode cX5_bestOut 42 = .ok (.iconst 2, 1) := by decide +kernel
theorem dX5_bestOut_43 : decode cX5_bestOut 43 = .ok (.iload 5, 2) := by decide +kernel
theorem dX5_bestOut_45 : decode cX5_bestOut 45 = .ok (.iastore, 1) := by decide +kernel
theorem dX5_bestOut_46 : decode cX5_bestOut 46 = .ok (.aload_n 0, 1) := by decide +kernel
theorem dX5_bestOut_47 : decode cX5_bestOut 47 = .ok (.getfield 13, 3) := by decide +kernel
theorem dX5_bestOut_50 : decode cX5_bestOut 50 = .ok (.iload_n 1, 1) := by decide +kernel
theorem dX5_bestOut_51 : decode cX5_bestOut 51 = .ok (.invokestatic 109, 3) := by decide +kernel
theorem dX5_bestOut_54 : decode cX5_bestOut 54 = .ok (.aload_n 0, 1) := by decide +kernel
theorem dX5_bestOut_55 : decode cX5_bestOut 55 = .ok (.iconst 0, 1) := by decide +kernel
theorem dX5_bestOut_56 : decode cX5_bestOut 56 = .ok (.invokevirtual 134, 3) := by decide +kernel
theorem dX5_bestOut_59 : decode cX5_bestOut 59 = .ok (.aload_n 0, 1) := by decide +kernel
theorem dX5_bestOut_60 : decode cX5_bestOut 60 = .ok (.iconst 1, 1) := by decide +kernel
theorem dX5_bestOut_61 : decode cX5_bestOut 61 = .ok (.invokevirtual 134, 3) := by decide +kernel
theorem dX5_bestOut_64 : decode cX5_bestOut 64 = .ok (.iadd, 1) := by decide +kernel
theorem dX5_bestOut_65 : decode cX5_bestOut 65 = .ok (.istore 6, 2) := by decide +kernel
theorem dX5_bestOut_67 : decode cX5_bestOut 67 = .ok (.iload_n 3, 1) := by decide +kernel
theorem dX5_bestOut_68 : decode cX5_bestOut 68 = .ok (.ifCond .eq 10, 3) := by decide +kernel
theorem dX5_bestOut_71 : decode cX5_bestOut 71 = .ok (.iload 6, 2) := by decide +kernel
theorem dX5_bestOut_73 : decode cX5_bestOut 73 = .ok (.iload 4, 2) := by decide +kernel
theorem dX5_bestOut_75 : decode cX5_bestOut 75 = .ok (.if_icmp .ge 10, 3) := by decide +kernel
theorem dX5_bestOut_78 : decode cX5_bestOut 78 = .ok (.iload 5, 2) := by decide +kernel
theorem dX5_bestOut_80 : decode cX5_bestOut 80 = .ok (.istore_n 3, 1) := by decide +kernel
theorem dX5_bestOut_81 : decode cX5_bestOut 81 = .ok (.iload 6, 2) := by decide +kernel
theorem dX5_bestOut_83 : decode cX5_bestOut 83 = .ok (.istore 4, 2) := by decide +kernel
theorem dX5_bestOut_85 : decode cX5_bestOut 85 = .ok (.iinc 5 1, 3) := by decide +kernel
theorem dX5_bestOut_88 : decode cX5_bestOut 88 = .ok (.goto (-61), 3) := by decide +kernel
theorem dX5_bestOut_91 : decode cX5_bestOut 91 = .ok (.iload_n 2, 1) := by decide +kernel
theorem dX5_bestOut_92 : decode cX5_bestOut 92 = .ok (.ifCond .ne 7, 3) := by decide +kernel
theorem dX5_bestOut_95 : decode cX5_bestOut 95 = .ok (.iload_n 3, 1) := by decide +kernel
theorem dX5_bestOut_96 : decode cX5_bestOut 96 = .ok (.goto 5, 3) := by decide +kernel
theorem dX5_bestOut_99 : decode cX5_bestOut 99 = .ok (.iload 4, 2) := by decide +kernel
theorem dX5_bestOut_101 : decode cX5_bestOut 101 = .ok (.ireturn, 1) := by decide +kernel
theorem dX5_byteOf_0 : decode cX5_byteOf 0 = .ok (.lload_n 0, 1) := by decide +kernel
theorem dX5_byteOf_1 : decode cX5_byteOf 1 = .ok (.bipush 8, 2) := by decide +kernel
theorem dX5_byteOf_3 : decode cX5_byteOf 3 = .ok (.iload_n 2, 1) := by decide +kernel
theorem dX5_byteOf_4 : decode cX5_byteOf 4 = .ok (.imul, 1) := by decide +kernel
theorem dX5_byteOf_5 : decode cX5_byteOf 5 = .ok (.lshr, 1) := by decide +kernel
theorem dX5_byteOf_6 : decode cX5_byteOf 6 = .ok (.ldc2_w 137, 3) := by decide +kernel
theorem dX5_byteOf_9 : decode cX5_byteOf 9 = .ok (.land, 1) := by decide +kernel
theorem dX5_byteOf_10 : decode cX5_byteOf 10 = .ok (.l2i, 1) := by decide +kernel
theorem dX5_byteOf_11 : decode cX5_byteOf 11 = .ok (.ireturn, 1) := by decide +kernel
set_option maxRecDepth 20000 in
theorem ggX5_toldBy_X5_byteOf : GoodIn wsX5_toldBy wsX5_byteOf := goodIn_r _ [4, 5] (by decide +kernel) (by decide +kernel)
set_option maxRecDepth 20000 in
theorem gX5_toldBy_X5_byteOf : GoodIn wsX5_toldBy (va_wsS RX5 139 yX5_byteOf wsX5_byteOf) := goodIn_app (goodIn_of _ (by decide +kernel)) ggX5_toldBy_X5_byteOf
set_option maxRecDepth 20000 in
theorem ggX5_toldBy_X5_in : GoodIn wsX5_toldBy wsX5_in := goodIn_r _ [8] (by decide +kernel) (by decide +kernel)
set_option maxRecDepth 20000 in
theorem gX5_toldBy_X5_in : GoodIn wsX5_toldBy (va_wsS RX5 40 yX5_in wsX5_in) := goodIn_app (goodIn_of _ (by decide +kernel)) ggX5_toldBy_X5_in
theorem dX5_toldBy_0 : decode cX5_toldBy 0 = .ok (.iconst 0, 1) := by decide +kernel
theorem dX5_toldBy_1 : decode cX5_toldBy 1 = .ok (.istore_n 2, 1) := by decide +kernel
theorem dX5_toldBy_2 : decode cX5_toldBy 2 = .ok (.iload_n 2, 1) := by decide +kernel
theorem dX5_toldBy_3 : decode cX5_toldBy 3 = .ok (.bipush 8, 2) := by decide +kernel
theorem dX5_toldBy_5 : decode cX5_toldBy 5 = .ok (.if_icmp .ge 35, 3) := by decide +kernel
theorem dX5_toldBy_8 : decode cX5_toldBy 8 = .ok (.lload_n 0, 1) := by decide +kernel
theorem dX5_toldBy_9 : decode cX5_toldBy 9 = .ok (.iload_n 2, 1) := by decide +kernel
theorem dX5_toldBy_10 : decode cX5_toldBy 10 = .ok (.invokestatic 139, 3) := by decide +kernel
theorem dX5_toldBy_13 : decode cX5_toldBy 13 = .ok (.ifCond .eq 27, 3) := by decide +kernel
theorem dX5_toldBy_16 : decode cX5_toldBy 16 = .ok (.lload_n 0, 1) := by decide +kernel
theorem dX5_toldBy_17 : decode cX5_toldBy 17 = .ok (.iload_n 2, 1) := by decide +kernel
theorem dX5_toldBy_18 : decode cX5_toldBy 18 = .ok (.invokestatic 139, 3) := by decide +kernel
theorem dX5_toldBy_21 : decode cX5_toldBy 21 = .ok (.bipush 33, 2) := by decide +kernel
theorem dX5_toldBy_23 : decode cX5_toldBy 23 = .ok (.bipush 126, 2) := by decide +kernel
theorem dX5_toldBy_25 : decode cX5_toldBy 25 = .ok (.invokestatic 40, 3) := by decide +kernel
theorem dX5_toldBy_28 : decode cX5_toldBy 28 = .ok (.ifCond .ne 6, 3) := by decide +kernel
theorem dX5_toldBy_31 : decode cX5_toldBy 31 = .ok (.bipush (-2), 2) := by decide +kernel
theorem dX5_toldBy_33 : decode cX5_toldBy 33 = .ok (.ireturn, 1) := by decide +kernel
theorem dX5_toldBy_34 : decode cX5_toldBy 34 = .ok (.iinc 2 1, 3) := by decide +kernel
theorem dX5_toldBy_37 : decode cX5_toldBy 37 = .ok (.goto (-35), 3) := by decide +kernel
theorem dX5_toldBy_40 : decode cX5_toldBy 40 = .ok (.iload_n 2, 1) := by decide +kernel
theorem dX5_toldBy_41 : decode cX5_toldBy 41 = .ok (.istore_n 3, 1) := by decide +kernel
theorem dX5_toldBy_42 : decode cX5_toldBy 42 = .ok (.iload_n 3, 1) := by decide +kernel
theorem dX5_toldBy_43 : decode cX5_toldBy 43 = .ok (.bipush 8, 2) := by decide +kernel
theorem dX5_toldBy_45 : decode cX5_toldBy 45 = .ok (.if_icmp .ge 20, 3) := by decide +kernel
theorem dX5_toldBy_48 : decode cX5_toldBy 48 = .ok (.lload_n 0, 1) := by decide +kernel
theorem dX5_toldBy_49 : decode cX5_toldBy 49 = .ok (.iload_n 3, 1) := by decide +kernel
theorem dX5_toldBy_50 : decode cX5_toldBy 50 = .ok (.invokestatic 139, 3) := by decide +kernel
theorem dX5_toldBy_53 : decode cX5_toldBy 53 = .ok (.ifCond .eq 6, 3) := by decide +kernel
theorem dX5_toldBy_56 : decode cX5_toldBy 56 = .ok (.bipush (-2), 2) := by decide +kernel
theorem dX5_toldBy_58 : decode cX5_toldBy 58 = .ok (.ireturn, 1) := by decide +kernel
theorem dX5_toldBy_59 : decode cX5_toldBy 59 = .ok (.iinc 3 1, 3) := by decide +kernel
theorem dX5_toldBy_62 : decode cX5_toldBy 62 = .ok (.goto (-20), 3) := by decide +kernel
theorem dX5_toldBy_65 : decode cX5_toldBy 65 = .ok (.iload_n 2, 1) := by decide +kernel
theorem dX5_toldBy_66 : decode cX5_toldBy 66 = .ok (.ifCond .ne 8, 3) := by decide +kernel
theorem dX5_toldBy_69 : decode cX5_toldBy 69 = .ok (.bipush (-2), 2) := by decide +kernel
theorem dX5_toldBy_71 : decode cX5_toldBy 71 = .ok (.goto 4, 3) := by decide +kernel
theorem dX5_toldBy_74 : decode cX5_toldBy 74 = .ok (.iload_n 2, 1) := by decide +kernel
theorem dX5_toldBy_75 : decode cX5_toldBy 75 = .ok (.ireturn, 1) := by decide +kernel
set_option maxRecDepth 20000 in
theorem ggX5_put_X5_toldBy : GoodIn wsX5_put wsX5_toldBy := goodIn_r _ [6, 7, 8, 5, 9, 10, 11, 12, 13] (by decide +kernel) (by decide +kernel)
set_option maxRecDepth 20000 in
theorem gX5_put_X5_toldBy : GoodIn wsX5_put (va_wsS RX5 143 yX5_toldBy wsX5_toldBy) := goodIn_app (goodIn_of _ (by decide +kernel)) ggX5_put_X5_toldBy
set_option maxRecDepth 20000 in
theorem ggX5_put_X5_byteOf : GoodIn wsX5_put wsX5_byteOf := goodIn_r _ [9, 10] (by decide +kernel) (by decide +kernel)
set_option maxRecDepth 20000 in
theorem gX5_put_X5_byteOf : GoodIn wsX5_put (va_wsS RX5 139 yX5_byteOf wsX5_byteOf) := goodIn_app (goodIn_of _ (by decide +kernel)) ggX5_put_X5_byteOf
theorem dX5_put_0 : decode cX5_put 0 = .ok (.lload_n 1, 1) := by decide +kernel
theorem dX5_put_1 : decode cX5_put 1 = .ok (.invokestatic 143, 3) := by decide +kernel
theorem dX5_put_4 : decode cX5_put 4 = .ok (.istore_n 3, 1) := by decide +kernel
theorem dX5_put_5 : decode cX5_put 5 = .ok (.iload_n 3, 1) := by decide +kernel
theorem dX5_put_6 : decode cX5_put 6 = .ok (.ifCond .ge 5, 3) := by decide +kernel
theorem dX5_put_9 : decode cX5_put 9 = .ok (.iload_n 3, 1) := by decide +kernel
theorem dX5_put_10 : decode cX5_put 10 = .ok (.ireturn, 1) := by decide +kernel
theorem dX5_put_11 : decode cX5_put 11 = .ok (.aload_n 0, 1) := by decide +kernel
theorem dX5_put_12 : decode cX5_put 12 = .ok (.getfield 112, 3) := by decide +kernel
theorem dX5_put_15 : decode cX5_put 15 = .ok (.iload_n 3, 1) := by decide +kernel
theorem dX5_put_16 : decode cX5_put 16 = .ok (.iadd, 1) := by decide +kernel
theorem dX5_put_17 : decode cX5_put 17 = .ok (.bipush 80, 2) := by decide +kernel
theorem dX5_put_19 : decode cX5_put 19 = .ok (.if_icmp .le 6, 3) := by decide +kernel
theorem dX5_put_22 : decode cX5_put 22 = .ok (.bipush (-4), 2) := by decide +kernel
theorem dX5_put_24 : decode cX5_put 24 = .ok (.ireturn, 1) := by decide +kernel
theorem dX5_put_25 : decode cX5_put 25 = .ok (.iload_n 3, 1) := by decide +kernel
theorem dX5_put_26 : decode cX5_put 26 = .ok (.iconst 1, 1) := by decide +kernel
theorem dX5_put_27 : decode cX5_put 27 = .ok (.isub, 1) := by decide +kernel
theorem dX5_put_28 : decode cX5_put 28 = .ok (.istore 4, 2) := by decide +kernel
theorem dX5_put_30 : decode cX5_put 30 = .ok (.iload 4, 2) := by decide +kernel
theorem dX5_put_32 : decode cX5_put 32 = .ok (.ifCond .lt 34, 3) := by decide +kernel
theorem dX5_put_35 : decode cX5_put 35 = .ok (.aload_n 0, 1) := by decide +kernel
theorem dX5_put_36 : decode cX5_put 36 = .ok (.getfield 26, 3) := by decide +kernel
theorem dX5_put_39 : decode cX5_put 39 = .ok (.aload_n 0, 1) := by decide +kernel
theorem dX5_put_40 : decode cX5_put 40 = .ok (.getfield 112, 3) := by decide +kernel
theorem dX5_put_43 : decode cX5_put 43 = .ok (.lload_n 1, 1) := by decide +kernel
theorem dX5_put_44 : decode cX5_put 44 = .ok (.iload 4, 2) := by decide +kernel
theorem dX5_put_46 : decode cX5_put 46 = .ok (.invokestatic 139, 3) := by decide +kernel
theorem dX5_put_49 : decode cX5_put 49 = .ok (.iastore, 1) := by decide +kernel
theorem dX5_put_50 : decode cX5_put 50 = .ok (.aload_n 0, 1) := by decide +kernel
theorem dX5_put_51 : decode cX5_put 51 = .ok (.dup, 1) := by decide +kernel
theorem dX5_put_52 : decode cX5_put 52 = .ok (.getfield 112, 3) := by decide +kernel
theorem dX5_put_55 : decode cX5_put 55 = .ok (.iconst 1, 1) := by decide +kernel
theorem dX5_put_56 : decode cX5_put 56 = .ok (.iadd, 1) := by decide +kernel
theorem dX5_put_57 : decode cX5_put 57 = .ok (.putfield 112, 3) := by decide +kernel
theorem dX5_put_60 : decode cX5_put 60 = .ok (.iinc 4 (-1), 3) := by decide +kernel
theorem dX5_put_63 : decode cX5_put 63 = .ok (.goto (-33), 3) := by decide +kernel
theorem dX5_put_66 : decode cX5_put 66 = .ok (.aload_n 0, 1) := by decide +kernel
theorem dX5_put_67 : decode cX5_put 67 = .ok (.getfield 112, 3) := by decide +kernel
theorem dX5_put_70 : decode cX5_put 70 = .ok (.ireturn, 1) := by decide +kernel
theorem dX5_wipe_0 : decode cX5_wipe 0 = .ok (.aload_n 0, 1) := by decide +kernel
theorem dX5_wipe_1 : decode cX5_wipe 1 = .ok (.getfield 112, 3) := by decide +kernel
theorem dX5_wipe_4 : decode cX5_wipe 4 = .ok (.istore_n 1, 1) := by decide +kernel
theorem dX5_wipe_5 : decode cX5_wipe 5 = .ok (.aload_n 0, 1) := by decide +kernel
theorem dX5_wipe_6 : decode cX5_wipe 6 = .ok (.iconst 0, 1) := by decide +kernel
theorem dX5_wipe_7 : decode cX5_wipe 7 = .ok (.putfield 112, 3) := by decide +kernel
theorem dX5_wipe_10 : decode cX5_wipe 10 = .ok (.iload_n 1, 1) := by decide +kernel
theorem dX5_wipe_11 : decode cX5_wipe 11 = .ok (.ireturn, 1) := by decide +kernel
set_option maxRecDepth 20000 in
theorem ggX5_isAt_X5_in : GoodIn wsX5_isAt wsX5_in := goodIn_r _ [7] (by decide +kernel) (by decide +kernel)
set_option maxRecDepth 20000 in
theorem gX5_isAt_X5_in : GoodIn wsX5_isAt (va_wsS RX5 40 yX5_in wsX5_in) := goodIn_app (goodIn_of _ (by decide +kernel)) ggX5_isAt_X5_in
theorem dX5_isAt_0 : decode cX5_isAt 0 = .ok (.aload_n 0, 1) := by decide +kernel
theorem dX5_isAt_1 : decode cX5_isAt 1 = .ok (.getfield 147, 3) := by decide +kernel
theorem dX5_isAt_4 : decode cX5_isAt 4 = .ok (.aload_n 0, 1) := by decide +kernel
theorem dX5_isAt_5 : decode cX5_isAt 5 = .ok (.getfield 112, 3) := by decide +kernel
theorem dX5_isAt_8 : decode cX5_isAt 8 = .ok (.if_icmp .ge 24, 3) := by decide +kernel
theorem dX5_isAt_11 : decode cX5_isAt 11 = .ok (.aload_n 0, 1) := by decide +kernel
theorem dX5_isAt_12 : decode cX5_isAt 12 = .ok (.getfield 26, 3) := by decide +kernel
theorem dX5_isAt_15 : decode cX5_isAt 15 = .ok (.aload_n 0, 1) := by decide +kernel
theorem dX5_isAt_16 : decode cX5_isAt 16 = .ok (.getfield 147, 3) := by decide +kernel
theorem dX5_isAt_19 : decode cX5_isAt 19 = .ok (.iaload, 1) := by decide +kernel
theorem dX5_isAt_20 : decode cX5_isAt 20 = .ok (.iload_n 1, 1) := by decide +kernel
theorem dX5_isAt_21 : decode cX5_isAt 21 = .ok (.iload_n 2, 1) := by decide +kernel
theorem dX5_isAt_22 : decode cX5_isAt 22 = .ok (.invokestatic 40, 3) := by decide +kernel
theorem dX5_isAt_25 : decode cX5_isAt 25 = .ok (.ifCond .eq 7, 3) := by decide +kernel
theorem dX5_isAt_28 : decode cX5_isAt 28 = .ok (.iconst 1, 1) := by decide +kernel
theorem dX5_isAt_29 : decode cX5_isAt 29 = .ok (.goto 4, 3) := by decide +kernel
theorem dX5_isAt_32 : decode cX5_isAt 32 = .ok (.iconst 0, 1) := by decide +kernel
theorem dX5_isAt_33 : decode cX5_isAt 33 = .ok (.ireturn, 1) := by decide +kernel
set_option maxRecDepth 20000 in
theorem ggX5_isSign_X5_isAt : GoodIn wsX5_isSign wsX5_isAt := goodIn_r _ [6, 1, 7, 8, 9, 10, 5, 11, 12, 13, 14, 15, 16, 17, 18, 19, 20, 21, 22] (by decide +kernel) (by decide +kernel)
set_option maxRecDepth 20000 in
theorem gX5_isSign_X5_isAt : GoodIn wsX5_isSign (wsV RX5 150 RX5 yX5_isAt wsX5_isAt) := goodIn_app (goodIn_of _ (by decide +kernel)) ggX5_isSign_X5_isAt
theorem dX5_isSign_0 : decode cX5_isSign 0 = .ok (.aload_n 0, 1) := by decide +kernel
theorem dX5_isSign_1 : decode cX5_isSign 1 = .ok (.iload_n 1, 1) := by decide +kernel
theorem dX5_isSign_2 : decode cX5_isSign 2 = .ok (.iload_n 1, 1) := by decide +kernel
theorem dX5_isSign_3 : decode cX5_isSign 3 = .ok (.invokevirtual 150, 3) := by decide +kernel
theorem dX5_isSign_6 : decode cX5_isSign 6 = .ok (.istore_n 2, 1) := by decide +kernel
theorem dX5_isSign_7 : decode cX5_isSign 7 = .ok (.aload_n 0, 1) := by decide +kernel
theorem dX5_isSign_8 : decode cX5_isSign 8 = .ok (.dup, 1) := by decide +kernel
theorem dX5_isSign_9 : decode cX5_isSign 9 = .ok (.getfield 147, 3) := by decide +kernel
theorem dX5_isSign_12 : decode cX5_isSign 12 = .ok (.iload_n 2, 1) := by decide +kernel
theorem dX5_isSign_13 : decode cX5_isSign 13 = .ok (.ifCond .eq 7, 3) := by decide +kernel
theorem dX5_isSign_16 : decode cX5_isSign 16 = .ok (.iconst 1, 1) := by decide +kernel
theorem dX5_isSign_17 : decode cX5_isSign 17 = .ok (.goto 4, 3) := by decide +kernel
theorem dX5_isSign_20 : decode cX5_isSign 20 = .ok (.iconst 0, 1) := by decide +kernel
theorem dX5_isSign_21 : decode cX5_isSign 21 = .ok (.iadd, 1) := by decide +kernel
theorem dX5_isSign_22 : decode cX5_isSign 22 = .ok (.putfield 147, 3) := by decide +kernel
theorem dX5_isSign_25 : decode cX5_isSign 25 = .ok (.iload_n 2, 1) := by decide +kernel
theorem dX5_isSign_26 : decode cX5_isSign 26 = .ok (.ireturn, 1) := by decide +kernel
set_option maxRecDepth 20000 in
theorem ggX5_isNumber_X5_isAt : GoodIn wsX5_isNumber wsX5_isAt := goodIn_r _ [9, 2, 10, 1, 11, 12, 8, 13, 14, 15, 16, 17, 18, 19, 20, 21, 22, 23, 24] (by decide +kernel) (by decide +kernel)
set_option maxRecDepth 20000 in
theorem gX5_isNumber_X5_isAt : GoodIn wsX5_isNumber (wsV RX5 150 RX5 yX5_isAt wsX5_isAt) := goodIn_app (goodIn_of _ (by decide +kernel)) ggX5_isNumber_X5_isAt
theorem dX5_isNumber_0 : decode cX5_isNumber 0 = .ok (.aload_n 0, 1) := by decide +kernel
theorem dX5_isNumber_1 : decode cX5_isNumber 1 = .ok (.bipush 48, 2) := by decide +kernel
theorem dX5_isNumber_3 : decode cX5_isNumber 3 = .ok (.bipush 57, 2) := by decide +kernel
theorem dX5_isNumber_5 : decode cX5_isNumber 5 = .ok (.invokevirtual 150, 3) := by decide +kernel
theorem dX5_isNumber_8 : decode cX5_isNumber 8 = .ok (.ifCond .ne 5, 3) := by decide +kernel
theorem dX5_isNumber_11 : decode cX5_isNumber 11 = .ok (.iconst 0, 1) := by decide +kernel
theorem dX5_isNumber_12 : decode cX5_isNumber 12 = .ok (.ireturn, 1) := by decide +kernel
theorem dX5_isNumber_13 : decode cX5_isNumber 13 = .ok (.aload_n 0, 1) := by decide +kernel
theorem dX5_isNumber_14 : decode cX5_isNumber 14 = .ok (.getfield 26, 3) := by decide +kernel
theorem dX5_isNumber_17 : decode cX5_isNumber 17 = .ok (.aload_n 0, 1) := by decide +kernel
theorem dX5_isNumber_18 : decode cX5_isNumber 18 = .ok (.getfield 147, 3) := by decide +kernel
theorem dX5_isNumber_21 : decode cX5_isNumber 21 = .ok (.iaload, 1) := by decide +kernel
theorem dX5_isNumber_22 : decode cX5_isNumber 22 = .ok (.bipush 48, 2) := by decide +kernel
theorem dX5_isNumber_24 : decode cX5_isNumber 24 = .ok (.isub, 1) := by decide +kernel
theorem dX5_isNumber_25 : decode cX5_isNumber 25 = .ok (.istore_n 2, 1) := by decide +kernel
theorem dX5_isNumber_26 : decode cX5_isNumber 26 = .ok (.aload_n 0, 1) := by decide +kernel
theorem dX5_isNumber_27 : decode cX5_isNumber 27 = .ok (.dup, 1) := by decide +kernel
theorem dX5_isNumber_28 : decode cX5_isNumber 28 = .ok (.getfield 147, 3) := by decide +kernel
theorem dX5_isNumber_31 : decode cX5_isNumber 31 = .ok (.iconst 1, 1) := by decide +kernel
theorem dX5_isNumber_32 : decode cX5_isNumber 32 = .ok (.iadd, 1) := by decide +kernel
theorem dX5_isNumber_33 : decode cX5_isNumber 33 = .ok (.putfield 147, 3) := by decide +kernel
theorem dX5_isNumber_36 : decode cX5_isNumber 36 = .ok (.iload_n 2, 1) := by decide +kernel
theorem dX5_isNumber_37 : decode cX5_isNumber 37 = .ok (.ifCond .le 51, 3) := by decide +kernel
theorem dX5_isNumber_40 : decode cX5_isNumber 40 = .ok (.iload_n 2, 1) := by decide +kernel
theorem dX5_isNumber_41 : decode cX5_isNumber 41 = .ok (.bipush 100, 2) := by decide +kernel
theorem dX5_isNumber_43 : decode cX5_isNumber 43 = .ok (.if_icmp .ge 45, 3) := by decide +kernel
theorem dX5_isNumber_46 : decode cX5_isNumber 46 = .ok (.aload_n 0, 1) := by decide +kernel
theorem dX5_isNumber_47 : decode cX5_isNumber 47 = .ok (.bipush 48, 2) := by decide +kernel
theorem dX5_isNumber_49 : decode cX5_isNumber 49 = .ok (.bipush 57, 2) := by decide +kernel
theorem dX5_isNumber_51 : decode cX5_isNumber 51 = .ok (.invokevirtual 150, 3) := by decide +kernel
theorem dX5_isNumber_54 : decode cX5_isNumber 54 = .ok (.ifCond .eq 34, 3) := by decide +kernel
theorem dX5_isNumber_57 : decode cX5_isNumber 57 = .ok (.bipush 10, 2) := by decide +kernel
theorem dX5_isNumber_59 : decode cX5_isNumber 59 = .ok (.iload_n 2, 1) := by decide +kernel
theorem dX5_isNumber_60 : decode cX5_isNumber 60 = .ok (.imul, 1) := by decide +kernel
theorem dX5_isNumber_61 : decode cX5_isNumber 61 = .ok (.aload_n 0, 1) := by decide +kernel
theorem dX5_isNumber_62 : decode cX5_isNumber 62 = .ok (.getfield 26, 3) := by decide +kernel
theorem dX5_isNumber_65 : decode cX5_isNumber 65 = .ok (.aload_n 0, 1) := by decide +kernel
theorem dX5_isNumber_66 : decode cX5_isNumber 66 = .ok (.getfield 147, 3) := by decide +kernel
theorem dX5_isNumber_69 : decode cX5_isNumber 69 = .ok (.iaload, 1) := by decide +kernel
theorem dX5_isNumber_70 : decode cX5_isNumber 70 = .ok (.iadd, 1) := by decide +kernel
theorem dX5_isNumber_71 : decode cX5_isNumber 71 = .ok (.bipush 48, 2) := by decide +kernel
theorem dX5_isNumber_73 : decode cX5_isNumber 73 = .ok (.isub, 1) := by decide +kernel
theorem dX5_isNumber_74 : decode cX5_isNumber 74 = .ok (.istore_n 2, 1) := by decide +kernel
theorem dX5_isNumber_75 : decode cX5_isNumber 75 = .ok (.aload_n 0, 1) := by decide +kernel
theorem dX5_isNumber_76 : decode cX5_isNumber 76 = .ok (.dup, 1) := by decide +kernel
theorem dX5_isNumber_77 : decode cX5_isNumber 77 = .ok (.getfield 147, 3) := by decide +kernel
theorem dX5_isNumber_80 : decode cX5_isNumber 80 = .ok (.iconst 1, 1) := by decide +kernel
theorem dX5_isNumber_81 : decode cX5_isNumber 81 = .ok (.iadd, 1) := by decide +kernel
theorem dX5_isNumber_82 : decode cX5_isNumber 82 = .ok (.putfield 147, 3) := by decide +kernel
theorem dX5_isNumber_85 : decode cX5_isNumber 85 = .ok (.goto (-49), 3) := by decide +kernel
theorem dX5_isNumber_88 : decode cX5_isNumber 88 = .ok (.aload_n 0, 1) := by decide +kernel
theorem dX5_isNumber_89 : decode cX5_isNumber 89 = .ok (.getfield 29, 3) := by decide +kernel
theorem dX5_isNumber_92 : decode cX5_isNumber 92 = .ok (.iconst 3, 1) := by decide +kernel
theorem dX5_isNumber_93 : decode cX5_isNumber 93 = .ok (.aload_n 0, 1) := by decide +kernel
theorem dX5_isNumber_94 : decode cX5_isNumber 94 = .ok (.getfield 153, 3) := by decide +kernel
theorem dX5_isNumber_97 : decode cX5_isNumber 97 = .ok (.imul, 1) := by decide +kernel
theorem dX5_isNumber_98 : decode cX5_isNumber 98 = .ok (.iload_n 1, 1) := by decide +kernel
theorem dX5_isNumber_99 : decode cX5_isNumber 99 = .ok (.iadd, 1) := by decide +kernel
theorem dX5_isNumber_100 : decode cX5_isNumber 100 = .ok (.iload_n 2, 1) := by decide +kernel
theorem dX5_isNumber_101 : decode cX5_isNumber 101 = .ok (.iastore, 1) := by decide +kernel
theorem dX5_isNumber_102 : decode cX5_isNumber 102 = .ok (.iconst 1, 1) := by decide +kernel
theorem dX5_isNumber_103 : decode cX5_isNumber 103 = .ok (.ireturn, 1) := by decide +kernel
set_option maxRecDepth 20000 in
theorem ggX5_isOrder_X5_isNumber : GoodIn wsX5_isOrder wsX5_isNumber := goodIn_r _ [10, 3, 1, 4, 5, 11, 12, 13, 9, 14, 2, 15, 16, 17, 22, 23, 24, 25, 26, 27, 28, 29, 30, 31, 32] (by decide +kernel) (by decide +kernel)
set_option maxRecDepth 20000 in
theorem gX5_isOrder_X5_isNumber : GoodIn wsX5_isOrder (wsV RX5 156 RX5 yX5_isNumber wsX5_isNumber) := goodIn_app (goodIn_of _ (by decide +kernel)) ggX5_isOrder_X5_isNumber
set_option maxRecDepth 20000 in
theorem ggX5_isOrder_X5_isSign : GoodIn wsX5_isOrder wsX5_isSign := goodIn_r _ [21, 1, 11, 12, 13, 9, 14, 2, 3, 15, 16, 17, 22, 23, 24, 25, 26, 27, 28, 29, 30, 31, 32] (by decide +kernel) (by decide +kernel)
set_option maxRecDepth 20000 in
theorem gX5_isOrder_X5_isSign : GoodIn wsX5_isOrder (wsV RX5 159 RX5 yX5_isSign wsX5_isSign) := goodIn_app (goodIn_of _ (by decide +kernel)) ggX5_isOrder_X5_isSign
theorem dX5_isOrder_0 : decode cX5_isOrder 0 = .ok (.aload_n 0, 1) := by decide +kernel
theorem dX5_isOrder_1 : decode cX5_isOrder 1 = .ok (.getfield 147, 3) := by decide +kernel
theorem dX5_isOrder_4 : decode cX5_isOrder 4 = .ok (.aload_n 0, 1) := by decide +kernel
theorem dX5_isOrder_5 : decode cX5_isOrder 5 = .ok (.getfield 112, 3) := by decide +kernel
theorem dX5_isOrder_8 : decode cX5_isOrder 8 = .ok (.if_icmp .ge 15, 3) := by decide +kernel
theorem dX5_isOrder_11 : decode cX5_isOrder 11 = .ok (.aload_n 0, 1) := by decide +kernel
theorem dX5_isOrder_12 : decode cX5_isOrder 12 = .ok (.getfield 26, 3) := by decide +kernel
theorem dX5_isOrder_15 : decode cX5_isOrder 15 = .ok (.aload_n 0, 1) := by decide +kernel
theorem dX5_isOrder_16 : decode cX5_isOrder 16 = .ok (.getfield 147, 3) := by decide +kernel
theorem dX5_isOrder_19 : decode cX5_isOrder 19 = .ok (.iaload, 1) := by decide +kernel
theorem dX5_isOrder_20 : decode cX5_isOrder 20 = .ok (.goto 4, 3) := by decide +kernel
theorem dX5_isOrder_23 : decode cX5_isOrder 23 = .ok (.iconst 0, 1) := by decide +kernel
theorem dX5_isOrder_24 : decode cX5_isOrder 24 = .ok (.istore_n 1, 1) := by decide +kernel
theorem dX5_isOrder_25 : decode cX5_isOrder 25 = .ok (.aload_n 0, 1) := by decide +kernel
theorem dX5_isOrder_26 : decode cX5_isOrder 26 = .ok (.getfield 29, 3) := by decide +kernel
theorem dX5_isOrder_29 : decode cX5_isOrder 29 = .ok (.iconst 3, 1) := by decide +kernel
theorem dX5_isOrder_30 : decode cX5_isOrder 30 = .ok (.aload_n 0, 1) := by decide +kernel
theorem dX5_isOrder_31 : decode cX5_isOrder 31 = .ok (.getfield 153, 3) := by decide +kernel
theorem dX5_isOrder_34 : decode cX5_isOrder 34 = .ok (.imul, 1) := by decide +kernel
theorem dX5_isOrder_35 : decode cX5_isOrder 35 = .ok (.iload_n 1, 1) := by decide +kernel
theorem dX5_isOrder_36 : decode cX5_isOrder 36 = .ok (.iastore, 1) := by decide +kernel
theorem dX5_isOrder_37 : decode cX5_isOrder 37 = .ok (.iload_n 1, 1) := by decide +kernel
theorem dX5_isOrder_38 : decode cX5_isOrder 38 = .ok (.lookupswitch 115 #[(60, 58), (62, 58), (105, 58), (111, 58), (116, 58), (118, 74)], 58) := by decide +kernel
theorem dX5_isOrder_96 : decode cX5_isOrder 96 = .ok (.aload_n 0, 1) := by decide +kernel
theorem dX5_isOrder_97 : decode cX5_isOrder 97 = .ok (.dup, 1) := by decide +kernel
theorem dX5_isOrder_98 : decode cX5_isOrder 98 = .ok (.getfield 147, 3) := by decide +kernel
theorem dX5_isOrder_101 : decode cX5_isOrder 101 = .ok (.iconst 1, 1) := by decide +kernel
theorem dX5_isOrder_102 : decode cX5_isOrder 102 = .ok (.iadd, 1) := by decide +kernel
theorem dX5_isOrder_103 : decode cX5_isOrder 103 = .ok (.putfield 147, 3) := by decide +kernel
theorem dX5_isOrder_106 : decode cX5_isOrder 106 = .ok (.aload_n 0, 1) := by decide +kernel
theorem dX5_isOrder_107 : decode cX5_isOrder 107 = .ok (.iconst 1, 1) := by decide +kernel
theorem dX5_isOrder_108 : decode cX5_isOrder 108 = .ok (.invokevirtual 156, 3) := by decide +kernel
theorem dX5_isOrder_111 : decode cX5_isOrder 111 = .ok (.ireturn, 1) := by decide +kernel
theorem dX5_isOrder_112 : decode cX5_isOrder 112 = .ok (.aload_n 0, 1) := by decide +kernel
theorem dX5_isOrder_113 : decode cX5_isOrder 113 = .ok (.dup, 1) := by decide +kernel
theorem dX5_isOrder_114 : decode cX5_isOrder 114 = .ok (.getfield 147, 3) := by decide +kernel
theorem dX5_isOrder_117 : decode cX5_isOrder 117 = .ok (.iconst 1, 1) := by decide +kernel
theorem dX5_isOrder_118 : decode cX5_isOrder 118 = .ok (.iadd, 1) := by decide +kernel
theorem dX5_isOrder_119 : decode cX5_isOrder 119 = .ok (.putfield 147, 3) := by decide +kernel
theorem dX5_isOrder_122 : decode cX5_isOrder 122 = .ok (.aload_n 0, 1) := by decide +kernel
theorem dX5_isOrder_123 : decode cX5_isOrder 123 = .ok (.iconst 1, 1) := by decide +kernel
theorem dX5_isOrder_124 : decode cX5_isOrder 124 = .ok (.invokevirtual 156, 3) := by decide +kernel
theorem dX5_isOrder_127 : decode cX5_isOrder 127 = .ok (.ifCond .eq 24, 3) := by decide +kernel
theorem dX5_isOrder_130 : decode cX5_isOrder 130 = .ok (.aload_n 0, 1) := by decide +kernel
theorem dX5_isOrder_131 : decode cX5_isOrder 131 = .ok (.bipush 61, 2) := by decide +kernel
theorem dX5_isOrder_133 : decode cX5_isOrder 133 = .ok (.invokevirtual 159, 3) := by decide +kernel
theorem dX5_isOrder_136 : decode cX5_isOrder 136 = .ok (.ifCond .eq 15, 3) := by decide +kernel
theorem dX5_isOrder_139 : decode cX5_isOrder 139 = .ok (.aload_n 0, 1) := by decide +kernel
theorem dX5_isOrder_140 : decode cX5_isOrder 140 = .ok (.iconst 2, 1) := by decide +kernel
theorem dX5_isOrder_141 : decode cX5_isOrder 141 = .ok (.invokevirtual 156, 3) := by decide +kernel
theorem dX5_isOrder_144 : decode cX5_isOrder 144 = .ok (.ifCond .eq 7, 3) := by decide +kernel
theorem dX5_isOrder_147 : decode cX5_isOrder 147 = .ok (.iconst 1, 1) := by decide +kernel
theorem dX5_isOrder_148 : decode cX5_isOrder 148 = .ok (.goto 4, 3) := by decide +kernel
theorem dX5_isOrder_151 : decode cX5_isOrder 151 = .ok (.iconst 0, 1) := by decide +kernel
theorem dX5_isOrder_152 : decode cX5_isOrder 152 = .ok (.ireturn, 1) := by decide +kernel
theorem dX5_isOrder_153 : decode cX5_isOrder 153 = .ok (.iconst 0, 1) := by decide +kernel
theorem dX5_isOrder_154 : decode cX5_isOrder 154 = .ok (.ireturn, 1) := by decide +kernel
set_option maxRecDepth 20000 in
theorem ggX5_isText_X5_isOrder : GoodIn wsX5_isText wsX5_isOrder := goodIn_r _ [8, 1, 3, 9, 10, 2, 11, 12, 13, 7, 14, 15, 16, 17, 18, 19, 20, 21, 22, 23, 24, 25, 26, 27, 28, 29, 30, 31, 32, 33, 34, 35, 36] (by decide +kernel) (by decide +kernel)
set_option maxRecDepth 20000 in
theorem gX5_isText_X5_isOrder : GoodIn wsX5_isText (wsV RX5 162 RX5 yX5_isOrder wsX5_isOrder) := goodIn_app (goodIn_of _ (by decide +kernel)) ggX5_isText_X5_isOrder
set_option maxRecDepth 20000 in
theorem ggX5_isText_X5_isSign : GoodIn wsX5_isText wsX5_isSign := goodIn_r _ [25, 1, 15, 16, 17, 7, 18, 3, 9, 19, 20, 21, 26, 27, 28, 29, 30, 31, 32, 33, 34, 35, 36] (by decide +kernel) (by decide +kernel)
set_option maxRecDepth 20000 in
theorem gX5_isText_X5_isSign : GoodIn wsX5_isText (wsV RX5 159 RX5 yX5_isSign wsX5_isSign) := goodIn_app (goodIn_of _ (by decide +kernel)) ggX5_isText_X5_isSign
theorem dX5_isText_0 : decode cX5_isText 0 = .ok (.aload_n 0, 1) := by decide +kernel
theorem dX5_isText_1 : decode cX5_isText 1 = .ok (.iconst 0, 1) := by decide +kernel
theorem dX5_isText_2 : decode cX5_isText 2 = .ok (.putfield 147, 3) := by decide +kernel
theorem dX5_isText_5 : decode cX5_isText 5 = .ok (.aload_n 0, 1) := by decide +kernel
theorem dX5_isText_6 : decode cX5_isText 6 = .ok (.iconst 0, 1) := by decide +kernel
theorem dX5_isText_7 : decode cX5_isText 7 = .ok (.putfield 153, 3) := by decide +kernel
theorem dX5_isText_10 : decode cX5_isText 10 = .ok (.iconst 1, 1) := by decide +kernel
theorem dX5_isText_11 : decode cX5_isText 11 = .ok (.istore_n 1, 1) := by decide +kernel
theorem dX5_isText_12 : decode cX5_isText 12 = .ok (.iload_n 1, 1) := by decide +kernel
theorem dX5_isText_13 : decode cX5_isText 13 = .ok (.ifCond .eq 32, 3) := by decide +kernel
theorem dX5_isText_16 : decode cX5_isText 16 = .ok (.aload_n 0, 1) := by decide +kernel
theorem dX5_isText_17 : decode cX5_isText 17 = .ok (.invokevirtual 162, 3) := by decide +kernel
theorem dX5_isText_20 : decode cX5_isText 20 = .ok (.ifCond .ne 5, 3) := by decide +kernel
theorem dX5_isText_23 : decode cX5_isText 23 = .ok (.iconst 0, 1) := by decide +kernel
theorem dX5_isText_24 : decode cX5_isText 24 = .ok (.ireturn, 1) := by decide +kernel
theorem dX5_isText_25 : decode cX5_isText 25 = .ok (.aload_n 0, 1) := by decide +kernel
theorem dX5_isText_26 : decode cX5_isText 26 = .ok (.dup, 1) := by decide +kernel
theorem dX5_isText_27 : decode cX5_isText 27 = .ok (.getfield 153, 3) := by decide +kernel
theorem dX5_isText_30 : decode cX5_isText 30 = .ok (.iconst 1, 1) := by decide +kernel
theorem dX5_isText_31 : decode cX5_isText 31 = .ok (.iadd, 1) := by decide +kernel
theorem dX5_isText_32 : decode cX5_isText 32 = .ok (.putfield 153, 3) := by decide +kernel
theorem dX5_isText_35 : decode cX5_isText 35 = .ok (.aload_n 0, 1) := by decide +kernel
theorem dX5_isText_36 : decode cX5_isText 36 = .ok (.bipush 59, 2) := by decide +kernel
theorem dX5_isText_38 : decode cX5_isText 38 = .ok (.invokevirtual 159, 3) := by decide +kernel
theorem dX5_isText_41 : decode cX5_isText 41 = .ok (.istore_n 1, 1) := by decide +kernel
theorem dX5_isText_42 : decode cX5_isText 42 = .ok (.goto (-30), 3) := by decide +kernel
theorem dX5_isText_45 : decode cX5_isText 45 = .ok (.aload_n 0, 1) := by decide +kernel
theorem dX5_isText_46 : decode cX5_isText 46 = .ok (.getfield 147, 3) := by decide +kernel
theorem dX5_isText_49 : decode cX5_isText 49 = .ok (.aload_n 0, 1) := by decide +kernel
theorem dX5_isText_50 : decode cX5_isText 50 = .ok (.getfield 112, 3) := by decide +kernel
theorem dX5_isText_53 : decode cX5_isText 53 = .ok (.if_icmp .ne 7, 3) := by decide +kernel
theorem dX5_isText_56 : decode cX5_isText 56 = .ok (.iconst 1, 1) := by decide +kernel
theorem dX5_isText_57 : decode cX5_isText 57 = .ok (.goto 4, 3) := by decide +kernel
theorem dX5_isText_60 : decode cX5_isText 60 = .ok (.iconst 0, 1) := by decide +kernel
theorem dX5_isText_61 : decode cX5_isText 61 = .ok (.ireturn, 1) := by decide +kernel
set_option maxRecDepth 20000 in
theorem ggX5_fault_X5_isText : GoodIn wsX5_fault wsX5_isText := goodIn_r _ [6, 1, 7, 8, 9, 10, 11, 5, 12, 13, 14, 15, 16, 17, 18, 19, 20, 21, 22, 23, 24, 25, 26, 27, 28, 29, 30, 31, 32, 33, 34, 35, 36, 37, 38, 39, 40] (by decide +kernel) (by decide +kernel)
set_option maxRecDepth 20000 in
theorem gX5_fault_X5_isText : GoodIn wsX5_fault (wsV RX5 166 RX5 yX5_isText wsX5_isText) := goodIn_app (goodIn_of _ (by decide +kernel)) ggX5_fault_X5_isText
theorem dX5_fault_0 : decode cX5_fault 0 = .ok (.aload_n 0, 1) := by decide +kernel
theorem dX5_fault_1 : decode cX5_fault 1 = .ok (.invokevirtual 166, 3) := by decide +kernel
theorem dX5_fault_4 : decode cX5_fault 4 = .ok (.ifCond .eq 8, 3) := by decide +kernel
theorem dX5_fault_7 : decode cX5_fault 7 = .ok (.bipush (-6), 2) := by decide +kernel
theorem dX5_fault_9 : decode cX5_fault 9 = .ok (.goto 7, 3) := by decide +kernel
theorem dX5_fault_12 : decode cX5_fault 12 = .ok (.aload_n 0, 1) := by decide +kernel
theorem dX5_fault_13 : decode cX5_fault 13 = .ok (.getfield 147, 3) := by decide +kernel
theorem dX5_fault_16 : decode cX5_fault 16 = .ok (.ireturn, 1) := by decide +kernel
set_option maxRecDepth 20000 in
theorem ggX5_mayDo_X5_isFor : GoodIn wsX5_mayDo wsX5_isFor := goodIn_r _ [4, 5, 6, 3, 7] (by decide +kernel) (by decide +kernel)
set_option maxRecDepth 20000 in
theorem gX5_mayDo_X5_isFor : GoodIn wsX5_mayDo (va_wsS RX5 87 yX5_isFor wsX5_isFor) := goodIn_app (goodIn_of _ (by decide +kernel)) ggX5_mayDo_X5_isFor
set_option maxRecDepth 20000 in
theorem ggX5_mayDo_X5_mayTell : GoodIn wsX5_mayDo wsX5_mayTell := goodIn_r _ [10, 5, 6, 3, 7] (by decide +kernel) (by decide +kernel)
set_option maxRecDepth 20000 in
theorem gX5_mayDo_X5_mayTell : GoodIn wsX5_mayDo (va_wsS RX5 95 yX5_mayTell wsX5_mayTell) := goodIn_app (goodIn_of _ (by decide +kernel)) ggX5_mayDo_X5_mayTell
set_option maxRecDepth 20000 in
theorem ggX5_mayDo_X5_mayPass : GoodIn wsX5_mayDo wsX5_mayPass := goodIn_r _ [14, 15, 16, 5, 6, 3, 7, 20, 21, 22, 23, 24, 25, 26, 27, 28, 29, 30] (by decide +kernel) (by decide +kernel)
set_option maxRecDepth 20000 in
theorem gX5_mayDo_X5_mayPass : GoodIn wsX5_mayDo (wsV RX5 105 RX5 yX5_mayPass wsX5_mayPass) := goodIn_app (goodIn_of _ (by decide +kernel)) ggX5_mayDo_X5_mayPass
set_option maxRecDepth 20000 in
theorem ggX5_mayDo_X5_maySlip : GoodIn wsX5_mayDo wsX5_maySlip := goodIn_r _ [19, 5, 6, 3, 7] (by decide +kernel) (by decide +kernel)
set_option maxRecDepth 20000 in
theorem gX5_mayDo_X5_maySlip : GoodIn wsX5_mayDo (va_wsS RX5 98 yX5_maySlip wsX5_maySlip) := goodIn_app (goodIn_of _ (by decide +kernel)) ggX5_mayDo_X5_maySlip
theorem dX5_mayDo_0 : decode cX5_mayDo 0 = .ok (.iload_n 1, 1) := by decide +kernel
theorem dX5_mayDo_1 : decode cX5_mayDo 1 = .ok (.lookupswitch 80 #[(105, 43), (111, 43), (116, 74), (118, 68)], 43) := by decide +kernel
theorem dX5_mayDo_44 : decode cX5_mayDo 44 = .ok (.iload_n 1, 1) := by decide +kernel
theorem dX5_mayDo_45 : decode cX5_mayDo 45 = .ok (.bipush 105, 2) := by decide +kernel
theorem dX5_mayDo_47 : decode cX5_mayDo 47 = .ok (.if_icmp .ne 7, 3) := by decide +kernel
theorem dX5_mayDo_50 : decode cX5_mayDo 50 = .ok (.iconst 0, 1) := by decide +kernel
theorem dX5_mayDo_51 : decode cX5_mayDo 51 = .ok (.goto 4, 3) := by decide +kernel
theorem dX5_mayDo_54 : decode cX5_mayDo 54 = .ok (.iconst 1, 1) := by decide +kernel
theorem dX5_mayDo_55 : decode cX5_mayDo 55 = .ok (.iload_n 2, 1) := by decide +kernel
theorem dX5_mayDo_56 : decode cX5_mayDo 56 = .ok (.invokestatic 87, 3) := by decide +kernel
theorem dX5_mayDo_59 : decode cX5_mayDo 59 = .ok (.ifCond .eq 7, 3) := by decide +kernel
theorem dX5_mayDo_62 : decode cX5_mayDo 62 = .ok (.iconst 0, 1) := by decide +kernel
theorem dX5_mayDo_63 : decode cX5_mayDo 63 = .ok (.goto 5, 3) := by decide +kernel
theorem dX5_mayDo_66 : decode cX5_mayDo 66 = .ok (.bipush (-2), 2) := by decide +kernel
theorem dX5_mayDo_68 : decode cX5_mayDo 68 = .ok (.ireturn, 1) := by decide +kernel
theorem dX5_mayDo_69 : decode cX5_mayDo 69 = .ok (.iload_n 2, 1) := by decide +kernel
theorem dX5_mayDo_70 : decode cX5_mayDo 70 = .ok (.iload_n 3, 1) := by decide +kernel
theorem dX5_mayDo_71 : decode cX5_mayDo 71 = .ok (.invokestatic 95, 3) := by decide +kernel
theorem dX5_mayDo_74 : decode cX5_mayDo 74 = .ok (.ireturn, 1) := by decide +kernel
theorem dX5_mayDo_75 : decode cX5_mayDo 75 = .ok (.aload_n 0, 1) := by decide +kernel
theorem dX5_mayDo_76 : decode cX5_mayDo 76 = .ok (.iload_n 2, 1) := by decide +kernel
theorem dX5_mayDo_77 : decode cX5_mayDo 77 = .ok (.invokevirtual 105, 3) := by decide +kernel
theorem dX5_mayDo_80 : decode cX5_mayDo 80 = .ok (.ireturn, 1) := by decide +kernel
theorem dX5_mayDo_81 : decode cX5_mayDo 81 = .ok (.iconst 0, 1) := by decide +kernel
theorem dX5_mayDo_82 : decode cX5_mayDo 82 = .ok (.iload_n 2, 1) := by decide +kernel
theorem dX5_mayDo_83 : decode cX5_mayDo 83 = .ok (.invokestatic 98, 3) := by decide +kernel
theorem dX5_mayDo_86 : decode cX5_mayDo 86 = .ok (.ireturn, 1) := by decide +kernel
set_option maxRecDepth 20000 in
theorem ggX5_does_X5_mayDo : GoodIn wsX5_does wsX5_mayDo := goodIn_r _ [7, 8, 9, 6, 10, 11, 12, 13, 14, 15, 16, 17, 18, 19, 20, 2, 21, 22, 23, 24, 69, 70, 71, 72, 73, 74, 75, 76, 77, 78, 79] (by decide +kernel) (by decide +kernel)
set_option maxRecDepth 20000 in
theorem gX5_does_X5_mayDo : GoodIn wsX5_does (wsV RX5 169 RX5 yX5_mayDo wsX5_mayDo) := goodIn_app (goodIn_of _ (by decide +kernel)) ggX5_does_X5_mayDo
set_option maxRecDepth 20000 in
theorem ggX5_does_X5_changes : GoodIn wsX5_does wsX5_changes := goodIn_r _ [28, 2, 69, 70, 71, 72, 73, 74, 75, 76, 77, 78, 79] (by decide +kernel) (by decide +kernel)
set_option maxRecDepth 20000 in
theorem gX5_does_X5_changes : GoodIn wsX5_does (wsV RX5 91 RX5 yX5_changes wsX5_changes) := goodIn_app (goodIn_of _ (by decide +kernel)) ggX5_does_X5_changes
set_option maxRecDepth 20000 in
theorem ggX5_does_X5_passes : GoodIn wsX5_does wsX5_passes := goodIn_r _ [31, 32, 33, 6, 34, 35, 36, 37, 38, 39, 40, 41, 42, 43, 44, 45, 46, 47, 48, 49, 50, 51, 52, 53, 54, 55, 56, 57, 58, 59, 60, 61, 62, 63, 64] (by decide +kernel) (by decide +kernel)
set_option maxRecDepth 20000 in
theorem gX5_does_X5_passes : GoodIn wsX5_does (va_wsS RX5 109 yX5_passes wsX5_passes) := goodIn_app (goodIn_of _ (by decide +kernel)) ggX5_does_X5_passes
set_option maxRecDepth 20000 in
theorem ggX5_does_X5_slips : GoodIn wsX5_does wsX5_slips := goodIn_r _ [68, 2, 69, 70, 71, 72, 73, 74, 75, 76, 77, 78, 79] (by decide +kernel) (by decide +kernel)
set_option maxRecDepth 20000 in
theorem gX5_does_X5_slips : GoodIn wsX5_does (wsV RX5 101 RX5 yX5_slips wsX5_slips) := goodIn_app (goodIn_of _ (by decide +kernel)) ggX5_does_X5_slips
theorem dX5_does_0 : decode cX5_does 0 = .ok (.aload_n 0, 1) := by decide +kernel
theorem dX5_does_1 : decode cX5_does 1 = .ok (.getfield 29, 3) := by decide +kernel
theorem dX5_does_4 : decode cX5_does 4 = .ok (.iconst 3, 1) := by decide +kernel
theorem dX5_does_5 : decode cX5_does 5 = .ok (.iload_n 1, 1) := by decide +kernel
theorem dX5_does_6 : decode cX5_does 6 = .ok (.imul, 1) := by decide +kernel
theorem dX5_does_7 : decode cX5_does 7 = .ok (.iaload, 1) := by decide +kernel
theorem dX5_does_8 : decode cX5_does 8 = .ok (.istore_n 2, 1) := by decide +kernel
theorem dX5_does_9 : decode cX5_does 9 = .ok (.aload_n 0, 1) := by decide +kernel
theorem dX5_does_10 : decode cX5_does 10 = .ok (.getfield 29, 3) := by decide +kernel
theorem dX5_does_13 : decode cX5_does 13 = .ok (.iconst 3, 1) := by decide +kernel
theorem dX5_does_14 : decode cX5_does 14 = .ok (.iload_n 1, 1) := by decide +kernel
theorem dX5_does_15 : decode cX5_does 15 = .ok (.imul, 1) := by decide +kernel
theorem dX5_does_16 : decode cX5_does 16 = .ok (.iconst 1, 1) := by decide +kernel
theorem dX5_does_17 : decode cX5_does 17 = .ok (.iadd, 1) := by decide +kernel
theorem dX5_does_18 : decode cX5_does 18 = .ok (.iaload, 1) := by decide +kernel
theorem dX5_does_19 : decode cX5_does 19 = .ok (.istore_n 3, 1) := by decide +kernel
theorem dX5_does_20 : decode cX5_does 20 = .ok (.aload_n 0, 1) := by decide +kernel
theorem dX5_does_21 : decode cX5_does 21 = .ok (.getfield 29, 3) := by decide +kernel
theorem dX5_does_24 : decode cX5_does 24 = .ok (.iconst 3, 1) := by decide +kernel
theorem dX5_does_25 : decode cX5_does 25 = .ok (.iload_n 1, 1) := by decide +kernel
theorem dX5_does_26 : decode cX5_does 26 = .ok (.imul, 1) := by decide +kernel
theorem dX5_does_27 : decode cX5_does 27 = .ok (.iconst 2, 1) := by decide +kernel
theorem dX5_does_28 : decode cX5_does 28 = .ok (.iadd, 1) := by decide +kernel
theorem dX5_does_29 : decode cX5_does 29 = .ok (.iaload, 1) := by decide +kernel
theorem dX5_does_30 : decode cX5_does 30 = .ok (.istore 4, 2) := by decide +kernel
theorem dX5_does_32 : decode cX5_does 32 = .ok (.aload_n 0, 1) := by decide +kernel
theorem dX5_does_33 : decode cX5_does 33 = .ok (.iload_n 2, 1) := by decide +kernel
theorem dX5_does_34 : decode cX5_does 34 = .ok (.iload_n 3, 1) := by decide +kernel
theorem dX5_does_35 : decode cX5_does 35 = .ok (.iload 4, 2) := by decide +kernel
theorem dX5_does_37 : decode cX5_does 37 = .ok (.invokevirtual 169, 3) := by decide +kernel
theorem dX5_does_40 : decode cX5_does 40 = .ok (.ifCond .eq 5, 3) := by decide +kernel
theorem dX5_does_43 : decode cX5_does 43 = .ok (.iconst 0, 1) := by decide +kernel
theorem dX5_does_44 : decode cX5_does 44 = .ok (.ireturn, 1) := by decide +kernel
theorem dX5_does_45 : decode cX5_does 45 = .ok (.iload_n 2, 1) := by decide +kernel
theorem dX5_does_46 : decode cX5_does 46 = .ok (.lookupswitch 89 #[(105, 42), (111, 42), (116, 78), (118, 64)], 42) := by decide +kernel
theorem dX5_does_88 : decode cX5_does 88 = .ok (.aload_n 0, 1) := by decide +kernel
theorem dX5_does_89 : decode cX5_does 89 = .ok (.iconst 1, 1) := by decide +kernel
theorem dX5_does_90 : decode cX5_does 90 = .ok (.iload_n 2, 1) := by decide +kernel
theorem dX5_does_91 : decode cX5_does 91 = .ok (.bipush 105, 2) := by decide +kernel
theorem dX5_does_93 : decode cX5_does 93 = .ok (.if_icmp .ne 7, 3) := by decide +kernel
theorem dX5_does_96 : decode cX5_does 96 = .ok (.iconst 0, 1) := by decide +kernel
theorem dX5_does_97 : decode cX5_does 97 = .ok (.goto 4, 3) := by decide +kernel
theorem dX5_does_100 : decode cX5_does 100 = .ok (.iconst 1, 1) := by decide +kernel
theorem dX5_does_101 : decode cX5_does 101 = .ok (.iadd, 1) := by decide +kernel
theorem dX5_does_102 : decode cX5_does 102 = .ok (.iload_n 3, 1) := by decide +kernel
theorem dX5_does_103 : decode cX5_does 103 = .ok (.invokevirtual 91, 3) := by decide +kernel
theorem dX5_does_106 : decode cX5_does 106 = .ok (.pop, 1) := by decide +kernel
theorem dX5_does_107 : decode cX5_does 107 = .ok (.goto 45, 3) := by decide +kernel
theorem dX5_does_110 : decode cX5_does 110 = .ok (.aload_n 0, 1) := by decide +kernel
theorem dX5_does_111 : decode cX5_does 111 = .ok (.bipush 26, 2) := by decide +kernel
theorem dX5_does_113 : decode cX5_does 113 = .ok (.iload_n 3, 1) := by decide +kernel
theorem dX5_does_114 : decode cX5_does 114 = .ok (.iadd, 1) := by decide +kernel
theorem dX5_does_115 : decode cX5_does 115 = .ok (.iload 4, 2) := by decide +kernel
theorem dX5_does_117 : decode cX5_does 117 = .ok (.invokevirtual 91, 3) := by decide +kernel
theorem dX5_does_120 : decode cX5_does 120 = .ok (.pop, 1) := by decide +kernel
theorem dX5_does_121 : decode cX5_does 121 = .ok (.goto 31, 3) := by decide +kernel
theorem dX5_does_124 : decode cX5_does 124 = .ok (.aload_n 0, 1) := by decide +kernel
theorem dX5_does_125 : decode cX5_does 125 = .ok (.getfield 7, 3) := by decide +kernel
theorem dX5_does_128 : decode cX5_does 128 = .ok (.iload_n 3, 1) := by decide +kernel
theorem dX5_does_129 : decode cX5_does 129 = .ok (.invokestatic 109, 3) := by decide +kernel
theorem dX5_does_132 : decode cX5_does 132 = .ok (.goto 20, 3) := by decide +kernel
theorem dX5_does_135 : decode cX5_does 135 = .ok (.aload_n 0, 1) := by decide +kernel
theorem dX5_does_136 : decode cX5_does 136 = .ok (.iload_n 2, 1) := by decide +kernel
theorem dX5_does_137 : decode cX5_does 137 = .ok (.bipush 60, 2) := by decide +kernel
theorem dX5_does_139 : decode cX5_does 139 = .ok (.if_icmp .ne 7, 3) := by decide +kernel
theorem dX5_does_142 : decode cX5_does 142 = .ok (.iconst 0, 1) := by decide +kernel
theorem dX5_does_143 : decode cX5_does 143 = .ok (.goto 4, 3) := by decide +kernel
theorem dX5_does_146 : decode cX5_does 146 = .ok (.iconst 1, 1) := by decide +kernel
theorem dX5_does_147 : decode cX5_does 147 = .ok (.iload_n 3, 1) := by decide +kernel
theorem dX5_does_148 : decode cX5_does 148 = .ok (.invokevirtual 101, 3) := by decide +kernel
theorem dX5_does_151 : decode cX5_does 151 = .ok (.pop, 1) := by decide +kernel
theorem dX5_does_152 : decode cX5_does 152 = .ok (.iconst 1, 1) := by decide +kernel
theorem dX5_does_153 : decode cX5_does 153 = .ok (.ireturn, 1) := by decide +kernel
set_option maxRecDepth 20000 in
theorem ggX5_carryOut_X5_isText : GoodIn wsX5_carryOut wsX5_isText := goodIn_r _ [7, 8, 2, 1, 9, 10, 11, 6, 12, 13, 14, 15, 16, 17, 18, 19, 20, 21, 22, 23, 24, 25, 26, 27, 28, 29, 106, 107, 108, 109, 110, 111, 112, 113, 114, 115, 116] (by decide +kernel) (by decide +kernel)
set_option maxRecDepth 20000 in
theorem gX5_carryOut_X5_isText : GoodIn wsX5_carryOut (wsV RX5 166 RX5 yX5_isText wsX5_isText) := goodIn_app (goodIn_of _ (by decide +kernel)) ggX5_carryOut_X5_isText
set_option maxRecDepth 20000 in
theorem ggX5_carryOut_X5_records : GoodIn wsX5_carryOut wsX5_records := goodIn_r _ [33, 34, 35, 36, 37, 38, 6, 39, 106, 107, 108, 109, 110, 111, 112, 113, 114, 115, 116] (by decide +kernel) (by decide +kernel)
set_option maxRecDepth 20000 in
theorem gX5_carryOut_X5_records : GoodIn wsX5_carryOut (wsV RX5 44 RX5 yX5_records wsX5_records) := goodIn_app (goodIn_of _ (by decide +kernel)) ggX5_carryOut_X5_records
set_option maxRecDepth 20000 in
theorem ggX5_carryOut_X5_does : GoodIn wsX5_carryOut wsX5_does := goodIn_r _ [43, 14, 36, 44, 45, 46, 6, 47, 48, 49, 50, 23, 24, 25, 51, 52, 53, 54, 55, 56, 57, 58, 59, 60, 61, 62, 63, 64, 65, 66, 67, 68, 69, 70, 71, 72, 73, 74, 75, 76, 77, 78, 79, 80, 81, 82, 83, 84, 85, 86, 87, 88, 89, 90, 91, 92, 93, 94, 95, 96, 97, 98, 99, 100, 101, 102, 103, 104, 105, 106, 107, 108, 109, 110, 111, 112, 113, 114, 115, 116] (by decide +kernel) (by decide +kernel)
set_option maxRecDepth 20000 in
theorem gX5_carryOut_X5_does : GoodIn wsX5_carryOut (wsV RX5 173 RX5 yX5_does wsX5_does) := goodIn_app (goodIn_of _ (by decide +kernel)) ggX5_carryOut_X5_does
theorem dX5_carryOut_0 : decode cX5_carryOut 0 = .ok (.aload_n 0, 1) := by decide +kernel
theorem dX5_carryOut_1 : decode cX5_carryOut 1 = .ok (.invokevirtual 166, 3) := by decide +kernel
theorem dX5_carryOut_4 : decode cX5_carryOut 4 = .ok (.ifCond .ne 6, 3) := by decide +kernel
theorem dX5_carryOut_7 : decode cX5_carryOut 7 = .ok (.bipush (-3), 2) := by decide +kernel
theorem dX5_carryOut_9 : decode cX5_carryOut 9 = .ok (.ireturn, 1) := by decide +kernel
theorem dX5_carryOut_10 : decode cX5_carryOut 10 = .ok (.aload_n 0, 1) := by decide +kernel
theorem dX5_carryOut_11 : decode cX5_carryOut 11 = .ok (.invokevirtual 44, 3) := by decide +kernel
theorem dX5_carryOut_14 : decode cX5_carryOut 14 = .ok (.aload_n 0, 1) := by decide +kernel
theorem dX5_carryOut_15 : decode cX5_carryOut 15 = .ok (.iconst 0, 1) := by decide +kernel
theorem dX5_carryOut_16 : decode cX5_carryOut 16 = .ok (.putfield 112, 3) := by decide +kernel
theorem dX5_carryOut_19 : decode cX5_carryOut 19 = .ok (.iconst 0, 1) := by decide +kernel
theorem dX5_carryOut_20 : decode cX5_carryOut 20 = .ok (.istore_n 1, 1) := by decide +kernel
theorem dX5_carryOut_21 : decode cX5_carryOut 21 = .ok (.iload_n 1, 1) := by decide +kernel
theorem dX5_carryOut_22 : decode cX5_carryOut 22 = .ok (.aload_n 0, 1) := by decide +kernel
theorem dX5_carryOut_23 : decode cX5_carryOut 23 = .ok (.getfield 153, 3) := by decide +kernel
theorem dX5_carryOut_26 : decode cX5_carryOut 26 = .ok (.if_icmp .ge 17, 3) := by decide +kernel
theorem dX5_carryOut_29 : decode cX5_carryOut 29 = .ok (.aload_n 0, 1) := by decide +kernel
theorem dX5_carryOut_30 : decode cX5_carryOut 30 = .ok (.iload_n 1, 1) := by decide +kernel
theorem dX5_carryOut_31 : decode cX5_carryOut 31 = .ok (.invokevirtual 173, 3) := by decide +kernel
theorem dX5_carryOut_34 : decode cX5_carryOut 34 = .ok (.ifCond .eq 9, 3) := by decide +kernel
theorem dX5_carryOut_37 : decode cX5_carryOut 37 = .ok (.iinc 1 1, 3) := by decide +kernel
theorem dX5_carryOut_40 : decode cX5_carryOut 40 = .ok (.goto (-19), 3) := by decide +kernel
theorem dX5_carryOut_43 : decode cX5_carryOut 43 = .ok (.iload_n 1, 1) := by decide +kernel
theorem dX5_carryOut_44 : decode cX5_carryOut 44 = .ok (.ireturn, 1) := by decide +kernel
theorem dJxe99ae_isNaN_b9ae7_0 : decode cJxe99ae_isNaN_b9ae7 0 = .ok (.dload_n 0, 1) := by decide +kernel
theorem dJxe99ae_isNaN_b9ae7_1 : decode cJxe99ae_isNaN_b9ae7 1 = .ok (.dload_n 0, 1) := by decide +kernel
theorem dJxe99ae_isNaN_b9ae7_2 : decode cJxe99ae_isNaN_b9ae7 2 = .ok (.dcmp .l, 1) := by decide +kernel
theorem dJxe99ae_isNaN_b9ae7_3 : decode cJxe99ae_isNaN_b9ae7 3 = .ok (.ifCond .eq 7, 3) := by decide +kernel
theorem dJxe99ae_isNaN_b9ae7_6 : decode cJxe99ae_isNaN_b9ae7 6 = .ok (.iconst 1, 1) := by decide +kernel
theorem dJxe99ae_isNaN_b9ae7_7 : decode cJxe99ae_isNaN_b9ae7 7 = .ok (.goto 4, 3) := by decide +kernel
theorem dJxe99ae_isNaN_b9ae7_10 : decode cJxe99ae_isNaN_b9ae7 10 = .ok (.iconst 0, 1) := by decide +kernel
theorem dJxe99ae_isNaN_b9ae7_11 : decode cJxe99ae_isNaN_b9ae7 11 = .ok (.ireturn, 1) := by decide +kernel
set_option maxRecDepth 20000 in
theorem ggJxe99ae_doubleToLongBits_ccdee_Jxe99ae_isNaN_b9ae7 : GoodIn wsJxe99ae_doubleToLongBits_ccdee wsJxe99ae_isNaN_b9ae7 := goodIn_r _ [9] (by decide +kernel) (by decide +kernel)
set_option maxRecDepth 20000 in
theorem gJxe99ae_doubleToLongBits_ccdee_Jxe99ae_isNaN_b9ae7 : GoodIn wsJxe99ae_doubleToLongBits_ccdee (va_wsS RJxe99ae 122 yJxe99ae_isNaN_b9ae7 wsJxe99ae_isNaN_b9ae7) := goodIn_app (goodIn_of _ (by decide +kernel)) ggJxe99ae_doubleToLongBits_ccdee_Jxe99ae_isNaN_b9ae7
theorem dJxe99ae_doubleToLongBits_ccdee_0 : decode cJxe99ae_doubleToLongBits_ccdee 0 = .ok (.dload_n 0, 1) := by decide +kernel
theorem dJxe99ae_doubleToLongBits_ccdee_1 : decode cJxe99ae_doubleToLongBits_ccdee 1 = .ok (.invokestatic 122, 3) := by decide +kernel
theorem dJxe99ae_doubleToLongBits_ccdee_4 : decode cJxe99ae_doubleToLongBits_ccdee 4 = .ok (.ifCond .ne 8, 3) := by decide +kernel
theorem dJxe99ae_doubleToLongBits_ccdee_7 : decode cJxe99ae_doubleToLongBits_ccdee 7 = .ok (.dload_n 0, 1) := by decide +kernel
theorem dJxe99ae_doubleToLongBits_ccdee_8 : decode cJxe99ae_doubleToLongBits_ccdee 8 = .ok (.invokestatic 134, 3) := by decide +kernel
theorem dJxe99ae_doubleToLongBits_ccdee_11 : decode cJxe99ae_doubleToLongBits_ccdee 11 = .ok (.lreturn, 1) := by decide +kernel
theorem dJxe99ae_doubleToLongBits_ccdee_12 : decode cJxe99ae_doubleToLongBits_ccdee 12 = .ok (.ldc2_w 137, 3) := by decide +kernel
theorem dJxe99ae_doubleToLongBits_ccdee_15 : decode cJxe99ae_doubleToLongBits_ccdee 15 = .ok (.lreturn, 1) := by decide +kernel
theorem dJxf58ca_isNaN_12338_0 : decode cJxf58ca_isNaN_12338 0 = .ok (.fload_n 0, 1) := by decide +kernel
theorem dJxf58ca_isNaN_12338_1 : decode cJxf58ca_isNaN_12338 1 = .ok (.fload_n 0, 1) := by decide +kernel
theorem dJxf58ca_isNaN_12338_2 : decode cJxf58ca_isNaN_12338 2 = .ok (.fcmp .l, 1) := by decide +kernel
theorem dJxf58ca_isNaN_12338_3 : decode cJxf58ca_isNaN_12338 3 = .ok (.ifCond .eq 7, 3) := by decide +kernel
theorem dJxf58ca_isNaN_12338_6 : decode cJxf58ca_isNaN_12338 6 = .ok (.iconst 1, 1) := by decide +kernel
theorem dJxf58ca_isNaN_12338_7 : decode cJxf58ca_isNaN_12338 7 = .ok (.goto 4, 3) := by decide +kernel
theorem dJxf58ca_isNaN_12338_10 : decode cJxf58ca_isNaN_12338 10 = .ok (.iconst 0, 1) := by decide +kernel
theorem dJxf58ca_isNaN_12338_11 : decode cJxf58ca_isNaN_12338 11 = .ok (.ireturn, 1) := by decide +kernel
set_option maxRecDepth 20000 in
theorem ggJxf58ca_floatToIntBits_5c35a_Jxf58ca_isNaN_12338 : GoodIn wsJxf58ca_floatToIntBits_5c35a wsJxf58ca_isNaN_12338 := goodIn_r _ [9] (by decide +kernel) (by decide +kernel)
set_option maxRecDepth 20000 in
theorem gJxf58ca_floatToIntBits_5c35a_Jxf58ca_isNaN_12338 : GoodIn wsJxf58ca_floatToIntBits_5c35a (va_wsS RJxf58ca 59 yJxf58ca_isNaN_12338 wsJxf58ca_isNaN_12338) := goodIn_app (goodIn_of _ (by decide +kernel)) ggJxf58ca_floatToIntBits_5c35a_Jxf58ca_isNaN_12338
theorem dJxf58ca_floatToIntBits_5c35a_0 : decode cJxf58ca_floatToIntBits_5c35a 0 = .ok (.fload_n 0, 1) := by decide +kernel
theorem dJxf58ca_floatToIntBits_5c35a_1 : decode cJxf58ca_floatToIntBits_5c35a 1 = .ok (.invokestatic 59, 3) := by decide +kernel
theorem dJxf58ca_floatToIntBits_5c35a_4 : decode cJxf58ca_floatToIntBits_5c35a 4 = .ok (.ifCond .ne 8, 3) := by decide +kernel
theorem dJxf58ca_floatToIntBits_5c35a_7 : decode cJxf58ca_floatToIntBits_5c35a 7 = .ok (.fload_n 0, 1) := by decide +kernel
theorem dJxf58ca_floatToIntBits_5c35a_8 : decode cJxf58ca_floatToIntBits_5c35a 8 = .ok (.invokestatic 74, 3) := by decide +kernel
theorem dJxf58ca_floatToIntBits_5c35a_11 : decode cJxf58ca_floatToIntBits_5c35a 11 = .ok (.ireturn, 1) := by decide +kernel
theorem dJxf58ca_floatToIntBits_5c35a_12 : decode cJxf58ca_floatToIntBits_5c35a 12 = .ok (.ldc 77, 2) := by decide +kernel
theorem dJxf58ca_floatToIntBits_5c35a_14 : decode cJxf58ca_floatToIntBits_5c35a 14 = .ok (.ireturn, 1) := by decide +kernel
theorem dJ9_max_7cf53_0 : decode cJ9_max_7cf53 0 = .ok (.iload_n 0, 1) := by decide +kernel
theorem dJ9_max_7cf53_1 : decode cJ9_max_7cf53 1 = .ok (.iload_n 1, 1) := by decide +kernel
theorem dJ9_max_7cf53_2 : decode cJ9_max_7cf53 2 = .ok (.if_icmp .lt 7, 3) := by decide +kernel
theorem dJ9_max_7cf53_5 : decode cJ9_max_7cf53 5 = .ok (.iload_n 0, 1) := by decide +kernel
theorem dJ9_max_7cf53_6 : decode cJ9_max_7cf53 6 = .ok (.goto 4, 3) := by decide +kernel
theorem dJ9_max_7cf53_9 : decode cJ9_max_7cf53 9 = .ok (.iload_n 1, 1) := by decide +kernel
theorem dJ9_max_7cf53_10 : decode cJ9_max_7cf53 10 = .ok (.ireturn, 1) := by decide +kernel
theorem dJ9_min_7cf53_0 : decode cJ9_min_7cf53 0 = .ok (.iload_n 0, 1) := by decide +kernel
theorem dJ9_min_7cf53_1 : decode cJ9_min_7cf53 1 = .ok (.iload_n 1, 1) := by decide +kernel
theorem dJ9_min_7cf53_2 : decode cJ9_min_7cf53 2 = .ok (.if_icmp .gt 7, 3) := by decide +kernel
theorem dJ9_min_7cf53_5 : decode cJ9_min_7cf53 5 = .ok (.iload_n 0, 1) := by decide +kernel
theorem dJ9_min_7cf53_6 : decode cJ9_min_7cf53 6 = .ok (.goto 4, 3) := by decide +kernel
theorem dJ9_min_7cf53_9 : decode cJ9_min_7cf53 9 = .ok (.iload_n 1, 1) := by decide +kernel
theorem dJ9_min_7cf53_10 : decode cJ9_min_7cf53 10 = .ok (.ireturn, 1) := by decide +kernel
end
section
set_option maxRecDepth 20000 in
theorem ggL_law_X4_init : GoodIn wsL_law wsX4_init := goodIn_r _ [9, 10, 11, 12, 13, 14, 15, 16, 17, 18, 19, 20, 21, 22, 23, 24, 25, 26, 27, 28, 29, 30, 31, 32, 33, 34, 35, 36, 37, 38, 39, 40, 41, 42, 43, 44, 45, 46, 47, 48, 49, 50, 51, 52, 53, 54, 55, 56, 57, 58, 59, 586, 587, 588, 589, 590, 591, 570, 571, 572, 573, 574, 592, 593, 594, 595, 596, 597, 598, 599, 600, 601, 602] (by decide +kernel) (by decide +kernel)
set_option maxRecDepth 20000 in
theorem gL_law_X4_init : GoodIn wsL_law (wsX4_init) := ggL_law_X4_init
set_option maxRecDepth 20000 in
theorem ggL_law_X5_init : GoodIn wsL_law wsX5_init := goodIn_r _ [62, 63, 11, 12, 31, 64, 65, 66, 67, 68, 69, 70, 71, 575, 576, 577, 578, 579, 580, 581, 582, 583, 584, 585] (by decide +kernel) (by decide +kernel)
set_option maxRecDepth 20000 in
theorem gL_law_X5_init : GoodIn wsL_law (wsX5_init) := ggL_law_X5_init
set_option maxRecDepth 20000 in
theorem ggL_law_X4_set : GoodIn wsL_law wsX4_set := goodIn_r _ [75, 22, 16, 76, 77, 78, 21, 79, 54, 80, 81, 82, 2, 83, 13, 14, 15, 27, 28, 29, 30, 11, 12, 31, 32, 33, 34, 35, 36, 37, 38, 39, 40, 41, 42, 43, 44, 45, 46, 47, 48, 49, 84, 85, 86, 87, 88, 89, 90, 91, 92, 93, 94, 95, 96, 97, 98, 99, 100, 101, 102, 103, 104, 105, 106, 107, 108, 109, 110, 570, 571, 572, 573, 574, 592, 593, 594, 586, 587, 588, 589, 590, 591, 601, 602] (by decide +kernel) (by decide +kernel)
set_option maxRecDepth 20000 in
theorem gL_law_X4_set : GoodIn wsL_law (wsV RL 13 RX4 yX4_set wsX4_set) := goodIn_app (goodIn_of _ (by decide +kernel)) ggL_law_X4_set
set_option maxRecDepth 20000 in
theorem ggL_law_X5_set : GoodIn wsL_law wsX5_set := goodIn_r _ [114, 64, 115, 116, 5, 117, 118, 119, 120, 121, 122, 123, 124, 125, 66, 126, 127, 128, 129, 130, 131, 132, 575, 576, 577, 578, 579, 580, 581, 582, 583, 584, 585] (by decide +kernel) (by decide +kernel)
set_option maxRecDepth 20000 in
theorem gL_law_X5_set : GoodIn wsL_law (wsV RL 17 RX5 yX5_set wsX5_set) := goodIn_app (goodIn_of _ (by decide +kernel)) ggL_law_X5_set
set_option maxRecDepth 20000 in
theorem ggL_law_X4_value : GoodIn wsL_law wsX4_value := goodIn_r _ [136, 22, 16, 76, 77, 78, 21, 79, 54, 80, 81, 82, 2, 83, 13, 14, 15, 27, 28, 29, 30, 11, 12, 31, 32, 33, 34, 35, 36, 37, 38, 39, 40, 41, 42, 43, 44, 45, 46, 47, 48, 49, 84, 85, 86, 87, 88, 89, 90, 91, 92, 93, 94, 95, 96, 97, 98, 99, 100, 137, 138, 139, 140, 105, 106, 107, 108, 109, 110, 570, 571, 572, 573, 574, 592, 593, 594, 586, 587, 588, 589, 590, 591, 601, 602] (by decide +kernel) (by decide +kernel)
set_option maxRecDepth 20000 in
theorem gL_law_X4_value : GoodIn wsL_law (wsV RL 18 RX4 yX4_value wsX4_value) := goodIn_app (goodIn_of _ (by decide +kernel)) ggL_law_X4_value
set_option maxRecDepth 20000 in
theorem ggL_law_X5_value : GoodIn wsL_law wsX5_value := goodIn_r _ [144, 145, 146, 5, 147, 115, 116, 117, 121, 122, 123, 124, 125, 66, 64, 126, 127, 128, 129, 130, 131, 132, 575, 576, 577, 578, 579, 580, 581, 582, 583, 584, 585] (by decide +kernel) (by decide +kernel)
set_option maxRecDepth 20000 in
theorem gL_law_X5_value : GoodIn wsL_law (wsV RL 21 RX5 yX5_value wsX5_value) := goodIn_app (goodIn_of _ (by decide +kernel)) ggL_law_X5_value
set_option maxRecDepth 20000 in
theorem ggL_law_X4_slip : GoodIn wsL_law wsX4_slip := goodIn_r _ [151, 22, 16, 76, 77, 78, 21, 79, 54, 80, 81, 82, 2, 83, 13, 14, 15, 27, 28, 29, 30, 11, 12, 31, 32, 33, 34, 35, 36, 37, 38, 39, 40, 41, 42, 43, 44, 45, 46, 47, 48, 49, 84, 85, 86, 87, 88, 89, 90, 91, 92, 93, 94, 95, 96, 97, 98, 99, 100, 152, 153, 154, 155, 105, 106, 107, 108, 109, 110, 570, 571, 572, 573, 574, 592, 593, 594, 586, 587, 588, 589, 590, 591, 601, 602] (by decide +kernel) (by decide +kernel)
set_option maxRecDepth 20000 in
theorem gL_law_X4_slip : GoodIn wsL_law (wsV RL 22 RX4 yX4_slip wsX4_slip) := goodIn_app (goodIn_of _ (by decide +kernel)) ggL_law_X4_slip
set_option maxRecDepth 20000 in
theorem ggL_law_X5_slip : GoodIn wsL_law wsX5_slip := goodIn_r _ [159, 160, 161, 5, 162, 115, 116, 117, 121, 122, 123, 124, 125, 66, 64, 126, 127, 128, 163, 164, 165, 166, 575, 576, 577, 578, 579, 580, 581, 582, 583, 584, 585] (by decide +kernel) (by decide +kernel)
set_option maxRecDepth 20000 in
theorem gL_law_X5_slip : GoodIn wsL_law (wsV RL 25 RX5 yX5_slip wsX5_slip) := goodIn_app (goodIn_of _ (by decide +kernel)) ggL_law_X5_slip
set_option maxRecDepth 20000 in
theorem ggL_law_X4_pass : GoodIn wsL_law wsX4_pass := goodIn_r _ [170, 22, 16, 171, 76, 77, 78, 21, 79, 54, 80, 81, 82, 2, 83, 13, 14, 15, 27, 28, 29, 30, 11, 12, 31, 32, 33, 34, 35, 36, 37, 38, 39, 40, 41, 42, 43, 44, 45, 46, 47, 48, 49, 84, 85, 86, 87, 88, 89, 90, 91, 92, 93, 94, 95, 96, 97, 98, 99, 100, 172, 173, 174, 175, 176, 177, 105, 106, 178, 179, 180, 181, 182, 183, 184, 185, 186, 187, 188, 189, 190, 191, 192, 193, 194, 195, 196, 197, 198, 199, 200, 201, 202, 203, 204, 205, 206, 207, 208, 209, 210, 211, 212, 213, 214, 215, 216, 217, 218, 219, 220, 221, 222, 223, 224, 225, 226, 227, 228, 229, 230, 231, 232, 233, 107, 108, 109, 110, 570, 571, 572, 573, 574, 592, 593, 594, 586, 587, 588, 589, 590, 591, 601, 602] (by decide +kernel) (by decide +kernel)
set_option maxRecDepth 20000 in
theorem gL_law_X4_pass : GoodIn wsL_law (wsV RL 26 RX4 yX4_pass wsX4_pass) := goodIn_app (goodIn_of _ (by decide +kernel)) ggL_law_X4_pass
set_option maxRecDepth 20000 in
theorem ggL_law_X5_pass : GoodIn wsL_law wsX5_pass := goodIn_r _ [237, 64, 238, 239, 240, 5, 241, 242, 115, 116, 117, 121, 122, 123, 124, 125, 66, 126, 127, 128, 243, 244, 245, 246, 247, 248, 249, 250, 251, 252, 253, 254, 255, 256, 257, 258, 259, 260, 261, 262, 263, 264, 265, 266, 267, 268, 269, 270, 271, 272, 273, 274, 275, 276, 277, 278, 575, 576, 577, 578, 579, 580, 581, 582, 583, 584, 585] (by decide +kernel) (by decide +kernel)
set_option maxRecDepth 20000 in
theorem gL_law_X5_pass : GoodIn wsL_law (wsV RL 30 RX5 yX5_pass wsX5_pass) := goodIn_app (goodIn_of _ (by decide +kernel)) ggL_law_X5_pass
set_option maxRecDepth 20000 in
theorem ggL_law_X4_flush : GoodIn wsL_law wsX4_flush := goodIn_r _ [282, 22, 16, 76, 77, 78, 21, 79, 54, 80, 81, 82, 2, 83, 13, 14, 15, 27, 28, 29, 30, 11, 12, 31, 32, 33, 34, 35, 36, 37, 38, 39, 40, 41, 42, 43, 44, 45, 46, 47, 48, 49, 84, 85, 86, 87, 88, 89, 90, 91, 92, 93, 94, 95, 96, 97, 98, 99, 100, 283, 284, 285, 286, 202, 203, 204, 205, 198, 199, 200, 201, 190, 191, 192, 193, 206, 207, 208, 209, 107, 108, 109, 110, 570, 571, 572, 573, 574, 592, 593, 594, 586, 587, 588, 589, 590, 591, 601, 602] (by decide +kernel) (by decide +kernel)
set_option maxRecDepth 20000 in
theorem gL_law_X4_flush : GoodIn wsL_law (wsV RL 31 RX4 yX4_flush wsX4_flush) := goodIn_app (goodIn_of _ (by decide +kernel)) ggL_law_X4_flush
set_option maxRecDepth 20000 in
theorem ggL_law_X5_flush : GoodIn wsL_law wsX5_flush := goodIn_r _ [290, 64, 121, 122, 123, 5, 124, 125, 66, 126, 127, 128, 264, 265, 266, 255, 256, 257, 261, 262, 263, 267, 268, 269, 575, 576, 577, 578, 579, 580, 581, 582, 583, 584, 585] (by decide +kernel) (by decide +kernel)
set_option maxRecDepth 20000 in
theorem gL_law_X5_flush : GoodIn wsL_law (wsV RL 35 RX5 yX5_flush wsX5_flush) := goodIn_app (goodIn_of _ (by decide +kernel)) ggL_law_X5_flush
set_option maxRecDepth 20000 in
theorem ggL_law_X4_waiting : GoodIn wsL_law wsX4_waiting := goodIn_r _ [294, 16, 295, 105, 2, 106, 296, 199, 200, 36, 201, 44, 49, 570, 571, 572, 573, 574, 586, 587, 588, 589, 590, 591, 601, 602] (by decide +kernel) (by decide +kernel)
set_option maxRecDepth 20000 in
theorem gL_law_X4_waiting : GoodIn wsL_law (wsV RL 36 RX4 yX4_waiting wsX4_waiting) := goodIn_app (goodIn_of _ (by decide +kernel)) ggL_law_X4_waiting
set_option maxRecDepth 20000 in
theorem ggL_law_X5_waiting : GoodIn wsL_law wsX5_waiting := goodIn_r _ [300, 64, 115, 116, 5, 117, 255, 256, 257, 575, 576, 577, 578, 579, 580, 581, 582, 583, 584, 585] (by decide +kernel) (by decide +kernel)
set_option maxRecDepth 20000 in
theorem gL_law_X5_waiting : GoodIn wsL_law (wsV RL 39 RX5 yX5_waiting wsX5_waiting) := goodIn_app (goodIn_of _ (by decide +kernel)) ggL_law_X5_waiting
set_option maxRecDepth 20000 in
theorem ggL_law_X4_row : GoodIn wsL_law wsX4_row := goodIn_r _ [304, 16, 305, 215, 216, 15, 217, 186, 187, 188, 189, 32, 105, 2, 106, 295, 296, 199, 200, 36, 201, 44, 49, 570, 571, 572, 573, 574, 586, 587, 588, 589, 590, 591, 601, 602] (by decide +kernel) (by decide +kernel)
set_option maxRecDepth 20000 in
theorem gL_law_X4_row : GoodIn wsL_law (wsV RL 40 RX4 yX4_row wsX4_row) := goodIn_app (goodIn_of _ (by decide +kernel)) ggL_law_X4_row
set_option maxRecDepth 20000 in
theorem ggL_law_X5_row : GoodIn wsL_law wsX5_row := goodIn_r _ [309, 64, 115, 116, 5, 117, 575, 576, 577, 578, 579, 580, 581, 582, 583, 584, 585] (by decide +kernel) (by decide +kernel)
set_option maxRecDepth 20000 in
theorem gL_law_X5_row : GoodIn wsL_law (wsV RL 43 RX5 yX5_row wsX5_row) := goodIn_app (goodIn_of _ (by decide +kernel)) ggL_law_X5_row
set_option maxRecDepth 20000 in
theorem ggL_law_X4_ofMissing : GoodIn wsL_law wsX4_ofMissing := goodIn_r _ [313, 16, 314, 98, 47, 99, 295, 105, 2, 106, 296, 199, 200, 36, 201, 44, 49, 570, 571, 572, 573, 574, 586, 587, 588, 589, 590, 591, 601, 602] (by decide +kernel) (by decide +kernel)
set_option maxRecDepth 20000 in
theorem gL_law_X4_ofMissing : GoodIn wsL_law (wsV RL 44 RX4 yX4_ofMissing wsX4_ofMissing) := goodIn_app (goodIn_of _ (by decide +kernel)) ggL_law_X4_ofMissing
set_option maxRecDepth 20000 in
theorem ggL_law_X5_ofMissing : GoodIn wsL_law wsX5_ofMissing := goodIn_r _ [318, 64, 115, 116, 5, 117, 575, 576, 577, 578, 579, 580, 581, 582, 583, 584, 585] (by decide +kernel) (by decide +kernel)
set_option maxRecDepth 20000 in
theorem gL_law_X5_ofMissing : GoodIn wsL_law (wsV RL 47 RX5 yX5_ofMissing wsX5_ofMissing) := goodIn_app (goodIn_of _ (by decide +kernel)) ggL_law_X5_ofMissing
set_option maxRecDepth 20000 in
theorem ggL_law_X4_count : GoodIn wsL_law wsX4_count := goodIn_r _ [322, 26, 22, 16, 295, 105, 2, 106, 570, 571, 572, 573, 574, 595, 596, 597, 598, 599, 600, 592, 593, 594, 586, 587, 588, 589, 590, 591] (by decide +kernel) (by decide +kernel)
set_option maxRecDepth 20000 in
theorem gL_law_X4_count : GoodIn wsL_law (wsV RL 48 RX4 yX4_count wsX4_count) := goodIn_app (goodIn_of _ (by decide +kernel)) ggL_law_X4_count
set_option maxRecDepth 20000 in
theorem ggL_law_X5_count : GoodIn wsL_law wsX5_count := goodIn_r _ [326, 64, 327, 125, 115, 116, 5, 117, 575, 576, 577, 578, 579, 580, 581, 582, 583, 584, 585] (by decide +kernel) (by decide +kernel)
set_option maxRecDepth 20000 in
theorem gL_law_X5_count : GoodIn wsL_law (wsV RL 51 RX5 yX5_count wsX5_count) := goodIn_app (goodIn_of _ (by decide +kernel)) ggL_law_X5_count
set_option maxRecDepth 20000 in
theorem ggL_law_X4_shown : GoodIn wsL_law wsX4_shown := goodIn_r _ [331, 16, 305, 215, 216, 15, 217, 186, 187, 188, 189, 32, 105, 2, 106, 296, 199, 200, 36, 201, 44, 49, 570, 571, 572, 573, 574, 586, 587, 588, 589, 590, 591, 601, 602] (by decide +kernel) (by decide +kernel)
set_option maxRecDepth 20000 in
theorem gL_law_X4_shown : GoodIn wsL_law (wsV RL 52 RX4 yX4_shown wsX4_shown) := goodIn_app (goodIn_of _ (by decide +kernel)) ggL_law_X4_shown
set_option maxRecDepth 20000 in
theorem ggL_law_X5_shown : GoodIn wsL_law wsX5_shown := goodIn_r _ [335, 64, 575, 576, 577, 578, 579, 580, 581, 582, 583, 584, 585] (by decide +kernel) (by decide +kernel)
set_option maxRecDepth 20000 in
theorem gL_law_X5_shown : GoodIn wsL_law (wsV RL 55 RX5 yX5_shown wsX5_shown) := goodIn_app (goodIn_of _ (by decide +kernel)) ggL_law_X5_shown
set_option maxRecDepth 20000 in
theorem ggL_law_X4_ratio : GoodIn wsL_law wsX4_ratio := goodIn_r _ [339, 16, 340, 187, 188, 15, 189, 32, 105, 2, 106, 341, 342, 343, 344, 570, 571, 572, 573, 574, 586, 587, 588, 589, 590, 591] (by decide +kernel) (by decide +kernel)
set_option maxRecDepth 20000 in
theorem gL_law_X4_ratio : GoodIn wsL_law (wsV RL 56 RX4 yX4_ratio wsX4_ratio) := goodIn_app (goodIn_of _ (by decide +kernel)) ggL_law_X4_ratio
set_option maxRecDepth 20000 in
theorem ggL_law_X5_ratio : GoodIn wsL_law wsX5_ratio := goodIn_r _ [348, 64, 349, 350, 351, 352, 353, 354, 355, 356, 357, 358, 359, 360, 575, 576, 577, 578, 579, 580, 581, 582, 583, 584, 585] (by decide +kernel) (by decide +kernel)
set_option maxRecDepth 20000 in
theorem gL_law_X5_ratio : GoodIn wsL_law (wsV RL 59 RX5 yX5_ratio wsX5_ratio) := goodIn_app (goodIn_of _ (by decide +kernel)) ggL_law_X5_ratio
set_option maxRecDepth 20000 in
theorem ggL_law_X4_fill : GoodIn wsL_law wsX4_fill := goodIn_r _ [364, 16, 341, 342, 2, 343, 344, 570, 571, 572, 573, 574, 586, 587, 588, 589, 590, 591] (by decide +kernel) (by decide +kernel)
set_option maxRecDepth 20000 in
theorem gL_law_X4_fill : GoodIn wsL_law (wsV RL 60 RX4 yX4_fill wsX4_fill) := goodIn_app (goodIn_of _ (by decide +kernel)) ggL_law_X4_fill
set_option maxRecDepth 20000 in
theorem ggL_law_X5_fill : GoodIn wsL_law wsX5_fill := goodIn_r _ [368, 64, 369, 370, 371, 372, 373, 374, 375, 376, 377, 378, 379, 380, 575, 576, 577, 578, 579, 580, 581, 582, 583, 584, 585] (by decide +kernel) (by decide +kernel)
set_option maxRecDepth 20000 in
theorem gL_law_X5_fill : GoodIn wsL_law (wsV RL 64 RX5 yX5_fill wsX5_fill) := goodIn_app (goodIn_of _ (by decide +kernel)) ggL_law_X5_fill
set_option maxRecDepth 20000 in
theorem ggL_law_X4_would : GoodIn wsL_law wsX4_would := goodIn_r _ [384, 17, 16, 385, 295, 105, 2, 106, 84, 85, 86, 15, 87, 32, 88, 89, 90, 91, 33, 37, 38, 39, 92, 93, 94, 95, 36, 96, 49, 97, 98, 47, 99, 100, 172, 173, 174, 175, 176, 177, 46, 48, 178, 179, 180, 181, 182, 183, 184, 185, 186, 187, 188, 189, 190, 191, 192, 193, 44, 194, 195, 196, 197, 198, 199, 200, 201, 202, 203, 204, 205, 206, 207, 208, 209, 210, 211, 212, 213, 214, 215, 216, 217, 218, 219, 220, 221, 222, 223, 224, 225, 226, 227, 228, 229, 230, 231, 232, 233, 386, 387, 388, 389, 570, 571, 572, 573, 574, 586, 587, 588, 589, 590, 591, 601, 602] (by decide +kernel) (by decide +kernel)
set_option maxRecDepth 20000 in
theorem gL_law_X4_would : GoodIn wsL_law (wsV RL 65 RX4 yX4_would wsX4_would) := goodIn_app (goodIn_of _ (by decide +kernel)) ggL_law_X4_would
set_option maxRecDepth 20000 in
theorem ggL_law_X5_would : GoodIn wsL_law wsX5_would := goodIn_r _ [393, 65, 394, 395, 5, 396, 115, 116, 117, 397, 398, 399, 400, 64, 126, 127, 128, 243, 244, 245, 246, 247, 248, 249, 250, 251, 252, 253, 254, 255, 256, 257, 258, 259, 260, 261, 262, 263, 264, 265, 266, 267, 268, 269, 270, 271, 272, 273, 274, 275, 276, 277, 278, 401, 402, 403, 404, 575, 576, 577, 578, 579, 580, 581, 582, 583, 584, 585] (by decide +kernel) (by decide +kernel)
set_option maxRecDepth 20000 in
theorem gL_law_X5_would : GoodIn wsL_law (wsV RL 68 RX5 yX5_would wsX5_would) := goodIn_app (goodIn_of _ (by decide +kernel)) ggL_law_X5_would
set_option maxRecDepth 20000 in
theorem ggL_law_X4_leastRoom : GoodIn wsL_law wsX4_leastRoom := goodIn_r _ [408, 16, 409, 46, 47, 48, 295, 105, 2, 106, 410, 411, 412, 413, 17, 385, 84, 85, 86, 15, 87, 32, 88, 89, 90, 91, 33, 37, 38, 39, 92, 93, 94, 95, 36, 96, 49, 97, 98, 99, 100, 172, 173, 174, 175, 176, 177, 178, 179, 180, 181, 182, 183, 184, 185, 186, 187, 188, 189, 190, 191, 192, 193, 44, 194, 195, 196, 197, 198, 199, 200, 201, 202, 203, 204, 205, 206, 207, 208, 209, 210, 211, 212, 213, 214, 215, 216, 217, 218, 219, 220, 221, 222, 223, 224, 225, 226, 227, 228, 229, 230, 231, 232, 233, 386, 387, 388, 389, 570, 571, 572, 573, 574, 586, 587, 588, 589, 590, 591, 601, 602] (by decide +kernel) (by decide +kernel)
set_option maxRecDepth 20000 in
theorem gL_law_X4_leastRoom : GoodIn wsL_law (wsV RL 69 RX4 yX4_leastRoom wsX4_leastRoom) := goodIn_app (goodIn_of _ (by decide +kernel)) ggL_law_X4_leastRoom
set_option maxRecDepth 20000 in
theorem ggL_law_X5_leastRoom : GoodIn wsL_law wsX5_leastRoom := goodIn_r _ [417, 64, 65, 394, 395, 5, 396, 115, 116, 117, 397, 398, 399, 400, 126, 127, 128, 243, 244, 245, 246, 247, 248, 249, 250, 251, 252, 253, 254, 255, 256, 257, 258, 259, 260, 261, 262, 263, 264, 265, 266, 267, 268, 269, 270, 271, 272, 273, 274, 275, 276, 277, 278, 401, 402, 403, 404, 575, 576, 577, 578, 579, 580, 581, 582, 583, 584, 585] (by decide +kernel) (by decide +kernel)
set_option maxRecDepth 20000 in
theorem gL_law_X5_leastRoom : GoodIn wsL_law (wsV RL 72 RX5 yX5_leastRoom wsX5_leastRoom) := goodIn_app (goodIn_of _ (by decide +kernel)) ggL_law_X5_leastRoom
set_option maxRecDepth 20000 in
theorem ggL_law_X4_bestOut : GoodIn wsL_law wsX4_bestOut := goodIn_r _ [421, 385, 295, 105, 2, 106, 410, 411, 412, 413, 17, 16, 84, 85, 86, 15, 87, 32, 88, 89, 90, 91, 33, 37, 38, 39, 92, 93, 94, 95, 36, 96, 49, 97, 98, 47, 99, 100, 172, 173, 174, 175, 176, 177, 46, 48, 178, 179, 180, 181, 182, 183, 184, 185, 186, 187, 188, 189, 190, 191, 192, 193, 44, 194, 195, 196, 197, 198, 199, 200, 201, 202, 203, 204, 205, 206, 207, 208, 209, 210, 211, 212, 213, 214, 215, 216, 217, 218, 219, 220, 221, 222, 223, 224, 225, 226, 227, 228, 229, 230, 231, 232, 233, 386, 387, 388, 389, 570, 571, 572, 573, 574, 586, 587, 588, 589, 590, 591, 601, 602] (by decide +kernel) (by decide +kernel)
set_option maxRecDepth 20000 in
theorem gL_law_X4_bestOut : GoodIn wsL_law (wsV RL 73 RX4 yX4_bestOut wsX4_bestOut) := goodIn_app (goodIn_of _ (by decide +kernel)) ggL_law_X4_bestOut
set_option maxRecDepth 20000 in
theorem ggL_law_X5_bestOut : GoodIn wsL_law wsX5_bestOut := goodIn_r _ [425, 65, 394, 395, 5, 396, 115, 116, 117, 397, 398, 399, 400, 64, 126, 127, 128, 243, 244, 245, 246, 247, 248, 249, 250, 251, 252, 253, 254, 255, 256, 257, 258, 259, 260, 261, 262, 263, 264, 265, 266, 267, 268, 269, 270, 271, 272, 273, 274, 275, 276, 277, 278, 401, 402, 403, 404, 575, 576, 577, 578, 579, 580, 581, 582, 583, 584, 585] (by decide +kernel) (by decide +kernel)
set_option maxRecDepth 20000 in
theorem gL_law_X5_bestOut : GoodIn wsL_law (wsV RL 76 RX5 yX5_bestOut wsX5_bestOut) := goodIn_app (goodIn_of _ (by decide +kernel)) ggL_law_X5_bestOut
set_option maxRecDepth 20000 in
theorem ggL_law_X4_put : GoodIn wsL_law wsX4_put := goodIn_r _ [429, 26, 430, 431, 2, 432, 433, 295, 105, 106, 434, 435, 436, 25, 437, 438, 59, 439, 570, 571, 572, 573, 574, 595, 596, 597, 598, 599, 600] (by decide +kernel) (by decide +kernel)
set_option maxRecDepth 20000 in
theorem gL_law_X4_put : GoodIn wsL_law (wsV RL 79 RX4 yX4_put wsX4_put) := goodIn_app (goodIn_of _ (by decide +kernel)) ggL_law_X4_put
set_option maxRecDepth 20000 in
theorem ggL_law_X5_put : GoodIn wsL_law wsX5_put := goodIn_r _ [443, 327, 70, 444, 445, 5, 446, 447, 448, 449, 450, 115, 116, 117, 575, 576, 577, 578, 579, 580, 581, 582, 583, 584, 585] (by decide +kernel) (by decide +kernel)
set_option maxRecDepth 20000 in
theorem gL_law_X5_put : GoodIn wsL_law (wsV RL 83 RX5 yX5_put wsX5_put) := goodIn_app (goodIn_of _ (by decide +kernel)) ggL_law_X5_put
set_option maxRecDepth 20000 in
theorem ggL_law_X4_wipe : GoodIn wsL_law wsX4_wipe := goodIn_r _ [454, 26, 570, 571, 572, 573, 574, 595, 596, 597, 598, 599, 600] (by decide +kernel) (by decide +kernel)
set_option maxRecDepth 20000 in
theorem gL_law_X4_wipe : GoodIn wsL_law (wsV RL 84 RX4 yX4_wipe wsX4_wipe) := goodIn_app (goodIn_of _ (by decide +kernel)) ggL_law_X4_wipe
set_option maxRecDepth 20000 in
theorem ggL_law_X5_wipe : GoodIn wsL_law wsX5_wipe := goodIn_r _ [458, 327, 575, 576, 577, 578, 579, 580, 581, 582, 583, 584, 585] (by decide +kernel) (by decide +kernel)
set_option maxRecDepth 20000 in
theorem gL_law_X5_wipe : GoodIn wsL_law (wsV RL 87 RX5 yX5_wipe wsX5_wipe) := goodIn_app (goodIn_of _ (by decide +kernel)) ggL_law_X5_wipe
set_option maxRecDepth 20000 in
theorem ggL_law_X4_fault : GoodIn wsL_law wsX4_fault := goodIn_r _ [462, 26, 463, 464, 465, 25, 466, 467, 438, 468, 469, 470, 471, 472, 473, 474, 475, 476, 477, 478, 59, 479, 480, 481, 482, 483, 484, 485, 486, 487, 488, 489, 490, 491, 492, 570, 571, 572, 573, 574, 595, 596, 597, 598, 599, 600] (by decide +kernel) (by decide +kernel)
set_option maxRecDepth 20000 in
theorem gL_law_X4_fault : GoodIn wsL_law (wsV RL 88 RX4 yX4_fault wsX4_fault) := goodIn_app (goodIn_of _ (by decide +kernel)) ggL_law_X4_fault
set_option maxRecDepth 20000 in
theorem ggL_law_X5_fault : GoodIn wsL_law wsX5_fault := goodIn_r _ [496, 497, 498, 499, 500, 5, 501, 502, 327, 503, 504, 505, 506, 70, 71, 507, 508, 509, 510, 511, 512, 513, 514, 115, 116, 117, 515, 516, 517, 518, 575, 576, 577, 578, 579, 580, 581, 582, 583, 584, 585] (by decide +kernel) (by decide +kernel)
set_option maxRecDepth 20000 in
theorem gL_law_X5_fault : GoodIn wsL_law (wsV RL 91 RX5 yX5_fault wsX5_fault) := goodIn_app (goodIn_of _ (by decide +kernel)) ggL_law_X5_fault
set_option maxRecDepth 20000 in
theorem ggL_law_X4_carryOut : GoodIn wsL_law wsX4_carryOut := goodIn_r _ [522, 26, 22, 16, 463, 464, 465, 25, 466, 467, 438, 468, 469, 470, 471, 472, 473, 474, 475, 476, 477, 478, 59, 479, 480, 481, 482, 483, 484, 485, 486, 487, 488, 489, 490, 491, 492, 76, 77, 78, 21, 79, 54, 80, 81, 82, 2, 83, 13, 14, 15, 27, 28, 29, 30, 11, 12, 31, 32, 33, 34, 35, 36, 37, 38, 39, 40, 41, 42, 43, 44, 45, 46, 47, 48, 49, 84, 85, 86, 87, 88, 89, 90, 91, 92, 93, 94, 95, 96, 97, 98, 99, 100, 523, 524, 525, 526, 527, 171, 101, 102, 103, 104, 105, 106, 137, 138, 139, 140, 172, 173, 174, 175, 176, 177, 178, 179, 180, 181, 182, 183, 184, 185, 186, 187, 188, 189, 190, 191, 192, 193, 194, 195, 196, 197, 198, 199, 200, 201, 202, 203, 204, 205, 206, 207, 208, 209, 210, 211, 212, 213, 214, 215, 216, 217, 218, 219, 220, 221, 222, 223, 224, 225, 226, 227, 228, 229, 230, 231, 232, 233, 152, 153, 154, 155, 528, 107, 108, 109, 110, 570, 571, 572, 573, 574, 595, 596, 597, 598, 599, 600, 592, 593, 594, 586, 587, 588, 589, 590, 591, 601, 602] (by decide +kernel) (by decide +kernel)
set_option maxRecDepth 20000 in
theorem gL_law_X4_carryOut : GoodIn wsL_law (wsV RL 92 RX4 yX4_carryOut wsX4_carryOut) := goodIn_app (goodIn_of _ (by decide +kernel)) ggL_law_X4_carryOut
set_option maxRecDepth 20000 in
theorem ggL_law_X5_carryOut : GoodIn wsL_law wsX5_carryOut := goodIn_r _ [532, 327, 502, 498, 499, 500, 5, 501, 497, 503, 504, 505, 506, 70, 71, 507, 508, 509, 510, 511, 512, 513, 514, 115, 116, 117, 515, 516, 517, 518, 121, 122, 123, 124, 125, 66, 64, 126, 127, 128, 533, 534, 535, 536, 537, 538, 539, 540, 118, 119, 120, 145, 146, 147, 238, 239, 240, 241, 242, 160, 161, 162, 129, 130, 131, 132, 243, 244, 245, 246, 247, 248, 249, 250, 251, 252, 253, 254, 255, 256, 257, 258, 259, 260, 261, 262, 263, 264, 265, 266, 267, 268, 269, 270, 271, 272, 273, 274, 275, 276, 277, 278, 163, 164, 165, 166, 575, 576, 577, 578, 579, 580, 581, 582, 583, 584, 585] (by decide +kernel) (by decide +kernel)
set_option maxRecDepth 20000 in
theorem gL_law_X5_carryOut : GoodIn wsL_law (wsV RL 95 RX5 yX5_carryOut wsX5_carryOut) := goodIn_app (goodIn_of _ (by decide +kernel)) ggL_law_X5_carryOut
set_option maxRecDepth 20000 in
theorem ggL_law_X4_undo : GoodIn wsL_law wsX4_undo := goodIn_r _ [544, 22, 16, 545, 546, 547, 21, 548, 81, 54, 80, 84, 85, 86, 15, 87, 32, 88, 89, 90, 91, 33, 37, 38, 39, 92, 93, 94, 95, 36, 96, 49, 97, 98, 47, 99, 100, 570, 571, 572, 573, 574, 592, 593, 594, 586, 587, 588, 589, 590, 591, 601, 602] (by decide +kernel) (by decide +kernel)
set_option maxRecDepth 20000 in
theorem gL_law_X4_undo : GoodIn wsL_law (wsV RL 96 RX4 yX4_undo wsX4_undo) := goodIn_app (goodIn_of _ (by decide +kernel)) ggL_law_X4_undo
set_option maxRecDepth 20000 in
theorem ggL_law_X5_undo : GoodIn wsL_law wsX5_undo := goodIn_r _ [552, 125, 66, 64, 126, 127, 5, 128, 575, 576, 577, 578, 579, 580, 581, 582, 583, 584, 585] (by decide +kernel) (by decide +kernel)
set_option maxRecDepth 20000 in
theorem gL_law_X5_undo : GoodIn wsL_law (wsV RL 99 RX5 yX5_undo wsX5_undo) := goodIn_app (goodIn_of _ (by decide +kernel)) ggL_law_X5_undo
set_option maxRecDepth 20000 in
theorem ggL_law_X4_save : GoodIn wsL_law wsX4_save := goodIn_r _ [556, 18, 16, 295, 105, 2, 106, 557, 82, 83, 13, 14, 15, 27, 28, 29, 30, 11, 12, 31, 32, 33, 34, 35, 36, 37, 38, 39, 40, 41, 42, 43, 44, 45, 46, 47, 48, 49, 84, 85, 86, 87, 88, 89, 90, 91, 92, 93, 94, 95, 96, 97, 98, 99, 100, 570, 571, 572, 573, 574, 586, 587, 588, 589, 590, 591, 601, 602] (by decide +kernel) (by decide +kernel)
set_option maxRecDepth 20000 in
theorem gL_law_X4_save : GoodIn wsL_law (wsV RL 100 RX4 yX4_save wsX4_save) := goodIn_app (goodIn_of _ (by decide +kernel)) ggL_law_X4_save
set_option maxRecDepth 20000 in
theorem ggL_law_X5_save : GoodIn wsL_law wsX5_save := goodIn_r _ [561, 64, 67, 69, 115, 116, 5, 117, 126, 127, 128, 575, 576, 577, 578, 579, 580, 581, 582, 583, 584, 585] (by decide +kernel) (by decide +kernel)
set_option maxRecDepth 20000 in
theorem gL_law_X5_save : GoodIn wsL_law (wsV RL 103 RX5 yX5_save wsX5_save) := goodIn_app (goodIn_of _ (by decide +kernel)) ggL_law_X5_save
set_option maxRecDepth 20000 in
theorem ggL_law_X4_restore : GoodIn wsL_law wsX4_restore := goodIn_r _ [565, 18, 22, 16, 295, 105, 2, 106, 76, 77, 78, 21, 79, 54, 80, 81, 82, 83, 13, 14, 15, 27, 28, 29, 30, 11, 12, 31, 32, 33, 34, 35, 36, 37, 38, 39, 40, 41, 42, 43, 44, 45, 46, 47, 48, 49, 84, 85, 86, 87, 88, 89, 90, 91, 92, 93, 94, 95, 96, 97, 98, 99, 100, 107, 108, 109, 110, 570, 571, 572, 573, 574, 586, 587, 588, 589, 590, 591, 592, 593, 594, 601, 602] (by decide +kernel) (by decide +kernel)
set_option maxRecDepth 20000 in
theorem gL_law_X4_restore : GoodIn wsL_law (wsV RL 104 RX4 yX4_restore wsX4_restore) := goodIn_app (goodIn_of _ (by decide +kernel)) ggL_law_X4_restore
set_option maxRecDepth 20000 in
theorem ggL_law_X5_restore : GoodIn wsL_law wsX5_restore := goodIn_r _ [569, 69, 67, 64, 115, 116, 5, 117, 121, 122, 123, 124, 125, 66, 126, 127, 128, 575, 576, 577, 578, 579, 580, 581, 582, 583, 584, 585] (by decide +kernel) (by decide +kernel)
set_option maxRecDepth 20000 in
theorem gL_law_X5_restore : GoodIn wsL_law (wsV RL 107 RX5 yX5_restore wsX5_restore) := goodIn_app (goodIn_of _ (by decide +kernel)) ggL_law_X5_restore
theorem dL_law_0 : decode cL_law 0 = .ok (.new 7, 3) := by decide +kernel
theorem dL_law_3 : decode cL_law 3 = .ok (.dup, 1) := by decide +kernel
theorem dL_law_4 : decode cL_law 4 = .ok (.invokespecial 9, 3) := by decide +kernel
theorem dL_law_7 : decode cL_law 7 = .ok (.astore_n 1, 1) := by decide +kernel
theorem dL_law_8 : decode cL_law 8 = .ok (.new 10, 3) := by decide +kernel
theorem dL_law_11 : decode cL_law 11 = .ok (.dup, 1) := by decide +kernel
theorem dL_law_12 : decode cL_law 12 = .ok (.invokespecial 12, 3) := by decide +kernel
theorem dL_law_15 : decode cL_law 15 = .ok (.astore_n 2, 1) := by decide +kernel
theorem dL_law_16 : decode cL_law 16 = .ok (.iconst 0, 1) := by decide +kernel
theorem dL_law_17 : decode cL_law 17 = .ok (.istore_n 3, 1) := by decide +kernel
theorem dL_law_18 : decode cL_law 18 = .ok (.iload_n 3, 1) := by decide +kernel
theorem dL_law_19 : decode cL_law 19 = .ok (.aload_n 0, 1) := by decide +kernel
theorem dL_law_20 : decode cL_law 20 = .ok (.arraylength, 1) := by decide +kernel
theorem dL_law_21 : decode cL_law 21 = .ok (.iconst 3, 1) := by decide +kernel
theorem dL_law_22 : decode cL_law 22 = .ok (.isub, 1) := by decide +kernel
theorem dL_law_23 : decode cL_law 23 = .ok (.if_icmp .gt 656, 3) := by decide +kernel
theorem dL_law_26 : decode cL_law 26 = .ok (.aload_n 0, 1) := by decide +kernel
theorem dL_law_27 : decode cL_law 27 = .ok (.iload_n 3, 1) := by decide +kernel
theorem dL_law_28 : decode cL_law 28 = .ok (.iaload, 1) := by decide +kernel
theorem dL_law_29 : decode cL_law 29 = .ok (.bipush 31, 2) := by decide +kernel
theorem dL_law_31 : decode cL_law 31 = .ok (.iand, 1) := by decide +kernel
theorem dL_law_32 : decode cL_law 32 = .ok (.tableswitch 641 0 21 #[104, 137, 170, 203, 226, 239, 272, 305, 338, 361, 374, 387, 401, 434, 457, 490, 543, 556, 569, 582, 595, 618], 104) := by decide +kernel
theorem dL_law_136 : decode cL_law 136 = .ok (.aload_n 1, 1) := by decide +kernel
theorem dL_law_137 : decode cL_law 137 = .ok (.aload_n 0, 1) := by decide +kernel
theorem dL_law_138 : decode cL_law 138 = .ok (.iload_n 3, 1) := by decide +kernel
theorem dL_law_139 : decode cL_law 139 = .ok (.iconst 1, 1) := by decide +kernel
theorem dL_law_140 : decode cL_law 140 = .ok (.iadd, 1) := by decide +kernel
theorem dL_law_141 : decode cL_law 141 = .ok (.iaload, 1) := by decide +kernel
theorem dL_law_142 : decode cL_law 142 = .ok (.aload_n 0, 1) := by decide +kernel
theorem dL_law_143 : decode cL_law 143 = .ok (.iload_n 3, 1) := by decide +kernel
theorem dL_law_144 : decode cL_law 144 = .ok (.iconst 2, 1) := by decide +kernel
theorem dL_law_145 : decode cL_law 145 = .ok (.iadd, 1) := by decide +kernel
theorem dL_law_146 : decode cL_law 146 = .ok (.iaload, 1) := by decide +kernel
theorem dL_law_147 : decode cL_law 147 = .ok (.invokevirtual 13, 3) := by decide +kernel
theorem dL_law_150 : decode cL_law 150 = .ok (.aload_n 2, 1) := by decide +kernel
theorem dL_law_151 : decode cL_law 151 = .ok (.aload_n 0, 1) := by decide +kernel
theorem dL_law_152 : decode cL_law 152 = .ok (.iload_n 3, 1) := by decide +kernel
theorem dL_law_153 : decode cL_law 153 = .ok (.iconst 1, 1) := by decide +kernel
theorem dL_law_154 : decode cL_law 154 = .ok (.iadd, 1) := by decide +kernel
theorem dL_law_155 : decode cL_law 155 = .ok (.iaload, 1) := by decide +kernel
theorem dL_law_156 : decode cL_law 156 = .ok (.aload_n 0, 1) := by decide +kernel
theorem dL_law_157 : decode cL_law 157 = .ok (.iload_n 3, 1) := by decide +kernel
theorem dL_law_158 : decode cL_law 158 = .ok (.iconst 2, 1) := by decide +kernel
theorem dL_law_159 : decode cL_law 159 = .ok (.iadd, 1) := by decide +kernel
theorem dL_law_160 : decode cL_law 160 = .ok (.iaload, 1) := by decide +kernel
theorem dL_law_161 : decode cL_law 161 = .ok (.invokevirtual 17, 3) := by decide +kernel
theorem dL_law_164 : decode cL_law 164 = .ok (.if_icmp .eq 509, 3) := by decide +kernel
theorem dL_law_167 : decode cL_law 167 = .ok (.iconst 0, 1) := by decide +kernel
theorem dL_law_168 : decode cL_law 168 = .ok (.ireturn, 1) := by decide +kernel
theorem dL_law_169 : decode cL_law 169 = .ok (.aload_n 1, 1) := by decide +kernel
theorem dL_law_170 : decode cL_law 170 = .ok (.aload_n 0, 1) := by decide +kernel
theorem dL_law_171 : decode cL_law 171 = .ok (.iload_n 3, 1) := by decide +kernel
theorem dL_law_172 : decode cL_law 172 = .ok (.iconst 1, 1) := by decide +kernel
theorem dL_law_173 : decode cL_law 173 = .ok (.iadd, 1) := by decide +kernel
theorem dL_law_174 : decode cL_law 174 = .ok (.iaload, 1) := by decide +kernel
theorem dL_law_175 : decode cL_law 175 = .ok (.aload_n 0, 1) := by decide +kernel
theorem dL_law_176 : decode cL_law 176 = .ok (.iload_n 3, 1) := by decide +kernel
theorem dL_law_177 : decode cL_law 177 = .ok (.iconst 2, 1) := by decide +kernel
theorem dL_law_178 : decode cL_law 178 = .ok (.iadd, 1) := by decide +kernel
theorem dL_law_179 : decode cL_law 179 = .ok (.iaload, 1) := by decide +kernel
theorem dL_law_180 : decode cL_law 180 = .ok (.invokevirtual 18, 3) := by decide +kernel
theorem dL_law_183 : decode cL_law 183 = .ok (.aload_n 2, 1) := by decide +kernel
theorem dL_law_184 : decode cL_law 184 = .ok (.aload_n 0, 1) := by decide +kernel
theorem dL_law_185 : decode cL_law 185 = .ok (.iload_n 3, 1) := by decide +kernel
theorem dL_law_186 : decode cL_law 186 = .ok (.iconst 1, 1) := by decide +kernel
theorem dL_law_187 : decode cL_law 187 = .ok (.iadd, 1) := by decide +kernel
theorem dL_law_188 : decode cL_law 188 = .ok (.iaload, 1) := by decide +kernel
theorem dL_law_189 : decode cL_law 189 = .ok (.aload_n 0, 1) := by decide +kernel
theorem dL_law_190 : decode cL_law 190 = .ok (.iload_n 3, 1) := by decide +kernel
theorem dL_law_191 : decode cL_law 191 = .ok (.iconst 2, 1) := by decide +kernel
theorem dL_law_192 : decode cL_law 192 = .ok (.iadd, 1) := by decide +kernel
theorem dL_law_193 : decode cL_law 193 = .ok (.iaload, 1) := by decide +kernel
theorem dL_law_194 : decode cL_law 194 = .ok (.invokevirtual 21, 3) := by decide +kernel
theorem dL_law_197 : decode cL_law 197 = .ok (.if_icmp .eq 476, 3) := by decide +kernel
theorem dL_law_200 : decode cL_law 200 = .ok (.iconst 0, 1) := by decide +kernel
theorem dL_law_201 : decode cL_law 201 = .ok (.ireturn, 1) := by decide +kernel
theorem dL_law_202 : decode cL_law 202 = .ok (.aload_n 1, 1) := by decide +kernel
theorem dL_law_203 : decode cL_law 203 = .ok (.aload_n 0, 1) := by decide +kernel
theorem dL_law_204 : decode cL_law 204 = .ok (.iload_n 3, 1) := by decide +kernel
theorem dL_law_205 : decode cL_law 205 = .ok (.iconst 1, 1) := by decide +kernel
theorem dL_law_206 : decode cL_law 206 = .ok (.iadd, 1) := by decide +kernel
theorem dL_law_207 : decode cL_law 207 = .ok (.iaload, 1) := by decide +kernel
theorem dL_law_208 : decode cL_law 208 = .ok (.aload_n 0, 1) := by decide +kernel
theorem dL_law_209 : decode cL_law 209 = .ok (.iload_n 3, 1) := by decide +kernel
theorem dL_law_210 : decode cL_law 210 = .ok (.iconst 2, 1) := by decide +kernel
theorem dL_law_211 : decode cL_law 211 = .ok (.iadd, 1) := by decide +kernel
theorem dL_law_212 : decode cL_law 212 = .ok (.iaload, 1) := by decide +kernel
theorem dL_law_213 : decode cL_law 213 = .ok (.invokevirtual 22, 3) := by decide +kernel
theorem dL_law_216 : decode cL_law 216 = .ok (.aload_n 2, 1) := by decide +kernel
theorem dL_law_217 : decode cL_law 217 = .ok (.aload_n 0, 1) := by decide +kernel
theorem dL_law_218 : decode cL_law 218 = .ok (.iload_n 3, 1) := by decide +kernel
theorem dL_law_219 : decode cL_law 219 = .ok (.iconst 1, 1) := by decide +kernel
theorem dL_law_220 : decode cL_law 220 = .ok (.iadd, 1) := by decide +kernel
theorem dL_law_221 : decode cL_law 221 = .ok (.iaload, 1) := by decide +kernel
theorem dL_law_222 : decode cL_law 222 = .ok (.aload_n 0, 1) := by decide +kernel
theorem dL_law_223 : decode cL_law 223 = .ok (.iload_n 3, 1) := by decide +kernel
theorem dL_law_224 : decode cL_law 224 = .ok (.iconst 2, 1) := by decide +kernel
theorem dL_law_225 : decode cL_law 225 = .ok (.iadd, 1) := by decide +kernel
theorem dL_law_226 : decode cL_law 226 = .ok (.iaload, 1) := by decide +kernel
theorem dL_law_227 : decode cL_law 227 = .ok (.invokevirtual 25, 3) := by decide +kernel
theorem dL_law_230 : decode cL_law 230 = .ok (.if_icmp .eq 443, 3) := by decide +kernel
theorem dL_law_233 : decode cL_law 233 = .ok (.iconst 0, 1) := by decide +kernel
theorem dL_law_234 : decode cL_law 234 = .ok (.ireturn, 1) := by decide +kernel
theorem dL_law_235 : decode cL_law 235 = .ok (.aload_n 1, 1) := by decide +kernel
theorem dL_law_236 : decode cL_law 236 = .ok (.aload_n 0, 1) := by decide +kernel
theorem dL_law_237 : decode cL_law 237 = .ok (.iload_n 3, 1) := by decide +kernel
theorem dL_law_238 : decode cL_law 238 = .ok (.iconst 1, 1) := by decide +kernel
theorem dL_law_239 : decode cL_law 239 = .ok (.iadd, 1) := by decide +kernel
theorem dL_law_240 : decode cL_law 240 = .ok (.iaload, 1) := by decide +kernel
theorem dL_law_241 : decode cL_law 241 = .ok (.invokevirtual 26, 3) := by decide +kernel
theorem dL_law_244 : decode cL_law 244 = .ok (.aload_n 2, 1) := by decide +kernel
theorem dL_law_245 : decode cL_law 245 = .ok (.aload_n 0, 1) := by decide +kernel
theorem dL_law_246 : decode cL_law 246 = .ok (.iload_n 3, 1) := by decide +kernel
theorem dL_law_247 : decode cL_law 247 = .ok (.iconst 1, 1) := by decide +kernel
theorem dL_law_248 : decode cL_law 248 = .ok (.iadd, 1) := by decide +kernel
theorem dL_law_249 : decode cL_law 249 = .ok (.iaload, 1) := by decide +kernel
theorem dL_law_250 : decode cL_law 250 = .ok (.invokevirtual 30, 3) := by decide +kernel
theorem dL_law_253 : decode cL_law 253 = .ok (.if_icmp .eq 420, 3) := by decide +kernel
theorem dL_law_256 : decode cL_law 256 = .ok (.iconst 0, 1) := by decide +kernel
theorem dL_law_257 : decode cL_law 257 = .ok (.ireturn, 1) := by decide +kernel
theorem dL_law_258 : decode cL_law 258 = .ok (.aload_n 1, 1) := by decide +kernel
theorem dL_law_259 : decode cL_law 259 = .ok (.invokevirtual 31, 3) := by decide +kernel
theorem dL_law_262 : decode cL_law 262 = .ok (.aload_n 2, 1) := by decide +kernel
theorem dL_law_263 : decode cL_law 263 = .ok (.invokevirtual 35, 3) := by decide +kernel
theorem dL_law_266 : decode cL_law 266 = .ok (.if_icmp .eq 407, 3) := by decide +kernel
theorem dL_law_269 : decode cL_law 269 = .ok (.iconst 0, 1) := by decide +kernel
theorem dL_law_270 : decode cL_law 270 = .ok (.ireturn, 1) := by decide +kernel
theorem dL_law_271 : decode cL_law 271 = .ok (.aload_n 1, 1) := by decide +kernel
theorem dL_law_272 : decode cL_law 272 = .ok (.aload_n 0, 1) := by decide +kernel
theorem dL_law_273 : decode cL_law 273 = .ok (.iload_n 3, 1) := by decide +kernel
theorem dL_law_274 : decode cL_law 274 = .ok (.iconst 1, 1) := by decide +kernel
theorem dL_law_275 : decode cL_law 275 = .ok (.iadd, 1) := by decide +kernel
theorem dL_law_276 : decode cL_law 276 = .ok (.iaload, 1) := by decide +kernel
theorem dL_law_277 : decode cL_law 277 = .ok (.aload_n 0, 1) := by decide +kernel
theorem dL_law_278 : decode cL_law 278 = .ok (.iload_n 3, 1) := by decide +kernel
theorem dL_law_279 : decode cL_law 279 = .ok (.iconst 2, 1) := by decide +kernel
theorem dL_law_280 : decode cL_law 280 = .ok (.iadd, 1) := by decide +kernel
theorem dL_law_281 : decode cL_law 281 = .ok (.iaload, 1) := by decide +kernel
theorem dL_law_282 : decode cL_law 282 = .ok (.invokevirtual 36, 3) := by decide +kernel
theorem dL_law_285 : decode cL_law 285 = .ok (.aload_n 2, 1) := by decide +kernel
theorem dL_law_286 : decode cL_law 286 = .ok (.aload_n 0, 1) := by decide +kernel
theorem dL_law_287 : decode cL_law 287 = .ok (.iload_n 3, 1) := by decide +kernel
theorem dL_law_288 : decode cL_law 288 = .ok (.iconst 1, 1) := by decide +kernel
theorem dL_law_289 : decode cL_law 289 = .ok (.iadd, 1) := by decide +kernel
theorem dL_law_290 : decode cL_law 290 = .ok (.iaload, 1) := by decide +kernel
theorem dL_law_291 : decode cL_law 291 = .ok (.aload_n 0, 1) := by decide +kernel
theorem dL_law_292 : decode cL_law 292 = .ok (.iload_n 3, 1) := by decide +kernel
theorem dL_law_293 : decode cL_law 293 = .ok (.iconst 2, 1) := by decide +kernel
theorem dL_law_294 : decode cL_law 294 = .ok (.iadd, 1) := by decide +kernel
theorem dL_law_295 : decode cL_law 295 = .ok (.iaload, 1) := by decide +kernel
theorem dL_law_296 : decode cL_law 296 = .ok (.invokevirtual 39, 3) := by decide +kernel
theorem dL_law_299 : decode cL_law 299 = .ok (.if_icmp .eq 374, 3) := by decide +kernel
theorem dL_law_302 : decode cL_law 302 = .ok (.iconst 0, 1) := by decide +kernel
theorem dL_law_303 : decode cL_law 303 = .ok (.ireturn, 1) := by decide +kernel
theorem dL_law_304 : decode cL_law 304 = .ok (.aload_n 1, 1) := by decide +kernel
theorem dL_law_305 : decode cL_law 305 = .ok (.aload_n 0, 1) := by decide +kernel
theorem dL_law_306 : decode cL_law 306 = .ok (.iload_n 3, 1) := by decide +kernel
theorem dL_law_307 : decode cL_law 307 = .ok (.iconst 1, 1) := by decide +kernel
theorem dL_law_308 : decode cL_law 308 = .ok (.iadd, 1) := by decide +kernel
theorem dL_law_309 : decode cL_law 309 = .ok (.iaload, 1) := by decide +kernel
theorem dL_law_310 : decode cL_law 310 = .ok (.aload_n 0, 1) := by decide +kernel
theorem dL_law_311 : decode cL_law 311 = .ok (.iload_n 3, 1) := by decide +kernel
theorem dL_law_312 : decode cL_law 312 = .ok (.iconst 2, 1) := by decide +kernel
theorem dL_law_313 : decode cL_law 313 = .ok (.iadd, 1) := by decide +kernel
theorem dL_law_314 : decode cL_law 314 = .ok (.iaload, 1) := by decide +kernel
theorem dL_law_315 : decode cL_law 315 = .ok (.invokevirtual 40, 3) := by decide +kernel
theorem dL_law_318 : decode cL_law 318 = .ok (.aload_n 2, 1) := by decide +kernel
theorem dL_law_319 : decode cL_law 319 = .ok (.aload_n 0, 1) := by decide +kernel
theorem dL_law_320 : decode cL_law 320 = .ok (.iload_n 3, 1) := by decide +kernel
theorem dL_law_321 : decode cL_law 321 = .ok (.iconst 1, 1) := by decide +kernel
theorem dL_law_322 : decode cL_law 322 = .ok (.iadd, 1) := by decide +kernel
theorem dL_law_323 : decode cL_law 323 = .ok (.iaload, 1) := by decide +kernel
theorem dL_law_324 : decode cL_law 324 = .ok (.aload_n 0, 1) := by decide +kernel
theorem dL_law_325 : decode cL_law 325 = .ok (.iload_n 3, 1) := by decide +kernel
theorem dL_law_326 : decode cL_law 326 = .ok (.iconst 2, 1) := by decide +kernel
theorem dL_law_327 : decode cL_law 327 = .ok (.iadd, 1) := by decide +kernel
theorem dL_law_328 : decode cL_law 328 = .ok (.iaload, 1) := by decide +kernel
theorem dL_law_329 : decode cL_law 329 = .ok (.invokevirtual 43, 3) := by decide +kernel
theorem dL_law_332 : decode cL_law 332 = .ok (.if_icmp .eq 341, 3) := by decide +kernel
theorem dL_law_335 : decode cL_law 335 = .ok (.iconst 0, 1) := by decide +kernel
theorem dL_law_336 : decode cL_law 336 = .ok (.ireturn, 1) := by decide +kernel
theorem dL_law_337 : decode cL_law 337 = .ok (.aload_n 1, 1) := by decide +kernel
theorem dL_law_338 : decode cL_law 338 = .ok (.aload_n 0, 1) := by decide +kernel
theorem dL_law_339 : decode cL_law 339 = .ok (.iload_n 3, 1) := by decide +kernel
theorem dL_law_340 : decode cL_law 340 = .ok (.iconst 1, 1) := by decide +kernel
theorem dL_law_341 : decode cL_law 341 = .ok (.iadd, 1) := by decide +kernel
theorem dL_law_342 : decode cL_law 342 = .ok (.iaload, 1) := by decide +kernel
theorem dL_law_343 : decode cL_law 343 = .ok (.aload_n 0, 1) := by decide +kernel
theorem dL_law_344 : decode cL_law 344 = .ok (.iload_n 3, 1) := by decide +kernel
theorem dL_law_345 : decode cL_law 345 = .ok (.iconst 2, 1) := by decide +kernel
theorem dL_law_346 : decode cL_law 346 = .ok (.iadd, 1) := by decide +kernel
theorem dL_law_347 : decode cL_law 347 = .ok (.iaload, 1) := by decide +kernel
theorem dL_law_348 : decode cL_law 348 = .ok (.invokevirtual 44, 3) := by decide +kernel
theorem dL_law_351 : decode cL_law 351 = .ok (.aload_n 2, 1) := by decide +kernel
theorem dL_law_352 : decode cL_law 352 = .ok (.aload_n 0, 1) := by decide +kernel
theorem dL_law_353 : decode cL_law 353 = .ok (.iload_n 3, 1) := by decide +kernel
theorem dL_law_354 : decode cL_law 354 = .ok (.iconst 1, 1) := by decide +kernel
theorem dL_law_355 : decode cL_law 355 = .ok (.iadd, 1) := by decide +kernel
theorem dL_law_356 : decode cL_law 356 = .ok (.iaload, 1) := by decide +kernel
theorem dL_law_357 : decode cL_law 357 = .ok (.aload_n 0, 1) := by decide +kernel
theorem dL_law_358 : decode cL_law 358 = .ok (.iload_n 3, 1) := by decide +kernel
theorem dL_law_359 : decode cL_law 359 = .ok (.iconst 2, 1) := by decide +kernel
theorem dL_law_360 : decode cL_law 360 = .ok (.iadd, 1) := by decide +kernel
theorem dL_law_361 : decode cL_law 361 = .ok (.iaload, 1) := by decide +kernel
theorem dL_law_362 : decode cL_law 362 = .ok (.invokevirtual 47, 3) := by decide +kernel
theorem dL_law_365 : decode cL_law 365 = .ok (.if_icmp .eq 308, 3) := by decide +kernel
theorem dL_law_368 : decode cL_law 368 = .ok (.iconst 0, 1) := by decide +kernel
theorem dL_law_369 : decode cL_law 369 = .ok (.ireturn, 1) := by decide +kernel
theorem dL_law_370 : decode cL_law 370 = .ok (.aload_n 1, 1) := by decide +kernel
theorem dL_law_371 : decode cL_law 371 = .ok (.aload_n 0, 1) := by decide +kernel
theorem dL_law_372 : decode cL_law 372 = .ok (.iload_n 3, 1) := by decide +kernel
theorem dL_law_373 : decode cL_law 373 = .ok (.iconst 1, 1) := by decide +kernel
theorem dL_law_374 : decode cL_law 374 = .ok (.iadd, 1) := by decide +kernel
theorem dL_law_375 : decode cL_law 375 = .ok (.iaload, 1) := by decide +kernel
theorem dL_law_376 : decode cL_law 376 = .ok (.invokevirtual 48, 3) := by decide +kernel
theorem dL_law_379 : decode cL_law 379 = .ok (.aload_n 2, 1) := by decide +kernel
theorem dL_law_380 : decode cL_law 380 = .ok (.aload_n 0, 1) := by decide +kernel
theorem dL_law_381 : decode cL_law 381 = .ok (.iload_n 3, 1) := by decide +kernel
theorem dL_law_382 : decode cL_law 382 = .ok (.iconst 1, 1) := by decide +kernel
theorem dL_law_383 : decode cL_law 383 = .ok (.iadd, 1) := by decide +kernel
theorem dL_law_384 : decode cL_law 384 = .ok (.iaload, 1) := by decide +kernel
theorem dL_law_385 : decode cL_law 385 = .ok (.invokevirtual 51, 3) := by decide +kernel
theorem dL_law_388 : decode cL_law 388 = .ok (.if_icmp .eq 285, 3) := by decide +kernel
theorem dL_law_391 : decode cL_law 391 = .ok (.iconst 0, 1) := by decide +kernel
theorem dL_law_392 : decode cL_law 392 = .ok (.ireturn, 1) := by decide +kernel
theorem dL_law_393 : decode cL_law 393 = .ok (.aload_n 1, 1) := by decide +kernel
theorem dL_law_394 : decode cL_law 394 = .ok (.invokevirtual 52, 3) := by decide +kernel
theorem dL_law_397 : decode cL_law 397 = .ok (.aload_n 2, 1) := by decide +kernel
theorem dL_law_398 : decode cL_law 398 = .ok (.invokevirtual 55, 3) := by decide +kernel
theorem dL_law_401 : decode cL_law 401 = .ok (.if_icmp .eq 272, 3) := by decide +kernel
theorem dL_law_404 : decode cL_law 404 = .ok (.iconst 0, 1) := by decide +kernel
theorem dL_law_405 : decode cL_law 405 = .ok (.ireturn, 1) := by decide +kernel
theorem dL_law_406 : decode cL_law 406 = .ok (.aload_n 1, 1) := by decide +kernel
theorem dL_law_407 : decode cL_law 407 = .ok (.invokevirtual 56, 3) := by decide +kernel
theorem dL_law_410 : decode cL_law 410 = .ok (.aload_n 2, 1) := by decide +kernel
theorem dL_law_411 : decode cL_law 411 = .ok (.invokevirtual 59, 3) := by decide +kernel
theorem dL_law_414 : decode cL_law 414 = .ok (.if_icmp .eq 259, 3) := by decide +kernel
theorem dL_law_417 : decode cL_law 417 = .ok (.iconst 0, 1) := by decide +kernel
theorem dL_law_418 : decode cL_law 418 = .ok (.ireturn, 1) := by decide +kernel
theorem dL_law_419 : decode cL_law 419 = .ok (.aload_n 1, 1) := by decide +kernel
theorem dL_law_420 : decode cL_law 420 = .ok (.invokevirtual 60, 3) := by decide +kernel
theorem dL_law_423 : decode cL_law 423 = .ok (.aload_n 2, 1) := by decide +kernel
theorem dL_law_424 : decode cL_law 424 = .ok (.invokevirtual 64, 3) := by decide +kernel
theorem dL_law_427 : decode cL_law 427 = .ok (.lcmp, 1) := by decide +kernel
theorem dL_law_428 : decode cL_law 428 = .ok (.ifCond .eq 245, 3) := by decide +kernel
theorem dL_law_431 : decode cL_law 431 = .ok (.iconst 0, 1) := by decide +kernel
theorem dL_law_432 : decode cL_law 432 = .ok (.ireturn, 1) := by decide +kernel
theorem dL_law_433 : decode cL_law 433 = .ok (.aload_n 1, 1) := by decide +kernel
theorem dL_law_434 : decode cL_law 434 = .ok (.aload_n 0, 1) := by decide +kernel
theorem dL_law_435 : decode cL_law 435 = .ok (.iload_n 3, 1) := by decide +kernel
theorem dL_law_436 : decode cL_law 436 = .ok (.iconst 1, 1) := by decide +kernel
theorem dL_law_437 : decode cL_law 437 = .ok (.iadd, 1) := by decide +kernel
theorem dL_law_438 : decode cL_law 438 = .ok (.iaload, 1) := by decide +kernel
theorem dL_law_439 : decode cL_law 439 = .ok (.aload_n 0, 1) := by decide +kernel
theorem dL_law_440 : decode cL_law 440 = .ok (.iload_n 3, 1) := by decide +kernel
theorem dL_law_441 : decode cL_law 441 = .ok (.iconst 2, 1) := by decide +kernel
theorem dL_law_442 : decode cL_law 442 = .ok (.iadd, 1) := by decide +kernel
theorem dL_law_443 : decode cL_law 443 = .ok (.iaload, 1) := by decide +kernel
theorem dL_law_444 : decode cL_law 444 = .ok (.invokevirtual 65, 3) := by decide +kernel
theorem dL_law_447 : decode cL_law 447 = .ok (.aload_n 2, 1) := by decide +kernel
theorem dL_law_448 : decode cL_law 448 = .ok (.aload_n 0, 1) := by decide +kernel
theorem dL_law_449 : decode cL_law 449 = .ok (.iload_n 3, 1) := by decide +kernel
theorem dL_law_450 : decode cL_law 450 = .ok (.iconst 1, 1) := by decide +kernel
theorem dL_law_451 : decode cL_law 451 = .ok (.iadd, 1) := by decide +kernel
theorem dL_law_452 : decode cL_law 452 = .ok (.iaload, 1) := by decide +kernel
theorem dL_law_453 : decode cL_law 453 = .ok (.aload_n 0, 1) := by decide +kernel
theorem dL_law_454 : decode cL_law 454 = .ok (.iload_n 3, 1) := by decide +kernel
theorem dL_law_455 : decode cL_law 455 = .ok (.iconst 2, 1) := by decide +kernel
theorem dL_law_456 : decode cL_law 456 = .ok (.iadd, 1) := by decide +kernel
theorem dL_law_457 : decode cL_law 457 = .ok (.iaload, 1) := by decide +kernel
theorem dL_law_458 : decode cL_law 458 = .ok (.invokevirtual 68, 3) := by decide +kernel
theorem dL_law_461 : decode cL_law 461 = .ok (.if_icmp .eq 212, 3) := by decide +kernel
theorem dL_law_464 : decode cL_law 464 = .ok (.iconst 0, 1) := by decide +kernel
theorem dL_law_465 : decode cL_law 465 = .ok (.ireturn, 1) := by decide +kernel
theorem dL_law_466 : decode cL_law 466 = .ok (.aload_n 1, 1) := by decide +kernel
theorem dL_law_467 : decode cL_law 467 = .ok (.aload_n 0, 1) := by decide +kernel
theorem dL_law_468 : decode cL_law 468 = .ok (.iload_n 3, 1) := by decide +kernel
theorem dL_law_469 : decode cL_law 469 = .ok (.iconst 1, 1) := by decide +kernel
theorem dL_law_470 : decode cL_law 470 = .ok (.iadd, 1) := by decide +kernel
theorem dL_law_471 : decode cL_law 471 = .ok (.iaload, 1) := by decide +kernel
theorem dL_law_472 : decode cL_law 472 = .ok (.invokevirtual 69, 3) := by decide +kernel
theorem dL_law_475 : decode cL_law 475 = .ok (.aload_n 2, 1) := by decide +kernel
theorem dL_law_476 : decode cL_law 476 = .ok (.aload_n 0, 1) := by decide +kernel
theorem dL_law_477 : decode cL_law 477 = .ok (.iload_n 3, 1) := by decide +kernel
theorem dL_law_478 : decode cL_law 478 = .ok (.iconst 1, 1) := by decide +kernel
theorem dL_law_479 : decode cL_law 479 = .ok (.iadd, 1) := by decide +kernel
theorem dL_law_480 : decode cL_law 480 = .ok (.iaload, 1) := by decide +kernel
theorem dL_law_481 : decode cL_law 481 = .ok (.invokevirtual 72, 3) := by decide +kernel
theorem dL_law_484 : decode cL_law 484 = .ok (.if_icmp .eq 189, 3) := by decide +kernel
theorem dL_law_487 : decode cL_law 487 = .ok (.iconst 0, 1) := by decide +kernel
theorem dL_law_488 : decode cL_law 488 = .ok (.ireturn, 1) := by decide +kernel
theorem dL_law_489 : decode cL_law 489 = .ok (.aload_n 1, 1) := by decide +kernel
theorem dL_law_490 : decode cL_law 490 = .ok (.aload_n 0, 1) := by decide +kernel
theorem dL_law_491 : decode cL_law 491 = .ok (.iload_n 3, 1) := by decide +kernel
theorem dL_law_492 : decode cL_law 492 = .ok (.iconst 1, 1) := by decide +kernel
theorem dL_law_493 : decode cL_law 493 = .ok (.iadd, 1) := by decide +kernel
theorem dL_law_494 : decode cL_law 494 = .ok (.iaload, 1) := by decide +kernel
theorem dL_law_495 : decode cL_law 495 = .ok (.aload_n 0, 1) := by decide +kernel
theorem dL_law_496 : decode cL_law 496 = .ok (.iload_n 3, 1) := by decide +kernel
theorem dL_law_497 : decode cL_law 497 = .ok (.iconst 2, 1) := by decide +kernel
theorem dL_law_498 : decode cL_law 498 = .ok (.iadd, 1) := by decide +kernel
theorem dL_law_499 : decode cL_law 499 = .ok (.iaload, 1) := by decide +kernel
theorem dL_law_500 : decode cL_law 500 = .ok (.invokevirtual 73, 3) := by decide +kernel
theorem dL_law_503 : decode cL_law 503 = .ok (.aload_n 2, 1) := by decide +kernel
theorem dL_law_504 : decode cL_law 504 = .ok (.aload_n 0, 1) := by decide +kernel
theorem dL_law_505 : decode cL_law 505 = .ok (.iload_n 3, 1) := by decide +kernel
theorem dL_law_506 : decode cL_law 506 = .ok (.iconst 1, 1) := by decide +kernel
theorem dL_law_507 : decode cL_law 507 = .ok (.iadd, 1) := by decide +kernel
theorem dL_law_508 : decode cL_law 508 = .ok (.iaload, 1) := by decide +kernel
theorem dL_law_509 : decode cL_law 509 = .ok (.aload_n 0, 1) := by decide +kernel
theorem dL_law_510 : decode cL_law 510 = .ok (.iload_n 3, 1) := by decide +kernel
theorem dL_law_511 : decode cL_law 511 = .ok (.iconst 2, 1) := by decide +kernel
theorem dL_law_512 : decode cL_law 512 = .ok (.iadd, 1) := by decide +kernel
theorem dL_law_513 : decode cL_law 513 = .ok (.iaload, 1) := by decide +kernel
theorem dL_law_514 : decode cL_law 514 = .ok (.invokevirtual 76, 3) := by decide +kernel
theorem dL_law_517 : decode cL_law 517 = .ok (.if_icmp .eq 156, 3) := by decide +kernel
theorem dL_law_520 : decode cL_law 520 = .ok (.iconst 0, 1) := by decide +kernel
theorem dL_law_521 : decode cL_law 521 = .ok (.ireturn, 1) := by decide +kernel
theorem dL_law_522 : decode cL_law 522 = .ok (.aload_n 1, 1) := by decide +kernel
theorem dL_law_523 : decode cL_law 523 = .ok (.aload_n 0, 1) := by decide +kernel
theorem dL_law_524 : decode cL_law 524 = .ok (.iload_n 3, 1) := by decide +kernel
theorem dL_law_525 : decode cL_law 525 = .ok (.iconst 1, 1) := by decide +kernel
theorem dL_law_526 : decode cL_law 526 = .ok (.iadd, 1) := by decide +kernel
theorem dL_law_527 : decode cL_law 527 = .ok (.iaload, 1) := by decide +kernel
theorem dL_law_528 : decode cL_law 528 = .ok (.i2l, 1) := by decide +kernel
theorem dL_law_529 : decode cL_law 529 = .ok (.bipush 32, 2) := by decide +kernel
theorem dL_law_531 : decode cL_law 531 = .ok (.lshl, 1) := by decide +kernel
theorem dL_law_532 : decode cL_law 532 = .ok (.aload_n 0, 1) := by decide +kernel
theorem dL_law_533 : decode cL_law 533 = .ok (.iload_n 3, 1) := by decide +kernel
theorem dL_law_534 : decode cL_law 534 = .ok (.iconst 2, 1) := by decide +kernel
theorem dL_law_535 : decode cL_law 535 = .ok (.iadd, 1) := by decide +kernel
theorem dL_law_536 : decode cL_law 536 = .ok (.iaload, 1) := by decide +kernel
theorem dL_law_537 : decode cL_law 537 = .ok (.i2l, 1) := by decide +kernel
theorem dL_law_538 : decode cL_law 538 = .ok (.ldc2_w 77, 3) := by decide +kernel
theorem dL_law_541 : decode cL_law 541 = .ok (.land, 1) := by decide +kernel
theorem dL_law_542 : decode cL_law 542 = .ok (.lor, 1) := by decide +kernel
theorem dL_law_543 : decode cL_law 543 = .ok (.invokevirtual 79, 3) := by decide +kernel
theorem dL_law_546 : decode cL_law 546 = .ok (.aload_n 2, 1) := by decide +kernel
theorem dL_law_547 : decode cL_law 547 = .ok (.aload_n 0, 1) := by decide +kernel
theorem dL_law_548 : decode cL_law 548 = .ok (.iload_n 3, 1) := by decide +kernel
theorem dL_law_549 : decode cL_law 549 = .ok (.iconst 1, 1) := by decide +kernel
theorem dL_law_550 : decode cL_law 550 = .ok (.iadd, 1) := by decide +kernel
theorem dL_law_551 : decode cL_law 551 = .ok (.iaload, 1) := by decide +kernel
theorem dL_law_552 : decode cL_law 552 = .ok (.i2l, 1) := by decide +kernel
theorem dL_law_553 : decode cL_law 553 = .ok (.bipush 32, 2) := by decide +kernel
theorem dL_law_555 : decode cL_law 555 = .ok (.lshl, 1) := by decide +kernel
theorem dL_law_556 : decode cL_law 556 = .ok (.aload_n 0, 1) := by decide +kernel
theorem dL_law_557 : decode cL_law 557 = .ok (.iload_n 3, 1) := by decide +kernel
theorem dL_law_558 : decode cL_law 558 = .ok (.iconst 2, 1) := by decide +kernel
theorem dL_law_559 : decode cL_law 559 = .ok (.iadd, 1) := by decide +kernel
theorem dL_law_560 : decode cL_law 560 = .ok (.iaload, 1) := by decide +kernel
theorem dL_law_561 : decode cL_law 561 = .ok (.i2l, 1) := by decide +kernel
theorem dL_law_562 : decode cL_law 562 = .ok (.ldc2_w 77, 3) := by decide +kernel
theorem dL_law_565 : decode cL_law 565 = .ok (.land, 1) := by decide +kernel
theorem dL_law_566 : decode cL_law 566 = .ok (.lor, 1) := by decide +kernel
theorem dL_law_567 : decode cL_law 567 = .ok (.invokevirtual 83, 3) := by decide +kernel
theorem dL_law_570 : decode cL_law 570 = .ok (.if_icmp .eq 103, 3) := by decide +kernel
theorem dL_law_573 : decode cL_law 573 = .ok (.iconst 0, 1) := by decide +kernel
theorem dL_law_574 : decode cL_law 574 = .ok (.ireturn, 1) := by decide +kernel
theorem dL_law_575 : decode cL_law 575 = .ok (.aload_n 1, 1) := by decide +kernel
theorem dL_law_576 : decode cL_law 576 = .ok (.invokevirtual 84, 3) := by decide +kernel
theorem dL_law_579 : decode cL_law 579 = .ok (.aload_n 2, 1) := by decide +kernel
theorem dL_law_580 : decode cL_law 580 = .ok (.invokevirtual 87, 3) := by decide +kernel
theorem dL_law_583 : decode cL_law 583 = .ok (.if_icmp .eq 90, 3) := by decide +kernel
theorem dL_law_586 : decode cL_law 586 = .ok (.iconst 0, 1) := by decide +kernel
theorem dL_law_587 : decode cL_law 587 = .ok (.ireturn, 1) := by decide +kernel
theorem dL_law_588 : decode cL_law 588 = .ok (.aload_n 1, 1) := by decide +kernel
theorem dL_law_589 : decode cL_law 589 = .ok (.invokevirtual 88, 3) := by decide +kernel
theorem dL_law_592 : decode cL_law 592 = .ok (.aload_n 2, 1) := by decide +kernel
theorem dL_law_593 : decode cL_law 593 = .ok (.invokevirtual 91, 3) := by decide +kernel
theorem dL_law_596 : decode cL_law 596 = .ok (.if_icmp .eq 77, 3) := by decide +kernel
theorem dL_law_599 : decode cL_law 599 = .ok (.iconst 0, 1) := by decide +kernel
theorem dL_law_600 : decode cL_law 600 = .ok (.ireturn, 1) := by decide +kernel
theorem dL_law_601 : decode cL_law 601 = .ok (.aload_n 1, 1) := by decide +kernel
theorem dL_law_602 : decode cL_law 602 = .ok (.invokevirtual 92, 3) := by decide +kernel
theorem dL_law_605 : decode cL_law 605 = .ok (.aload_n 2, 1) := by decide +kernel
theorem dL_law_606 : decode cL_law 606 = .ok (.invokevirtual 95, 3) := by decide +kernel
theorem dL_law_609 : decode cL_law 609 = .ok (.if_icmp .eq 64, 3) := by decide +kernel
theorem dL_law_612 : decode cL_law 612 = .ok (.iconst 0, 1) := by decide +kernel
theorem dL_law_613 : decode cL_law 613 = .ok (.ireturn, 1) := by decide +kernel
theorem dL_law_614 : decode cL_law 614 = .ok (.aload_n 1, 1) := by decide +kernel
theorem dL_law_615 : decode cL_law 615 = .ok (.invokevirtual 96, 3) := by decide +kernel
theorem dL_law_618 : decode cL_law 618 = .ok (.aload_n 2, 1) := by decide +kernel
theorem dL_law_619 : decode cL_law 619 = .ok (.invokevirtual 99, 3) := by decide +kernel
theorem dL_law_622 : decode cL_law 622 = .ok (.if_icmp .eq 51, 3) := by decide +kernel
theorem dL_law_625 : decode cL_law 625 = .ok (.iconst 0, 1) := by decide +kernel
theorem dL_law_626 : decode cL_law 626 = .ok (.ireturn, 1) := by decide +kernel
theorem dL_law_627 : decode cL_law 627 = .ok (.aload_n 1, 1) := by decide +kernel
theorem dL_law_628 : decode cL_law 628 = .ok (.aload_n 0, 1) := by decide +kernel
theorem dL_law_629 : decode cL_law 629 = .ok (.iload_n 3, 1) := by decide +kernel
theorem dL_law_630 : decode cL_law 630 = .ok (.iconst 1, 1) := by decide +kernel
theorem dL_law_631 : decode cL_law 631 = .ok (.iadd, 1) := by decide +kernel
theorem dL_law_632 : decode cL_law 632 = .ok (.iaload, 1) := by decide +kernel
theorem dL_law_633 : decode cL_law 633 = .ok (.invokevirtual 100, 3) := by decide +kernel
theorem dL_law_636 : decode cL_law 636 = .ok (.aload_n 2, 1) := by decide +kernel
theorem dL_law_637 : decode cL_law 637 = .ok (.aload_n 0, 1) := by decide +kernel
theorem dL_law_638 : decode cL_law 638 = .ok (.iload_n 3, 1) := by decide +kernel
theorem dL_law_639 : decode cL_law 639 = .ok (.iconst 1, 1) := by decide +kernel
theorem dL_law_640 : decode cL_law 640 = .ok (.iadd, 1) := by decide +kernel
theorem dL_law_641 : decode cL_law 641 = .ok (.iaload, 1) := by decide +kernel
theorem dL_law_642 : decode cL_law 642 = .ok (.invokevirtual 103, 3) := by decide +kernel
theorem dL_law_645 : decode cL_law 645 = .ok (.if_icmp .eq 28, 3) := by decide +kernel
theorem dL_law_648 : decode cL_law 648 = .ok (.iconst 0, 1) := by decide +kernel
theorem dL_law_649 : decode cL_law 649 = .ok (.ireturn, 1) := by decide +kernel
theorem dL_law_650 : decode cL_law 650 = .ok (.aload_n 1, 1) := by decide +kernel
theorem dL_law_651 : decode cL_law 651 = .ok (.aload_n 0, 1) := by decide +kernel
theorem dL_law_652 : decode cL_law 652 = .ok (.iload_n 3, 1) := by decide +kernel
theorem dL_law_653 : decode cL_law 653 = .ok (.iconst 1, 1) := by decide +kernel
theorem dL_law_654 : decode cL_law 654 = .ok (.iadd, 1) := by decide +kernel
theorem dL_law_655 : decode cL_law 655 = .ok (.iaload, 1) := by decide +kernel
theorem dL_law_656 : decode cL_law 656 = .ok (.invokevirtual 104, 3) := by decide +kernel
theorem dL_law_659 : decode cL_law 659 = .ok (.aload_n 2, 1) := by decide +kernel
theorem dL_law_660 : decode cL_law 660 = .ok (.aload_n 0, 1) := by decide +kernel
theorem dL_law_661 : decode cL_law 661 = .ok (.iload_n 3, 1) := by decide +kernel
theorem dL_law_662 : decode cL_law 662 = .ok (.iconst 1, 1) := by decide +kernel
theorem dL_law_663 : decode cL_law 663 = .ok (.iadd, 1) := by decide +kernel
theorem dL_law_664 : decode cL_law 664 = .ok (.iaload, 1) := by decide +kernel
theorem dL_law_665 : decode cL_law 665 = .ok (.invokevirtual 107, 3) := by decide +kernel
theorem dL_law_668 : decode cL_law 668 = .ok (.if_icmp .eq 5, 3) := by decide +kernel
theorem dL_law_671 : decode cL_law 671 = .ok (.iconst 0, 1) := by decide +kernel
theorem dL_law_672 : decode cL_law 672 = .ok (.ireturn, 1) := by decide +kernel
theorem dL_law_673 : decode cL_law 673 = .ok (.iinc 3 3, 3) := by decide +kernel
theorem dL_law_676 : decode cL_law 676 = .ok (.goto (-658), 3) := by decide +kernel
theorem dL_law_679 : decode cL_law 679 = .ok (.iconst 1, 1) := by decide +kernel
theorem dL_law_680 : decode cL_law 680 = .ok (.ireturn, 1) := by decide +kernel
abbrev vwCl : List vw_C := [(RX0, TX0, 3), (RX1, TX1, 6), (RX2, TX2, 6), (RX3, TX3, 2), (RX4, TX4, 5), (RX5, TX5, 11)]
end
section
/-! ===== base: bundles of what every walk has at hand, and rows over them ===== -/
-- option rows: the mirror of a method is a function into Option
def nm {α β : Type} (e : α) (k : α → β) : β := k e
def chk {α : Type} (i : Int32) (n : Nat) (k : Nat → Option α) : Option α := if i < 0 ∨ n ≤ i.toNatClampNeg then none else k i.toNatClampNeg
def ob0 {α γ : Type} (o : Option α) (k : Option γ) : Option γ := o.bind (fun _ => k)
def ob1 {α γ : Type} (o : Option α) (k : α → Option γ) : Option γ := o.bind k
def ob2 {α β γ : Type} (o : Option (α × β)) (k : α → β → Option γ) : Option γ := o.bind (fun z => k z.1 z.2)
def ob3 {α β δ γ : Type} (o : Option (α × β × δ)) (k : α → β → δ → Option γ) : Option γ := o.bind (fun z => k z.1 z.2.1 z.2.2)
def ob4 {α β δ ε γ : Type} (o : Option (α × β × δ × ε)) (k : α → β → δ → ε → Option γ) : Option γ := o.bind (fun z => k z.1 z.2.1 z.2.2.1 z.2.2.2)
def ob5 {α β δ ε ζ γ : Type} (o : Option (α × β × δ × ε × ζ)) (k : α → β → δ → ε → ζ → Option γ) : Option γ := o.bind (fun z => k z.1 z.2.1 z.2.2.1 z.2.2.2.1 z.2.2.2.2)
def ob6 {α β δ ε ζ η γ : Type} (o : Option (α × β × δ × ε × ζ × η)) (k : α → β → δ → ε → ζ → η → Option γ) : Option γ := o.bind (fun z => k z.1 z.2.1 z.2.2.1 z.2.2.2.1 z.2.2.2.2.1 z.2.2.2.2.2)
def ob7 {α β δ ε ζ η θ γ : Type} (o : Option (α × β × δ × ε × ζ × η × θ)) (k : α → β → δ → ε → ζ → η → θ → Option γ) : Option γ := o.bind (fun z => k z.1 z.2.1 z.2.2.1 z.2.2.2.1 z.2.2.2.2.1 z.2.2.2.2.2.1 z.2.2.2.2.2.2)
theorem nm_use {α β : Type} {e x : α} {k : α → Option β} {r : Option β} (h : nm e k = r) (hx : x = e) : k x = r := by subst hx; exact h
theorem chk_use {α : Type} {i : Int32} {n : Nat} {k : Nat → Option α} {r : α} (h : chk i n k = some r) : ∃ j, (vp_in i n ∧ i.toNatClampNeg = j) ∧ k j = some r := by
  unfold chk at h
  split at h
  · cases h
  · rename_i hn
    exact ⟨_, ⟨hn, rfl⟩, h⟩
theorem ob0_use {α γ : Type} {o : Option α} {k : Option γ} {r : γ} (h : ob0 o k = some r) : ∃ a, o = some a ∧ k = some r := by
  cases o with
  | none => cases h
  | some a => exact ⟨a, rfl, h⟩
theorem ob1_use {α γ : Type} {o : Option α} {k : α → Option γ} {r : γ} (h : ob1 o k = some r) : ∃ a, o = some a ∧ k a = some r := by
  cases o with
  | none => cases h
  | some a => exact ⟨a, rfl, h⟩
theorem ob2_use {α β γ : Type} {o : Option (α × β)} {k : α → β → Option γ} {r : γ} (h : ob2 o k = some r) : ∃ a b, o = some (a, b) ∧ k a b = some r := by
  cases o with
  | none => cases h
  | some a => exact ⟨a.1, a.2, rfl, h⟩
theorem ob3_use {α β δ γ : Type} {o : Option (α × β × δ)} {k : α → β → δ → Option γ} {r : γ} (h : ob3 o k = some r) : ∃ a b c, o = some (a, b, c) ∧ k a b c = some r := by
  cases o with
  | none => cases h
  | some a => exact ⟨a.1, a.2.1, a.2.2, rfl, h⟩
theorem ob4_use {α β δ ε γ : Type} {o : Option (α × β × δ × ε)} {k : α → β → δ → ε → Option γ} {r : γ} (h : ob4 o k = some r) : ∃ a b c d, o = some (a, b, c, d) ∧ k a b c d = some r := by
  cases o with
  | none => cases h
  | some a => exact ⟨a.1, a.2.1, a.2.2.1, a.2.2.2, rfl, h⟩
theorem ob5_use {α β δ ε ζ γ : Type} {o : Option (α × β × δ × ε × ζ)} {k : α → β → δ → ε → ζ → Option γ} {r : γ} (h : ob5 o k = some r) : ∃ a b c d e, o = some (a, b, c, d, e) ∧ k a b c d e = some r := by
  cases o with
  | none => cases h
  | some a => exact ⟨a.1, a.2.1, a.2.2.1, a.2.2.2.1, a.2.2.2.2, rfl, h⟩
theorem ob6_use {α β δ ε ζ η γ : Type} {o : Option (α × β × δ × ε × ζ × η)} {k : α → β → δ → ε → ζ → η → Option γ} {r : γ} (h : ob6 o k = some r) : ∃ a b c d e f, o = some (a, b, c, d, e, f) ∧ k a b c d e f = some r := by
  cases o with
  | none => cases h
  | some a => exact ⟨a.1, a.2.1, a.2.2.1, a.2.2.2.1, a.2.2.2.2.1, a.2.2.2.2.2, rfl, h⟩
theorem ob7_use {α β δ ε ζ η θ γ : Type} {o : Option (α × β × δ × ε × ζ × η × θ)} {k : α → β → δ → ε → ζ → η → θ → Option γ} {r : γ} (h : ob7 o k = some r) : ∃ a b c d e f g, o = some (a, b, c, d, e, f, g) ∧ k a b c d e f g = some r := by
  cases o with
  | none => cases h
  | some a => exact ⟨a.1, a.2.1, a.2.2.1, a.2.2.2.1, a.2.2.2.2.1, a.2.2.2.2.2.1, a.2.2.2.2.2.2, rfl, h⟩
theorem it_t {α : Type} {c : Prop} [Decidable c] {A B r : Option α} (h : (if c then A else B) = r) (hc : c) : A = r := by rw [if_pos hc] at h; exact h
theorem it_f {α : Type} {c : Prop} [Decidable c] {A B r : Option α} (h : (if c then A else B) = r) (hc : ¬ c) : B = r := by rw [if_neg hc] at h; exact h
/-- a side condition that the pure side owes -/
def nd {α : Type} (c : Prop) [Decidable c] (k : Option α) : Option α := if c then k else none
theorem nd_use {α : Type} {c : Prop} [Decidable c] {k : Option α} {r : α} (h : nd c k = some r) : c ∧ k = some r := by
  unfold nd at h
  split at h
  · rename_i hc
    exact ⟨hc, h⟩
  · cases h
-- nest mates' words
def nwF : List (String × Nat × String × String × String × String) := [("LineDoubler$State", 33, "LineDoubler", "FIRST_SETTINGS", "[I", "LineDoubler"), ("LineDoubler", 63, "LineDoubler$State", "numbers", "[I", "LineDoubler"), ("LineDoubler", 71, "LineDoubler$State", "queue", "LLineDoubler$Table;", "LineDoubler"), ("LineDoubler", 83, "LineDoubler$State", "screen", "LLineDoubler$Table;", "LineDoubler"), ("LineDoubler", 91, "LineDoubler$State", "lost", "LLineDoubler$Table;", "LineDoubler"), ("LineDoubler", 108, "LineDoubler$State", "waitedSum", "I", "LineDoubler"), ("LineDoubler", 98, "LineDoubler$History", "size", "I", "LineDoubler"), ("LineDoubler", 94, "LineDoubler$Pad", "length", "I", "LineDoubler"), ("LineDoubler", 136, "LineDoubler$Pad", "at", "I", "LineDoubler"), ("LineDoubler", 158, "LineDoubler$Pad", "order", "C", "LineDoubler"), ("LineDoubler", 162, "LineDoubler$Pad", "first", "I", "LineDoubler"), ("LineDoubler", 165, "LineDoubler$Pad", "second", "I", "LineDoubler"), ("LineDoubler$State", 58, "LineDoubler", "LEAST_SETTINGS", "[I", "LineDoubler"), ("LineDoubler$State", 61, "LineDoubler", "MOST_SETTINGS", "[I", "LineDoubler")]
def nwM : List (String × Nat × MethodName × String) := [("LineDoubler", 25, yX0_init, "LineDoubler"), ("LineDoubler", 32, yX1_init, "LineDoubler"), ("LineDoubler$History", 24, yX4_keepCopy, "LineDoubler"), ("LineDoubler$State", 50, yX4_isWithin, "LineDoubler")]
def NW (U : State) : Prop := (∀ t ∈ nwF, va_Nw (.fieldLinkNest t.1 t.2.1 t.2.2.1 t.2.2.2.1 t.2.2.2.2.1 t.2.2.2.2.2) U) ∧ (∀ t ∈ nwM, va_Nw (.methodLinkNest t.1 t.2.1 t.2.2.1 t.2.2.2) U) ∧ va_AO RX2 U
theorem NW.warm {s U : State} (hW : s.WarmedH U.vm) (h : NW s) : NW U := ⟨fun t ht => va_Nw.warmF hW (h.1 t ht), fun t ht => va_Nw.warmM hW (h.2.1 t ht), va_AO.moved hW.alike h.2.2⟩
theorem NW.same {u U : State} (hv : u.vm = U.vm) (h : NW u) : NW U := ⟨fun t ht => va_Nw.same rfl hv (h.1 t ht), fun t ht => va_Nw.same rfl hv (h.2.1 t ht), va_AO.moved (by rw [hv]; exact Vm.Alike.refl _) h.2.2⟩
-- the three static tables
def sfFirst : Nat → Int32 := fun k => match k with
  | 0 => 10
  | 1 => 5
  | 2 => 4
  | 3 => 4
  | 4 => 0
  | 5 => 0
  | 6 => 255
  | _ => 0
def sfLeast : Nat → Int32 := fun k => match k with
  | 0 => 2
  | 1 => 1
  | 2 => 1
  | 3 => 2
  | _ => 0
def sfMost : Nat → Int32 := fun k => match k with
  | 0 => 99
  | 1 => 99
  | 2 => 16
  | 3 => 16
  | 4 => 1
  | 5 => 1
  | _ => 255
def SF1 (n : String) (f : Nat → Int32) (A : Nat → Prop) (U : State) (H : Heap) : Prop := ∃ t : Nat, va_Z RX4 n "[I" (.ref t) A U H ∧ va_T .int t 8 (fun j => .int (f j)) A U H
def SF (A : Nat → Prop) (U : State) (H : Heap) : Prop := SF1 "FIRST_SETTINGS" sfFirst A U H ∧ SF1 "LEAST_SETTINGS" sfLeast A U H ∧ SF1 "MOST_SETTINGS" sfMost A U H
theorem SF1.moved {n : String} {f : Nat → Int32} {A : Nat → Prop} {u U : State} {H : Heap} (hv : u.vm.Alike U.vm) (h : SF1 n f A u H) : SF1 n f A U H := by
  obtain ⟨t, h1, h2⟩ := h
  exact ⟨t, h1.moved hv, h2.moved hv⟩
theorem SF1.kept {n : String} {f : Nat → Int32} {A B : Nat → Prop} {U : State} {H H1 : Heap} (h : SF1 n f A U H) (hq : ∀ a : Nat, a < H.size → ¬ A a → H1[a]? = H[a]?) (hAB : ∀ q, B q → A q) : SF1 n f B U H1 := by
  obtain ⟨t, h1, h2⟩ := h
  exact ⟨t, (h1.kept hq).narrow hAB, (h2.kept hq).narrow hAB⟩
theorem SF.moved {A : Nat → Prop} {u U : State} {H : Heap} (hv : u.vm.Alike U.vm) (h : SF A u H) : SF A U H := ⟨h.1.moved hv, h.2.1.moved hv, h.2.2.moved hv⟩
theorem SF.kept {A B : Nat → Prop} {U : State} {H H1 : Heap} (h : SF A U H) (hq : ∀ a : Nat, a < H.size → ¬ A a → H1[a]? = H[a]?) (hAB : ∀ q, B q → A q) : SF B U H1 := ⟨h.1.kept hq hAB, h.2.1.kept hq hAB, h.2.2.kept hq hAB⟩
/-- what a method finds at its start -/
def Pre (G : va_G) (tys : List (ClassId × FieldType)) (w : va_W) (sz : Nat) : State → Prop := fun U => U.heap.size = sz ∧ va_P G vwCl w U.heap ∧ va_K G vwCl tys U ∧ va_D (fun _ => True) w ∧ SF (va_A w sz) U U.heap ∧ NW U
/-- what it leaves -/
def Qx (G : va_G) (res : Option Value) (w' : va_W) (A : Nat → Prop) : Array Value → State → Outcome → State → Prop := fun _ st oc t => (oc = .returned res ∧ va_P G vwCl w' t.heap ∧ va_D A w') ∧ va_F A st t
theorem Pre.blind {G : va_G} {tys : List (ClassId × FieldType)} {w : va_W} {sz : Nat} {av : List Value} : FrameBlind (va_Pc av (Pre G tys w sz)) := by
  intro a U g mk q
  obtain ⟨q0, q1, qP, qK, qD, qS, qN⟩ := q
  exact ⟨q0, q1, qP, va_K.moved (u := U) (U := U.calling g mk a) (Vm.Alike.refl U.vm) qK, qD, qS.moved (u := U) (U := U.calling g mk a) (Vm.Alike.refl U.vm), NW.same (u := U) (U := U.calling g mk a) rfl qN⟩
/-- a method that makes nothing: its contract -/
def CT (l : Launch) (y : MethodName) (ws : List Cond) (rm : Room) (G : va_G) (tys : List (ClassId × FieldType)) (av : List Value) (w : va_W) (res : Option Value) (w' : va_W) : Prop := ∀ sz : Nat, Met l y ws rm (va_Pc av (Pre G tys w sz)) (Qx G res w' (va_A w sz)) 0 0 (va_A w sz)
/-- what stays through a walk -/
def Cx (p : Program) (s : State) (m : MethodId) (args : Array Value) (c : Code) (G : va_G) (tys : List (ClassId × FieldType)) (A : Nat → Prop) (own : String) (cc : ByteArray) (Ts : List Cond) (nL : Nat) : Prop :=
  p.tables.exec = Jvm.exec ∧ c.code = cc ∧ c.maxLocals = nL ∧ s.vm.findClass own = some m.cls ∧ (∀ w ∈ Ts, w.before args s = true) ∧ va_K G vwCl tys s ∧ NW s ∧ (∀ q, s.heap.size ≤ q → A q) ∧ SF A s s.heap
/-- what the heap holds at a point of a walk -/
def Hx (s : State) (G : va_G) (A : Nat → Prop) (w : va_W) (H : Heap) (locs : List Loc) : Prop := va_P G vwCl w H ∧ va_D A w ∧ va_S A s.heap H locs
/-- places of a world written anew -/
def upds : va_W → List Nat → va_W → va_W
  | ws, i :: is, x :: xs => upds (ws.set i x) is xs
  | ws, _, _ => ws
theorem upds_get : ∀ (is : List Nat) (wc' ws : va_W), is.length = wc'.length → va_nd is = true → (∀ i ∈ is, i < ws.length) → ∀ (k : Nat) (q : Nat × va_E), (upds ws is wc')[k]? = some q → (k ∉ is ∧ ws[k]? = some q) ∨ ∃ j, is[j]? = some k ∧ wc'[j]? = some q
  | [], [], ws, _, _, _, k, q, h => Or.inl ⟨List.not_mem_nil, h⟩
  | [], _ :: _, _, h, _, _, _, _, _ => by cases h
  | _ :: _, [], _, h, _, _, _, _, _ => by cases h
  | i :: is, x :: xs, ws, hl, hn, hi, k, q, h => by
    simp only [va_nd, Bool.and_eq_true, decide_eq_true_eq] at hn
    have ih := upds_get is xs (ws.set i x) (by simpa using hl) hn.2 (fun j hj => by rw [List.length_set]; exact hi j (List.mem_cons_of_mem _ hj)) k q h
    rcases ih with ⟨h1, h2⟩ | ⟨j, h1, h2⟩
    · by_cases hk : k = i
      · subst hk
        rw [List.getElem?_set_self (hi k List.mem_cons_self)] at h2
        exact Or.inr ⟨0, rfl, h2⟩
      · rw [List.getElem?_set_ne (Ne.symm hk)] at h2
        refine Or.inl ⟨fun hm => ?_, h2⟩
        rcases List.mem_cons.mp hm with e | e
        · exact hk e
        · exact h1 e
    · exact Or.inr ⟨j + 1, h1, h2⟩
theorem va_back {A0 : Nat → Prop} {D : va_G} {cl : List vw_C} {ws wc wc' : va_W} {H H1 : Heap} (hP : va_P D cl ws H) (hD : va_D A0 ws) (is : List Nat) (hC : is.map (fun i => ws[i]?) = wc.map some) (hn : va_nd is = true) (ha : wc'.map Prod.fst = wc.map Prod.fst)
    (hk : ∀ q : Nat, q < H.size → ¬ va_A wc H.size q → H1[q]? = H[q]?) (hP1 : va_P D cl wc' H1) : va_P D cl (upds ws is wc') H1 ∧ va_D A0 (upds ws is wc') := by
  have hlen : is.length = wc'.length := by
    have h1 := congrArg List.length hC
    have h2 := congrArg List.length ha
    simp only [List.length_map] at h1 h2
    omega
  have hlt : ∀ i ∈ is, i < ws.length := by
    intro i hi
    obtain ⟨j, hj⟩ := List.getElem?_of_mem hi
    have h1 : (is.map (fun i => ws[i]?))[j]? = some (ws[i]?) := by rw [List.getElem?_map, hj]; rfl
    rw [hC, List.getElem?_map] at h1
    cases hw : wc[j]? with
    | none => rw [hw] at h1; cases h1
    | some q => rw [hw] at h1; exact (List.getElem?_eq_some_iff.mp (Option.some.inj h1).symm).1
  have old : ∀ (j k : Nat), is[j]? = some k → ∀ q, wc'[j]? = some q → ∃ q0, ws[k]? = some q0 ∧ wc[j]? = some q0 ∧ q0.1 = q.1 := by
    intro j k hj q hq
    have h1 : (is.map (fun i => ws[i]?))[j]? = some (ws[k]?) := by rw [List.getElem?_map, hj]; rfl
    rw [hC, List.getElem?_map] at h1
    cases hw : wc[j]? with
    | none => rw [hw] at h1; cases h1
    | some q0 =>
      rw [hw] at h1
      refine ⟨q0, (Option.some.inj h1).symm, rfl, ?_⟩
      have h2 := congrArg (fun l => l[j]?) ha
      simp only [List.getElem?_map, hw, hq, Option.map_some] at h2
      exact (Option.some.inj h2).symm
  refine ⟨fun k q h => ?_, ⟨fun i j p q h1 h2 hpq => ?_, fun k q h => ?_⟩⟩
  · rcases upds_get is wc' ws hlen hn hlt k q h with ⟨h1, h2⟩ | ⟨j, h1, h2⟩
    · have hl := (hP k q h2).lt
      refine (hP k q h2).kept (hk q.1 hl (fun z => ?_))
      rcases z with ⟨k2, e, z⟩ | z
      · have h3 : (is.map (fun i => ws[i]?))[k2]? = some (some (q.1, e)) := by rw [hC, List.getElem?_map, z]; rfl
        rw [List.getElem?_map] at h3
        cases hi : is[k2]? with
        | none => rw [hi] at h3; cases h3
        | some i =>
          rw [hi] at h3
          have := hD.1 k i q (q.1, e) h2 (Option.some.inj h3) rfl
          subst this
          exact h1 (List.mem_of_getElem? hi)
      · omega
    · exact hP1 j q h2
  · have key : ∀ (k : Nat) (q : Nat × va_E), (upds ws is wc')[k]? = some q → ∃ q0, ws[k]? = some q0 ∧ q0.1 = q.1 := by
      intro k q h
      rcases upds_get is wc' ws hlen hn hlt k q h with ⟨-, h2⟩ | ⟨j, h1, h2⟩
      · exact ⟨q, h2, rfl⟩
      · obtain ⟨q0, a1, -, a3⟩ := old j k h1 q h2
        exact ⟨q0, a1, a3⟩
    obtain ⟨p0, a1, a2⟩ := key i p h1
    obtain ⟨q0, b1, b2⟩ := key j q h2
    exact hD.1 i j p0 q0 a1 b1 (a2.trans (hpq.trans b2.symm))
  · rcases upds_get is wc' ws hlen hn hlt k q h with ⟨-, h2⟩ | ⟨j, h1, h2⟩
    · exact hD.2 k q h2
    · obtain ⟨q0, a1, -, a3⟩ := old j k h1 q h2
      rw [← a3]
      exact hD.2 k q0 a1
end
section
/-! ===== rows over the bundles ===== -/
section CxAcc
variable {p : Program} {s : State} {m : MethodId} {args : Array Value} {c : Code} {G : va_G} {tys : List (ClassId × FieldType)} {A : Nat → Prop} {own : String} {cc : ByteArray} {Ts : List Cond} {nL : Nat}
theorem Cx.hx (C : Cx p s m args c G tys A own cc Ts nL) : p.tables.exec = Jvm.exec := C.1
theorem Cx.hb (C : Cx p s m args c G tys A own cc Ts nL) : c.code = cc := C.2.1
theorem Cx.hml (C : Cx p s m args c G tys A own cc Ts nL) : c.maxLocals = nL := C.2.2.1
theorem Cx.hown (C : Cx p s m args c G tys A own cc Ts nL) : s.vm.findClass own = some m.cls := C.2.2.2.1
theorem Cx.hts (C : Cx p s m args c G tys A own cc Ts nL) : ∀ w ∈ Ts, w.before args s = true := C.2.2.2.2.1
theorem Cx.hK (C : Cx p s m args c G tys A own cc Ts nL) : va_K G vwCl tys s := C.2.2.2.2.2.1
theorem Cx.nw (C : Cx p s m args c G tys A own cc Ts nL) : NW s := C.2.2.2.2.2.2.1
theorem Cx.hA (C : Cx p s m args c G tys A own cc Ts nL) : ∀ q, s.heap.size ≤ q → A q := C.2.2.2.2.2.2.2.1
theorem Cx.sf (C : Cx p s m args c G tys A own cc Ts nL) : SF A s s.heap := C.2.2.2.2.2.2.2.2
theorem Cx.fix (C : Cx p s m args c G tys A own cc Ts nL) : CallFix p m c cc nL s args Ts own := ⟨C.hx, C.hb, C.hml, C.hown, C.hts⟩
end CxAcc
section Rows
variable {p : Program} {l : Launch} {e : Env} {R : Room} {s : State} {m : MethodId} {args : Array Value} {below : List Frame} {meth : Method} {c : Code} {H : Heap} {locs : List Loc} {cells slots : Nat} {Q : State → Prop}
variable {cc : ByteArray} {pc : Nat} {ls : Array Slot} {rest st0 st1 : List Value} {G : va_G} {tys : List (ClassId × FieldType)} {A : Nat → Prop} {own : String} {Ts : List Cond} {nL : Nat} {w : va_W} {a : Nat}
theorem r_get (C : Cx p s m args c G tys A own cc Ts nL) (h : Hx s G A w H locs) (q0 k : Nat) {ci index N : Nat} {Cn : String} {T : u_T} {fs : List Value} {v : Value} (he : w[q0]? = some (a, .inr (ci, fs))) (hc : vwCl[ci]? = some (Cn, T, N)) (hk : k < N) (hin : ∀ x ∈ u_ws Cn T N, x ∈ Ts) (hl : Cond.fieldLink own index (T k).1 (T k).2.1 (T k).2.2.1 ∈ Ts) (hv : fs[k]? = some v) (hdg : decode cc pc = .ok (.getfield index, 3))
    (kk : W p l e R s m args below meth c H locs cells slots Q (F0 m (pc + 3) ls (v :: rest))) : W p l e R s m args below meth c H locs cells slots Q (F0 m pc ls (.ref a :: rest)) :=
  va_get C.hx C.hb C.hts hin C.hown C.hK h.1 q0 he hc k hk (C.hts _ hl) (fun _ h9 => h9) hv hdg kk
theorem r_getN (C : Cx p s m args c G tys A own cc Ts nL) (h : Hx s G A w H locs) (q0 k : Nat) {ci index N : Nat} {Cn host : String} {T : u_T} {fs : List Value} {v : Value} (he : w[q0]? = some (a, .inr (ci, fs))) (hc : vwCl[ci]? = some (Cn, T, N)) (hk : k < N) (hin : ∀ x ∈ u_ws Cn T N, x ∈ Ts) (hl : (own, index, (T k).1, (T k).2.1, (T k).2.2.1, host) ∈ nwF) (hv : fs[k]? = some v) (hdg : decode cc pc = .ok (.getfield index, 3))
    (kk : W p l e R s m args below meth c H locs cells slots Q (F0 m (pc + 3) ls (v :: rest))) : W p l e R s m args below meth c H locs cells slots Q (F0 m pc ls (.ref a :: rest)) :=
  va_getN C.hx C.hb C.hts hin C.hown C.hK h.1 q0 he hc k hk (va_Nw.use rfl (C.nw.1 _ hl)) (fun _ h9 => h9) hv hdg kk
theorem r_put (C : Cx p s m args c G tys A own cc Ts nL) (h : Hx s G A w H locs) (q0 k : Nat) {ci index N : Nat} {Cn : String} {T : u_T} {fs : List Value} {v : Value} {ty0 : Nat → FieldType} (he : w[q0]? = some (a, .inr (ci, fs))) (hc : vwCl[ci]? = some (Cn, T, N)) (hk : k < N) (hin : ∀ x ∈ u_ws Cn T N, x ∈ Ts) (hty : ∀ k, k < N → parseFieldDescriptor (T k).2.2.1 = some (ty0 k)) (hnm : ∀ a, a < N → ∀ b, b < N → a ≠ b → (T a).2.1 ≠ (T b).2.1) (hl : Cond.fieldLink own index (T k).1 (T k).2.1 (T k).2.2.1 ∈ Ts) (hfin : (T k).2.2.2 = false) (hn : narrow (ty0 k) v = v) (hfit : fits (ty0 k) v = true) (hlen : k < fs.length) (w' : va_W) (hw : w.set q0 (a, .inr (ci, fs.set k v)) = w') (hdg : decode cc pc = .ok (.putfield index, 3))
    (kk : ∀ (H1 : Heap) (locs1 : List Loc), Hx s G A w' H1 locs1 → W p l e R s m args below meth c H1 locs1 cells slots Q (F0 m (pc + 3) ls rest)) : W p l e R s m args below meth c H locs cells slots Q (F0 m pc ls (v :: .ref a :: rest)) := by
  subst hw
  exact va_put C.hx C.hb C.hts hin ty0 hty hnm C.hown C.hK h.1 h.2.1 h.2.2 q0 he hc k hk (C.hts _ hl) (fun _ h9 => h9) hfin (hty k hk) hn hfit hlen hdg (fun H1 locs1 a1 a2 a3 => kk H1 locs1 ⟨a1, a2, a3⟩)
theorem r_putN (C : Cx p s m args c G tys A own cc Ts nL) (h : Hx s G A w H locs) (q0 k : Nat) {ci index N : Nat} {Cn host : String} {T : u_T} {fs : List Value} {v : Value} {ty0 : Nat → FieldType} (he : w[q0]? = some (a, .inr (ci, fs))) (hc : vwCl[ci]? = some (Cn, T, N)) (hk : k < N) (hin : ∀ x ∈ u_ws Cn T N, x ∈ Ts) (hty : ∀ k, k < N → parseFieldDescriptor (T k).2.2.1 = some (ty0 k)) (hnm : ∀ a, a < N → ∀ b, b < N → a ≠ b → (T a).2.1 ≠ (T b).2.1) (hl : (own, index, (T k).1, (T k).2.1, (T k).2.2.1, host) ∈ nwF) (hfin : (T k).2.2.2 = false) (hn : narrow (ty0 k) v = v) (hfit : fits (ty0 k) v = true) (hlen : k < fs.length) (w' : va_W) (hw : w.set q0 (a, .inr (ci, fs.set k v)) = w') (hdg : decode cc pc = .ok (.putfield index, 3))
    (kk : ∀ (H1 : Heap) (locs1 : List Loc), Hx s G A w' H1 locs1 → W p l e R s m args below meth c H1 locs1 cells slots Q (F0 m (pc + 3) ls rest)) : W p l e R s m args below meth c H locs cells slots Q (F0 m pc ls (v :: .ref a :: rest)) := by
  subst hw
  exact va_putN C.hx C.hb C.hts hin ty0 hty hnm C.hown C.hK h.1 h.2.1 h.2.2 q0 he hc k hk (va_Nw.use rfl (C.nw.1 _ hl)) (fun _ h9 => h9) hfin (hty k hk) hn hfit hlen hdg (fun H1 locs1 a1 a2 a3 => kk H1 locs1 ⟨a1, a2, a3⟩)
theorem r_putF (C : Cx p s m args c G tys A own cc Ts nL) (h : Hx s G A w H locs) (hin2 : meth.name = "<init>") (q0 k : Nat) {ci index N : Nat} {T : u_T} {fs : List Value} {v : Value} {ty0 : Nat → FieldType} (he : w[q0]? = some (a, .inr (ci, fs))) (hc : vwCl[ci]? = some (own, T, N)) (hk : k < N) (hin : ∀ x ∈ u_ws own T N, x ∈ Ts) (hty : ∀ k, k < N → parseFieldDescriptor (T k).2.2.1 = some (ty0 k)) (hnm : ∀ a, a < N → ∀ b, b < N → a ≠ b → (T a).2.1 ≠ (T b).2.1) (hl : Cond.fieldLink own index (T k).1 (T k).2.1 (T k).2.2.1 ∈ Ts) (hfin : (T k).2.2.2 = true) (hdecl : (T k).1 = own) (hn : narrow (ty0 k) v = v) (hfit : fits (ty0 k) v = true) (hlen : k < fs.length) (w' : va_W) (hw : w.set q0 (a, .inr (ci, fs.set k v)) = w') (hdg : decode cc pc = .ok (.putfield index, 3))
    (kk : ∀ (H1 : Heap) (locs1 : List Loc), Hx s G A w' H1 locs1 → W p l e R s m args below meth c H1 locs1 cells slots Q (F0 m (pc + 3) ls rest)) : W p l e R s m args below meth c H locs cells slots Q (F0 m pc ls (v :: .ref a :: rest)) := by
  subst hw
  exact va_putF C.hx C.hb C.hts hin ty0 hty hnm C.hown C.hK h.1 h.2.1 h.2.2 q0 he hc k hk (C.hts _ hl) (fun _ h9 => h9) hfin hin2 hdecl (hty k hk) hn hfit hlen hdg (fun H1 locs1 a1 a2 a3 => kk H1 locs1 ⟨a1, a2, a3⟩)
theorem r_ald (C : Cx p s m args c G tys A own cc Ts nL) (h : Hx s G A w H locs) (q0 : Nat) {cA : ClassId} {n j : Nat} {f : Nat → Int32} (he : w[q0]? = some (a, .inl (cA, n, .inl f))) (ht : tys[0]? = some (cA, .int)) {i : Int32} (hij : vp_in i n ∧ i.toNatClampNeg = j) (hdg : decode cc pc = .ok (.iaload, 1))
    (kk : W p l e R s m args below meth c H locs cells slots Q (F0 m (pc + 1) ls (.int (f j) :: rest))) : W p l e R s m args below meth c H locs cells slots Q (F0 m pc ls (.int i :: .ref a :: rest)) := by
  obtain ⟨hi, rfl⟩ := hij
  exact va_iald C.hx C.hb C.hK h.1 q0 0 he ht hi hdg kk
theorem r_cald (C : Cx p s m args c G tys A own cc Ts nL) (h : Hx s G A w H locs) (q0 : Nat) {cA : ClassId} {n j : Nat} {f : Nat → Int32} (he : w[q0]? = some (a, .inl (cA, n, .inl f))) (ht : tys[1]? = some (cA, .char)) {i : Int32} (hij : vp_in i n ∧ i.toNatClampNeg = j) (hdg : decode cc pc = .ok (.caload, 1))
    (kk : W p l e R s m args below meth c H locs cells slots Q (F0 m (pc + 1) ls (.int (f j) :: rest))) : W p l e R s m args below meth c H locs cells slots Q (F0 m pc ls (.int i :: .ref a :: rest)) := by
  obtain ⟨hi, rfl⟩ := hij
  exact va_cald C.hx C.hb C.hK h.1 q0 1 he ht hi hdg kk
theorem r_zald (C : Cx p s m args c G tys A own cc Ts nL) (h : Hx s G A w H locs) (q0 : Nat) {cA : ClassId} {n j : Nat} {f : Nat → Int32} (he : w[q0]? = some (a, .inl (cA, n, .inl f))) (ht : tys[2]? = some (cA, .boolean)) {i : Int32} (hij : vp_in i n ∧ i.toNatClampNeg = j) (hdg : decode cc pc = .ok (.baload, 1))
    (kk : W p l e R s m args below meth c H locs cells slots Q (F0 m (pc + 1) ls (.int (f j) :: rest))) : W p l e R s m args below meth c H locs cells slots Q (F0 m pc ls (.int i :: .ref a :: rest)) := by
  obtain ⟨hi, rfl⟩ := hij
  exact va_zald C.hx C.hb C.hK h.1 q0 2 he ht hi hdg kk
theorem r_ast (C : Cx p s m args c G tys A own cc Ts nL) (h : Hx s G A w H locs) (q0 : Nat) {cA : ClassId} {n j : Nat} {f : Nat → Int32} (he : w[q0]? = some (a, .inl (cA, n, .inl f))) (ht : tys[0]? = some (cA, .int)) {i x : Int32} (hij : vp_in i n ∧ i.toNatClampNeg = j) (w' : (Nat → Int32) → va_W) (hw : ∀ f', w.set q0 (a, .inl (cA, n, .inl f')) = w' f') (hdg : decode cc pc = .ok (.iastore, 1))
    (kk : ∀ f' : Nat → Int32, f' = upd f j x → ∀ (H1 : Heap) (locs1 : List Loc), Hx s G A (w' f') H1 locs1 → W p l e R s m args below meth c H1 locs1 cells slots Q (F0 m (pc + 1) ls rest)) : W p l e R s m args below meth c H locs cells slots Q (F0 m pc ls (.int x :: .int i :: .ref a :: rest)) := by
  obtain ⟨hi, rfl⟩ := hij
  exact va_iast C.hx C.hb C.hK h.1 h.2.1 h.2.2 q0 0 he ht hi hdg (fun H1 locs1 a1 a2 a3 => kk _ rfl H1 locs1 (by rw [← hw]; exact ⟨a1, a2, a3⟩))
theorem r_cast (C : Cx p s m args c G tys A own cc Ts nL) (h : Hx s G A w H locs) (q0 : Nat) {cA : ClassId} {n j : Nat} {f : Nat → Int32} (he : w[q0]? = some (a, .inl (cA, n, .inl f))) (ht : tys[1]? = some (cA, .char)) {i x : Int32} (hij : vp_in i n ∧ i.toNatClampNeg = j) (w' : (Nat → Int32) → va_W) (hw : ∀ f', w.set q0 (a, .inl (cA, n, .inl f')) = w' f') (hdg : decode cc pc = .ok (.castore, 1))
    (kk : ∀ f' : Nat → Int32, f' = upd f j (vp_nar .char x) → ∀ (H1 : Heap) (locs1 : List Loc), Hx s G A (w' f') H1 locs1 → W p l e R s m args below meth c H1 locs1 cells slots Q (F0 m (pc + 1) ls rest)) : W p l e R s m args below meth c H locs cells slots Q (F0 m pc ls (.int x :: .int i :: .ref a :: rest)) := by
  obtain ⟨hi, rfl⟩ := hij
  exact va_cast C.hx C.hb C.hK h.1 h.2.1 h.2.2 q0 1 he ht hi hdg (fun H1 locs1 a1 a2 a3 => kk _ rfl H1 locs1 (by rw [← hw]; exact ⟨a1, a2, a3⟩))
theorem r_zast (C : Cx p s m args c G tys A own cc Ts nL) (h : Hx s G A w H locs) (q0 : Nat) {cA : ClassId} {n j : Nat} {f : Nat → Int32} (he : w[q0]? = some (a, .inl (cA, n, .inl f))) (ht : tys[2]? = some (cA, .boolean)) {i x : Int32} (hij : vp_in i n ∧ i.toNatClampNeg = j) (w' : (Nat → Int32) → va_W) (hw : ∀ f', w.set q0 (a, .inl (cA, n, .inl f')) = w' f') (hdg : decode cc pc = .ok (.bastore, 1))
    (kk : ∀ f' : Nat → Int32, f' = upd f j (vp_nar .boolean x) → ∀ (H1 : Heap) (locs1 : List Loc), Hx s G A (w' f') H1 locs1 → W p l e R s m args below meth c H1 locs1 cells slots Q (F0 m (pc + 1) ls rest)) : W p l e R s m args below meth c H locs cells slots Q (F0 m pc ls (.int x :: .int i :: .ref a :: rest)) := by
  obtain ⟨hi, rfl⟩ := hij
  exact va_zast C.hx C.hb C.hK h.1 h.2.1 h.2.2 q0 2 he ht hi hdg (fun H1 locs1 a1 a2 a3 => kk _ rfl H1 locs1 (by rw [← hw]; exact ⟨a1, a2, a3⟩))
theorem r_alen (C : Cx p s m args c G tys A own cc Ts nL) (h : Hx s G A w H locs) (q0 : Nat) {cA : ClassId} {n : Nat} {f : Nat → Int32} (he : w[q0]? = some (a, .inl (cA, n, .inl f))) (ht : tys[0]? = some (cA, .int)) (hdg : decode cc pc = .ok (.arraylength, 1))
    (kk : W p l e R s m args below meth c H locs cells slots Q (F0 m (pc + 1) ls (.int (nI n) :: rest))) : W p l e R s m args below meth c H locs cells slots Q (F0 m pc ls (.ref a :: rest)) :=
  va_alen C.hx C.hb C.hK h.1 q0 0 he ht rfl hdg kk
/-- what arraycopy asks of its numbers -/
abbrev acok (sp dp n : Int32) (n0 n1 : Nat) : Prop := ¬ sp < 0 ∧ ¬ dp < 0 ∧ ¬ n < 0 ∧ sp.toNatClampNeg + n.toNatClampNeg ≤ n0 ∧ dp.toNatClampNeg + n.toNatClampNeg ≤ n1
theorem r_copy (C : Cx p s m args c G tys A own cc Ts nL) (h : Hx s G A w H locs) (hls : ls.size = nL) (q0 q1 : Nat) {index : Nat} {a0 : Nat} {cA : ClassId} {n0 n1 : Nat} {f g : Nat → Int32} (he0 : w[q0]? = some (a0, .inl (cA, n0, .inl f))) (he1 : w[q1]? = some (a, .inl (cA, n1, .inl g))) (ht : tys[0]? = some (cA, .int)) {sp dp n : Int32} (hok : acok sp dp n n0 n1)
    (hlink : Cond.methodLink own index arraycopyName ∈ Ts) (hnat : Cond.native arraycopyName ∈ Ts) (hstat : Cond.static arraycopyName ∈ Ts) (hini : Cond.initialized "java/lang/System" ∈ Ts) (hframes : 1 ≤ R.frames) (hlocals : (rest.map fun v => v.category).sum + (nativeFrameWords "java/lang/System" "arraycopy" 5 + 11) ≤ R.locals) (w' : (Nat → Int32) → va_W) (hw : ∀ f', w.set q1 (a, .inl (cA, n1, .inl f')) = w' f') (hdg : decode cc pc = .ok (.invokestatic index, 3))
    (kk : ∀ f' : Nat → Int32, f' = va_cpy f g sp.toNatClampNeg dp.toNatClampNeg n.toNatClampNeg → ∀ (H1 : Heap) (locs1 : List Loc), Hx s G A (w' f') H1 locs1 → W p l e R s m args below meth c H1 locs1 cells slots Q (F0 m (pc + 3) ls rest)) : W p l e R s m args below meth c H locs cells slots Q (F0 m pc ls (.int n :: .int dp :: .ref a :: .int sp :: .ref a0 :: rest)) := by
  obtain ⟨h1, h2, h3, h4, h5⟩ := hok
  exact va_copyi C.hx C.hb (C.hml.trans hls.symm) C.hown (C.hts _ hlink) (C.hts _ hnat) (C.hts _ hstat) (C.hts _ hini) C.hK h.1 h.2.1 h.2.2 q0 q1 0 0 he0 he1 ht ht rfl h1 h2 h3 h4 h5 (fun i _ => rfl) hframes hlocals hdg (fun H1 locs1 a1 a2 a3 => kk _ rfl H1 locs1 (by rw [← hw]; exact ⟨a1, a2, a3⟩))
theorem r_max (C : Cx p s m args c G tys A own cc Ts nL) (hls : ls.size = nL) {index : Nat} (hlink : Cond.methodLink own index Lib.Math.max.name ∈ Ts) (hstat : Cond.static Lib.Math.max.name ∈ Ts) (hini : Cond.initialized "java/lang/Math" ∈ Ts) (hcode : Cond.code Lib.Math.max.name Lib.Math.max.code 2 (some .int) ∈ Ts) (hframes : 1 ≤ R.frames) (hlocals : (rest.map fun v => v.category).sum + 13 ≤ R.locals) (hc : cells ≤ R.cells) (hs : slots ≤ R.slots) {x y : Int32} (hdg : decode cc pc = .ok (.invokestatic index, 3))
    (kk : W p l e R s m args below meth c H locs cells slots Q (F0 m (pc + 3) ls (.int (if x < y then y else x) :: rest))) : W p l e R s m args below meth c H locs cells slots Q (F0 m pc ls (.int y :: .int x :: rest)) :=
  va_mmax C.hx C.hb (C.hml.trans hls.symm) C.hown (C.hts _ hlink) (C.hts _ hstat) (C.hts _ hini) (C.hts _ hcode) hframes hlocals hc hs hdg kk
theorem r_min (C : Cx p s m args c G tys A own cc Ts nL) (hls : ls.size = nL) {index : Nat} (hlink : Cond.methodLink own index Lib.Math.min.name ∈ Ts) (hstat : Cond.static Lib.Math.min.name ∈ Ts) (hini : Cond.initialized "java/lang/Math" ∈ Ts) (hcode : Cond.code Lib.Math.min.name Lib.Math.min.code 2 (some .int) ∈ Ts) (hframes : 1 ≤ R.frames) (hlocals : (rest.map fun v => v.category).sum + 13 ≤ R.locals) (hc : cells ≤ R.cells) (hs : slots ≤ R.slots) {x y : Int32} (hdg : decode cc pc = .ok (.invokestatic index, 3))
    (kk : W p l e R s m args below meth c H locs cells slots Q (F0 m (pc + 3) ls (.int (if y < x then y else x) :: rest))) : W p l e R s m args below meth c H locs cells slots Q (F0 m pc ls (.int y :: .int x :: rest)) :=
  va_mmin C.hx C.hb (C.hml.trans hls.symm) C.hown (C.hts _ hlink) (C.hts _ hstat) (C.hts _ hini) (C.hts _ hcode) hframes hlocals hc hs hdg kk
theorem r_getsN (C : Cx p s m args c G tys A own cc Ts nL) (h : Hx s G A w H locs) {n host ref : String} {index t : Nat} (hZ : va_Z ref n "[I" (.ref t) A s s.heap) (hl : (own, index, ref, n, "[I", host) ∈ nwF) (hdg : decode cc pc = .ok (.getstatic index, 3))
    (kk : W p l e R s m args below meth c H locs cells slots Q (F0 m (pc + 3) ls (.ref t :: rest))) : W p l e R s m args below meth c H locs cells slots Q (F0 m pc ls rest) :=
  va_getsN C.hx C.hb hZ h.2.2 C.hown (va_Nw.use rfl (C.nw.1 _ hl)) (fun _ h9 => h9) hdg kk
theorem r_ti (C : Cx p s m args c G tys A own cc Ts nL) (h : Hx s G A w H locs) {t j : Nat} {f : Nat → Int32} (hT : va_T .int t 8 (fun j => .int (f j)) A s s.heap) {i : Int32} (hij : vp_in i 8 ∧ i.toNatClampNeg = j) (hdg : decode cc pc = .ok (.iaload, 1))
    (kk : W p l e R s m args below meth c H locs cells slots Q (F0 m (pc + 1) ls (.int (f j) :: rest))) : W p l e R s m args below meth c H locs cells slots Q (F0 m pc ls (.int i :: .ref t :: rest)) := by
  obtain ⟨hi, rfl⟩ := hij
  exact va_ti C.hx C.hb hT h.2.2 hi rfl hdg kk
-- calls
theorem r_back (C : Cx p s m args c G tys A own cc Ts nL) (h : Hx s G A w H locs) {wc wc' : va_W} {res : Option Value} {av : Array Value} (is : List Nat) (hC : is.map (fun i => w[i]?) = wc.map some) (hn : va_nd is = true) (hfst : wc'.map Prod.fst = wc.map Prod.fst) (w' : va_W) (hw : upds w is wc' = w')
    (hr : va_Run p l e R s m args below meth c H locs cells slots 0 0 (F0 m pc ls st0) rest (Qx G res wc' (va_A wc H.size) av) (va_A wc H.size)) (hst : res.toList ++ rest = st1)
    (kk : ∀ (H1 : Heap) (locs1 : List Loc), Hx s G A w' H1 locs1 → W p l e R s m args below meth c H1 locs1 cells slots Q (F0 m (pc + 3) ls st1)) : W p l e R s m args below meth c H locs cells slots Q (F0 m pc ls st0) := by
  subst hw
  subst hst
  have hF := va_free (wc := wc) h.2.1 h.2.2 C.hA is hC
  intro T hT X
  obtain ⟨v, st₀, t, T', L, h0, X', hL, e1, e2, ⟨⟨hv, hp, -⟩, hz, hk⟩, st⟩ := hr T hT X
  cases hv
  rw [h0] at hz hk
  rw [← e1] at hp hz hk
  have hj := va_back h.1 h.2.1 is hC hn hfst hk hp
  obtain ⟨t2, a1, b1⟩ := kk T'.heap (locs ++ L) ⟨hj.1, hj.2, Nat.le_trans h.2.2.1 hz, fun q h1 h2 => by rw [hk q (Nat.lt_of_lt_of_le h1 h.2.2.1) (fun z => h2 (hF q z))]; exact h.2.2.2.1 q h1 h2, fun q hq => by
      rcases List.mem_append.mp hq with h1 | h1
      · exact h.2.2.2.2 q h1
      · exact hF _ (hL q h1)⟩ T' rfl X'
  exact ⟨t2, st t2 a1, b1⟩
theorem r_pre (C : Cx p s m args c G tys A own cc Ts nL) (h : Hx s G A w H locs) {wc : va_W} {av : List Value} (is : List Nat) (hC : is.map (fun i => w[i]?) = wc.map some) (hn : va_nd is = true) : PreS s H (va_Pc av (Pre G tys wc H.size)) av := by
  have hF := va_free (wc := wc) h.2.1 h.2.2 C.hA is hC
  have hfm : is.filterMap (fun i => w[i]?) = wc := by
    have h1 : is.filterMap (fun i => w[i]?) = (is.map (fun i => w[i]?)).filterMap id := by rw [List.filterMap_map]; rfl
    rw [h1, hC, List.filterMap_map]
    exact List.filterMap_some
  refine ⟨Pre.blind, fun U hU hW => ⟨rfl, by rw [hU], by rw [hU]; exact h.1.sub is hfm, va_K.moved hW.alike C.hK, (h.2.1.sub is hn hC).weaken (fun _ _ _ _ => trivial), ?_, NW.warm hW C.nw⟩⟩
  rw [hU]
  exact (C.sf.kept h.2.2.2.1 hF).moved hW.alike
theorem r_callV (C : Cx p s m args c G tys A own cc Ts nL) (h : Hx s G A w H locs) {y : MethodName} {bytes : ByteArray} {maxL n index ci : Nat} {ret : Option FieldType} {wsy : List Cond} {rmy : Room} {Cn : String} {T : u_T} {N b : Nat} {fs As : List Value} {wc wc' : va_W} {res : Option Value}
    (cw : CallW R s args own Cn index y bytes maxL ret wsy rmy 0 0 n) (ct : CT l y wsy rmy G tys (.ref b :: As) wc res wc') (is : List Nat) (hC : is.map (fun i => w[i]?) = wc.map some) (hn : va_nd is = true) (hfst : wc'.map Prod.fst = wc.map Prod.fst) (hrc : vwCl[ci]? = some (Cn, T, N)) (q0 : Nat) (hq0 : w[q0]? = some (b, .inr (ci, fs)))
    (hlen : As.length = n) (hls : ls.size = nL) (hst0 : st0 = As.reverse ++ .ref b :: rest) (hroom : (rest.map fun v => v.category).sum ≤ 8) (hf : cells ≤ R.cells ∧ slots ≤ R.slots) (w' : va_W) (hw : upds w is wc' = w') (hst : res.toList ++ rest = st1) (hdg : decode cc pc = .ok (.invokevirtual index, 3))
    (kk : ∀ (H1 : Heap) (locs1 : List Loc), Hx s G A w' H1 locs1 → W p l e R s m args below meth c H1 locs1 cells slots Q (F0 m (pc + 3) ls st1)) : W p l e R s m args below meth c H locs cells slots Q (F0 m pc ls st0) := by
  have hp := r_pre (av := .ref b :: As) C h is hC hn
  exact r_back C h is hC hn hfst w' hw (va_runV C.fix (ct H.size) cw ⟨hp.1, va_recv C.hK h.1 hrc hq0, hp.2⟩ rfl hlen hls hst0 (lv_room hroom) hdg hf) hst kk
theorem r_callS (C : Cx p s m args c G tys A own cc Ts nL) (h : Hx s G A w H locs) {y : MethodName} {bytes : ByteArray} {maxL n index : Nat} {ret : Option FieldType} {wsy : List Cond} {rmy : Room} {As : List Value} {wc wc' : va_W} {res : Option Value}
    (cw : CallB R s args own index y bytes maxL ret wsy rmy 0 0 n ∧ (Cond.static y).before args s = true) (ct : CT l y wsy rmy G tys As wc res wc') (is : List Nat) (hC : is.map (fun i => w[i]?) = wc.map some) (hn : va_nd is = true) (hfst : wc'.map Prod.fst = wc.map Prod.fst)
    (hlen : As.length = n) (hls : ls.size = nL) (hst0 : st0 = As.reverse ++ rest) (hroom : (rest.map fun v => v.category).sum ≤ 8) (hf : cells ≤ R.cells ∧ slots ≤ R.slots) (w' : va_W) (hw : upds w is wc' = w') (hst : res.toList ++ rest = st1) (hdg : decode cc pc = .ok (.invokestatic index, 3))
    (kk : ∀ (H1 : Heap) (locs1 : List Loc), Hx s G A w' H1 locs1 → W p l e R s m args below meth c H1 locs1 cells slots Q (F0 m (pc + 3) ls st1)) : W p l e R s m args below meth c H locs cells slots Q (F0 m pc ls st0) := by
  exact r_back C h is hC hn hfst w' hw (va_runS C.fix (ct H.size) cw (r_pre C h is hC hn) rfl hlen hls hst0 (lv_room hroom) hdg hf) hst kk
theorem r_callSN (C : Cx p s m args c G tys A own cc Ts nL) (h : Hx s G A w H locs) {y : MethodName} {bytes : ByteArray} {maxL n index : Nat} {ret : Option FieldType} {wsy : List Cond} {rmy : Room} {As : List Value} {wc wc' : va_W} {res : Option Value} {host : String}
    (cw : va_CN R s args own index y host bytes maxL ret wsy rmy 0 0 n ∧ (Cond.static y).before args s = true ∧ True) (ct : CT l y wsy rmy G tys As wc res wc') (is : List Nat) (hC : is.map (fun i => w[i]?) = wc.map some) (hn : va_nd is = true) (hfst : wc'.map Prod.fst = wc.map Prod.fst)
    (hlen : As.length = n) (hls : ls.size = nL) (hst0 : st0 = As.reverse ++ rest) (hroom : (rest.map fun v => v.category).sum ≤ 8) (hf : cells ≤ R.cells ∧ slots ≤ R.slots) (w' : va_W) (hw : upds w is wc' = w') (hst : res.toList ++ rest = st1) (hdg : decode cc pc = .ok (.invokestatic index, 3))
    (kk : ∀ (H1 : Heap) (locs1 : List Loc), Hx s G A w' H1 locs1 → W p l e R s m args below meth c H1 locs1 cells slots Q (F0 m (pc + 3) ls st1)) : W p l e R s m args below meth c H locs cells slots Q (F0 m pc ls st0) := by
  exact r_back C h is hC hn hfst w' hw (va_runSN C.fix (ct H.size) cw (r_pre C h is hC hn) rfl hlen hls hst0 (lv_room hroom) hdg hf) hst kk
-- ends
variable {w' : va_W}
theorem r_iret (C : Cx p s m args c G tys A own cc Ts nL) (h : Hx s G A w' H locs) (hr : meth.sig.returnType = some .int) (hlocks : meth.locks = false) {v : Int32} (hdg : decode cc pc = .ok (.ireturn, 1)) : W p l e R s m args below meth c H locs cells slots (MQ below (Qx G (some (.int v)) w' A) args s cells slots A) (F0 m pc ls [.int v]) :=
  W.iret (v := v) C.hx C.hb hr (fun t ht hW => ⟨⟨rfl, by rw [ht]; exact h.1, h.2.1⟩, h.2.2.F ht⟩) h.2.2.2.2 hdg hlocks
theorem r_zret (C : Cx p s m args c G tys A own cc Ts nL) (h : Hx s G A w' H locs) {ty : FieldType} (hr : meth.sig.returnType = some ty) (hlocks : meth.locks = false) {v : Int32} (hn : narrow ty (.int v) = .int v) (hdg : decode cc pc = .ok (.ireturn, 1)) : W p l e R s m args below meth c H locs cells slots (MQ below (Qx G (some (.int v)) w' A) args s cells slots A) (F0 m pc ls [.int v]) :=
  W.zret (v := v) C.hx C.hb hr hn (fun t ht hW => ⟨⟨rfl, by rw [ht]; exact h.1, h.2.1⟩, h.2.2.F ht⟩) h.2.2.2.2 hdg hlocks
theorem r_lret (C : Cx p s m args c G tys A own cc Ts nL) (h : Hx s G A w' H locs) (hr : meth.sig.returnType = some .long) (hlocks : meth.locks = false) {v : Int64} (hdg : decode cc pc = .ok (.lreturn, 1)) : W p l e R s m args below meth c H locs cells slots (MQ below (Qx G (some (.long v)) w' A) args s cells slots A) (F0 m pc ls [.long v]) :=
  W.lret (v := v) C.hx C.hb hr (fun t ht hW => ⟨⟨rfl, by rw [ht]; exact h.1, h.2.1⟩, h.2.2.F ht⟩) h.2.2.2.2 hdg hlocks
theorem r_vret (C : Cx p s m args c G tys A own cc Ts nL) (h : Hx s G A w' H locs) (hr : meth.sig.returnType = none) (hlocks : meth.locks = false) (hdg : decode cc pc = .ok (.return_, 1)) : W p l e R s m args below meth c H locs cells slots (MQ below (Qx G none w' A) args s cells slots A) (F0 m pc ls []) :=
  W.vret C.hx C.hb hr (fun t ht hW => ⟨⟨rfl, by rw [ht]; exact h.1, h.2.1⟩, h.2.2.F ht⟩) h.2.2.2.2 hdg hlocks
end Rows
/-- the start of a walk -/
theorem CT.of {l : Launch} {y : MethodName} {ws ws' : List Cond} {rm : Room} {G : va_G} {tys : List (ClassId × FieldType)} {av : List Value} {w w' : va_W} {res : Option Value} {cc : ByteArray} {maxL : Nat} {ret : Option FieldType} (own : String) (ho : y.cls = own) (hy : plainName y.cls = true) (hw : ws = Cond.code y cc maxL ret :: ws') (hlen : (lg_sl av).length ≤ maxL)
    (body : ∀ (p : Program) (e : Env) (s : State) (m : MethodId) (args : Array Value) (below : List Frame) (meth : Method) (c : Code) (A : Nat → Prop) (ls : Array Slot), Cx p s m args c G tys A own cc ws maxL → meth.sig.returnType = ret → meth.locks = false → meth.name = y.name → Hx s G A w s.heap [] → lv_has ls maxL (lv_args 0 av) → W p l e rm s m args below meth c s.heap [] 0 0 (MQ below (Qx G res w' A) args s 0 0 A) (F0 m 0 ls [])) : CT l y ws rm G tys av w res w' := by
  subst ho
  intro sz
  refine Met.ofW (cc := cc) (maxL := maxL) (ret := ret) hy hw ?_
  intro p e s m args below meth c s₁ B hml hv
  obtain ⟨rfl, hsz, hP, hK, hD0, hSF, hNW⟩ := hv
  have hts := atoms_spec (ws := ws) B.pre
  have hown : s.vm.findClass y.cls = some m.cls := findClass_of_methodNamed B.named
  subst hsz
  have hl := lv_entry av (n := maxL) hlen
  rw [lg_entry_eq]
  exact body p e s m _ below meth c _ _ ⟨B.exec, B.bytes, hml, hown, hts, hK, hNW, fun q hq => Or.inr hq, hSF⟩ B.returns B.notSynchronized (name_of_methodNamed B.named B.method).1 ⟨hP, hD0.self, va_S.rf⟩ hl
end
section
/-! ===== shapes of worlds, small rows (by program) ===== -/
def KF : Nat := 5000
abbrev TY (cI cC cZ : ClassId) (X : List (ClassId × FieldType)) : List (ClassId × FieldType) := (cI, .int) :: (cC, .char) :: (cZ, .boolean) :: X
theorem nn_some {α : Type} (x : α) : ¬ (none : Option α) = some x := fun h => by cases h
theorem r_nch {x : Int32} (h : vp_nar .char x = x) : narrow .char (.int x) = .int x := congrArg Value.int (show x.toUInt32.toUInt16.toUInt32.toInt32 = x from h)
theorem r_fch {x : Int32} (h : vp_nar .char x = x) : fits .char (.int x) = true := by
  have e : x = (x.toUInt32 % 65536).toInt32 := by
    have h1 : x.toUInt32.toUInt16.toUInt32.toInt32 = x := h
    rw [show x.toUInt32.toUInt16.toUInt32 = x.toUInt32 % 65536 from by simp] at h1
    exact h1.symm
  rw [e]
  exact pk_fc x
abbrev wTb (cI : ClassId) (t0 t1 : Nat) (co : Int32) (tn : Nat) (tf : Nat → Int32) : va_W := [(t0, .inr (3, [.int co, .ref t1])), (t1, .inl (cI, tn, .inl tf))]
abbrev wTb2 (cI : ClassId) (t0 t1 o0 o1 : Nat) (co : Int32) (tn : Nat) (tf : Nat → Int32) (oc : Int32) (on : Nat) (of : Nat → Int32) : va_W := [(t0, .inr (3, [.int co, .ref t1])), (t1, .inl (cI, tn, .inl tf)), (o0, .inr (3, [.int oc, .ref o1])), (o1, .inl (cI, on, .inl of))]
abbrev wSt (cI : ClassId) (a0 a1 a2 a3 a4 a5 a6 a7 a8 : Nat) (nu : Nat → Int32) (va : Nat → Int32) (qu : Nat → Int32) (sc : Nat → Int32) (lo : Nat → Int32) (wt : Int32) : va_W := [(a0, .inr (2, [.ref a1, .ref a2, .ref a3, .ref a5, .ref a7, .int wt])), (a1, .inl (cI, 24, .inl nu)), (a2, .inl (cI, 16, .inl va)), (a3, .inr (3, [.int 4, .ref a4])), (a4, .inl (cI, 68, .inl qu)), (a5, .inr (3, [.int 3, .ref a6])), (a6, .inl (cI, 96, .inl sc)), (a7, .inr (3, [.int 4, .ref a8])), (a8, .inl (cI, 32, .inl lo))]
abbrev wSt2 (cI : ClassId) (a0 a1 a2 a3 a4 a5 a6 a7 a8 o0 o1 o2 o3 o4 o5 o6 o7 o8 : Nat) (nu : Nat → Int32) (va : Nat → Int32) (qu : Nat → Int32) (sc : Nat → Int32) (lo : Nat → Int32) (wt : Int32) (onu : Nat → Int32) (ova : Nat → Int32) (oqu : Nat → Int32) (osc : Nat → Int32) (olo : Nat → Int32) (owt : Int32) : va_W := [(a0, .inr (2, [.ref a1, .ref a2, .ref a3, .ref a5, .ref a7, .int wt])), (a1, .inl (cI, 24, .inl nu)), (a2, .inl (cI, 16, .inl va)), (a3, .inr (3, [.int 4, .ref a4])), (a4, .inl (cI, 68, .inl qu)), (a5, .inr (3, [.int 3, .ref a6])), (a6, .inl (cI, 96, .inl sc)), (a7, .inr (3, [.int 4, .ref a8])), (a8, .inl (cI, 32, .inl lo)), (o0, .inr (2, [.ref o1, .ref o2, .ref o3, .ref o5, .ref o7, .int owt])), (o1, .inl (cI, 24, .inl onu)), (o2, .inl (cI, 16, .inl ova)), (o3, .inr (3, [.int 4, .ref o4])), (o4, .inl (cI, 68, .inl oqu)), (o5, .inr (3, [.int 3, .ref o6])), (o6, .inl (cI, 96, .inl osc)), (o7, .inr (3, [.int 4, .ref o8])), (o8, .inl (cI, 32, .inl olo))]
abbrev wPd (cC : ClassId) (p0 p1 : Nat) (ch : Nat → Int32) (pl : Int32) (pa : Int32) (po : Int32) (pf : Int32) (ps : Int32) : va_W := [(p0, .inr (1, [.ref p1, .int pl, .int pa, .int po, .int pf, .int ps])), (p1, .inl (cC, 80, .inl ch))]
abbrev wHi (h0 h1 : Nat) (ho : Int32) (hs : Int32) : va_W := [(h0, .inr (0, [.ref h1, .int ho, .int hs]))]
abbrev wMd (cI : ClassId) (cZ : ClassId) (m0 m1 m2 m3 m4 m5 m6 m7 : Nat) (now : Nat → Int32) (thn : Nat → Int32) (past : Nat → Int32) (kept : Int32) (slt : Nat → Int32) (held : Nat → Int32) (mpad : Nat → Int32) (mpl : Int32) (mat : Int32) (ords : Nat → Int32) (ordn : Int32) : va_W := [(m0, .inr (5, [.ref m1, .ref m2, .ref m3, .int kept, .ref m4, .ref m5, .ref m6, .int mpl, .int mat, .ref m7, .int ordn])), (m1, .inl (cI, 234, .inl now)), (m2, .inl (cI, 234, .inl thn)), (m3, .inl (cI, 1404, .inl past)), (m4, .inl (cI, 468, .inl slt)), (m5, .inl (cZ, 2, .inl held)), (m6, .inl (cI, 80, .inl mpad)), (m7, .inl (cI, 123, .inl ords))]
abbrev wA1 (cI : ClassId) (s0 : Nat) (sf : Nat → Int32) : va_W := [(s0, .inl (cI, 234, .inl sf))]
abbrev wA2 (cI : ClassId) (u0 u1 : Nat) (un : Nat) (uf : Nat → Int32) (vn : Nat) (vf : Nat → Int32) : va_W := [(u0, .inl (cI, un, .inl uf)), (u1, .inl (cI, vn, .inl vf))]
abbrev wLDs (cI : ClassId) (d0 b0 sl h0 p0 a0 a1 a2 a3 a4 a5 a6 a7 a8 : Nat) (nu : Nat → Int32) (va : Nat → Int32) (qu : Nat → Int32) (sc : Nat → Int32) (lo : Nat → Int32) (wt : Int32) : va_W := [(d0, .inr (4, [.ref a0, .ref b0, .ref sl, .ref h0, .ref p0])), (a0, .inr (2, [.ref a1, .ref a2, .ref a3, .ref a5, .ref a7, .int wt])), (a1, .inl (cI, 24, .inl nu)), (a2, .inl (cI, 16, .inl va)), (a3, .inr (3, [.int 4, .ref a4])), (a4, .inl (cI, 68, .inl qu)), (a5, .inr (3, [.int 3, .ref a6])), (a6, .inl (cI, 96, .inl sc)), (a7, .inr (3, [.int 4, .ref a8])), (a8, .inl (cI, 32, .inl lo))]
abbrev wLDt (cI : ClassId) (d0 sl h0 p0 a0 a1 a2 a3 a4 a5 a6 a7 a8 b0 b1 b2 b3 b4 b5 b6 b7 b8 : Nat) (nu : Nat → Int32) (va : Nat → Int32) (qu : Nat → Int32) (sc : Nat → Int32) (lo : Nat → Int32) (wt : Int32) (tnu : Nat → Int32) (tva : Nat → Int32) (tqu : Nat → Int32) (tsc : Nat → Int32) (tlo : Nat → Int32) (twt : Int32) : va_W := [(d0, .inr (4, [.ref a0, .ref b0, .ref sl, .ref h0, .ref p0])), (a0, .inr (2, [.ref a1, .ref a2, .ref a3, .ref a5, .ref a7, .int wt])), (a1, .inl (cI, 24, .inl nu)), (a2, .inl (cI, 16, .inl va)), (a3, .inr (3, [.int 4, .ref a4])), (a4, .inl (cI, 68, .inl qu)), (a5, .inr (3, [.int 3, .ref a6])), (a6, .inl (cI, 96, .inl sc)), (a7, .inr (3, [.int 4, .ref a8])), (a8, .inl (cI, 32, .inl lo)), (b0, .inr (2, [.ref b1, .ref b2, .ref b3, .ref b5, .ref b7, .int twt])), (b1, .inl (cI, 24, .inl tnu)), (b2, .inl (cI, 16, .inl tva)), (b3, .inr (3, [.int 4, .ref b4])), (b4, .inl (cI, 68, .inl tqu)), (b5, .inr (3, [.int 3, .ref b6])), (b6, .inl (cI, 96, .inl tsc)), (b7, .inr (3, [.int 4, .ref b8])), (b8, .inl (cI, 32, .inl tlo))]
abbrev wLDp (cC : ClassId) (d0 a0 b0 sl h0 p0 p1 : Nat) (ch : Nat → Int32) (pl : Int32) (pa : Int32) (po : Int32) (pf : Int32) (ps : Int32) : va_W := [(d0, .inr (4, [.ref a0, .ref b0, .ref sl, .ref h0, .ref p0])), (p0, .inr (1, [.ref p1, .int pl, .int pa, .int po, .int pf, .int ps])), (p1, .inl (cC, 80, .inl ch))]
abbrev wLDsp (cI : ClassId) (cC : ClassId) (d0 b0 sl h0 a0 a1 a2 a3 a4 a5 a6 a7 a8 p0 p1 : Nat) (nu : Nat → Int32) (va : Nat → Int32) (qu : Nat → Int32) (sc : Nat → Int32) (lo : Nat → Int32) (wt : Int32) (ch : Nat → Int32) (pl : Int32) (pa : Int32) (po : Int32) (pf : Int32) (ps : Int32) : va_W := [(d0, .inr (4, [.ref a0, .ref b0, .ref sl, .ref h0, .ref p0])), (a0, .inr (2, [.ref a1, .ref a2, .ref a3, .ref a5, .ref a7, .int wt])), (a1, .inl (cI, 24, .inl nu)), (a2, .inl (cI, 16, .inl va)), (a3, .inr (3, [.int 4, .ref a4])), (a4, .inl (cI, 68, .inl qu)), (a5, .inr (3, [.int 3, .ref a6])), (a6, .inl (cI, 96, .inl sc)), (a7, .inr (3, [.int 4, .ref a8])), (a8, .inl (cI, 32, .inl lo)), (p0, .inr (1, [.ref p1, .int pl, .int pa, .int po, .int pf, .int ps])), (p1, .inl (cC, 80, .inl ch))]
abbrev wLDc (cI : ClassId) (cC : ClassId) (d0 b0 sl a0 a1 a2 a3 a4 a5 a6 a7 a8 p0 p1 h0 h1 : Nat) (nu : Nat → Int32) (va : Nat → Int32) (qu : Nat → Int32) (sc : Nat → Int32) (lo : Nat → Int32) (wt : Int32) (ch : Nat → Int32) (pl : Int32) (pa : Int32) (po : Int32) (pf : Int32) (ps : Int32) (ho : Int32) (hs : Int32) : va_W := [(d0, .inr (4, [.ref a0, .ref b0, .ref sl, .ref h0, .ref p0])), (a0, .inr (2, [.ref a1, .ref a2, .ref a3, .ref a5, .ref a7, .int wt])), (a1, .inl (cI, 24, .inl nu)), (a2, .inl (cI, 16, .inl va)), (a3, .inr (3, [.int 4, .ref a4])), (a4, .inl (cI, 68, .inl qu)), (a5, .inr (3, [.int 3, .ref a6])), (a6, .inl (cI, 96, .inl sc)), (a7, .inr (3, [.int 4, .ref a8])), (a8, .inl (cI, 32, .inl lo)), (p0, .inr (1, [.ref p1, .int pl, .int pa, .int po, .int pf, .int ps])), (p1, .inl (cC, 80, .inl ch)), (h0, .inr (0, [.ref h1, .int ho, .int hs]))]
theorem lkN_2_33 : ("LineDoubler$State", 33, "LineDoubler", "FIRST_SETTINGS", "[I", "LineDoubler") ∈ nwF := by decide +kernel
theorem lkN_4_63 : ("LineDoubler", 63, "LineDoubler$State", "numbers", "[I", "LineDoubler") ∈ nwF := by decide +kernel
theorem lkN_4_71 : ("LineDoubler", 71, "LineDoubler$State", "queue", "LLineDoubler$Table;", "LineDoubler") ∈ nwF := by decide +kernel
theorem lkN_4_83 : ("LineDoubler", 83, "LineDoubler$State", "screen", "LLineDoubler$Table;", "LineDoubler") ∈ nwF := by decide +kernel
theorem lkN_4_91 : ("LineDoubler", 91, "LineDoubler$State", "lost", "LLineDoubler$Table;", "LineDoubler") ∈ nwF := by decide +kernel
theorem lkN_4_108 : ("LineDoubler", 108, "LineDoubler$State", "waitedSum", "I", "LineDoubler") ∈ nwF := by decide +kernel
theorem lkN_4_98 : ("LineDoubler", 98, "LineDoubler$History", "size", "I", "LineDoubler") ∈ nwF := by decide +kernel
theorem lkN_4_94 : ("LineDoubler", 94, "LineDoubler$Pad", "length", "I", "LineDoubler") ∈ nwF := by decide +kernel
theorem lkN_4_136 : ("LineDoubler", 136, "LineDoubler$Pad", "at", "I", "LineDoubler") ∈ nwF := by decide +kernel
theorem lkN_4_158 : ("LineDoubler", 158, "LineDoubler$Pad", "order", "C", "LineDoubler") ∈ nwF := by decide +kernel
theorem lkN_4_162 : ("LineDoubler", 162, "LineDoubler$Pad", "first", "I", "LineDoubler") ∈ nwF := by decide +kernel
theorem lkN_4_165 : ("LineDoubler", 165, "LineDoubler$Pad", "second", "I", "LineDoubler") ∈ nwF := by decide +kernel
theorem lkN_2_58 : ("LineDoubler$State", 58, "LineDoubler", "LEAST_SETTINGS", "[I", "LineDoubler") ∈ nwF := by decide +kernel
theorem lkN_2_61 : ("LineDoubler$State", 61, "LineDoubler", "MOST_SETTINGS", "[I", "LineDoubler") ∈ nwF := by decide +kernel
theorem lkM_4_25 : ("LineDoubler", 25, yX0_init, "LineDoubler") ∈ nwM := by decide +kernel
theorem lkM_4_32 : ("LineDoubler", 32, yX1_init, "LineDoubler") ∈ nwM := by decide +kernel
theorem lkM_0_24 : ("LineDoubler$History", 24, yX4_keepCopy, "LineDoubler") ∈ nwM := by decide +kernel
theorem lkM_2_50 : ("LineDoubler$State", 50, yX4_isWithin, "LineDoubler") ∈ nwM := by decide +kernel
end
section
/-- the mirror of X4_isWithin -/
def fX4_isWithin (x0 : Int32) (x1 : Int32) (x2 : Int32) : Option (Int32) :=
  (if x0 < x1 then
  some (0)
  else
  (if x2 < x0 then
  some (0)
  else
  some (1)))

/-- the mirror of X3_read -/
def fX3_read (co : Int32) (tn : Nat) (tf : Nat → Int32) (x1 : Int32) (x2 : Int32) : Option (Int32) :=
  nm (((x1 * co) + x2)) fun x3_1 =>
  (if x3_1 < 0 then
  some ((-6))
  else
  (if (nI tn) ≤ x3_1 then
  some ((-6))
  else
  chk x3_1 tn fun j_2 =>
  some ((tf j_2))))

/-- the mirror of X3_write -/
def fX3_write (co : Int32) (tn : Nat) (tf : Nat → Int32) (x1 : Int32) (x2 : Int32) (x3 : Int32) : Option ((Nat → Int32)) :=
  nm (((x1 * co) + x2)) fun x4_1 =>
  (if x4_1 < 0 then
  some (tf)
  else
  (if (nI tn) ≤ x4_1 then
  some (tf)
  else
  chk x4_1 tn fun j_2 =>
  nm (upd tf j_2 x3) fun tf_3 =>
  some (tf_3)))

/-- the mirror of X3_removeRow -/
def fX3_removeRow (co : Int32) (tn : Nat) (tf : Nat → Int32) (x1 : Int32) : Option ((Nat → Int32)) :=
  nm ((x1 * co)) fun x2_1 =>
  nm ((x2_1 + co)) fun x3_2 =>
  (if x2_1 < 0 then
  some (tf)
  else
  (if (nI tn) < x3_2 then
  some (tf)
  else
  nm (((nI tn) - x3_2)) fun y_3 =>
  nd (acok x3_2 x2_1 y_3 tn tn) <|
  nm (va_cpy tf tf x3_2.toNatClampNeg x2_1.toNatClampNeg y_3.toNatClampNeg) fun tf_4 =>
  some (tf_4)))

/-- the mirror of X3_copyFrom -/
def fX3_copyFrom (tn : Nat) (tf : Nat → Int32) (on : Nat) (of : Nat → Int32) : Option ((Nat → Int32)) :=
  nm ((if (nI tn) < (nI on) then (nI tn) else (nI on))) fun y_1 =>
  nd (acok (0 : Int32) (0 : Int32) y_1 on tn) <|
  nm (va_cpy of tf (0 : Int32).toNatClampNeg (0 : Int32).toNatClampNeg y_1.toNatClampNeg) fun tf_2 =>
  some (tf_2)

def rm_X4_isWithin : Room := { frames := 0, cells := 0, slots := 0, locals := 0 }
set_option maxHeartbeats 4000000 in
set_option maxRecDepth 100000 in
theorem c_X4_isWithin (l : Launch) (G : va_G) (cI cC cZ : ClassId) (X : List (ClassId × FieldType)) (x0 : Int32) (x1 : Int32) (x2 : Int32) (rv : Int32) (hf : fX4_isWithin x0 x1 x2 = some (rv)) : CT l yX4_isWithin wsX4_isWithin rm_X4_isWithin G (TY cI cC cZ X) [.int x0, .int x1, .int x2] ([] : va_W) (some (.int rv)) ([] : va_W) := by
  refine CT.of (cc := cX4_isWithin) (maxL := 3) (ret := (some .boolean)) RX4 rfl (by decide) rfl (Nat.le_of_ble_eq_true rfl) ?_
  intro p e s m args below meth c A ls C hr hlocks hnm h hl
  have hx := C.hx
  have hb := C.hb
  have hl : lv_has ls 3 [(0, .int x0), (1, .int x1), (2, .int x2)] := hl
  unfold fX4_isWithin at hf
  refine lv_iload_n hx hb dX4_isWithin_0 rfl (lv_at hl 0 rfl) ?_
  refine lv_iload_n hx hb dX4_isWithin_1 rfl (lv_at hl 1 rfl) ?_
  refine lv_icmp_lt (tgt := 14) hx hb dX4_isWithin_2 (by decide) (fun hc => ?_) (fun hc => ?_)
  · replace hf := it_t hf hc
    refine lv_iconst (v := 0) hx hb dX4_isWithin_14 (by decide) ?_
    cases hf
    exact r_zret C h hr hlocks rfl dX4_isWithin_15
  · replace hf := it_f hf hc
    refine lv_iload_n hx hb dX4_isWithin_5 rfl (lv_at hl 0 rfl) ?_
    refine lv_iload_n hx hb dX4_isWithin_6 rfl (lv_at hl 2 rfl) ?_
    refine lv_icmp_gt (tgt := 14) hx hb dX4_isWithin_7 (by decide) (fun hc => ?_) (fun hc => ?_)
    · replace hf := it_t hf hc
      refine lv_iconst (v := 0) hx hb dX4_isWithin_14 (by decide) ?_
      cases hf
      exact r_zret C h hr hlocks rfl dX4_isWithin_15
    · replace hf := it_f hf hc
      refine lv_iconst (v := 1) hx hb dX4_isWithin_10 (by decide) ?_
      refine lv_goto (tgt := 15) hx hb dX4_isWithin_11 (by decide) ?_
      cases hf
      exact r_zret C h hr hlocks rfl dX4_isWithin_15
def rm_X3_read : Room := { frames := 0, cells := 0, slots := 0, locals := 0 }
set_option maxRecDepth 20000 in
theorem lk_X3_read_9 : Cond.fieldLink RX3 9 "LineDoubler$Table" "columns" "I" ∈ wsX3_read := List.mem_of_getElem? (i := 1) (by decide +kernel)
set_option maxRecDepth 20000 in
theorem lk_X3_read_21 : Cond.fieldLink RX3 21 "LineDoubler$Table" "cells" "[I" ∈ wsX3_read := List.mem_of_getElem? (i := 2) (by decide +kernel)
set_option maxRecDepth 20000 in
theorem in_X3_read_X3 : ∀ x ∈ wsX30, x ∈ wsX3_read := mem_r _ [3, 4] (by decide +kernel)
set_option maxHeartbeats 4000000 in
set_option maxRecDepth 100000 in
theorem c_X3_read (l : Launch) (G : va_G) (cI cC cZ : ClassId) (X : List (ClassId × FieldType)) (t0 t1 : Nat) (co : Int32) (tn : Nat) (tf : Nat → Int32) (x1 : Int32) (x2 : Int32) (rv : Int32) (hf : fX3_read co tn tf x1 x2 = some (rv)) : CT l yX3_read wsX3_read rm_X3_read G (TY cI cC cZ X) [.ref t0, .int x1, .int x2] (wTb cI t0 t1 co tn tf) (some (.int rv)) (wTb cI t0 t1 co tn tf) := by
  refine CT.of (cc := cX3_read) (maxL := 4) (ret := (some .int)) RX3 rfl (by decide) rfl (Nat.le_of_ble_eq_true rfl) ?_
  intro p e s m args below meth c A ls C hr hlocks hnm h hl
  have hx := C.hx
  have hb := C.hb
  have hl : lv_has ls 4 [(0, .ref t0), (1, .int x1), (2, .int x2)] := hl
  unfold fX3_read at hf
  refine lv_iload_n hx hb dX3_read_0 rfl (lv_at hl 1 rfl) ?_
  refine lv_aload_n hx hb dX3_read_1 rfl (lv_at hl 0 rfl) ?_
  refine r_get C h 0 0 (ci := 3) (N := 2) (Cn := RX3) (T := TX3) rfl rfl (by decide) in_X3_read_X3 lk_X3_read_9 rfl dX3_read_2 ?_
  refine lv_imul hx hb dX3_read_5 ?_
  refine lv_iload_n hx hb dX3_read_6 rfl (lv_at hl 2 rfl) ?_
  refine lv_iadd hx hb dX3_read_7 ?_
  refine lv_topi (fun x3_1 ex3_1 => ?_)
  replace hf := nm_use hf ex3_1
  refine lv_istore_n (lv' := [(3, .int x3_1), (0, .ref t0), (1, .int x1), (2, .int x2)]) hx hb dX3_read_8 rfl hl (by decide) rfl (fun ls hl => ?_)
  refine lv_iload_n hx hb dX3_read_9 rfl (lv_at hl 0 rfl) ?_
  refine lv_if_lt (tgt := 31) hx hb dX3_read_10 (by decide) (fun hc => ?_) (fun hc => ?_)
  · replace hf := it_t hf hc
    refine lv_bipush (v := (-6)) hx hb dX3_read_31 (by decide) ?_
    cases hf
    exact r_iret C h hr hlocks dX3_read_33
  · replace hf := it_f hf hc
    refine lv_iload_n hx hb dX3_read_13 rfl (lv_at hl 0 rfl) ?_
    refine lv_aload_n hx hb dX3_read_14 rfl (lv_at hl 1 rfl) ?_
    refine r_get C h 0 1 (ci := 3) (N := 2) (Cn := RX3) (T := TX3) rfl rfl (by decide) in_X3_read_X3 lk_X3_read_21 rfl dX3_read_15 ?_
    refine r_alen C h 1 rfl rfl dX3_read_18 ?_
    refine lv_icmp_ge (tgt := 31) hx hb dX3_read_19 (by decide) (fun hc => ?_) (fun hc => ?_)
    · replace hf := it_t hf hc
      refine lv_bipush (v := (-6)) hx hb dX3_read_31 (by decide) ?_
      cases hf
      exact r_iret C h hr hlocks dX3_read_33
    · replace hf := it_f hf hc
      refine lv_aload_n hx hb dX3_read_22 rfl (lv_at hl 1 rfl) ?_
      refine r_get C h 0 1 (ci := 3) (N := 2) (Cn := RX3) (T := TX3) rfl rfl (by decide) in_X3_read_X3 lk_X3_read_21 rfl dX3_read_23 ?_
      refine lv_iload_n hx hb dX3_read_26 rfl (lv_at hl 0 rfl) ?_
      obtain ⟨j_2, hj_2, hf⟩ := chk_use hf
      refine r_ald C h 1 rfl rfl hj_2 dX3_read_27 ?_
      refine lv_goto (tgt := 33) hx hb dX3_read_28 (by decide) ?_
      cases hf
      exact r_iret C h hr hlocks dX3_read_33
def rm_X3_write : Room := { frames := 0, cells := 0, slots := 0, locals := 0 }
set_option maxRecDepth 20000 in
theorem lk_X3_write_9 : Cond.fieldLink RX3 9 "LineDoubler$Table" "columns" "I" ∈ wsX3_write := List.mem_of_getElem? (i := 1) (by decide +kernel)
set_option maxRecDepth 20000 in
theorem lk_X3_write_21 : Cond.fieldLink RX3 21 "LineDoubler$Table" "cells" "[I" ∈ wsX3_write := List.mem_of_getElem? (i := 2) (by decide +kernel)
set_option maxRecDepth 20000 in
theorem in_X3_write_X3 : ∀ x ∈ wsX30, x ∈ wsX3_write := mem_r _ [3, 4] (by decide +kernel)
set_option maxHeartbeats 4000000 in
set_option maxRecDepth 100000 in
theorem c_X3_write (l : Launch) (G : va_G) (cI cC cZ : ClassId) (X : List (ClassId × FieldType)) (t0 t1 : Nat) (co : Int32) (tn : Nat) (tf : Nat → Int32) (x1 : Int32) (x2 : Int32) (x3 : Int32) (tf' : Nat → Int32) (hf : fX3_write co tn tf x1 x2 x3 = some (tf')) : CT l yX3_write wsX3_write rm_X3_write G (TY cI cC cZ X) [.ref t0, .int x1, .int x2, .int x3] (wTb cI t0 t1 co tn tf) none (wTb cI t0 t1 co tn tf') := by
  refine CT.of (cc := cX3_write) (maxL := 5) (ret := none) RX3 rfl (by decide) rfl (Nat.le_of_ble_eq_true rfl) ?_
  intro p e s m args below meth c A ls C hr hlocks hnm h hl
  have hx := C.hx
  have hb := C.hb
  have hl : lv_has ls 5 [(0, .ref t0), (1, .int x1), (2, .int x2), (3, .int x3)] := hl
  unfold fX3_write at hf
  refine lv_iload_n hx hb dX3_write_0 rfl (lv_at hl 1 rfl) ?_
  refine lv_aload_n hx hb dX3_write_1 rfl (lv_at hl 0 rfl) ?_
  refine r_get C h 0 0 (ci := 3) (N := 2) (Cn := RX3) (T := TX3) rfl rfl (by decide) in_X3_write_X3 lk_X3_write_9 rfl dX3_write_2 ?_
  refine lv_imul hx hb dX3_write_5 ?_
  refine lv_iload_n hx hb dX3_write_6 rfl (lv_at hl 2 rfl) ?_
  refine lv_iadd hx hb dX3_write_7 ?_
  refine lv_topi (fun x4_1 ex4_1 => ?_)
  replace hf := nm_use hf ex4_1
  refine lv_istore (lv' := [(4, .int x4_1), (0, .ref t0), (1, .int x1), (2, .int x2), (3, .int x3)]) hx hb dX3_write_8 hl (by decide) rfl (fun ls hl => ?_)
  refine lv_iload hx hb dX3_write_10 (lv_at hl 0 rfl) ?_
  refine lv_if_lt (tgt := 33) hx hb dX3_write_12 (by decide) (fun hc => ?_) (fun hc => ?_)
  · replace hf := it_t hf hc
    cases hf
    exact r_vret C h hr hlocks dX3_write_33
  · replace hf := it_f hf hc
    refine lv_iload hx hb dX3_write_15 (lv_at hl 0 rfl) ?_
    refine lv_aload_n hx hb dX3_write_17 rfl (lv_at hl 1 rfl) ?_
    refine r_get C h 0 1 (ci := 3) (N := 2) (Cn := RX3) (T := TX3) rfl rfl (by decide) in_X3_write_X3 lk_X3_write_21 rfl dX3_write_18 ?_
    refine r_alen C h 1 rfl rfl dX3_write_21 ?_
    refine lv_icmp_ge (tgt := 33) hx hb dX3_write_22 (by decide) (fun hc => ?_) (fun hc => ?_)
    · replace hf := it_t hf hc
      cases hf
      exact r_vret C h hr hlocks dX3_write_33
    · replace hf := it_f hf hc
      refine lv_aload_n hx hb dX3_write_25 rfl (lv_at hl 1 rfl) ?_
      refine r_get C h 0 1 (ci := 3) (N := 2) (Cn := RX3) (T := TX3) rfl rfl (by decide) in_X3_write_X3 lk_X3_write_21 rfl dX3_write_26 ?_
      refine lv_iload hx hb dX3_write_29 (lv_at hl 0 rfl) ?_
      refine lv_iload_n hx hb dX3_write_31 rfl (lv_at hl 4 rfl) ?_
      obtain ⟨j_2, hj_2, hf⟩ := chk_use hf
      refine r_ast C h 1 rfl rfl hj_2 (fun z__ => (wTb cI t0 t1 co tn z__)) (fun _ => rfl) dX3_write_32 (fun tf_3 etf_3 H locs h => ?_)
      replace hf := nm_use hf etf_3
      cases hf
      exact r_vret C h hr hlocks dX3_write_33
def rm_X3_removeRow : Room := { frames := 1, cells := 0, slots := 0, locals := 18 }
set_option maxRecDepth 20000 in
theorem lk_X3_removeRow_9 : Cond.fieldLink RX3 9 "LineDoubler$Table" "columns" "I" ∈ wsX3_removeRow := List.mem_of_getElem? (i := 1) (by decide +kernel)
set_option maxRecDepth 20000 in
theorem lk_X3_removeRow_21 : Cond.fieldLink RX3 21 "LineDoubler$Table" "cells" "[I" ∈ wsX3_removeRow := List.mem_of_getElem? (i := 2) (by decide +kernel)
set_option maxRecDepth 20000 in
theorem lm_X3_removeRow_25 : Cond.methodLink RX3 25 arraycopyName ∈ wsX3_removeRow := List.mem_of_getElem? (i := 3) (by decide +kernel)
set_option maxRecDepth 20000 in
theorem ln_X3_removeRow_ac : Cond.native arraycopyName ∈ wsX3_removeRow := List.mem_of_getElem? (i := 4) (by decide +kernel)
set_option maxRecDepth 20000 in
theorem ls_X3_removeRow_ac : Cond.static arraycopyName ∈ wsX3_removeRow := List.mem_of_getElem? (i := 5) (by decide +kernel)
set_option maxRecDepth 20000 in
theorem li_X3_removeRow_System : Cond.initialized "java/lang/System" ∈ wsX3_removeRow := List.mem_of_getElem? (i := 6) (by decide +kernel)
set_option maxRecDepth 20000 in
theorem in_X3_removeRow_X3 : ∀ x ∈ wsX30, x ∈ wsX3_removeRow := mem_r _ [7, 8] (by decide +kernel)
set_option maxHeartbeats 4000000 in
set_option maxRecDepth 100000 in
theorem c_X3_removeRow (l : Launch) (G : va_G) (cI cC cZ : ClassId) (X : List (ClassId × FieldType)) (t0 t1 : Nat) (co : Int32) (tn : Nat) (tf : Nat → Int32) (x1 : Int32) (tf' : Nat → Int32) (hf : fX3_removeRow co tn tf x1 = some (tf')) : CT l yX3_removeRow wsX3_removeRow rm_X3_removeRow G (TY cI cC cZ X) [.ref t0, .int x1] (wTb cI t0 t1 co tn tf) none (wTb cI t0 t1 co tn tf') := by
  refine CT.of (cc := cX3_removeRow) (maxL := 4) (ret := none) RX3 rfl (by decide) rfl (Nat.le_of_ble_eq_true rfl) ?_
  intro p e s m args below meth c A ls C hr hlocks hnm h hl
  have hx := C.hx
  have hb := C.hb
  have hl : lv_has ls 4 [(0, .ref t0), (1, .int x1)] := hl
  unfold fX3_removeRow at hf
  refine lv_iload_n hx hb dX3_removeRow_0 rfl (lv_at hl 1 rfl) ?_
  refine lv_aload_n hx hb dX3_removeRow_1 rfl (lv_at hl 0 rfl) ?_
  refine r_get C h 0 0 (ci := 3) (N := 2) (Cn := RX3) (T := TX3) rfl rfl (by decide) in_X3_removeRow_X3 lk_X3_removeRow_9 rfl dX3_removeRow_2 ?_
  refine lv_imul hx hb dX3_removeRow_5 ?_
  refine lv_topi (fun x2_1 ex2_1 => ?_)
  replace hf := nm_use hf ex2_1
  refine lv_istore_n (lv' := [(2, .int x2_1), (0, .ref t0), (1, .int x1)]) hx hb dX3_removeRow_6 rfl hl (by decide) rfl (fun ls hl => ?_)
  refine lv_iload_n hx hb dX3_removeRow_7 rfl (lv_at hl 0 rfl) ?_
  refine lv_aload_n hx hb dX3_removeRow_8 rfl (lv_at hl 1 rfl) ?_
  refine r_get C h 0 0 (ci := 3) (N := 2) (Cn := RX3) (T := TX3) rfl rfl (by decide) in_X3_removeRow_X3 lk_X3_removeRow_9 rfl dX3_removeRow_9 ?_
  refine lv_iadd hx hb dX3_removeRow_12 ?_
  refine lv_topi (fun x3_2 ex3_2 => ?_)
  replace hf := nm_use hf ex3_2
  refine lv_istore_n (lv' := [(3, .int x3_2), (2, .int x2_1), (0, .ref t0), (1, .int x1)]) hx hb dX3_removeRow_13 rfl hl (by decide) rfl (fun ls hl => ?_)
  refine lv_iload_n hx hb dX3_removeRow_14 rfl (lv_at hl 1 rfl) ?_
  refine lv_if_lt (tgt := 47) hx hb dX3_removeRow_15 (by decide) (fun hc => ?_) (fun hc => ?_)
  · replace hf := it_t hf hc
    cases hf
    exact r_vret C h hr hlocks dX3_removeRow_47
  · replace hf := it_f hf hc
    refine lv_iload_n hx hb dX3_removeRow_18 rfl (lv_at hl 0 rfl) ?_
    refine lv_aload_n hx hb dX3_removeRow_19 rfl (lv_at hl 2 rfl) ?_
    refine r_get C h 0 1 (ci := 3) (N := 2) (Cn := RX3) (T := TX3) rfl rfl (by decide) in_X3_removeRow_X3 lk_X3_removeRow_21 rfl dX3_removeRow_20 ?_
    refine r_alen C h 1 rfl rfl dX3_removeRow_23 ?_
    refine lv_icmp_gt (tgt := 47) hx hb dX3_removeRow_24 (by decide) (fun hc => ?_) (fun hc => ?_)
    · replace hf := it_t hf hc
      cases hf
      exact r_vret C h hr hlocks dX3_removeRow_47
    · replace hf := it_f hf hc
      refine lv_aload_n hx hb dX3_removeRow_27 rfl (lv_at hl 2 rfl) ?_
      refine r_get C h 0 1 (ci := 3) (N := 2) (Cn := RX3) (T := TX3) rfl rfl (by decide) in_X3_removeRow_X3 lk_X3_removeRow_21 rfl dX3_removeRow_28 ?_
      refine lv_iload_n hx hb dX3_removeRow_31 rfl (lv_at hl 0 rfl) ?_
      refine lv_aload_n hx hb dX3_removeRow_32 rfl (lv_at hl 2 rfl) ?_
      refine r_get C h 0 1 (ci := 3) (N := 2) (Cn := RX3) (T := TX3) rfl rfl (by decide) in_X3_removeRow_X3 lk_X3_removeRow_21 rfl dX3_removeRow_33 ?_
      refine lv_iload_n hx hb dX3_removeRow_36 rfl (lv_at hl 1 rfl) ?_
      refine lv_aload_n hx hb dX3_removeRow_37 rfl (lv_at hl 2 rfl) ?_
      refine r_get C h 0 1 (ci := 3) (N := 2) (Cn := RX3) (T := TX3) rfl rfl (by decide) in_X3_removeRow_X3 lk_X3_removeRow_21 rfl dX3_removeRow_38 ?_
      refine r_alen C h 1 rfl rfl dX3_removeRow_41 ?_
      refine lv_iload_n hx hb dX3_removeRow_42 rfl (lv_at hl 0 rfl) ?_
      refine lv_isub hx hb dX3_removeRow_43 ?_
      refine lv_topi (fun y_3 ey_3 => ?_)
      replace hf := nm_use hf ey_3
      obtain ⟨hk_5, hf⟩ := nd_use hf
      refine r_copy C h hl.1 1 1 rfl rfl rfl hk_5 lm_X3_removeRow_25 ln_X3_removeRow_ac ls_X3_removeRow_ac li_X3_removeRow_System (Nat.le_of_ble_eq_true rfl) (by decide) (fun z__ => (wTb cI t0 t1 co tn z__)) (fun _ => rfl) dX3_removeRow_44 (fun tf_4 etf_4 H locs h => ?_)
      replace hf := nm_use hf etf_4
      cases hf
      exact r_vret C h hr hlocks dX3_removeRow_47
def rm_X3_copyFrom : Room := { frames := 1, cells := 0, slots := 0, locals := 18 }
set_option maxRecDepth 20000 in
theorem lk_X3_copyFrom_21 : Cond.fieldLink RX3 21 "LineDoubler$Table" "cells" "[I" ∈ wsX3_copyFrom := List.mem_of_getElem? (i := 1) (by decide +kernel)
set_option maxRecDepth 20000 in
theorem lm_X3_copyFrom_31 : Cond.methodLink RX3 31 Lib.Math.min.name ∈ wsX3_copyFrom := List.mem_of_getElem? (i := 2) (by decide +kernel)
set_option maxRecDepth 20000 in
theorem ls_X3_copyFrom_min : Cond.static Lib.Math.min.name ∈ wsX3_copyFrom := List.mem_of_getElem? (i := 3) (by decide +kernel)
set_option maxRecDepth 20000 in
theorem li_X3_copyFrom_Math : Cond.initialized "java/lang/Math" ∈ wsX3_copyFrom := List.mem_of_getElem? (i := 4) (by decide +kernel)
set_option maxRecDepth 20000 in
theorem lc_X3_copyFrom_min : Cond.code Lib.Math.min.name Lib.Math.min.code 2 (some .int) ∈ wsX3_copyFrom := List.mem_of_getElem? (i := 5) (by decide +kernel)
set_option maxRecDepth 20000 in
theorem lm_X3_copyFrom_25 : Cond.methodLink RX3 25 arraycopyName ∈ wsX3_copyFrom := List.mem_of_getElem? (i := 6) (by decide +kernel)
set_option maxRecDepth 20000 in
theorem ln_X3_copyFrom_ac : Cond.native arraycopyName ∈ wsX3_copyFrom := List.mem_of_getElem? (i := 7) (by decide +kernel)
set_option maxRecDepth 20000 in
theorem ls_X3_copyFrom_ac : Cond.static arraycopyName ∈ wsX3_copyFrom := List.mem_of_getElem? (i := 8) (by decide +kernel)
set_option maxRecDepth 20000 in
theorem li_X3_copyFrom_System : Cond.initialized "java/lang/System" ∈ wsX3_copyFrom := List.mem_of_getElem? (i := 9) (by decide +kernel)
set_option maxRecDepth 20000 in
theorem in_X3_copyFrom_X3 : ∀ x ∈ wsX30, x ∈ wsX3_copyFrom := mem_r _ [10, 11] (by decide +kernel)
set_option maxHeartbeats 4000000 in
set_option maxRecDepth 100000 in
theorem c_X3_copyFrom (l : Launch) (G : va_G) (cI cC cZ : ClassId) (X : List (ClassId × FieldType)) (t0 t1 o0 o1 : Nat) (co : Int32) (tn : Nat) (tf : Nat → Int32) (oc : Int32) (on : Nat) (of : Nat → Int32) (tf' : Nat → Int32) (hf : fX3_copyFrom tn tf on of = some (tf')) : CT l yX3_copyFrom wsX3_copyFrom rm_X3_copyFrom G (TY cI cC cZ X) [.ref t0, .ref o0] (wTb2 cI t0 t1 o0 o1 co tn tf oc on of) none (wTb2 cI t0 t1 o0 o1 co tn tf' oc on of) := by
  refine CT.of (cc := cX3_copyFrom) (maxL := 2) (ret := none) RX3 rfl (by decide) rfl (Nat.le_of_ble_eq_true rfl) ?_
  intro p e s m args below meth c A ls C hr hlocks hnm h hl
  have hx := C.hx
  have hb := C.hb
  have hl : lv_has ls 2 [(0, .ref t0), (1, .ref o0)] := hl
  unfold fX3_copyFrom at hf
  refine lv_aload_n hx hb dX3_copyFrom_0 rfl (lv_at hl 1 rfl) ?_
  refine r_get C h 2 1 (ci := 3) (N := 2) (Cn := RX3) (T := TX3) rfl rfl (by decide) in_X3_copyFrom_X3 lk_X3_copyFrom_21 rfl dX3_copyFrom_1 ?_
  refine lv_iconst (v := 0) hx hb dX3_copyFrom_4 (by decide) ?_
  refine lv_aload_n hx hb dX3_copyFrom_5 rfl (lv_at hl 0 rfl) ?_
  refine r_get C h 0 1 (ci := 3) (N := 2) (Cn := RX3) (T := TX3) rfl rfl (by decide) in_X3_copyFrom_X3 lk_X3_copyFrom_21 rfl dX3_copyFrom_6 ?_
  refine lv_iconst (v := 0) hx hb dX3_copyFrom_9 (by decide) ?_
  refine lv_aload_n hx hb dX3_copyFrom_10 rfl (lv_at hl 1 rfl) ?_
  refine r_get C h 2 1 (ci := 3) (N := 2) (Cn := RX3) (T := TX3) rfl rfl (by decide) in_X3_copyFrom_X3 lk_X3_copyFrom_21 rfl dX3_copyFrom_11 ?_
  refine r_alen C h 3 rfl rfl dX3_copyFrom_14 ?_
  refine lv_aload_n hx hb dX3_copyFrom_15 rfl (lv_at hl 0 rfl) ?_
  refine r_get C h 0 1 (ci := 3) (N := 2) (Cn := RX3) (T := TX3) rfl rfl (by decide) in_X3_copyFrom_X3 lk_X3_copyFrom_21 rfl dX3_copyFrom_16 ?_
  refine r_alen C h 1 rfl rfl dX3_copyFrom_19 ?_
  refine r_min C hl.1 lm_X3_copyFrom_31 ls_X3_copyFrom_min li_X3_copyFrom_Math lc_X3_copyFrom_min (Nat.le_of_ble_eq_true rfl) (Nat.le_of_ble_eq_true rfl) (Nat.le_of_ble_eq_true rfl) (Nat.le_of_ble_eq_true rfl) dX3_copyFrom_20 ?_
  refine lv_topi (fun y_1 ey_1 => ?_)
  replace hf := nm_use hf ey_1
  obtain ⟨hk_3, hf⟩ := nd_use hf
  refine r_copy C h hl.1 3 1 rfl rfl rfl hk_3 lm_X3_copyFrom_25 ln_X3_copyFrom_ac ls_X3_copyFrom_ac li_X3_copyFrom_System (Nat.le_of_ble_eq_true rfl) (by decide) (fun z__ => (wTb2 cI t0 t1 o0 o1 co tn z__ oc on of)) (fun _ => rfl) dX3_copyFrom_23 (fun tf_2 etf_2 H locs h => ?_)
  replace hf := nm_use hf etf_2
  cases hf
  exact r_vret C h hr hlocks dX3_copyFrom_26
end
