section
-- ===== PART A: goes FIRST, ahead of the names: the tables' words, and 'selects' of the private methods out of them =====
/-- a private method of a class that the tables say can be made, by its rows of tables_1 -/
def lw_okq (q : MethodName × Nat) : Prop := (q.1.cls ≠ "java/lang/invoke/MethodHandle" ∧ q.1.cls ≠ "java/lang/invoke/VarHandle") ∧ Cond.instantiable q.1.cls q.2 ∈ tables_1 ∧ Cond.privateMethod q.1 ∈ tables_1 ∧ Cond.instanceMethod q.1 ∈ tables_1
theorem lw_p0 : lw_okq (⟨"LineDoubler$State", "lineComes", "()V"⟩, 6) := ⟨⟨by decide +kernel, by decide +kernel⟩, List.mem_of_getElem? (i := 17) (by decide +kernel), List.mem_of_getElem? (i := 156) (by decide +kernel), List.mem_of_getElem? (i := 157) (by decide +kernel)⟩
theorem lw_p1 : lw_okq (⟨"LineDoubler$State", "nextLineWaits", "()V"⟩, 6) := ⟨⟨by decide +kernel, by decide +kernel⟩, List.mem_of_getElem? (i := 17) (by decide +kernel), List.mem_of_getElem? (i := 160) (by decide +kernel), List.mem_of_getElem? (i := 161) (by decide +kernel)⟩
theorem lw_p2 : lw_okq (⟨"LineDoubler$State", "firstNotOut", "()I"⟩, 6) := ⟨⟨by decide +kernel, by decide +kernel⟩, List.mem_of_getElem? (i := 17) (by decide +kernel), List.mem_of_getElem? (i := 172) (by decide +kernel), List.mem_of_getElem? (i := 173) (by decide +kernel)⟩
theorem lw_p3 : lw_okq (⟨"LineDoubler$State", "loseWaiting", "(II)V"⟩, 6) := ⟨⟨by decide +kernel, by decide +kernel⟩, List.mem_of_getElem? (i := 17) (by decide +kernel), List.mem_of_getElem? (i := 180) (by decide +kernel), List.mem_of_getElem? (i := 181) (by decide +kernel)⟩
theorem lw_p4 : lw_okq (⟨"LineDoubler$State", "rowGoesOut", "()V"⟩, 6) := ⟨⟨by decide +kernel, by decide +kernel⟩, List.mem_of_getElem? (i := 17) (by decide +kernel), List.mem_of_getElem? (i := 188) (by decide +kernel), List.mem_of_getElem? (i := 189) (by decide +kernel)⟩
theorem lw_p5 : lw_okq (⟨"LineDoubler$State", "skipToPicture", "()V"⟩, 6) := ⟨⟨by decide +kernel, by decide +kernel⟩, List.mem_of_getElem? (i := 17) (by decide +kernel), List.mem_of_getElem? (i := 196) (by decide +kernel), List.mem_of_getElem? (i := 197) (by decide +kernel)⟩
theorem lw_p6 : lw_okq (⟨"LineDoubler$State", "showFirstWaiting", "(I)V"⟩, 6) := ⟨⟨by decide +kernel, by decide +kernel⟩, List.mem_of_getElem? (i := 17) (by decide +kernel), List.mem_of_getElem? (i := 200) (by decide +kernel), List.mem_of_getElem? (i := 201) (by decide +kernel)⟩
theorem lw_p7 : lw_okq (⟨"LineDoubler$State", "showColour", "(I)V"⟩, 6) := ⟨⟨by decide +kernel, by decide +kernel⟩, List.mem_of_getElem? (i := 17) (by decide +kernel), List.mem_of_getElem? (i := 204) (by decide +kernel), List.mem_of_getElem? (i := 205) (by decide +kernel)⟩
theorem lw_p8 : lw_okq (⟨"LineDoubler$State", "judgeScreen", "(I)I"⟩, 6) := ⟨⟨by decide +kernel, by decide +kernel⟩, List.mem_of_getElem? (i := 17) (by decide +kernel), List.mem_of_getElem? (i := 208) (by decide +kernel), List.mem_of_getElem? (i := 209) (by decide +kernel)⟩
theorem lw_p9 : lw_okq (⟨"LineDoubler", "gainOf", "(I)I"⟩, 5) := ⟨⟨by decide +kernel, by decide +kernel⟩, List.mem_of_getElem? (i := 9) (by decide +kernel), List.mem_of_getElem? (i := 228) (by decide +kernel), List.mem_of_getElem? (i := 229) (by decide +kernel)⟩
def lw_privs_1 : List (MethodName × Nat) := [(⟨"LineDoubler$State", "lineComes", "()V"⟩, 6), (⟨"LineDoubler$State", "nextLineWaits", "()V"⟩, 6), (⟨"LineDoubler$State", "firstNotOut", "()I"⟩, 6), (⟨"LineDoubler$State", "loseWaiting", "(II)V"⟩, 6), (⟨"LineDoubler$State", "rowGoesOut", "()V"⟩, 6), (⟨"LineDoubler$State", "skipToPicture", "()V"⟩, 6), (⟨"LineDoubler$State", "showFirstWaiting", "(I)V"⟩, 6), (⟨"LineDoubler$State", "showColour", "(I)V"⟩, 6), (⟨"LineDoubler$State", "judgeScreen", "(I)I"⟩, 6), (⟨"LineDoubler", "gainOf", "(I)I"⟩, 5)]
theorem lw_r1 : ∀ q ∈ lw_privs_1, lw_okq q := List.forall_mem_cons.mpr ⟨lw_p0, List.forall_mem_cons.mpr ⟨lw_p1, List.forall_mem_cons.mpr ⟨lw_p2, List.forall_mem_cons.mpr ⟨lw_p3, List.forall_mem_cons.mpr ⟨lw_p4, List.forall_mem_cons.mpr ⟨lw_p5, List.forall_mem_cons.mpr ⟨lw_p6, List.forall_mem_cons.mpr ⟨lw_p7, List.forall_mem_cons.mpr ⟨lw_p8, List.forall_mem_cons.mpr ⟨lw_p9, fun _ h => absurd h List.not_mem_nil⟩⟩⟩⟩⟩⟩⟩⟩⟩⟩
def lw_privs : List (MethodName × Nat) := lw_privs_1
def lw_tbl : List Cond := k2_sels lw_privs ++ tables_1
theorem lw_privs_ok : ∀ q ∈ lw_privs, lw_okq q := lw_r1
end
section
/-! ===== BEGIN words of one list among another's, by their places ===== -/
theorem goodIn_r {big : List Cond} (ws : List Cond) (ps : List Nat) (hp : ws = ps.filterMap (fun i => big[i]?)) (h : ws.all goodWord = true) : GoodIn big ws := by
  intro w hw
  have h1 := List.all_eq_true.mp h w hw
  rw [hp] at hw
  obtain ⟨i, -, hi⟩ := List.mem_filterMap.mp hw
  have hm : w ∈ big := by first | exact List.mem_of_getElem? hi | exact List.getElem?_mem hi
  exact ⟨hm, good_of_word h1⟩
theorem goodIn_app {big a b : List Cond} (ha : GoodIn big a) (hb : GoodIn big b) : GoodIn big (a ++ b) := fun w h => (List.mem_append.mp h).elim (ha w) (hb w)
theorem goodIn_ca {big a b : List Cond} {c : Cond} (ha : GoodIn big (c :: a)) (hb : GoodIn big b) : GoodIn big (c :: (a ++ b)) := fun w h => (List.mem_cons.mp h).elim (fun e => ha w (List.mem_cons.mpr (Or.inl e))) (fun h => (List.mem_append.mp h).elim (fun h => ha w (List.mem_cons.mpr (Or.inr h))) (hb w))
theorem goodIn_sub {big ws : List Cond} (hm : ∀ w ∈ ws, w ∈ big) (h : ws.all goodWord = true) : GoodIn big ws := fun w hw => ⟨hm w hw, good_of_word (List.all_eq_true.mp h w hw)⟩
/-! ===== END ===== -/

/-! ===== BEGIN printed: names, fields, word lists, decode rows ===== -/
def RX0 : String := "LineDoubler$History"
def TX0 : u_T := fun k => match k with
  | 0 => ("LineDoubler$History", "states", "[LLineDoubler$State;", true)
  | 1 => ("LineDoubler$History", "oldest", "I", false)
  | _ => ("LineDoubler$History", "size", "I", false)
def tyX0 : Nat → FieldType := fun k => match k with
  | 0 => .array (.object "LineDoubler$State")
  | 1 => .int
  | _ => .int
abbrev wsX00 : List Cond := u_ws RX0 TX0 3
theorem nmX0 : ∀ a, a < 3 → ∀ b, b < 3 → a ≠ b → (TX0 a).2.1 ≠ (TX0 b).2.1 := by decide +kernel
theorem tyX0_ok : ∀ k, k < 3 → parseFieldDescriptor (TX0 k).2.2.1 = some (tyX0 k) := by decide +kernel
abbrev cX0_init : ByteArray := prog_2_method_1_code
def yX0_init : MethodName := ⟨RX0, "<init>", "()V"⟩
abbrev cX0_prepare : ByteArray := prog_2_method_2_code
def yX0_prepare : MethodName := ⟨RX0, "prepare", "(LLineDoubler$State;)V"⟩
abbrev cX0_keepIfDone : ByteArray := prog_2_method_3_code
def yX0_keepIfDone : MethodName := ⟨RX0, "keepIfDone", "(I)I"⟩
abbrev cX0_takeLatest : ByteArray := prog_2_method_4_code
def yX0_takeLatest : MethodName := ⟨RX0, "takeLatest", "()LLineDoubler$State;"⟩
def RX1 : String := "LineDoubler$Pad"
def TX1 : u_T := fun k => match k with
  | 0 => ("LineDoubler$Pad", "characters", "[C", true)
  | 1 => ("LineDoubler$Pad", "length", "I", false)
  | 2 => ("LineDoubler$Pad", "at", "I", false)
  | 3 => ("LineDoubler$Pad", "order", "C", false)
  | 4 => ("LineDoubler$Pad", "first", "I", false)
  | _ => ("LineDoubler$Pad", "second", "I", false)
def tyX1 : Nat → FieldType := fun k => match k with
  | 0 => .array .char
  | 1 => .int
  | 2 => .int
  | 3 => .char
  | 4 => .int
  | _ => .int
abbrev wsX10 : List Cond := u_ws RX1 TX1 6
theorem nmX1 : ∀ a, a < 6 → ∀ b, b < 6 → a ≠ b → (TX1 a).2.1 ≠ (TX1 b).2.1 := by decide +kernel
theorem tyX1_ok : ∀ k, k < 6 → parseFieldDescriptor (TX1 k).2.2.1 = some (tyX1 k) := by decide +kernel
abbrev cX1_init : ByteArray := prog_3_method_1_code
def yX1_init : MethodName := ⟨RX1, "<init>", "()V"⟩
def RX2 : String := "LineDoubler$State"
def TX2 : u_T := fun k => match k with
  | 0 => ("LineDoubler$State", "numbers", "[I", true)
  | 1 => ("LineDoubler$State", "values", "[I", true)
  | 2 => ("LineDoubler$State", "queue", "LLineDoubler$Table;", true)
  | 3 => ("LineDoubler$State", "screen", "LLineDoubler$Table;", true)
  | 4 => ("LineDoubler$State", "lost", "LLineDoubler$Table;", true)
  | _ => ("LineDoubler$State", "waitedSum", "I", false)
def tyX2 : Nat → FieldType := fun k => match k with
  | 0 => .array .int
  | 1 => .array .int
  | 2 => .object "LineDoubler$Table"
  | 3 => .object "LineDoubler$Table"
  | 4 => .object "LineDoubler$Table"
  | _ => .int
abbrev wsX20 : List Cond := u_ws RX2 TX2 6
theorem nmX2 : ∀ a, a < 6 → ∀ b, b < 6 → a ≠ b → (TX2 a).2.1 ≠ (TX2 b).2.1 := by decide +kernel
theorem tyX2_ok : ∀ k, k < 6 → parseFieldDescriptor (TX2 k).2.2.1 = some (tyX2 k) := by decide +kernel
abbrev cX2_init : ByteArray := prog_4_method_1_code
def yX2_init : MethodName := ⟨RX2, "<init>", "()V"⟩
abbrev cX2_copyFrom : ByteArray := prog_4_method_2_code
def yX2_copyFrom : MethodName := ⟨RX2, "copyFrom", "(LLineDoubler$State;)V"⟩
abbrev cX2_setting : ByteArray := prog_4_method_3_code
def yX2_setting : MethodName := ⟨RX2, "setting", "(I)I"⟩
abbrev cX2_rowsOfScreen : ByteArray := prog_4_method_4_code
def yX2_rowsOfScreen : MethodName := ⟨RX2, "rowsOfScreen", "()I"⟩
abbrev cX2_changeSetting : ByteArray := prog_4_method_5_code
def yX2_changeSetting : MethodName := ⟨RX2, "changeSetting", "(II)I"⟩
abbrev cX2_changeValue : ByteArray := prog_4_method_6_code
def yX2_changeValue : MethodName := ⟨RX2, "changeValue", "(II)I"⟩
abbrev cX2_delayClock : ByteArray := prog_4_method_7_code
def yX2_delayClock : MethodName := ⟨RX2, "delayClock", "(II)I"⟩
abbrev cX2_passTicks : ByteArray := prog_4_method_8_code
def yX2_passTicks : MethodName := ⟨RX2, "passTicks", "(II)I"⟩
abbrev cX2_skipAll : ByteArray := prog_4_method_9_code
def yX2_skipAll : MethodName := ⟨RX2, "skipAll", "()I"⟩
abbrev cX2_lineComes : ByteArray := prog_4_method_10_code
def yX2_lineComes : MethodName := ⟨RX2, "lineComes", "()V"⟩
abbrev cX2_nextLineWaits : ByteArray := prog_4_method_11_code
def yX2_nextLineWaits : MethodName := ⟨RX2, "nextLineWaits", "()V"⟩
abbrev cX2_firstNotOut : ByteArray := prog_4_method_12_code
def yX2_firstNotOut : MethodName := ⟨RX2, "firstNotOut", "()I"⟩
abbrev cX2_loseWaiting : ByteArray := prog_4_method_13_code
def yX2_loseWaiting : MethodName := ⟨RX2, "loseWaiting", "(II)V"⟩
abbrev cX2_rowGoesOut : ByteArray := prog_4_method_14_code
def yX2_rowGoesOut : MethodName := ⟨RX2, "rowGoesOut", "()V"⟩
abbrev cX2_skipToPicture : ByteArray := prog_4_method_15_code
def yX2_skipToPicture : MethodName := ⟨RX2, "skipToPicture", "()V"⟩
abbrev cX2_showFirstWaiting : ByteArray := prog_4_method_16_code
def yX2_showFirstWaiting : MethodName := ⟨RX2, "showFirstWaiting", "(I)V"⟩
abbrev cX2_showColour : ByteArray := prog_4_method_17_code
def yX2_showColour : MethodName := ⟨RX2, "showColour", "(I)V"⟩
abbrev cX2_judgeScreen : ByteArray := prog_4_method_18_code
def yX2_judgeScreen : MethodName := ⟨RX2, "judgeScreen", "(I)I"⟩
def RX3 : String := "LineDoubler$Table"
def TX3 : u_T := fun k => match k with
  | 0 => ("LineDoubler$Table", "columns", "I", true)
  | _ => ("LineDoubler$Table", "cells", "[I", true)
def tyX3 : Nat → FieldType := fun k => match k with
  | 0 => .int
  | _ => .array .int
abbrev wsX30 : List Cond := u_ws RX3 TX3 2
theorem nmX3 : ∀ a, a < 2 → ∀ b, b < 2 → a ≠ b → (TX3 a).2.1 ≠ (TX3 b).2.1 := by decide +kernel
theorem tyX3_ok : ∀ k, k < 2 → parseFieldDescriptor (TX3 k).2.2.1 = some (tyX3 k) := by decide +kernel
abbrev cX3_init : ByteArray := prog_5_method_1_code
def yX3_init : MethodName := ⟨RX3, "<init>", "(III)V"⟩
abbrev cX3_read : ByteArray := prog_5_method_2_code
def yX3_read : MethodName := ⟨RX3, "read", "(II)I"⟩
abbrev cX3_write : ByteArray := prog_5_method_3_code
def yX3_write : MethodName := ⟨RX3, "write", "(III)V"⟩
abbrev cX3_removeRow : ByteArray := prog_5_method_4_code
def yX3_removeRow : MethodName := ⟨RX3, "removeRow", "(I)V"⟩
abbrev cX3_copyFrom : ByteArray := prog_5_method_5_code
def yX3_copyFrom : MethodName := ⟨RX3, "copyFrom", "(LLineDoubler$Table;)V"⟩
def RX4 : String := "LineDoubler"
def TX4 : u_T := fun k => match k with
  | 0 => ("LineDoubler", "state", "LLineDoubler$State;", true)
  | 1 => ("LineDoubler", "trial", "LLineDoubler$State;", true)
  | 2 => ("LineDoubler", "slots", "[LLineDoubler$State;", true)
  | 3 => ("LineDoubler", "history", "LLineDoubler$History;", true)
  | _ => ("LineDoubler", "pad", "LLineDoubler$Pad;", true)
def tyX4 : Nat → FieldType := fun k => match k with
  | 0 => .object "LineDoubler$State"
  | 1 => .object "LineDoubler$State"
  | 2 => .array (.object "LineDoubler$State")
  | 3 => .object "LineDoubler$History"
  | _ => .object "LineDoubler$Pad"
abbrev wsX40 : List Cond := u_ws RX4 TX4 5
theorem nmX4 : ∀ a, a < 5 → ∀ b, b < 5 → a ≠ b → (TX4 a).2.1 ≠ (TX4 b).2.1 := by decide +kernel
theorem tyX4_ok : ∀ k, k < 5 → parseFieldDescriptor (TX4 k).2.2.1 = some (tyX4 k) := by decide +kernel
abbrev cX4_init : ByteArray := prog_1_method_1_code
def yX4_init : MethodName := ⟨RX4, "<init>", "()V"⟩
abbrev cX4_set : ByteArray := prog_1_method_2_code
def yX4_set : MethodName := ⟨RX4, "set", "(II)I"⟩
abbrev cX4_value : ByteArray := prog_1_method_3_code
def yX4_value : MethodName := ⟨RX4, "value", "(II)I"⟩
abbrev cX4_slip : ByteArray := prog_1_method_4_code
def yX4_slip : MethodName := ⟨RX4, "slip", "(II)I"⟩
abbrev cX4_pass : ByteArray := prog_1_method_5_code
def yX4_pass : MethodName := ⟨RX4, "pass", "(I)I"⟩
abbrev cX4_flush : ByteArray := prog_1_method_6_code
def yX4_flush : MethodName := ⟨RX4, "flush", "()I"⟩
abbrev cX4_waiting : ByteArray := prog_1_method_7_code
def yX4_waiting : MethodName := ⟨RX4, "waiting", "(II)I"⟩
abbrev cX4_row : ByteArray := prog_1_method_8_code
def yX4_row : MethodName := ⟨RX4, "row", "(II)I"⟩
abbrev cX4_ofMissing : ByteArray := prog_1_method_9_code
def yX4_ofMissing : MethodName := ⟨RX4, "ofMissing", "(II)I"⟩
abbrev cX4_count : ByteArray := prog_1_method_10_code
def yX4_count : MethodName := ⟨RX4, "count", "(I)I"⟩
abbrev cX4_shown : ByteArray := prog_1_method_11_code
def yX4_shown : MethodName := ⟨RX4, "shown", "()I"⟩
abbrev cX4_would : ByteArray := prog_1_method_14_code
def yX4_would : MethodName := ⟨RX4, "would", "(II)I"⟩
abbrev cX4_undo : ByteArray := prog_1_method_21_code
def yX4_undo : MethodName := ⟨RX4, "undo", "()I"⟩
abbrev cX4_isWithin : ByteArray := prog_1_method_24_code
def yX4_isWithin : MethodName := ⟨RX4, "isWithin", "(III)Z"⟩
abbrev cX4_keepCopy : ByteArray := prog_1_method_25_code
def yX4_keepCopy : MethodName := ⟨RX4, "keepCopy", "([LLineDoubler$State;ILLineDoubler$State;)V"⟩
abbrev cX4_gainOf : ByteArray := prog_1_method_27_code
def yX4_gainOf : MethodName := ⟨RX4, "gainOf", "(I)I"⟩
def RX5 : String := "LineDoublerModel"
def TX5 : u_T := fun k => match k with
  | _ => ("", "", "", false)
def tyX5 : Nat → FieldType := fun k => match k with
  | _ => .int
abbrev wsX50 : List Cond := u_ws RX5 TX5 0
theorem nmX5 : ∀ a, a < 0 → ∀ b, b < 0 → a ≠ b → (TX5 a).2.1 ≠ (TX5 b).2.1 := by decide +kernel
theorem tyX5_ok : ∀ k, k < 0 → parseFieldDescriptor (TX5 k).2.2.1 = some (tyX5 k) := by decide +kernel
def RJ9 : String := "java/lang/Math"
def TJ9 : u_T := fun k => match k with
  | _ => ("", "", "", false)
def tyJ9 : Nat → FieldType := fun k => match k with
  | _ => .int
abbrev wsJ90 : List Cond := u_ws RJ9 TJ9 0
theorem nmJ9 : ∀ a, a < 0 → ∀ b, b < 0 → a ≠ b → (TJ9 a).2.1 ≠ (TJ9 b).2.1 := by decide +kernel
theorem tyJ9_ok : ∀ k, k < 0 → parseFieldDescriptor (TJ9 k).2.2.1 = some (tyJ9 k) := by decide +kernel
abbrev cJ9_max_7cf53 : ByteArray := prog_8_method_65_code
def yJ9_max_7cf53 : MethodName := ⟨RJ9, "max", "(II)I"⟩
abbrev cJ9_min_7cf53 : ByteArray := prog_8_method_69_code
def yJ9_min_7cf53 : MethodName := ⟨RJ9, "min", "(II)I"⟩
def RJ10 : String := "java/lang/System"
def TJ10 : u_T := fun k => match k with
  | _ => ("", "", "", false)
def tyJ10 : Nat → FieldType := fun k => match k with
  | _ => .int
abbrev wsJ100 : List Cond := u_ws RJ10 TJ10 0
theorem nmJ10 : ∀ a, a < 0 → ∀ b, b < 0 → a ≠ b → (TJ10 a).2.1 ≠ (TJ10 b).2.1 := by decide +kernel
theorem tyJ10_ok : ∀ k, k < 0 → parseFieldDescriptor (TJ10 k).2.2.1 = some (tyJ10 k) := by decide +kernel
def RL : String := "LineDoublerLaw"
abbrev cL_low : ByteArray := method_2_code
def yL_low : MethodName := ⟨RL, "low", "(II)I"⟩
abbrev cL_cell : ByteArray := method_3_code
def yL_cell : MethodName := ⟨RL, "cell", "([II)I"⟩
abbrev cL_lines : ByteArray := method_4_code
def yL_lines : MethodName := ⟨RL, "lines", "(LLineDoubler;)Z"⟩
abbrev cL_rows : ByteArray := method_5_code
def yL_rows : MethodName := ⟨RL, "rows", "(LLineDoubler;)Z"⟩
abbrev cL_act : ByteArray := method_6_code
def yL_act : MethodName := ⟨RL, "act", "(LLineDoubler;[II)I"⟩
abbrev cL_law : ByteArray := code
def yL_law : MethodName := ⟨RL, "law", "([I)Z"⟩
def wsX0_init : List Cond := .code yX0_init cX0_init 1 none :: ([.methodLink RX0 3 objectInit, .instanceMethod objectInit, .code objectInit ⟨#[0xb1]⟩ 1 none, .classLink RX0 11 RX2, .fieldLink RX0 13 "LineDoubler$History" "states" "[LLineDoubler$State;"] ++ wsX00)
def wsX3_init : List Cond := .code yX3_init cX3_init 5 none :: ([.methodLink RX3 3 objectInit, .instanceMethod objectInit, .code objectInit ⟨#[0xb1]⟩ 1 none, .fieldLink RX3 9 "LineDoubler$Table" "columns" "I", .methodLink RX3 15 Lib.Math.max.name, .static Lib.Math.max.name, .initialized "java/lang/Math", .code Lib.Math.max.name Lib.Math.max.code 2 (some .int), .arrayClass .int, .fieldLink RX3 21 "LineDoubler$Table" "cells" "[I"] ++ wsX30)
def wsX2_init : List Cond := .code yX2_init cX2_init 2 none :: ([.methodLink RX2 3 objectInit, .instanceMethod objectInit, .code objectInit ⟨#[0xb1]⟩ 1 none, .arrayClass .int, .fieldLink RX2 9 "LineDoubler$State" "numbers" "[I", .fieldLink RX2 15 "LineDoubler$State" "values" "[I", .classLink RX2 18 RX3, .instantiable RX3 2, .initialized RX3, .fieldLink RX2 23 "LineDoubler$State" "queue" "LLineDoubler$Table;", .fieldLink RX2 27 "LineDoubler$State" "screen" "LLineDoubler$Table;", .fieldLink RX2 30 "LineDoubler$State" "lost" "LLineDoubler$Table;", .methodLink RX2 20 yX3_init, .instanceMethod yX3_init, .code yX3_init cX3_init 5 none, .methodLink RX3 3 objectInit, .fieldLink RX3 9 "LineDoubler$Table" "columns" "I", .methodLink RX3 15 Lib.Math.max.name, .static Lib.Math.max.name, .initialized "java/lang/Math", .code Lib.Math.max.name Lib.Math.max.code 2 (some .int), .fieldLink RX3 21 "LineDoubler$Table" "cells" "[I"] ++ wsX20 ++ wsX30)
def wsX3_copyFrom : List Cond := .code yX3_copyFrom cX3_copyFrom 2 none :: ([.fieldLink RX3 21 "LineDoubler$Table" "cells" "[I", .methodLink RX3 31 Lib.Math.min.name, .static Lib.Math.min.name, .initialized "java/lang/Math", .code Lib.Math.min.name Lib.Math.min.code 2 (some .int), .methodLink RX3 25 arraycopyName, .native arraycopyName, .static arraycopyName, .initialized "java/lang/System"] ++ wsX30)
def wsX2_copyFrom : List Cond := .code yX2_copyFrom cX2_copyFrom 2 none :: ([.fieldLink RX2 9 "LineDoubler$State" "numbers" "[I", .methodLink RX2 36 arraycopyName, .native arraycopyName, .static arraycopyName, .initialized "java/lang/System", .fieldLink RX2 15 "LineDoubler$State" "values" "[I", .fieldLink RX2 23 "LineDoubler$State" "queue" "LLineDoubler$Table;", .fieldLink RX2 27 "LineDoubler$State" "screen" "LLineDoubler$Table;", .fieldLink RX2 30 "LineDoubler$State" "lost" "LLineDoubler$Table;", .fieldLink RX2 46 "LineDoubler$State" "waitedSum" "I", .methodLink RX2 42 yX3_copyFrom, .instanceMethod yX3_copyFrom, .selects RX3 yX3_copyFrom yX3_copyFrom, .initialized RX3, .code yX3_copyFrom cX3_copyFrom 2 none, .fieldLink RX3 21 "LineDoubler$Table" "cells" "[I", .methodLink RX3 31 Lib.Math.min.name, .static Lib.Math.min.name, .initialized "java/lang/Math", .code Lib.Math.min.name Lib.Math.min.code 2 (some .int), .methodLink RX3 25 arraycopyName] ++ wsX20 ++ wsX30)
def wsX4_keepCopy_r1 : List Cond := [Cond.classLink RX4 7 RX2, Cond.instantiable RX2 6, Cond.initialized RX2, Cond.methodLink RX4 9 yX2_init, Cond.instanceMethod yX2_init, Cond.code yX2_init cX2_init 2 none, Cond.methodLink RX2 3 objectInit, Cond.instanceMethod objectInit, Cond.code objectInit ⟨#[0xb1]⟩ 1 none, Cond.arrayClass .int, Cond.fieldLink RX2 9 "LineDoubler$State" "numbers" "[I", Cond.fieldLink RX2 15 "LineDoubler$State" "values" "[I", Cond.classLink RX2 18 RX3, Cond.instantiable RX3 2, Cond.initialized RX3, Cond.fieldLink RX2 23 "LineDoubler$State" "queue" "LLineDoubler$Table;", Cond.fieldLink RX2 27 "LineDoubler$State" "screen" "LLineDoubler$Table;", Cond.fieldLink RX2 30 "LineDoubler$State" "lost" "LLineDoubler$Table;", Cond.methodLink RX2 20 yX3_init, Cond.instanceMethod yX3_init, Cond.code yX3_init cX3_init 5 none, Cond.methodLink RX3 3 objectInit, Cond.fieldLink RX3 9 "LineDoubler$Table" "columns" "I", Cond.methodLink RX3 15 Lib.Math.max.name]
def wsX4_keepCopy_r2 : List Cond := [Cond.static Lib.Math.max.name, Cond.initialized "java/lang/Math", Cond.code Lib.Math.max.name Lib.Math.max.code 2 (some .int), Cond.fieldLink RX3 21 "LineDoubler$Table" "cells" "[I", Cond.methodLink RX4 111 yX2_copyFrom, Cond.instanceMethod yX2_copyFrom, Cond.selects RX2 yX2_copyFrom yX2_copyFrom, Cond.code yX2_copyFrom cX2_copyFrom 2 none, Cond.methodLink RX2 36 arraycopyName, Cond.native arraycopyName, Cond.static arraycopyName, Cond.initialized "java/lang/System", Cond.fieldLink RX2 46 "LineDoubler$State" "waitedSum" "I", Cond.methodLink RX2 42 yX3_copyFrom, Cond.instanceMethod yX3_copyFrom, Cond.selects RX3 yX3_copyFrom yX3_copyFrom, Cond.code yX3_copyFrom cX3_copyFrom 2 none, Cond.methodLink RX3 31 Lib.Math.min.name, Cond.static Lib.Math.min.name, Cond.code Lib.Math.min.name Lib.Math.min.code 2 (some .int), Cond.methodLink RX3 25 arraycopyName]
def wsX4_keepCopy : List Cond := .code yX4_keepCopy cX4_keepCopy 3 none :: ((wsX4_keepCopy_r1 ++ wsX4_keepCopy_r2) ++ wsX20 ++ wsX30)
def wsX0_prepare_r1 : List Cond := [Cond.fieldLink RX0 13 "LineDoubler$History" "states" "[LLineDoubler$State;", Cond.fieldLink RX0 17 "LineDoubler$History" "oldest" "I", Cond.fieldLink RX0 21 "LineDoubler$History" "size" "I", Cond.static yX4_keepCopy, Cond.initialized RX4, Cond.code yX4_keepCopy cX4_keepCopy 3 none, Cond.classLink RX4 7 RX2, Cond.instantiable RX2 6, Cond.initialized RX2, Cond.methodLink RX4 9 yX2_init, Cond.instanceMethod yX2_init, Cond.code yX2_init cX2_init 2 none, Cond.methodLink RX2 3 objectInit, Cond.instanceMethod objectInit, Cond.code objectInit ⟨#[0xb1]⟩ 1 none, Cond.arrayClass .int, Cond.fieldLink RX2 9 "LineDoubler$State" "numbers" "[I", Cond.fieldLink RX2 15 "LineDoubler$State" "values" "[I", Cond.classLink RX2 18 RX3, Cond.instantiable RX3 2, Cond.initialized RX3, Cond.fieldLink RX2 23 "LineDoubler$State" "queue" "LLineDoubler$Table;", Cond.fieldLink RX2 27 "LineDoubler$State" "screen" "LLineDoubler$Table;", Cond.fieldLink RX2 30 "LineDoubler$State" "lost" "LLineDoubler$Table;"]
def wsX0_prepare_r2 : List Cond := [Cond.methodLink RX2 20 yX3_init, Cond.instanceMethod yX3_init, Cond.code yX3_init cX3_init 5 none, Cond.methodLink RX3 3 objectInit, Cond.fieldLink RX3 9 "LineDoubler$Table" "columns" "I", Cond.methodLink RX3 15 Lib.Math.max.name, Cond.static Lib.Math.max.name, Cond.initialized "java/lang/Math", Cond.code Lib.Math.max.name Lib.Math.max.code 2 (some .int), Cond.fieldLink RX3 21 "LineDoubler$Table" "cells" "[I", Cond.methodLink RX4 111 yX2_copyFrom, Cond.instanceMethod yX2_copyFrom, Cond.selects RX2 yX2_copyFrom yX2_copyFrom, Cond.code yX2_copyFrom cX2_copyFrom 2 none, Cond.methodLink RX2 36 arraycopyName, Cond.native arraycopyName, Cond.static arraycopyName, Cond.initialized "java/lang/System", Cond.fieldLink RX2 46 "LineDoubler$State" "waitedSum" "I", Cond.methodLink RX2 42 yX3_copyFrom, Cond.instanceMethod yX3_copyFrom, Cond.selects RX3 yX3_copyFrom yX3_copyFrom, Cond.code yX3_copyFrom cX3_copyFrom 2 none, Cond.methodLink RX3 31 Lib.Math.min.name]
def wsX0_prepare_r3 : List Cond := [Cond.static Lib.Math.min.name, Cond.code Lib.Math.min.name Lib.Math.min.code 2 (some .int), Cond.methodLink RX3 25 arraycopyName]
def wsX0_prepare : List Cond := .code yX0_prepare cX0_prepare 2 none :: ((wsX0_prepare_r1 ++ (wsX0_prepare_r2 ++ wsX0_prepare_r3)) ++ wsX00 ++ wsX20 ++ wsX30)
def wsX0_keepIfDone : List Cond := .code yX0_keepIfDone cX0_keepIfDone 2 (some .int) :: ([.fieldLink RX0 21 "LineDoubler$History" "size" "I", .fieldLink RX0 17 "LineDoubler$History" "oldest" "I"] ++ wsX00)
def wsX0_takeLatest : List Cond := .code yX0_takeLatest cX0_takeLatest 1 (some (.object "LineDoubler$State")) :: ([.fieldLink RX0 21 "LineDoubler$History" "size" "I", .fieldLink RX0 13 "LineDoubler$History" "states" "[LLineDoubler$State;", .fieldLink RX0 17 "LineDoubler$History" "oldest" "I"] ++ wsX00)
def wsX1_init : List Cond := .code yX1_init cX1_init 1 none :: ([.methodLink RX1 3 objectInit, .instanceMethod objectInit, .code objectInit ⟨#[0xb1]⟩ 1 none, .arrayClass .char, .fieldLink RX1 9 "LineDoubler$Pad" "characters" "[C"] ++ wsX10)
def wsX4_isWithin : List Cond := .code yX4_isWithin cX4_isWithin 3 (some .boolean) :: ([])
def wsX2_setting : List Cond := .code yX2_setting cX2_setting 2 (some .int) :: ([.fieldLink RX2 9 "LineDoubler$State" "numbers" "[I", .static yX4_isWithin, .initialized RX4, .code yX4_isWithin cX4_isWithin 3 (some .boolean)] ++ wsX20)
def wsX2_rowsOfScreen : List Cond := .code yX2_rowsOfScreen cX2_rowsOfScreen 1 (some .int) :: ([.methodLink RX2 54 yX2_setting, .instanceMethod yX2_setting, .selects RX2 yX2_setting yX2_setting, .initialized RX2, .code yX2_setting cX2_setting 2 (some .int), .fieldLink RX2 9 "LineDoubler$State" "numbers" "[I", .static yX4_isWithin, .initialized RX4, .code yX4_isWithin cX4_isWithin 3 (some .boolean)] ++ wsX20)
def wsX2_changeSetting : List Cond := .code yX2_changeSetting cX2_changeSetting 4 (some .int) :: ([.fieldLink RX2 9 "LineDoubler$State" "numbers" "[I", .static yX4_isWithin, .initialized RX4, .code yX4_isWithin cX4_isWithin 3 (some .boolean)] ++ wsX20)
def wsX2_changeValue : List Cond := .code yX2_changeValue cX2_changeValue 4 (some .int) :: ([.fieldLink RX2 15 "LineDoubler$State" "values" "[I", .static yX4_isWithin, .initialized RX4, .code yX4_isWithin cX4_isWithin 3 (some .boolean)] ++ wsX20)
def wsX2_delayClock : List Cond := .code yX2_delayClock cX2_delayClock 4 (some .int) :: ([.fieldLink RX2 9 "LineDoubler$State" "numbers" "[I", .static yX4_isWithin, .initialized RX4, .code yX4_isWithin cX4_isWithin 3 (some .boolean)] ++ wsX20)
def wsX3_write : List Cond := .code yX3_write cX3_write 5 none :: ([.fieldLink RX3 9 "LineDoubler$Table" "columns" "I", .fieldLink RX3 21 "LineDoubler$Table" "cells" "[I"] ++ wsX30)
def wsX2_nextLineWaits : List Cond := .code yX2_nextLineWaits cX2_nextLineWaits 5 none :: ([.fieldLink RX2 9 "LineDoubler$State" "numbers" "[I", .fieldLink RX2 15 "LineDoubler$State" "values" "[I", .fieldLink RX2 23 "LineDoubler$State" "queue" "LLineDoubler$Table;", .static yX4_isWithin, .initialized RX4, .code yX4_isWithin cX4_isWithin 3 (some .boolean), .methodLink RX2 54 yX2_setting, .instanceMethod yX2_setting, .selects RX2 yX2_setting yX2_setting, .initialized RX2, .code yX2_setting cX2_setting 2 (some .int), .methodLink RX2 90 yX3_write, .instanceMethod yX3_write, .selects RX3 yX3_write yX3_write, .initialized RX3, .code yX3_write cX3_write 5 none, .fieldLink RX3 9 "LineDoubler$Table" "columns" "I", .fieldLink RX3 21 "LineDoubler$Table" "cells" "[I"] ++ wsX20 ++ wsX30)
def wsX3_read : List Cond := .code yX3_read cX3_read 4 (some .int) :: ([.fieldLink RX3 9 "LineDoubler$Table" "columns" "I", .fieldLink RX3 21 "LineDoubler$Table" "cells" "[I"] ++ wsX30)
def wsX2_firstNotOut : List Cond := .code yX2_firstNotOut cX2_firstNotOut 2 (some .int) :: ([.fieldLink RX2 9 "LineDoubler$State" "numbers" "[I", .fieldLink RX2 23 "LineDoubler$State" "queue" "LLineDoubler$Table;", .methodLink RX2 93 yX3_read, .instanceMethod yX3_read, .selects RX3 yX3_read yX3_read, .initialized RX3, .code yX3_read cX3_read 4 (some .int), .fieldLink RX3 9 "LineDoubler$Table" "columns" "I", .fieldLink RX3 21 "LineDoubler$Table" "cells" "[I"] ++ wsX20 ++ wsX30)
def wsX3_removeRow : List Cond := .code yX3_removeRow cX3_removeRow 4 none :: ([.fieldLink RX3 9 "LineDoubler$Table" "columns" "I", .fieldLink RX3 21 "LineDoubler$Table" "cells" "[I", .methodLink RX3 25 arraycopyName, .native arraycopyName, .static arraycopyName, .initialized "java/lang/System"] ++ wsX30)
def wsX2_loseWaiting : List Cond := .code yX2_loseWaiting cX2_loseWaiting 4 none :: ([.fieldLink RX2 9 "LineDoubler$State" "numbers" "[I", .fieldLink RX2 30 "LineDoubler$State" "lost" "LLineDoubler$Table;", .fieldLink RX2 23 "LineDoubler$State" "queue" "LLineDoubler$Table;", .methodLink RX2 93 yX3_read, .instanceMethod yX3_read, .selects RX3 yX3_read yX3_read, .initialized RX3, .code yX3_read cX3_read 4 (some .int), .fieldLink RX3 9 "LineDoubler$Table" "columns" "I", .fieldLink RX3 21 "LineDoubler$Table" "cells" "[I", .methodLink RX2 90 yX3_write, .instanceMethod yX3_write, .selects RX3 yX3_write yX3_write, .code yX3_write cX3_write 5 none, .methodLink RX2 96 yX3_removeRow, .instanceMethod yX3_removeRow, .selects RX3 yX3_removeRow yX3_removeRow, .code yX3_removeRow cX3_removeRow 4 none, .methodLink RX3 25 arraycopyName, .native arraycopyName, .static arraycopyName, .initialized "java/lang/System"] ++ wsX20 ++ wsX30)
def wsX2_lineComes_r1 : List Cond := [Cond.fieldLink RX2 9 "LineDoubler$State" "numbers" "[I", Cond.methodLink RX2 83 yX2_nextLineWaits, Cond.instanceMethod yX2_nextLineWaits, Cond.selects RX2 yX2_nextLineWaits yX2_nextLineWaits, Cond.initialized RX2, Cond.code yX2_nextLineWaits cX2_nextLineWaits 5 none, Cond.fieldLink RX2 15 "LineDoubler$State" "values" "[I", Cond.fieldLink RX2 23 "LineDoubler$State" "queue" "LLineDoubler$Table;", Cond.static yX4_isWithin, Cond.initialized RX4, Cond.code yX4_isWithin cX4_isWithin 3 (some .boolean), Cond.methodLink RX2 54 yX2_setting, Cond.instanceMethod yX2_setting, Cond.selects RX2 yX2_setting yX2_setting, Cond.code yX2_setting cX2_setting 2 (some .int), Cond.methodLink RX2 90 yX3_write, Cond.instanceMethod yX3_write, Cond.selects RX3 yX3_write yX3_write, Cond.initialized RX3, Cond.code yX3_write cX3_write 5 none, Cond.fieldLink RX3 9 "LineDoubler$Table" "columns" "I", Cond.fieldLink RX3 21 "LineDoubler$Table" "cells" "[I", Cond.methodLink RX2 86 yX2_firstNotOut, Cond.instanceMethod yX2_firstNotOut]
def wsX2_lineComes_r2 : List Cond := [Cond.selects RX2 yX2_firstNotOut yX2_firstNotOut, Cond.code yX2_firstNotOut cX2_firstNotOut 2 (some .int), Cond.methodLink RX2 93 yX3_read, Cond.instanceMethod yX3_read, Cond.selects RX3 yX3_read yX3_read, Cond.code yX3_read cX3_read 4 (some .int), Cond.methodLink RX2 79 yX2_loseWaiting, Cond.instanceMethod yX2_loseWaiting, Cond.selects RX2 yX2_loseWaiting yX2_loseWaiting, Cond.code yX2_loseWaiting cX2_loseWaiting 4 none, Cond.fieldLink RX2 30 "LineDoubler$State" "lost" "LLineDoubler$Table;", Cond.methodLink RX2 96 yX3_removeRow, Cond.instanceMethod yX3_removeRow, Cond.selects RX3 yX3_removeRow yX3_removeRow, Cond.code yX3_removeRow cX3_removeRow 4 none, Cond.methodLink RX3 25 arraycopyName, Cond.native arraycopyName, Cond.static arraycopyName, Cond.initialized "java/lang/System"]
def wsX2_lineComes : List Cond := .code yX2_lineComes cX2_lineComes 3 none :: ((wsX2_lineComes_r1 ++ wsX2_lineComes_r2) ++ wsX20 ++ wsX30)
def wsX2_skipToPicture_r1 : List Cond := [Cond.fieldLink RX2 9 "LineDoubler$State" "numbers" "[I", Cond.fieldLink RX2 23 "LineDoubler$State" "queue" "LLineDoubler$Table;", Cond.methodLink RX2 93 yX3_read, Cond.instanceMethod yX3_read, Cond.selects RX3 yX3_read yX3_read, Cond.initialized RX3, Cond.code yX3_read cX3_read 4 (some .int), Cond.fieldLink RX3 9 "LineDoubler$Table" "columns" "I", Cond.fieldLink RX3 21 "LineDoubler$Table" "cells" "[I", Cond.methodLink RX2 79 yX2_loseWaiting, Cond.instanceMethod yX2_loseWaiting, Cond.selects RX2 yX2_loseWaiting yX2_loseWaiting, Cond.initialized RX2, Cond.code yX2_loseWaiting cX2_loseWaiting 4 none, Cond.fieldLink RX2 30 "LineDoubler$State" "lost" "LLineDoubler$Table;", Cond.methodLink RX2 90 yX3_write, Cond.instanceMethod yX3_write, Cond.selects RX3 yX3_write yX3_write, Cond.code yX3_write cX3_write 5 none, Cond.methodLink RX2 96 yX3_removeRow, Cond.instanceMethod yX3_removeRow, Cond.selects RX3 yX3_removeRow yX3_removeRow, Cond.code yX3_removeRow cX3_removeRow 4 none, Cond.methodLink RX3 25 arraycopyName]
def wsX2_skipToPicture_r2 : List Cond := [Cond.native arraycopyName, Cond.static arraycopyName, Cond.initialized "java/lang/System"]
def wsX2_skipToPicture : List Cond := .code yX2_skipToPicture cX2_skipToPicture 3 none :: ((wsX2_skipToPicture_r1 ++ wsX2_skipToPicture_r2) ++ wsX20 ++ wsX30)
def wsX2_showFirstWaiting : List Cond := .code yX2_showFirstWaiting cX2_showFirstWaiting 2 none :: ([.fieldLink RX2 27 "LineDoubler$State" "screen" "LLineDoubler$Table;", .fieldLink RX2 23 "LineDoubler$State" "queue" "LLineDoubler$Table;", .fieldLink RX2 9 "LineDoubler$State" "numbers" "[I", .methodLink RX2 93 yX3_read, .instanceMethod yX3_read, .selects RX3 yX3_read yX3_read, .initialized RX3, .code yX3_read cX3_read 4 (some .int), .fieldLink RX3 9 "LineDoubler$Table" "columns" "I", .fieldLink RX3 21 "LineDoubler$Table" "cells" "[I", .methodLink RX2 90 yX3_write, .instanceMethod yX3_write, .selects RX3 yX3_write yX3_write, .code yX3_write cX3_write 5 none, .methodLink RX2 96 yX3_removeRow, .instanceMethod yX3_removeRow, .selects RX3 yX3_removeRow yX3_removeRow, .code yX3_removeRow cX3_removeRow 4 none, .methodLink RX3 25 arraycopyName, .native arraycopyName, .static arraycopyName, .initialized "java/lang/System"] ++ wsX20 ++ wsX30)
def wsX2_showColour : List Cond := .code yX2_showColour cX2_showColour 2 none :: ([.fieldLink RX2 27 "LineDoubler$State" "screen" "LLineDoubler$Table;", .fieldLink RX2 9 "LineDoubler$State" "numbers" "[I", .methodLink RX2 54 yX2_setting, .instanceMethod yX2_setting, .selects RX2 yX2_setting yX2_setting, .initialized RX2, .code yX2_setting cX2_setting 2 (some .int), .static yX4_isWithin, .initialized RX4, .code yX4_isWithin cX4_isWithin 3 (some .boolean), .methodLink RX2 90 yX3_write, .instanceMethod yX3_write, .selects RX3 yX3_write yX3_write, .initialized RX3, .code yX3_write cX3_write 5 none, .fieldLink RX3 9 "LineDoubler$Table" "columns" "I", .fieldLink RX3 21 "LineDoubler$Table" "cells" "[I"] ++ wsX20 ++ wsX30)
def wsX2_judgeScreen : List Cond := .code yX2_judgeScreen cX2_judgeScreen 5 (some .int) :: ([.fieldLink RX2 27 "LineDoubler$State" "screen" "LLineDoubler$Table;", .methodLink RX2 93 yX3_read, .instanceMethod yX3_read, .selects RX3 yX3_read yX3_read, .initialized RX3, .code yX3_read cX3_read 4 (some .int), .fieldLink RX3 9 "LineDoubler$Table" "columns" "I", .fieldLink RX3 21 "LineDoubler$Table" "cells" "[I"] ++ wsX20 ++ wsX30)
def wsX2_rowGoesOut_r1 : List Cond := [Cond.fieldLink RX2 9 "LineDoubler$State" "numbers" "[I", Cond.methodLink RX2 100 yX2_rowsOfScreen, Cond.instanceMethod yX2_rowsOfScreen, Cond.selects RX2 yX2_rowsOfScreen yX2_rowsOfScreen, Cond.initialized RX2, Cond.code yX2_rowsOfScreen cX2_rowsOfScreen 1 (some .int), Cond.methodLink RX2 54 yX2_setting, Cond.instanceMethod yX2_setting, Cond.selects RX2 yX2_setting yX2_setting, Cond.code yX2_setting cX2_setting 2 (some .int), Cond.static yX4_isWithin, Cond.initialized RX4, Cond.code yX4_isWithin cX4_isWithin 3 (some .boolean), Cond.methodLink RX2 103 yX2_skipToPicture, Cond.instanceMethod yX2_skipToPicture, Cond.selects RX2 yX2_skipToPicture yX2_skipToPicture, Cond.code yX2_skipToPicture cX2_skipToPicture 3 none, Cond.fieldLink RX2 23 "LineDoubler$State" "queue" "LLineDoubler$Table;", Cond.methodLink RX2 93 yX3_read, Cond.instanceMethod yX3_read, Cond.selects RX3 yX3_read yX3_read, Cond.initialized RX3, Cond.code yX3_read cX3_read 4 (some .int), Cond.fieldLink RX3 9 "LineDoubler$Table" "columns" "I"]
def wsX2_rowGoesOut_r2 : List Cond := [Cond.fieldLink RX3 21 "LineDoubler$Table" "cells" "[I", Cond.methodLink RX2 79 yX2_loseWaiting, Cond.instanceMethod yX2_loseWaiting, Cond.selects RX2 yX2_loseWaiting yX2_loseWaiting, Cond.code yX2_loseWaiting cX2_loseWaiting 4 none, Cond.fieldLink RX2 30 "LineDoubler$State" "lost" "LLineDoubler$Table;", Cond.methodLink RX2 90 yX3_write, Cond.instanceMethod yX3_write, Cond.selects RX3 yX3_write yX3_write, Cond.code yX3_write cX3_write 5 none, Cond.methodLink RX2 96 yX3_removeRow, Cond.instanceMethod yX3_removeRow, Cond.selects RX3 yX3_removeRow yX3_removeRow, Cond.code yX3_removeRow cX3_removeRow 4 none, Cond.methodLink RX3 25 arraycopyName, Cond.native arraycopyName, Cond.static arraycopyName, Cond.initialized "java/lang/System", Cond.methodLink RX2 106 yX2_showFirstWaiting, Cond.instanceMethod yX2_showFirstWaiting, Cond.selects RX2 yX2_showFirstWaiting yX2_showFirstWaiting, Cond.code yX2_showFirstWaiting cX2_showFirstWaiting 2 none, Cond.fieldLink RX2 27 "LineDoubler$State" "screen" "LLineDoubler$Table;", Cond.methodLink RX2 109 yX2_showColour]
def wsX2_rowGoesOut_r3 : List Cond := [Cond.instanceMethod yX2_showColour, Cond.selects RX2 yX2_showColour yX2_showColour, Cond.code yX2_showColour cX2_showColour 2 none, Cond.methodLink RX2 112 yX2_judgeScreen, Cond.instanceMethod yX2_judgeScreen, Cond.selects RX2 yX2_judgeScreen yX2_judgeScreen, Cond.code yX2_judgeScreen cX2_judgeScreen 5 (some .int)]
def wsX2_rowGoesOut : List Cond := .code yX2_rowGoesOut cX2_rowGoesOut 4 none :: ((wsX2_rowGoesOut_r1 ++ (wsX2_rowGoesOut_r2 ++ wsX2_rowGoesOut_r3)) ++ wsX20 ++ wsX30)
def wsX2_passTicks_r1 : List Cond := [Cond.fieldLink RX2 9 "LineDoubler$State" "numbers" "[I", Cond.methodLink RX2 70 Lib.Math.min.name, Cond.static Lib.Math.min.name, Cond.initialized "java/lang/Math", Cond.code Lib.Math.min.name Lib.Math.min.code 2 (some .int), Cond.methodLink RX2 76 Lib.Math.max.name, Cond.static Lib.Math.max.name, Cond.code Lib.Math.max.name Lib.Math.max.code 2 (some .int), Cond.fieldLink RX2 46 "LineDoubler$State" "waitedSum" "I", Cond.static yX4_isWithin, Cond.initialized RX4, Cond.code yX4_isWithin cX4_isWithin 3 (some .boolean), Cond.methodLink RX2 64 yX2_lineComes, Cond.instanceMethod yX2_lineComes, Cond.selects RX2 yX2_lineComes yX2_lineComes, Cond.initialized RX2, Cond.code yX2_lineComes cX2_lineComes 3 none, Cond.methodLink RX2 83 yX2_nextLineWaits, Cond.instanceMethod yX2_nextLineWaits, Cond.selects RX2 yX2_nextLineWaits yX2_nextLineWaits, Cond.code yX2_nextLineWaits cX2_nextLineWaits 5 none, Cond.fieldLink RX2 15 "LineDoubler$State" "values" "[I", Cond.fieldLink RX2 23 "LineDoubler$State" "queue" "LLineDoubler$Table;", Cond.methodLink RX2 54 yX2_setting]
def wsX2_passTicks_r2 : List Cond := [Cond.instanceMethod yX2_setting, Cond.selects RX2 yX2_setting yX2_setting, Cond.code yX2_setting cX2_setting 2 (some .int), Cond.methodLink RX2 90 yX3_write, Cond.instanceMethod yX3_write, Cond.selects RX3 yX3_write yX3_write, Cond.initialized RX3, Cond.code yX3_write cX3_write 5 none, Cond.fieldLink RX3 9 "LineDoubler$Table" "columns" "I", Cond.fieldLink RX3 21 "LineDoubler$Table" "cells" "[I", Cond.methodLink RX2 86 yX2_firstNotOut, Cond.instanceMethod yX2_firstNotOut, Cond.selects RX2 yX2_firstNotOut yX2_firstNotOut, Cond.code yX2_firstNotOut cX2_firstNotOut 2 (some .int), Cond.methodLink RX2 93 yX3_read, Cond.instanceMethod yX3_read, Cond.selects RX3 yX3_read yX3_read, Cond.code yX3_read cX3_read 4 (some .int), Cond.methodLink RX2 79 yX2_loseWaiting, Cond.instanceMethod yX2_loseWaiting, Cond.selects RX2 yX2_loseWaiting yX2_loseWaiting, Cond.code yX2_loseWaiting cX2_loseWaiting 4 none, Cond.fieldLink RX2 30 "LineDoubler$State" "lost" "LLineDoubler$Table;", Cond.methodLink RX2 96 yX3_removeRow]
def wsX2_passTicks_r3 : List Cond := [Cond.instanceMethod yX3_removeRow, Cond.selects RX3 yX3_removeRow yX3_removeRow, Cond.code yX3_removeRow cX3_removeRow 4 none, Cond.methodLink RX3 25 arraycopyName, Cond.native arraycopyName, Cond.static arraycopyName, Cond.initialized "java/lang/System", Cond.methodLink RX2 67 yX2_rowGoesOut, Cond.instanceMethod yX2_rowGoesOut, Cond.selects RX2 yX2_rowGoesOut yX2_rowGoesOut, Cond.code yX2_rowGoesOut cX2_rowGoesOut 4 none, Cond.methodLink RX2 100 yX2_rowsOfScreen, Cond.instanceMethod yX2_rowsOfScreen, Cond.selects RX2 yX2_rowsOfScreen yX2_rowsOfScreen, Cond.code yX2_rowsOfScreen cX2_rowsOfScreen 1 (some .int), Cond.methodLink RX2 103 yX2_skipToPicture, Cond.instanceMethod yX2_skipToPicture, Cond.selects RX2 yX2_skipToPicture yX2_skipToPicture, Cond.code yX2_skipToPicture cX2_skipToPicture 3 none, Cond.methodLink RX2 106 yX2_showFirstWaiting, Cond.instanceMethod yX2_showFirstWaiting, Cond.selects RX2 yX2_showFirstWaiting yX2_showFirstWaiting, Cond.code yX2_showFirstWaiting cX2_showFirstWaiting 2 none, Cond.fieldLink RX2 27 "LineDoubler$State" "screen" "LLineDoubler$Table;"]
def wsX2_passTicks_r4 : List Cond := [Cond.methodLink RX2 109 yX2_showColour, Cond.instanceMethod yX2_showColour, Cond.selects RX2 yX2_showColour yX2_showColour, Cond.code yX2_showColour cX2_showColour 2 none, Cond.methodLink RX2 112 yX2_judgeScreen, Cond.instanceMethod yX2_judgeScreen, Cond.selects RX2 yX2_judgeScreen yX2_judgeScreen, Cond.code yX2_judgeScreen cX2_judgeScreen 5 (some .int)]
def wsX2_passTicks : List Cond := .code yX2_passTicks cX2_passTicks 6 (some .int) :: ((wsX2_passTicks_r1 ++ (wsX2_passTicks_r2 ++ (wsX2_passTicks_r3 ++ wsX2_passTicks_r4))) ++ wsX20 ++ wsX30)
def wsX2_skipAll_r1 : List Cond := [Cond.fieldLink RX2 9 "LineDoubler$State" "numbers" "[I", Cond.methodLink RX2 79 yX2_loseWaiting, Cond.instanceMethod yX2_loseWaiting, Cond.selects RX2 yX2_loseWaiting yX2_loseWaiting, Cond.initialized RX2, Cond.code yX2_loseWaiting cX2_loseWaiting 4 none, Cond.fieldLink RX2 30 "LineDoubler$State" "lost" "LLineDoubler$Table;", Cond.fieldLink RX2 23 "LineDoubler$State" "queue" "LLineDoubler$Table;", Cond.methodLink RX2 93 yX3_read, Cond.instanceMethod yX3_read, Cond.selects RX3 yX3_read yX3_read, Cond.initialized RX3, Cond.code yX3_read cX3_read 4 (some .int), Cond.fieldLink RX3 9 "LineDoubler$Table" "columns" "I", Cond.fieldLink RX3 21 "LineDoubler$Table" "cells" "[I", Cond.methodLink RX2 90 yX3_write, Cond.instanceMethod yX3_write, Cond.selects RX3 yX3_write yX3_write, Cond.code yX3_write cX3_write 5 none, Cond.methodLink RX2 96 yX3_removeRow, Cond.instanceMethod yX3_removeRow, Cond.selects RX3 yX3_removeRow yX3_removeRow, Cond.code yX3_removeRow cX3_removeRow 4 none, Cond.methodLink RX3 25 arraycopyName]
def wsX2_skipAll_r2 : List Cond := [Cond.native arraycopyName, Cond.static arraycopyName, Cond.initialized "java/lang/System"]
def wsX2_skipAll : List Cond := .code yX2_skipAll cX2_skipAll 3 (some .int) :: ((wsX2_skipAll_r1 ++ wsX2_skipAll_r2) ++ wsX20 ++ wsX30)
def wsX4_init_r1 : List Cond := [Cond.methodLink RX4 1 objectInit, Cond.instanceMethod objectInit, Cond.code objectInit ⟨#[0xb1]⟩ 1 none, Cond.classLink RX4 7 RX2, Cond.instantiable RX2 6, Cond.initialized RX2, Cond.fieldLink RX4 10 "LineDoubler" "state" "LLineDoubler$State;", Cond.fieldLink RX4 16 "LineDoubler" "trial" "LLineDoubler$State;", Cond.fieldLink RX4 19 "LineDoubler" "slots" "[LLineDoubler$State;", Cond.classLink RX4 23 RX0, Cond.instantiable RX0 3, Cond.initialized RX0, Cond.fieldLink RX4 26 "LineDoubler" "history" "LLineDoubler$History;", Cond.classLink RX4 30 RX1, Cond.instantiable RX1 6, Cond.initialized RX1, Cond.fieldLink RX4 33 "LineDoubler" "pad" "LLineDoubler$Pad;", Cond.methodLink RX4 9 yX2_init, Cond.instanceMethod yX2_init, Cond.code yX2_init cX2_init 2 none, Cond.methodLink RX2 3 objectInit, Cond.arrayClass .int, Cond.fieldLink RX2 9 "LineDoubler$State" "numbers" "[I", Cond.fieldLink RX2 15 "LineDoubler$State" "values" "[I"]
def wsX4_init_r2 : List Cond := [Cond.classLink RX2 18 RX3, Cond.instantiable RX3 2, Cond.initialized RX3, Cond.fieldLink RX2 23 "LineDoubler$State" "queue" "LLineDoubler$Table;", Cond.fieldLink RX2 27 "LineDoubler$State" "screen" "LLineDoubler$Table;", Cond.fieldLink RX2 30 "LineDoubler$State" "lost" "LLineDoubler$Table;", Cond.methodLink RX2 20 yX3_init, Cond.instanceMethod yX3_init, Cond.code yX3_init cX3_init 5 none, Cond.methodLink RX3 3 objectInit, Cond.fieldLink RX3 9 "LineDoubler$Table" "columns" "I", Cond.methodLink RX3 15 Lib.Math.max.name, Cond.static Lib.Math.max.name, Cond.initialized "java/lang/Math", Cond.code Lib.Math.max.name Lib.Math.max.code 2 (some .int), Cond.fieldLink RX3 21 "LineDoubler$Table" "cells" "[I", Cond.instanceMethod yX0_init, Cond.code yX0_init cX0_init 1 none, Cond.methodLink RX0 3 objectInit, Cond.classLink RX0 11 RX2, Cond.fieldLink RX0 13 "LineDoubler$History" "states" "[LLineDoubler$State;", Cond.instanceMethod yX1_init, Cond.code yX1_init cX1_init 1 none, Cond.methodLink RX1 3 objectInit]
def wsX4_init_r3 : List Cond := [Cond.arrayClass .char, Cond.fieldLink RX1 9 "LineDoubler$Pad" "characters" "[C"]
def wsX4_init : List Cond := .code yX4_init cX4_init 1 none :: ((wsX4_init_r1 ++ (wsX4_init_r2 ++ wsX4_init_r3)) ++ wsX20 ++ wsX40 ++ wsX00 ++ wsX10 ++ wsX30)
def wsX4_set_r1 : List Cond := [Cond.fieldLink RX4 26 "LineDoubler" "history" "LLineDoubler$History;", Cond.fieldLink RX4 10 "LineDoubler" "state" "LLineDoubler$State;", Cond.methodLink RX4 37 yX0_prepare, Cond.instanceMethod yX0_prepare, Cond.selects RX0 yX0_prepare yX0_prepare, Cond.initialized RX0, Cond.code yX0_prepare cX0_prepare 2 none, Cond.fieldLink RX0 13 "LineDoubler$History" "states" "[LLineDoubler$State;", Cond.fieldLink RX0 17 "LineDoubler$History" "oldest" "I", Cond.fieldLink RX0 21 "LineDoubler$History" "size" "I", Cond.static yX4_keepCopy, Cond.initialized RX4, Cond.code yX4_keepCopy cX4_keepCopy 3 none, Cond.classLink RX4 7 RX2, Cond.instantiable RX2 6, Cond.initialized RX2, Cond.methodLink RX4 9 yX2_init, Cond.instanceMethod yX2_init, Cond.code yX2_init cX2_init 2 none, Cond.methodLink RX2 3 objectInit, Cond.instanceMethod objectInit, Cond.code objectInit ⟨#[0xb1]⟩ 1 none, Cond.arrayClass .int, Cond.fieldLink RX2 9 "LineDoubler$State" "numbers" "[I"]
def wsX4_set_r2 : List Cond := [Cond.fieldLink RX2 15 "LineDoubler$State" "values" "[I", Cond.classLink RX2 18 RX3, Cond.instantiable RX3 2, Cond.initialized RX3, Cond.fieldLink RX2 23 "LineDoubler$State" "queue" "LLineDoubler$Table;", Cond.fieldLink RX2 27 "LineDoubler$State" "screen" "LLineDoubler$Table;", Cond.fieldLink RX2 30 "LineDoubler$State" "lost" "LLineDoubler$Table;", Cond.methodLink RX2 20 yX3_init, Cond.instanceMethod yX3_init, Cond.code yX3_init cX3_init 5 none, Cond.methodLink RX3 3 objectInit, Cond.fieldLink RX3 9 "LineDoubler$Table" "columns" "I", Cond.methodLink RX3 15 Lib.Math.max.name, Cond.static Lib.Math.max.name, Cond.initialized "java/lang/Math", Cond.code Lib.Math.max.name Lib.Math.max.code 2 (some .int), Cond.fieldLink RX3 21 "LineDoubler$Table" "cells" "[I", Cond.methodLink RX4 111 yX2_copyFrom, Cond.instanceMethod yX2_copyFrom, Cond.selects RX2 yX2_copyFrom yX2_copyFrom, Cond.code yX2_copyFrom cX2_copyFrom 2 none, Cond.methodLink RX2 36 arraycopyName, Cond.native arraycopyName, Cond.static arraycopyName]
def wsX4_set_r3 : List Cond := [Cond.initialized "java/lang/System", Cond.fieldLink RX2 46 "LineDoubler$State" "waitedSum" "I", Cond.methodLink RX2 42 yX3_copyFrom, Cond.instanceMethod yX3_copyFrom, Cond.selects RX3 yX3_copyFrom yX3_copyFrom, Cond.code yX3_copyFrom cX3_copyFrom 2 none, Cond.methodLink RX3 31 Lib.Math.min.name, Cond.static Lib.Math.min.name, Cond.code Lib.Math.min.name Lib.Math.min.code 2 (some .int), Cond.methodLink RX3 25 arraycopyName, Cond.methodLink RX4 41 yX2_changeSetting, Cond.instanceMethod yX2_changeSetting, Cond.selects RX2 yX2_changeSetting yX2_changeSetting, Cond.code yX2_changeSetting cX2_changeSetting 4 (some .int), Cond.static yX4_isWithin, Cond.code yX4_isWithin cX4_isWithin 3 (some .boolean), Cond.methodLink RX4 45 yX0_keepIfDone, Cond.instanceMethod yX0_keepIfDone, Cond.selects RX0 yX0_keepIfDone yX0_keepIfDone, Cond.code yX0_keepIfDone cX0_keepIfDone 2 (some .int)]
def wsX4_set : List Cond := .code yX4_set cX4_set 3 (some .int) :: ((wsX4_set_r1 ++ (wsX4_set_r2 ++ wsX4_set_r3)) ++ wsX40 ++ wsX00 ++ wsX20 ++ wsX30)
def wsX4_value_r1 : List Cond := [Cond.fieldLink RX4 26 "LineDoubler" "history" "LLineDoubler$History;", Cond.fieldLink RX4 10 "LineDoubler" "state" "LLineDoubler$State;", Cond.methodLink RX4 37 yX0_prepare, Cond.instanceMethod yX0_prepare, Cond.selects RX0 yX0_prepare yX0_prepare, Cond.initialized RX0, Cond.code yX0_prepare cX0_prepare 2 none, Cond.fieldLink RX0 13 "LineDoubler$History" "states" "[LLineDoubler$State;", Cond.fieldLink RX0 17 "LineDoubler$History" "oldest" "I", Cond.fieldLink RX0 21 "LineDoubler$History" "size" "I", Cond.static yX4_keepCopy, Cond.initialized RX4, Cond.code yX4_keepCopy cX4_keepCopy 3 none, Cond.classLink RX4 7 RX2, Cond.instantiable RX2 6, Cond.initialized RX2, Cond.methodLink RX4 9 yX2_init, Cond.instanceMethod yX2_init, Cond.code yX2_init cX2_init 2 none, Cond.methodLink RX2 3 objectInit, Cond.instanceMethod objectInit, Cond.code objectInit ⟨#[0xb1]⟩ 1 none, Cond.arrayClass .int, Cond.fieldLink RX2 9 "LineDoubler$State" "numbers" "[I"]
def wsX4_value_r2 : List Cond := [Cond.fieldLink RX2 15 "LineDoubler$State" "values" "[I", Cond.classLink RX2 18 RX3, Cond.instantiable RX3 2, Cond.initialized RX3, Cond.fieldLink RX2 23 "LineDoubler$State" "queue" "LLineDoubler$Table;", Cond.fieldLink RX2 27 "LineDoubler$State" "screen" "LLineDoubler$Table;", Cond.fieldLink RX2 30 "LineDoubler$State" "lost" "LLineDoubler$Table;", Cond.methodLink RX2 20 yX3_init, Cond.instanceMethod yX3_init, Cond.code yX3_init cX3_init 5 none, Cond.methodLink RX3 3 objectInit, Cond.fieldLink RX3 9 "LineDoubler$Table" "columns" "I", Cond.methodLink RX3 15 Lib.Math.max.name, Cond.static Lib.Math.max.name, Cond.initialized "java/lang/Math", Cond.code Lib.Math.max.name Lib.Math.max.code 2 (some .int), Cond.fieldLink RX3 21 "LineDoubler$Table" "cells" "[I", Cond.methodLink RX4 111 yX2_copyFrom, Cond.instanceMethod yX2_copyFrom, Cond.selects RX2 yX2_copyFrom yX2_copyFrom, Cond.code yX2_copyFrom cX2_copyFrom 2 none, Cond.methodLink RX2 36 arraycopyName, Cond.native arraycopyName, Cond.static arraycopyName]
def wsX4_value_r3 : List Cond := [Cond.initialized "java/lang/System", Cond.fieldLink RX2 46 "LineDoubler$State" "waitedSum" "I", Cond.methodLink RX2 42 yX3_copyFrom, Cond.instanceMethod yX3_copyFrom, Cond.selects RX3 yX3_copyFrom yX3_copyFrom, Cond.code yX3_copyFrom cX3_copyFrom 2 none, Cond.methodLink RX3 31 Lib.Math.min.name, Cond.static Lib.Math.min.name, Cond.code Lib.Math.min.name Lib.Math.min.code 2 (some .int), Cond.methodLink RX3 25 arraycopyName, Cond.methodLink RX4 49 yX2_changeValue, Cond.instanceMethod yX2_changeValue, Cond.selects RX2 yX2_changeValue yX2_changeValue, Cond.code yX2_changeValue cX2_changeValue 4 (some .int), Cond.static yX4_isWithin, Cond.code yX4_isWithin cX4_isWithin 3 (some .boolean), Cond.methodLink RX4 45 yX0_keepIfDone, Cond.instanceMethod yX0_keepIfDone, Cond.selects RX0 yX0_keepIfDone yX0_keepIfDone, Cond.code yX0_keepIfDone cX0_keepIfDone 2 (some .int)]
def wsX4_value : List Cond := .code yX4_value cX4_value 3 (some .int) :: ((wsX4_value_r1 ++ (wsX4_value_r2 ++ wsX4_value_r3)) ++ wsX40 ++ wsX00 ++ wsX20 ++ wsX30)
def wsX4_slip_r1 : List Cond := [Cond.fieldLink RX4 26 "LineDoubler" "history" "LLineDoubler$History;", Cond.fieldLink RX4 10 "LineDoubler" "state" "LLineDoubler$State;", Cond.methodLink RX4 37 yX0_prepare, Cond.instanceMethod yX0_prepare, Cond.selects RX0 yX0_prepare yX0_prepare, Cond.initialized RX0, Cond.code yX0_prepare cX0_prepare 2 none, Cond.fieldLink RX0 13 "LineDoubler$History" "states" "[LLineDoubler$State;", Cond.fieldLink RX0 17 "LineDoubler$History" "oldest" "I", Cond.fieldLink RX0 21 "LineDoubler$History" "size" "I", Cond.static yX4_keepCopy, Cond.initialized RX4, Cond.code yX4_keepCopy cX4_keepCopy 3 none, Cond.classLink RX4 7 RX2, Cond.instantiable RX2 6, Cond.initialized RX2, Cond.methodLink RX4 9 yX2_init, Cond.instanceMethod yX2_init, Cond.code yX2_init cX2_init 2 none, Cond.methodLink RX2 3 objectInit, Cond.instanceMethod objectInit, Cond.code objectInit ⟨#[0xb1]⟩ 1 none, Cond.arrayClass .int, Cond.fieldLink RX2 9 "LineDoubler$State" "numbers" "[I"]
def wsX4_slip_r2 : List Cond := [Cond.fieldLink RX2 15 "LineDoubler$State" "values" "[I", Cond.classLink RX2 18 RX3, Cond.instantiable RX3 2, Cond.initialized RX3, Cond.fieldLink RX2 23 "LineDoubler$State" "queue" "LLineDoubler$Table;", Cond.fieldLink RX2 27 "LineDoubler$State" "screen" "LLineDoubler$Table;", Cond.fieldLink RX2 30 "LineDoubler$State" "lost" "LLineDoubler$Table;", Cond.methodLink RX2 20 yX3_init, Cond.instanceMethod yX3_init, Cond.code yX3_init cX3_init 5 none, Cond.methodLink RX3 3 objectInit, Cond.fieldLink RX3 9 "LineDoubler$Table" "columns" "I", Cond.methodLink RX3 15 Lib.Math.max.name, Cond.static Lib.Math.max.name, Cond.initialized "java/lang/Math", Cond.code Lib.Math.max.name Lib.Math.max.code 2 (some .int), Cond.fieldLink RX3 21 "LineDoubler$Table" "cells" "[I", Cond.methodLink RX4 111 yX2_copyFrom, Cond.instanceMethod yX2_copyFrom, Cond.selects RX2 yX2_copyFrom yX2_copyFrom, Cond.code yX2_copyFrom cX2_copyFrom 2 none, Cond.methodLink RX2 36 arraycopyName, Cond.native arraycopyName, Cond.static arraycopyName]
def wsX4_slip_r3 : List Cond := [Cond.initialized "java/lang/System", Cond.fieldLink RX2 46 "LineDoubler$State" "waitedSum" "I", Cond.methodLink RX2 42 yX3_copyFrom, Cond.instanceMethod yX3_copyFrom, Cond.selects RX3 yX3_copyFrom yX3_copyFrom, Cond.code yX3_copyFrom cX3_copyFrom 2 none, Cond.methodLink RX3 31 Lib.Math.min.name, Cond.static Lib.Math.min.name, Cond.code Lib.Math.min.name Lib.Math.min.code 2 (some .int), Cond.methodLink RX3 25 arraycopyName, Cond.methodLink RX4 52 yX2_delayClock, Cond.instanceMethod yX2_delayClock, Cond.selects RX2 yX2_delayClock yX2_delayClock, Cond.code yX2_delayClock cX2_delayClock 4 (some .int), Cond.static yX4_isWithin, Cond.code yX4_isWithin cX4_isWithin 3 (some .boolean), Cond.methodLink RX4 45 yX0_keepIfDone, Cond.instanceMethod yX0_keepIfDone, Cond.selects RX0 yX0_keepIfDone yX0_keepIfDone, Cond.code yX0_keepIfDone cX0_keepIfDone 2 (some .int)]
def wsX4_slip : List Cond := .code yX4_slip cX4_slip 3 (some .int) :: ((wsX4_slip_r1 ++ (wsX4_slip_r2 ++ wsX4_slip_r3)) ++ wsX40 ++ wsX00 ++ wsX20 ++ wsX30)
def wsX4_pass_r1 : List Cond := [Cond.fieldLink RX4 26 "LineDoubler" "history" "LLineDoubler$History;", Cond.fieldLink RX4 10 "LineDoubler" "state" "LLineDoubler$State;", Cond.constant RX4 55 (99999), Cond.methodLink RX4 37 yX0_prepare, Cond.instanceMethod yX0_prepare, Cond.selects RX0 yX0_prepare yX0_prepare, Cond.initialized RX0, Cond.code yX0_prepare cX0_prepare 2 none, Cond.fieldLink RX0 13 "LineDoubler$History" "states" "[LLineDoubler$State;", Cond.fieldLink RX0 17 "LineDoubler$History" "oldest" "I", Cond.fieldLink RX0 21 "LineDoubler$History" "size" "I", Cond.static yX4_keepCopy, Cond.initialized RX4, Cond.code yX4_keepCopy cX4_keepCopy 3 none, Cond.classLink RX4 7 RX2, Cond.instantiable RX2 6, Cond.initialized RX2, Cond.methodLink RX4 9 yX2_init, Cond.instanceMethod yX2_init, Cond.code yX2_init cX2_init 2 none, Cond.methodLink RX2 3 objectInit, Cond.instanceMethod objectInit, Cond.code objectInit ⟨#[0xb1]⟩ 1 none, Cond.arrayClass .int]
def wsX4_pass_r2 : List Cond := [Cond.fieldLink RX2 9 "LineDoubler$State" "numbers" "[I", Cond.fieldLink RX2 15 "LineDoubler$State" "values" "[I", Cond.classLink RX2 18 RX3, Cond.instantiable RX3 2, Cond.initialized RX3, Cond.fieldLink RX2 23 "LineDoubler$State" "queue" "LLineDoubler$Table;", Cond.fieldLink RX2 27 "LineDoubler$State" "screen" "LLineDoubler$Table;", Cond.fieldLink RX2 30 "LineDoubler$State" "lost" "LLineDoubler$Table;", Cond.methodLink RX2 20 yX3_init, Cond.instanceMethod yX3_init, Cond.code yX3_init cX3_init 5 none, Cond.methodLink RX3 3 objectInit, Cond.fieldLink RX3 9 "LineDoubler$Table" "columns" "I", Cond.methodLink RX3 15 Lib.Math.max.name, Cond.static Lib.Math.max.name, Cond.initialized "java/lang/Math", Cond.code Lib.Math.max.name Lib.Math.max.code 2 (some .int), Cond.fieldLink RX3 21 "LineDoubler$Table" "cells" "[I", Cond.methodLink RX4 111 yX2_copyFrom, Cond.instanceMethod yX2_copyFrom, Cond.selects RX2 yX2_copyFrom yX2_copyFrom, Cond.code yX2_copyFrom cX2_copyFrom 2 none, Cond.methodLink RX2 36 arraycopyName, Cond.native arraycopyName]
def wsX4_pass_r3 : List Cond := [Cond.static arraycopyName, Cond.initialized "java/lang/System", Cond.fieldLink RX2 46 "LineDoubler$State" "waitedSum" "I", Cond.methodLink RX2 42 yX3_copyFrom, Cond.instanceMethod yX3_copyFrom, Cond.selects RX3 yX3_copyFrom yX3_copyFrom, Cond.code yX3_copyFrom cX3_copyFrom 2 none, Cond.methodLink RX3 31 Lib.Math.min.name, Cond.static Lib.Math.min.name, Cond.code Lib.Math.min.name Lib.Math.min.code 2 (some .int), Cond.methodLink RX3 25 arraycopyName, Cond.methodLink RX4 56 yX2_passTicks, Cond.instanceMethod yX2_passTicks, Cond.selects RX2 yX2_passTicks yX2_passTicks, Cond.code yX2_passTicks cX2_passTicks 6 (some .int), Cond.methodLink RX2 70 Lib.Math.min.name, Cond.methodLink RX2 76 Lib.Math.max.name, Cond.static yX4_isWithin, Cond.code yX4_isWithin cX4_isWithin 3 (some .boolean), Cond.methodLink RX2 64 yX2_lineComes, Cond.instanceMethod yX2_lineComes, Cond.selects RX2 yX2_lineComes yX2_lineComes, Cond.code yX2_lineComes cX2_lineComes 3 none, Cond.methodLink RX2 83 yX2_nextLineWaits]
def wsX4_pass_r4 : List Cond := [Cond.instanceMethod yX2_nextLineWaits, Cond.selects RX2 yX2_nextLineWaits yX2_nextLineWaits, Cond.code yX2_nextLineWaits cX2_nextLineWaits 5 none, Cond.methodLink RX2 54 yX2_setting, Cond.instanceMethod yX2_setting, Cond.selects RX2 yX2_setting yX2_setting, Cond.code yX2_setting cX2_setting 2 (some .int), Cond.methodLink RX2 90 yX3_write, Cond.instanceMethod yX3_write, Cond.selects RX3 yX3_write yX3_write, Cond.code yX3_write cX3_write 5 none, Cond.methodLink RX2 86 yX2_firstNotOut, Cond.instanceMethod yX2_firstNotOut, Cond.selects RX2 yX2_firstNotOut yX2_firstNotOut, Cond.code yX2_firstNotOut cX2_firstNotOut 2 (some .int), Cond.methodLink RX2 93 yX3_read, Cond.instanceMethod yX3_read, Cond.selects RX3 yX3_read yX3_read, Cond.code yX3_read cX3_read 4 (some .int), Cond.methodLink RX2 79 yX2_loseWaiting, Cond.instanceMethod yX2_loseWaiting, Cond.selects RX2 yX2_loseWaiting yX2_loseWaiting, Cond.code yX2_loseWaiting cX2_loseWaiting 4 none, Cond.methodLink RX2 96 yX3_removeRow]
def wsX4_pass_r5 : List Cond := [Cond.instanceMethod yX3_removeRow, Cond.selects RX3 yX3_removeRow yX3_removeRow, Cond.code yX3_removeRow cX3_removeRow 4 none, Cond.methodLink RX2 67 yX2_rowGoesOut, Cond.instanceMethod yX2_rowGoesOut, Cond.selects RX2 yX2_rowGoesOut yX2_rowGoesOut, Cond.code yX2_rowGoesOut cX2_rowGoesOut 4 none, Cond.methodLink RX2 100 yX2_rowsOfScreen, Cond.instanceMethod yX2_rowsOfScreen, Cond.selects RX2 yX2_rowsOfScreen yX2_rowsOfScreen, Cond.code yX2_rowsOfScreen cX2_rowsOfScreen 1 (some .int), Cond.methodLink RX2 103 yX2_skipToPicture, Cond.instanceMethod yX2_skipToPicture, Cond.selects RX2 yX2_skipToPicture yX2_skipToPicture, Cond.code yX2_skipToPicture cX2_skipToPicture 3 none, Cond.methodLink RX2 106 yX2_showFirstWaiting, Cond.instanceMethod yX2_showFirstWaiting, Cond.selects RX2 yX2_showFirstWaiting yX2_showFirstWaiting, Cond.code yX2_showFirstWaiting cX2_showFirstWaiting 2 none, Cond.methodLink RX2 109 yX2_showColour, Cond.instanceMethod yX2_showColour, Cond.selects RX2 yX2_showColour yX2_showColour, Cond.code yX2_showColour cX2_showColour 2 none, Cond.methodLink RX2 112 yX2_judgeScreen]
def wsX4_pass_r6 : List Cond := [Cond.instanceMethod yX2_judgeScreen, Cond.selects RX2 yX2_judgeScreen yX2_judgeScreen, Cond.code yX2_judgeScreen cX2_judgeScreen 5 (some .int), Cond.methodLink RX4 45 yX0_keepIfDone, Cond.instanceMethod yX0_keepIfDone, Cond.selects RX0 yX0_keepIfDone yX0_keepIfDone, Cond.code yX0_keepIfDone cX0_keepIfDone 2 (some .int)]
def wsX4_pass : List Cond := .code yX4_pass cX4_pass 2 (some .int) :: ((wsX4_pass_r1 ++ (wsX4_pass_r2 ++ (wsX4_pass_r3 ++ (wsX4_pass_r4 ++ (wsX4_pass_r5 ++ wsX4_pass_r6))))) ++ wsX40 ++ wsX00 ++ wsX20 ++ wsX30)
def wsX4_flush_r1 : List Cond := [Cond.fieldLink RX4 26 "LineDoubler" "history" "LLineDoubler$History;", Cond.fieldLink RX4 10 "LineDoubler" "state" "LLineDoubler$State;", Cond.methodLink RX4 37 yX0_prepare, Cond.instanceMethod yX0_prepare, Cond.selects RX0 yX0_prepare yX0_prepare, Cond.initialized RX0, Cond.code yX0_prepare cX0_prepare 2 none, Cond.fieldLink RX0 13 "LineDoubler$History" "states" "[LLineDoubler$State;", Cond.fieldLink RX0 17 "LineDoubler$History" "oldest" "I", Cond.fieldLink RX0 21 "LineDoubler$History" "size" "I", Cond.static yX4_keepCopy, Cond.initialized RX4, Cond.code yX4_keepCopy cX4_keepCopy 3 none, Cond.classLink RX4 7 RX2, Cond.instantiable RX2 6, Cond.initialized RX2, Cond.methodLink RX4 9 yX2_init, Cond.instanceMethod yX2_init, Cond.code yX2_init cX2_init 2 none, Cond.methodLink RX2 3 objectInit, Cond.instanceMethod objectInit, Cond.code objectInit ⟨#[0xb1]⟩ 1 none, Cond.arrayClass .int, Cond.fieldLink RX2 9 "LineDoubler$State" "numbers" "[I"]
def wsX4_flush_r2 : List Cond := [Cond.fieldLink RX2 15 "LineDoubler$State" "values" "[I", Cond.classLink RX2 18 RX3, Cond.instantiable RX3 2, Cond.initialized RX3, Cond.fieldLink RX2 23 "LineDoubler$State" "queue" "LLineDoubler$Table;", Cond.fieldLink RX2 27 "LineDoubler$State" "screen" "LLineDoubler$Table;", Cond.fieldLink RX2 30 "LineDoubler$State" "lost" "LLineDoubler$Table;", Cond.methodLink RX2 20 yX3_init, Cond.instanceMethod yX3_init, Cond.code yX3_init cX3_init 5 none, Cond.methodLink RX3 3 objectInit, Cond.fieldLink RX3 9 "LineDoubler$Table" "columns" "I", Cond.methodLink RX3 15 Lib.Math.max.name, Cond.static Lib.Math.max.name, Cond.initialized "java/lang/Math", Cond.code Lib.Math.max.name Lib.Math.max.code 2 (some .int), Cond.fieldLink RX3 21 "LineDoubler$Table" "cells" "[I", Cond.methodLink RX4 111 yX2_copyFrom, Cond.instanceMethod yX2_copyFrom, Cond.selects RX2 yX2_copyFrom yX2_copyFrom, Cond.code yX2_copyFrom cX2_copyFrom 2 none, Cond.methodLink RX2 36 arraycopyName, Cond.native arraycopyName, Cond.static arraycopyName]
def wsX4_flush_r3 : List Cond := [Cond.initialized "java/lang/System", Cond.fieldLink RX2 46 "LineDoubler$State" "waitedSum" "I", Cond.methodLink RX2 42 yX3_copyFrom, Cond.instanceMethod yX3_copyFrom, Cond.selects RX3 yX3_copyFrom yX3_copyFrom, Cond.code yX3_copyFrom cX3_copyFrom 2 none, Cond.methodLink RX3 31 Lib.Math.min.name, Cond.static Lib.Math.min.name, Cond.code Lib.Math.min.name Lib.Math.min.code 2 (some .int), Cond.methodLink RX3 25 arraycopyName, Cond.methodLink RX4 59 yX2_skipAll, Cond.instanceMethod yX2_skipAll, Cond.selects RX2 yX2_skipAll yX2_skipAll, Cond.code yX2_skipAll cX2_skipAll 3 (some .int), Cond.methodLink RX2 79 yX2_loseWaiting, Cond.instanceMethod yX2_loseWaiting, Cond.selects RX2 yX2_loseWaiting yX2_loseWaiting, Cond.code yX2_loseWaiting cX2_loseWaiting 4 none, Cond.methodLink RX2 93 yX3_read, Cond.instanceMethod yX3_read, Cond.selects RX3 yX3_read yX3_read, Cond.code yX3_read cX3_read 4 (some .int), Cond.methodLink RX2 90 yX3_write, Cond.instanceMethod yX3_write]
def wsX4_flush_r4 : List Cond := [Cond.selects RX3 yX3_write yX3_write, Cond.code yX3_write cX3_write 5 none, Cond.methodLink RX2 96 yX3_removeRow, Cond.instanceMethod yX3_removeRow, Cond.selects RX3 yX3_removeRow yX3_removeRow, Cond.code yX3_removeRow cX3_removeRow 4 none, Cond.methodLink RX4 45 yX0_keepIfDone, Cond.instanceMethod yX0_keepIfDone, Cond.selects RX0 yX0_keepIfDone yX0_keepIfDone, Cond.code yX0_keepIfDone cX0_keepIfDone 2 (some .int)]
def wsX4_flush : List Cond := .code yX4_flush cX4_flush 1 (some .int) :: ((wsX4_flush_r1 ++ (wsX4_flush_r2 ++ (wsX4_flush_r3 ++ wsX4_flush_r4))) ++ wsX40 ++ wsX00 ++ wsX20 ++ wsX30)
def wsX4_waiting : List Cond := .code yX4_waiting cX4_waiting 3 (some .int) :: ([.fieldLink RX4 10 "LineDoubler" "state" "LLineDoubler$State;", .methodLink RX4 67 yX4_isWithin, .static yX4_isWithin, .initialized RX4, .code yX4_isWithin cX4_isWithin 3 (some .boolean), .methodLink RX4 75 yX3_read, .instanceMethod yX3_read, .selects RX3 yX3_read yX3_read, .initialized RX3, .code yX3_read cX3_read 4 (some .int), .fieldLink RX3 9 "LineDoubler$Table" "columns" "I", .fieldLink RX3 21 "LineDoubler$Table" "cells" "[I"] ++ wsX40 ++ wsX20 ++ wsX30)
def wsX4_row : List Cond := .code yX4_row cX4_row 3 (some .int) :: ([.fieldLink RX4 10 "LineDoubler" "state" "LLineDoubler$State;", .methodLink RX4 80 yX2_rowsOfScreen, .instanceMethod yX2_rowsOfScreen, .selects RX2 yX2_rowsOfScreen yX2_rowsOfScreen, .initialized RX2, .code yX2_rowsOfScreen cX2_rowsOfScreen 1 (some .int), .methodLink RX2 54 yX2_setting, .instanceMethod yX2_setting, .selects RX2 yX2_setting yX2_setting, .code yX2_setting cX2_setting 2 (some .int), .fieldLink RX2 9 "LineDoubler$State" "numbers" "[I", .static yX4_isWithin, .initialized RX4, .code yX4_isWithin cX4_isWithin 3 (some .boolean), .methodLink RX4 67 yX4_isWithin, .methodLink RX4 75 yX3_read, .instanceMethod yX3_read, .selects RX3 yX3_read yX3_read, .initialized RX3, .code yX3_read cX3_read 4 (some .int), .fieldLink RX3 9 "LineDoubler$Table" "columns" "I", .fieldLink RX3 21 "LineDoubler$Table" "cells" "[I"] ++ wsX40 ++ wsX20 ++ wsX30)
def wsX4_ofMissing : List Cond := .code yX4_ofMissing cX4_ofMissing 3 (some .int) :: ([.fieldLink RX4 10 "LineDoubler" "state" "LLineDoubler$State;", .methodLink RX4 86 Lib.Math.min.name, .static Lib.Math.min.name, .initialized "java/lang/Math", .code Lib.Math.min.name Lib.Math.min.code 2 (some .int), .methodLink RX4 67 yX4_isWithin, .static yX4_isWithin, .initialized RX4, .code yX4_isWithin cX4_isWithin 3 (some .boolean), .methodLink RX4 75 yX3_read, .instanceMethod yX3_read, .selects RX3 yX3_read yX3_read, .initialized RX3, .code yX3_read cX3_read 4 (some .int), .fieldLink RX3 9 "LineDoubler$Table" "columns" "I", .fieldLink RX3 21 "LineDoubler$Table" "cells" "[I"] ++ wsX40 ++ wsX20 ++ wsX30)
def wsX4_count : List Cond := .code yX4_count cX4_count 2 (some .int) :: ([.fieldLink RX4 33 "LineDoubler" "pad" "LLineDoubler$Pad;", .fieldLink RX4 26 "LineDoubler" "history" "LLineDoubler$History;", .fieldLink RX4 10 "LineDoubler" "state" "LLineDoubler$State;", .methodLink RX4 67 yX4_isWithin, .static yX4_isWithin, .initialized RX4, .code yX4_isWithin cX4_isWithin 3 (some .boolean)] ++ wsX40 ++ wsX10 ++ wsX00 ++ wsX20)
def wsX4_shown : List Cond := .code yX4_shown cX4_shown 3 (some .int) :: ([.fieldLink RX4 10 "LineDoubler" "state" "LLineDoubler$State;", .methodLink RX4 80 yX2_rowsOfScreen, .instanceMethod yX2_rowsOfScreen, .selects RX2 yX2_rowsOfScreen yX2_rowsOfScreen, .initialized RX2, .code yX2_rowsOfScreen cX2_rowsOfScreen 1 (some .int), .methodLink RX2 54 yX2_setting, .instanceMethod yX2_setting, .selects RX2 yX2_setting yX2_setting, .code yX2_setting cX2_setting 2 (some .int), .fieldLink RX2 9 "LineDoubler$State" "numbers" "[I", .static yX4_isWithin, .initialized RX4, .code yX4_isWithin cX4_isWithin 3 (some .boolean), .methodLink RX4 75 yX3_read, .instanceMethod yX3_read, .selects RX3 yX3_read yX3_read, .initialized RX3, .code yX3_read cX3_read 4 (some .int), .fieldLink RX3 9 "LineDoubler$Table" "columns" "I", .fieldLink RX3 21 "LineDoubler$Table" "cells" "[I"] ++ wsX40 ++ wsX20 ++ wsX30)
def wsX4_gainOf : List Cond := .code yX4_gainOf cX4_gainOf 2 (some .int) :: ([.fieldLink RX4 16 "LineDoubler" "trial" "LLineDoubler$State;", .fieldLink RX4 10 "LineDoubler" "state" "LLineDoubler$State;", .methodLink RX4 67 yX4_isWithin, .static yX4_isWithin, .initialized RX4, .code yX4_isWithin cX4_isWithin 3 (some .boolean)] ++ wsX40 ++ wsX20)
def wsX4_would_r1 : List Cond := [Cond.fieldLink RX4 16 "LineDoubler" "trial" "LLineDoubler$State;", Cond.fieldLink RX4 10 "LineDoubler" "state" "LLineDoubler$State;", Cond.constant RX4 114 (1073741824), Cond.methodLink RX4 67 yX4_isWithin, Cond.static yX4_isWithin, Cond.initialized RX4, Cond.code yX4_isWithin cX4_isWithin 3 (some .boolean), Cond.methodLink RX4 111 yX2_copyFrom, Cond.instanceMethod yX2_copyFrom, Cond.selects RX2 yX2_copyFrom yX2_copyFrom, Cond.initialized RX2, Cond.code yX2_copyFrom cX2_copyFrom 2 none, Cond.fieldLink RX2 9 "LineDoubler$State" "numbers" "[I", Cond.methodLink RX2 36 arraycopyName, Cond.native arraycopyName, Cond.static arraycopyName, Cond.initialized "java/lang/System", Cond.fieldLink RX2 15 "LineDoubler$State" "values" "[I", Cond.fieldLink RX2 23 "LineDoubler$State" "queue" "LLineDoubler$Table;", Cond.fieldLink RX2 27 "LineDoubler$State" "screen" "LLineDoubler$Table;", Cond.fieldLink RX2 30 "LineDoubler$State" "lost" "LLineDoubler$Table;", Cond.fieldLink RX2 46 "LineDoubler$State" "waitedSum" "I", Cond.methodLink RX2 42 yX3_copyFrom, Cond.instanceMethod yX3_copyFrom]
def wsX4_would_r2 : List Cond := [Cond.selects RX3 yX3_copyFrom yX3_copyFrom, Cond.initialized RX3, Cond.code yX3_copyFrom cX3_copyFrom 2 none, Cond.fieldLink RX3 21 "LineDoubler$Table" "cells" "[I", Cond.methodLink RX3 31 Lib.Math.min.name, Cond.static Lib.Math.min.name, Cond.initialized "java/lang/Math", Cond.code Lib.Math.min.name Lib.Math.min.code 2 (some .int), Cond.methodLink RX3 25 arraycopyName, Cond.methodLink RX4 56 yX2_passTicks, Cond.instanceMethod yX2_passTicks, Cond.selects RX2 yX2_passTicks yX2_passTicks, Cond.code yX2_passTicks cX2_passTicks 6 (some .int), Cond.methodLink RX2 70 Lib.Math.min.name, Cond.methodLink RX2 76 Lib.Math.max.name, Cond.static Lib.Math.max.name, Cond.code Lib.Math.max.name Lib.Math.max.code 2 (some .int), Cond.methodLink RX2 64 yX2_lineComes, Cond.instanceMethod yX2_lineComes, Cond.selects RX2 yX2_lineComes yX2_lineComes, Cond.code yX2_lineComes cX2_lineComes 3 none, Cond.methodLink RX2 83 yX2_nextLineWaits, Cond.instanceMethod yX2_nextLineWaits, Cond.selects RX2 yX2_nextLineWaits yX2_nextLineWaits]
def wsX4_would_r3 : List Cond := [Cond.code yX2_nextLineWaits cX2_nextLineWaits 5 none, Cond.methodLink RX2 54 yX2_setting, Cond.instanceMethod yX2_setting, Cond.selects RX2 yX2_setting yX2_setting, Cond.code yX2_setting cX2_setting 2 (some .int), Cond.methodLink RX2 90 yX3_write, Cond.instanceMethod yX3_write, Cond.selects RX3 yX3_write yX3_write, Cond.code yX3_write cX3_write 5 none, Cond.fieldLink RX3 9 "LineDoubler$Table" "columns" "I", Cond.methodLink RX2 86 yX2_firstNotOut, Cond.instanceMethod yX2_firstNotOut, Cond.selects RX2 yX2_firstNotOut yX2_firstNotOut, Cond.code yX2_firstNotOut cX2_firstNotOut 2 (some .int), Cond.methodLink RX2 93 yX3_read, Cond.instanceMethod yX3_read, Cond.selects RX3 yX3_read yX3_read, Cond.code yX3_read cX3_read 4 (some .int), Cond.methodLink RX2 79 yX2_loseWaiting, Cond.instanceMethod yX2_loseWaiting, Cond.selects RX2 yX2_loseWaiting yX2_loseWaiting, Cond.code yX2_loseWaiting cX2_loseWaiting 4 none, Cond.methodLink RX2 96 yX3_removeRow, Cond.instanceMethod yX3_removeRow]
def wsX4_would_r4 : List Cond := [Cond.selects RX3 yX3_removeRow yX3_removeRow, Cond.code yX3_removeRow cX3_removeRow 4 none, Cond.methodLink RX2 67 yX2_rowGoesOut, Cond.instanceMethod yX2_rowGoesOut, Cond.selects RX2 yX2_rowGoesOut yX2_rowGoesOut, Cond.code yX2_rowGoesOut cX2_rowGoesOut 4 none, Cond.methodLink RX2 100 yX2_rowsOfScreen, Cond.instanceMethod yX2_rowsOfScreen, Cond.selects RX2 yX2_rowsOfScreen yX2_rowsOfScreen, Cond.code yX2_rowsOfScreen cX2_rowsOfScreen 1 (some .int), Cond.methodLink RX2 103 yX2_skipToPicture, Cond.instanceMethod yX2_skipToPicture, Cond.selects RX2 yX2_skipToPicture yX2_skipToPicture, Cond.code yX2_skipToPicture cX2_skipToPicture 3 none, Cond.methodLink RX2 106 yX2_showFirstWaiting, Cond.instanceMethod yX2_showFirstWaiting, Cond.selects RX2 yX2_showFirstWaiting yX2_showFirstWaiting, Cond.code yX2_showFirstWaiting cX2_showFirstWaiting 2 none, Cond.methodLink RX2 109 yX2_showColour, Cond.instanceMethod yX2_showColour, Cond.selects RX2 yX2_showColour yX2_showColour, Cond.code yX2_showColour cX2_showColour 2 none, Cond.methodLink RX2 112 yX2_judgeScreen, Cond.instanceMethod yX2_judgeScreen]
def wsX4_would_r5 : List Cond := [Cond.selects RX2 yX2_judgeScreen yX2_judgeScreen, Cond.code yX2_judgeScreen cX2_judgeScreen 5 (some .int), Cond.methodLink RX4 115 yX4_gainOf, Cond.instanceMethod yX4_gainOf, Cond.selects RX4 yX4_gainOf yX4_gainOf, Cond.code yX4_gainOf cX4_gainOf 2 (some .int)]
def wsX4_would : List Cond := .code yX4_would cX4_would 3 (some .int) :: ((wsX4_would_r1 ++ (wsX4_would_r2 ++ (wsX4_would_r3 ++ (wsX4_would_r4 ++ wsX4_would_r5)))) ++ wsX40 ++ wsX20 ++ wsX30)
def wsX4_undo_r1 : List Cond := [Cond.fieldLink RX4 26 "LineDoubler" "history" "LLineDoubler$History;", Cond.fieldLink RX4 10 "LineDoubler" "state" "LLineDoubler$State;", Cond.methodLink RX4 150 yX0_takeLatest, Cond.instanceMethod yX0_takeLatest, Cond.selects RX0 yX0_takeLatest yX0_takeLatest, Cond.initialized RX0, Cond.code yX0_takeLatest cX0_takeLatest 1 (some (.object "LineDoubler$State")), Cond.fieldLink RX0 21 "LineDoubler$History" "size" "I", Cond.fieldLink RX0 13 "LineDoubler$History" "states" "[LLineDoubler$State;", Cond.fieldLink RX0 17 "LineDoubler$History" "oldest" "I", Cond.methodLink RX4 111 yX2_copyFrom, Cond.instanceMethod yX2_copyFrom, Cond.selects RX2 yX2_copyFrom yX2_copyFrom, Cond.initialized RX2, Cond.code yX2_copyFrom cX2_copyFrom 2 none, Cond.fieldLink RX2 9 "LineDoubler$State" "numbers" "[I", Cond.methodLink RX2 36 arraycopyName, Cond.native arraycopyName, Cond.static arraycopyName, Cond.initialized "java/lang/System", Cond.fieldLink RX2 15 "LineDoubler$State" "values" "[I", Cond.fieldLink RX2 23 "LineDoubler$State" "queue" "LLineDoubler$Table;", Cond.fieldLink RX2 27 "LineDoubler$State" "screen" "LLineDoubler$Table;", Cond.fieldLink RX2 30 "LineDoubler$State" "lost" "LLineDoubler$Table;"]
def wsX4_undo_r2 : List Cond := [Cond.fieldLink RX2 46 "LineDoubler$State" "waitedSum" "I", Cond.methodLink RX2 42 yX3_copyFrom, Cond.instanceMethod yX3_copyFrom, Cond.selects RX3 yX3_copyFrom yX3_copyFrom, Cond.initialized RX3, Cond.code yX3_copyFrom cX3_copyFrom 2 none, Cond.fieldLink RX3 21 "LineDoubler$Table" "cells" "[I", Cond.methodLink RX3 31 Lib.Math.min.name, Cond.static Lib.Math.min.name, Cond.initialized "java/lang/Math", Cond.code Lib.Math.min.name Lib.Math.min.code 2 (some .int), Cond.methodLink RX3 25 arraycopyName]
def wsX4_undo : List Cond := .code yX4_undo cX4_undo 2 (some .int) :: ((wsX4_undo_r1 ++ wsX4_undo_r2) ++ wsX40 ++ wsX00 ++ wsX20 ++ wsX30)
def wsJ9_max_7cf53 : List Cond := .code yJ9_max_7cf53 cJ9_max_7cf53 2 (some .int) :: ([])
def wsJ9_min_7cf53 : List Cond := .code yJ9_min_7cf53 cJ9_min_7cf53 2 (some .int) :: ([])
def wsL_low : List Cond := .code yL_low cL_low 2 (some .int) :: ([.constant RL 7 (2147483647)])
def wsL_cell : List Cond := .code yL_cell cL_cell 2 (some .int) :: ([.constant RL 8 (40503)])
def wsL_lines : List Cond := .code yL_lines cL_lines 5 (some .boolean) :: ([.methodLink RL 9 yX4_count, .instanceMethod yX4_count, .selects RX4 yX4_count yX4_count, .initialized RX4, .code yX4_count cX4_count 2 (some .int), .fieldLink RX4 33 "LineDoubler" "pad" "LLineDoubler$Pad;", .fieldLink RX4 26 "LineDoubler" "history" "LLineDoubler$History;", .fieldLink RX4 10 "LineDoubler" "state" "LLineDoubler$State;", .methodLink RX4 67 yX4_isWithin, .static yX4_isWithin, .code yX4_isWithin cX4_isWithin 3 (some .boolean), .methodLink RL 15 yX4_waiting, .instanceMethod yX4_waiting, .selects RX4 yX4_waiting yX4_waiting, .code yX4_waiting cX4_waiting 3 (some .int), .methodLink RX4 75 yX3_read, .instanceMethod yX3_read, .selects RX3 yX3_read yX3_read, .initialized RX3, .code yX3_read cX3_read 4 (some .int), .fieldLink RX3 9 "LineDoubler$Table" "columns" "I", .fieldLink RX3 21 "LineDoubler$Table" "cells" "[I"] ++ wsX40 ++ wsX10 ++ wsX00 ++ wsX20 ++ wsX30)
def wsL_rows_r1 : List Cond := [Cond.methodLink RL 9 yX4_count, Cond.instanceMethod yX4_count, Cond.selects RX4 yX4_count yX4_count, Cond.initialized RX4, Cond.code yX4_count cX4_count 2 (some .int), Cond.fieldLink RX4 33 "LineDoubler" "pad" "LLineDoubler$Pad;", Cond.fieldLink RX4 26 "LineDoubler" "history" "LLineDoubler$History;", Cond.fieldLink RX4 10 "LineDoubler" "state" "LLineDoubler$State;", Cond.methodLink RX4 67 yX4_isWithin, Cond.static yX4_isWithin, Cond.code yX4_isWithin cX4_isWithin 3 (some .boolean), Cond.methodLink RL 15 yX4_waiting, Cond.instanceMethod yX4_waiting, Cond.selects RX4 yX4_waiting yX4_waiting, Cond.code yX4_waiting cX4_waiting 3 (some .int), Cond.methodLink RX4 75 yX3_read, Cond.instanceMethod yX3_read, Cond.selects RX3 yX3_read yX3_read, Cond.initialized RX3, Cond.code yX3_read cX3_read 4 (some .int), Cond.fieldLink RX3 9 "LineDoubler$Table" "columns" "I", Cond.fieldLink RX3 21 "LineDoubler$Table" "cells" "[I", Cond.methodLink RL 19 yX4_row, Cond.instanceMethod yX4_row]
def wsL_rows_r2 : List Cond := [Cond.selects RX4 yX4_row yX4_row, Cond.code yX4_row cX4_row 3 (some .int), Cond.methodLink RX4 80 yX2_rowsOfScreen, Cond.instanceMethod yX2_rowsOfScreen, Cond.selects RX2 yX2_rowsOfScreen yX2_rowsOfScreen, Cond.initialized RX2, Cond.code yX2_rowsOfScreen cX2_rowsOfScreen 1 (some .int), Cond.methodLink RX2 54 yX2_setting, Cond.instanceMethod yX2_setting, Cond.selects RX2 yX2_setting yX2_setting, Cond.code yX2_setting cX2_setting 2 (some .int), Cond.fieldLink RX2 9 "LineDoubler$State" "numbers" "[I", Cond.methodLink RL 22 yX4_ofMissing, Cond.instanceMethod yX4_ofMissing, Cond.selects RX4 yX4_ofMissing yX4_ofMissing, Cond.code yX4_ofMissing cX4_ofMissing 3 (some .int), Cond.methodLink RX4 86 Lib.Math.min.name, Cond.static Lib.Math.min.name, Cond.initialized "java/lang/Math", Cond.code Lib.Math.min.name Lib.Math.min.code 2 (some .int), Cond.methodLink RL 25 yX4_shown, Cond.instanceMethod yX4_shown, Cond.selects RX4 yX4_shown yX4_shown, Cond.code yX4_shown cX4_shown 3 (some .int)]
def wsL_rows : List Cond := .code yL_rows cL_rows 11 (some .boolean) :: ((wsL_rows_r1 ++ wsL_rows_r2) ++ wsX40 ++ wsX10 ++ wsX00 ++ wsX20 ++ wsX30)
def wsL_act_r1 : List Cond := [Cond.methodLink RL 29 yL_cell, Cond.static yL_cell, Cond.initialized RL, Cond.code yL_cell cL_cell 2 (some .int), Cond.constant RL 8 (40503), Cond.methodLink RL 35 yL_low, Cond.static yL_low, Cond.code yL_low cL_low 2 (some .int), Cond.constant RL 7 (2147483647), Cond.methodLink RL 38 yX4_set, Cond.instanceMethod yX4_set, Cond.selects RX4 yX4_set yX4_set, Cond.initialized RX4, Cond.code yX4_set cX4_set 3 (some .int), Cond.fieldLink RX4 26 "LineDoubler" "history" "LLineDoubler$History;", Cond.fieldLink RX4 10 "LineDoubler" "state" "LLineDoubler$State;", Cond.methodLink RX4 37 yX0_prepare, Cond.instanceMethod yX0_prepare, Cond.selects RX0 yX0_prepare yX0_prepare, Cond.initialized RX0, Cond.code yX0_prepare cX0_prepare 2 none, Cond.fieldLink RX0 13 "LineDoubler$History" "states" "[LLineDoubler$State;", Cond.fieldLink RX0 17 "LineDoubler$History" "oldest" "I", Cond.fieldLink RX0 21 "LineDoubler$History" "size" "I"]
def wsL_act_r2 : List Cond := [Cond.static yX4_keepCopy, Cond.code yX4_keepCopy cX4_keepCopy 3 none, Cond.classLink RX4 7 RX2, Cond.instantiable RX2 6, Cond.initialized RX2, Cond.methodLink RX4 9 yX2_init, Cond.instanceMethod yX2_init, Cond.code yX2_init cX2_init 2 none, Cond.methodLink RX2 3 objectInit, Cond.instanceMethod objectInit, Cond.code objectInit ⟨#[0xb1]⟩ 1 none, Cond.arrayClass .int, Cond.fieldLink RX2 9 "LineDoubler$State" "numbers" "[I", Cond.fieldLink RX2 15 "LineDoubler$State" "values" "[I", Cond.classLink RX2 18 RX3, Cond.instantiable RX3 2, Cond.initialized RX3, Cond.fieldLink RX2 23 "LineDoubler$State" "queue" "LLineDoubler$Table;", Cond.fieldLink RX2 27 "LineDoubler$State" "screen" "LLineDoubler$Table;", Cond.fieldLink RX2 30 "LineDoubler$State" "lost" "LLineDoubler$Table;", Cond.methodLink RX2 20 yX3_init, Cond.instanceMethod yX3_init, Cond.code yX3_init cX3_init 5 none, Cond.methodLink RX3 3 objectInit]
def wsL_act_r3 : List Cond := [Cond.fieldLink RX3 9 "LineDoubler$Table" "columns" "I", Cond.methodLink RX3 15 Lib.Math.max.name, Cond.static Lib.Math.max.name, Cond.initialized "java/lang/Math", Cond.code Lib.Math.max.name Lib.Math.max.code 2 (some .int), Cond.fieldLink RX3 21 "LineDoubler$Table" "cells" "[I", Cond.methodLink RX4 111 yX2_copyFrom, Cond.instanceMethod yX2_copyFrom, Cond.selects RX2 yX2_copyFrom yX2_copyFrom, Cond.code yX2_copyFrom cX2_copyFrom 2 none, Cond.methodLink RX2 36 arraycopyName, Cond.native arraycopyName, Cond.static arraycopyName, Cond.initialized "java/lang/System", Cond.fieldLink RX2 46 "LineDoubler$State" "waitedSum" "I", Cond.methodLink RX2 42 yX3_copyFrom, Cond.instanceMethod yX3_copyFrom, Cond.selects RX3 yX3_copyFrom yX3_copyFrom, Cond.code yX3_copyFrom cX3_copyFrom 2 none, Cond.methodLink RX3 31 Lib.Math.min.name, Cond.static Lib.Math.min.name, Cond.code Lib.Math.min.name Lib.Math.min.code 2 (some .int), Cond.methodLink RX3 25 arraycopyName, Cond.methodLink RX4 41 yX2_changeSetting]
def wsL_act_r4 : List Cond := [Cond.instanceMethod yX2_changeSetting, Cond.selects RX2 yX2_changeSetting yX2_changeSetting, Cond.code yX2_changeSetting cX2_changeSetting 4 (some .int), Cond.static yX4_isWithin, Cond.code yX4_isWithin cX4_isWithin 3 (some .boolean), Cond.methodLink RX4 45 yX0_keepIfDone, Cond.instanceMethod yX0_keepIfDone, Cond.selects RX0 yX0_keepIfDone yX0_keepIfDone, Cond.code yX0_keepIfDone cX0_keepIfDone 2 (some .int), Cond.methodLink RL 41 yX4_value, Cond.instanceMethod yX4_value, Cond.selects RX4 yX4_value yX4_value, Cond.code yX4_value cX4_value 3 (some .int), Cond.methodLink RX4 49 yX2_changeValue, Cond.instanceMethod yX2_changeValue, Cond.selects RX2 yX2_changeValue yX2_changeValue, Cond.code yX2_changeValue cX2_changeValue 4 (some .int), Cond.methodLink RL 44 yX4_slip, Cond.instanceMethod yX4_slip, Cond.selects RX4 yX4_slip yX4_slip, Cond.code yX4_slip cX4_slip 3 (some .int), Cond.methodLink RX4 52 yX2_delayClock, Cond.instanceMethod yX2_delayClock, Cond.selects RX2 yX2_delayClock yX2_delayClock]
def wsL_act_r5 : List Cond := [Cond.code yX2_delayClock cX2_delayClock 4 (some .int), Cond.methodLink RL 47 yX4_flush, Cond.instanceMethod yX4_flush, Cond.selects RX4 yX4_flush yX4_flush, Cond.code yX4_flush cX4_flush 1 (some .int), Cond.methodLink RX4 59 yX2_skipAll, Cond.instanceMethod yX2_skipAll, Cond.selects RX2 yX2_skipAll yX2_skipAll, Cond.code yX2_skipAll cX2_skipAll 3 (some .int), Cond.methodLink RX2 79 yX2_loseWaiting, Cond.instanceMethod yX2_loseWaiting, Cond.selects RX2 yX2_loseWaiting yX2_loseWaiting, Cond.code yX2_loseWaiting cX2_loseWaiting 4 none, Cond.methodLink RX2 93 yX3_read, Cond.instanceMethod yX3_read, Cond.selects RX3 yX3_read yX3_read, Cond.code yX3_read cX3_read 4 (some .int), Cond.methodLink RX2 90 yX3_write, Cond.instanceMethod yX3_write, Cond.selects RX3 yX3_write yX3_write, Cond.code yX3_write cX3_write 5 none, Cond.methodLink RX2 96 yX3_removeRow, Cond.instanceMethod yX3_removeRow, Cond.selects RX3 yX3_removeRow yX3_removeRow]
def wsL_act_r6 : List Cond := [Cond.code yX3_removeRow cX3_removeRow 4 none, Cond.methodLink RL 50 yX4_undo, Cond.instanceMethod yX4_undo, Cond.selects RX4 yX4_undo yX4_undo, Cond.code yX4_undo cX4_undo 2 (some .int), Cond.methodLink RX4 150 yX0_takeLatest, Cond.instanceMethod yX0_takeLatest, Cond.selects RX0 yX0_takeLatest yX0_takeLatest, Cond.code yX0_takeLatest cX0_takeLatest 1 (some (.object "LineDoubler$State"))]
def wsL_act : List Cond := .code yL_act cL_act 5 (some .int) :: ((wsL_act_r1 ++ (wsL_act_r2 ++ (wsL_act_r3 ++ (wsL_act_r4 ++ (wsL_act_r5 ++ wsL_act_r6))))) ++ wsX40 ++ wsX00 ++ wsX20 ++ wsX30)
def wsL_law_r1 : List Cond := [Cond.classLink RL 10 RX4, Cond.instantiable RX4 5, Cond.initialized RX4, Cond.methodLink RL 53 yX4_init, Cond.instanceMethod yX4_init, Cond.code yX4_init cX4_init 1 none, Cond.methodLink RX4 1 objectInit, Cond.instanceMethod objectInit, Cond.code objectInit ⟨#[0xb1]⟩ 1 none, Cond.classLink RX4 7 RX2, Cond.instantiable RX2 6, Cond.initialized RX2, Cond.fieldLink RX4 10 "LineDoubler" "state" "LLineDoubler$State;", Cond.fieldLink RX4 16 "LineDoubler" "trial" "LLineDoubler$State;", Cond.fieldLink RX4 19 "LineDoubler" "slots" "[LLineDoubler$State;", Cond.classLink RX4 23 RX0, Cond.instantiable RX0 3, Cond.initialized RX0, Cond.fieldLink RX4 26 "LineDoubler" "history" "LLineDoubler$History;", Cond.classLink RX4 30 RX1, Cond.instantiable RX1 6, Cond.initialized RX1, Cond.fieldLink RX4 33 "LineDoubler" "pad" "LLineDoubler$Pad;", Cond.methodLink RX4 9 yX2_init]
def wsL_law_r2 : List Cond := [Cond.instanceMethod yX2_init, Cond.code yX2_init cX2_init 2 none, Cond.methodLink RX2 3 objectInit, Cond.arrayClass .int, Cond.fieldLink RX2 9 "LineDoubler$State" "numbers" "[I", Cond.fieldLink RX2 15 "LineDoubler$State" "values" "[I", Cond.classLink RX2 18 RX3, Cond.instantiable RX3 2, Cond.initialized RX3, Cond.fieldLink RX2 23 "LineDoubler$State" "queue" "LLineDoubler$Table;", Cond.fieldLink RX2 27 "LineDoubler$State" "screen" "LLineDoubler$Table;", Cond.fieldLink RX2 30 "LineDoubler$State" "lost" "LLineDoubler$Table;", Cond.methodLink RX2 20 yX3_init, Cond.instanceMethod yX3_init, Cond.code yX3_init cX3_init 5 none, Cond.methodLink RX3 3 objectInit, Cond.fieldLink RX3 9 "LineDoubler$Table" "columns" "I", Cond.methodLink RX3 15 Lib.Math.max.name, Cond.static Lib.Math.max.name, Cond.initialized "java/lang/Math", Cond.code Lib.Math.max.name Lib.Math.max.code 2 (some .int), Cond.fieldLink RX3 21 "LineDoubler$Table" "cells" "[I", Cond.instanceMethod yX0_init, Cond.code yX0_init cX0_init 1 none]
def wsL_law_r3 : List Cond := [Cond.methodLink RX0 3 objectInit, Cond.classLink RX0 11 RX2, Cond.fieldLink RX0 13 "LineDoubler$History" "states" "[LLineDoubler$State;", Cond.instanceMethod yX1_init, Cond.code yX1_init cX1_init 1 none, Cond.methodLink RX1 3 objectInit, Cond.arrayClass .char, Cond.fieldLink RX1 9 "LineDoubler$Pad" "characters" "[C", Cond.methodLink RL 9 yX4_count, Cond.instanceMethod yX4_count, Cond.selects RX4 yX4_count yX4_count, Cond.code yX4_count cX4_count 2 (some .int), Cond.methodLink RX4 67 yX4_isWithin, Cond.static yX4_isWithin, Cond.code yX4_isWithin cX4_isWithin 3 (some .boolean), Cond.methodLink RL 54 yL_act, Cond.static yL_act, Cond.initialized RL, Cond.code yL_act cL_act 5 (some .int), Cond.methodLink RL 29 yL_cell, Cond.static yL_cell, Cond.code yL_cell cL_cell 2 (some .int), Cond.constant RL 8 (40503), Cond.methodLink RL 35 yL_low]
def wsL_law_r4 : List Cond := [Cond.static yL_low, Cond.code yL_low cL_low 2 (some .int), Cond.constant RL 7 (2147483647), Cond.methodLink RL 38 yX4_set, Cond.instanceMethod yX4_set, Cond.selects RX4 yX4_set yX4_set, Cond.code yX4_set cX4_set 3 (some .int), Cond.methodLink RX4 37 yX0_prepare, Cond.instanceMethod yX0_prepare, Cond.selects RX0 yX0_prepare yX0_prepare, Cond.code yX0_prepare cX0_prepare 2 none, Cond.fieldLink RX0 17 "LineDoubler$History" "oldest" "I", Cond.fieldLink RX0 21 "LineDoubler$History" "size" "I", Cond.static yX4_keepCopy, Cond.code yX4_keepCopy cX4_keepCopy 3 none, Cond.methodLink RX4 111 yX2_copyFrom, Cond.instanceMethod yX2_copyFrom, Cond.selects RX2 yX2_copyFrom yX2_copyFrom, Cond.code yX2_copyFrom cX2_copyFrom 2 none, Cond.methodLink RX2 36 arraycopyName, Cond.native arraycopyName, Cond.static arraycopyName, Cond.initialized "java/lang/System", Cond.fieldLink RX2 46 "LineDoubler$State" "waitedSum" "I"]
def wsL_law_r5 : List Cond := [Cond.methodLink RX2 42 yX3_copyFrom, Cond.instanceMethod yX3_copyFrom, Cond.selects RX3 yX3_copyFrom yX3_copyFrom, Cond.code yX3_copyFrom cX3_copyFrom 2 none, Cond.methodLink RX3 31 Lib.Math.min.name, Cond.static Lib.Math.min.name, Cond.code Lib.Math.min.name Lib.Math.min.code 2 (some .int), Cond.methodLink RX3 25 arraycopyName, Cond.methodLink RX4 41 yX2_changeSetting, Cond.instanceMethod yX2_changeSetting, Cond.selects RX2 yX2_changeSetting yX2_changeSetting, Cond.code yX2_changeSetting cX2_changeSetting 4 (some .int), Cond.methodLink RX4 45 yX0_keepIfDone, Cond.instanceMethod yX0_keepIfDone, Cond.selects RX0 yX0_keepIfDone yX0_keepIfDone, Cond.code yX0_keepIfDone cX0_keepIfDone 2 (some .int), Cond.methodLink RL 41 yX4_value, Cond.instanceMethod yX4_value, Cond.selects RX4 yX4_value yX4_value, Cond.code yX4_value cX4_value 3 (some .int), Cond.methodLink RX4 49 yX2_changeValue, Cond.instanceMethod yX2_changeValue, Cond.selects RX2 yX2_changeValue yX2_changeValue, Cond.code yX2_changeValue cX2_changeValue 4 (some .int)]
def wsL_law_r6 : List Cond := [Cond.methodLink RL 44 yX4_slip, Cond.instanceMethod yX4_slip, Cond.selects RX4 yX4_slip yX4_slip, Cond.code yX4_slip cX4_slip 3 (some .int), Cond.methodLink RX4 52 yX2_delayClock, Cond.instanceMethod yX2_delayClock, Cond.selects RX2 yX2_delayClock yX2_delayClock, Cond.code yX2_delayClock cX2_delayClock 4 (some .int), Cond.methodLink RL 47 yX4_flush, Cond.instanceMethod yX4_flush, Cond.selects RX4 yX4_flush yX4_flush, Cond.code yX4_flush cX4_flush 1 (some .int), Cond.methodLink RX4 59 yX2_skipAll, Cond.instanceMethod yX2_skipAll, Cond.selects RX2 yX2_skipAll yX2_skipAll, Cond.code yX2_skipAll cX2_skipAll 3 (some .int), Cond.methodLink RX2 79 yX2_loseWaiting, Cond.instanceMethod yX2_loseWaiting, Cond.selects RX2 yX2_loseWaiting yX2_loseWaiting, Cond.code yX2_loseWaiting cX2_loseWaiting 4 none, Cond.methodLink RX2 93 yX3_read, Cond.instanceMethod yX3_read, Cond.selects RX3 yX3_read yX3_read, Cond.code yX3_read cX3_read 4 (some .int)]
def wsL_law_r7 : List Cond := [Cond.methodLink RX2 90 yX3_write, Cond.instanceMethod yX3_write, Cond.selects RX3 yX3_write yX3_write, Cond.code yX3_write cX3_write 5 none, Cond.methodLink RX2 96 yX3_removeRow, Cond.instanceMethod yX3_removeRow, Cond.selects RX3 yX3_removeRow yX3_removeRow, Cond.code yX3_removeRow cX3_removeRow 4 none, Cond.methodLink RL 50 yX4_undo, Cond.instanceMethod yX4_undo, Cond.selects RX4 yX4_undo yX4_undo, Cond.code yX4_undo cX4_undo 2 (some .int), Cond.methodLink RX4 150 yX0_takeLatest, Cond.instanceMethod yX0_takeLatest, Cond.selects RX0 yX0_takeLatest yX0_takeLatest, Cond.code yX0_takeLatest cX0_takeLatest 1 (some (.object "LineDoubler$State")), Cond.methodLink RL 58 yX4_would, Cond.instanceMethod yX4_would, Cond.selects RX4 yX4_would yX4_would, Cond.code yX4_would cX4_would 3 (some .int), Cond.constant RX4 114 (1073741824), Cond.methodLink RX4 56 yX2_passTicks, Cond.instanceMethod yX2_passTicks, Cond.selects RX2 yX2_passTicks yX2_passTicks]
def wsL_law_r8 : List Cond := [Cond.code yX2_passTicks cX2_passTicks 6 (some .int), Cond.methodLink RX2 70 Lib.Math.min.name, Cond.methodLink RX2 76 Lib.Math.max.name, Cond.methodLink RX2 64 yX2_lineComes, Cond.instanceMethod yX2_lineComes, Cond.selects RX2 yX2_lineComes yX2_lineComes, Cond.code yX2_lineComes cX2_lineComes 3 none, Cond.methodLink RX2 83 yX2_nextLineWaits, Cond.instanceMethod yX2_nextLineWaits, Cond.selects RX2 yX2_nextLineWaits yX2_nextLineWaits, Cond.code yX2_nextLineWaits cX2_nextLineWaits 5 none, Cond.methodLink RX2 54 yX2_setting, Cond.instanceMethod yX2_setting, Cond.selects RX2 yX2_setting yX2_setting, Cond.code yX2_setting cX2_setting 2 (some .int), Cond.methodLink RX2 86 yX2_firstNotOut, Cond.instanceMethod yX2_firstNotOut, Cond.selects RX2 yX2_firstNotOut yX2_firstNotOut, Cond.code yX2_firstNotOut cX2_firstNotOut 2 (some .int), Cond.methodLink RX2 67 yX2_rowGoesOut, Cond.instanceMethod yX2_rowGoesOut, Cond.selects RX2 yX2_rowGoesOut yX2_rowGoesOut, Cond.code yX2_rowGoesOut cX2_rowGoesOut 4 none, Cond.methodLink RX2 100 yX2_rowsOfScreen]
def wsL_law_r9 : List Cond := [Cond.instanceMethod yX2_rowsOfScreen, Cond.selects RX2 yX2_rowsOfScreen yX2_rowsOfScreen, Cond.code yX2_rowsOfScreen cX2_rowsOfScreen 1 (some .int), Cond.methodLink RX2 103 yX2_skipToPicture, Cond.instanceMethod yX2_skipToPicture, Cond.selects RX2 yX2_skipToPicture yX2_skipToPicture, Cond.code yX2_skipToPicture cX2_skipToPicture 3 none, Cond.methodLink RX2 106 yX2_showFirstWaiting, Cond.instanceMethod yX2_showFirstWaiting, Cond.selects RX2 yX2_showFirstWaiting yX2_showFirstWaiting, Cond.code yX2_showFirstWaiting cX2_showFirstWaiting 2 none, Cond.methodLink RX2 109 yX2_showColour, Cond.instanceMethod yX2_showColour, Cond.selects RX2 yX2_showColour yX2_showColour, Cond.code yX2_showColour cX2_showColour 2 none, Cond.methodLink RX2 112 yX2_judgeScreen, Cond.instanceMethod yX2_judgeScreen, Cond.selects RX2 yX2_judgeScreen yX2_judgeScreen, Cond.code yX2_judgeScreen cX2_judgeScreen 5 (some .int), Cond.methodLink RX4 115 yX4_gainOf, Cond.instanceMethod yX4_gainOf, Cond.selects RX4 yX4_gainOf yX4_gainOf, Cond.code yX4_gainOf cX4_gainOf 2 (some .int), Cond.methodLink RL 61 yX4_pass]
def wsL_law_r10 : List Cond := [Cond.instanceMethod yX4_pass, Cond.selects RX4 yX4_pass yX4_pass, Cond.code yX4_pass cX4_pass 2 (some .int), Cond.constant RX4 55 (99999), Cond.methodLink RL 64 yL_lines, Cond.static yL_lines, Cond.code yL_lines cL_lines 5 (some .boolean), Cond.methodLink RL 15 yX4_waiting, Cond.instanceMethod yX4_waiting, Cond.selects RX4 yX4_waiting yX4_waiting, Cond.code yX4_waiting cX4_waiting 3 (some .int), Cond.methodLink RX4 75 yX3_read, Cond.methodLink RL 68 yL_rows, Cond.static yL_rows, Cond.code yL_rows cL_rows 11 (some .boolean), Cond.methodLink RL 19 yX4_row, Cond.instanceMethod yX4_row, Cond.selects RX4 yX4_row yX4_row, Cond.code yX4_row cX4_row 3 (some .int), Cond.methodLink RX4 80 yX2_rowsOfScreen, Cond.methodLink RL 22 yX4_ofMissing, Cond.instanceMethod yX4_ofMissing, Cond.selects RX4 yX4_ofMissing yX4_ofMissing, Cond.code yX4_ofMissing cX4_ofMissing 3 (some .int)]
def wsL_law_r11 : List Cond := [Cond.methodLink RX4 86 Lib.Math.min.name, Cond.methodLink RL 25 yX4_shown, Cond.instanceMethod yX4_shown, Cond.selects RX4 yX4_shown yX4_shown, Cond.code yX4_shown cX4_shown 3 (some .int)]
def wsL_law : List Cond := (wsL_law_r1 ++ (wsL_law_r2 ++ (wsL_law_r3 ++ (wsL_law_r4 ++ (wsL_law_r5 ++ (wsL_law_r6 ++ (wsL_law_r7 ++ (wsL_law_r8 ++ (wsL_law_r9 ++ (wsL_law_r10 ++ wsL_law_r11)))))))))) ++ wsX40 ++ wsX20 ++ wsX00 ++ wsX10 ++ wsX30 ++ ([] : List Cond)
theorem mem_r {big : List Cond} (ws : List Cond) (ps : List Nat) (hp : ws = ps.filterMap (fun i => big[i]?)) : ∀ w ∈ ws, w ∈ big := by
  intro w hw
  rw [hp] at hw
  obtain ⟨i, -, hi⟩ := List.mem_filterMap.mp hw
  exact List.mem_of_getElem? hi
set_option maxRecDepth 20000 in
theorem wsL_law_r1_lwin : ∀ w ∈ wsL_law_r1, w ∈ lw_tbl := mem_r _ [18, 19, 11, 20, 21, 22, 23, 24, 25, 26, 27, 12, 115, 116, 117, 75, 76, 15, 118, 93, 94, 16, 119, 28] (by decide +kernel)
set_option maxRecDepth 20000 in
theorem wsL_law_r2_lwin : ∀ w ∈ wsL_law_r2, w ∈ lw_tbl := mem_r _ [29, 30, 31, 48, 51, 53, 32, 33, 13, 54, 56, 58, 34, 35, 36, 37, 41, 38, 39, 14, 40, 42, 78, 79] (by decide +kernel)
set_option maxRecDepth 20000 in
theorem wsL_law_r3_lwin : ∀ w ∈ wsL_law_r3, w ∈ lw_tbl := mem_r _ [80, 81, 82, 96, 97, 98, 114, 99, 227, 228, 229, 230, 231, 163, 164, 274, 275, 10, 276, 245, 246, 247, 248, 241] (by decide +kernel)
set_option maxRecDepth 20000 in
theorem wsL_law_r4_lwin : ∀ w ∈ wsL_law_r4, w ∈ lw_tbl := mem_r _ [242, 243, 244, 277, 278, 279, 280, 135, 136, 137, 138, 83, 84, 140, 141, 142, 143, 144, 145, 146, 148, 147, 17, 60] (by decide +kernel)
set_option maxRecDepth 20000 in
theorem wsL_law_r5_lwin : ∀ w ∈ wsL_law_r5, w ∈ lw_tbl := mem_r _ [149, 150, 151, 152, 153, 154, 155, 156, 281, 282, 283, 284, 223, 224, 225, 226, 289, 290, 291, 292, 293, 294, 295, 296] (by decide +kernel)
set_option maxRecDepth 20000 in
theorem wsL_law_r6_lwin : ∀ w ∈ wsL_law_r6, w ∈ lw_tbl := mem_r _ [297, 298, 299, 300, 301, 302, 303, 304, 305, 306, 307, 308, 309, 310, 311, 312, 189, 191, 3, 192, 185, 186, 187, 188] (by decide +kernel)
set_option maxRecDepth 20000 in
theorem wsL_law_r7_lwin : ∀ w ∈ wsL_law_r7, w ∈ lw_tbl := mem_r _ [177, 178, 179, 180, 193, 194, 195, 196, 313, 314, 315, 316, 317, 318, 319, 320, 232, 233, 234, 235, 236, 158, 159, 160] (by decide +kernel)
set_option maxRecDepth 20000 in
theorem wsL_law_r8_lwin : ∀ w ∈ wsL_law_r8, w ∈ lw_tbl := mem_r _ [161, 221, 222, 165, 167, 0, 168, 169, 171, 1, 172, 173, 174, 175, 176, 181, 183, 2, 184, 197, 199, 4, 200, 201] (by decide +kernel)
set_option maxRecDepth 20000 in
theorem wsL_law_r9_lwin : ∀ w ∈ wsL_law_r9, w ∈ lw_tbl := mem_r _ [202, 203, 204, 205, 207, 5, 208, 209, 211, 6, 212, 213, 215, 7, 216, 217, 219, 8, 220, 237, 239, 9, 240, 131] (by decide +kernel)
set_option maxRecDepth 20000 in
theorem wsL_law_r10_lwin : ∀ w ∈ wsL_law_r10, w ∈ lw_tbl := mem_r _ [132, 133, 134, 157, 249, 250, 251, 252, 253, 254, 255, 256, 257, 258, 259, 260, 261, 262, 263, 264, 265, 266, 267, 268] (by decide +kernel)
set_option maxRecDepth 20000 in
theorem wsL_law_r11_lwin : ∀ w ∈ wsL_law_r11, w ∈ lw_tbl := mem_r _ [269, 270, 271, 272, 273] (by decide +kernel)
set_option maxRecDepth 20000 in
theorem wsX40_lwin : ∀ w ∈ wsX40, w ∈ lw_tbl := mem_r _ [120, 122, 124, 126, 128] (by decide +kernel)
set_option maxRecDepth 20000 in
theorem wsX20_lwin : ∀ w ∈ wsX20, w ∈ lw_tbl := mem_r _ [61, 63, 65, 67, 69, 71] (by decide +kernel)
set_option maxRecDepth 20000 in
theorem wsX00_lwin : ∀ w ∈ wsX00, w ∈ lw_tbl := mem_r _ [86, 88, 90] (by decide +kernel)
set_option maxRecDepth 20000 in
theorem wsX10_lwin : ∀ w ∈ wsX10, w ∈ lw_tbl := mem_r _ [101, 103, 105, 107, 109, 111] (by decide +kernel)
set_option maxRecDepth 20000 in
theorem wsX30_lwin : ∀ w ∈ wsX30, w ∈ lw_tbl := mem_r _ [43, 45] (by decide +kernel)
theorem wsL_law_in : ∀ w ∈ wsL_law, w ∈ lw_tbl := List.forall_mem_append.mpr ⟨List.forall_mem_append.mpr ⟨List.forall_mem_append.mpr ⟨List.forall_mem_append.mpr ⟨List.forall_mem_append.mpr ⟨List.forall_mem_append.mpr ⟨List.forall_mem_append.mpr ⟨wsL_law_r1_lwin, List.forall_mem_append.mpr ⟨wsL_law_r2_lwin, List.forall_mem_append.mpr ⟨wsL_law_r3_lwin, List.forall_mem_append.mpr ⟨wsL_law_r4_lwin, List.forall_mem_append.mpr ⟨wsL_law_r5_lwin, List.forall_mem_append.mpr ⟨wsL_law_r6_lwin, List.forall_mem_append.mpr ⟨wsL_law_r7_lwin, List.forall_mem_append.mpr ⟨wsL_law_r8_lwin, List.forall_mem_append.mpr ⟨wsL_law_r9_lwin, List.forall_mem_append.mpr ⟨wsL_law_r10_lwin, wsL_law_r11_lwin⟩⟩⟩⟩⟩⟩⟩⟩⟩⟩, wsX40_lwin⟩, wsX20_lwin⟩, wsX00_lwin⟩, wsX10_lwin⟩, wsX30_lwin⟩, (fun _ h => absurd h List.not_mem_nil)⟩
theorem inlX0 : ∀ w ∈ wsX00, w ∈ wsL_law := fun _ h => List.mem_append_left _ (List.mem_append_left _ (List.mem_append_left _ (List.mem_append_right _ h)))
theorem inX0 : ∀ w ∈ wsX00, w ∈ lw_tbl := fun w h => wsL_law_in w (inlX0 w h)
theorem inlX1 : ∀ w ∈ wsX10, w ∈ wsL_law := fun _ h => List.mem_append_left _ (List.mem_append_left _ (List.mem_append_right _ h))
theorem inX1 : ∀ w ∈ wsX10, w ∈ lw_tbl := fun w h => wsL_law_in w (inlX1 w h)
theorem inlX2 : ∀ w ∈ wsX20, w ∈ wsL_law := fun _ h => List.mem_append_left _ (List.mem_append_left _ (List.mem_append_left _ (List.mem_append_left _ (List.mem_append_right _ h))))
theorem inX2 : ∀ w ∈ wsX20, w ∈ lw_tbl := fun w h => wsL_law_in w (inlX2 w h)
theorem inlX3 : ∀ w ∈ wsX30, w ∈ wsL_law := fun _ h => List.mem_append_left _ (List.mem_append_right _ h)
theorem inX3 : ∀ w ∈ wsX30, w ∈ lw_tbl := fun w h => wsL_law_in w (inlX3 w h)
theorem inlX4 : ∀ w ∈ wsX40, w ∈ wsL_law := fun _ h => List.mem_append_left _ (List.mem_append_left _ (List.mem_append_left _ (List.mem_append_left _ (List.mem_append_left _ (List.mem_append_right _ h)))))
theorem inX4 : ∀ w ∈ wsX40, w ∈ lw_tbl := fun w h => wsL_law_in w (inlX4 w h)
theorem inX5 : ∀ w ∈ wsX50, w ∈ lw_tbl := by decide +kernel
theorem inJ9 : ∀ w ∈ wsJ90, w ∈ lw_tbl := by decide +kernel
theorem inJ10 : ∀ w ∈ wsJ100, w ∈ lw_tbl := by decide +kernel
end
section
theorem dX0_init_0 : decode cX0_init 0 = .ok (.aload_n 0, 1) := by decide +kernel
theorem dX0_init_1 : decode cX0_init 1 = .ok (.invokespecial 3, 3) := by decide +kernel
theorem dX0_init_4 : decode cX0_init 4 = .ok (.aload_n 0, 1) := by decide +kernel
theorem dX0_init_5 : decode cX0_init 5 = .ok (.bipush 7, 2) := by decide +kernel
theorem dX0_init_7 : decode cX0_init 7 = .ok (.anewarray 11, 3) := by decide +kernel
theorem dX0_init_10 : decode cX0_init 10 = .ok (.putfield 13, 3) := by decide +kernel
theorem dX0_init_13 : decode cX0_init 13 = .ok (.return_, 1) := by decide +kernel
set_option maxRecDepth 20000 in
theorem ggX0_prepare_X4_keepCopy : GoodIn wsX0_prepare wsX4_keepCopy := goodIn_r _ [6, 7, 8, 9, 10, 11, 12, 13, 14, 15, 16, 17, 18, 19, 20, 21, 22, 23, 24, 25, 26, 27, 28, 29, 30, 31, 32, 33, 34, 35, 36, 37, 38, 39, 40, 41, 42, 43, 44, 45, 46, 47, 48, 49, 50, 51, 55, 56, 57, 58, 59, 60, 61, 62] (by decide +kernel) (by decide +kernel)
set_option maxRecDepth 20000 in
theorem gX0_prepare_X4_keepCopy_n24 : GoodIn wsX0_prepare (wsX4_keepCopy) := ggX0_prepare_X4_keepCopy
theorem dX0_prepare_0 : decode cX0_prepare 0 = .ok (.aload_n 0, 1) := by decide +kernel
theorem dX0_prepare_1 : decode cX0_prepare 1 = .ok (.getfield 13, 3) := by decide +kernel
theorem dX0_prepare_4 : decode cX0_prepare 4 = .ok (.aload_n 0, 1) := by decide +kernel
theorem dX0_prepare_5 : decode cX0_prepare 5 = .ok (.getfield 17, 3) := by decide +kernel
theorem dX0_prepare_8 : decode cX0_prepare 8 = .ok (.aload_n 0, 1) := by decide +kernel
theorem dX0_prepare_9 : decode cX0_prepare 9 = .ok (.getfield 21, 3) := by decide +kernel
theorem dX0_prepare_12 : decode cX0_prepare 12 = .ok (.iadd, 1) := by decide +kernel
theorem dX0_prepare_13 : decode cX0_prepare 13 = .ok (.bipush 7, 2) := by decide +kernel
theorem dX0_prepare_15 : decode cX0_prepare 15 = .ok (.irem, 1) := by decide +kernel
theorem dX0_prepare_16 : decode cX0_prepare 16 = .ok (.aload_n 1, 1) := by decide +kernel
theorem dX0_prepare_17 : decode cX0_prepare 17 = .ok (.invokestatic 24, 3) := by decide +kernel
theorem dX0_prepare_20 : decode cX0_prepare 20 = .ok (.return_, 1) := by decide +kernel
theorem dX0_keepIfDone_0 : decode cX0_keepIfDone 0 = .ok (.iload_n 1, 1) := by decide +kernel
theorem dX0_keepIfDone_1 : decode cX0_keepIfDone 1 = .ok (.ifCond .lt 38, 3) := by decide +kernel
theorem dX0_keepIfDone_4 : decode cX0_keepIfDone 4 = .ok (.aload_n 0, 1) := by decide +kernel
theorem dX0_keepIfDone_5 : decode cX0_keepIfDone 5 = .ok (.getfield 21, 3) := by decide +kernel
theorem dX0_keepIfDone_8 : decode cX0_keepIfDone 8 = .ok (.bipush 6, 2) := by decide +kernel
theorem dX0_keepIfDone_10 : decode cX0_keepIfDone 10 = .ok (.if_icmp .ge 16, 3) := by decide +kernel
theorem dX0_keepIfDone_13 : decode cX0_keepIfDone 13 = .ok (.aload_n 0, 1) := by decide +kernel
theorem dX0_keepIfDone_14 : decode cX0_keepIfDone 14 = .ok (.dup, 1) := by decide +kernel
theorem dX0_keepIfDone_15 : decode cX0_keepIfDone 15 = .ok (.getfield 21, 3) := by decide +kernel
theorem dX0_keepIfDone_18 : decode cX0_keepIfDone 18 = .ok (.iconst 1, 1) := by decide +kernel
theorem dX0_keepIfDone_19 : decode cX0_keepIfDone 19 = .ok (.iadd, 1) := by decide +kernel
theorem dX0_keepIfDone_20 : decode cX0_keepIfDone 20 = .ok (.putfield 21, 3) := by decide +kernel
theorem dX0_keepIfDone_23 : decode cX0_keepIfDone 23 = .ok (.goto 16, 3) := by decide +kernel
theorem dX0_keepIfDone_26 : decode cX0_keepIfDone 26 = .ok (.aload_n 0, 1) := by decide +kernel
theorem dX0_keepIfDone_27 : decode cX0_keepIfDone 27 = .ok (.aload_n 0, 1) := by decide +kernel
theorem dX0_keepIfDone_28 : decode cX0_keepIfDone 28 = .ok (.getfield 17, 3) := by decide +kernel
theorem dX0_keepIfDone_31 : decode cX0_keepIfDone 31 = .ok (.iconst 1, 1) := by decide +kernel
theorem dX0_keepIfDone_32 : decode cX0_keepIfDone 32 = .ok (.iadd, 1) := by decide +kernel
theorem dX0_keepIfDone_33 : decode cX0_keepIfDone 33 = .ok (.bipush 7, 2) := by decide +kernel
theorem dX0_keepIfDone_35 : decode cX0_keepIfDone 35 = .ok (.irem, 1) := by decide +kernel
theorem dX0_keepIfDone_36 : decode cX0_keepIfDone 36 = .ok (.putfield 17, 3) := by decide +kernel
theorem dX0_keepIfDone_39 : decode cX0_keepIfDone 39 = .ok (.iload_n 1, 1) := by decide +kernel
theorem dX0_keepIfDone_40 : decode cX0_keepIfDone 40 = .ok (.ireturn, 1) := by decide +kernel
theorem dX0_takeLatest_0 : decode cX0_takeLatest 0 = .ok (.aload_n 0, 1) := by decide +kernel
theorem dX0_takeLatest_1 : decode cX0_takeLatest 1 = .ok (.getfield 21, 3) := by decide +kernel
theorem dX0_takeLatest_4 : decode cX0_takeLatest 4 = .ok (.ifCond .gt 5, 3) := by decide +kernel
theorem dX0_takeLatest_7 : decode cX0_takeLatest 7 = .ok (.aconst_null, 1) := by decide +kernel
theorem dX0_takeLatest_8 : decode cX0_takeLatest 8 = .ok (.areturn, 1) := by decide +kernel
theorem dX0_takeLatest_9 : decode cX0_takeLatest 9 = .ok (.aload_n 0, 1) := by decide +kernel
theorem dX0_takeLatest_10 : decode cX0_takeLatest 10 = .ok (.dup, 1) := by decide +kernel
theorem dX0_takeLatest_11 : decode cX0_takeLatest 11 = .ok (.getfield 21, 3) := by decide +kernel
theorem dX0_takeLatest_14 : decode cX0_takeLatest 14 = .ok (.iconst 1, 1) := by decide +kernel
theorem dX0_takeLatest_15 : decode cX0_takeLatest 15 = .ok (.isub, 1) := by decide +kernel
theorem dX0_takeLatest_16 : decode cX0_takeLatest 16 = .ok (.putfield 21, 3) := by decide +kernel
theorem dX0_takeLatest_19 : decode cX0_takeLatest 19 = .ok (.aload_n 0, 1) := by decide +kernel
theorem dX0_takeLatest_20 : decode cX0_takeLatest 20 = .ok (.getfield 13, 3) := by decide +kernel
theorem dX0_takeLatest_23 : decode cX0_takeLatest 23 = .ok (.aload_n 0, 1) := by decide +kernel
theorem dX0_takeLatest_24 : decode cX0_takeLatest 24 = .ok (.getfield 17, 3) := by decide +kernel
theorem dX0_takeLatest_27 : decode cX0_takeLatest 27 = .ok (.aload_n 0, 1) := by decide +kernel
theorem dX0_takeLatest_28 : decode cX0_takeLatest 28 = .ok (.getfield 21, 3) := by decide +kernel
theorem dX0_takeLatest_31 : decode cX0_takeLatest 31 = .ok (.iadd, 1) := by decide +kernel
theorem dX0_takeLatest_32 : decode cX0_takeLatest 32 = .ok (.bipush 7, 2) := by decide +kernel
theorem dX0_takeLatest_34 : decode cX0_takeLatest 34 = .ok (.irem, 1) := by decide +kernel
theorem dX0_takeLatest_35 : decode cX0_takeLatest 35 = .ok (.aaload, 1) := by decide +kernel
theorem dX0_takeLatest_36 : decode cX0_takeLatest 36 = .ok (.areturn, 1) := by decide +kernel
theorem dX1_init_0 : decode cX1_init 0 = .ok (.aload_n 0, 1) := by decide +kernel
theorem dX1_init_1 : decode cX1_init 1 = .ok (.invokespecial 3, 3) := by decide +kernel
theorem dX1_init_4 : decode cX1_init 4 = .ok (.aload_n 0, 1) := by decide +kernel
theorem dX1_init_5 : decode cX1_init 5 = .ok (.bipush 80, 2) := by decide +kernel
theorem dX1_init_7 : decode cX1_init 7 = .ok (.newarray .char, 2) := by decide +kernel
theorem dX1_init_9 : decode cX1_init 9 = .ok (.putfield 9, 3) := by decide +kernel
theorem dX1_init_12 : decode cX1_init 12 = .ok (.return_, 1) := by decide +kernel
set_option maxRecDepth 20000 in
theorem ggX2_init_X3_init : GoodIn wsX2_init wsX3_init := goodIn_r _ [15, 16, 2, 3, 17, 18, 19, 20, 21, 4, 22, 29, 30] (by decide +kernel) (by decide +kernel)
set_option maxRecDepth 20000 in
theorem gX2_init_X3_init : GoodIn wsX2_init (wsX3_init) := ggX2_init_X3_init
theorem dX2_init_0 : decode cX2_init 0 = .ok (.aload_n 0, 1) := by decide +kernel
theorem dX2_init_1 : decode cX2_init 1 = .ok (.invokespecial 3, 3) := by decide +kernel
theorem dX2_init_4 : decode cX2_init 4 = .ok (.aload_n 0, 1) := by decide +kernel
theorem dX2_init_5 : decode cX2_init 5 = .ok (.bipush 24, 2) := by decide +kernel
theorem dX2_init_7 : decode cX2_init 7 = .ok (.newarray .int, 2) := by decide +kernel
theorem dX2_init_9 : decode cX2_init 9 = .ok (.putfield 9, 3) := by decide +kernel
theorem dX2_init_12 : decode cX2_init 12 = .ok (.aload_n 0, 1) := by decide +kernel
theorem dX2_init_13 : decode cX2_init 13 = .ok (.bipush 16, 2) := by decide +kernel
theorem dX2_init_15 : decode cX2_init 15 = .ok (.newarray .int, 2) := by decide +kernel
theorem dX2_init_17 : decode cX2_init 17 = .ok (.putfield 15, 3) := by decide +kernel
theorem dX2_init_20 : decode cX2_init 20 = .ok (.aload_n 0, 1) := by decide +kernel
theorem dX2_init_21 : decode cX2_init 21 = .ok (.new 18, 3) := by decide +kernel
theorem dX2_init_24 : decode cX2_init 24 = .ok (.dup, 1) := by decide +kernel
theorem dX2_init_25 : decode cX2_init 25 = .ok (.bipush 17, 2) := by decide +kernel
theorem dX2_init_27 : decode cX2_init 27 = .ok (.iconst 4, 1) := by decide +kernel
theorem dX2_init_28 : decode cX2_init 28 = .ok (.iconst 0, 1) := by decide +kernel
theorem dX2_init_29 : decode cX2_init 29 = .ok (.invokespecial 20, 3) := by decide +kernel
theorem dX2_init_32 : decode cX2_init 32 = .ok (.putfield 23, 3) := by decide +kernel
theorem dX2_init_35 : decode cX2_init 35 = .ok (.aload_n 0, 1) := by decide +kernel
theorem dX2_init_36 : decode cX2_init 36 = .ok (.new 18, 3) := by decide +kernel
theorem dX2_init_39 : decode cX2_init 39 = .ok (.dup, 1) := by decide +kernel
theorem dX2_init_40 : decode cX2_init 40 = .ok (.bipush 32, 2) := by decide +kernel
theorem dX2_init_42 : decode cX2_init 42 = .ok (.iconst 3, 1) := by decide +kernel
theorem dX2_init_43 : decode cX2_init 43 = .ok (.bipush (-6), 2) := by decide +kernel
theorem dX2_init_45 : decode cX2_init 45 = .ok (.invokespecial 20, 3) := by decide +kernel
theorem dX2_init_48 : decode cX2_init 48 = .ok (.putfield 27, 3) := by decide +kernel
theorem dX2_init_51 : decode cX2_init 51 = .ok (.aload_n 0, 1) := by decide +kernel
theorem dX2_init_52 : decode cX2_init 52 = .ok (.new 18, 3) := by decide +kernel
theorem dX2_init_55 : decode cX2_init 55 = .ok (.dup, 1) := by decide +kernel
theorem dX2_init_56 : decode cX2_init 56 = .ok (.bipush 8, 2) := by decide +kernel
theorem dX2_init_58 : decode cX2_init 58 = .ok (.iconst 4, 1) := by decide +kernel
theorem dX2_init_59 : decode cX2_init 59 = .ok (.iconst 0, 1) := by decide +kernel
theorem dX2_init_60 : decode cX2_init 60 = .ok (.invokespecial 20, 3) := by decide +kernel
theorem dX2_init_63 : decode cX2_init 63 = .ok (.putfield 30, 3) := by decide +kernel
theorem dX2_init_66 : decode cX2_init 66 = .ok (.iconst 0, 1) := by decide +kernel
theorem dX2_init_67 : decode cX2_init 67 = .ok (.istore_n 1, 1) := by decide +kernel
theorem dX2_init_68 : decode cX2_init 68 = .ok (.iload_n 1, 1) := by decide +kernel
theorem dX2_init_69 : decode cX2_init 69 = .ok (.bipush 8, 2) := by decide +kernel
theorem dX2_init_71 : decode cX2_init 71 = .ok (.if_icmp .ge 23, 3) := by decide +kernel
theorem dX2_init_74 : decode cX2_init 74 = .ok (.aload_n 0, 1) := by decide +kernel
theorem dX2_init_75 : decode cX2_init 75 = .ok (.getfield 9, 3) := by decide +kernel
theorem dX2_init_78 : decode cX2_init 78 = .ok (.bipush 16, 2) := by decide +kernel
theorem dX2_init_80 : decode cX2_init 80 = .ok (.iload_n 1, 1) := by decide +kernel
theorem dX2_init_81 : decode cX2_init 81 = .ok (.iadd, 1) := by decide +kernel
theorem dX2_init_82 : decode cX2_init 82 = .ok (.getstatic 33, 3) := by decide +kernel
theorem dX2_init_85 : decode cX2_init 85 = .ok (.iload_n 1, 1) := by decide +kernel
theorem dX2_init_86 : decode cX2_init 86 = .ok (.iaload, 1) := by decide +kernel
theorem dX2_init_87 : decode cX2_init 87 = .ok (.iastore, 1) := by decide +kernel
theorem dX2_init_88 : decode cX2_init 88 = .ok (.iinc 1 1, 3) := by decide +kernel
theorem dX2_init_91 : decode cX2_init 91 = .ok (.goto (-23), 3) := by decide +kernel
theorem dX2_init_94 : decode cX2_init 94 = .ok (.iconst 0, 1) := by decide +kernel
theorem dX2_init_95 : decode cX2_init 95 = .ok (.istore_n 1, 1) := by decide +kernel
theorem dX2_init_96 : decode cX2_init 96 = .ok (.iload_n 1, 1) := by decide +kernel
theorem dX2_init_97 : decode cX2_init 97 = .ok (.bipush 16, 2) := by decide +kernel
theorem dX2_init_99 : decode cX2_init 99 = .ok (.if_icmp .ge 19, 3) := by decide +kernel
theorem dX2_init_102 : decode cX2_init 102 = .ok (.aload_n 0, 1) := by decide +kernel
theorem dX2_init_103 : decode cX2_init 103 = .ok (.getfield 15, 3) := by decide +kernel
theorem dX2_init_106 : decode cX2_init 106 = .ok (.iload_n 1, 1) := by decide +kernel
theorem dX2_init_107 : decode cX2_init 107 = .ok (.bipush 10, 2) := by decide +kernel
theorem dX2_init_109 : decode cX2_init 109 = .ok (.iload_n 1, 1) := by decide +kernel
theorem dX2_init_110 : decode cX2_init 110 = .ok (.imul, 1) := by decide +kernel
theorem dX2_init_111 : decode cX2_init 111 = .ok (.iastore, 1) := by decide +kernel
theorem dX2_init_112 : decode cX2_init 112 = .ok (.iinc 1 1, 3) := by decide +kernel
theorem dX2_init_115 : decode cX2_init 115 = .ok (.goto (-19), 3) := by decide +kernel
theorem dX2_init_118 : decode cX2_init 118 = .ok (.aload_n 0, 1) := by decide +kernel
theorem dX2_init_119 : decode cX2_init 119 = .ok (.getfield 9, 3) := by decide +kernel
theorem dX2_init_122 : decode cX2_init 122 = .ok (.bipush 15, 2) := by decide +kernel
theorem dX2_init_124 : decode cX2_init 124 = .ok (.bipush (-6), 2) := by decide +kernel
theorem dX2_init_126 : decode cX2_init 126 = .ok (.iastore, 1) := by decide +kernel
theorem dX2_init_127 : decode cX2_init 127 = .ok (.return_, 1) := by decide +kernel
set_option maxRecDepth 20000 in
theorem ggX2_copyFrom_X3_copyFrom : GoodIn wsX2_copyFrom wsX3_copyFrom := goodIn_r _ [15, 16, 17, 18, 19, 20, 21, 3, 4, 5, 28, 29] (by decide +kernel) (by decide +kernel)
set_option maxRecDepth 20000 in
theorem gX2_copyFrom_X3_copyFrom : GoodIn wsX2_copyFrom (wsV RX2 42 RX3 yX3_copyFrom wsX3_copyFrom) := goodIn_app (goodIn_of _ (by decide +kernel)) ggX2_copyFrom_X3_copyFrom
theorem dX2_copyFrom_0 : decode cX2_copyFrom 0 = .ok (.aload_n 1, 1) := by decide +kernel
theorem dX2_copyFrom_1 : decode cX2_copyFrom 1 = .ok (.getfield 9, 3) := by decide +kernel
theorem dX2_copyFrom_4 : decode cX2_copyFrom 4 = .ok (.iconst 0, 1) := by decide +kernel
theorem dX2_copyFrom_5 : decode cX2_copyFrom 5 = .ok (.aload_n 0, 1) := by decide +kernel
theorem dX2_copyFrom_6 : decode cX2_copyFrom 6 = .ok (.getfield 9, 3) := by decide +kernel
theorem dX2_copyFrom_9 : decode cX2_copyFrom 9 = .ok (.iconst 0, 1) := by decide +kernel
theorem dX2_copyFrom_10 : decode cX2_copyFrom 10 = .ok (.bipush 24, 2) := by decide +kernel
theorem dX2_copyFrom_12 : decode cX2_copyFrom 12 = .ok (.invokestatic 36, 3) := by decide +kernel
theorem dX2_copyFrom_15 : decode cX2_copyFrom 15 = .ok (.aload_n 1, 1) := by decide +kernel
theorem dX2_copyFrom_16 : decode cX2_copyFrom 16 = .ok (.getfield 15, 3) := by decide +kernel
theorem dX2_copyFrom_19 : decode cX2_copyFrom 19 = .ok (.iconst 0, 1) := by decide +kernel
theorem dX2_copyFrom_20 : decode cX2_copyFrom 20 = .ok (.aload_n 0, 1) := by decide +kernel
theorem dX2_copyFrom_21 : decode cX2_copyFrom 21 = .ok (.getfield 15, 3) := by decide +kernel
theorem dX2_copyFrom_24 : decode cX2_copyFrom 24 = .ok (.iconst 0, 1) := by decide +kernel
theorem dX2_copyFrom_25 : decode cX2_copyFrom 25 = .ok (.bipush 16, 2) := by decide +kernel
theorem dX2_copyFrom_27 : decode cX2_copyFrom 27 = .ok (.invokestatic 36, 3) := by decide +kernel
theorem dX2_copyFrom_30 : decode cX2_copyFrom 30 = .ok (.aload_n 0, 1) := by decide +kernel
theorem dX2_copyFrom_31 : decode cX2_copyFrom 31 = .ok (.getfield 23, 3) := by decide +kernel
theorem dX2_copyFrom_34 : decode cX2_copyFrom 34 = .ok (.aload_n 1, 1) := by decide +kernel
theorem dX2_copyFrom_35 : decode cX2_copyFrom 35 = .ok (.getfield 23, 3) := by decide +kernel
theorem dX2_copyFrom_38 : decode cX2_copyFrom 38 = .ok (.invokevirtual 42, 3) := by decide +kernel
theorem dX2_copyFrom_41 : decode cX2_copyFrom 41 = .ok (.aload_n 0, 1) := by decide +kernel
theorem dX2_copyFrom_42 : decode cX2_copyFrom 42 = .ok (.getfield 27, 3) := by decide +kernel
theorem dX2_copyFrom_45 : decode cX2_copyFrom 45 = .ok (.aload_n 1, 1) := by decide +kernel
theorem dX2_copyFrom_46 : decode cX2_copyFrom 46 = .ok (.getfield 27, 3) := by decide +kernel
theorem dX2_copyFrom_49 : decode cX2_copyFrom 49 = .ok (.invokevirtual 42, 3) := by decide +kernel
theorem dX2_copyFrom_52 : decode cX2_copyFrom 52 = .ok (.aload_n 0, 1) := by decide +kernel
theorem dX2_copyFrom_53 : decode cX2_copyFrom 53 = .ok (.getfield 30, 3) := by decide +kernel
theorem dX2_copyFrom_56 : decode cX2_copyFrom 56 = .ok (.aload_n 1, 1) := by decide +kernel
theorem dX2_copyFrom_57 : decode cX2_copyFrom 57 = .ok (.getfield 30, 3) := by decide +kernel
theorem dX2_copyFrom_60 : decode cX2_copyFrom 60 = .ok (.invokevirtual 42, 3) := by decide +kernel
theorem dX2_copyFrom_63 : decode cX2_copyFrom 63 = .ok (.aload_n 0, 1) := by decide +kernel
theorem dX2_copyFrom_64 : decode cX2_copyFrom 64 = .ok (.aload_n 1, 1) := by decide +kernel
theorem dX2_copyFrom_65 : decode cX2_copyFrom 65 = .ok (.getfield 46, 3) := by decide +kernel
theorem dX2_copyFrom_68 : decode cX2_copyFrom 68 = .ok (.putfield 46, 3) := by decide +kernel
theorem dX2_copyFrom_71 : decode cX2_copyFrom 71 = .ok (.return_, 1) := by decide +kernel
set_option maxRecDepth 20000 in
theorem ggX2_setting_X4_isWithin : GoodIn wsX2_setting wsX4_isWithin := goodIn_r _ [4] (by decide +kernel) (by decide +kernel)
set_option maxRecDepth 20000 in
theorem gX2_setting_X4_isWithin_n50 : GoodIn wsX2_setting (wsX4_isWithin) := ggX2_setting_X4_isWithin
theorem dX2_setting_0 : decode cX2_setting 0 = .ok (.iload_n 1, 1) := by decide +kernel
theorem dX2_setting_1 : decode cX2_setting 1 = .ok (.iconst 0, 1) := by decide +kernel
theorem dX2_setting_2 : decode cX2_setting 2 = .ok (.bipush 7, 2) := by decide +kernel
theorem dX2_setting_4 : decode cX2_setting 4 = .ok (.invokestatic 50, 3) := by decide +kernel
theorem dX2_setting_7 : decode cX2_setting 7 = .ok (.ifCond .eq 15, 3) := by decide +kernel
theorem dX2_setting_10 : decode cX2_setting 10 = .ok (.aload_n 0, 1) := by decide +kernel
theorem dX2_setting_11 : decode cX2_setting 11 = .ok (.getfield 9, 3) := by decide +kernel
theorem dX2_setting_14 : decode cX2_setting 14 = .ok (.bipush 16, 2) := by decide +kernel
theorem dX2_setting_16 : decode cX2_setting 16 = .ok (.iload_n 1, 1) := by decide +kernel
theorem dX2_setting_17 : decode cX2_setting 17 = .ok (.iadd, 1) := by decide +kernel
theorem dX2_setting_18 : decode cX2_setting 18 = .ok (.iaload, 1) := by decide +kernel
theorem dX2_setting_19 : decode cX2_setting 19 = .ok (.goto 4, 3) := by decide +kernel
theorem dX2_setting_22 : decode cX2_setting 22 = .ok (.iconst 0, 1) := by decide +kernel
theorem dX2_setting_23 : decode cX2_setting 23 = .ok (.ireturn, 1) := by decide +kernel
set_option maxRecDepth 20000 in
theorem ggX2_rowsOfScreen_X2_setting : GoodIn wsX2_rowsOfScreen wsX2_setting := goodIn_r _ [5, 6, 7, 8, 9, 10, 11, 12, 13, 14, 15] (by decide +kernel) (by decide +kernel)
set_option maxRecDepth 20000 in
theorem gX2_rowsOfScreen_X2_setting : GoodIn wsX2_rowsOfScreen (wsV RX2 54 RX2 yX2_setting wsX2_setting) := goodIn_app (goodIn_of _ (by decide +kernel)) ggX2_rowsOfScreen_X2_setting
theorem dX2_rowsOfScreen_0 : decode cX2_rowsOfScreen 0 = .ok (.iconst 2, 1) := by decide +kernel
theorem dX2_rowsOfScreen_1 : decode cX2_rowsOfScreen 1 = .ok (.aload_n 0, 1) := by decide +kernel
theorem dX2_rowsOfScreen_2 : decode cX2_rowsOfScreen 2 = .ok (.iconst 3, 1) := by decide +kernel
theorem dX2_rowsOfScreen_3 : decode cX2_rowsOfScreen 3 = .ok (.invokevirtual 54, 3) := by decide +kernel
theorem dX2_rowsOfScreen_6 : decode cX2_rowsOfScreen 6 = .ok (.imul, 1) := by decide +kernel
theorem dX2_rowsOfScreen_7 : decode cX2_rowsOfScreen 7 = .ok (.ireturn, 1) := by decide +kernel
set_option maxRecDepth 20000 in
theorem ggX2_changeSetting_X4_isWithin : GoodIn wsX2_changeSetting wsX4_isWithin := goodIn_r _ [4] (by decide +kernel) (by decide +kernel)
set_option maxRecDepth 20000 in
theorem gX2_changeSetting_X4_isWithin_n50 : GoodIn wsX2_changeSetting (wsX4_isWithin) := ggX2_changeSetting_X4_isWithin
theorem dX2_changeSetting_0 : decode cX2_changeSetting 0 = .ok (.iload_n 1, 1) := by decide +kernel
theorem dX2_changeSetting_1 : decode cX2_changeSetting 1 = .ok (.iconst 0, 1) := by decide +kernel
theorem dX2_changeSetting_2 : decode cX2_changeSetting 2 = .ok (.bipush 7, 2) := by decide +kernel
theorem dX2_changeSetting_4 : decode cX2_changeSetting 4 = .ok (.invokestatic 50, 3) := by decide +kernel
theorem dX2_changeSetting_7 : decode cX2_changeSetting 7 = .ok (.ifCond .eq 20, 3) := by decide +kernel
theorem dX2_changeSetting_10 : decode cX2_changeSetting 10 = .ok (.iload_n 2, 1) := by decide +kernel
theorem dX2_changeSetting_11 : decode cX2_changeSetting 11 = .ok (.getstatic 58, 3) := by decide +kernel
theorem dX2_changeSetting_14 : decode cX2_changeSetting 14 = .ok (.iload_n 1, 1) := by decide +kernel
theorem dX2_changeSetting_15 : decode cX2_changeSetting 15 = .ok (.iaload, 1) := by decide +kernel
theorem dX2_changeSetting_16 : decode cX2_changeSetting 16 = .ok (.getstatic 61, 3) := by decide +kernel
theorem dX2_changeSetting_19 : decode cX2_changeSetting 19 = .ok (.iload_n 1, 1) := by decide +kernel
theorem dX2_changeSetting_20 : decode cX2_changeSetting 20 = .ok (.iaload, 1) := by decide +kernel
theorem dX2_changeSetting_21 : decode cX2_changeSetting 21 = .ok (.invokestatic 50, 3) := by decide +kernel
theorem dX2_changeSetting_24 : decode cX2_changeSetting 24 = .ok (.ifCond .ne 6, 3) := by decide +kernel
theorem dX2_changeSetting_27 : decode cX2_changeSetting 27 = .ok (.bipush (-2), 2) := by decide +kernel
theorem dX2_changeSetting_29 : decode cX2_changeSetting 29 = .ok (.ireturn, 1) := by decide +kernel
theorem dX2_changeSetting_30 : decode cX2_changeSetting 30 = .ok (.iload_n 1, 1) := by decide +kernel
theorem dX2_changeSetting_31 : decode cX2_changeSetting 31 = .ok (.iconst 3, 1) := by decide +kernel
theorem dX2_changeSetting_32 : decode cX2_changeSetting 32 = .ok (.if_icmp .ne 12, 3) := by decide +kernel
theorem dX2_changeSetting_35 : decode cX2_changeSetting 35 = .ok (.aload_n 0, 1) := by decide +kernel
theorem dX2_changeSetting_36 : decode cX2_changeSetting 36 = .ok (.getfield 9, 3) := by decide +kernel
theorem dX2_changeSetting_39 : decode cX2_changeSetting 39 = .ok (.iconst 0, 1) := by decide +kernel
theorem dX2_changeSetting_40 : decode cX2_changeSetting 40 = .ok (.iaload, 1) := by decide +kernel
theorem dX2_changeSetting_41 : decode cX2_changeSetting 41 = .ok (.ifCond .ne 18, 3) := by decide +kernel
theorem dX2_changeSetting_44 : decode cX2_changeSetting 44 = .ok (.iload_n 1, 1) := by decide +kernel
theorem dX2_changeSetting_45 : decode cX2_changeSetting 45 = .ok (.iconst 2, 1) := by decide +kernel
theorem dX2_changeSetting_46 : decode cX2_changeSetting 46 = .ok (.if_icmp .ne 16, 3) := by decide +kernel
theorem dX2_changeSetting_49 : decode cX2_changeSetting 49 = .ok (.iload_n 2, 1) := by decide +kernel
theorem dX2_changeSetting_50 : decode cX2_changeSetting 50 = .ok (.aload_n 0, 1) := by decide +kernel
theorem dX2_changeSetting_51 : decode cX2_changeSetting 51 = .ok (.getfield 9, 3) := by decide +kernel
theorem dX2_changeSetting_54 : decode cX2_changeSetting 54 = .ok (.iconst 2, 1) := by decide +kernel
theorem dX2_changeSetting_55 : decode cX2_changeSetting 55 = .ok (.iaload, 1) := by decide +kernel
theorem dX2_changeSetting_56 : decode cX2_changeSetting 56 = .ok (.if_icmp .ge 6, 3) := by decide +kernel
theorem dX2_changeSetting_59 : decode cX2_changeSetting 59 = .ok (.bipush (-5), 2) := by decide +kernel
theorem dX2_changeSetting_61 : decode cX2_changeSetting 61 = .ok (.ireturn, 1) := by decide +kernel
theorem dX2_changeSetting_62 : decode cX2_changeSetting 62 = .ok (.aload_n 0, 1) := by decide +kernel
theorem dX2_changeSetting_63 : decode cX2_changeSetting 63 = .ok (.getfield 9, 3) := by decide +kernel
theorem dX2_changeSetting_66 : decode cX2_changeSetting 66 = .ok (.bipush 16, 2) := by decide +kernel
theorem dX2_changeSetting_68 : decode cX2_changeSetting 68 = .ok (.iload_n 1, 1) := by decide +kernel
theorem dX2_changeSetting_69 : decode cX2_changeSetting 69 = .ok (.iadd, 1) := by decide +kernel
theorem dX2_changeSetting_70 : decode cX2_changeSetting 70 = .ok (.iaload, 1) := by decide +kernel
theorem dX2_changeSetting_71 : decode cX2_changeSetting 71 = .ok (.istore_n 3, 1) := by decide +kernel
theorem dX2_changeSetting_72 : decode cX2_changeSetting 72 = .ok (.aload_n 0, 1) := by decide +kernel
theorem dX2_changeSetting_73 : decode cX2_changeSetting 73 = .ok (.getfield 9, 3) := by decide +kernel
theorem dX2_changeSetting_76 : decode cX2_changeSetting 76 = .ok (.bipush 16, 2) := by decide +kernel
theorem dX2_changeSetting_78 : decode cX2_changeSetting 78 = .ok (.iload_n 1, 1) := by decide +kernel
theorem dX2_changeSetting_79 : decode cX2_changeSetting 79 = .ok (.iadd, 1) := by decide +kernel
theorem dX2_changeSetting_80 : decode cX2_changeSetting 80 = .ok (.iload_n 2, 1) := by decide +kernel
theorem dX2_changeSetting_81 : decode cX2_changeSetting 81 = .ok (.iastore, 1) := by decide +kernel
theorem dX2_changeSetting_82 : decode cX2_changeSetting 82 = .ok (.iload_n 3, 1) := by decide +kernel
theorem dX2_changeSetting_83 : decode cX2_changeSetting 83 = .ok (.ireturn, 1) := by decide +kernel
set_option maxRecDepth 20000 in
theorem ggX2_changeValue_X4_isWithin : GoodIn wsX2_changeValue wsX4_isWithin := goodIn_r _ [4] (by decide +kernel) (by decide +kernel)
set_option maxRecDepth 20000 in
theorem gX2_changeValue_X4_isWithin_n50 : GoodIn wsX2_changeValue (wsX4_isWithin) := ggX2_changeValue_X4_isWithin
theorem dX2_changeValue_0 : decode cX2_changeValue 0 = .ok (.iload_n 1, 1) := by decide +kernel
theorem dX2_changeValue_1 : decode cX2_changeValue 1 = .ok (.iconst 0, 1) := by decide +kernel
theorem dX2_changeValue_2 : decode cX2_changeValue 2 = .ok (.bipush 15, 2) := by decide +kernel
theorem dX2_changeValue_4 : decode cX2_changeValue 4 = .ok (.invokestatic 50, 3) := by decide +kernel
theorem dX2_changeValue_7 : decode cX2_changeValue 7 = .ok (.ifCond .ne 5, 3) := by decide +kernel
theorem dX2_changeValue_10 : decode cX2_changeValue 10 = .ok (.iconst (-1), 1) := by decide +kernel
theorem dX2_changeValue_11 : decode cX2_changeValue 11 = .ok (.ireturn, 1) := by decide +kernel
theorem dX2_changeValue_12 : decode cX2_changeValue 12 = .ok (.iload_n 2, 1) := by decide +kernel
theorem dX2_changeValue_13 : decode cX2_changeValue 13 = .ok (.iconst 0, 1) := by decide +kernel
theorem dX2_changeValue_14 : decode cX2_changeValue 14 = .ok (.sipush 255, 3) := by decide +kernel
theorem dX2_changeValue_17 : decode cX2_changeValue 17 = .ok (.invokestatic 50, 3) := by decide +kernel
theorem dX2_changeValue_20 : decode cX2_changeValue 20 = .ok (.ifCond .ne 6, 3) := by decide +kernel
theorem dX2_changeValue_23 : decode cX2_changeValue 23 = .ok (.bipush (-2), 2) := by decide +kernel
theorem dX2_changeValue_25 : decode cX2_changeValue 25 = .ok (.ireturn, 1) := by decide +kernel
theorem dX2_changeValue_26 : decode cX2_changeValue 26 = .ok (.aload_n 0, 1) := by decide +kernel
theorem dX2_changeValue_27 : decode cX2_changeValue 27 = .ok (.getfield 15, 3) := by decide +kernel
theorem dX2_changeValue_30 : decode cX2_changeValue 30 = .ok (.iload_n 1, 1) := by decide +kernel
theorem dX2_changeValue_31 : decode cX2_changeValue 31 = .ok (.iaload, 1) := by decide +kernel
theorem dX2_changeValue_32 : decode cX2_changeValue 32 = .ok (.istore_n 3, 1) := by decide +kernel
theorem dX2_changeValue_33 : decode cX2_changeValue 33 = .ok (.aload_n 0, 1) := by decide +kernel
theorem dX2_changeValue_34 : decode cX2_changeValue 34 = .ok (.getfield 15, 3) := by decide +kernel
theorem dX2_changeValue_37 : decode cX2_changeValue 37 = .ok (.iload_n 1, 1) := by decide +kernel
theorem dX2_changeValue_38 : decode cX2_changeValue 38 = .ok (.iload_n 2, 1) := by decide +kernel
theorem dX2_changeValue_39 : decode cX2_changeValue 39 = .ok (.iastore, 1) := by decide +kernel
theorem dX2_changeValue_40 : decode cX2_changeValue 40 = .ok (.iload_n 3, 1) := by decide +kernel
theorem dX2_changeValue_41 : decode cX2_changeValue 41 = .ok (.ireturn, 1) := by decide +kernel
set_option maxRecDepth 20000 in
theorem ggX2_delayClock_X4_isWithin : GoodIn wsX2_delayClock wsX4_isWithin := goodIn_r _ [4] (by decide +kernel) (by decide +kernel)
set_option maxRecDepth 20000 in
theorem gX2_delayClock_X4_isWithin_n50 : GoodIn wsX2_delayClock (wsX4_isWithin) := ggX2_delayClock_X4_isWithin
theorem dX2_delayClock_0 : decode cX2_delayClock 0 = .ok (.iload_n 1, 1) := by decide +kernel
theorem dX2_delayClock_1 : decode cX2_delayClock 1 = .ok (.iconst 0, 1) := by decide +kernel
theorem dX2_delayClock_2 : decode cX2_delayClock 2 = .ok (.iconst 1, 1) := by decide +kernel
theorem dX2_delayClock_3 : decode cX2_delayClock 3 = .ok (.invokestatic 50, 3) := by decide +kernel
theorem dX2_delayClock_6 : decode cX2_delayClock 6 = .ok (.ifCond .eq 13, 3) := by decide +kernel
theorem dX2_delayClock_9 : decode cX2_delayClock 9 = .ok (.iload_n 2, 1) := by decide +kernel
theorem dX2_delayClock_10 : decode cX2_delayClock 10 = .ok (.iconst 1, 1) := by decide +kernel
theorem dX2_delayClock_11 : decode cX2_delayClock 11 = .ok (.bipush 99, 2) := by decide +kernel
theorem dX2_delayClock_13 : decode cX2_delayClock 13 = .ok (.invokestatic 50, 3) := by decide +kernel
theorem dX2_delayClock_16 : decode cX2_delayClock 16 = .ok (.ifCond .ne 6, 3) := by decide +kernel
theorem dX2_delayClock_19 : decode cX2_delayClock 19 = .ok (.bipush (-2), 2) := by decide +kernel
theorem dX2_delayClock_21 : decode cX2_delayClock 21 = .ok (.ireturn, 1) := by decide +kernel
theorem dX2_delayClock_22 : decode cX2_delayClock 22 = .ok (.iload_n 1, 1) := by decide +kernel
theorem dX2_delayClock_23 : decode cX2_delayClock 23 = .ok (.ifCond .ne 8, 3) := by decide +kernel
theorem dX2_delayClock_26 : decode cX2_delayClock 26 = .ok (.bipush 10, 2) := by decide +kernel
theorem dX2_delayClock_28 : decode cX2_delayClock 28 = .ok (.goto 5, 3) := by decide +kernel
theorem dX2_delayClock_31 : decode cX2_delayClock 31 = .ok (.bipush 11, 2) := by decide +kernel
theorem dX2_delayClock_33 : decode cX2_delayClock 33 = .ok (.istore_n 3, 1) := by decide +kernel
theorem dX2_delayClock_34 : decode cX2_delayClock 34 = .ok (.aload_n 0, 1) := by decide +kernel
theorem dX2_delayClock_35 : decode cX2_delayClock 35 = .ok (.getfield 9, 3) := by decide +kernel
theorem dX2_delayClock_38 : decode cX2_delayClock 38 = .ok (.iload_n 3, 1) := by decide +kernel
theorem dX2_delayClock_39 : decode cX2_delayClock 39 = .ok (.dup2, 1) := by decide +kernel
theorem dX2_delayClock_40 : decode cX2_delayClock 40 = .ok (.iaload, 1) := by decide +kernel
theorem dX2_delayClock_41 : decode cX2_delayClock 41 = .ok (.iload_n 2, 1) := by decide +kernel
theorem dX2_delayClock_42 : decode cX2_delayClock 42 = .ok (.iadd, 1) := by decide +kernel
theorem dX2_delayClock_43 : decode cX2_delayClock 43 = .ok (.iastore, 1) := by decide +kernel
theorem dX2_delayClock_44 : decode cX2_delayClock 44 = .ok (.aload_n 0, 1) := by decide +kernel
theorem dX2_delayClock_45 : decode cX2_delayClock 45 = .ok (.getfield 9, 3) := by decide +kernel
theorem dX2_delayClock_48 : decode cX2_delayClock 48 = .ok (.iload_n 3, 1) := by decide +kernel
theorem dX2_delayClock_49 : decode cX2_delayClock 49 = .ok (.iaload, 1) := by decide +kernel
theorem dX2_delayClock_50 : decode cX2_delayClock 50 = .ok (.ireturn, 1) := by decide +kernel
set_option maxRecDepth 20000 in
theorem ggX2_passTicks_X4_isWithin : GoodIn wsX2_passTicks wsX4_isWithin := goodIn_r _ [12] (by decide +kernel) (by decide +kernel)
set_option maxRecDepth 20000 in
theorem gX2_passTicks_X4_isWithin_n50 : GoodIn wsX2_passTicks (wsX4_isWithin) := ggX2_passTicks_X4_isWithin
set_option maxRecDepth 20000 in
theorem ggX2_passTicks_X2_lineComes : GoodIn wsX2_passTicks wsX2_lineComes := goodIn_r _ [17, 1, 18, 19, 20, 16, 21, 22, 23, 10, 11, 12, 24, 25, 26, 27, 28, 29, 30, 31, 32, 33, 34, 35, 36, 37, 38, 39, 40, 41, 42, 43, 44, 45, 46, 47, 48, 49, 50, 51, 52, 53, 54, 55, 81, 82, 83, 84, 85, 86, 87, 88] (by decide +kernel) (by decide +kernel)
set_option maxRecDepth 20000 in
theorem gX2_passTicks_X2_lineComes : GoodIn wsX2_passTicks (wsV RX2 64 RX2 yX2_lineComes wsX2_lineComes) := goodIn_app (goodIn_of _ (by decide +kernel)) ggX2_passTicks_X2_lineComes
set_option maxRecDepth 20000 in
theorem ggX2_passTicks_X2_rowGoesOut : GoodIn wsX2_passTicks wsX2_rowGoesOut := goodIn_r _ [59, 1, 60, 61, 62, 16, 63, 24, 25, 26, 27, 10, 11, 12, 64, 65, 66, 67, 23, 39, 40, 41, 31, 42, 33, 34, 43, 44, 45, 46, 47, 28, 29, 30, 32, 48, 49, 50, 51, 52, 53, 54, 55, 68, 69, 70, 71, 72, 73, 74, 75, 76, 77, 78, 79, 80, 81, 82, 83, 84, 85, 86, 87, 88] (by decide +kernel) (by decide +kernel)
set_option maxRecDepth 20000 in
theorem gX2_passTicks_X2_rowGoesOut : GoodIn wsX2_passTicks (wsV RX2 67 RX2 yX2_rowGoesOut wsX2_rowGoesOut) := goodIn_app (goodIn_of _ (by decide +kernel)) ggX2_passTicks_X2_rowGoesOut
theorem dX2_passTicks_0 : decode cX2_passTicks 0 = .ok (.iload_n 1, 1) := by decide +kernel
theorem dX2_passTicks_1 : decode cX2_passTicks 1 = .ok (.iconst 1, 1) := by decide +kernel
theorem dX2_passTicks_2 : decode cX2_passTicks 2 = .ok (.sipush 999, 3) := by decide +kernel
theorem dX2_passTicks_5 : decode cX2_passTicks 5 = .ok (.invokestatic 50, 3) := by decide +kernel
theorem dX2_passTicks_8 : decode cX2_passTicks 8 = .ok (.ifCond .ne 6, 3) := by decide +kernel
theorem dX2_passTicks_11 : decode cX2_passTicks 11 = .ok (.bipush (-2), 2) := by decide +kernel
theorem dX2_passTicks_13 : decode cX2_passTicks 13 = .ok (.ireturn, 1) := by decide +kernel
theorem dX2_passTicks_14 : decode cX2_passTicks 14 = .ok (.aload_n 0, 1) := by decide +kernel
theorem dX2_passTicks_15 : decode cX2_passTicks 15 = .ok (.getfield 9, 3) := by decide +kernel
theorem dX2_passTicks_18 : decode cX2_passTicks 18 = .ok (.iconst 0, 1) := by decide +kernel
theorem dX2_passTicks_19 : decode cX2_passTicks 19 = .ok (.iaload, 1) := by decide +kernel
theorem dX2_passTicks_20 : decode cX2_passTicks 20 = .ok (.iload_n 2, 1) := by decide +kernel
theorem dX2_passTicks_21 : decode cX2_passTicks 21 = .ok (.iload_n 1, 1) := by decide +kernel
theorem dX2_passTicks_22 : decode cX2_passTicks 22 = .ok (.isub, 1) := by decide +kernel
theorem dX2_passTicks_23 : decode cX2_passTicks 23 = .ok (.if_icmp .le 6, 3) := by decide +kernel
theorem dX2_passTicks_26 : decode cX2_passTicks 26 = .ok (.bipush (-4), 2) := by decide +kernel
theorem dX2_passTicks_28 : decode cX2_passTicks 28 = .ok (.ireturn, 1) := by decide +kernel
theorem dX2_passTicks_29 : decode cX2_passTicks 29 = .ok (.iconst 0, 1) := by decide +kernel
theorem dX2_passTicks_30 : decode cX2_passTicks 30 = .ok (.istore_n 3, 1) := by decide +kernel
theorem dX2_passTicks_31 : decode cX2_passTicks 31 = .ok (.iload_n 3, 1) := by decide +kernel
theorem dX2_passTicks_32 : decode cX2_passTicks 32 = .ok (.iload_n 1, 1) := by decide +kernel
theorem dX2_passTicks_33 : decode cX2_passTicks 33 = .ok (.if_icmp .ge 120, 3) := by decide +kernel
theorem dX2_passTicks_36 : decode cX2_passTicks 36 = .ok (.aload_n 0, 1) := by decide +kernel
theorem dX2_passTicks_37 : decode cX2_passTicks 37 = .ok (.getfield 9, 3) := by decide +kernel
theorem dX2_passTicks_40 : decode cX2_passTicks 40 = .ok (.iconst 0, 1) := by decide +kernel
theorem dX2_passTicks_41 : decode cX2_passTicks 41 = .ok (.iaload, 1) := by decide +kernel
theorem dX2_passTicks_42 : decode cX2_passTicks 42 = .ok (.aload_n 0, 1) := by decide +kernel
theorem dX2_passTicks_43 : decode cX2_passTicks 43 = .ok (.getfield 9, 3) := by decide +kernel
theorem dX2_passTicks_46 : decode cX2_passTicks 46 = .ok (.bipush 10, 2) := by decide +kernel
theorem dX2_passTicks_48 : decode cX2_passTicks 48 = .ok (.iaload, 1) := by decide +kernel
theorem dX2_passTicks_49 : decode cX2_passTicks 49 = .ok (.if_icmp .ne 7, 3) := by decide +kernel
theorem dX2_passTicks_52 : decode cX2_passTicks 52 = .ok (.aload_n 0, 1) := by decide +kernel
theorem dX2_passTicks_53 : decode cX2_passTicks 53 = .ok (.invokevirtual 64, 3) := by decide +kernel
theorem dX2_passTicks_56 : decode cX2_passTicks 56 = .ok (.aload_n 0, 1) := by decide +kernel
theorem dX2_passTicks_57 : decode cX2_passTicks 57 = .ok (.getfield 9, 3) := by decide +kernel
theorem dX2_passTicks_60 : decode cX2_passTicks 60 = .ok (.iconst 0, 1) := by decide +kernel
theorem dX2_passTicks_61 : decode cX2_passTicks 61 = .ok (.iaload, 1) := by decide +kernel
theorem dX2_passTicks_62 : decode cX2_passTicks 62 = .ok (.aload_n 0, 1) := by decide +kernel
theorem dX2_passTicks_63 : decode cX2_passTicks 63 = .ok (.getfield 9, 3) := by decide +kernel
theorem dX2_passTicks_66 : decode cX2_passTicks 66 = .ok (.bipush 11, 2) := by decide +kernel
theorem dX2_passTicks_68 : decode cX2_passTicks 68 = .ok (.iaload, 1) := by decide +kernel
theorem dX2_passTicks_69 : decode cX2_passTicks 69 = .ok (.if_icmp .ne 7, 3) := by decide +kernel
theorem dX2_passTicks_72 : decode cX2_passTicks 72 = .ok (.aload_n 0, 1) := by decide +kernel
theorem dX2_passTicks_73 : decode cX2_passTicks 73 = .ok (.invokevirtual 67, 3) := by decide +kernel
theorem dX2_passTicks_76 : decode cX2_passTicks 76 = .ok (.aload_n 0, 1) := by decide +kernel
theorem dX2_passTicks_77 : decode cX2_passTicks 77 = .ok (.getfield 9, 3) := by decide +kernel
theorem dX2_passTicks_80 : decode cX2_passTicks 80 = .ok (.bipush 10, 2) := by decide +kernel
theorem dX2_passTicks_82 : decode cX2_passTicks 82 = .ok (.iaload, 1) := by decide +kernel
theorem dX2_passTicks_83 : decode cX2_passTicks 83 = .ok (.aload_n 0, 1) := by decide +kernel
theorem dX2_passTicks_84 : decode cX2_passTicks 84 = .ok (.getfield 9, 3) := by decide +kernel
theorem dX2_passTicks_87 : decode cX2_passTicks 87 = .ok (.bipush 11, 2) := by decide +kernel
theorem dX2_passTicks_89 : decode cX2_passTicks 89 = .ok (.iaload, 1) := by decide +kernel
theorem dX2_passTicks_90 : decode cX2_passTicks 90 = .ok (.invokestatic 70, 3) := by decide +kernel
theorem dX2_passTicks_93 : decode cX2_passTicks 93 = .ok (.aload_n 0, 1) := by decide +kernel
theorem dX2_passTicks_94 : decode cX2_passTicks 94 = .ok (.getfield 9, 3) := by decide +kernel
theorem dX2_passTicks_97 : decode cX2_passTicks 97 = .ok (.iconst 0, 1) := by decide +kernel
theorem dX2_passTicks_98 : decode cX2_passTicks 98 = .ok (.iaload, 1) := by decide +kernel
theorem dX2_passTicks_99 : decode cX2_passTicks 99 = .ok (.isub, 1) := by decide +kernel
theorem dX2_passTicks_100 : decode cX2_passTicks 100 = .ok (.istore 4, 2) := by decide +kernel
theorem dX2_passTicks_102 : decode cX2_passTicks 102 = .ok (.iconst 1, 1) := by decide +kernel
theorem dX2_passTicks_103 : decode cX2_passTicks 103 = .ok (.iload 4, 2) := by decide +kernel
theorem dX2_passTicks_105 : decode cX2_passTicks 105 = .ok (.iload_n 1, 1) := by decide +kernel
theorem dX2_passTicks_106 : decode cX2_passTicks 106 = .ok (.iload_n 3, 1) := by decide +kernel
theorem dX2_passTicks_107 : decode cX2_passTicks 107 = .ok (.isub, 1) := by decide +kernel
theorem dX2_passTicks_108 : decode cX2_passTicks 108 = .ok (.invokestatic 70, 3) := by decide +kernel
theorem dX2_passTicks_111 : decode cX2_passTicks 111 = .ok (.invokestatic 76, 3) := by decide +kernel
theorem dX2_passTicks_114 : decode cX2_passTicks 114 = .ok (.istore 5, 2) := by decide +kernel
theorem dX2_passTicks_116 : decode cX2_passTicks 116 = .ok (.aload_n 0, 1) := by decide +kernel
theorem dX2_passTicks_117 : decode cX2_passTicks 117 = .ok (.dup, 1) := by decide +kernel
theorem dX2_passTicks_118 : decode cX2_passTicks 118 = .ok (.getfield 46, 3) := by decide +kernel
theorem dX2_passTicks_121 : decode cX2_passTicks 121 = .ok (.iload 5, 2) := by decide +kernel
theorem dX2_passTicks_123 : decode cX2_passTicks 123 = .ok (.aload_n 0, 1) := by decide +kernel
theorem dX2_passTicks_124 : decode cX2_passTicks 124 = .ok (.getfield 9, 3) := by decide +kernel
theorem dX2_passTicks_127 : decode cX2_passTicks 127 = .ok (.iconst 2, 1) := by decide +kernel
theorem dX2_passTicks_128 : decode cX2_passTicks 128 = .ok (.iaload, 1) := by decide +kernel
theorem dX2_passTicks_129 : decode cX2_passTicks 129 = .ok (.imul, 1) := by decide +kernel
theorem dX2_passTicks_130 : decode cX2_passTicks 130 = .ok (.iadd, 1) := by decide +kernel
theorem dX2_passTicks_131 : decode cX2_passTicks 131 = .ok (.putfield 46, 3) := by decide +kernel
theorem dX2_passTicks_134 : decode cX2_passTicks 134 = .ok (.aload_n 0, 1) := by decide +kernel
theorem dX2_passTicks_135 : decode cX2_passTicks 135 = .ok (.getfield 9, 3) := by decide +kernel
theorem dX2_passTicks_138 : decode cX2_passTicks 138 = .ok (.iconst 0, 1) := by decide +kernel
theorem dX2_passTicks_139 : decode cX2_passTicks 139 = .ok (.dup2, 1) := by decide +kernel
theorem dX2_passTicks_140 : decode cX2_passTicks 140 = .ok (.iaload, 1) := by decide +kernel
theorem dX2_passTicks_141 : decode cX2_passTicks 141 = .ok (.iload 5, 2) := by decide +kernel
theorem dX2_passTicks_143 : decode cX2_passTicks 143 = .ok (.iadd, 1) := by decide +kernel
theorem dX2_passTicks_144 : decode cX2_passTicks 144 = .ok (.iastore, 1) := by decide +kernel
theorem dX2_passTicks_145 : decode cX2_passTicks 145 = .ok (.iload_n 3, 1) := by decide +kernel
theorem dX2_passTicks_146 : decode cX2_passTicks 146 = .ok (.iload 5, 2) := by decide +kernel
theorem dX2_passTicks_148 : decode cX2_passTicks 148 = .ok (.iadd, 1) := by decide +kernel
theorem dX2_passTicks_149 : decode cX2_passTicks 149 = .ok (.istore_n 3, 1) := by decide +kernel
theorem dX2_passTicks_150 : decode cX2_passTicks 150 = .ok (.goto (-119), 3) := by decide +kernel
theorem dX2_passTicks_153 : decode cX2_passTicks 153 = .ok (.aload_n 0, 1) := by decide +kernel
theorem dX2_passTicks_154 : decode cX2_passTicks 154 = .ok (.getfield 9, 3) := by decide +kernel
theorem dX2_passTicks_157 : decode cX2_passTicks 157 = .ok (.iconst 0, 1) := by decide +kernel
theorem dX2_passTicks_158 : decode cX2_passTicks 158 = .ok (.iaload, 1) := by decide +kernel
theorem dX2_passTicks_159 : decode cX2_passTicks 159 = .ok (.ireturn, 1) := by decide +kernel
set_option maxRecDepth 20000 in
theorem ggX2_skipAll_X2_loseWaiting : GoodIn wsX2_skipAll wsX2_loseWaiting := goodIn_r _ [6, 1, 7, 8, 9, 10, 11, 12, 13, 14, 15, 16, 17, 18, 19, 20, 21, 22, 23, 24, 25, 26, 27, 28, 29, 30, 31, 32, 33, 34, 35] (by decide +kernel) (by decide +kernel)
set_option maxRecDepth 20000 in
theorem gX2_skipAll_X2_loseWaiting : GoodIn wsX2_skipAll (wsV RX2 79 RX2 yX2_loseWaiting wsX2_loseWaiting) := goodIn_app (goodIn_of _ (by decide +kernel)) ggX2_skipAll_X2_loseWaiting
theorem dX2_skipAll_0 : decode cX2_skipAll 0 = .ok (.aload_n 0, 1) := by decide +kernel
theorem dX2_skipAll_1 : decode cX2_skipAll 1 = .ok (.getfield 9, 3) := by decide +kernel
theorem dX2_skipAll_4 : decode cX2_skipAll 4 = .ok (.iconst 2, 1) := by decide +kernel
theorem dX2_skipAll_5 : decode cX2_skipAll 5 = .ok (.iaload, 1) := by decide +kernel
theorem dX2_skipAll_6 : decode cX2_skipAll 6 = .ok (.istore_n 1, 1) := by decide +kernel
theorem dX2_skipAll_7 : decode cX2_skipAll 7 = .ok (.iconst 0, 1) := by decide +kernel
theorem dX2_skipAll_8 : decode cX2_skipAll 8 = .ok (.istore_n 2, 1) := by decide +kernel
theorem dX2_skipAll_9 : decode cX2_skipAll 9 = .ok (.iload_n 2, 1) := by decide +kernel
theorem dX2_skipAll_10 : decode cX2_skipAll 10 = .ok (.iload_n 1, 1) := by decide +kernel
theorem dX2_skipAll_11 : decode cX2_skipAll 11 = .ok (.if_icmp .ge 15, 3) := by decide +kernel
theorem dX2_skipAll_14 : decode cX2_skipAll 14 = .ok (.aload_n 0, 1) := by decide +kernel
theorem dX2_skipAll_15 : decode cX2_skipAll 15 = .ok (.iconst 0, 1) := by decide +kernel
theorem dX2_skipAll_16 : decode cX2_skipAll 16 = .ok (.iconst 2, 1) := by decide +kernel
theorem dX2_skipAll_17 : decode cX2_skipAll 17 = .ok (.invokevirtual 79, 3) := by decide +kernel
theorem dX2_skipAll_20 : decode cX2_skipAll 20 = .ok (.iinc 2 1, 3) := by decide +kernel
theorem dX2_skipAll_23 : decode cX2_skipAll 23 = .ok (.goto (-14), 3) := by decide +kernel
theorem dX2_skipAll_26 : decode cX2_skipAll 26 = .ok (.iload_n 1, 1) := by decide +kernel
theorem dX2_skipAll_27 : decode cX2_skipAll 27 = .ok (.ireturn, 1) := by decide +kernel
set_option maxRecDepth 20000 in
theorem ggX2_lineComes_X2_nextLineWaits : GoodIn wsX2_lineComes wsX2_nextLineWaits := goodIn_r _ [6, 1, 7, 8, 9, 10, 11, 12, 13, 14, 5, 15, 16, 17, 18, 19, 20, 21, 22, 44, 45, 46, 47, 48, 49, 50, 51] (by decide +kernel) (by decide +kernel)
set_option maxRecDepth 20000 in
theorem gX2_lineComes_X2_nextLineWaits : GoodIn wsX2_lineComes (wsV RX2 83 RX2 yX2_nextLineWaits wsX2_nextLineWaits) := goodIn_app (goodIn_of _ (by decide +kernel)) ggX2_lineComes_X2_nextLineWaits
set_option maxRecDepth 20000 in
theorem ggX2_lineComes_X2_setting : GoodIn wsX2_lineComes wsX2_setting := goodIn_r _ [15, 1, 9, 10, 11, 44, 45, 46, 47, 48, 49] (by decide +kernel) (by decide +kernel)
set_option maxRecDepth 20000 in
theorem gX2_lineComes_X2_setting : GoodIn wsX2_lineComes (wsV RX2 54 RX2 yX2_setting wsX2_setting) := goodIn_app (goodIn_of _ (by decide +kernel)) ggX2_lineComes_X2_setting
set_option maxRecDepth 20000 in
theorem ggX2_lineComes_X2_firstNotOut : GoodIn wsX2_lineComes wsX2_firstNotOut := goodIn_r _ [26, 1, 8, 27, 28, 29, 19, 30, 21, 22, 44, 45, 46, 47, 48, 49, 50, 51] (by decide +kernel) (by decide +kernel)
set_option maxRecDepth 20000 in
theorem gX2_lineComes_X2_firstNotOut : GoodIn wsX2_lineComes (wsV RX2 86 RX2 yX2_firstNotOut wsX2_firstNotOut) := goodIn_app (goodIn_of _ (by decide +kernel)) ggX2_lineComes_X2_firstNotOut
set_option maxRecDepth 20000 in
theorem ggX2_lineComes_X2_loseWaiting : GoodIn wsX2_lineComes wsX2_loseWaiting := goodIn_r _ [34, 1, 35, 8, 27, 28, 29, 19, 30, 21, 22, 16, 17, 18, 20, 36, 37, 38, 39, 40, 41, 42, 43, 44, 45, 46, 47, 48, 49, 50, 51] (by decide +kernel) (by decide +kernel)
set_option maxRecDepth 20000 in
theorem gX2_lineComes_X2_loseWaiting : GoodIn wsX2_lineComes (wsV RX2 79 RX2 yX2_loseWaiting wsX2_loseWaiting) := goodIn_app (goodIn_of _ (by decide +kernel)) ggX2_lineComes_X2_loseWaiting
theorem dX2_lineComes_0 : decode cX2_lineComes 0 = .ok (.aload_n 0, 1) := by decide +kernel
theorem dX2_lineComes_1 : decode cX2_lineComes 1 = .ok (.getfield 9, 3) := by decide +kernel
theorem dX2_lineComes_4 : decode cX2_lineComes 4 = .ok (.iconst 1, 1) := by decide +kernel
theorem dX2_lineComes_5 : decode cX2_lineComes 5 = .ok (.dup2, 1) := by decide +kernel
theorem dX2_lineComes_6 : decode cX2_lineComes 6 = .ok (.iaload, 1) := by decide +kernel
theorem dX2_lineComes_7 : decode cX2_lineComes 7 = .ok (.iconst 1, 1) := by decide +kernel
theorem dX2_lineComes_8 : decode cX2_lineComes 8 = .ok (.iadd, 1) := by decide +kernel
theorem dX2_lineComes_9 : decode cX2_lineComes 9 = .ok (.iastore, 1) := by decide +kernel
theorem dX2_lineComes_10 : decode cX2_lineComes 10 = .ok (.aload_n 0, 1) := by decide +kernel
theorem dX2_lineComes_11 : decode cX2_lineComes 11 = .ok (.invokevirtual 83, 3) := by decide +kernel
theorem dX2_lineComes_14 : decode cX2_lineComes 14 = .ok (.aload_n 0, 1) := by decide +kernel
theorem dX2_lineComes_15 : decode cX2_lineComes 15 = .ok (.getfield 9, 3) := by decide +kernel
theorem dX2_lineComes_18 : decode cX2_lineComes 18 = .ok (.iconst 2, 1) := by decide +kernel
theorem dX2_lineComes_19 : decode cX2_lineComes 19 = .ok (.iaload, 1) := by decide +kernel
theorem dX2_lineComes_20 : decode cX2_lineComes 20 = .ok (.aload_n 0, 1) := by decide +kernel
theorem dX2_lineComes_21 : decode cX2_lineComes 21 = .ok (.iconst 2, 1) := by decide +kernel
theorem dX2_lineComes_22 : decode cX2_lineComes 22 = .ok (.invokevirtual 54, 3) := by decide +kernel
theorem dX2_lineComes_25 : decode cX2_lineComes 25 = .ok (.if_icmp .le 45, 3) := by decide +kernel
theorem dX2_lineComes_28 : decode cX2_lineComes 28 = .ok (.aload_n 0, 1) := by decide +kernel
theorem dX2_lineComes_29 : decode cX2_lineComes 29 = .ok (.getfield 9, 3) := by decide +kernel
theorem dX2_lineComes_32 : decode cX2_lineComes 32 = .ok (.iconst 2, 1) := by decide +kernel
theorem dX2_lineComes_33 : decode cX2_lineComes 33 = .ok (.iaload, 1) := by decide +kernel
theorem dX2_lineComes_34 : decode cX2_lineComes 34 = .ok (.iconst 1, 1) := by decide +kernel
theorem dX2_lineComes_35 : decode cX2_lineComes 35 = .ok (.isub, 1) := by decide +kernel
theorem dX2_lineComes_36 : decode cX2_lineComes 36 = .ok (.istore_n 1, 1) := by decide +kernel
theorem dX2_lineComes_37 : decode cX2_lineComes 37 = .ok (.aload_n 0, 1) := by decide +kernel
theorem dX2_lineComes_38 : decode cX2_lineComes 38 = .ok (.iconst 4, 1) := by decide +kernel
theorem dX2_lineComes_39 : decode cX2_lineComes 39 = .ok (.invokevirtual 54, 3) := by decide +kernel
theorem dX2_lineComes_42 : decode cX2_lineComes 42 = .ok (.iconst 1, 1) := by decide +kernel
theorem dX2_lineComes_43 : decode cX2_lineComes 43 = .ok (.if_icmp .ne 10, 3) := by decide +kernel
theorem dX2_lineComes_46 : decode cX2_lineComes 46 = .ok (.aload_n 0, 1) := by decide +kernel
theorem dX2_lineComes_47 : decode cX2_lineComes 47 = .ok (.invokevirtual 86, 3) := by decide +kernel
theorem dX2_lineComes_50 : decode cX2_lineComes 50 = .ok (.goto 4, 3) := by decide +kernel
theorem dX2_lineComes_53 : decode cX2_lineComes 53 = .ok (.iload_n 1, 1) := by decide +kernel
theorem dX2_lineComes_54 : decode cX2_lineComes 54 = .ok (.istore_n 2, 1) := by decide +kernel
theorem dX2_lineComes_55 : decode cX2_lineComes 55 = .ok (.aload_n 0, 1) := by decide +kernel
theorem dX2_lineComes_56 : decode cX2_lineComes 56 = .ok (.iload_n 2, 1) := by decide +kernel
theorem dX2_lineComes_57 : decode cX2_lineComes 57 = .ok (.iload_n 2, 1) := by decide +kernel
theorem dX2_lineComes_58 : decode cX2_lineComes 58 = .ok (.iload_n 1, 1) := by decide +kernel
theorem dX2_lineComes_59 : decode cX2_lineComes 59 = .ok (.if_icmp .ne 7, 3) := by decide +kernel
theorem dX2_lineComes_62 : decode cX2_lineComes 62 = .ok (.iconst 0, 1) := by decide +kernel
theorem dX2_lineComes_63 : decode cX2_lineComes 63 = .ok (.goto 4, 3) := by decide +kernel
theorem dX2_lineComes_66 : decode cX2_lineComes 66 = .ok (.iconst 1, 1) := by decide +kernel
theorem dX2_lineComes_67 : decode cX2_lineComes 67 = .ok (.invokevirtual 79, 3) := by decide +kernel
theorem dX2_lineComes_70 : decode cX2_lineComes 70 = .ok (.aload_n 0, 1) := by decide +kernel
theorem dX2_lineComes_71 : decode cX2_lineComes 71 = .ok (.getfield 9, 3) := by decide +kernel
theorem dX2_lineComes_74 : decode cX2_lineComes 74 = .ok (.bipush 8, 2) := by decide +kernel
theorem dX2_lineComes_76 : decode cX2_lineComes 76 = .ok (.dup2, 1) := by decide +kernel
theorem dX2_lineComes_77 : decode cX2_lineComes 77 = .ok (.iaload, 1) := by decide +kernel
theorem dX2_lineComes_78 : decode cX2_lineComes 78 = .ok (.iconst 1, 1) := by decide +kernel
theorem dX2_lineComes_79 : decode cX2_lineComes 79 = .ok (.iadd, 1) := by decide +kernel
theorem dX2_lineComes_80 : decode cX2_lineComes 80 = .ok (.iastore, 1) := by decide +kernel
theorem dX2_lineComes_81 : decode cX2_lineComes 81 = .ok (.aload_n 0, 1) := by decide +kernel
theorem dX2_lineComes_82 : decode cX2_lineComes 82 = .ok (.getfield 9, 3) := by decide +kernel
theorem dX2_lineComes_85 : decode cX2_lineComes 85 = .ok (.bipush 8, 2) := by decide +kernel
theorem dX2_lineComes_87 : decode cX2_lineComes 87 = .ok (.iaload, 1) := by decide +kernel
theorem dX2_lineComes_88 : decode cX2_lineComes 88 = .ok (.aload_n 0, 1) := by decide +kernel
theorem dX2_lineComes_89 : decode cX2_lineComes 89 = .ok (.iconst 3, 1) := by decide +kernel
theorem dX2_lineComes_90 : decode cX2_lineComes 90 = .ok (.invokevirtual 54, 3) := by decide +kernel
theorem dX2_lineComes_93 : decode cX2_lineComes 93 = .ok (.if_icmp .lt 22, 3) := by decide +kernel
theorem dX2_lineComes_96 : decode cX2_lineComes 96 = .ok (.aload_n 0, 1) := by decide +kernel
theorem dX2_lineComes_97 : decode cX2_lineComes 97 = .ok (.getfield 9, 3) := by decide +kernel
theorem dX2_lineComes_100 : decode cX2_lineComes 100 = .ok (.bipush 8, 2) := by decide +kernel
theorem dX2_lineComes_102 : decode cX2_lineComes 102 = .ok (.iconst 0, 1) := by decide +kernel
theorem dX2_lineComes_103 : decode cX2_lineComes 103 = .ok (.iastore, 1) := by decide +kernel
theorem dX2_lineComes_104 : decode cX2_lineComes 104 = .ok (.aload_n 0, 1) := by decide +kernel
theorem dX2_lineComes_105 : decode cX2_lineComes 105 = .ok (.getfield 9, 3) := by decide +kernel
theorem dX2_lineComes_108 : decode cX2_lineComes 108 = .ok (.bipush 9, 2) := by decide +kernel
theorem dX2_lineComes_110 : decode cX2_lineComes 110 = .ok (.dup2, 1) := by decide +kernel
theorem dX2_lineComes_111 : decode cX2_lineComes 111 = .ok (.iaload, 1) := by decide +kernel
theorem dX2_lineComes_112 : decode cX2_lineComes 112 = .ok (.iconst 1, 1) := by decide +kernel
theorem dX2_lineComes_113 : decode cX2_lineComes 113 = .ok (.iadd, 1) := by decide +kernel
theorem dX2_lineComes_114 : decode cX2_lineComes 114 = .ok (.iastore, 1) := by decide +kernel
theorem dX2_lineComes_115 : decode cX2_lineComes 115 = .ok (.aload_n 0, 1) := by decide +kernel
theorem dX2_lineComes_116 : decode cX2_lineComes 116 = .ok (.getfield 9, 3) := by decide +kernel
theorem dX2_lineComes_119 : decode cX2_lineComes 119 = .ok (.bipush 10, 2) := by decide +kernel
theorem dX2_lineComes_121 : decode cX2_lineComes 121 = .ok (.dup2, 1) := by decide +kernel
theorem dX2_lineComes_122 : decode cX2_lineComes 122 = .ok (.iaload, 1) := by decide +kernel
theorem dX2_lineComes_123 : decode cX2_lineComes 123 = .ok (.aload_n 0, 1) := by decide +kernel
theorem dX2_lineComes_124 : decode cX2_lineComes 124 = .ok (.iconst 0, 1) := by decide +kernel
theorem dX2_lineComes_125 : decode cX2_lineComes 125 = .ok (.invokevirtual 54, 3) := by decide +kernel
theorem dX2_lineComes_128 : decode cX2_lineComes 128 = .ok (.iadd, 1) := by decide +kernel
theorem dX2_lineComes_129 : decode cX2_lineComes 129 = .ok (.iastore, 1) := by decide +kernel
theorem dX2_lineComes_130 : decode cX2_lineComes 130 = .ok (.return_, 1) := by decide +kernel
set_option maxRecDepth 20000 in
theorem ggX2_nextLineWaits_X4_isWithin : GoodIn wsX2_nextLineWaits wsX4_isWithin := goodIn_r _ [6] (by decide +kernel) (by decide +kernel)
set_option maxRecDepth 20000 in
theorem gX2_nextLineWaits_X4_isWithin_n50 : GoodIn wsX2_nextLineWaits (wsX4_isWithin) := ggX2_nextLineWaits_X4_isWithin
set_option maxRecDepth 20000 in
theorem ggX2_nextLineWaits_X2_setting : GoodIn wsX2_nextLineWaits wsX2_setting := goodIn_r _ [11, 1, 4, 5, 6, 19, 20, 21, 22, 23, 24] (by decide +kernel) (by decide +kernel)
set_option maxRecDepth 20000 in
theorem gX2_nextLineWaits_X2_setting : GoodIn wsX2_nextLineWaits (wsV RX2 54 RX2 yX2_setting wsX2_setting) := goodIn_app (goodIn_of _ (by decide +kernel)) ggX2_nextLineWaits_X2_setting
set_option maxRecDepth 20000 in
theorem ggX2_nextLineWaits_X3_write : GoodIn wsX2_nextLineWaits wsX3_write := goodIn_r _ [16, 17, 18, 25, 26] (by decide +kernel) (by decide +kernel)
set_option maxRecDepth 20000 in
theorem gX2_nextLineWaits_X3_write : GoodIn wsX2_nextLineWaits (wsV RX2 90 RX3 yX3_write wsX3_write) := goodIn_app (goodIn_of _ (by decide +kernel)) ggX2_nextLineWaits_X3_write
theorem dX2_nextLineWaits_0 : decode cX2_nextLineWaits 0 = .ok (.aload_n 0, 1) := by decide +kernel
theorem dX2_nextLineWaits_1 : decode cX2_nextLineWaits 1 = .ok (.getfield 9, 3) := by decide +kernel
theorem dX2_nextLineWaits_4 : decode cX2_nextLineWaits 4 = .ok (.iconst 2, 1) := by decide +kernel
theorem dX2_nextLineWaits_5 : decode cX2_nextLineWaits 5 = .ok (.iaload, 1) := by decide +kernel
theorem dX2_nextLineWaits_6 : decode cX2_nextLineWaits 6 = .ok (.istore_n 1, 1) := by decide +kernel
theorem dX2_nextLineWaits_7 : decode cX2_nextLineWaits 7 = .ok (.aload_n 0, 1) := by decide +kernel
theorem dX2_nextLineWaits_8 : decode cX2_nextLineWaits 8 = .ok (.getfield 9, 3) := by decide +kernel
theorem dX2_nextLineWaits_11 : decode cX2_nextLineWaits 11 = .ok (.bipush 9, 2) := by decide +kernel
theorem dX2_nextLineWaits_13 : decode cX2_nextLineWaits 13 = .ok (.iaload, 1) := by decide +kernel
theorem dX2_nextLineWaits_14 : decode cX2_nextLineWaits 14 = .ok (.istore_n 2, 1) := by decide +kernel
theorem dX2_nextLineWaits_15 : decode cX2_nextLineWaits 15 = .ok (.aload_n 0, 1) := by decide +kernel
theorem dX2_nextLineWaits_16 : decode cX2_nextLineWaits 16 = .ok (.getfield 9, 3) := by decide +kernel
theorem dX2_nextLineWaits_19 : decode cX2_nextLineWaits 19 = .ok (.bipush 8, 2) := by decide +kernel
theorem dX2_nextLineWaits_21 : decode cX2_nextLineWaits 21 = .ok (.iaload, 1) := by decide +kernel
theorem dX2_nextLineWaits_22 : decode cX2_nextLineWaits 22 = .ok (.istore_n 3, 1) := by decide +kernel
theorem dX2_nextLineWaits_23 : decode cX2_nextLineWaits 23 = .ok (.iload_n 3, 1) := by decide +kernel
theorem dX2_nextLineWaits_24 : decode cX2_nextLineWaits 24 = .ok (.iconst 0, 1) := by decide +kernel
theorem dX2_nextLineWaits_25 : decode cX2_nextLineWaits 25 = .ok (.bipush 15, 2) := by decide +kernel
theorem dX2_nextLineWaits_27 : decode cX2_nextLineWaits 27 = .ok (.invokestatic 50, 3) := by decide +kernel
theorem dX2_nextLineWaits_30 : decode cX2_nextLineWaits 30 = .ok (.ifCond .eq 21, 3) := by decide +kernel
theorem dX2_nextLineWaits_33 : decode cX2_nextLineWaits 33 = .ok (.aload_n 0, 1) := by decide +kernel
theorem dX2_nextLineWaits_34 : decode cX2_nextLineWaits 34 = .ok (.getfield 15, 3) := by decide +kernel
theorem dX2_nextLineWaits_37 : decode cX2_nextLineWaits 37 = .ok (.iload_n 3, 1) := by decide +kernel
theorem dX2_nextLineWaits_38 : decode cX2_nextLineWaits 38 = .ok (.iaload, 1) := by decide +kernel
theorem dX2_nextLineWaits_39 : decode cX2_nextLineWaits 39 = .ok (.aload_n 0, 1) := by decide +kernel
theorem dX2_nextLineWaits_40 : decode cX2_nextLineWaits 40 = .ok (.bipush 7, 2) := by decide +kernel
theorem dX2_nextLineWaits_42 : decode cX2_nextLineWaits 42 = .ok (.invokevirtual 54, 3) := by decide +kernel
theorem dX2_nextLineWaits_45 : decode cX2_nextLineWaits 45 = .ok (.iload_n 2, 1) := by decide +kernel
theorem dX2_nextLineWaits_46 : decode cX2_nextLineWaits 46 = .ok (.imul, 1) := by decide +kernel
theorem dX2_nextLineWaits_47 : decode cX2_nextLineWaits 47 = .ok (.iadd, 1) := by decide +kernel
theorem dX2_nextLineWaits_48 : decode cX2_nextLineWaits 48 = .ok (.goto 4, 3) := by decide +kernel
theorem dX2_nextLineWaits_51 : decode cX2_nextLineWaits 51 = .ok (.iconst 0, 1) := by decide +kernel
theorem dX2_nextLineWaits_52 : decode cX2_nextLineWaits 52 = .ok (.istore 4, 2) := by decide +kernel
theorem dX2_nextLineWaits_54 : decode cX2_nextLineWaits 54 = .ok (.aload_n 0, 1) := by decide +kernel
theorem dX2_nextLineWaits_55 : decode cX2_nextLineWaits 55 = .ok (.getfield 23, 3) := by decide +kernel
theorem dX2_nextLineWaits_58 : decode cX2_nextLineWaits 58 = .ok (.iload_n 1, 1) := by decide +kernel
theorem dX2_nextLineWaits_59 : decode cX2_nextLineWaits 59 = .ok (.iconst 0, 1) := by decide +kernel
theorem dX2_nextLineWaits_60 : decode cX2_nextLineWaits 60 = .ok (.iload_n 2, 1) := by decide +kernel
theorem dX2_nextLineWaits_61 : decode cX2_nextLineWaits 61 = .ok (.invokevirtual 90, 3) := by decide +kernel
theorem dX2_nextLineWaits_64 : decode cX2_nextLineWaits 64 = .ok (.aload_n 0, 1) := by decide +kernel
theorem dX2_nextLineWaits_65 : decode cX2_nextLineWaits 65 = .ok (.getfield 23, 3) := by decide +kernel
theorem dX2_nextLineWaits_68 : decode cX2_nextLineWaits 68 = .ok (.iload_n 1, 1) := by decide +kernel
theorem dX2_nextLineWaits_69 : decode cX2_nextLineWaits 69 = .ok (.iconst 1, 1) := by decide +kernel
theorem dX2_nextLineWaits_70 : decode cX2_nextLineWaits 70 = .ok (.iload_n 3, 1) := by decide +kernel
theorem dX2_nextLineWaits_71 : decode cX2_nextLineWaits 71 = .ok (.invokevirtual 90, 3) := by decide +kernel
theorem dX2_nextLineWaits_74 : decode cX2_nextLineWaits 74 = .ok (.aload_n 0, 1) := by decide +kernel
theorem dX2_nextLineWaits_75 : decode cX2_nextLineWaits 75 = .ok (.getfield 23, 3) := by decide +kernel
theorem dX2_nextLineWaits_78 : decode cX2_nextLineWaits 78 = .ok (.iload_n 1, 1) := by decide +kernel
theorem dX2_nextLineWaits_79 : decode cX2_nextLineWaits 79 = .ok (.iconst 2, 1) := by decide +kernel
theorem dX2_nextLineWaits_80 : decode cX2_nextLineWaits 80 = .ok (.iload 4, 2) := by decide +kernel
theorem dX2_nextLineWaits_82 : decode cX2_nextLineWaits 82 = .ok (.sipush 255, 3) := by decide +kernel
theorem dX2_nextLineWaits_85 : decode cX2_nextLineWaits 85 = .ok (.iand, 1) := by decide +kernel
theorem dX2_nextLineWaits_86 : decode cX2_nextLineWaits 86 = .ok (.invokevirtual 90, 3) := by decide +kernel
theorem dX2_nextLineWaits_89 : decode cX2_nextLineWaits 89 = .ok (.aload_n 0, 1) := by decide +kernel
theorem dX2_nextLineWaits_90 : decode cX2_nextLineWaits 90 = .ok (.getfield 23, 3) := by decide +kernel
theorem dX2_nextLineWaits_93 : decode cX2_nextLineWaits 93 = .ok (.iload_n 1, 1) := by decide +kernel
theorem dX2_nextLineWaits_94 : decode cX2_nextLineWaits 94 = .ok (.iconst 3, 1) := by decide +kernel
theorem dX2_nextLineWaits_95 : decode cX2_nextLineWaits 95 = .ok (.iconst 0, 1) := by decide +kernel
theorem dX2_nextLineWaits_96 : decode cX2_nextLineWaits 96 = .ok (.invokevirtual 90, 3) := by decide +kernel
theorem dX2_nextLineWaits_99 : decode cX2_nextLineWaits 99 = .ok (.aload_n 0, 1) := by decide +kernel
theorem dX2_nextLineWaits_100 : decode cX2_nextLineWaits 100 = .ok (.getfield 9, 3) := by decide +kernel
theorem dX2_nextLineWaits_103 : decode cX2_nextLineWaits 103 = .ok (.iconst 2, 1) := by decide +kernel
theorem dX2_nextLineWaits_104 : decode cX2_nextLineWaits 104 = .ok (.dup2, 1) := by decide +kernel
theorem dX2_nextLineWaits_105 : decode cX2_nextLineWaits 105 = .ok (.iaload, 1) := by decide +kernel
theorem dX2_nextLineWaits_106 : decode cX2_nextLineWaits 106 = .ok (.iconst 1, 1) := by decide +kernel
theorem dX2_nextLineWaits_107 : decode cX2_nextLineWaits 107 = .ok (.iadd, 1) := by decide +kernel
theorem dX2_nextLineWaits_108 : decode cX2_nextLineWaits 108 = .ok (.iastore, 1) := by decide +kernel
theorem dX2_nextLineWaits_109 : decode cX2_nextLineWaits 109 = .ok (.return_, 1) := by decide +kernel
set_option maxRecDepth 20000 in
theorem ggX2_firstNotOut_X3_read : GoodIn wsX2_firstNotOut wsX3_read := goodIn_r _ [7, 8, 9, 16, 17] (by decide +kernel) (by decide +kernel)
set_option maxRecDepth 20000 in
theorem gX2_firstNotOut_X3_read : GoodIn wsX2_firstNotOut (wsV RX2 93 RX3 yX3_read wsX3_read) := goodIn_app (goodIn_of _ (by decide +kernel)) ggX2_firstNotOut_X3_read
theorem dX2_firstNotOut_0 : decode cX2_firstNotOut 0 = .ok (.iconst 0, 1) := by decide +kernel
theorem dX2_firstNotOut_1 : decode cX2_firstNotOut 1 = .ok (.istore_n 1, 1) := by decide +kernel
theorem dX2_firstNotOut_2 : decode cX2_firstNotOut 2 = .ok (.iload_n 1, 1) := by decide +kernel
theorem dX2_firstNotOut_3 : decode cX2_firstNotOut 3 = .ok (.aload_n 0, 1) := by decide +kernel
theorem dX2_firstNotOut_4 : decode cX2_firstNotOut 4 = .ok (.getfield 9, 3) := by decide +kernel
theorem dX2_firstNotOut_7 : decode cX2_firstNotOut 7 = .ok (.iconst 2, 1) := by decide +kernel
theorem dX2_firstNotOut_8 : decode cX2_firstNotOut 8 = .ok (.iaload, 1) := by decide +kernel
theorem dX2_firstNotOut_9 : decode cX2_firstNotOut 9 = .ok (.iconst 1, 1) := by decide +kernel
theorem dX2_firstNotOut_10 : decode cX2_firstNotOut 10 = .ok (.isub, 1) := by decide +kernel
theorem dX2_firstNotOut_11 : decode cX2_firstNotOut 11 = .ok (.if_icmp .ge 21, 3) := by decide +kernel
theorem dX2_firstNotOut_14 : decode cX2_firstNotOut 14 = .ok (.aload_n 0, 1) := by decide +kernel
theorem dX2_firstNotOut_15 : decode cX2_firstNotOut 15 = .ok (.getfield 23, 3) := by decide +kernel
theorem dX2_firstNotOut_18 : decode cX2_firstNotOut 18 = .ok (.iload_n 1, 1) := by decide +kernel
theorem dX2_firstNotOut_19 : decode cX2_firstNotOut 19 = .ok (.iconst 3, 1) := by decide +kernel
theorem dX2_firstNotOut_20 : decode cX2_firstNotOut 20 = .ok (.invokevirtual 93, 3) := by decide +kernel
theorem dX2_firstNotOut_23 : decode cX2_firstNotOut 23 = .ok (.ifCond .eq 9, 3) := by decide +kernel
theorem dX2_firstNotOut_26 : decode cX2_firstNotOut 26 = .ok (.iinc 1 1, 3) := by decide +kernel
theorem dX2_firstNotOut_29 : decode cX2_firstNotOut 29 = .ok (.goto (-27), 3) := by decide +kernel
theorem dX2_firstNotOut_32 : decode cX2_firstNotOut 32 = .ok (.iload_n 1, 1) := by decide +kernel
theorem dX2_firstNotOut_33 : decode cX2_firstNotOut 33 = .ok (.ireturn, 1) := by decide +kernel
set_option maxRecDepth 20000 in
theorem ggX2_loseWaiting_X3_read : GoodIn wsX2_loseWaiting wsX3_read := goodIn_r _ [8, 9, 10, 29, 30] (by decide +kernel) (by decide +kernel)
set_option maxRecDepth 20000 in
theorem gX2_loseWaiting_X3_read : GoodIn wsX2_loseWaiting (wsV RX2 93 RX3 yX3_read wsX3_read) := goodIn_app (goodIn_of _ (by decide +kernel)) ggX2_loseWaiting_X3_read
set_option maxRecDepth 20000 in
theorem ggX2_loseWaiting_X3_write : GoodIn wsX2_loseWaiting wsX3_write := goodIn_r _ [14, 9, 10, 29, 30] (by decide +kernel) (by decide +kernel)
set_option maxRecDepth 20000 in
theorem gX2_loseWaiting_X3_write : GoodIn wsX2_loseWaiting (wsV RX2 90 RX3 yX3_write wsX3_write) := goodIn_app (goodIn_of _ (by decide +kernel)) ggX2_loseWaiting_X3_write
set_option maxRecDepth 20000 in
theorem ggX2_loseWaiting_X3_removeRow : GoodIn wsX2_loseWaiting wsX3_removeRow := goodIn_r _ [18, 9, 10, 19, 20, 21, 22, 29, 30] (by decide +kernel) (by decide +kernel)
set_option maxRecDepth 20000 in
theorem gX2_loseWaiting_X3_removeRow : GoodIn wsX2_loseWaiting (wsV RX2 96 RX3 yX3_removeRow wsX3_removeRow) := goodIn_app (goodIn_of _ (by decide +kernel)) ggX2_loseWaiting_X3_removeRow
theorem dX2_loseWaiting_0 : decode cX2_loseWaiting 0 = .ok (.aload_n 0, 1) := by decide +kernel
theorem dX2_loseWaiting_1 : decode cX2_loseWaiting 1 = .ok (.getfield 9, 3) := by decide +kernel
theorem dX2_loseWaiting_4 : decode cX2_loseWaiting 4 = .ok (.iconst 4, 1) := by decide +kernel
theorem dX2_loseWaiting_5 : decode cX2_loseWaiting 5 = .ok (.iaload, 1) := by decide +kernel
theorem dX2_loseWaiting_6 : decode cX2_loseWaiting 6 = .ok (.bipush 8, 2) := by decide +kernel
theorem dX2_loseWaiting_8 : decode cX2_loseWaiting 8 = .ok (.irem, 1) := by decide +kernel
theorem dX2_loseWaiting_9 : decode cX2_loseWaiting 9 = .ok (.istore_n 3, 1) := by decide +kernel
theorem dX2_loseWaiting_10 : decode cX2_loseWaiting 10 = .ok (.aload_n 0, 1) := by decide +kernel
theorem dX2_loseWaiting_11 : decode cX2_loseWaiting 11 = .ok (.getfield 30, 3) := by decide +kernel
theorem dX2_loseWaiting_14 : decode cX2_loseWaiting 14 = .ok (.iload_n 3, 1) := by decide +kernel
theorem dX2_loseWaiting_15 : decode cX2_loseWaiting 15 = .ok (.iconst 0, 1) := by decide +kernel
theorem dX2_loseWaiting_16 : decode cX2_loseWaiting 16 = .ok (.aload_n 0, 1) := by decide +kernel
theorem dX2_loseWaiting_17 : decode cX2_loseWaiting 17 = .ok (.getfield 23, 3) := by decide +kernel
theorem dX2_loseWaiting_20 : decode cX2_loseWaiting 20 = .ok (.iload_n 1, 1) := by decide +kernel
theorem dX2_loseWaiting_21 : decode cX2_loseWaiting 21 = .ok (.iconst 0, 1) := by decide +kernel
theorem dX2_loseWaiting_22 : decode cX2_loseWaiting 22 = .ok (.invokevirtual 93, 3) := by decide +kernel
theorem dX2_loseWaiting_25 : decode cX2_loseWaiting 25 = .ok (.invokevirtual 90, 3) := by decide +kernel
theorem dX2_loseWaiting_28 : decode cX2_loseWaiting 28 = .ok (.aload_n 0, 1) := by decide +kernel
theorem dX2_loseWaiting_29 : decode cX2_loseWaiting 29 = .ok (.getfield 30, 3) := by decide +kernel
theorem dX2_loseWaiting_32 : decode cX2_loseWaiting 32 = .ok (.iload_n 3, 1) := by decide +kernel
theorem dX2_loseWaiting_33 : decode cX2_loseWaiting 33 = .ok (.iconst 1, 1) := by decide +kernel
theorem dX2_loseWaiting_34 : decode cX2_loseWaiting 34 = .ok (.aload_n 0, 1) := by decide +kernel
theorem dX2_loseWaiting_35 : decode cX2_loseWaiting 35 = .ok (.getfield 23, 3) := by decide +kernel
theorem dX2_loseWaiting_38 : decode cX2_loseWaiting 38 = .ok (.iload_n 1, 1) := by decide +kernel
theorem dX2_loseWaiting_39 : decode cX2_loseWaiting 39 = .ok (.iconst 1, 1) := by decide +kernel
theorem dX2_loseWaiting_40 : decode cX2_loseWaiting 40 = .ok (.invokevirtual 93, 3) := by decide +kernel
theorem dX2_loseWaiting_43 : decode cX2_loseWaiting 43 = .ok (.invokevirtual 90, 3) := by decide +kernel
theorem dX2_loseWaiting_46 : decode cX2_loseWaiting 46 = .ok (.aload_n 0, 1) := by decide +kernel
theorem dX2_loseWaiting_47 : decode cX2_loseWaiting 47 = .ok (.getfield 30, 3) := by decide +kernel
theorem dX2_loseWaiting_50 : decode cX2_loseWaiting 50 = .ok (.iload_n 3, 1) := by decide +kernel
theorem dX2_loseWaiting_51 : decode cX2_loseWaiting 51 = .ok (.iconst 2, 1) := by decide +kernel
theorem dX2_loseWaiting_52 : decode cX2_loseWaiting 52 = .ok (.iload_n 2, 1) := by decide +kernel
theorem dX2_loseWaiting_53 : decode cX2_loseWaiting 53 = .ok (.invokevirtual 90, 3) := by decide +kernel
theorem dX2_loseWaiting_56 : decode cX2_loseWaiting 56 = .ok (.aload_n 0, 1) := by decide +kernel
theorem dX2_loseWaiting_57 : decode cX2_loseWaiting 57 = .ok (.getfield 30, 3) := by decide +kernel
theorem dX2_loseWaiting_60 : decode cX2_loseWaiting 60 = .ok (.iload_n 3, 1) := by decide +kernel
theorem dX2_loseWaiting_61 : decode cX2_loseWaiting 61 = .ok (.iconst 3, 1) := by decide +kernel
theorem dX2_loseWaiting_62 : decode cX2_loseWaiting 62 = .ok (.aload_n 0, 1) := by decide +kernel
theorem dX2_loseWaiting_63 : decode cX2_loseWaiting 63 = .ok (.getfield 9, 3) := by decide +kernel
theorem dX2_loseWaiting_66 : decode cX2_loseWaiting 66 = .ok (.iconst 0, 1) := by decide +kernel
theorem dX2_loseWaiting_67 : decode cX2_loseWaiting 67 = .ok (.iaload, 1) := by decide +kernel
theorem dX2_loseWaiting_68 : decode cX2_loseWaiting 68 = .ok (.invokevirtual 90, 3) := by decide +kernel
theorem dX2_loseWaiting_71 : decode cX2_loseWaiting 71 = .ok (.aload_n 0, 1) := by decide +kernel
theorem dX2_loseWaiting_72 : decode cX2_loseWaiting 72 = .ok (.getfield 9, 3) := by decide +kernel
theorem dX2_loseWaiting_75 : decode cX2_loseWaiting 75 = .ok (.iconst 4, 1) := by decide +kernel
theorem dX2_loseWaiting_76 : decode cX2_loseWaiting 76 = .ok (.dup2, 1) := by decide +kernel
theorem dX2_loseWaiting_77 : decode cX2_loseWaiting 77 = .ok (.iaload, 1) := by decide +kernel
theorem dX2_loseWaiting_78 : decode cX2_loseWaiting 78 = .ok (.iconst 1, 1) := by decide +kernel
theorem dX2_loseWaiting_79 : decode cX2_loseWaiting 79 = .ok (.iadd, 1) := by decide +kernel
theorem dX2_loseWaiting_80 : decode cX2_loseWaiting 80 = .ok (.iastore, 1) := by decide +kernel
theorem dX2_loseWaiting_81 : decode cX2_loseWaiting 81 = .ok (.aload_n 0, 1) := by decide +kernel
theorem dX2_loseWaiting_82 : decode cX2_loseWaiting 82 = .ok (.getfield 23, 3) := by decide +kernel
theorem dX2_loseWaiting_85 : decode cX2_loseWaiting 85 = .ok (.iload_n 1, 1) := by decide +kernel
theorem dX2_loseWaiting_86 : decode cX2_loseWaiting 86 = .ok (.invokevirtual 96, 3) := by decide +kernel
theorem dX2_loseWaiting_89 : decode cX2_loseWaiting 89 = .ok (.aload_n 0, 1) := by decide +kernel
theorem dX2_loseWaiting_90 : decode cX2_loseWaiting 90 = .ok (.getfield 9, 3) := by decide +kernel
theorem dX2_loseWaiting_93 : decode cX2_loseWaiting 93 = .ok (.iconst 2, 1) := by decide +kernel
theorem dX2_loseWaiting_94 : decode cX2_loseWaiting 94 = .ok (.dup2, 1) := by decide +kernel
theorem dX2_loseWaiting_95 : decode cX2_loseWaiting 95 = .ok (.iaload, 1) := by decide +kernel
theorem dX2_loseWaiting_96 : decode cX2_loseWaiting 96 = .ok (.iconst 1, 1) := by decide +kernel
theorem dX2_loseWaiting_97 : decode cX2_loseWaiting 97 = .ok (.isub, 1) := by decide +kernel
theorem dX2_loseWaiting_98 : decode cX2_loseWaiting 98 = .ok (.iastore, 1) := by decide +kernel
theorem dX2_loseWaiting_99 : decode cX2_loseWaiting 99 = .ok (.return_, 1) := by decide +kernel
set_option maxRecDepth 20000 in
theorem ggX2_rowGoesOut_X2_rowsOfScreen : GoodIn wsX2_rowGoesOut wsX2_rowsOfScreen := goodIn_r _ [6, 7, 8, 9, 5, 10, 1, 11, 12, 13, 56, 57, 58, 59, 60, 61] (by decide +kernel) (by decide +kernel)
set_option maxRecDepth 20000 in
theorem gX2_rowGoesOut_X2_rowsOfScreen : GoodIn wsX2_rowGoesOut (wsV RX2 100 RX2 yX2_rowsOfScreen wsX2_rowsOfScreen) := goodIn_app (goodIn_of _ (by decide +kernel)) ggX2_rowGoesOut_X2_rowsOfScreen
set_option maxRecDepth 20000 in
theorem ggX2_rowGoesOut_X2_setting : GoodIn wsX2_rowGoesOut wsX2_setting := goodIn_r _ [10, 1, 11, 12, 13, 56, 57, 58, 59, 60, 61] (by decide +kernel) (by decide +kernel)
set_option maxRecDepth 20000 in
theorem gX2_rowGoesOut_X2_setting : GoodIn wsX2_rowGoesOut (wsV RX2 54 RX2 yX2_setting wsX2_setting) := goodIn_app (goodIn_of _ (by decide +kernel)) ggX2_rowGoesOut_X2_setting
set_option maxRecDepth 20000 in
theorem ggX2_rowGoesOut_X2_skipToPicture : GoodIn wsX2_rowGoesOut wsX2_skipToPicture := goodIn_r _ [17, 1, 18, 19, 20, 21, 22, 23, 24, 25, 26, 27, 28, 5, 29, 30, 31, 32, 33, 34, 35, 36, 37, 38, 39, 40, 41, 42, 56, 57, 58, 59, 60, 61, 62, 63] (by decide +kernel) (by decide +kernel)
set_option maxRecDepth 20000 in
theorem gX2_rowGoesOut_X2_skipToPicture : GoodIn wsX2_rowGoesOut (wsV RX2 103 RX2 yX2_skipToPicture wsX2_skipToPicture) := goodIn_app (goodIn_of _ (by decide +kernel)) ggX2_rowGoesOut_X2_skipToPicture
set_option maxRecDepth 20000 in
theorem ggX2_rowGoesOut_X2_showFirstWaiting : GoodIn wsX2_rowGoesOut wsX2_showFirstWaiting := goodIn_r _ [46, 47, 18, 1, 19, 20, 21, 22, 23, 24, 25, 31, 32, 33, 34, 35, 36, 37, 38, 39, 40, 41, 42, 56, 57, 58, 59, 60, 61, 62, 63] (by decide +kernel) (by decide +kernel)
set_option maxRecDepth 20000 in
theorem gX2_rowGoesOut_X2_showFirstWaiting : GoodIn wsX2_rowGoesOut (wsV RX2 106 RX2 yX2_showFirstWaiting wsX2_showFirstWaiting) := goodIn_app (goodIn_of _ (by decide +kernel)) ggX2_rowGoesOut_X2_showFirstWaiting
set_option maxRecDepth 20000 in
theorem ggX2_rowGoesOut_X2_showColour : GoodIn wsX2_rowGoesOut wsX2_showColour := goodIn_r _ [51, 47, 1, 7, 8, 9, 5, 10, 11, 12, 13, 31, 32, 33, 22, 34, 24, 25, 56, 57, 58, 59, 60, 61, 62, 63] (by decide +kernel) (by decide +kernel)
set_option maxRecDepth 20000 in
theorem gX2_rowGoesOut_X2_showColour : GoodIn wsX2_rowGoesOut (wsV RX2 109 RX2 yX2_showColour wsX2_showColour) := goodIn_app (goodIn_of _ (by decide +kernel)) ggX2_rowGoesOut_X2_showColour
set_option maxRecDepth 20000 in
theorem ggX2_rowGoesOut_X2_judgeScreen : GoodIn wsX2_rowGoesOut wsX2_judgeScreen := goodIn_r _ [55, 47, 19, 20, 21, 22, 23, 24, 25, 56, 57, 58, 59, 60, 61, 62, 63] (by decide +kernel) (by decide +kernel)
set_option maxRecDepth 20000 in
theorem gX2_rowGoesOut_X2_judgeScreen : GoodIn wsX2_rowGoesOut (wsV RX2 112 RX2 yX2_judgeScreen wsX2_judgeScreen) := goodIn_app (goodIn_of _ (by decide +kernel)) ggX2_rowGoesOut_X2_judgeScreen
end
section
theorem dX2_rowGoesOut_0 : decode cX2_rowGoesOut 0 = .ok (.aload_n 0, 1) := by decide +kernel
theorem dX2_rowGoesOut_1 : decode cX2_rowGoesOut 1 = .ok (.invokevirtual 100, 3) := by decide +kernel
theorem dX2_rowGoesOut_4 : decode cX2_rowGoesOut 4 = .ok (.istore_n 1, 1) := by decide +kernel
theorem dX2_rowGoesOut_5 : decode cX2_rowGoesOut 5 = .ok (.aload_n 0, 1) := by decide +kernel
theorem dX2_rowGoesOut_6 : decode cX2_rowGoesOut 6 = .ok (.getfield 9, 3) := by decide +kernel
theorem dX2_rowGoesOut_9 : decode cX2_rowGoesOut 9 = .ok (.bipush 7, 2) := by decide +kernel
theorem dX2_rowGoesOut_11 : decode cX2_rowGoesOut 11 = .ok (.iaload, 1) := by decide +kernel
theorem dX2_rowGoesOut_12 : decode cX2_rowGoesOut 12 = .ok (.istore_n 2, 1) := by decide +kernel
theorem dX2_rowGoesOut_13 : decode cX2_rowGoesOut 13 = .ok (.iload_n 2, 1) := by decide +kernel
theorem dX2_rowGoesOut_14 : decode cX2_rowGoesOut 14 = .ok (.ifCond .ne 16, 3) := by decide +kernel
theorem dX2_rowGoesOut_17 : decode cX2_rowGoesOut 17 = .ok (.aload_n 0, 1) := by decide +kernel
theorem dX2_rowGoesOut_18 : decode cX2_rowGoesOut 18 = .ok (.iconst 5, 1) := by decide +kernel
theorem dX2_rowGoesOut_19 : decode cX2_rowGoesOut 19 = .ok (.invokevirtual 54, 3) := by decide +kernel
theorem dX2_rowGoesOut_22 : decode cX2_rowGoesOut 22 = .ok (.iconst 1, 1) := by decide +kernel
theorem dX2_rowGoesOut_23 : decode cX2_rowGoesOut 23 = .ok (.if_icmp .ne 7, 3) := by decide +kernel
theorem dX2_rowGoesOut_26 : decode cX2_rowGoesOut 26 = .ok (.aload_n 0, 1) := by decide +kernel
theorem dX2_rowGoesOut_27 : decode cX2_rowGoesOut 27 = .ok (.invokevirtual 103, 3) := by decide +kernel
theorem dX2_rowGoesOut_30 : decode cX2_rowGoesOut 30 = .ok (.aload_n 0, 1) := by decide +kernel
theorem dX2_rowGoesOut_31 : decode cX2_rowGoesOut 31 = .ok (.getfield 9, 3) := by decide +kernel
theorem dX2_rowGoesOut_34 : decode cX2_rowGoesOut 34 = .ok (.iconst 2, 1) := by decide +kernel
theorem dX2_rowGoesOut_35 : decode cX2_rowGoesOut 35 = .ok (.iaload, 1) := by decide +kernel
theorem dX2_rowGoesOut_36 : decode cX2_rowGoesOut 36 = .ok (.ifCond .le 11, 3) := by decide +kernel
theorem dX2_rowGoesOut_39 : decode cX2_rowGoesOut 39 = .ok (.aload_n 0, 1) := by decide +kernel
theorem dX2_rowGoesOut_40 : decode cX2_rowGoesOut 40 = .ok (.iload_n 2, 1) := by decide +kernel
theorem dX2_rowGoesOut_41 : decode cX2_rowGoesOut 41 = .ok (.invokevirtual 106, 3) := by decide +kernel
theorem dX2_rowGoesOut_44 : decode cX2_rowGoesOut 44 = .ok (.goto 8, 3) := by decide +kernel
theorem dX2_rowGoesOut_47 : decode cX2_rowGoesOut 47 = .ok (.aload_n 0, 1) := by decide +kernel
theorem dX2_rowGoesOut_48 : decode cX2_rowGoesOut 48 = .ok (.iload_n 2, 1) := by decide +kernel
theorem dX2_rowGoesOut_49 : decode cX2_rowGoesOut 49 = .ok (.invokevirtual 109, 3) := by decide +kernel
theorem dX2_rowGoesOut_52 : decode cX2_rowGoesOut 52 = .ok (.aload_n 0, 1) := by decide +kernel
theorem dX2_rowGoesOut_53 : decode cX2_rowGoesOut 53 = .ok (.getfield 9, 3) := by decide +kernel
theorem dX2_rowGoesOut_56 : decode cX2_rowGoesOut 56 = .ok (.iconst 5, 1) := by decide +kernel
theorem dX2_rowGoesOut_57 : decode cX2_rowGoesOut 57 = .ok (.dup2, 1) := by decide +kernel
theorem dX2_rowGoesOut_58 : decode cX2_rowGoesOut 58 = .ok (.iaload, 1) := by decide +kernel
theorem dX2_rowGoesOut_59 : decode cX2_rowGoesOut 59 = .ok (.iconst 1, 1) := by decide +kernel
theorem dX2_rowGoesOut_60 : decode cX2_rowGoesOut 60 = .ok (.iadd, 1) := by decide +kernel
theorem dX2_rowGoesOut_61 : decode cX2_rowGoesOut 61 = .ok (.iastore, 1) := by decide +kernel
theorem dX2_rowGoesOut_62 : decode cX2_rowGoesOut 62 = .ok (.aload_n 0, 1) := by decide +kernel
theorem dX2_rowGoesOut_63 : decode cX2_rowGoesOut 63 = .ok (.getfield 9, 3) := by decide +kernel
theorem dX2_rowGoesOut_66 : decode cX2_rowGoesOut 66 = .ok (.bipush 7, 2) := by decide +kernel
theorem dX2_rowGoesOut_68 : decode cX2_rowGoesOut 68 = .ok (.iload_n 2, 1) := by decide +kernel
theorem dX2_rowGoesOut_69 : decode cX2_rowGoesOut 69 = .ok (.iconst 1, 1) := by decide +kernel
theorem dX2_rowGoesOut_70 : decode cX2_rowGoesOut 70 = .ok (.iadd, 1) := by decide +kernel
theorem dX2_rowGoesOut_71 : decode cX2_rowGoesOut 71 = .ok (.iastore, 1) := by decide +kernel
theorem dX2_rowGoesOut_72 : decode cX2_rowGoesOut 72 = .ok (.aload_n 0, 1) := by decide +kernel
theorem dX2_rowGoesOut_73 : decode cX2_rowGoesOut 73 = .ok (.getfield 9, 3) := by decide +kernel
theorem dX2_rowGoesOut_76 : decode cX2_rowGoesOut 76 = .ok (.bipush 7, 2) := by decide +kernel
theorem dX2_rowGoesOut_78 : decode cX2_rowGoesOut 78 = .ok (.iaload, 1) := by decide +kernel
theorem dX2_rowGoesOut_79 : decode cX2_rowGoesOut 79 = .ok (.iload_n 1, 1) := by decide +kernel
theorem dX2_rowGoesOut_80 : decode cX2_rowGoesOut 80 = .ok (.if_icmp .lt 38, 3) := by decide +kernel
theorem dX2_rowGoesOut_83 : decode cX2_rowGoesOut 83 = .ok (.aload_n 0, 1) := by decide +kernel
theorem dX2_rowGoesOut_84 : decode cX2_rowGoesOut 84 = .ok (.getfield 9, 3) := by decide +kernel
theorem dX2_rowGoesOut_87 : decode cX2_rowGoesOut 87 = .ok (.bipush 7, 2) := by decide +kernel
theorem dX2_rowGoesOut_89 : decode cX2_rowGoesOut 89 = .ok (.iconst 0, 1) := by decide +kernel
theorem dX2_rowGoesOut_90 : decode cX2_rowGoesOut 90 = .ok (.iastore, 1) := by decide +kernel
theorem dX2_rowGoesOut_91 : decode cX2_rowGoesOut 91 = .ok (.aload_n 0, 1) := by decide +kernel
theorem dX2_rowGoesOut_92 : decode cX2_rowGoesOut 92 = .ok (.iload_n 1, 1) := by decide +kernel
theorem dX2_rowGoesOut_93 : decode cX2_rowGoesOut 93 = .ok (.invokevirtual 112, 3) := by decide +kernel
theorem dX2_rowGoesOut_96 : decode cX2_rowGoesOut 96 = .ok (.istore_n 3, 1) := by decide +kernel
theorem dX2_rowGoesOut_97 : decode cX2_rowGoesOut 97 = .ok (.aload_n 0, 1) := by decide +kernel
theorem dX2_rowGoesOut_98 : decode cX2_rowGoesOut 98 = .ok (.getfield 9, 3) := by decide +kernel
theorem dX2_rowGoesOut_101 : decode cX2_rowGoesOut 101 = .ok (.bipush 12, 2) := by decide +kernel
theorem dX2_rowGoesOut_103 : decode cX2_rowGoesOut 103 = .ok (.iload_n 3, 1) := by decide +kernel
theorem dX2_rowGoesOut_104 : decode cX2_rowGoesOut 104 = .ok (.iadd, 1) := by decide +kernel
theorem dX2_rowGoesOut_105 : decode cX2_rowGoesOut 105 = .ok (.dup2, 1) := by decide +kernel
theorem dX2_rowGoesOut_106 : decode cX2_rowGoesOut 106 = .ok (.iaload, 1) := by decide +kernel
theorem dX2_rowGoesOut_107 : decode cX2_rowGoesOut 107 = .ok (.iconst 1, 1) := by decide +kernel
theorem dX2_rowGoesOut_108 : decode cX2_rowGoesOut 108 = .ok (.iadd, 1) := by decide +kernel
theorem dX2_rowGoesOut_109 : decode cX2_rowGoesOut 109 = .ok (.iastore, 1) := by decide +kernel
theorem dX2_rowGoesOut_110 : decode cX2_rowGoesOut 110 = .ok (.aload_n 0, 1) := by decide +kernel
theorem dX2_rowGoesOut_111 : decode cX2_rowGoesOut 111 = .ok (.getfield 9, 3) := by decide +kernel
theorem dX2_rowGoesOut_114 : decode cX2_rowGoesOut 114 = .ok (.bipush 15, 2) := by decide +kernel
theorem dX2_rowGoesOut_116 : decode cX2_rowGoesOut 116 = .ok (.iload_n 3, 1) := by decide +kernel
theorem dX2_rowGoesOut_117 : decode cX2_rowGoesOut 117 = .ok (.iastore, 1) := by decide +kernel
theorem dX2_rowGoesOut_118 : decode cX2_rowGoesOut 118 = .ok (.aload_n 0, 1) := by decide +kernel
theorem dX2_rowGoesOut_119 : decode cX2_rowGoesOut 119 = .ok (.getfield 9, 3) := by decide +kernel
theorem dX2_rowGoesOut_122 : decode cX2_rowGoesOut 122 = .ok (.bipush 11, 2) := by decide +kernel
theorem dX2_rowGoesOut_124 : decode cX2_rowGoesOut 124 = .ok (.dup2, 1) := by decide +kernel
theorem dX2_rowGoesOut_125 : decode cX2_rowGoesOut 125 = .ok (.iaload, 1) := by decide +kernel
theorem dX2_rowGoesOut_126 : decode cX2_rowGoesOut 126 = .ok (.aload_n 0, 1) := by decide +kernel
theorem dX2_rowGoesOut_127 : decode cX2_rowGoesOut 127 = .ok (.iconst 1, 1) := by decide +kernel
theorem dX2_rowGoesOut_128 : decode cX2_rowGoesOut 128 = .ok (.invokevirtual 54, 3) := by decide +kernel
theorem dX2_rowGoesOut_131 : decode cX2_rowGoesOut 131 = .ok (.iadd, 1) := by decide +kernel
theorem dX2_rowGoesOut_132 : decode cX2_rowGoesOut 132 = .ok (.iastore, 1) := by decide +kernel
theorem dX2_rowGoesOut_133 : decode cX2_rowGoesOut 133 = .ok (.return_, 1) := by decide +kernel
set_option maxRecDepth 20000 in
theorem ggX2_skipToPicture_X3_read : GoodIn wsX2_skipToPicture wsX3_read := goodIn_r _ [7, 8, 9, 34, 35] (by decide +kernel) (by decide +kernel)
set_option maxRecDepth 20000 in
theorem gX2_skipToPicture_X3_read : GoodIn wsX2_skipToPicture (wsV RX2 93 RX3 yX3_read wsX3_read) := goodIn_app (goodIn_of _ (by decide +kernel)) ggX2_skipToPicture_X3_read
set_option maxRecDepth 20000 in
theorem ggX2_skipToPicture_X2_loseWaiting : GoodIn wsX2_skipToPicture wsX2_loseWaiting := goodIn_r _ [14, 1, 15, 2, 3, 4, 5, 6, 7, 8, 9, 16, 17, 18, 19, 20, 21, 22, 23, 24, 25, 26, 27, 28, 29, 30, 31, 32, 33, 34, 35] (by decide +kernel) (by decide +kernel)
set_option maxRecDepth 20000 in
theorem gX2_skipToPicture_X2_loseWaiting : GoodIn wsX2_skipToPicture (wsV RX2 79 RX2 yX2_loseWaiting wsX2_loseWaiting) := goodIn_app (goodIn_of _ (by decide +kernel)) ggX2_skipToPicture_X2_loseWaiting
theorem dX2_skipToPicture_0 : decode cX2_skipToPicture 0 = .ok (.aload_n 0, 1) := by decide +kernel
theorem dX2_skipToPicture_1 : decode cX2_skipToPicture 1 = .ok (.getfield 9, 3) := by decide +kernel
theorem dX2_skipToPicture_4 : decode cX2_skipToPicture 4 = .ok (.iconst 2, 1) := by decide +kernel
theorem dX2_skipToPicture_5 : decode cX2_skipToPicture 5 = .ok (.iaload, 1) := by decide +kernel
theorem dX2_skipToPicture_6 : decode cX2_skipToPicture 6 = .ok (.istore_n 1, 1) := by decide +kernel
theorem dX2_skipToPicture_7 : decode cX2_skipToPicture 7 = .ok (.iconst 0, 1) := by decide +kernel
theorem dX2_skipToPicture_8 : decode cX2_skipToPicture 8 = .ok (.istore_n 2, 1) := by decide +kernel
theorem dX2_skipToPicture_9 : decode cX2_skipToPicture 9 = .ok (.iload_n 2, 1) := by decide +kernel
theorem dX2_skipToPicture_10 : decode cX2_skipToPicture 10 = .ok (.iload_n 1, 1) := by decide +kernel
theorem dX2_skipToPicture_11 : decode cX2_skipToPicture 11 = .ok (.if_icmp .ge 40, 3) := by decide +kernel
theorem dX2_skipToPicture_14 : decode cX2_skipToPicture 14 = .ok (.aload_n 0, 1) := by decide +kernel
theorem dX2_skipToPicture_15 : decode cX2_skipToPicture 15 = .ok (.getfield 23, 3) := by decide +kernel
theorem dX2_skipToPicture_18 : decode cX2_skipToPicture 18 = .ok (.iconst 0, 1) := by decide +kernel
theorem dX2_skipToPicture_19 : decode cX2_skipToPicture 19 = .ok (.iconst 1, 1) := by decide +kernel
theorem dX2_skipToPicture_20 : decode cX2_skipToPicture 20 = .ok (.invokevirtual 93, 3) := by decide +kernel
theorem dX2_skipToPicture_23 : decode cX2_skipToPicture 23 = .ok (.ifCond .ne 16, 3) := by decide +kernel
theorem dX2_skipToPicture_26 : decode cX2_skipToPicture 26 = .ok (.aload_n 0, 1) := by decide +kernel
theorem dX2_skipToPicture_27 : decode cX2_skipToPicture 27 = .ok (.getfield 23, 3) := by decide +kernel
theorem dX2_skipToPicture_30 : decode cX2_skipToPicture 30 = .ok (.iconst 0, 1) := by decide +kernel
theorem dX2_skipToPicture_31 : decode cX2_skipToPicture 31 = .ok (.iconst 3, 1) := by decide +kernel
theorem dX2_skipToPicture_32 : decode cX2_skipToPicture 32 = .ok (.invokevirtual 93, 3) := by decide +kernel
theorem dX2_skipToPicture_35 : decode cX2_skipToPicture 35 = .ok (.ifCond .ne 4, 3) := by decide +kernel
theorem dX2_skipToPicture_38 : decode cX2_skipToPicture 38 = .ok (.return_, 1) := by decide +kernel
theorem dX2_skipToPicture_39 : decode cX2_skipToPicture 39 = .ok (.aload_n 0, 1) := by decide +kernel
theorem dX2_skipToPicture_40 : decode cX2_skipToPicture 40 = .ok (.iconst 0, 1) := by decide +kernel
theorem dX2_skipToPicture_41 : decode cX2_skipToPicture 41 = .ok (.iconst 2, 1) := by decide +kernel
theorem dX2_skipToPicture_42 : decode cX2_skipToPicture 42 = .ok (.invokevirtual 79, 3) := by decide +kernel
theorem dX2_skipToPicture_45 : decode cX2_skipToPicture 45 = .ok (.iinc 2 1, 3) := by decide +kernel
theorem dX2_skipToPicture_48 : decode cX2_skipToPicture 48 = .ok (.goto (-39), 3) := by decide +kernel
theorem dX2_skipToPicture_51 : decode cX2_skipToPicture 51 = .ok (.return_, 1) := by decide +kernel
set_option maxRecDepth 20000 in
theorem ggX2_showFirstWaiting_X3_read : GoodIn wsX2_showFirstWaiting wsX3_read := goodIn_r _ [8, 9, 10, 29, 30] (by decide +kernel) (by decide +kernel)
set_option maxRecDepth 20000 in
theorem gX2_showFirstWaiting_X3_read : GoodIn wsX2_showFirstWaiting (wsV RX2 93 RX3 yX3_read wsX3_read) := goodIn_app (goodIn_of _ (by decide +kernel)) ggX2_showFirstWaiting_X3_read
set_option maxRecDepth 20000 in
theorem ggX2_showFirstWaiting_X3_write : GoodIn wsX2_showFirstWaiting wsX3_write := goodIn_r _ [14, 9, 10, 29, 30] (by decide +kernel) (by decide +kernel)
set_option maxRecDepth 20000 in
theorem gX2_showFirstWaiting_X3_write : GoodIn wsX2_showFirstWaiting (wsV RX2 90 RX3 yX3_write wsX3_write) := goodIn_app (goodIn_of _ (by decide +kernel)) ggX2_showFirstWaiting_X3_write
set_option maxRecDepth 20000 in
theorem ggX2_showFirstWaiting_X3_removeRow : GoodIn wsX2_showFirstWaiting wsX3_removeRow := goodIn_r _ [18, 9, 10, 19, 20, 21, 22, 29, 30] (by decide +kernel) (by decide +kernel)
set_option maxRecDepth 20000 in
theorem gX2_showFirstWaiting_X3_removeRow : GoodIn wsX2_showFirstWaiting (wsV RX2 96 RX3 yX3_removeRow wsX3_removeRow) := goodIn_app (goodIn_of _ (by decide +kernel)) ggX2_showFirstWaiting_X3_removeRow
theorem dX2_showFirstWaiting_0 : decode cX2_showFirstWaiting 0 = .ok (.aload_n 0, 1) := by decide +kernel
theorem dX2_showFirstWaiting_1 : decode cX2_showFirstWaiting 1 = .ok (.getfield 27, 3) := by decide +kernel
theorem dX2_showFirstWaiting_4 : decode cX2_showFirstWaiting 4 = .ok (.iload_n 1, 1) := by decide +kernel
theorem dX2_showFirstWaiting_5 : decode cX2_showFirstWaiting 5 = .ok (.iconst 0, 1) := by decide +kernel
theorem dX2_showFirstWaiting_6 : decode cX2_showFirstWaiting 6 = .ok (.aload_n 0, 1) := by decide +kernel
theorem dX2_showFirstWaiting_7 : decode cX2_showFirstWaiting 7 = .ok (.getfield 23, 3) := by decide +kernel
theorem dX2_showFirstWaiting_10 : decode cX2_showFirstWaiting 10 = .ok (.iconst 0, 1) := by decide +kernel
theorem dX2_showFirstWaiting_11 : decode cX2_showFirstWaiting 11 = .ok (.iconst 2, 1) := by decide +kernel
theorem dX2_showFirstWaiting_12 : decode cX2_showFirstWaiting 12 = .ok (.invokevirtual 93, 3) := by decide +kernel
theorem dX2_showFirstWaiting_15 : decode cX2_showFirstWaiting 15 = .ok (.invokevirtual 90, 3) := by decide +kernel
theorem dX2_showFirstWaiting_18 : decode cX2_showFirstWaiting 18 = .ok (.aload_n 0, 1) := by decide +kernel
theorem dX2_showFirstWaiting_19 : decode cX2_showFirstWaiting 19 = .ok (.getfield 27, 3) := by decide +kernel
theorem dX2_showFirstWaiting_22 : decode cX2_showFirstWaiting 22 = .ok (.iload_n 1, 1) := by decide +kernel
theorem dX2_showFirstWaiting_23 : decode cX2_showFirstWaiting 23 = .ok (.iconst 1, 1) := by decide +kernel
theorem dX2_showFirstWaiting_24 : decode cX2_showFirstWaiting 24 = .ok (.aload_n 0, 1) := by decide +kernel
theorem dX2_showFirstWaiting_25 : decode cX2_showFirstWaiting 25 = .ok (.getfield 23, 3) := by decide +kernel
theorem dX2_showFirstWaiting_28 : decode cX2_showFirstWaiting 28 = .ok (.iconst 0, 1) := by decide +kernel
theorem dX2_showFirstWaiting_29 : decode cX2_showFirstWaiting 29 = .ok (.iconst 0, 1) := by decide +kernel
theorem dX2_showFirstWaiting_30 : decode cX2_showFirstWaiting 30 = .ok (.invokevirtual 93, 3) := by decide +kernel
theorem dX2_showFirstWaiting_33 : decode cX2_showFirstWaiting 33 = .ok (.invokevirtual 90, 3) := by decide +kernel
theorem dX2_showFirstWaiting_36 : decode cX2_showFirstWaiting 36 = .ok (.aload_n 0, 1) := by decide +kernel
theorem dX2_showFirstWaiting_37 : decode cX2_showFirstWaiting 37 = .ok (.getfield 27, 3) := by decide +kernel
theorem dX2_showFirstWaiting_40 : decode cX2_showFirstWaiting 40 = .ok (.iload_n 1, 1) := by decide +kernel
theorem dX2_showFirstWaiting_41 : decode cX2_showFirstWaiting 41 = .ok (.iconst 2, 1) := by decide +kernel
theorem dX2_showFirstWaiting_42 : decode cX2_showFirstWaiting 42 = .ok (.aload_n 0, 1) := by decide +kernel
theorem dX2_showFirstWaiting_43 : decode cX2_showFirstWaiting 43 = .ok (.getfield 23, 3) := by decide +kernel
theorem dX2_showFirstWaiting_46 : decode cX2_showFirstWaiting 46 = .ok (.iconst 0, 1) := by decide +kernel
theorem dX2_showFirstWaiting_47 : decode cX2_showFirstWaiting 47 = .ok (.iconst 1, 1) := by decide +kernel
theorem dX2_showFirstWaiting_48 : decode cX2_showFirstWaiting 48 = .ok (.invokevirtual 93, 3) := by decide +kernel
theorem dX2_showFirstWaiting_51 : decode cX2_showFirstWaiting 51 = .ok (.invokevirtual 90, 3) := by decide +kernel
theorem dX2_showFirstWaiting_54 : decode cX2_showFirstWaiting 54 = .ok (.aload_n 0, 1) := by decide +kernel
theorem dX2_showFirstWaiting_55 : decode cX2_showFirstWaiting 55 = .ok (.getfield 23, 3) := by decide +kernel
theorem dX2_showFirstWaiting_58 : decode cX2_showFirstWaiting 58 = .ok (.iconst 0, 1) := by decide +kernel
theorem dX2_showFirstWaiting_59 : decode cX2_showFirstWaiting 59 = .ok (.iconst 3, 1) := by decide +kernel
theorem dX2_showFirstWaiting_60 : decode cX2_showFirstWaiting 60 = .ok (.invokevirtual 93, 3) := by decide +kernel
theorem dX2_showFirstWaiting_63 : decode cX2_showFirstWaiting 63 = .ok (.ifCond .ne 16, 3) := by decide +kernel
theorem dX2_showFirstWaiting_66 : decode cX2_showFirstWaiting 66 = .ok (.aload_n 0, 1) := by decide +kernel
theorem dX2_showFirstWaiting_67 : decode cX2_showFirstWaiting 67 = .ok (.getfield 23, 3) := by decide +kernel
theorem dX2_showFirstWaiting_70 : decode cX2_showFirstWaiting 70 = .ok (.iconst 0, 1) := by decide +kernel
theorem dX2_showFirstWaiting_71 : decode cX2_showFirstWaiting 71 = .ok (.iconst 3, 1) := by decide +kernel
theorem dX2_showFirstWaiting_72 : decode cX2_showFirstWaiting 72 = .ok (.iconst 1, 1) := by decide +kernel
theorem dX2_showFirstWaiting_73 : decode cX2_showFirstWaiting 73 = .ok (.invokevirtual 90, 3) := by decide +kernel
theorem dX2_showFirstWaiting_76 : decode cX2_showFirstWaiting 76 = .ok (.goto 31, 3) := by decide +kernel
theorem dX2_showFirstWaiting_79 : decode cX2_showFirstWaiting 79 = .ok (.aload_n 0, 1) := by decide +kernel
theorem dX2_showFirstWaiting_80 : decode cX2_showFirstWaiting 80 = .ok (.getfield 23, 3) := by decide +kernel
theorem dX2_showFirstWaiting_83 : decode cX2_showFirstWaiting 83 = .ok (.iconst 0, 1) := by decide +kernel
theorem dX2_showFirstWaiting_84 : decode cX2_showFirstWaiting 84 = .ok (.invokevirtual 96, 3) := by decide +kernel
theorem dX2_showFirstWaiting_87 : decode cX2_showFirstWaiting 87 = .ok (.aload_n 0, 1) := by decide +kernel
theorem dX2_showFirstWaiting_88 : decode cX2_showFirstWaiting 88 = .ok (.getfield 9, 3) := by decide +kernel
theorem dX2_showFirstWaiting_91 : decode cX2_showFirstWaiting 91 = .ok (.iconst 2, 1) := by decide +kernel
theorem dX2_showFirstWaiting_92 : decode cX2_showFirstWaiting 92 = .ok (.dup2, 1) := by decide +kernel
theorem dX2_showFirstWaiting_93 : decode cX2_showFirstWaiting 93 = .ok (.iaload, 1) := by decide +kernel
theorem dX2_showFirstWaiting_94 : decode cX2_showFirstWaiting 94 = .ok (.iconst 1, 1) := by decide +kernel
theorem dX2_showFirstWaiting_95 : decode cX2_showFirstWaiting 95 = .ok (.isub, 1) := by decide +kernel
theorem dX2_showFirstWaiting_96 : decode cX2_showFirstWaiting 96 = .ok (.iastore, 1) := by decide +kernel
theorem dX2_showFirstWaiting_97 : decode cX2_showFirstWaiting 97 = .ok (.aload_n 0, 1) := by decide +kernel
theorem dX2_showFirstWaiting_98 : decode cX2_showFirstWaiting 98 = .ok (.getfield 9, 3) := by decide +kernel
theorem dX2_showFirstWaiting_101 : decode cX2_showFirstWaiting 101 = .ok (.iconst 3, 1) := by decide +kernel
theorem dX2_showFirstWaiting_102 : decode cX2_showFirstWaiting 102 = .ok (.dup2, 1) := by decide +kernel
theorem dX2_showFirstWaiting_103 : decode cX2_showFirstWaiting 103 = .ok (.iaload, 1) := by decide +kernel
theorem dX2_showFirstWaiting_104 : decode cX2_showFirstWaiting 104 = .ok (.iconst 1, 1) := by decide +kernel
theorem dX2_showFirstWaiting_105 : decode cX2_showFirstWaiting 105 = .ok (.iadd, 1) := by decide +kernel
theorem dX2_showFirstWaiting_106 : decode cX2_showFirstWaiting 106 = .ok (.iastore, 1) := by decide +kernel
theorem dX2_showFirstWaiting_107 : decode cX2_showFirstWaiting 107 = .ok (.return_, 1) := by decide +kernel
set_option maxRecDepth 20000 in
theorem ggX2_showColour_X2_setting : GoodIn wsX2_showColour wsX2_setting := goodIn_r _ [7, 2, 8, 9, 10, 18, 19, 20, 21, 22, 23] (by decide +kernel) (by decide +kernel)
set_option maxRecDepth 20000 in
theorem gX2_showColour_X2_setting : GoodIn wsX2_showColour (wsV RX2 54 RX2 yX2_setting wsX2_setting) := goodIn_app (goodIn_of _ (by decide +kernel)) ggX2_showColour_X2_setting
set_option maxRecDepth 20000 in
theorem ggX2_showColour_X3_write : GoodIn wsX2_showColour wsX3_write := goodIn_r _ [15, 16, 17, 24, 25] (by decide +kernel) (by decide +kernel)
set_option maxRecDepth 20000 in
theorem gX2_showColour_X3_write : GoodIn wsX2_showColour (wsV RX2 90 RX3 yX3_write wsX3_write) := goodIn_app (goodIn_of _ (by decide +kernel)) ggX2_showColour_X3_write
theorem dX2_showColour_0 : decode cX2_showColour 0 = .ok (.aload_n 0, 1) := by decide +kernel
theorem dX2_showColour_1 : decode cX2_showColour 1 = .ok (.getfield 27, 3) := by decide +kernel
theorem dX2_showColour_4 : decode cX2_showColour 4 = .ok (.iload_n 1, 1) := by decide +kernel
theorem dX2_showColour_5 : decode cX2_showColour 5 = .ok (.iconst 0, 1) := by decide +kernel
theorem dX2_showColour_6 : decode cX2_showColour 6 = .ok (.aload_n 0, 1) := by decide +kernel
theorem dX2_showColour_7 : decode cX2_showColour 7 = .ok (.bipush 6, 2) := by decide +kernel
theorem dX2_showColour_9 : decode cX2_showColour 9 = .ok (.invokevirtual 54, 3) := by decide +kernel
theorem dX2_showColour_12 : decode cX2_showColour 12 = .ok (.invokevirtual 90, 3) := by decide +kernel
theorem dX2_showColour_15 : decode cX2_showColour 15 = .ok (.aload_n 0, 1) := by decide +kernel
theorem dX2_showColour_16 : decode cX2_showColour 16 = .ok (.getfield 27, 3) := by decide +kernel
theorem dX2_showColour_19 : decode cX2_showColour 19 = .ok (.iload_n 1, 1) := by decide +kernel
theorem dX2_showColour_20 : decode cX2_showColour 20 = .ok (.iconst 1, 1) := by decide +kernel
theorem dX2_showColour_21 : decode cX2_showColour 21 = .ok (.bipush (-6), 2) := by decide +kernel
theorem dX2_showColour_23 : decode cX2_showColour 23 = .ok (.invokevirtual 90, 3) := by decide +kernel
theorem dX2_showColour_26 : decode cX2_showColour 26 = .ok (.aload_n 0, 1) := by decide +kernel
theorem dX2_showColour_27 : decode cX2_showColour 27 = .ok (.getfield 27, 3) := by decide +kernel
theorem dX2_showColour_30 : decode cX2_showColour 30 = .ok (.iload_n 1, 1) := by decide +kernel
theorem dX2_showColour_31 : decode cX2_showColour 31 = .ok (.iconst 2, 1) := by decide +kernel
theorem dX2_showColour_32 : decode cX2_showColour 32 = .ok (.bipush (-6), 2) := by decide +kernel
theorem dX2_showColour_34 : decode cX2_showColour 34 = .ok (.invokevirtual 90, 3) := by decide +kernel
theorem dX2_showColour_37 : decode cX2_showColour 37 = .ok (.aload_n 0, 1) := by decide +kernel
theorem dX2_showColour_38 : decode cX2_showColour 38 = .ok (.getfield 9, 3) := by decide +kernel
theorem dX2_showColour_41 : decode cX2_showColour 41 = .ok (.bipush 6, 2) := by decide +kernel
theorem dX2_showColour_43 : decode cX2_showColour 43 = .ok (.dup2, 1) := by decide +kernel
theorem dX2_showColour_44 : decode cX2_showColour 44 = .ok (.iaload, 1) := by decide +kernel
theorem dX2_showColour_45 : decode cX2_showColour 45 = .ok (.iconst 1, 1) := by decide +kernel
theorem dX2_showColour_46 : decode cX2_showColour 46 = .ok (.iadd, 1) := by decide +kernel
theorem dX2_showColour_47 : decode cX2_showColour 47 = .ok (.iastore, 1) := by decide +kernel
theorem dX2_showColour_48 : decode cX2_showColour 48 = .ok (.return_, 1) := by decide +kernel
set_option maxRecDepth 20000 in
theorem ggX2_judgeScreen_X3_read : GoodIn wsX2_judgeScreen wsX3_read := goodIn_r _ [6, 7, 8, 15, 16] (by decide +kernel) (by decide +kernel)
set_option maxRecDepth 20000 in
theorem gX2_judgeScreen_X3_read : GoodIn wsX2_judgeScreen (wsV RX2 93 RX3 yX3_read wsX3_read) := goodIn_app (goodIn_of _ (by decide +kernel)) ggX2_judgeScreen_X3_read
theorem dX2_judgeScreen_0 : decode cX2_judgeScreen 0 = .ok (.aload_n 0, 1) := by decide +kernel
theorem dX2_judgeScreen_1 : decode cX2_judgeScreen 1 = .ok (.getfield 27, 3) := by decide +kernel
theorem dX2_judgeScreen_4 : decode cX2_judgeScreen 4 = .ok (.iconst 0, 1) := by decide +kernel
theorem dX2_judgeScreen_5 : decode cX2_judgeScreen 5 = .ok (.iconst 1, 1) := by decide +kernel
theorem dX2_judgeScreen_6 : decode cX2_judgeScreen 6 = .ok (.invokevirtual 93, 3) := by decide +kernel
theorem dX2_judgeScreen_9 : decode cX2_judgeScreen 9 = .ok (.istore_n 2, 1) := by decide +kernel
theorem dX2_judgeScreen_10 : decode cX2_judgeScreen 10 = .ok (.iconst 0, 1) := by decide +kernel
theorem dX2_judgeScreen_11 : decode cX2_judgeScreen 11 = .ok (.istore_n 3, 1) := by decide +kernel
theorem dX2_judgeScreen_12 : decode cX2_judgeScreen 12 = .ok (.iconst 0, 1) := by decide +kernel
theorem dX2_judgeScreen_13 : decode cX2_judgeScreen 13 = .ok (.istore 4, 2) := by decide +kernel
theorem dX2_judgeScreen_15 : decode cX2_judgeScreen 15 = .ok (.iload 4, 2) := by decide +kernel
theorem dX2_judgeScreen_17 : decode cX2_judgeScreen 17 = .ok (.iload_n 1, 1) := by decide +kernel
theorem dX2_judgeScreen_18 : decode cX2_judgeScreen 18 = .ok (.if_icmp .ge 59, 3) := by decide +kernel
theorem dX2_judgeScreen_21 : decode cX2_judgeScreen 21 = .ok (.aload_n 0, 1) := by decide +kernel
theorem dX2_judgeScreen_22 : decode cX2_judgeScreen 22 = .ok (.getfield 27, 3) := by decide +kernel
theorem dX2_judgeScreen_25 : decode cX2_judgeScreen 25 = .ok (.iload 4, 2) := by decide +kernel
theorem dX2_judgeScreen_27 : decode cX2_judgeScreen 27 = .ok (.iconst 1, 1) := by decide +kernel
theorem dX2_judgeScreen_28 : decode cX2_judgeScreen 28 = .ok (.invokevirtual 93, 3) := by decide +kernel
theorem dX2_judgeScreen_31 : decode cX2_judgeScreen 31 = .ok (.bipush (-6), 2) := by decide +kernel
theorem dX2_judgeScreen_33 : decode cX2_judgeScreen 33 = .ok (.if_icmp .ne 5, 3) := by decide +kernel
theorem dX2_judgeScreen_36 : decode cX2_judgeScreen 36 = .ok (.iconst 2, 1) := by decide +kernel
theorem dX2_judgeScreen_37 : decode cX2_judgeScreen 37 = .ok (.ireturn, 1) := by decide +kernel
theorem dX2_judgeScreen_38 : decode cX2_judgeScreen 38 = .ok (.aload_n 0, 1) := by decide +kernel
theorem dX2_judgeScreen_39 : decode cX2_judgeScreen 39 = .ok (.getfield 27, 3) := by decide +kernel
theorem dX2_judgeScreen_42 : decode cX2_judgeScreen 42 = .ok (.iload 4, 2) := by decide +kernel
theorem dX2_judgeScreen_44 : decode cX2_judgeScreen 44 = .ok (.iconst 1, 1) := by decide +kernel
theorem dX2_judgeScreen_45 : decode cX2_judgeScreen 45 = .ok (.invokevirtual 93, 3) := by decide +kernel
theorem dX2_judgeScreen_48 : decode cX2_judgeScreen 48 = .ok (.iload_n 2, 1) := by decide +kernel
theorem dX2_judgeScreen_49 : decode cX2_judgeScreen 49 = .ok (.if_icmp .ne 20, 3) := by decide +kernel
theorem dX2_judgeScreen_52 : decode cX2_judgeScreen 52 = .ok (.aload_n 0, 1) := by decide +kernel
theorem dX2_judgeScreen_53 : decode cX2_judgeScreen 53 = .ok (.getfield 27, 3) := by decide +kernel
theorem dX2_judgeScreen_56 : decode cX2_judgeScreen 56 = .ok (.iload 4, 2) := by decide +kernel
theorem dX2_judgeScreen_58 : decode cX2_judgeScreen 58 = .ok (.iconst 2, 1) := by decide +kernel
theorem dX2_judgeScreen_59 : decode cX2_judgeScreen 59 = .ok (.invokevirtual 93, 3) := by decide +kernel
theorem dX2_judgeScreen_62 : decode cX2_judgeScreen 62 = .ok (.iload 4, 2) := by decide +kernel
theorem dX2_judgeScreen_64 : decode cX2_judgeScreen 64 = .ok (.iconst 2, 1) := by decide +kernel
theorem dX2_judgeScreen_65 : decode cX2_judgeScreen 65 = .ok (.idiv, 1) := by decide +kernel
theorem dX2_judgeScreen_66 : decode cX2_judgeScreen 66 = .ok (.if_icmp .eq 5, 3) := by decide +kernel
theorem dX2_judgeScreen_69 : decode cX2_judgeScreen 69 = .ok (.iconst 1, 1) := by decide +kernel
theorem dX2_judgeScreen_70 : decode cX2_judgeScreen 70 = .ok (.istore_n 3, 1) := by decide +kernel
theorem dX2_judgeScreen_71 : decode cX2_judgeScreen 71 = .ok (.iinc 4 1, 3) := by decide +kernel
theorem dX2_judgeScreen_74 : decode cX2_judgeScreen 74 = .ok (.goto (-59), 3) := by decide +kernel
theorem dX2_judgeScreen_77 : decode cX2_judgeScreen 77 = .ok (.iload_n 3, 1) := by decide +kernel
theorem dX2_judgeScreen_78 : decode cX2_judgeScreen 78 = .ok (.ireturn, 1) := by decide +kernel
theorem dX3_init_0 : decode cX3_init 0 = .ok (.aload_n 0, 1) := by decide +kernel
theorem dX3_init_1 : decode cX3_init 1 = .ok (.invokespecial 3, 3) := by decide +kernel
theorem dX3_init_4 : decode cX3_init 4 = .ok (.aload_n 0, 1) := by decide +kernel
theorem dX3_init_5 : decode cX3_init 5 = .ok (.iload_n 2, 1) := by decide +kernel
theorem dX3_init_6 : decode cX3_init 6 = .ok (.putfield 9, 3) := by decide +kernel
theorem dX3_init_9 : decode cX3_init 9 = .ok (.aload_n 0, 1) := by decide +kernel
theorem dX3_init_10 : decode cX3_init 10 = .ok (.iconst 0, 1) := by decide +kernel
theorem dX3_init_11 : decode cX3_init 11 = .ok (.iload_n 1, 1) := by decide +kernel
theorem dX3_init_12 : decode cX3_init 12 = .ok (.iload_n 2, 1) := by decide +kernel
theorem dX3_init_13 : decode cX3_init 13 = .ok (.imul, 1) := by decide +kernel
theorem dX3_init_14 : decode cX3_init 14 = .ok (.invokestatic 15, 3) := by decide +kernel
theorem dX3_init_17 : decode cX3_init 17 = .ok (.newarray .int, 2) := by decide +kernel
theorem dX3_init_19 : decode cX3_init 19 = .ok (.putfield 21, 3) := by decide +kernel
theorem dX3_init_22 : decode cX3_init 22 = .ok (.iconst 0, 1) := by decide +kernel
theorem dX3_init_23 : decode cX3_init 23 = .ok (.istore 4, 2) := by decide +kernel
theorem dX3_init_25 : decode cX3_init 25 = .ok (.iload 4, 2) := by decide +kernel
theorem dX3_init_27 : decode cX3_init 27 = .ok (.aload_n 0, 1) := by decide +kernel
theorem dX3_init_28 : decode cX3_init 28 = .ok (.getfield 21, 3) := by decide +kernel
theorem dX3_init_31 : decode cX3_init 31 = .ok (.arraylength, 1) := by decide +kernel
theorem dX3_init_32 : decode cX3_init 32 = .ok (.if_icmp .ge 17, 3) := by decide +kernel
theorem dX3_init_35 : decode cX3_init 35 = .ok (.aload_n 0, 1) := by decide +kernel
theorem dX3_init_36 : decode cX3_init 36 = .ok (.getfield 21, 3) := by decide +kernel
theorem dX3_init_39 : decode cX3_init 39 = .ok (.iload 4, 2) := by decide +kernel
theorem dX3_init_41 : decode cX3_init 41 = .ok (.iload_n 3, 1) := by decide +kernel
theorem dX3_init_42 : decode cX3_init 42 = .ok (.iastore, 1) := by decide +kernel
theorem dX3_init_43 : decode cX3_init 43 = .ok (.iinc 4 1, 3) := by decide +kernel
theorem dX3_init_46 : decode cX3_init 46 = .ok (.goto (-21), 3) := by decide +kernel
theorem dX3_init_49 : decode cX3_init 49 = .ok (.return_, 1) := by decide +kernel
theorem dX3_read_0 : decode cX3_read 0 = .ok (.iload_n 1, 1) := by decide +kernel
theorem dX3_read_1 : decode cX3_read 1 = .ok (.aload_n 0, 1) := by decide +kernel
theorem dX3_read_2 : decode cX3_read 2 = .ok (.getfield 9, 3) := by decide +kernel
theorem dX3_read_5 : decode cX3_read 5 = .ok (.imul, 1) := by decide +kernel
theorem dX3_read_6 : decode cX3_read 6 = .ok (.iload_n 2, 1) := by decide +kernel
theorem dX3_read_7 : decode cX3_read 7 = .ok (.iadd, 1) := by decide +kernel
theorem dX3_read_8 : decode cX3_read 8 = .ok (.istore_n 3, 1) := by decide +kernel
theorem dX3_read_9 : decode cX3_read 9 = .ok (.iload_n 3, 1) := by decide +kernel
theorem dX3_read_10 : decode cX3_read 10 = .ok (.ifCond .lt 21, 3) := by decide +kernel
theorem dX3_read_13 : decode cX3_read 13 = .ok (.iload_n 3, 1) := by decide +kernel
theorem dX3_read_14 : decode cX3_read 14 = .ok (.aload_n 0, 1) := by decide +kernel
theorem dX3_read_15 : decode cX3_read 15 = .ok (.getfield 21, 3) := by decide +kernel
theorem dX3_read_18 : decode cX3_read 18 = .ok (.arraylength, 1) := by decide +kernel
theorem dX3_read_19 : decode cX3_read 19 = .ok (.if_icmp .ge 12, 3) := by decide +kernel
theorem dX3_read_22 : decode cX3_read 22 = .ok (.aload_n 0, 1) := by decide +kernel
theorem dX3_read_23 : decode cX3_read 23 = .ok (.getfield 21, 3) := by decide +kernel
theorem dX3_read_26 : decode cX3_read 26 = .ok (.iload_n 3, 1) := by decide +kernel
theorem dX3_read_27 : decode cX3_read 27 = .ok (.iaload, 1) := by decide +kernel
theorem dX3_read_28 : decode cX3_read 28 = .ok (.goto 5, 3) := by decide +kernel
theorem dX3_read_31 : decode cX3_read 31 = .ok (.bipush (-6), 2) := by decide +kernel
theorem dX3_read_33 : decode cX3_read 33 = .ok (.ireturn, 1) := by decide +kernel
theorem dX3_write_0 : decode cX3_write 0 = .ok (.iload_n 1, 1) := by decide +kernel
theorem dX3_write_1 : decode cX3_write 1 = .ok (.aload_n 0, 1) := by decide +kernel
theorem dX3_write_2 : decode cX3_write 2 = .ok (.getfield 9, 3) := by decide +kernel
theorem dX3_write_5 : decode cX3_write 5 = .ok (.imul, 1) := by decide +kernel
theorem dX3_write_6 : decode cX3_write 6 = .ok (.iload_n 2, 1) := by decide +kernel
theorem dX3_write_7 : decode cX3_write 7 = .ok (.iadd, 1) := by decide +kernel
theorem dX3_write_8 : decode cX3_write 8 = .ok (.istore 4, 2) := by decide +kernel
theorem dX3_write_10 : decode cX3_write 10 = .ok (.iload 4, 2) := by decide +kernel
theorem dX3_write_12 : decode cX3_write 12 = .ok (.ifCond .lt 21, 3) := by decide +kernel
theorem dX3_write_15 : decode cX3_write 15 = .ok (.iload 4, 2) := by decide +kernel
theorem dX3_write_17 : decode cX3_write 17 = .ok (.aload_n 0, 1) := by decide +kernel
theorem dX3_write_18 : decode cX3_write 18 = .ok (.getfield 21, 3) := by decide +kernel
theorem dX3_write_21 : decode cX3_write 21 = .ok (.arraylength, 1) := by decide +kernel
theorem dX3_write_22 : decode cX3_write 22 = .ok (.if_icmp .ge 11, 3) := by decide +kernel
theorem dX3_write_25 : decode cX3_write 25 = .ok (.aload_n 0, 1) := by decide +kernel
theorem dX3_write_26 : decode cX3_write 26 = .ok (.getfield 21, 3) := by decide +kernel
theorem dX3_write_29 : decode cX3_write 29 = .ok (.iload 4, 2) := by decide +kernel
theorem dX3_write_31 : decode cX3_write 31 = .ok (.iload_n 3, 1) := by decide +kernel
theorem dX3_write_32 : decode cX3_write 32 = .ok (.iastore, 1) := by decide +kernel
theorem dX3_write_33 : decode cX3_write 33 = .ok (.return_, 1) := by decide +kernel
theorem dX3_removeRow_0 : decode cX3_removeRow 0 = .ok (.iload_n 1, 1) := by decide +kernel
theorem dX3_removeRow_1 : decode cX3_removeRow 1 = .ok (.aload_n 0, 1) := by decide +kernel
theorem dX3_removeRow_2 : decode cX3_removeRow 2 = .ok (.getfield 9, 3) := by decide +kernel
theorem dX3_removeRow_5 : decode cX3_removeRow 5 = .ok (.imul, 1) := by decide +kernel
theorem dX3_removeRow_6 : decode cX3_removeRow 6 = .ok (.istore_n 2, 1) := by decide +kernel
theorem dX3_removeRow_7 : decode cX3_removeRow 7 = .ok (.iload_n 2, 1) := by decide +kernel
theorem dX3_removeRow_8 : decode cX3_removeRow 8 = .ok (.aload_n 0, 1) := by decide +kernel
theorem dX3_removeRow_9 : decode cX3_removeRow 9 = .ok (.getfield 9, 3) := by decide +kernel
theorem dX3_removeRow_12 : decode cX3_removeRow 12 = .ok (.iadd, 1) := by decide +kernel
theorem dX3_removeRow_13 : decode cX3_removeRow 13 = .ok (.istore_n 3, 1) := by decide +kernel
theorem dX3_removeRow_14 : decode cX3_removeRow 14 = .ok (.iload_n 2, 1) := by decide +kernel
theorem dX3_removeRow_15 : decode cX3_removeRow 15 = .ok (.ifCond .lt 32, 3) := by decide +kernel
theorem dX3_removeRow_18 : decode cX3_removeRow 18 = .ok (.iload_n 3, 1) := by decide +kernel
theorem dX3_removeRow_19 : decode cX3_removeRow 19 = .ok (.aload_n 0, 1) := by decide +kernel
theorem dX3_removeRow_20 : decode cX3_removeRow 20 = .ok (.getfield 21, 3) := by decide +kernel
theorem dX3_removeRow_23 : decode cX3_removeRow 23 = .ok (.arraylength, 1) := by decide +kernel
theorem dX3_removeRow_24 : decode cX3_removeRow 24 = .ok (.if_icmp .gt 23, 3) := by decide +kernel
theorem dX3_removeRow_27 : decode cX3_removeRow 27 = .ok (.aload_n 0, 1) := by decide +kernel
theorem dX3_removeRow_28 : decode cX3_removeRow 28 = .ok (.getfield 21, 3) := by decide +kernel
theorem dX3_removeRow_31 : decode cX3_removeRow 31 = .ok (.iload_n 3, 1) := by decide +kernel
theorem dX3_removeRow_32 : decode cX3_removeRow 32 = .ok (.aload_n 0, 1) := by decide +kernel
theorem dX3_removeRow_33 : decode cX3_removeRow 33 = .ok (.getfield 21, 3) := by decide +kernel
theorem dX3_removeRow_36 : decode cX3_removeRow 36 = .ok (.iload_n 2, 1) := by decide +kernel
theorem dX3_removeRow_37 : decode cX3_removeRow 37 = .ok (.aload_n 0, 1) := by decide +kernel
theorem dX3_removeRow_38 : decode cX3_removeRow 38 = .ok (.getfield 21, 3) := by decide +kernel
theorem dX3_removeRow_41 : decode cX3_removeRow 41 = .ok (.arraylength, 1) := by decide +kernel
theorem dX3_removeRow_42 : decode cX3_removeRow 42 = .ok (.iload_n 3, 1) := by decide +kernel
theorem dX3_removeRow_43 : decode cX3_removeRow 43 = .ok (.isub, 1) := by decide +kernel
theorem dX3_removeRow_44 : decode cX3_removeRow 44 = .ok (.invokestatic 25, 3) := by decide +kernel
theorem dX3_removeRow_47 : decode cX3_removeRow 47 = .ok (.return_, 1) := by decide +kernel
theorem dX3_copyFrom_0 : decode cX3_copyFrom 0 = .ok (.aload_n 1, 1) := by decide +kernel
theorem dX3_copyFrom_1 : decode cX3_copyFrom 1 = .ok (.getfield 21, 3) := by decide +kernel
theorem dX3_copyFrom_4 : decode cX3_copyFrom 4 = .ok (.iconst 0, 1) := by decide +kernel
theorem dX3_copyFrom_5 : decode cX3_copyFrom 5 = .ok (.aload_n 0, 1) := by decide +kernel
theorem dX3_copyFrom_6 : decode cX3_copyFrom 6 = .ok (.getfield 21, 3) := by decide +kernel
theorem dX3_copyFrom_9 : decode cX3_copyFrom 9 = .ok (.iconst 0, 1) := by decide +kernel
theorem dX3_copyFrom_10 : decode cX3_copyFrom 10 = .ok (.aload_n 1, 1) := by decide +kernel
theorem dX3_copyFrom_11 : decode cX3_copyFrom 11 = .ok (.getfield 21, 3) := by decide +kernel
theorem dX3_copyFrom_14 : decode cX3_copyFrom 14 = .ok (.arraylength, 1) := by decide +kernel
theorem dX3_copyFrom_15 : decode cX3_copyFrom 15 = .ok (.aload_n 0, 1) := by decide +kernel
theorem dX3_copyFrom_16 : decode cX3_copyFrom 16 = .ok (.getfield 21, 3) := by decide +kernel
theorem dX3_copyFrom_19 : decode cX3_copyFrom 19 = .ok (.arraylength, 1) := by decide +kernel
theorem dX3_copyFrom_20 : decode cX3_copyFrom 20 = .ok (.invokestatic 31, 3) := by decide +kernel
theorem dX3_copyFrom_23 : decode cX3_copyFrom 23 = .ok (.invokestatic 25, 3) := by decide +kernel
theorem dX3_copyFrom_26 : decode cX3_copyFrom 26 = .ok (.return_, 1) := by decide +kernel
set_option maxRecDepth 20000 in
theorem ggX4_init_X2_init : GoodIn wsX4_init wsX2_init := goodIn_r _ [20, 21, 2, 3, 22, 23, 24, 25, 26, 27, 28, 29, 30, 31, 32, 33, 34, 35, 36, 37, 38, 39, 40, 51, 52, 53, 54, 55, 56, 71, 72] (by decide +kernel) (by decide +kernel)
set_option maxRecDepth 20000 in
theorem gX4_init_X2_init : GoodIn wsX4_init (wsX2_init) := ggX4_init_X2_init
set_option maxRecDepth 20000 in
theorem ggX4_init_X0_init : GoodIn wsX4_init wsX0_init := goodIn_r _ [42, 43, 2, 3, 44, 45, 62, 63, 64] (by decide +kernel) (by decide +kernel)
set_option maxRecDepth 20000 in
theorem gX4_init_X0_init_n25 : GoodIn wsX4_init (wsX0_init) := ggX4_init_X0_init
set_option maxRecDepth 20000 in
theorem ggX4_init_X1_init : GoodIn wsX4_init wsX1_init := goodIn_r _ [47, 48, 2, 3, 49, 50, 65, 66, 67, 68, 69, 70] (by decide +kernel) (by decide +kernel)
set_option maxRecDepth 20000 in
theorem gX4_init_X1_init_n32 : GoodIn wsX4_init (wsX1_init) := ggX4_init_X1_init
theorem dX4_init_0 : decode cX4_init 0 = .ok (.aload_n 0, 1) := by decide +kernel
theorem dX4_init_1 : decode cX4_init 1 = .ok (.invokespecial 1, 3) := by decide +kernel
theorem dX4_init_4 : decode cX4_init 4 = .ok (.aload_n 0, 1) := by decide +kernel
theorem dX4_init_5 : decode cX4_init 5 = .ok (.new 7, 3) := by decide +kernel
theorem dX4_init_8 : decode cX4_init 8 = .ok (.dup, 1) := by decide +kernel
theorem dX4_init_9 : decode cX4_init 9 = .ok (.invokespecial 9, 3) := by decide +kernel
theorem dX4_init_12 : decode cX4_init 12 = .ok (.putfield 10, 3) := by decide +kernel
theorem dX4_init_15 : decode cX4_init 15 = .ok (.aload_n 0, 1) := by decide +kernel
theorem dX4_init_16 : decode cX4_init 16 = .ok (.new 7, 3) := by decide +kernel
theorem dX4_init_19 : decode cX4_init 19 = .ok (.dup, 1) := by decide +kernel
theorem dX4_init_20 : decode cX4_init 20 = .ok (.invokespecial 9, 3) := by decide +kernel
theorem dX4_init_23 : decode cX4_init 23 = .ok (.putfield 16, 3) := by decide +kernel
theorem dX4_init_26 : decode cX4_init 26 = .ok (.aload_n 0, 1) := by decide +kernel
theorem dX4_init_27 : decode cX4_init 27 = .ok (.iconst 2, 1) := by decide +kernel
theorem dX4_init_28 : decode cX4_init 28 = .ok (.anewarray 7, 3) := by decide +kernel
theorem dX4_init_31 : decode cX4_init 31 = .ok (.putfield 19, 3) := by decide +kernel
theorem dX4_init_34 : decode cX4_init 34 = .ok (.aload_n 0, 1) := by decide +kernel
theorem dX4_init_35 : decode cX4_init 35 = .ok (.new 23, 3) := by decide +kernel
theorem dX4_init_38 : decode cX4_init 38 = .ok (.dup, 1) := by decide +kernel
theorem dX4_init_39 : decode cX4_init 39 = .ok (.invokespecial 25, 3) := by decide +kernel
theorem dX4_init_42 : decode cX4_init 42 = .ok (.putfield 26, 3) := by decide +kernel
theorem dX4_init_45 : decode cX4_init 45 = .ok (.aload_n 0, 1) := by decide +kernel
theorem dX4_init_46 : decode cX4_init 46 = .ok (.new 30, 3) := by decide +kernel
theorem dX4_init_49 : decode cX4_init 49 = .ok (.dup, 1) := by decide +kernel
theorem dX4_init_50 : decode cX4_init 50 = .ok (.invokespecial 32, 3) := by decide +kernel
theorem dX4_init_53 : decode cX4_init 53 = .ok (.putfield 33, 3) := by decide +kernel
theorem dX4_init_56 : decode cX4_init 56 = .ok (.return_, 1) := by decide +kernel
set_option maxRecDepth 20000 in
theorem ggX4_set_X0_prepare : GoodIn wsX4_set wsX0_prepare := goodIn_r _ [7, 8, 9, 10, 11, 12, 13, 14, 15, 16, 17, 18, 19, 20, 21, 22, 23, 24, 25, 26, 27, 28, 29, 30, 31, 32, 33, 34, 35, 36, 37, 38, 39, 40, 41, 42, 43, 44, 45, 46, 47, 48, 49, 50, 51, 52, 53, 54, 55, 56, 57, 58, 74, 75, 76, 77, 78, 79, 80, 81, 82, 83, 84] (by decide +kernel) (by decide +kernel)
set_option maxRecDepth 20000 in
theorem gX4_set_X0_prepare : GoodIn wsX4_set (wsV RX4 37 RX0 yX0_prepare wsX0_prepare) := goodIn_app (goodIn_of _ (by decide +kernel)) ggX4_set_X0_prepare
set_option maxRecDepth 20000 in
theorem ggX4_set_X2_changeSetting : GoodIn wsX4_set wsX2_changeSetting := goodIn_r _ [62, 24, 63, 12, 64, 77, 78, 79, 80, 81, 82] (by decide +kernel) (by decide +kernel)
set_option maxRecDepth 20000 in
theorem gX4_set_X2_changeSetting : GoodIn wsX4_set (wsV RX4 41 RX2 yX2_changeSetting wsX2_changeSetting) := goodIn_app (goodIn_of _ (by decide +kernel)) ggX4_set_X2_changeSetting
set_option maxRecDepth 20000 in
theorem ggX4_set_X0_keepIfDone : GoodIn wsX4_set wsX0_keepIfDone := goodIn_r _ [68, 10, 9, 74, 75, 76] (by decide +kernel) (by decide +kernel)
set_option maxRecDepth 20000 in
theorem gX4_set_X0_keepIfDone : GoodIn wsX4_set (wsV RX4 45 RX0 yX0_keepIfDone wsX0_keepIfDone) := goodIn_app (goodIn_of _ (by decide +kernel)) ggX4_set_X0_keepIfDone
theorem dX4_set_0 : decode cX4_set 0 = .ok (.aload_n 0, 1) := by decide +kernel
theorem dX4_set_1 : decode cX4_set 1 = .ok (.getfield 26, 3) := by decide +kernel
theorem dX4_set_4 : decode cX4_set 4 = .ok (.aload_n 0, 1) := by decide +kernel
theorem dX4_set_5 : decode cX4_set 5 = .ok (.getfield 10, 3) := by decide +kernel
theorem dX4_set_8 : decode cX4_set 8 = .ok (.invokevirtual 37, 3) := by decide +kernel
theorem dX4_set_11 : decode cX4_set 11 = .ok (.aload_n 0, 1) := by decide +kernel
theorem dX4_set_12 : decode cX4_set 12 = .ok (.getfield 26, 3) := by decide +kernel
theorem dX4_set_15 : decode cX4_set 15 = .ok (.aload_n 0, 1) := by decide +kernel
theorem dX4_set_16 : decode cX4_set 16 = .ok (.getfield 10, 3) := by decide +kernel
theorem dX4_set_19 : decode cX4_set 19 = .ok (.iload_n 1, 1) := by decide +kernel
theorem dX4_set_20 : decode cX4_set 20 = .ok (.iload_n 2, 1) := by decide +kernel
theorem dX4_set_21 : decode cX4_set 21 = .ok (.invokevirtual 41, 3) := by decide +kernel
theorem dX4_set_24 : decode cX4_set 24 = .ok (.invokevirtual 45, 3) := by decide +kernel
theorem dX4_set_27 : decode cX4_set 27 = .ok (.ireturn, 1) := by decide +kernel
set_option maxRecDepth 20000 in
theorem ggX4_value_X0_prepare : GoodIn wsX4_value wsX0_prepare := goodIn_r _ [7, 8, 9, 10, 11, 12, 13, 14, 15, 16, 17, 18, 19, 20, 21, 22, 23, 24, 25, 26, 27, 28, 29, 30, 31, 32, 33, 34, 35, 36, 37, 38, 39, 40, 41, 42, 43, 44, 45, 46, 47, 48, 49, 50, 51, 52, 53, 54, 55, 56, 57, 58, 74, 75, 76, 77, 78, 79, 80, 81, 82, 83, 84] (by decide +kernel) (by decide +kernel)
set_option maxRecDepth 20000 in
theorem gX4_value_X0_prepare : GoodIn wsX4_value (wsV RX4 37 RX0 yX0_prepare wsX0_prepare) := goodIn_app (goodIn_of _ (by decide +kernel)) ggX4_value_X0_prepare
set_option maxRecDepth 20000 in
theorem ggX4_value_X2_changeValue : GoodIn wsX4_value wsX2_changeValue := goodIn_r _ [62, 25, 63, 12, 64, 77, 78, 79, 80, 81, 82] (by decide +kernel) (by decide +kernel)
set_option maxRecDepth 20000 in
theorem gX4_value_X2_changeValue : GoodIn wsX4_value (wsV RX4 49 RX2 yX2_changeValue wsX2_changeValue) := goodIn_app (goodIn_of _ (by decide +kernel)) ggX4_value_X2_changeValue
set_option maxRecDepth 20000 in
theorem ggX4_value_X0_keepIfDone : GoodIn wsX4_value wsX0_keepIfDone := goodIn_r _ [68, 10, 9, 74, 75, 76] (by decide +kernel) (by decide +kernel)
set_option maxRecDepth 20000 in
theorem gX4_value_X0_keepIfDone : GoodIn wsX4_value (wsV RX4 45 RX0 yX0_keepIfDone wsX0_keepIfDone) := goodIn_app (goodIn_of _ (by decide +kernel)) ggX4_value_X0_keepIfDone
theorem dX4_value_0 : decode cX4_value 0 = .ok (.aload_n 0, 1) := by decide +kernel
theorem dX4_value_1 : decode cX4_value 1 = .ok (.getfield 26, 3) := by decide +kernel
theorem dX4_value_4 : decode cX4_value 4 = .ok (.aload_n 0, 1) := by decide +kernel
theorem dX4_value_5 : decode cX4_value 5 = .ok (.getfield 10, 3) := by decide +kernel
theorem dX4_value_8 : decode cX4_value 8 = .ok (.invokevirtual 37, 3) := by decide +kernel
theorem dX4_value_11 : decode cX4_value 11 = .ok (.aload_n 0, 1) := by decide +kernel
theorem dX4_value_12 : decode cX4_value 12 = .ok (.getfield 26, 3) := by decide +kernel
theorem dX4_value_15 : decode cX4_value 15 = .ok (.aload_n 0, 1) := by decide +kernel
theorem dX4_value_16 : decode cX4_value 16 = .ok (.getfield 10, 3) := by decide +kernel
theorem dX4_value_19 : decode cX4_value 19 = .ok (.iload_n 1, 1) := by decide +kernel
theorem dX4_value_20 : decode cX4_value 20 = .ok (.iload_n 2, 1) := by decide +kernel
theorem dX4_value_21 : decode cX4_value 21 = .ok (.invokevirtual 49, 3) := by decide +kernel
theorem dX4_value_24 : decode cX4_value 24 = .ok (.invokevirtual 45, 3) := by decide +kernel
theorem dX4_value_27 : decode cX4_value 27 = .ok (.ireturn, 1) := by decide +kernel
set_option maxRecDepth 20000 in
theorem ggX4_slip_X0_prepare : GoodIn wsX4_slip wsX0_prepare := goodIn_r _ [7, 8, 9, 10, 11, 12, 13, 14, 15, 16, 17, 18, 19, 20, 21, 22, 23, 24, 25, 26, 27, 28, 29, 30, 31, 32, 33, 34, 35, 36, 37, 38, 39, 40, 41, 42, 43, 44, 45, 46, 47, 48, 49, 50, 51, 52, 53, 54, 55, 56, 57, 58, 74, 75, 76, 77, 78, 79, 80, 81, 82, 83, 84] (by decide +kernel) (by decide +kernel)
set_option maxRecDepth 20000 in
theorem gX4_slip_X0_prepare : GoodIn wsX4_slip (wsV RX4 37 RX0 yX0_prepare wsX0_prepare) := goodIn_app (goodIn_of _ (by decide +kernel)) ggX4_slip_X0_prepare
set_option maxRecDepth 20000 in
theorem ggX4_slip_X2_delayClock : GoodIn wsX4_slip wsX2_delayClock := goodIn_r _ [62, 24, 63, 12, 64, 77, 78, 79, 80, 81, 82] (by decide +kernel) (by decide +kernel)
set_option maxRecDepth 20000 in
theorem gX4_slip_X2_delayClock : GoodIn wsX4_slip (wsV RX4 52 RX2 yX2_delayClock wsX2_delayClock) := goodIn_app (goodIn_of _ (by decide +kernel)) ggX4_slip_X2_delayClock
set_option maxRecDepth 20000 in
theorem ggX4_slip_X0_keepIfDone : GoodIn wsX4_slip wsX0_keepIfDone := goodIn_r _ [68, 10, 9, 74, 75, 76] (by decide +kernel) (by decide +kernel)
set_option maxRecDepth 20000 in
theorem gX4_slip_X0_keepIfDone : GoodIn wsX4_slip (wsV RX4 45 RX0 yX0_keepIfDone wsX0_keepIfDone) := goodIn_app (goodIn_of _ (by decide +kernel)) ggX4_slip_X0_keepIfDone
theorem dX4_slip_0 : decode cX4_slip 0 = .ok (.aload_n 0, 1) := by decide +kernel
theorem dX4_slip_1 : decode cX4_slip 1 = .ok (.getfield 26, 3) := by decide +kernel
theorem dX4_slip_4 : decode cX4_slip 4 = .ok (.aload_n 0, 1) := by decide +kernel
theorem dX4_slip_5 : decode cX4_slip 5 = .ok (.getfield 10, 3) := by decide +kernel
theorem dX4_slip_8 : decode cX4_slip 8 = .ok (.invokevirtual 37, 3) := by decide +kernel
theorem dX4_slip_11 : decode cX4_slip 11 = .ok (.aload_n 0, 1) := by decide +kernel
theorem dX4_slip_12 : decode cX4_slip 12 = .ok (.getfield 26, 3) := by decide +kernel
theorem dX4_slip_15 : decode cX4_slip 15 = .ok (.aload_n 0, 1) := by decide +kernel
theorem dX4_slip_16 : decode cX4_slip 16 = .ok (.getfield 10, 3) := by decide +kernel
theorem dX4_slip_19 : decode cX4_slip 19 = .ok (.iload_n 1, 1) := by decide +kernel
theorem dX4_slip_20 : decode cX4_slip 20 = .ok (.iload_n 2, 1) := by decide +kernel
theorem dX4_slip_21 : decode cX4_slip 21 = .ok (.invokevirtual 52, 3) := by decide +kernel
theorem dX4_slip_24 : decode cX4_slip 24 = .ok (.invokevirtual 45, 3) := by decide +kernel
theorem dX4_slip_27 : decode cX4_slip 27 = .ok (.ireturn, 1) := by decide +kernel
set_option maxRecDepth 20000 in
theorem ggX4_pass_X0_prepare : GoodIn wsX4_pass wsX0_prepare := goodIn_r _ [8, 9, 10, 11, 12, 13, 14, 15, 16, 17, 18, 19, 20, 21, 22, 23, 24, 25, 26, 27, 28, 29, 30, 31, 32, 33, 34, 35, 36, 37, 38, 39, 40, 41, 42, 43, 44, 45, 46, 47, 48, 49, 50, 51, 52, 53, 54, 55, 56, 57, 58, 59, 133, 134, 135, 136, 137, 138, 139, 140, 141, 142, 143] (by decide +kernel) (by decide +kernel)
set_option maxRecDepth 20000 in
theorem gX4_pass_X0_prepare : GoodIn wsX4_pass (wsV RX4 37 RX0 yX0_prepare wsX0_prepare) := goodIn_app (goodIn_of _ (by decide +kernel)) ggX4_pass_X0_prepare
set_option maxRecDepth 20000 in
theorem ggX4_pass_X2_passTicks : GoodIn wsX4_pass wsX2_passTicks := goodIn_r _ [63, 25, 64, 57, 40, 58, 65, 39, 41, 51, 66, 13, 67, 68, 69, 70, 17, 71, 72, 73, 74, 75, 26, 30, 76, 77, 78, 79, 80, 81, 82, 29, 83, 37, 42, 84, 85, 86, 87, 88, 89, 90, 91, 92, 93, 94, 95, 32, 96, 97, 98, 99, 59, 48, 49, 50, 100, 101, 102, 103, 104, 105, 106, 107, 108, 109, 110, 111, 112, 113, 114, 115, 31, 116, 117, 118, 119, 120, 121, 122, 123, 136, 137, 138, 139, 140, 141, 142, 143] (by decide +kernel) (by decide +kernel)
set_option maxRecDepth 20000 in
theorem gX4_pass_X2_passTicks : GoodIn wsX4_pass (wsV RX4 56 RX2 yX2_passTicks wsX2_passTicks) := goodIn_app (goodIn_of _ (by decide +kernel)) ggX4_pass_X2_passTicks
set_option maxRecDepth 20000 in
theorem ggX4_pass_X0_keepIfDone : GoodIn wsX4_pass wsX0_keepIfDone := goodIn_r _ [127, 11, 10, 133, 134, 135] (by decide +kernel) (by decide +kernel)
set_option maxRecDepth 20000 in
theorem gX4_pass_X0_keepIfDone : GoodIn wsX4_pass (wsV RX4 45 RX0 yX0_keepIfDone wsX0_keepIfDone) := goodIn_app (goodIn_of _ (by decide +kernel)) ggX4_pass_X0_keepIfDone
theorem dX4_pass_0 : decode cX4_pass 0 = .ok (.aload_n 0, 1) := by decide +kernel
theorem dX4_pass_1 : decode cX4_pass 1 = .ok (.getfield 26, 3) := by decide +kernel
theorem dX4_pass_4 : decode cX4_pass 4 = .ok (.aload_n 0, 1) := by decide +kernel
theorem dX4_pass_5 : decode cX4_pass 5 = .ok (.getfield 10, 3) := by decide +kernel
theorem dX4_pass_8 : decode cX4_pass 8 = .ok (.invokevirtual 37, 3) := by decide +kernel
theorem dX4_pass_11 : decode cX4_pass 11 = .ok (.aload_n 0, 1) := by decide +kernel
theorem dX4_pass_12 : decode cX4_pass 12 = .ok (.getfield 26, 3) := by decide +kernel
theorem dX4_pass_15 : decode cX4_pass 15 = .ok (.aload_n 0, 1) := by decide +kernel
theorem dX4_pass_16 : decode cX4_pass 16 = .ok (.getfield 10, 3) := by decide +kernel
theorem dX4_pass_19 : decode cX4_pass 19 = .ok (.iload_n 1, 1) := by decide +kernel
theorem dX4_pass_20 : decode cX4_pass 20 = .ok (.ldc 55, 2) := by decide +kernel
theorem dX4_pass_22 : decode cX4_pass 22 = .ok (.invokevirtual 56, 3) := by decide +kernel
theorem dX4_pass_25 : decode cX4_pass 25 = .ok (.invokevirtual 45, 3) := by decide +kernel
theorem dX4_pass_28 : decode cX4_pass 28 = .ok (.ireturn, 1) := by decide +kernel
set_option maxRecDepth 20000 in
theorem ggX4_flush_X0_prepare : GoodIn wsX4_flush wsX0_prepare := goodIn_r _ [7, 8, 9, 10, 11, 12, 13, 14, 15, 16, 17, 18, 19, 20, 21, 22, 23, 24, 25, 26, 27, 28, 29, 30, 31, 32, 33, 34, 35, 36, 37, 38, 39, 40, 41, 42, 43, 44, 45, 46, 47, 48, 49, 50, 51, 52, 53, 54, 55, 56, 57, 58, 88, 89, 90, 91, 92, 93, 94, 95, 96, 97, 98] (by decide +kernel) (by decide +kernel)
set_option maxRecDepth 20000 in
theorem gX4_flush_X0_prepare : GoodIn wsX4_flush (wsV RX4 37 RX0 yX0_prepare wsX0_prepare) := goodIn_app (goodIn_of _ (by decide +kernel)) ggX4_flush_X0_prepare
set_option maxRecDepth 20000 in
theorem ggX4_flush_X2_skipAll : GoodIn wsX4_flush wsX2_skipAll := goodIn_r _ [62, 24, 63, 64, 65, 16, 66, 31, 29, 67, 68, 69, 28, 70, 36, 41, 71, 72, 73, 74, 75, 76, 77, 78, 58, 47, 48, 49, 91, 92, 93, 94, 95, 96, 97, 98] (by decide +kernel) (by decide +kernel)
set_option maxRecDepth 20000 in
theorem gX4_flush_X2_skipAll : GoodIn wsX4_flush (wsV RX4 59 RX2 yX2_skipAll wsX2_skipAll) := goodIn_app (goodIn_of _ (by decide +kernel)) ggX4_flush_X2_skipAll
set_option maxRecDepth 20000 in
theorem ggX4_flush_X0_keepIfDone : GoodIn wsX4_flush wsX0_keepIfDone := goodIn_r _ [82, 10, 9, 88, 89, 90] (by decide +kernel) (by decide +kernel)
set_option maxRecDepth 20000 in
theorem gX4_flush_X0_keepIfDone : GoodIn wsX4_flush (wsV RX4 45 RX0 yX0_keepIfDone wsX0_keepIfDone) := goodIn_app (goodIn_of _ (by decide +kernel)) ggX4_flush_X0_keepIfDone
theorem dX4_flush_0 : decode cX4_flush 0 = .ok (.aload_n 0, 1) := by decide +kernel
theorem dX4_flush_1 : decode cX4_flush 1 = .ok (.getfield 26, 3) := by decide +kernel
theorem dX4_flush_4 : decode cX4_flush 4 = .ok (.aload_n 0, 1) := by decide +kernel
theorem dX4_flush_5 : decode cX4_flush 5 = .ok (.getfield 10, 3) := by decide +kernel
theorem dX4_flush_8 : decode cX4_flush 8 = .ok (.invokevirtual 37, 3) := by decide +kernel
theorem dX4_flush_11 : decode cX4_flush 11 = .ok (.aload_n 0, 1) := by decide +kernel
theorem dX4_flush_12 : decode cX4_flush 12 = .ok (.getfield 26, 3) := by decide +kernel
theorem dX4_flush_15 : decode cX4_flush 15 = .ok (.aload_n 0, 1) := by decide +kernel
theorem dX4_flush_16 : decode cX4_flush 16 = .ok (.getfield 10, 3) := by decide +kernel
theorem dX4_flush_19 : decode cX4_flush 19 = .ok (.invokevirtual 59, 3) := by decide +kernel
theorem dX4_flush_22 : decode cX4_flush 22 = .ok (.invokevirtual 45, 3) := by decide +kernel
theorem dX4_flush_25 : decode cX4_flush 25 = .ok (.ireturn, 1) := by decide +kernel
set_option maxRecDepth 20000 in
theorem ggX4_waiting_X4_isWithin : GoodIn wsX4_waiting wsX4_isWithin := goodIn_r _ [5] (by decide +kernel) (by decide +kernel)
set_option maxRecDepth 20000 in
theorem gX4_waiting_X4_isWithin : GoodIn wsX4_waiting (va_wsS RX4 67 yX4_isWithin wsX4_isWithin) := goodIn_app (goodIn_of _ (by decide +kernel)) ggX4_waiting_X4_isWithin
set_option maxRecDepth 20000 in
theorem ggX4_waiting_X3_read : GoodIn wsX4_waiting wsX3_read := goodIn_r _ [10, 11, 12, 24, 25] (by decide +kernel) (by decide +kernel)
set_option maxRecDepth 20000 in
theorem gX4_waiting_X3_read : GoodIn wsX4_waiting (wsV RX4 75 RX3 yX3_read wsX3_read) := goodIn_app (goodIn_of _ (by decide +kernel)) ggX4_waiting_X3_read
theorem dX4_waiting_0 : decode cX4_waiting 0 = .ok (.iload_n 1, 1) := by decide +kernel
theorem dX4_waiting_1 : decode cX4_waiting 1 = .ok (.ifCond .lt 16, 3) := by decide +kernel
theorem dX4_waiting_4 : decode cX4_waiting 4 = .ok (.iload_n 1, 1) := by decide +kernel
theorem dX4_waiting_5 : decode cX4_waiting 5 = .ok (.aload_n 0, 1) := by decide +kernel
theorem dX4_waiting_6 : decode cX4_waiting 6 = .ok (.getfield 10, 3) := by decide +kernel
theorem dX4_waiting_9 : decode cX4_waiting 9 = .ok (.getfield 63, 3) := by decide +kernel
theorem dX4_waiting_12 : decode cX4_waiting 12 = .ok (.iconst 2, 1) := by decide +kernel
theorem dX4_waiting_13 : decode cX4_waiting 13 = .ok (.iaload, 1) := by decide +kernel
theorem dX4_waiting_14 : decode cX4_waiting 14 = .ok (.if_icmp .lt 5, 3) := by decide +kernel
theorem dX4_waiting_17 : decode cX4_waiting 17 = .ok (.iconst (-1), 1) := by decide +kernel
theorem dX4_waiting_18 : decode cX4_waiting 18 = .ok (.ireturn, 1) := by decide +kernel
theorem dX4_waiting_19 : decode cX4_waiting 19 = .ok (.iload_n 2, 1) := by decide +kernel
theorem dX4_waiting_20 : decode cX4_waiting 20 = .ok (.iconst 0, 1) := by decide +kernel
theorem dX4_waiting_21 : decode cX4_waiting 21 = .ok (.iconst 3, 1) := by decide +kernel
theorem dX4_waiting_22 : decode cX4_waiting 22 = .ok (.invokestatic 67, 3) := by decide +kernel
theorem dX4_waiting_25 : decode cX4_waiting 25 = .ok (.ifCond .eq 18, 3) := by decide +kernel
theorem dX4_waiting_28 : decode cX4_waiting 28 = .ok (.aload_n 0, 1) := by decide +kernel
theorem dX4_waiting_29 : decode cX4_waiting 29 = .ok (.getfield 10, 3) := by decide +kernel
theorem dX4_waiting_32 : decode cX4_waiting 32 = .ok (.getfield 71, 3) := by decide +kernel
theorem dX4_waiting_35 : decode cX4_waiting 35 = .ok (.iload_n 1, 1) := by decide +kernel
theorem dX4_waiting_36 : decode cX4_waiting 36 = .ok (.iload_n 2, 1) := by decide +kernel
theorem dX4_waiting_37 : decode cX4_waiting 37 = .ok (.invokevirtual 75, 3) := by decide +kernel
theorem dX4_waiting_40 : decode cX4_waiting 40 = .ok (.goto 5, 3) := by decide +kernel
theorem dX4_waiting_43 : decode cX4_waiting 43 = .ok (.bipush (-2), 2) := by decide +kernel
theorem dX4_waiting_45 : decode cX4_waiting 45 = .ok (.ireturn, 1) := by decide +kernel
set_option maxRecDepth 20000 in
theorem ggX4_row_X2_rowsOfScreen : GoodIn wsX4_row wsX2_rowsOfScreen := goodIn_r _ [6, 7, 8, 9, 5, 10, 11, 12, 13, 14, 28, 29, 30, 31, 32, 33] (by decide +kernel) (by decide +kernel)
set_option maxRecDepth 20000 in
theorem gX4_row_X2_rowsOfScreen : GoodIn wsX4_row (wsV RX4 80 RX2 yX2_rowsOfScreen wsX2_rowsOfScreen) := goodIn_app (goodIn_of _ (by decide +kernel)) ggX4_row_X2_rowsOfScreen
set_option maxRecDepth 20000 in
theorem ggX4_row_X4_isWithin : GoodIn wsX4_row wsX4_isWithin := goodIn_r _ [14] (by decide +kernel) (by decide +kernel)
set_option maxRecDepth 20000 in
theorem gX4_row_X4_isWithin : GoodIn wsX4_row (va_wsS RX4 67 yX4_isWithin wsX4_isWithin) := goodIn_app (goodIn_of _ (by decide +kernel)) ggX4_row_X4_isWithin
set_option maxRecDepth 20000 in
theorem ggX4_row_X3_read : GoodIn wsX4_row wsX3_read := goodIn_r _ [20, 21, 22, 34, 35] (by decide +kernel) (by decide +kernel)
set_option maxRecDepth 20000 in
theorem gX4_row_X3_read : GoodIn wsX4_row (wsV RX4 75 RX3 yX3_read wsX3_read) := goodIn_app (goodIn_of _ (by decide +kernel)) ggX4_row_X3_read
theorem dX4_row_0 : decode cX4_row 0 = .ok (.iload_n 1, 1) := by decide +kernel
theorem dX4_row_1 : decode cX4_row 1 = .ok (.ifCond .lt 14, 3) := by decide +kernel
theorem dX4_row_4 : decode cX4_row 4 = .ok (.iload_n 1, 1) := by decide +kernel
theorem dX4_row_5 : decode cX4_row 5 = .ok (.aload_n 0, 1) := by decide +kernel
theorem dX4_row_6 : decode cX4_row 6 = .ok (.getfield 10, 3) := by decide +kernel
theorem dX4_row_9 : decode cX4_row 9 = .ok (.invokevirtual 80, 3) := by decide +kernel
theorem dX4_row_12 : decode cX4_row 12 = .ok (.if_icmp .lt 5, 3) := by decide +kernel
theorem dX4_row_15 : decode cX4_row 15 = .ok (.iconst (-1), 1) := by decide +kernel
theorem dX4_row_16 : decode cX4_row 16 = .ok (.ireturn, 1) := by decide +kernel
theorem dX4_row_17 : decode cX4_row 17 = .ok (.iload_n 2, 1) := by decide +kernel
theorem dX4_row_18 : decode cX4_row 18 = .ok (.iconst 0, 1) := by decide +kernel
theorem dX4_row_19 : decode cX4_row 19 = .ok (.iconst 2, 1) := by decide +kernel
theorem dX4_row_20 : decode cX4_row 20 = .ok (.invokestatic 67, 3) := by decide +kernel
theorem dX4_row_23 : decode cX4_row 23 = .ok (.ifCond .eq 18, 3) := by decide +kernel
theorem dX4_row_26 : decode cX4_row 26 = .ok (.aload_n 0, 1) := by decide +kernel
theorem dX4_row_27 : decode cX4_row 27 = .ok (.getfield 10, 3) := by decide +kernel
theorem dX4_row_30 : decode cX4_row 30 = .ok (.getfield 83, 3) := by decide +kernel
theorem dX4_row_33 : decode cX4_row 33 = .ok (.iload_n 1, 1) := by decide +kernel
theorem dX4_row_34 : decode cX4_row 34 = .ok (.iload_n 2, 1) := by decide +kernel
theorem dX4_row_35 : decode cX4_row 35 = .ok (.invokevirtual 75, 3) := by decide +kernel
theorem dX4_row_38 : decode cX4_row 38 = .ok (.goto 5, 3) := by decide +kernel
theorem dX4_row_41 : decode cX4_row 41 = .ok (.bipush (-2), 2) := by decide +kernel
theorem dX4_row_43 : decode cX4_row 43 = .ok (.ireturn, 1) := by decide +kernel
set_option maxRecDepth 20000 in
theorem ggX4_ofMissing_X4_isWithin : GoodIn wsX4_ofMissing wsX4_isWithin := goodIn_r _ [9] (by decide +kernel) (by decide +kernel)
set_option maxRecDepth 20000 in
theorem gX4_ofMissing_X4_isWithin : GoodIn wsX4_ofMissing (va_wsS RX4 67 yX4_isWithin wsX4_isWithin) := goodIn_app (goodIn_of _ (by decide +kernel)) ggX4_ofMissing_X4_isWithin
set_option maxRecDepth 20000 in
theorem ggX4_ofMissing_X3_read : GoodIn wsX4_ofMissing wsX3_read := goodIn_r _ [14, 15, 16, 28, 29] (by decide +kernel) (by decide +kernel)
set_option maxRecDepth 20000 in
theorem gX4_ofMissing_X3_read : GoodIn wsX4_ofMissing (wsV RX4 75 RX3 yX3_read wsX3_read) := goodIn_app (goodIn_of _ (by decide +kernel)) ggX4_ofMissing_X3_read
theorem dX4_ofMissing_0 : decode cX4_ofMissing 0 = .ok (.iload_n 1, 1) := by decide +kernel
theorem dX4_ofMissing_1 : decode cX4_ofMissing 1 = .ok (.ifCond .lt 21, 3) := by decide +kernel
theorem dX4_ofMissing_4 : decode cX4_ofMissing 4 = .ok (.iload_n 1, 1) := by decide +kernel
theorem dX4_ofMissing_5 : decode cX4_ofMissing 5 = .ok (.bipush 8, 2) := by decide +kernel
theorem dX4_ofMissing_7 : decode cX4_ofMissing 7 = .ok (.aload_n 0, 1) := by decide +kernel
theorem dX4_ofMissing_8 : decode cX4_ofMissing 8 = .ok (.getfield 10, 3) := by decide +kernel
theorem dX4_ofMissing_11 : decode cX4_ofMissing 11 = .ok (.getfield 63, 3) := by decide +kernel
theorem dX4_ofMissing_14 : decode cX4_ofMissing 14 = .ok (.iconst 4, 1) := by decide +kernel
theorem dX4_ofMissing_15 : decode cX4_ofMissing 15 = .ok (.iaload, 1) := by decide +kernel
theorem dX4_ofMissing_16 : decode cX4_ofMissing 16 = .ok (.invokestatic 86, 3) := by decide +kernel
theorem dX4_ofMissing_19 : decode cX4_ofMissing 19 = .ok (.if_icmp .lt 5, 3) := by decide +kernel
theorem dX4_ofMissing_22 : decode cX4_ofMissing 22 = .ok (.iconst (-1), 1) := by decide +kernel
theorem dX4_ofMissing_23 : decode cX4_ofMissing 23 = .ok (.ireturn, 1) := by decide +kernel
theorem dX4_ofMissing_24 : decode cX4_ofMissing 24 = .ok (.iload_n 2, 1) := by decide +kernel
theorem dX4_ofMissing_25 : decode cX4_ofMissing 25 = .ok (.iconst 0, 1) := by decide +kernel
theorem dX4_ofMissing_26 : decode cX4_ofMissing 26 = .ok (.iconst 3, 1) := by decide +kernel
theorem dX4_ofMissing_27 : decode cX4_ofMissing 27 = .ok (.invokestatic 67, 3) := by decide +kernel
theorem dX4_ofMissing_30 : decode cX4_ofMissing 30 = .ok (.ifCond .ne 6, 3) := by decide +kernel
theorem dX4_ofMissing_33 : decode cX4_ofMissing 33 = .ok (.bipush (-2), 2) := by decide +kernel
theorem dX4_ofMissing_35 : decode cX4_ofMissing 35 = .ok (.ireturn, 1) := by decide +kernel
theorem dX4_ofMissing_36 : decode cX4_ofMissing 36 = .ok (.aload_n 0, 1) := by decide +kernel
theorem dX4_ofMissing_37 : decode cX4_ofMissing 37 = .ok (.getfield 10, 3) := by decide +kernel
theorem dX4_ofMissing_40 : decode cX4_ofMissing 40 = .ok (.getfield 91, 3) := by decide +kernel
theorem dX4_ofMissing_43 : decode cX4_ofMissing 43 = .ok (.aload_n 0, 1) := by decide +kernel
theorem dX4_ofMissing_44 : decode cX4_ofMissing 44 = .ok (.getfield 10, 3) := by decide +kernel
theorem dX4_ofMissing_47 : decode cX4_ofMissing 47 = .ok (.getfield 63, 3) := by decide +kernel
theorem dX4_ofMissing_50 : decode cX4_ofMissing 50 = .ok (.iconst 4, 1) := by decide +kernel
theorem dX4_ofMissing_51 : decode cX4_ofMissing 51 = .ok (.iaload, 1) := by decide +kernel
theorem dX4_ofMissing_52 : decode cX4_ofMissing 52 = .ok (.iconst 1, 1) := by decide +kernel
theorem dX4_ofMissing_53 : decode cX4_ofMissing 53 = .ok (.isub, 1) := by decide +kernel
theorem dX4_ofMissing_54 : decode cX4_ofMissing 54 = .ok (.iload_n 1, 1) := by decide +kernel
theorem dX4_ofMissing_55 : decode cX4_ofMissing 55 = .ok (.isub, 1) := by decide +kernel
theorem dX4_ofMissing_56 : decode cX4_ofMissing 56 = .ok (.bipush 8, 2) := by decide +kernel
theorem dX4_ofMissing_58 : decode cX4_ofMissing 58 = .ok (.irem, 1) := by decide +kernel
theorem dX4_ofMissing_59 : decode cX4_ofMissing 59 = .ok (.iload_n 2, 1) := by decide +kernel
theorem dX4_ofMissing_60 : decode cX4_ofMissing 60 = .ok (.invokevirtual 75, 3) := by decide +kernel
theorem dX4_ofMissing_63 : decode cX4_ofMissing 63 = .ok (.ireturn, 1) := by decide +kernel
set_option maxRecDepth 20000 in
theorem ggX4_count_X4_isWithin : GoodIn wsX4_count wsX4_isWithin := goodIn_r _ [7] (by decide +kernel) (by decide +kernel)
set_option maxRecDepth 20000 in
theorem gX4_count_X4_isWithin : GoodIn wsX4_count (va_wsS RX4 67 yX4_isWithin wsX4_isWithin) := goodIn_app (goodIn_of _ (by decide +kernel)) ggX4_count_X4_isWithin
theorem dX4_count_0 : decode cX4_count 0 = .ok (.iload_n 1, 1) := by decide +kernel
theorem dX4_count_1 : decode cX4_count 1 = .ok (.bipush 24, 2) := by decide +kernel
theorem dX4_count_3 : decode cX4_count 3 = .ok (.if_icmp .ne 11, 3) := by decide +kernel
theorem dX4_count_6 : decode cX4_count 6 = .ok (.aload_n 0, 1) := by decide +kernel
theorem dX4_count_7 : decode cX4_count 7 = .ok (.getfield 33, 3) := by decide +kernel
theorem dX4_count_10 : decode cX4_count 10 = .ok (.getfield 94, 3) := by decide +kernel
theorem dX4_count_13 : decode cX4_count 13 = .ok (.ireturn, 1) := by decide +kernel
theorem dX4_count_14 : decode cX4_count 14 = .ok (.iload_n 1, 1) := by decide +kernel
theorem dX4_count_15 : decode cX4_count 15 = .ok (.bipush 25, 2) := by decide +kernel
theorem dX4_count_17 : decode cX4_count 17 = .ok (.if_icmp .ne 11, 3) := by decide +kernel
theorem dX4_count_20 : decode cX4_count 20 = .ok (.aload_n 0, 1) := by decide +kernel
theorem dX4_count_21 : decode cX4_count 21 = .ok (.getfield 26, 3) := by decide +kernel
theorem dX4_count_24 : decode cX4_count 24 = .ok (.getfield 98, 3) := by decide +kernel
theorem dX4_count_27 : decode cX4_count 27 = .ok (.ireturn, 1) := by decide +kernel
theorem dX4_count_28 : decode cX4_count 28 = .ok (.iload_n 1, 1) := by decide +kernel
theorem dX4_count_29 : decode cX4_count 29 = .ok (.iconst 0, 1) := by decide +kernel
theorem dX4_count_30 : decode cX4_count 30 = .ok (.bipush 23, 2) := by decide +kernel
theorem dX4_count_32 : decode cX4_count 32 = .ok (.invokestatic 67, 3) := by decide +kernel
theorem dX4_count_35 : decode cX4_count 35 = .ok (.ifCond .eq 15, 3) := by decide +kernel
theorem dX4_count_38 : decode cX4_count 38 = .ok (.aload_n 0, 1) := by decide +kernel
theorem dX4_count_39 : decode cX4_count 39 = .ok (.getfield 10, 3) := by decide +kernel
theorem dX4_count_42 : decode cX4_count 42 = .ok (.getfield 63, 3) := by decide +kernel
theorem dX4_count_45 : decode cX4_count 45 = .ok (.iload_n 1, 1) := by decide +kernel
theorem dX4_count_46 : decode cX4_count 46 = .ok (.iaload, 1) := by decide +kernel
theorem dX4_count_47 : decode cX4_count 47 = .ok (.goto 5, 3) := by decide +kernel
theorem dX4_count_50 : decode cX4_count 50 = .ok (.bipush (-2), 2) := by decide +kernel
theorem dX4_count_52 : decode cX4_count 52 = .ok (.ireturn, 1) := by decide +kernel
set_option maxRecDepth 20000 in
theorem ggX4_shown_X2_rowsOfScreen : GoodIn wsX4_shown wsX2_rowsOfScreen := goodIn_r _ [6, 7, 8, 9, 5, 10, 11, 12, 13, 14, 27, 28, 29, 30, 31, 32] (by decide +kernel) (by decide +kernel)
set_option maxRecDepth 20000 in
theorem gX4_shown_X2_rowsOfScreen : GoodIn wsX4_shown (wsV RX4 80 RX2 yX2_rowsOfScreen wsX2_rowsOfScreen) := goodIn_app (goodIn_of _ (by decide +kernel)) ggX4_shown_X2_rowsOfScreen
set_option maxRecDepth 20000 in
theorem ggX4_shown_X3_read : GoodIn wsX4_shown wsX3_read := goodIn_r _ [19, 20, 21, 33, 34] (by decide +kernel) (by decide +kernel)
set_option maxRecDepth 20000 in
theorem gX4_shown_X3_read : GoodIn wsX4_shown (wsV RX4 75 RX3 yX3_read wsX3_read) := goodIn_app (goodIn_of _ (by decide +kernel)) ggX4_shown_X3_read
theorem dX4_shown_0 : decode cX4_shown 0 = .ok (.aload_n 0, 1) := by decide +kernel
theorem dX4_shown_1 : decode cX4_shown 1 = .ok (.getfield 10, 3) := by decide +kernel
theorem dX4_shown_4 : decode cX4_shown 4 = .ok (.invokevirtual 80, 3) := by decide +kernel
theorem dX4_shown_7 : decode cX4_shown 7 = .ok (.istore_n 1, 1) := by decide +kernel
theorem dX4_shown_8 : decode cX4_shown 8 = .ok (.iconst 0, 1) := by decide +kernel
theorem dX4_shown_9 : decode cX4_shown 9 = .ok (.istore_n 2, 1) := by decide +kernel
theorem dX4_shown_10 : decode cX4_shown 10 = .ok (.iload_n 2, 1) := by decide +kernel
theorem dX4_shown_11 : decode cX4_shown 11 = .ok (.iload_n 1, 1) := by decide +kernel
theorem dX4_shown_12 : decode cX4_shown 12 = .ok (.if_icmp .ge 26, 3) := by decide +kernel
theorem dX4_shown_15 : decode cX4_shown 15 = .ok (.aload_n 0, 1) := by decide +kernel
theorem dX4_shown_16 : decode cX4_shown 16 = .ok (.getfield 10, 3) := by decide +kernel
theorem dX4_shown_19 : decode cX4_shown 19 = .ok (.getfield 83, 3) := by decide +kernel
theorem dX4_shown_22 : decode cX4_shown 22 = .ok (.iload_n 2, 1) := by decide +kernel
theorem dX4_shown_23 : decode cX4_shown 23 = .ok (.iconst 1, 1) := by decide +kernel
theorem dX4_shown_24 : decode cX4_shown 24 = .ok (.invokevirtual 75, 3) := by decide +kernel
theorem dX4_shown_27 : decode cX4_shown 27 = .ok (.bipush (-6), 2) := by decide +kernel
theorem dX4_shown_29 : decode cX4_shown 29 = .ok (.if_icmp .eq 9, 3) := by decide +kernel
theorem dX4_shown_32 : decode cX4_shown 32 = .ok (.iinc 2 1, 3) := by decide +kernel
theorem dX4_shown_35 : decode cX4_shown 35 = .ok (.goto (-25), 3) := by decide +kernel
theorem dX4_shown_38 : decode cX4_shown 38 = .ok (.iload_n 2, 1) := by decide +kernel
theorem dX4_shown_39 : decode cX4_shown 39 = .ok (.ireturn, 1) := by decide +kernel
set_option maxRecDepth 20000 in
theorem ggX4_would_X4_isWithin : GoodIn wsX4_would wsX4_isWithin := goodIn_r _ [7] (by decide +kernel) (by decide +kernel)
set_option maxRecDepth 20000 in
theorem gX4_would_X4_isWithin : GoodIn wsX4_would (va_wsS RX4 67 yX4_isWithin wsX4_isWithin) := goodIn_app (goodIn_of _ (by decide +kernel)) ggX4_would_X4_isWithin
set_option maxRecDepth 20000 in
theorem ggX4_would_X2_copyFrom : GoodIn wsX4_would wsX2_copyFrom := goodIn_r _ [12, 13, 14, 15, 16, 17, 18, 19, 20, 21, 22, 23, 24, 25, 26, 27, 28, 29, 30, 31, 32, 33, 108, 109, 110, 111, 112, 113, 114, 115] (by decide +kernel) (by decide +kernel)
set_option maxRecDepth 20000 in
theorem gX4_would_X2_copyFrom : GoodIn wsX4_would (wsV RX4 111 RX2 yX2_copyFrom wsX2_copyFrom) := goodIn_app (goodIn_of _ (by decide +kernel)) ggX4_would_X2_copyFrom
set_option maxRecDepth 20000 in
theorem ggX4_would_X2_passTicks : GoodIn wsX4_would wsX2_passTicks := goodIn_r _ [37, 13, 38, 30, 31, 32, 39, 40, 41, 22, 5, 6, 7, 42, 43, 44, 11, 45, 46, 47, 48, 49, 18, 19, 50, 51, 52, 53, 54, 55, 56, 26, 57, 58, 28, 59, 60, 61, 62, 63, 64, 65, 66, 67, 68, 69, 70, 21, 71, 72, 73, 74, 33, 15, 16, 17, 75, 76, 77, 78, 79, 80, 81, 82, 83, 84, 85, 86, 87, 88, 89, 90, 20, 91, 92, 93, 94, 95, 96, 97, 98, 108, 109, 110, 111, 112, 113, 114, 115] (by decide +kernel) (by decide +kernel)
set_option maxRecDepth 20000 in
theorem gX4_would_X2_passTicks : GoodIn wsX4_would (wsV RX4 56 RX2 yX2_passTicks wsX2_passTicks) := goodIn_app (goodIn_of _ (by decide +kernel)) ggX4_would_X2_passTicks
set_option maxRecDepth 20000 in
theorem ggX4_would_X4_gainOf : GoodIn wsX4_would wsX4_gainOf := goodIn_r _ [102, 1, 2, 4, 5, 6, 7, 103, 104, 105, 106, 107, 108, 109, 110, 111, 112, 113] (by decide +kernel) (by decide +kernel)
set_option maxRecDepth 20000 in
theorem gX4_would_X4_gainOf : GoodIn wsX4_would (wsV RX4 115 RX4 yX4_gainOf wsX4_gainOf) := goodIn_app (goodIn_of _ (by decide +kernel)) ggX4_would_X4_gainOf
end
section
theorem dX4_would_0 : decode cX4_would 0 = .ok (.iload_n 1, 1) := by decide +kernel
theorem dX4_would_1 : decode cX4_would 1 = .ok (.iconst 1, 1) := by decide +kernel
theorem dX4_would_2 : decode cX4_would 2 = .ok (.sipush 999, 3) := by decide +kernel
theorem dX4_would_5 : decode cX4_would 5 = .ok (.invokestatic 67, 3) := by decide +kernel
theorem dX4_would_8 : decode cX4_would 8 = .ok (.ifCond .eq 12, 3) := by decide +kernel
theorem dX4_would_11 : decode cX4_would 11 = .ok (.iload_n 2, 1) := by decide +kernel
theorem dX4_would_12 : decode cX4_would 12 = .ok (.iconst 0, 1) := by decide +kernel
theorem dX4_would_13 : decode cX4_would 13 = .ok (.iconst 2, 1) := by decide +kernel
theorem dX4_would_14 : decode cX4_would 14 = .ok (.invokestatic 67, 3) := by decide +kernel
theorem dX4_would_17 : decode cX4_would 17 = .ok (.ifCond .ne 6, 3) := by decide +kernel
theorem dX4_would_20 : decode cX4_would 20 = .ok (.bipush (-2), 2) := by decide +kernel
theorem dX4_would_22 : decode cX4_would 22 = .ok (.ireturn, 1) := by decide +kernel
theorem dX4_would_23 : decode cX4_would 23 = .ok (.aload_n 0, 1) := by decide +kernel
theorem dX4_would_24 : decode cX4_would 24 = .ok (.getfield 16, 3) := by decide +kernel
theorem dX4_would_27 : decode cX4_would 27 = .ok (.aload_n 0, 1) := by decide +kernel
theorem dX4_would_28 : decode cX4_would 28 = .ok (.getfield 10, 3) := by decide +kernel
theorem dX4_would_31 : decode cX4_would 31 = .ok (.invokevirtual 111, 3) := by decide +kernel
theorem dX4_would_34 : decode cX4_would 34 = .ok (.aload_n 0, 1) := by decide +kernel
theorem dX4_would_35 : decode cX4_would 35 = .ok (.getfield 16, 3) := by decide +kernel
theorem dX4_would_38 : decode cX4_would 38 = .ok (.iload_n 1, 1) := by decide +kernel
theorem dX4_would_39 : decode cX4_would 39 = .ok (.ldc 114, 2) := by decide +kernel
theorem dX4_would_41 : decode cX4_would 41 = .ok (.invokevirtual 56, 3) := by decide +kernel
theorem dX4_would_44 : decode cX4_would 44 = .ok (.pop, 1) := by decide +kernel
theorem dX4_would_45 : decode cX4_would 45 = .ok (.iload_n 2, 1) := by decide +kernel
theorem dX4_would_46 : decode cX4_would 46 = .ok (.ifCond .ne 9, 3) := by decide +kernel
theorem dX4_would_49 : decode cX4_would 49 = .ok (.aload_n 0, 1) := by decide +kernel
theorem dX4_would_50 : decode cX4_would 50 = .ok (.iconst 4, 1) := by decide +kernel
theorem dX4_would_51 : decode cX4_would 51 = .ok (.invokevirtual 115, 3) := by decide +kernel
theorem dX4_would_54 : decode cX4_would 54 = .ok (.ireturn, 1) := by decide +kernel
theorem dX4_would_55 : decode cX4_would 55 = .ok (.iload_n 2, 1) := by decide +kernel
theorem dX4_would_56 : decode cX4_would 56 = .ok (.iconst 1, 1) := by decide +kernel
theorem dX4_would_57 : decode cX4_would 57 = .ok (.if_icmp .ne 12, 3) := by decide +kernel
theorem dX4_would_60 : decode cX4_would 60 = .ok (.aload_n 0, 1) := by decide +kernel
theorem dX4_would_61 : decode cX4_would 61 = .ok (.bipush 6, 2) := by decide +kernel
theorem dX4_would_63 : decode cX4_would 63 = .ok (.invokevirtual 115, 3) := by decide +kernel
theorem dX4_would_66 : decode cX4_would 66 = .ok (.goto 9, 3) := by decide +kernel
theorem dX4_would_69 : decode cX4_would 69 = .ok (.aload_n 0, 1) := by decide +kernel
theorem dX4_would_70 : decode cX4_would 70 = .ok (.bipush 12, 2) := by decide +kernel
theorem dX4_would_72 : decode cX4_would 72 = .ok (.invokevirtual 115, 3) := by decide +kernel
theorem dX4_would_75 : decode cX4_would 75 = .ok (.ireturn, 1) := by decide +kernel
set_option maxRecDepth 20000 in
theorem ggX4_undo_X0_takeLatest : GoodIn wsX4_undo wsX0_takeLatest := goodIn_r _ [7, 8, 9, 10, 42, 43, 44] (by decide +kernel) (by decide +kernel)
set_option maxRecDepth 20000 in
theorem gX4_undo_X0_takeLatest : GoodIn wsX4_undo (wsV RX4 150 RX0 yX0_takeLatest wsX0_takeLatest) := goodIn_app (goodIn_of _ (by decide +kernel)) ggX4_undo_X0_takeLatest
set_option maxRecDepth 20000 in
theorem ggX4_undo_X2_copyFrom : GoodIn wsX4_undo wsX2_copyFrom := goodIn_r _ [15, 16, 17, 18, 19, 20, 21, 22, 23, 24, 25, 26, 27, 28, 29, 30, 31, 32, 33, 34, 35, 36, 45, 46, 47, 48, 49, 50, 51, 52] (by decide +kernel) (by decide +kernel)
set_option maxRecDepth 20000 in
theorem gX4_undo_X2_copyFrom : GoodIn wsX4_undo (wsV RX4 111 RX2 yX2_copyFrom wsX2_copyFrom) := goodIn_app (goodIn_of _ (by decide +kernel)) ggX4_undo_X2_copyFrom
theorem dX4_undo_0 : decode cX4_undo 0 = .ok (.aload_n 0, 1) := by decide +kernel
theorem dX4_undo_1 : decode cX4_undo 1 = .ok (.getfield 26, 3) := by decide +kernel
theorem dX4_undo_4 : decode cX4_undo 4 = .ok (.invokevirtual 150, 3) := by decide +kernel
theorem dX4_undo_7 : decode cX4_undo 7 = .ok (.astore_n 1, 1) := by decide +kernel
theorem dX4_undo_8 : decode cX4_undo 8 = .ok (.aload_n 1, 1) := by decide +kernel
theorem dX4_undo_9 : decode cX4_undo 9 = .ok (.ifnonnull 6, 3) := by decide +kernel
theorem dX4_undo_12 : decode cX4_undo 12 = .ok (.bipush (-5), 2) := by decide +kernel
theorem dX4_undo_14 : decode cX4_undo 14 = .ok (.ireturn, 1) := by decide +kernel
theorem dX4_undo_15 : decode cX4_undo 15 = .ok (.aload_n 0, 1) := by decide +kernel
theorem dX4_undo_16 : decode cX4_undo 16 = .ok (.getfield 10, 3) := by decide +kernel
theorem dX4_undo_19 : decode cX4_undo 19 = .ok (.aload_n 1, 1) := by decide +kernel
theorem dX4_undo_20 : decode cX4_undo 20 = .ok (.invokevirtual 111, 3) := by decide +kernel
theorem dX4_undo_23 : decode cX4_undo 23 = .ok (.aload_n 0, 1) := by decide +kernel
theorem dX4_undo_24 : decode cX4_undo 24 = .ok (.getfield 26, 3) := by decide +kernel
theorem dX4_undo_27 : decode cX4_undo 27 = .ok (.getfield 98, 3) := by decide +kernel
theorem dX4_undo_30 : decode cX4_undo 30 = .ok (.ireturn, 1) := by decide +kernel
theorem dX4_isWithin_0 : decode cX4_isWithin 0 = .ok (.iload_n 0, 1) := by decide +kernel
theorem dX4_isWithin_1 : decode cX4_isWithin 1 = .ok (.iload_n 1, 1) := by decide +kernel
theorem dX4_isWithin_2 : decode cX4_isWithin 2 = .ok (.if_icmp .lt 12, 3) := by decide +kernel
theorem dX4_isWithin_5 : decode cX4_isWithin 5 = .ok (.iload_n 0, 1) := by decide +kernel
theorem dX4_isWithin_6 : decode cX4_isWithin 6 = .ok (.iload_n 2, 1) := by decide +kernel
theorem dX4_isWithin_7 : decode cX4_isWithin 7 = .ok (.if_icmp .gt 7, 3) := by decide +kernel
theorem dX4_isWithin_10 : decode cX4_isWithin 10 = .ok (.iconst 1, 1) := by decide +kernel
theorem dX4_isWithin_11 : decode cX4_isWithin 11 = .ok (.goto 4, 3) := by decide +kernel
theorem dX4_isWithin_14 : decode cX4_isWithin 14 = .ok (.iconst 0, 1) := by decide +kernel
theorem dX4_isWithin_15 : decode cX4_isWithin 15 = .ok (.ireturn, 1) := by decide +kernel
set_option maxRecDepth 20000 in
theorem ggX4_keepCopy_X2_init : GoodIn wsX4_keepCopy wsX2_init := goodIn_r _ [6, 7, 8, 9, 10, 11, 12, 13, 14, 15, 16, 17, 18, 19, 20, 21, 22, 23, 24, 25, 26, 27, 28, 46, 47, 48, 49, 50, 51, 52, 53] (by decide +kernel) (by decide +kernel)
set_option maxRecDepth 20000 in
theorem gX4_keepCopy_X2_init : GoodIn wsX4_keepCopy (wsX2_init) := ggX4_keepCopy_X2_init
set_option maxRecDepth 20000 in
theorem ggX4_keepCopy_X2_copyFrom : GoodIn wsX4_keepCopy wsX2_copyFrom := goodIn_r _ [32, 11, 33, 34, 35, 36, 12, 16, 17, 18, 37, 38, 39, 40, 15, 41, 28, 42, 43, 26, 44, 45, 46, 47, 48, 49, 50, 51, 52, 53] (by decide +kernel) (by decide +kernel)
set_option maxRecDepth 20000 in
theorem gX4_keepCopy_X2_copyFrom : GoodIn wsX4_keepCopy (wsV RX4 111 RX2 yX2_copyFrom wsX2_copyFrom) := goodIn_app (goodIn_of _ (by decide +kernel)) ggX4_keepCopy_X2_copyFrom
theorem dX4_keepCopy_0 : decode cX4_keepCopy 0 = .ok (.iload_n 1, 1) := by decide +kernel
theorem dX4_keepCopy_1 : decode cX4_keepCopy 1 = .ok (.ifCond .lt 9, 3) := by decide +kernel
theorem dX4_keepCopy_4 : decode cX4_keepCopy 4 = .ok (.iload_n 1, 1) := by decide +kernel
theorem dX4_keepCopy_5 : decode cX4_keepCopy 5 = .ok (.aload_n 0, 1) := by decide +kernel
theorem dX4_keepCopy_6 : decode cX4_keepCopy 6 = .ok (.arraylength, 1) := by decide +kernel
theorem dX4_keepCopy_7 : decode cX4_keepCopy 7 = .ok (.if_icmp .lt 4, 3) := by decide +kernel
theorem dX4_keepCopy_10 : decode cX4_keepCopy 10 = .ok (.return_, 1) := by decide +kernel
theorem dX4_keepCopy_11 : decode cX4_keepCopy 11 = .ok (.aload_n 0, 1) := by decide +kernel
theorem dX4_keepCopy_12 : decode cX4_keepCopy 12 = .ok (.iload_n 1, 1) := by decide +kernel
theorem dX4_keepCopy_13 : decode cX4_keepCopy 13 = .ok (.aaload, 1) := by decide +kernel
theorem dX4_keepCopy_14 : decode cX4_keepCopy 14 = .ok (.ifnonnull 13, 3) := by decide +kernel
theorem dX4_keepCopy_17 : decode cX4_keepCopy 17 = .ok (.aload_n 0, 1) := by decide +kernel
theorem dX4_keepCopy_18 : decode cX4_keepCopy 18 = .ok (.iload_n 1, 1) := by decide +kernel
theorem dX4_keepCopy_19 : decode cX4_keepCopy 19 = .ok (.new 7, 3) := by decide +kernel
theorem dX4_keepCopy_22 : decode cX4_keepCopy 22 = .ok (.dup, 1) := by decide +kernel
theorem dX4_keepCopy_23 : decode cX4_keepCopy 23 = .ok (.invokespecial 9, 3) := by decide +kernel
theorem dX4_keepCopy_26 : decode cX4_keepCopy 26 = .ok (.aastore, 1) := by decide +kernel
theorem dX4_keepCopy_27 : decode cX4_keepCopy 27 = .ok (.aload_n 0, 1) := by decide +kernel
theorem dX4_keepCopy_28 : decode cX4_keepCopy 28 = .ok (.iload_n 1, 1) := by decide +kernel
theorem dX4_keepCopy_29 : decode cX4_keepCopy 29 = .ok (.aaload, 1) := by decide +kernel
theorem dX4_keepCopy_30 : decode cX4_keepCopy 30 = .ok (.aload_n 2, 1) := by decide +kernel
theorem dX4_keepCopy_31 : decode cX4_keepCopy 31 = .ok (.invokevirtual 111, 3) := by decide +kernel
theorem dX4_keepCopy_34 : decode cX4_keepCopy 34 = .ok (.return_, 1) := by decide +kernel
set_option maxRecDepth 20000 in
theorem ggX4_gainOf_X4_isWithin : GoodIn wsX4_gainOf wsX4_isWithin := goodIn_r _ [6] (by decide +kernel) (by decide +kernel)
set_option maxRecDepth 20000 in
theorem gX4_gainOf_X4_isWithin : GoodIn wsX4_gainOf (va_wsS RX4 67 yX4_isWithin wsX4_isWithin) := goodIn_app (goodIn_of _ (by decide +kernel)) ggX4_gainOf_X4_isWithin
theorem dX4_gainOf_0 : decode cX4_gainOf 0 = .ok (.iload_n 1, 1) := by decide +kernel
theorem dX4_gainOf_1 : decode cX4_gainOf 1 = .ok (.iconst 0, 1) := by decide +kernel
theorem dX4_gainOf_2 : decode cX4_gainOf 2 = .ok (.bipush 23, 2) := by decide +kernel
theorem dX4_gainOf_4 : decode cX4_gainOf 4 = .ok (.invokestatic 67, 3) := by decide +kernel
theorem dX4_gainOf_7 : decode cX4_gainOf 7 = .ok (.ifCond .eq 25, 3) := by decide +kernel
theorem dX4_gainOf_10 : decode cX4_gainOf 10 = .ok (.aload_n 0, 1) := by decide +kernel
theorem dX4_gainOf_11 : decode cX4_gainOf 11 = .ok (.getfield 16, 3) := by decide +kernel
theorem dX4_gainOf_14 : decode cX4_gainOf 14 = .ok (.getfield 63, 3) := by decide +kernel
theorem dX4_gainOf_17 : decode cX4_gainOf 17 = .ok (.iload_n 1, 1) := by decide +kernel
theorem dX4_gainOf_18 : decode cX4_gainOf 18 = .ok (.iaload, 1) := by decide +kernel
theorem dX4_gainOf_19 : decode cX4_gainOf 19 = .ok (.aload_n 0, 1) := by decide +kernel
theorem dX4_gainOf_20 : decode cX4_gainOf 20 = .ok (.getfield 10, 3) := by decide +kernel
theorem dX4_gainOf_23 : decode cX4_gainOf 23 = .ok (.getfield 63, 3) := by decide +kernel
theorem dX4_gainOf_26 : decode cX4_gainOf 26 = .ok (.iload_n 1, 1) := by decide +kernel
theorem dX4_gainOf_27 : decode cX4_gainOf 27 = .ok (.iaload, 1) := by decide +kernel
theorem dX4_gainOf_28 : decode cX4_gainOf 28 = .ok (.isub, 1) := by decide +kernel
theorem dX4_gainOf_29 : decode cX4_gainOf 29 = .ok (.goto 4, 3) := by decide +kernel
theorem dX4_gainOf_32 : decode cX4_gainOf 32 = .ok (.iconst 0, 1) := by decide +kernel
theorem dX4_gainOf_33 : decode cX4_gainOf 33 = .ok (.ireturn, 1) := by decide +kernel
theorem dJ9_max_7cf53_0 : decode cJ9_max_7cf53 0 = .ok (.iload_n 0, 1) := by decide +kernel
theorem dJ9_max_7cf53_1 : decode cJ9_max_7cf53 1 = .ok (.iload_n 1, 1) := by decide +kernel
theorem dJ9_max_7cf53_2 : decode cJ9_max_7cf53 2 = .ok (.if_icmp .lt 7, 3) := by decide +kernel
theorem dJ9_max_7cf53_5 : decode cJ9_max_7cf53 5 = .ok (.iload_n 0, 1) := by decide +kernel
theorem dJ9_max_7cf53_6 : decode cJ9_max_7cf53 6 = .ok (.goto 4, 3) := by decide +kernel
theorem dJ9_max_7cf53_9 : decode cJ9_max_7cf53 9 = .ok (.iload_n 1, 1) := by decide +kernel
theorem dJ9_max_7cf53_10 : decode cJ9_max_7cf53 10 = .ok (.ireturn, 1) := by decide +kernel
theorem dJ9_min_7cf53_0 : decode cJ9_min_7cf53 0 = .ok (.iload_n 0, 1) := by decide +kernel
theorem dJ9_min_7cf53_1 : decode cJ9_min_7cf53 1 = .ok (.iload_n 1, 1) := by decide +kernel
theorem dJ9_min_7cf53_2 : decode cJ9_min_7cf53 2 = .ok (.if_icmp .gt 7, 3) := by decide +kernel
theorem dJ9_min_7cf53_5 : decode cJ9_min_7cf53 5 = .ok (.iload_n 0, 1) := by decide +kernel
theorem dJ9_min_7cf53_6 : decode cJ9_min_7cf53 6 = .ok (.goto 4, 3) := by decide +kernel
theorem dJ9_min_7cf53_9 : decode cJ9_min_7cf53 9 = .ok (.iload_n 1, 1) := by decide +kernel
theorem dJ9_min_7cf53_10 : decode cJ9_min_7cf53 10 = .ok (.ireturn, 1) := by decide +kernel
theorem dL_low_0 : decode cL_low 0 = .ok (.iload_n 0, 1) := by decide +kernel
theorem dL_low_1 : decode cL_low 1 = .ok (.ldc 7, 2) := by decide +kernel
theorem dL_low_3 : decode cL_low 3 = .ok (.iand, 1) := by decide +kernel
theorem dL_low_4 : decode cL_low 4 = .ok (.iload_n 1, 1) := by decide +kernel
theorem dL_low_5 : decode cL_low 5 = .ok (.irem, 1) := by decide +kernel
theorem dL_low_6 : decode cL_low 6 = .ok (.ireturn, 1) := by decide +kernel
theorem dL_cell_0 : decode cL_cell 0 = .ok (.iload_n 1, 1) := by decide +kernel
theorem dL_cell_1 : decode cL_cell 1 = .ok (.aload_n 0, 1) := by decide +kernel
theorem dL_cell_2 : decode cL_cell 2 = .ok (.arraylength, 1) := by decide +kernel
theorem dL_cell_3 : decode cL_cell 3 = .ok (.if_icmp .ge 9, 3) := by decide +kernel
theorem dL_cell_6 : decode cL_cell 6 = .ok (.aload_n 0, 1) := by decide +kernel
theorem dL_cell_7 : decode cL_cell 7 = .ok (.iload_n 1, 1) := by decide +kernel
theorem dL_cell_8 : decode cL_cell 8 = .ok (.iaload, 1) := by decide +kernel
theorem dL_cell_9 : decode cL_cell 9 = .ok (.goto 11, 3) := by decide +kernel
theorem dL_cell_12 : decode cL_cell 12 = .ok (.ldc 8, 2) := by decide +kernel
theorem dL_cell_14 : decode cL_cell 14 = .ok (.iload_n 1, 1) := by decide +kernel
theorem dL_cell_15 : decode cL_cell 15 = .ok (.imul, 1) := by decide +kernel
theorem dL_cell_16 : decode cL_cell 16 = .ok (.sipush 977, 3) := by decide +kernel
theorem dL_cell_19 : decode cL_cell 19 = .ok (.iadd, 1) := by decide +kernel
theorem dL_cell_20 : decode cL_cell 20 = .ok (.ireturn, 1) := by decide +kernel
set_option maxRecDepth 20000 in
theorem ggL_lines_X4_count : GoodIn wsL_lines wsX4_count := goodIn_r _ [5, 6, 7, 8, 9, 10, 4, 11, 23, 24, 25, 26, 27, 28, 29, 30, 31, 32, 33, 34, 35, 36, 37, 38, 39, 40, 41, 42] (by decide +kernel) (by decide +kernel)
set_option maxRecDepth 20000 in
theorem gL_lines_X4_count : GoodIn wsL_lines (wsV RL 9 RX4 yX4_count wsX4_count) := goodIn_app (goodIn_of _ (by decide +kernel)) ggL_lines_X4_count
set_option maxRecDepth 20000 in
theorem ggL_lines_X4_waiting : GoodIn wsL_lines wsX4_waiting := goodIn_r _ [15, 8, 9, 10, 4, 11, 16, 17, 18, 19, 20, 21, 22, 23, 24, 25, 26, 27, 37, 38, 39, 40, 41, 42, 43, 44] (by decide +kernel) (by decide +kernel)
set_option maxRecDepth 20000 in
theorem gL_lines_X4_waiting : GoodIn wsL_lines (wsV RL 15 RX4 yX4_waiting wsX4_waiting) := goodIn_app (goodIn_of _ (by decide +kernel)) ggL_lines_X4_waiting
theorem dL_lines_0 : decode cL_lines 0 = .ok (.aload_n 0, 1) := by decide +kernel
theorem dL_lines_1 : decode cL_lines 1 = .ok (.iconst 1, 1) := by decide +kernel
theorem dL_lines_2 : decode cL_lines 2 = .ok (.invokevirtual 9, 3) := by decide +kernel
theorem dL_lines_5 : decode cL_lines 5 = .ok (.aload_n 0, 1) := by decide +kernel
theorem dL_lines_6 : decode cL_lines 6 = .ok (.iconst 2, 1) := by decide +kernel
theorem dL_lines_7 : decode cL_lines 7 = .ok (.invokevirtual 9, 3) := by decide +kernel
theorem dL_lines_10 : decode cL_lines 10 = .ok (.aload_n 0, 1) := by decide +kernel
theorem dL_lines_11 : decode cL_lines 11 = .ok (.iconst 3, 1) := by decide +kernel
theorem dL_lines_12 : decode cL_lines 12 = .ok (.invokevirtual 9, 3) := by decide +kernel
theorem dL_lines_15 : decode cL_lines 15 = .ok (.iadd, 1) := by decide +kernel
theorem dL_lines_16 : decode cL_lines 16 = .ok (.aload_n 0, 1) := by decide +kernel
theorem dL_lines_17 : decode cL_lines 17 = .ok (.iconst 4, 1) := by decide +kernel
theorem dL_lines_18 : decode cL_lines 18 = .ok (.invokevirtual 9, 3) := by decide +kernel
theorem dL_lines_21 : decode cL_lines 21 = .ok (.iadd, 1) := by decide +kernel
theorem dL_lines_22 : decode cL_lines 22 = .ok (.if_icmp .ne 21, 3) := by decide +kernel
theorem dL_lines_25 : decode cL_lines 25 = .ok (.aload_n 0, 1) := by decide +kernel
theorem dL_lines_26 : decode cL_lines 26 = .ok (.iconst 2, 1) := by decide +kernel
theorem dL_lines_27 : decode cL_lines 27 = .ok (.invokevirtual 9, 3) := by decide +kernel
theorem dL_lines_30 : decode cL_lines 30 = .ok (.aload_n 0, 1) := by decide +kernel
theorem dL_lines_31 : decode cL_lines 31 = .ok (.bipush 18, 2) := by decide +kernel
theorem dL_lines_33 : decode cL_lines 33 = .ok (.invokevirtual 9, 3) := by decide +kernel
theorem dL_lines_36 : decode cL_lines 36 = .ok (.if_icmp .gt 7, 3) := by decide +kernel
theorem dL_lines_39 : decode cL_lines 39 = .ok (.iconst 1, 1) := by decide +kernel
theorem dL_lines_40 : decode cL_lines 40 = .ok (.goto 4, 3) := by decide +kernel
theorem dL_lines_43 : decode cL_lines 43 = .ok (.iconst 0, 1) := by decide +kernel
theorem dL_lines_44 : decode cL_lines 44 = .ok (.istore_n 1, 1) := by decide +kernel
theorem dL_lines_45 : decode cL_lines 45 = .ok (.iconst (-1), 1) := by decide +kernel
theorem dL_lines_46 : decode cL_lines 46 = .ok (.istore_n 2, 1) := by decide +kernel
theorem dL_lines_47 : decode cL_lines 47 = .ok (.iconst 0, 1) := by decide +kernel
theorem dL_lines_48 : decode cL_lines 48 = .ok (.istore_n 3, 1) := by decide +kernel
theorem dL_lines_49 : decode cL_lines 49 = .ok (.iload_n 3, 1) := by decide +kernel
theorem dL_lines_50 : decode cL_lines 50 = .ok (.aload_n 0, 1) := by decide +kernel
theorem dL_lines_51 : decode cL_lines 51 = .ok (.iconst 2, 1) := by decide +kernel
theorem dL_lines_52 : decode cL_lines 52 = .ok (.invokevirtual 9, 3) := by decide +kernel
theorem dL_lines_55 : decode cL_lines 55 = .ok (.if_icmp .ge 119, 3) := by decide +kernel
theorem dL_lines_58 : decode cL_lines 58 = .ok (.iload_n 1, 1) := by decide +kernel
theorem dL_lines_59 : decode cL_lines 59 = .ok (.ifCond .eq 115, 3) := by decide +kernel
theorem dL_lines_62 : decode cL_lines 62 = .ok (.aload_n 0, 1) := by decide +kernel
theorem dL_lines_63 : decode cL_lines 63 = .ok (.iload_n 3, 1) := by decide +kernel
theorem dL_lines_64 : decode cL_lines 64 = .ok (.iconst 0, 1) := by decide +kernel
theorem dL_lines_65 : decode cL_lines 65 = .ok (.invokevirtual 15, 3) := by decide +kernel
theorem dL_lines_68 : decode cL_lines 68 = .ok (.aload_n 0, 1) := by decide +kernel
theorem dL_lines_69 : decode cL_lines 69 = .ok (.bipush 19, 2) := by decide +kernel
theorem dL_lines_71 : decode cL_lines 71 = .ok (.invokevirtual 9, 3) := by decide +kernel
theorem dL_lines_74 : decode cL_lines 74 = .ok (.imul, 1) := by decide +kernel
theorem dL_lines_75 : decode cL_lines 75 = .ok (.aload_n 0, 1) := by decide +kernel
theorem dL_lines_76 : decode cL_lines 76 = .ok (.iload_n 3, 1) := by decide +kernel
theorem dL_lines_77 : decode cL_lines 77 = .ok (.iconst 1, 1) := by decide +kernel
theorem dL_lines_78 : decode cL_lines 78 = .ok (.invokevirtual 15, 3) := by decide +kernel
theorem dL_lines_81 : decode cL_lines 81 = .ok (.iadd, 1) := by decide +kernel
theorem dL_lines_82 : decode cL_lines 82 = .ok (.istore 4, 2) := by decide +kernel
theorem dL_lines_84 : decode cL_lines 84 = .ok (.iload 4, 2) := by decide +kernel
theorem dL_lines_86 : decode cL_lines 86 = .ok (.iload_n 2, 1) := by decide +kernel
theorem dL_lines_87 : decode cL_lines 87 = .ok (.if_icmp .le 76, 3) := by decide +kernel
theorem dL_lines_90 : decode cL_lines 90 = .ok (.iload 4, 2) := by decide +kernel
theorem dL_lines_92 : decode cL_lines 92 = .ok (.aload_n 0, 1) := by decide +kernel
theorem dL_lines_93 : decode cL_lines 93 = .ok (.iconst 1, 1) := by decide +kernel
theorem dL_lines_94 : decode cL_lines 94 = .ok (.invokevirtual 9, 3) := by decide +kernel
theorem dL_lines_97 : decode cL_lines 97 = .ok (.if_icmp .ge 66, 3) := by decide +kernel
theorem dL_lines_100 : decode cL_lines 100 = .ok (.aload_n 0, 1) := by decide +kernel
theorem dL_lines_101 : decode cL_lines 101 = .ok (.iload_n 3, 1) := by decide +kernel
theorem dL_lines_102 : decode cL_lines 102 = .ok (.iconst 1, 1) := by decide +kernel
theorem dL_lines_103 : decode cL_lines 103 = .ok (.invokevirtual 15, 3) := by decide +kernel
theorem dL_lines_106 : decode cL_lines 106 = .ok (.aload_n 0, 1) := by decide +kernel
theorem dL_lines_107 : decode cL_lines 107 = .ok (.bipush 19, 2) := by decide +kernel
theorem dL_lines_109 : decode cL_lines 109 = .ok (.invokevirtual 9, 3) := by decide +kernel
theorem dL_lines_112 : decode cL_lines 112 = .ok (.if_icmp .ge 51, 3) := by decide +kernel
theorem dL_lines_115 : decode cL_lines 115 = .ok (.aload_n 0, 1) := by decide +kernel
theorem dL_lines_116 : decode cL_lines 116 = .ok (.iload_n 3, 1) := by decide +kernel
theorem dL_lines_117 : decode cL_lines 117 = .ok (.iconst 3, 1) := by decide +kernel
theorem dL_lines_118 : decode cL_lines 118 = .ok (.invokevirtual 15, 3) := by decide +kernel
theorem dL_lines_121 : decode cL_lines 121 = .ok (.iconst 2, 1) := by decide +kernel
theorem dL_lines_122 : decode cL_lines 122 = .ok (.if_icmp .ge 41, 3) := by decide +kernel
theorem dL_lines_125 : decode cL_lines 125 = .ok (.iload_n 3, 1) := by decide +kernel
theorem dL_lines_126 : decode cL_lines 126 = .ok (.ifCond .eq 12, 3) := by decide +kernel
theorem dL_lines_129 : decode cL_lines 129 = .ok (.aload_n 0, 1) := by decide +kernel
theorem dL_lines_130 : decode cL_lines 130 = .ok (.iload_n 3, 1) := by decide +kernel
theorem dL_lines_131 : decode cL_lines 131 = .ok (.iconst 3, 1) := by decide +kernel
theorem dL_lines_132 : decode cL_lines 132 = .ok (.invokevirtual 15, 3) := by decide +kernel
theorem dL_lines_135 : decode cL_lines 135 = .ok (.ifCond .ne 28, 3) := by decide +kernel
theorem dL_lines_138 : decode cL_lines 138 = .ok (.aload_n 0, 1) := by decide +kernel
theorem dL_lines_139 : decode cL_lines 139 = .ok (.iload_n 3, 1) := by decide +kernel
theorem dL_lines_140 : decode cL_lines 140 = .ok (.iconst 2, 1) := by decide +kernel
theorem dL_lines_141 : decode cL_lines 141 = .ok (.invokevirtual 15, 3) := by decide +kernel
theorem dL_lines_144 : decode cL_lines 144 = .ok (.ifCond .lt 19, 3) := by decide +kernel
theorem dL_lines_147 : decode cL_lines 147 = .ok (.aload_n 0, 1) := by decide +kernel
theorem dL_lines_148 : decode cL_lines 148 = .ok (.iload_n 3, 1) := by decide +kernel
theorem dL_lines_149 : decode cL_lines 149 = .ok (.iconst 2, 1) := by decide +kernel
theorem dL_lines_150 : decode cL_lines 150 = .ok (.invokevirtual 15, 3) := by decide +kernel
theorem dL_lines_153 : decode cL_lines 153 = .ok (.sipush 256, 3) := by decide +kernel
theorem dL_lines_156 : decode cL_lines 156 = .ok (.if_icmp .ge 7, 3) := by decide +kernel
theorem dL_lines_159 : decode cL_lines 159 = .ok (.iconst 1, 1) := by decide +kernel
theorem dL_lines_160 : decode cL_lines 160 = .ok (.goto 4, 3) := by decide +kernel
theorem dL_lines_163 : decode cL_lines 163 = .ok (.iconst 0, 1) := by decide +kernel
theorem dL_lines_164 : decode cL_lines 164 = .ok (.istore_n 1, 1) := by decide +kernel
theorem dL_lines_165 : decode cL_lines 165 = .ok (.iload 4, 2) := by decide +kernel
theorem dL_lines_167 : decode cL_lines 167 = .ok (.istore_n 2, 1) := by decide +kernel
theorem dL_lines_168 : decode cL_lines 168 = .ok (.iinc 3 1, 3) := by decide +kernel
theorem dL_lines_171 : decode cL_lines 171 = .ok (.goto (-122), 3) := by decide +kernel
theorem dL_lines_174 : decode cL_lines 174 = .ok (.iload_n 1, 1) := by decide +kernel
theorem dL_lines_175 : decode cL_lines 175 = .ok (.ifCond .eq 49, 3) := by decide +kernel
theorem dL_lines_178 : decode cL_lines 178 = .ok (.aload_n 0, 1) := by decide +kernel
theorem dL_lines_179 : decode cL_lines 179 = .ok (.aload_n 0, 1) := by decide +kernel
theorem dL_lines_180 : decode cL_lines 180 = .ok (.iconst 2, 1) := by decide +kernel
theorem dL_lines_181 : decode cL_lines 181 = .ok (.invokevirtual 9, 3) := by decide +kernel
theorem dL_lines_184 : decode cL_lines 184 = .ok (.iconst 0, 1) := by decide +kernel
theorem dL_lines_185 : decode cL_lines 185 = .ok (.invokevirtual 15, 3) := by decide +kernel
theorem dL_lines_188 : decode cL_lines 188 = .ok (.iconst (-1), 1) := by decide +kernel
theorem dL_lines_189 : decode cL_lines 189 = .ok (.if_icmp .ne 35, 3) := by decide +kernel
theorem dL_lines_192 : decode cL_lines 192 = .ok (.aload_n 0, 1) := by decide +kernel
theorem dL_lines_193 : decode cL_lines 193 = .ok (.bipush 9, 2) := by decide +kernel
theorem dL_lines_195 : decode cL_lines 195 = .ok (.invokevirtual 9, 3) := by decide +kernel
theorem dL_lines_198 : decode cL_lines 198 = .ok (.aload_n 0, 1) := by decide +kernel
theorem dL_lines_199 : decode cL_lines 199 = .ok (.bipush 19, 2) := by decide +kernel
theorem dL_lines_201 : decode cL_lines 201 = .ok (.invokevirtual 9, 3) := by decide +kernel
theorem dL_lines_204 : decode cL_lines 204 = .ok (.imul, 1) := by decide +kernel
theorem dL_lines_205 : decode cL_lines 205 = .ok (.aload_n 0, 1) := by decide +kernel
theorem dL_lines_206 : decode cL_lines 206 = .ok (.bipush 8, 2) := by decide +kernel
theorem dL_lines_208 : decode cL_lines 208 = .ok (.invokevirtual 9, 3) := by decide +kernel
theorem dL_lines_211 : decode cL_lines 211 = .ok (.iadd, 1) := by decide +kernel
theorem dL_lines_212 : decode cL_lines 212 = .ok (.aload_n 0, 1) := by decide +kernel
theorem dL_lines_213 : decode cL_lines 213 = .ok (.iconst 1, 1) := by decide +kernel
theorem dL_lines_214 : decode cL_lines 214 = .ok (.invokevirtual 9, 3) := by decide +kernel
theorem dL_lines_217 : decode cL_lines 217 = .ok (.if_icmp .ne 7, 3) := by decide +kernel
theorem dL_lines_220 : decode cL_lines 220 = .ok (.iconst 1, 1) := by decide +kernel
theorem dL_lines_221 : decode cL_lines 221 = .ok (.goto 4, 3) := by decide +kernel
theorem dL_lines_224 : decode cL_lines 224 = .ok (.iconst 0, 1) := by decide +kernel
theorem dL_lines_225 : decode cL_lines 225 = .ok (.ireturn, 1) := by decide +kernel
set_option maxRecDepth 20000 in
theorem ggL_rows_X4_count : GoodIn wsL_rows wsX4_count := goodIn_r _ [5, 6, 7, 8, 9, 10, 4, 11, 49, 50, 51, 52, 53, 54, 55, 56, 57, 58, 59, 60, 61, 62, 63, 64, 65, 66, 67, 68] (by decide +kernel) (by decide +kernel)
set_option maxRecDepth 20000 in
theorem gL_rows_X4_count : GoodIn wsL_rows (wsV RL 9 RX4 yX4_count wsX4_count) := goodIn_app (goodIn_of _ (by decide +kernel)) ggL_rows_X4_count
set_option maxRecDepth 20000 in
theorem ggL_rows_X4_waiting : GoodIn wsL_rows wsX4_waiting := goodIn_r _ [15, 8, 9, 10, 4, 11, 16, 17, 18, 19, 20, 21, 22, 49, 50, 51, 52, 53, 63, 64, 65, 66, 67, 68, 69, 70] (by decide +kernel) (by decide +kernel)
set_option maxRecDepth 20000 in
theorem gL_rows_X4_waiting : GoodIn wsL_rows (wsV RL 15 RX4 yX4_waiting wsX4_waiting) := goodIn_app (goodIn_of _ (by decide +kernel)) ggL_rows_X4_waiting
set_option maxRecDepth 20000 in
theorem ggL_rows_X4_row : GoodIn wsL_rows wsX4_row := goodIn_r _ [26, 8, 27, 28, 29, 30, 31, 32, 33, 34, 35, 36, 10, 4, 11, 9, 16, 17, 18, 19, 20, 21, 22, 49, 50, 51, 52, 53, 63, 64, 65, 66, 67, 68, 69, 70] (by decide +kernel) (by decide +kernel)
set_option maxRecDepth 20000 in
theorem gL_rows_X4_row : GoodIn wsL_rows (wsV RL 19 RX4 yX4_row wsX4_row) := goodIn_app (goodIn_of _ (by decide +kernel)) ggL_rows_X4_row
set_option maxRecDepth 20000 in
theorem ggL_rows_X4_ofMissing : GoodIn wsL_rows wsX4_ofMissing := goodIn_r _ [40, 8, 41, 42, 43, 44, 9, 10, 4, 11, 16, 17, 18, 19, 20, 21, 22, 49, 50, 51, 52, 53, 63, 64, 65, 66, 67, 68, 69, 70] (by decide +kernel) (by decide +kernel)
set_option maxRecDepth 20000 in
theorem gL_rows_X4_ofMissing : GoodIn wsL_rows (wsV RL 22 RX4 yX4_ofMissing wsX4_ofMissing) := goodIn_app (goodIn_of _ (by decide +kernel)) ggL_rows_X4_ofMissing
set_option maxRecDepth 20000 in
theorem ggL_rows_X4_shown : GoodIn wsL_rows wsX4_shown := goodIn_r _ [48, 8, 27, 28, 29, 30, 31, 32, 33, 34, 35, 36, 10, 4, 11, 16, 17, 18, 19, 20, 21, 22, 49, 50, 51, 52, 53, 63, 64, 65, 66, 67, 68, 69, 70] (by decide +kernel) (by decide +kernel)
set_option maxRecDepth 20000 in
theorem gL_rows_X4_shown : GoodIn wsL_rows (wsV RL 25 RX4 yX4_shown wsX4_shown) := goodIn_app (goodIn_of _ (by decide +kernel)) ggL_rows_X4_shown
theorem dL_rows_0 : decode cL_rows 0 = .ok (.iconst 2, 1) := by decide +kernel
theorem dL_rows_1 : decode cL_rows 1 = .ok (.aload_n 0, 1) := by decide +kernel
theorem dL_rows_2 : decode cL_rows 2 = .ok (.bipush 19, 2) := by decide +kernel
theorem dL_rows_4 : decode cL_rows 4 = .ok (.invokevirtual 9, 3) := by decide +kernel
theorem dL_rows_7 : decode cL_rows 7 = .ok (.imul, 1) := by decide +kernel
theorem dL_rows_8 : decode cL_rows 8 = .ok (.istore_n 1, 1) := by decide +kernel
theorem dL_rows_9 : decode cL_rows 9 = .ok (.aload_n 0, 1) := by decide +kernel
theorem dL_rows_10 : decode cL_rows 10 = .ok (.iconst 2, 1) := by decide +kernel
theorem dL_rows_11 : decode cL_rows 11 = .ok (.invokevirtual 9, 3) := by decide +kernel
theorem dL_rows_14 : decode cL_rows 14 = .ok (.ifCond .le 12, 3) := by decide +kernel
theorem dL_rows_17 : decode cL_rows 17 = .ok (.aload_n 0, 1) := by decide +kernel
theorem dL_rows_18 : decode cL_rows 18 = .ok (.iconst 0, 1) := by decide +kernel
theorem dL_rows_19 : decode cL_rows 19 = .ok (.iconst 3, 1) := by decide +kernel
theorem dL_rows_20 : decode cL_rows 20 = .ok (.invokevirtual 15, 3) := by decide +kernel
theorem dL_rows_23 : decode cL_rows 23 = .ok (.goto 4, 3) := by decide +kernel
theorem dL_rows_26 : decode cL_rows 26 = .ok (.iconst 0, 1) := by decide +kernel
theorem dL_rows_27 : decode cL_rows 27 = .ok (.istore_n 2, 1) := by decide +kernel
theorem dL_rows_28 : decode cL_rows 28 = .ok (.aload_n 0, 1) := by decide +kernel
theorem dL_rows_29 : decode cL_rows 29 = .ok (.bipush 12, 2) := by decide +kernel
theorem dL_rows_31 : decode cL_rows 31 = .ok (.invokevirtual 9, 3) := by decide +kernel
theorem dL_rows_34 : decode cL_rows 34 = .ok (.aload_n 0, 1) := by decide +kernel
theorem dL_rows_35 : decode cL_rows 35 = .ok (.bipush 13, 2) := by decide +kernel
theorem dL_rows_37 : decode cL_rows 37 = .ok (.invokevirtual 9, 3) := by decide +kernel
theorem dL_rows_40 : decode cL_rows 40 = .ok (.iadd, 1) := by decide +kernel
theorem dL_rows_41 : decode cL_rows 41 = .ok (.aload_n 0, 1) := by decide +kernel
theorem dL_rows_42 : decode cL_rows 42 = .ok (.bipush 14, 2) := by decide +kernel
theorem dL_rows_44 : decode cL_rows 44 = .ok (.invokevirtual 9, 3) := by decide +kernel
theorem dL_rows_47 : decode cL_rows 47 = .ok (.iadd, 1) := by decide +kernel
theorem dL_rows_48 : decode cL_rows 48 = .ok (.istore_n 3, 1) := by decide +kernel
theorem dL_rows_49 : decode cL_rows 49 = .ok (.aload_n 0, 1) := by decide +kernel
theorem dL_rows_50 : decode cL_rows 50 = .ok (.iconst 5, 1) := by decide +kernel
theorem dL_rows_51 : decode cL_rows 51 = .ok (.invokevirtual 9, 3) := by decide +kernel
theorem dL_rows_54 : decode cL_rows 54 = .ok (.iconst 2, 1) := by decide +kernel
theorem dL_rows_55 : decode cL_rows 55 = .ok (.aload_n 0, 1) := by decide +kernel
theorem dL_rows_56 : decode cL_rows 56 = .ok (.iconst 3, 1) := by decide +kernel
theorem dL_rows_57 : decode cL_rows 57 = .ok (.invokevirtual 9, 3) := by decide +kernel
theorem dL_rows_60 : decode cL_rows 60 = .ok (.imul, 1) := by decide +kernel
theorem dL_rows_61 : decode cL_rows 61 = .ok (.isub, 1) := by decide +kernel
theorem dL_rows_62 : decode cL_rows 62 = .ok (.iload_n 2, 1) := by decide +kernel
theorem dL_rows_63 : decode cL_rows 63 = .ok (.isub, 1) := by decide +kernel
theorem dL_rows_64 : decode cL_rows 64 = .ok (.aload_n 0, 1) := by decide +kernel
theorem dL_rows_65 : decode cL_rows 65 = .ok (.bipush 6, 2) := by decide +kernel
theorem dL_rows_67 : decode cL_rows 67 = .ok (.invokevirtual 9, 3) := by decide +kernel
theorem dL_rows_70 : decode cL_rows 70 = .ok (.isub, 1) := by decide +kernel
theorem dL_rows_71 : decode cL_rows 71 = .ok (.istore 4, 2) := by decide +kernel
theorem dL_rows_73 : decode cL_rows 73 = .ok (.iload 4, 2) := by decide +kernel
theorem dL_rows_75 : decode cL_rows 75 = .ok (.ifCond .lt 49, 3) := by decide +kernel
theorem dL_rows_78 : decode cL_rows 78 = .ok (.iload 4, 2) := by decide +kernel
theorem dL_rows_80 : decode cL_rows 80 = .ok (.aload_n 0, 1) := by decide +kernel
theorem dL_rows_81 : decode cL_rows 81 = .ok (.iconst 4, 1) := by decide +kernel
theorem dL_rows_82 : decode cL_rows 82 = .ok (.invokevirtual 9, 3) := by decide +kernel
theorem dL_rows_85 : decode cL_rows 85 = .ok (.if_icmp .gt 39, 3) := by decide +kernel
theorem dL_rows_88 : decode cL_rows 88 = .ok (.aload_n 0, 1) := by decide +kernel
theorem dL_rows_89 : decode cL_rows 89 = .ok (.iconst 5, 1) := by decide +kernel
theorem dL_rows_90 : decode cL_rows 90 = .ok (.invokevirtual 9, 3) := by decide +kernel
theorem dL_rows_93 : decode cL_rows 93 = .ok (.iload_n 3, 1) := by decide +kernel
theorem dL_rows_94 : decode cL_rows 94 = .ok (.iload_n 1, 1) := by decide +kernel
theorem dL_rows_95 : decode cL_rows 95 = .ok (.imul, 1) := by decide +kernel
theorem dL_rows_96 : decode cL_rows 96 = .ok (.aload_n 0, 1) := by decide +kernel
theorem dL_rows_97 : decode cL_rows 97 = .ok (.bipush 7, 2) := by decide +kernel
theorem dL_rows_99 : decode cL_rows 99 = .ok (.invokevirtual 9, 3) := by decide +kernel
theorem dL_rows_102 : decode cL_rows 102 = .ok (.iadd, 1) := by decide +kernel
theorem dL_rows_103 : decode cL_rows 103 = .ok (.if_icmp .ne 21, 3) := by decide +kernel
theorem dL_rows_106 : decode cL_rows 106 = .ok (.aload_n 0, 1) := by decide +kernel
theorem dL_rows_107 : decode cL_rows 107 = .ok (.bipush 6, 2) := by decide +kernel
theorem dL_rows_109 : decode cL_rows 109 = .ok (.invokevirtual 9, 3) := by decide +kernel
theorem dL_rows_112 : decode cL_rows 112 = .ok (.aload_n 0, 1) := by decide +kernel
theorem dL_rows_113 : decode cL_rows 113 = .ok (.iconst 5, 1) := by decide +kernel
theorem dL_rows_114 : decode cL_rows 114 = .ok (.invokevirtual 9, 3) := by decide +kernel
theorem dL_rows_117 : decode cL_rows 117 = .ok (.if_icmp .gt 7, 3) := by decide +kernel
theorem dL_rows_120 : decode cL_rows 120 = .ok (.iconst 1, 1) := by decide +kernel
theorem dL_rows_121 : decode cL_rows 121 = .ok (.goto 4, 3) := by decide +kernel
theorem dL_rows_124 : decode cL_rows 124 = .ok (.iconst 0, 1) := by decide +kernel
theorem dL_rows_125 : decode cL_rows 125 = .ok (.istore 5, 2) := by decide +kernel
theorem dL_rows_127 : decode cL_rows 127 = .ok (.iconst 0, 1) := by decide +kernel
theorem dL_rows_128 : decode cL_rows 128 = .ok (.istore 6, 2) := by decide +kernel
theorem dL_rows_130 : decode cL_rows 130 = .ok (.iconst 1, 1) := by decide +kernel
theorem dL_rows_131 : decode cL_rows 131 = .ok (.istore 7, 2) := by decide +kernel
theorem dL_rows_133 : decode cL_rows 133 = .ok (.iconst 0, 1) := by decide +kernel
theorem dL_rows_134 : decode cL_rows 134 = .ok (.istore 8, 2) := by decide +kernel
theorem dL_rows_136 : decode cL_rows 136 = .ok (.iload 8, 2) := by decide +kernel
theorem dL_rows_138 : decode cL_rows 138 = .ok (.iload_n 1, 1) := by decide +kernel
theorem dL_rows_139 : decode cL_rows 139 = .ok (.if_icmp .ge 140, 3) := by decide +kernel
theorem dL_rows_142 : decode cL_rows 142 = .ok (.iload 5, 2) := by decide +kernel
theorem dL_rows_144 : decode cL_rows 144 = .ok (.ifCond .eq 135, 3) := by decide +kernel
theorem dL_rows_147 : decode cL_rows 147 = .ok (.aload_n 0, 1) := by decide +kernel
theorem dL_rows_148 : decode cL_rows 148 = .ok (.iload 8, 2) := by decide +kernel
theorem dL_rows_150 : decode cL_rows 150 = .ok (.iconst 1, 1) := by decide +kernel
theorem dL_rows_151 : decode cL_rows 151 = .ok (.invokevirtual 19, 3) := by decide +kernel
theorem dL_rows_154 : decode cL_rows 154 = .ok (.ifCond .lt 7, 3) := by decide +kernel
theorem dL_rows_157 : decode cL_rows 157 = .ok (.iconst 1, 1) := by decide +kernel
theorem dL_rows_158 : decode cL_rows 158 = .ok (.goto 4, 3) := by decide +kernel
theorem dL_rows_161 : decode cL_rows 161 = .ok (.iconst 0, 1) := by decide +kernel
theorem dL_rows_162 : decode cL_rows 162 = .ok (.istore 9, 2) := by decide +kernel
theorem dL_rows_164 : decode cL_rows 164 = .ok (.aload_n 0, 1) := by decide +kernel
theorem dL_rows_165 : decode cL_rows 165 = .ok (.iload 8, 2) := by decide +kernel
theorem dL_rows_167 : decode cL_rows 167 = .ok (.iconst 0, 1) := by decide +kernel
theorem dL_rows_168 : decode cL_rows 168 = .ok (.invokevirtual 19, 3) := by decide +kernel
theorem dL_rows_171 : decode cL_rows 171 = .ok (.bipush (-6), 2) := by decide +kernel
theorem dL_rows_173 : decode cL_rows 173 = .ok (.if_icmp .ne 7, 3) := by decide +kernel
theorem dL_rows_176 : decode cL_rows 176 = .ok (.iconst 1, 1) := by decide +kernel
theorem dL_rows_177 : decode cL_rows 177 = .ok (.goto 4, 3) := by decide +kernel
theorem dL_rows_180 : decode cL_rows 180 = .ok (.iconst 0, 1) := by decide +kernel
theorem dL_rows_181 : decode cL_rows 181 = .ok (.iload 8, 2) := by decide +kernel
theorem dL_rows_183 : decode cL_rows 183 = .ok (.aload_n 0, 1) := by decide +kernel
theorem dL_rows_184 : decode cL_rows 184 = .ok (.iconst 5, 1) := by decide +kernel
theorem dL_rows_185 : decode cL_rows 185 = .ok (.invokevirtual 9, 3) := by decide +kernel
theorem dL_rows_188 : decode cL_rows 188 = .ok (.if_icmp .lt 7, 3) := by decide +kernel
theorem dL_rows_191 : decode cL_rows 191 = .ok (.iconst 1, 1) := by decide +kernel
theorem dL_rows_192 : decode cL_rows 192 = .ok (.goto 4, 3) := by decide +kernel
theorem dL_rows_195 : decode cL_rows 195 = .ok (.iconst 0, 1) := by decide +kernel
theorem dL_rows_196 : decode cL_rows 196 = .ok (.if_icmp .ne 42, 3) := by decide +kernel
theorem dL_rows_199 : decode cL_rows 199 = .ok (.iload 9, 2) := by decide +kernel
theorem dL_rows_201 : decode cL_rows 201 = .ok (.aload_n 0, 1) := by decide +kernel
theorem dL_rows_202 : decode cL_rows 202 = .ok (.iload 8, 2) := by decide +kernel
theorem dL_rows_204 : decode cL_rows 204 = .ok (.iconst 2, 1) := by decide +kernel
theorem dL_rows_205 : decode cL_rows 205 = .ok (.invokevirtual 19, 3) := by decide +kernel
theorem dL_rows_208 : decode cL_rows 208 = .ok (.ifCond .lt 7, 3) := by decide +kernel
theorem dL_rows_211 : decode cL_rows 211 = .ok (.iconst 1, 1) := by decide +kernel
theorem dL_rows_212 : decode cL_rows 212 = .ok (.goto 4, 3) := by decide +kernel
theorem dL_rows_215 : decode cL_rows 215 = .ok (.iconst 0, 1) := by decide +kernel
theorem dL_rows_216 : decode cL_rows 216 = .ok (.if_icmp .ne 22, 3) := by decide +kernel
theorem dL_rows_219 : decode cL_rows 219 = .ok (.iload 8, 2) := by decide +kernel
theorem dL_rows_221 : decode cL_rows 221 = .ok (.aload_n 0, 1) := by decide +kernel
theorem dL_rows_222 : decode cL_rows 222 = .ok (.iconst 5, 1) := by decide +kernel
theorem dL_rows_223 : decode cL_rows 223 = .ok (.invokevirtual 9, 3) := by decide +kernel
theorem dL_rows_226 : decode cL_rows 226 = .ok (.if_icmp .lt 8, 3) := by decide +kernel
theorem dL_rows_229 : decode cL_rows 229 = .ok (.iload 9, 2) := by decide +kernel
theorem dL_rows_231 : decode cL_rows 231 = .ok (.ifCond .ne 7, 3) := by decide +kernel
theorem dL_rows_234 : decode cL_rows 234 = .ok (.iconst 1, 1) := by decide +kernel
theorem dL_rows_235 : decode cL_rows 235 = .ok (.goto 4, 3) := by decide +kernel
theorem dL_rows_238 : decode cL_rows 238 = .ok (.iconst 0, 1) := by decide +kernel
theorem dL_rows_239 : decode cL_rows 239 = .ok (.istore 5, 2) := by decide +kernel
theorem dL_rows_241 : decode cL_rows 241 = .ok (.iload 7, 2) := by decide +kernel
theorem dL_rows_243 : decode cL_rows 243 = .ok (.ifCond .eq 12, 3) := by decide +kernel
theorem dL_rows_246 : decode cL_rows 246 = .ok (.iload 9, 2) := by decide +kernel
theorem dL_rows_248 : decode cL_rows 248 = .ok (.ifCond .eq 7, 3) := by decide +kernel
theorem dL_rows_251 : decode cL_rows 251 = .ok (.iconst 1, 1) := by decide +kernel
theorem dL_rows_252 : decode cL_rows 252 = .ok (.goto 4, 3) := by decide +kernel
theorem dL_rows_255 : decode cL_rows 255 = .ok (.iconst 0, 1) := by decide +kernel
theorem dL_rows_256 : decode cL_rows 256 = .ok (.istore 7, 2) := by decide +kernel
theorem dL_rows_258 : decode cL_rows 258 = .ok (.iload 6, 2) := by decide +kernel
theorem dL_rows_260 : decode cL_rows 260 = .ok (.iload 7, 2) := by decide +kernel
theorem dL_rows_262 : decode cL_rows 262 = .ok (.ifCond .eq 7, 3) := by decide +kernel
theorem dL_rows_265 : decode cL_rows 265 = .ok (.iconst 1, 1) := by decide +kernel
theorem dL_rows_266 : decode cL_rows 266 = .ok (.goto 4, 3) := by decide +kernel
theorem dL_rows_269 : decode cL_rows 269 = .ok (.iconst 0, 1) := by decide +kernel
theorem dL_rows_270 : decode cL_rows 270 = .ok (.iadd, 1) := by decide +kernel
theorem dL_rows_271 : decode cL_rows 271 = .ok (.istore 6, 2) := by decide +kernel
theorem dL_rows_273 : decode cL_rows 273 = .ok (.iinc 8 1, 3) := by decide +kernel
theorem dL_rows_276 : decode cL_rows 276 = .ok (.goto (-140), 3) := by decide +kernel
theorem dL_rows_279 : decode cL_rows 279 = .ok (.aload_n 0, 1) := by decide +kernel
theorem dL_rows_280 : decode cL_rows 280 = .ok (.iconst 4, 1) := by decide +kernel
theorem dL_rows_281 : decode cL_rows 281 = .ok (.invokevirtual 9, 3) := by decide +kernel
theorem dL_rows_284 : decode cL_rows 284 = .ok (.bipush 8, 2) := by decide +kernel
theorem dL_rows_286 : decode cL_rows 286 = .ok (.if_icmp .ge 11, 3) := by decide +kernel
theorem dL_rows_289 : decode cL_rows 289 = .ok (.aload_n 0, 1) := by decide +kernel
theorem dL_rows_290 : decode cL_rows 290 = .ok (.iconst 4, 1) := by decide +kernel
theorem dL_rows_291 : decode cL_rows 291 = .ok (.invokevirtual 9, 3) := by decide +kernel
theorem dL_rows_294 : decode cL_rows 294 = .ok (.goto 5, 3) := by decide +kernel
theorem dL_rows_297 : decode cL_rows 297 = .ok (.bipush 8, 2) := by decide +kernel
theorem dL_rows_299 : decode cL_rows 299 = .ok (.istore 8, 2) := by decide +kernel
theorem dL_rows_301 : decode cL_rows 301 = .ok (.aload_n 0, 1) := by decide +kernel
theorem dL_rows_302 : decode cL_rows 302 = .ok (.iconst 0, 1) := by decide +kernel
theorem dL_rows_303 : decode cL_rows 303 = .ok (.invokevirtual 9, 3) := by decide +kernel
theorem dL_rows_306 : decode cL_rows 306 = .ok (.istore 9, 2) := by decide +kernel
theorem dL_rows_308 : decode cL_rows 308 = .ok (.iconst 0, 1) := by decide +kernel
theorem dL_rows_309 : decode cL_rows 309 = .ok (.istore 10, 2) := by decide +kernel
theorem dL_rows_311 : decode cL_rows 311 = .ok (.iload 10, 2) := by decide +kernel
theorem dL_rows_313 : decode cL_rows 313 = .ok (.iload 8, 2) := by decide +kernel
theorem dL_rows_315 : decode cL_rows 315 = .ok (.if_icmp .ge 93, 3) := by decide +kernel
theorem dL_rows_318 : decode cL_rows 318 = .ok (.iload 5, 2) := by decide +kernel
theorem dL_rows_320 : decode cL_rows 320 = .ok (.ifCond .eq 88, 3) := by decide +kernel
theorem dL_rows_323 : decode cL_rows 323 = .ok (.aload_n 0, 1) := by decide +kernel
theorem dL_rows_324 : decode cL_rows 324 = .ok (.iload 10, 2) := by decide +kernel
theorem dL_rows_326 : decode cL_rows 326 = .ok (.iconst 3, 1) := by decide +kernel
theorem dL_rows_327 : decode cL_rows 327 = .ok (.invokevirtual 22, 3) := by decide +kernel
theorem dL_rows_330 : decode cL_rows 330 = .ok (.iload 9, 2) := by decide +kernel
theorem dL_rows_332 : decode cL_rows 332 = .ok (.if_icmp .gt 58, 3) := by decide +kernel
theorem dL_rows_335 : decode cL_rows 335 = .ok (.aload_n 0, 1) := by decide +kernel
theorem dL_rows_336 : decode cL_rows 336 = .ok (.iload 10, 2) := by decide +kernel
theorem dL_rows_338 : decode cL_rows 338 = .ok (.iconst 2, 1) := by decide +kernel
theorem dL_rows_339 : decode cL_rows 339 = .ok (.invokevirtual 22, 3) := by decide +kernel
theorem dL_rows_342 : decode cL_rows 342 = .ok (.ifCond .lt 48, 3) := by decide +kernel
theorem dL_rows_345 : decode cL_rows 345 = .ok (.aload_n 0, 1) := by decide +kernel
theorem dL_rows_346 : decode cL_rows 346 = .ok (.iload 10, 2) := by decide +kernel
theorem dL_rows_348 : decode cL_rows 348 = .ok (.iconst 2, 1) := by decide +kernel
theorem dL_rows_349 : decode cL_rows 349 = .ok (.invokevirtual 22, 3) := by decide +kernel
theorem dL_rows_352 : decode cL_rows 352 = .ok (.iconst 3, 1) := by decide +kernel
theorem dL_rows_353 : decode cL_rows 353 = .ok (.if_icmp .ge 37, 3) := by decide +kernel
theorem dL_rows_356 : decode cL_rows 356 = .ok (.aload_n 0, 1) := by decide +kernel
theorem dL_rows_357 : decode cL_rows 357 = .ok (.iload 10, 2) := by decide +kernel
theorem dL_rows_359 : decode cL_rows 359 = .ok (.iconst 0, 1) := by decide +kernel
theorem dL_rows_360 : decode cL_rows 360 = .ok (.invokevirtual 22, 3) := by decide +kernel
theorem dL_rows_363 : decode cL_rows 363 = .ok (.aload_n 0, 1) := by decide +kernel
theorem dL_rows_364 : decode cL_rows 364 = .ok (.bipush 19, 2) := by decide +kernel
theorem dL_rows_366 : decode cL_rows 366 = .ok (.invokevirtual 9, 3) := by decide +kernel
theorem dL_rows_369 : decode cL_rows 369 = .ok (.imul, 1) := by decide +kernel
theorem dL_rows_370 : decode cL_rows 370 = .ok (.aload_n 0, 1) := by decide +kernel
theorem dL_rows_371 : decode cL_rows 371 = .ok (.iload 10, 2) := by decide +kernel
theorem dL_rows_373 : decode cL_rows 373 = .ok (.iconst 1, 1) := by decide +kernel
theorem dL_rows_374 : decode cL_rows 374 = .ok (.invokevirtual 22, 3) := by decide +kernel
theorem dL_rows_377 : decode cL_rows 377 = .ok (.iadd, 1) := by decide +kernel
theorem dL_rows_378 : decode cL_rows 378 = .ok (.aload_n 0, 1) := by decide +kernel
theorem dL_rows_379 : decode cL_rows 379 = .ok (.iconst 1, 1) := by decide +kernel
theorem dL_rows_380 : decode cL_rows 380 = .ok (.invokevirtual 9, 3) := by decide +kernel
theorem dL_rows_383 : decode cL_rows 383 = .ok (.if_icmp .ge 7, 3) := by decide +kernel
theorem dL_rows_386 : decode cL_rows 386 = .ok (.iconst 1, 1) := by decide +kernel
theorem dL_rows_387 : decode cL_rows 387 = .ok (.goto 4, 3) := by decide +kernel
theorem dL_rows_390 : decode cL_rows 390 = .ok (.iconst 0, 1) := by decide +kernel
theorem dL_rows_391 : decode cL_rows 391 = .ok (.istore 5, 2) := by decide +kernel
theorem dL_rows_393 : decode cL_rows 393 = .ok (.aload_n 0, 1) := by decide +kernel
theorem dL_rows_394 : decode cL_rows 394 = .ok (.iload 10, 2) := by decide +kernel
theorem dL_rows_396 : decode cL_rows 396 = .ok (.iconst 3, 1) := by decide +kernel
theorem dL_rows_397 : decode cL_rows 397 = .ok (.invokevirtual 22, 3) := by decide +kernel
theorem dL_rows_400 : decode cL_rows 400 = .ok (.istore 9, 2) := by decide +kernel
theorem dL_rows_402 : decode cL_rows 402 = .ok (.iinc 10 1, 3) := by decide +kernel
theorem dL_rows_405 : decode cL_rows 405 = .ok (.goto (-94), 3) := by decide +kernel
theorem dL_rows_408 : decode cL_rows 408 = .ok (.iload 5, 2) := by decide +kernel
theorem dL_rows_410 : decode cL_rows 410 = .ok (.ifCond .eq 55, 3) := by decide +kernel
theorem dL_rows_413 : decode cL_rows 413 = .ok (.aload_n 0, 1) := by decide +kernel
theorem dL_rows_414 : decode cL_rows 414 = .ok (.invokevirtual 25, 3) := by decide +kernel
theorem dL_rows_417 : decode cL_rows 417 = .ok (.iload 6, 2) := by decide +kernel
theorem dL_rows_419 : decode cL_rows 419 = .ok (.if_icmp .ne 46, 3) := by decide +kernel
theorem dL_rows_422 : decode cL_rows 422 = .ok (.aload_n 0, 1) := by decide +kernel
theorem dL_rows_423 : decode cL_rows 423 = .ok (.iload 8, 2) := by decide +kernel
theorem dL_rows_425 : decode cL_rows 425 = .ok (.iconst 0, 1) := by decide +kernel
theorem dL_rows_426 : decode cL_rows 426 = .ok (.invokevirtual 22, 3) := by decide +kernel
theorem dL_rows_429 : decode cL_rows 429 = .ok (.iconst (-1), 1) := by decide +kernel
theorem dL_rows_430 : decode cL_rows 430 = .ok (.if_icmp .ne 35, 3) := by decide +kernel
theorem dL_rows_433 : decode cL_rows 433 = .ok (.aload_n 0, 1) := by decide +kernel
theorem dL_rows_434 : decode cL_rows 434 = .ok (.bipush 15, 2) := by decide +kernel
theorem dL_rows_436 : decode cL_rows 436 = .ok (.invokevirtual 9, 3) := by decide +kernel
theorem dL_rows_439 : decode cL_rows 439 = .ok (.bipush (-6), 2) := by decide +kernel
theorem dL_rows_441 : decode cL_rows 441 = .ok (.if_icmp .ne 7, 3) := by decide +kernel
theorem dL_rows_444 : decode cL_rows 444 = .ok (.iconst 1, 1) := by decide +kernel
theorem dL_rows_445 : decode cL_rows 445 = .ok (.goto 4, 3) := by decide +kernel
theorem dL_rows_448 : decode cL_rows 448 = .ok (.iconst 0, 1) := by decide +kernel
theorem dL_rows_449 : decode cL_rows 449 = .ok (.iload_n 3, 1) := by decide +kernel
theorem dL_rows_450 : decode cL_rows 450 = .ok (.ifCond .ne 7, 3) := by decide +kernel
theorem dL_rows_453 : decode cL_rows 453 = .ok (.iconst 1, 1) := by decide +kernel
theorem dL_rows_454 : decode cL_rows 454 = .ok (.goto 4, 3) := by decide +kernel
theorem dL_rows_457 : decode cL_rows 457 = .ok (.iconst 0, 1) := by decide +kernel
theorem dL_rows_458 : decode cL_rows 458 = .ok (.if_icmp .ne 7, 3) := by decide +kernel
theorem dL_rows_461 : decode cL_rows 461 = .ok (.iconst 1, 1) := by decide +kernel
theorem dL_rows_462 : decode cL_rows 462 = .ok (.goto 4, 3) := by decide +kernel
theorem dL_rows_465 : decode cL_rows 465 = .ok (.iconst 0, 1) := by decide +kernel
theorem dL_rows_466 : decode cL_rows 466 = .ok (.ireturn, 1) := by decide +kernel
set_option maxRecDepth 20000 in
theorem ggL_act_L_cell : GoodIn wsL_act wsL_cell := goodIn_r _ [4, 5] (by decide +kernel) (by decide +kernel)
set_option maxRecDepth 20000 in
theorem gL_act_L_cell : GoodIn wsL_act (va_wsS RL 29 yL_cell wsL_cell) := goodIn_app (goodIn_of _ (by decide +kernel)) ggL_act_L_cell
set_option maxRecDepth 20000 in
theorem ggL_act_L_low : GoodIn wsL_act wsL_low := goodIn_r _ [8, 9] (by decide +kernel) (by decide +kernel)
set_option maxRecDepth 20000 in
theorem gL_act_L_low : GoodIn wsL_act (va_wsS RL 35 yL_low wsL_low) := goodIn_app (goodIn_of _ (by decide +kernel)) ggL_act_L_low
set_option maxRecDepth 20000 in
theorem ggL_act_X4_set : GoodIn wsL_act wsX4_set := goodIn_r _ [14, 15, 16, 17, 18, 19, 20, 21, 22, 23, 24, 25, 13, 26, 27, 28, 29, 30, 31, 32, 33, 34, 35, 36, 37, 38, 39, 40, 41, 42, 43, 44, 45, 46, 47, 48, 49, 50, 51, 52, 53, 54, 55, 56, 57, 58, 59, 60, 61, 62, 63, 64, 65, 66, 67, 68, 69, 70, 71, 72, 73, 74, 75, 76, 77, 78, 79, 80, 81, 130, 131, 132, 133, 134, 135, 136, 137, 138, 139, 140, 141, 142, 143, 144, 145] (by decide +kernel) (by decide +kernel)
set_option maxRecDepth 20000 in
theorem gL_act_X4_set : GoodIn wsL_act (wsV RL 38 RX4 yX4_set wsX4_set) := goodIn_app (goodIn_of _ (by decide +kernel)) ggL_act_X4_set
set_option maxRecDepth 20000 in
theorem ggL_act_X4_value : GoodIn wsL_act wsX4_value := goodIn_r _ [85, 15, 16, 17, 18, 19, 20, 21, 22, 23, 24, 25, 13, 26, 27, 28, 29, 30, 31, 32, 33, 34, 35, 36, 37, 38, 39, 40, 41, 42, 43, 44, 45, 46, 47, 48, 49, 50, 51, 52, 53, 54, 55, 56, 57, 58, 59, 60, 61, 62, 63, 64, 65, 66, 67, 68, 69, 70, 71, 86, 87, 88, 89, 76, 77, 78, 79, 80, 81, 130, 131, 132, 133, 134, 135, 136, 137, 138, 139, 140, 141, 142, 143, 144, 145] (by decide +kernel) (by decide +kernel)
set_option maxRecDepth 20000 in
theorem gL_act_X4_value : GoodIn wsL_act (wsV RL 41 RX4 yX4_value wsX4_value) := goodIn_app (goodIn_of _ (by decide +kernel)) ggL_act_X4_value
set_option maxRecDepth 20000 in
theorem ggL_act_X4_slip : GoodIn wsL_act wsX4_slip := goodIn_r _ [93, 15, 16, 17, 18, 19, 20, 21, 22, 23, 24, 25, 13, 26, 27, 28, 29, 30, 31, 32, 33, 34, 35, 36, 37, 38, 39, 40, 41, 42, 43, 44, 45, 46, 47, 48, 49, 50, 51, 52, 53, 54, 55, 56, 57, 58, 59, 60, 61, 62, 63, 64, 65, 66, 67, 68, 69, 70, 71, 94, 95, 96, 97, 76, 77, 78, 79, 80, 81, 130, 131, 132, 133, 134, 135, 136, 137, 138, 139, 140, 141, 142, 143, 144, 145] (by decide +kernel) (by decide +kernel)
set_option maxRecDepth 20000 in
theorem gL_act_X4_slip : GoodIn wsL_act (wsV RL 44 RX4 yX4_slip wsX4_slip) := goodIn_app (goodIn_of _ (by decide +kernel)) ggL_act_X4_slip
set_option maxRecDepth 20000 in
theorem ggL_act_X4_flush : GoodIn wsL_act wsX4_flush := goodIn_r _ [101, 15, 16, 17, 18, 19, 20, 21, 22, 23, 24, 25, 13, 26, 27, 28, 29, 30, 31, 32, 33, 34, 35, 36, 37, 38, 39, 40, 41, 42, 43, 44, 45, 46, 47, 48, 49, 50, 51, 52, 53, 54, 55, 56, 57, 58, 59, 60, 61, 62, 63, 64, 65, 66, 67, 68, 69, 70, 71, 102, 103, 104, 105, 106, 107, 108, 109, 110, 111, 112, 113, 114, 115, 116, 117, 118, 119, 120, 121, 78, 79, 80, 81, 130, 131, 132, 133, 134, 135, 136, 137, 138, 139, 140, 141, 142, 143, 144, 145] (by decide +kernel) (by decide +kernel)
set_option maxRecDepth 20000 in
theorem gL_act_X4_flush : GoodIn wsL_act (wsV RL 47 RX4 yX4_flush wsX4_flush) := goodIn_app (goodIn_of _ (by decide +kernel)) ggL_act_X4_flush
set_option maxRecDepth 20000 in
theorem ggL_act_X4_undo : GoodIn wsL_act wsX4_undo := goodIn_r _ [125, 15, 16, 126, 127, 128, 20, 129, 24, 22, 23, 55, 56, 57, 29, 58, 37, 59, 60, 61, 62, 38, 42, 43, 44, 63, 64, 65, 66, 41, 67, 54, 68, 69, 52, 70, 71, 130, 131, 132, 133, 134, 135, 136, 137, 138, 139, 140, 141, 142, 143, 144, 145] (by decide +kernel) (by decide +kernel)
set_option maxRecDepth 20000 in
theorem gL_act_X4_undo : GoodIn wsL_act (wsV RL 50 RX4 yX4_undo wsX4_undo) := goodIn_app (goodIn_of _ (by decide +kernel)) ggL_act_X4_undo
theorem dL_act_0 : decode cL_act 0 = .ok (.aload_n 1, 1) := by decide +kernel
theorem dL_act_1 : decode cL_act 1 = .ok (.iload_n 2, 1) := by decide +kernel
theorem dL_act_2 : decode cL_act 2 = .ok (.iconst 1, 1) := by decide +kernel
theorem dL_act_3 : decode cL_act 3 = .ok (.iadd, 1) := by decide +kernel
theorem dL_act_4 : decode cL_act 4 = .ok (.invokestatic 29, 3) := by decide +kernel
theorem dL_act_7 : decode cL_act 7 = .ok (.istore_n 3, 1) := by decide +kernel
theorem dL_act_8 : decode cL_act 8 = .ok (.aload_n 1, 1) := by decide +kernel
theorem dL_act_9 : decode cL_act 9 = .ok (.iload_n 2, 1) := by decide +kernel
theorem dL_act_10 : decode cL_act 10 = .ok (.iconst 2, 1) := by decide +kernel
theorem dL_act_11 : decode cL_act 11 = .ok (.iadd, 1) := by decide +kernel
theorem dL_act_12 : decode cL_act 12 = .ok (.invokestatic 29, 3) := by decide +kernel
theorem dL_act_15 : decode cL_act 15 = .ok (.istore 4, 2) := by decide +kernel
theorem dL_act_17 : decode cL_act 17 = .ok (.aload_n 1, 1) := by decide +kernel
theorem dL_act_18 : decode cL_act 18 = .ok (.iload_n 2, 1) := by decide +kernel
theorem dL_act_19 : decode cL_act 19 = .ok (.invokestatic 29, 3) := by decide +kernel
theorem dL_act_22 : decode cL_act 22 = .ok (.bipush 12, 2) := by decide +kernel
theorem dL_act_24 : decode cL_act 24 = .ok (.invokestatic 35, 3) := by decide +kernel
theorem dL_act_27 : decode cL_act 27 = .ok (.tableswitch 141 0 5 #[37, 51, 63, 83, 102, 121], 37) := by decide +kernel
theorem dL_act_64 : decode cL_act 64 = .ok (.aload_n 0, 1) := by decide +kernel
theorem dL_act_65 : decode cL_act 65 = .ok (.iconst 0, 1) := by decide +kernel
theorem dL_act_66 : decode cL_act 66 = .ok (.iconst 1, 1) := by decide +kernel
theorem dL_act_67 : decode cL_act 67 = .ok (.iload_n 3, 1) := by decide +kernel
theorem dL_act_68 : decode cL_act 68 = .ok (.bipush 20, 2) := by decide +kernel
theorem dL_act_70 : decode cL_act 70 = .ok (.invokestatic 35, 3) := by decide +kernel
theorem dL_act_73 : decode cL_act 73 = .ok (.iadd, 1) := by decide +kernel
theorem dL_act_74 : decode cL_act 74 = .ok (.invokevirtual 38, 3) := by decide +kernel
theorem dL_act_77 : decode cL_act 77 = .ok (.ireturn, 1) := by decide +kernel
theorem dL_act_78 : decode cL_act 78 = .ok (.aload_n 0, 1) := by decide +kernel
theorem dL_act_79 : decode cL_act 79 = .ok (.iconst 1, 1) := by decide +kernel
theorem dL_act_80 : decode cL_act 80 = .ok (.iload_n 3, 1) := by decide +kernel
theorem dL_act_81 : decode cL_act 81 = .ok (.bipush 20, 2) := by decide +kernel
theorem dL_act_83 : decode cL_act 83 = .ok (.invokestatic 35, 3) := by decide +kernel
theorem dL_act_86 : decode cL_act 86 = .ok (.invokevirtual 38, 3) := by decide +kernel
theorem dL_act_89 : decode cL_act 89 = .ok (.ireturn, 1) := by decide +kernel
theorem dL_act_90 : decode cL_act 90 = .ok (.aload_n 0, 1) := by decide +kernel
theorem dL_act_91 : decode cL_act 91 = .ok (.iconst 2, 1) := by decide +kernel
theorem dL_act_92 : decode cL_act 92 = .ok (.iload_n 3, 1) := by decide +kernel
theorem dL_act_93 : decode cL_act 93 = .ok (.bipush 6, 2) := by decide +kernel
theorem dL_act_95 : decode cL_act 95 = .ok (.invokestatic 35, 3) := by decide +kernel
theorem dL_act_98 : decode cL_act 98 = .ok (.iadd, 1) := by decide +kernel
theorem dL_act_99 : decode cL_act 99 = .ok (.iload 4, 2) := by decide +kernel
theorem dL_act_101 : decode cL_act 101 = .ok (.bipush 17, 2) := by decide +kernel
theorem dL_act_103 : decode cL_act 103 = .ok (.invokestatic 35, 3) := by decide +kernel
theorem dL_act_106 : decode cL_act 106 = .ok (.invokevirtual 38, 3) := by decide +kernel
theorem dL_act_109 : decode cL_act 109 = .ok (.ireturn, 1) := by decide +kernel
theorem dL_act_110 : decode cL_act 110 = .ok (.aload_n 0, 1) := by decide +kernel
theorem dL_act_111 : decode cL_act 111 = .ok (.iload_n 3, 1) := by decide +kernel
theorem dL_act_112 : decode cL_act 112 = .ok (.bipush 17, 2) := by decide +kernel
theorem dL_act_114 : decode cL_act 114 = .ok (.invokestatic 35, 3) := by decide +kernel
theorem dL_act_117 : decode cL_act 117 = .ok (.iload 4, 2) := by decide +kernel
theorem dL_act_119 : decode cL_act 119 = .ok (.sipush 257, 3) := by decide +kernel
theorem dL_act_122 : decode cL_act 122 = .ok (.invokestatic 35, 3) := by decide +kernel
theorem dL_act_125 : decode cL_act 125 = .ok (.invokevirtual 41, 3) := by decide +kernel
theorem dL_act_128 : decode cL_act 128 = .ok (.ireturn, 1) := by decide +kernel
theorem dL_act_129 : decode cL_act 129 = .ok (.aload_n 0, 1) := by decide +kernel
theorem dL_act_130 : decode cL_act 130 = .ok (.iload_n 3, 1) := by decide +kernel
theorem dL_act_131 : decode cL_act 131 = .ok (.iconst 2, 1) := by decide +kernel
theorem dL_act_132 : decode cL_act 132 = .ok (.invokestatic 35, 3) := by decide +kernel
theorem dL_act_135 : decode cL_act 135 = .ok (.iconst 1, 1) := by decide +kernel
theorem dL_act_136 : decode cL_act 136 = .ok (.iload 4, 2) := by decide +kernel
theorem dL_act_138 : decode cL_act 138 = .ok (.bipush 30, 2) := by decide +kernel
theorem dL_act_140 : decode cL_act 140 = .ok (.invokestatic 35, 3) := by decide +kernel
theorem dL_act_143 : decode cL_act 143 = .ok (.iadd, 1) := by decide +kernel
theorem dL_act_144 : decode cL_act 144 = .ok (.invokevirtual 44, 3) := by decide +kernel
theorem dL_act_147 : decode cL_act 147 = .ok (.ireturn, 1) := by decide +kernel
theorem dL_act_148 : decode cL_act 148 = .ok (.iload_n 3, 1) := by decide +kernel
theorem dL_act_149 : decode cL_act 149 = .ok (.iconst 3, 1) := by decide +kernel
theorem dL_act_150 : decode cL_act 150 = .ok (.invokestatic 35, 3) := by decide +kernel
theorem dL_act_153 : decode cL_act 153 = .ok (.ifCond .ne 10, 3) := by decide +kernel
theorem dL_act_156 : decode cL_act 156 = .ok (.aload_n 0, 1) := by decide +kernel
theorem dL_act_157 : decode cL_act 157 = .ok (.invokevirtual 47, 3) := by decide +kernel
theorem dL_act_160 : decode cL_act 160 = .ok (.goto 7, 3) := by decide +kernel
theorem dL_act_163 : decode cL_act 163 = .ok (.aload_n 0, 1) := by decide +kernel
theorem dL_act_164 : decode cL_act 164 = .ok (.invokevirtual 50, 3) := by decide +kernel
theorem dL_act_167 : decode cL_act 167 = .ok (.ireturn, 1) := by decide +kernel
theorem dL_act_168 : decode cL_act 168 = .ok (.bipush (-20), 2) := by decide +kernel
theorem dL_act_170 : decode cL_act 170 = .ok (.ireturn, 1) := by decide +kernel
set_option maxRecDepth 20000 in
theorem ggL_law_X4_init : GoodIn wsL_law wsX4_init := goodIn_r _ [5, 6, 7, 8, 9, 10, 11, 12, 13, 14, 15, 16, 17, 18, 19, 20, 21, 22, 23, 24, 25, 26, 27, 28, 29, 30, 31, 32, 33, 34, 35, 36, 37, 38, 39, 40, 41, 42, 43, 44, 45, 46, 47, 48, 49, 50, 51, 52, 53, 54, 55, 250, 251, 252, 253, 254, 255, 245, 246, 247, 248, 249, 256, 257, 258, 259, 260, 261, 262, 263, 264, 265, 266] (by decide +kernel) (by decide +kernel)
set_option maxRecDepth 20000 in
theorem gL_law_X4_init : GoodIn wsL_law (wsX4_init) := ggL_law_X4_init
set_option maxRecDepth 20000 in
theorem ggL_law_X4_count : GoodIn wsL_law wsX4_count := goodIn_r _ [59, 22, 18, 12, 60, 61, 2, 62, 245, 246, 247, 248, 249, 259, 260, 261, 262, 263, 264, 256, 257, 258, 250, 251, 252, 253, 254, 255] (by decide +kernel) (by decide +kernel)
set_option maxRecDepth 20000 in
theorem gL_law_X4_count : GoodIn wsL_law (wsV RL 9 RX4 yX4_count wsX4_count) := goodIn_app (goodIn_of _ (by decide +kernel)) ggL_law_X4_count
set_option maxRecDepth 20000 in
theorem ggL_law_L_act : GoodIn wsL_law wsL_act := goodIn_r _ [66, 67, 68, 65, 69, 70, 71, 72, 73, 74, 75, 76, 77, 2, 78, 18, 12, 79, 80, 81, 17, 82, 50, 83, 84, 85, 86, 9, 10, 11, 23, 24, 25, 26, 7, 8, 27, 28, 29, 30, 31, 32, 33, 34, 35, 36, 37, 38, 39, 40, 41, 42, 43, 44, 45, 87, 88, 89, 90, 91, 92, 93, 94, 95, 96, 97, 98, 99, 100, 101, 102, 103, 104, 105, 106, 107, 61, 62, 108, 109, 110, 111, 112, 113, 114, 115, 116, 117, 118, 119, 120, 121, 122, 123, 124, 125, 126, 127, 128, 129, 130, 131, 132, 133, 134, 135, 136, 137, 138, 139, 140, 141, 142, 143, 144, 145, 146, 147, 148, 149, 150, 151, 152, 153, 154, 155, 156, 157, 158, 159, 245, 246, 247, 248, 249, 256, 257, 258, 250, 251, 252, 253, 254, 255, 265, 266] (by decide +kernel) (by decide +kernel)
set_option maxRecDepth 20000 in
theorem gL_law_L_act : GoodIn wsL_law (va_wsS RL 54 yL_act wsL_act) := goodIn_app (goodIn_of _ (by decide +kernel)) ggL_law_L_act
set_option maxRecDepth 20000 in
theorem ggL_law_L_cell : GoodIn wsL_law wsL_cell := goodIn_r _ [69, 70] (by decide +kernel) (by decide +kernel)
set_option maxRecDepth 20000 in
theorem gL_law_L_cell : GoodIn wsL_law (va_wsS RL 29 yL_cell wsL_cell) := goodIn_app (goodIn_of _ (by decide +kernel)) ggL_law_L_cell
set_option maxRecDepth 20000 in
theorem ggL_law_L_low : GoodIn wsL_law wsL_low := goodIn_r _ [73, 74] (by decide +kernel) (by decide +kernel)
set_option maxRecDepth 20000 in
theorem gL_law_L_low : GoodIn wsL_law (va_wsS RL 35 yL_low wsL_low) := goodIn_app (goodIn_of _ (by decide +kernel)) ggL_law_L_low
set_option maxRecDepth 20000 in
theorem ggL_law_X4_would : GoodIn wsL_law wsX4_would := goodIn_r _ [163, 13, 12, 164, 60, 61, 2, 62, 87, 88, 89, 11, 90, 28, 91, 92, 93, 94, 29, 33, 34, 35, 95, 96, 97, 98, 32, 99, 45, 100, 101, 43, 102, 103, 165, 166, 167, 168, 169, 170, 42, 44, 171, 172, 173, 174, 175, 176, 177, 178, 179, 180, 181, 182, 144, 145, 146, 147, 40, 183, 184, 185, 186, 140, 141, 142, 143, 136, 137, 138, 139, 148, 149, 150, 151, 187, 188, 189, 190, 191, 192, 193, 194, 195, 196, 197, 198, 199, 200, 201, 202, 203, 204, 205, 206, 207, 208, 209, 210, 211, 212, 213, 214, 245, 246, 247, 248, 249, 250, 251, 252, 253, 254, 255, 265, 266] (by decide +kernel) (by decide +kernel)
set_option maxRecDepth 20000 in
theorem gL_law_X4_would : GoodIn wsL_law (wsV RL 58 RX4 yX4_would wsX4_would) := goodIn_app (goodIn_of _ (by decide +kernel)) ggL_law_X4_would
set_option maxRecDepth 20000 in
theorem ggL_law_X4_pass : GoodIn wsL_law wsX4_pass := goodIn_r _ [218, 18, 12, 219, 79, 80, 81, 17, 82, 50, 83, 84, 85, 2, 86, 9, 10, 11, 23, 24, 25, 26, 7, 8, 27, 28, 29, 30, 31, 32, 33, 34, 35, 36, 37, 38, 39, 40, 41, 42, 43, 44, 45, 87, 88, 89, 90, 91, 92, 93, 94, 95, 96, 97, 98, 99, 100, 101, 102, 103, 165, 166, 167, 168, 169, 170, 61, 62, 171, 172, 173, 174, 175, 176, 177, 178, 179, 180, 181, 182, 144, 145, 146, 147, 183, 184, 185, 186, 140, 141, 142, 143, 136, 137, 138, 139, 148, 149, 150, 151, 187, 188, 189, 190, 191, 192, 193, 194, 195, 196, 197, 198, 199, 200, 201, 202, 203, 204, 205, 206, 207, 208, 209, 210, 108, 109, 110, 111, 245, 246, 247, 248, 249, 256, 257, 258, 250, 251, 252, 253, 254, 255, 265, 266] (by decide +kernel) (by decide +kernel)
set_option maxRecDepth 20000 in
theorem gL_law_X4_pass : GoodIn wsL_law (wsV RL 61 RX4 yX4_pass wsX4_pass) := goodIn_app (goodIn_of _ (by decide +kernel)) ggL_law_X4_pass
set_option maxRecDepth 20000 in
theorem ggL_law_L_lines : GoodIn wsL_law wsL_lines := goodIn_r _ [222, 56, 57, 58, 2, 59, 22, 18, 12, 60, 61, 62, 223, 224, 225, 226, 227, 141, 142, 32, 143, 40, 45, 245, 246, 247, 248, 249, 259, 260, 261, 262, 263, 264, 256, 257, 258, 250, 251, 252, 253, 254, 255, 265, 266] (by decide +kernel) (by decide +kernel)
set_option maxRecDepth 20000 in
theorem gL_law_L_lines : GoodIn wsL_law (va_wsS RL 64 yL_lines wsL_lines) := goodIn_app (goodIn_of _ (by decide +kernel)) ggL_law_L_lines
set_option maxRecDepth 20000 in
theorem ggL_law_L_rows : GoodIn wsL_law wsL_rows := goodIn_r _ [230, 56, 57, 58, 2, 59, 22, 18, 12, 60, 61, 62, 223, 224, 225, 226, 227, 141, 142, 32, 143, 40, 45, 231, 232, 233, 234, 235, 192, 193, 11, 194, 179, 180, 181, 182, 28, 236, 237, 238, 239, 240, 101, 43, 102, 241, 242, 243, 244, 245, 246, 247, 248, 249, 259, 260, 261, 262, 263, 264, 256, 257, 258, 250, 251, 252, 253, 254, 255, 265, 266] (by decide +kernel) (by decide +kernel)
set_option maxRecDepth 20000 in
theorem gL_law_L_rows : GoodIn wsL_law (va_wsS RL 68 yL_rows wsL_rows) := goodIn_app (goodIn_of _ (by decide +kernel)) ggL_law_L_rows
theorem dL_law_0 : decode cL_law 0 = .ok (.new 10, 3) := by decide +kernel
theorem dL_law_3 : decode cL_law 3 = .ok (.dup, 1) := by decide +kernel
theorem dL_law_4 : decode cL_law 4 = .ok (.invokespecial 53, 3) := by decide +kernel
theorem dL_law_7 : decode cL_law 7 = .ok (.astore_n 1, 1) := by decide +kernel
theorem dL_law_8 : decode cL_law 8 = .ok (.iconst 1, 1) := by decide +kernel
theorem dL_law_9 : decode cL_law 9 = .ok (.istore_n 2, 1) := by decide +kernel
theorem dL_law_10 : decode cL_law 10 = .ok (.aload_n 0, 1) := by decide +kernel
theorem dL_law_11 : decode cL_law 11 = .ok (.arraylength, 1) := by decide +kernel
theorem dL_law_12 : decode cL_law 12 = .ok (.iconst 3, 1) := by decide +kernel
theorem dL_law_13 : decode cL_law 13 = .ok (.idiv, 1) := by decide +kernel
theorem dL_law_14 : decode cL_law 14 = .ok (.bipush 40, 2) := by decide +kernel
theorem dL_law_16 : decode cL_law 16 = .ok (.if_icmp .le 8, 3) := by decide +kernel
theorem dL_law_19 : decode cL_law 19 = .ok (.bipush 40, 2) := by decide +kernel
theorem dL_law_21 : decode cL_law 21 = .ok (.goto 7, 3) := by decide +kernel
theorem dL_law_24 : decode cL_law 24 = .ok (.aload_n 0, 1) := by decide +kernel
theorem dL_law_25 : decode cL_law 25 = .ok (.arraylength, 1) := by decide +kernel
theorem dL_law_26 : decode cL_law 26 = .ok (.iconst 3, 1) := by decide +kernel
theorem dL_law_27 : decode cL_law 27 = .ok (.idiv, 1) := by decide +kernel
theorem dL_law_28 : decode cL_law 28 = .ok (.istore_n 3, 1) := by decide +kernel
theorem dL_law_29 : decode cL_law 29 = .ok (.iconst 0, 1) := by decide +kernel
theorem dL_law_30 : decode cL_law 30 = .ok (.istore 4, 2) := by decide +kernel
theorem dL_law_32 : decode cL_law 32 = .ok (.iload 4, 2) := by decide +kernel
theorem dL_law_34 : decode cL_law 34 = .ok (.iload_n 3, 1) := by decide +kernel
theorem dL_law_35 : decode cL_law 35 = .ok (.if_icmp .ge 223, 3) := by decide +kernel
theorem dL_law_38 : decode cL_law 38 = .ok (.iload_n 2, 1) := by decide +kernel
theorem dL_law_39 : decode cL_law 39 = .ok (.ifCond .eq 219, 3) := by decide +kernel
theorem dL_law_42 : decode cL_law 42 = .ok (.aload_n 1, 1) := by decide +kernel
theorem dL_law_43 : decode cL_law 43 = .ok (.bipush 25, 2) := by decide +kernel
theorem dL_law_45 : decode cL_law 45 = .ok (.invokevirtual 9, 3) := by decide +kernel
theorem dL_law_48 : decode cL_law 48 = .ok (.istore 5, 2) := by decide +kernel
theorem dL_law_50 : decode cL_law 50 = .ok (.aload_n 1, 1) := by decide +kernel
theorem dL_law_51 : decode cL_law 51 = .ok (.iconst 0, 1) := by decide +kernel
theorem dL_law_52 : decode cL_law 52 = .ok (.invokevirtual 9, 3) := by decide +kernel
theorem dL_law_55 : decode cL_law 55 = .ok (.istore 6, 2) := by decide +kernel
theorem dL_law_57 : decode cL_law 57 = .ok (.aload_n 1, 1) := by decide +kernel
theorem dL_law_58 : decode cL_law 58 = .ok (.aload_n 0, 1) := by decide +kernel
theorem dL_law_59 : decode cL_law 59 = .ok (.iconst 3, 1) := by decide +kernel
theorem dL_law_60 : decode cL_law 60 = .ok (.iload 4, 2) := by decide +kernel
theorem dL_law_62 : decode cL_law 62 = .ok (.imul, 1) := by decide +kernel
theorem dL_law_63 : decode cL_law 63 = .ok (.invokestatic 54, 3) := by decide +kernel
theorem dL_law_66 : decode cL_law 66 = .ok (.istore 7, 2) := by decide +kernel
theorem dL_law_68 : decode cL_law 68 = .ok (.iload 7, 2) := by decide +kernel
theorem dL_law_70 : decode cL_law 70 = .ok (.bipush (-20), 2) := by decide +kernel
theorem dL_law_72 : decode cL_law 72 = .ok (.if_icmp .ne 124, 3) := by decide +kernel
theorem dL_law_75 : decode cL_law 75 = .ok (.iconst 1, 1) := by decide +kernel
theorem dL_law_76 : decode cL_law 76 = .ok (.aload_n 0, 1) := by decide +kernel
theorem dL_law_77 : decode cL_law 77 = .ok (.iconst 3, 1) := by decide +kernel
theorem dL_law_78 : decode cL_law 78 = .ok (.iload 4, 2) := by decide +kernel
theorem dL_law_80 : decode cL_law 80 = .ok (.imul, 1) := by decide +kernel
theorem dL_law_81 : decode cL_law 81 = .ok (.iconst 1, 1) := by decide +kernel
theorem dL_law_82 : decode cL_law 82 = .ok (.iadd, 1) := by decide +kernel
theorem dL_law_83 : decode cL_law 83 = .ok (.invokestatic 29, 3) := by decide +kernel
theorem dL_law_86 : decode cL_law 86 = .ok (.bipush 60, 2) := by decide +kernel
theorem dL_law_88 : decode cL_law 88 = .ok (.invokestatic 35, 3) := by decide +kernel
theorem dL_law_91 : decode cL_law 91 = .ok (.iadd, 1) := by decide +kernel
theorem dL_law_92 : decode cL_law 92 = .ok (.istore 8, 2) := by decide +kernel
theorem dL_law_94 : decode cL_law 94 = .ok (.aload_n 1, 1) := by decide +kernel
theorem dL_law_95 : decode cL_law 95 = .ok (.iconst 4, 1) := by decide +kernel
theorem dL_law_96 : decode cL_law 96 = .ok (.invokevirtual 9, 3) := by decide +kernel
theorem dL_law_99 : decode cL_law 99 = .ok (.aload_n 1, 1) := by decide +kernel
theorem dL_law_100 : decode cL_law 100 = .ok (.iload 8, 2) := by decide +kernel
theorem dL_law_102 : decode cL_law 102 = .ok (.iconst 0, 1) := by decide +kernel
theorem dL_law_103 : decode cL_law 103 = .ok (.invokevirtual 58, 3) := by decide +kernel
theorem dL_law_106 : decode cL_law 106 = .ok (.iadd, 1) := by decide +kernel
theorem dL_law_107 : decode cL_law 107 = .ok (.istore 9, 2) := by decide +kernel
theorem dL_law_109 : decode cL_law 109 = .ok (.aload_n 1, 1) := by decide +kernel
theorem dL_law_110 : decode cL_law 110 = .ok (.bipush 6, 2) := by decide +kernel
theorem dL_law_112 : decode cL_law 112 = .ok (.invokevirtual 9, 3) := by decide +kernel
theorem dL_law_115 : decode cL_law 115 = .ok (.aload_n 1, 1) := by decide +kernel
theorem dL_law_116 : decode cL_law 116 = .ok (.iload 8, 2) := by decide +kernel
theorem dL_law_118 : decode cL_law 118 = .ok (.iconst 1, 1) := by decide +kernel
theorem dL_law_119 : decode cL_law 119 = .ok (.invokevirtual 58, 3) := by decide +kernel
theorem dL_law_122 : decode cL_law 122 = .ok (.iadd, 1) := by decide +kernel
theorem dL_law_123 : decode cL_law 123 = .ok (.istore 10, 2) := by decide +kernel
theorem dL_law_125 : decode cL_law 125 = .ok (.aload_n 1, 1) := by decide +kernel
theorem dL_law_126 : decode cL_law 126 = .ok (.bipush 12, 2) := by decide +kernel
theorem dL_law_128 : decode cL_law 128 = .ok (.invokevirtual 9, 3) := by decide +kernel
theorem dL_law_131 : decode cL_law 131 = .ok (.aload_n 1, 1) := by decide +kernel
theorem dL_law_132 : decode cL_law 132 = .ok (.iload 8, 2) := by decide +kernel
theorem dL_law_134 : decode cL_law 134 = .ok (.iconst 2, 1) := by decide +kernel
theorem dL_law_135 : decode cL_law 135 = .ok (.invokevirtual 58, 3) := by decide +kernel
theorem dL_law_138 : decode cL_law 138 = .ok (.iadd, 1) := by decide +kernel
theorem dL_law_139 : decode cL_law 139 = .ok (.istore 11, 2) := by decide +kernel
theorem dL_law_141 : decode cL_law 141 = .ok (.aload_n 1, 1) := by decide +kernel
theorem dL_law_142 : decode cL_law 142 = .ok (.iload 8, 2) := by decide +kernel
theorem dL_law_144 : decode cL_law 144 = .ok (.invokevirtual 61, 3) := by decide +kernel
theorem dL_law_147 : decode cL_law 147 = .ok (.iload 6, 2) := by decide +kernel
theorem dL_law_149 : decode cL_law 149 = .ok (.iload 8, 2) := by decide +kernel
theorem dL_law_151 : decode cL_law 151 = .ok (.iadd, 1) := by decide +kernel
theorem dL_law_152 : decode cL_law 152 = .ok (.if_icmp .ne 39, 3) := by decide +kernel
theorem dL_law_155 : decode cL_law 155 = .ok (.aload_n 1, 1) := by decide +kernel
theorem dL_law_156 : decode cL_law 156 = .ok (.iconst 4, 1) := by decide +kernel
theorem dL_law_157 : decode cL_law 157 = .ok (.invokevirtual 9, 3) := by decide +kernel
theorem dL_law_160 : decode cL_law 160 = .ok (.iload 9, 2) := by decide +kernel
theorem dL_law_162 : decode cL_law 162 = .ok (.if_icmp .ne 29, 3) := by decide +kernel
theorem dL_law_165 : decode cL_law 165 = .ok (.aload_n 1, 1) := by decide +kernel
theorem dL_law_166 : decode cL_law 166 = .ok (.bipush 6, 2) := by decide +kernel
theorem dL_law_168 : decode cL_law 168 = .ok (.invokevirtual 9, 3) := by decide +kernel
theorem dL_law_171 : decode cL_law 171 = .ok (.iload 10, 2) := by decide +kernel
theorem dL_law_173 : decode cL_law 173 = .ok (.if_icmp .ne 18, 3) := by decide +kernel
theorem dL_law_176 : decode cL_law 176 = .ok (.aload_n 1, 1) := by decide +kernel
theorem dL_law_177 : decode cL_law 177 = .ok (.bipush 12, 2) := by decide +kernel
theorem dL_law_179 : decode cL_law 179 = .ok (.invokevirtual 9, 3) := by decide +kernel
theorem dL_law_182 : decode cL_law 182 = .ok (.iload 11, 2) := by decide +kernel
theorem dL_law_184 : decode cL_law 184 = .ok (.if_icmp .ne 7, 3) := by decide +kernel
theorem dL_law_187 : decode cL_law 187 = .ok (.iconst 1, 1) := by decide +kernel
theorem dL_law_188 : decode cL_law 188 = .ok (.goto 4, 3) := by decide +kernel
theorem dL_law_191 : decode cL_law 191 = .ok (.iconst 0, 1) := by decide +kernel
theorem dL_law_192 : decode cL_law 192 = .ok (.istore_n 2, 1) := by decide +kernel
theorem dL_law_193 : decode cL_law 193 = .ok (.goto 35, 3) := by decide +kernel
theorem dL_law_196 : decode cL_law 196 = .ok (.iload 7, 2) := by decide +kernel
theorem dL_law_198 : decode cL_law 198 = .ok (.ifCond .ge 24, 3) := by decide +kernel
theorem dL_law_201 : decode cL_law 201 = .ok (.aload_n 1, 1) := by decide +kernel
theorem dL_law_202 : decode cL_law 202 = .ok (.bipush 25, 2) := by decide +kernel
theorem dL_law_204 : decode cL_law 204 = .ok (.invokevirtual 9, 3) := by decide +kernel
theorem dL_law_207 : decode cL_law 207 = .ok (.iload 5, 2) := by decide +kernel
theorem dL_law_209 : decode cL_law 209 = .ok (.if_icmp .ne 17, 3) := by decide +kernel
theorem dL_law_212 : decode cL_law 212 = .ok (.aload_n 1, 1) := by decide +kernel
theorem dL_law_213 : decode cL_law 213 = .ok (.iconst 0, 1) := by decide +kernel
theorem dL_law_214 : decode cL_law 214 = .ok (.invokevirtual 9, 3) := by decide +kernel
theorem dL_law_217 : decode cL_law 217 = .ok (.iload 6, 2) := by decide +kernel
theorem dL_law_219 : decode cL_law 219 = .ok (.if_icmp .ne 7, 3) := by decide +kernel
theorem dL_law_222 : decode cL_law 222 = .ok (.iconst 1, 1) := by decide +kernel
theorem dL_law_223 : decode cL_law 223 = .ok (.goto 4, 3) := by decide +kernel
theorem dL_law_226 : decode cL_law 226 = .ok (.iconst 0, 1) := by decide +kernel
theorem dL_law_227 : decode cL_law 227 = .ok (.istore_n 2, 1) := by decide +kernel
theorem dL_law_228 : decode cL_law 228 = .ok (.iload_n 2, 1) := by decide +kernel
theorem dL_law_229 : decode cL_law 229 = .ok (.ifCond .eq 21, 3) := by decide +kernel
theorem dL_law_232 : decode cL_law 232 = .ok (.aload_n 1, 1) := by decide +kernel
theorem dL_law_233 : decode cL_law 233 = .ok (.invokestatic 64, 3) := by decide +kernel
theorem dL_law_236 : decode cL_law 236 = .ok (.ifCond .eq 14, 3) := by decide +kernel
theorem dL_law_239 : decode cL_law 239 = .ok (.aload_n 1, 1) := by decide +kernel
theorem dL_law_240 : decode cL_law 240 = .ok (.invokestatic 68, 3) := by decide +kernel
theorem dL_law_243 : decode cL_law 243 = .ok (.ifCond .eq 7, 3) := by decide +kernel
theorem dL_law_246 : decode cL_law 246 = .ok (.iconst 1, 1) := by decide +kernel
theorem dL_law_247 : decode cL_law 247 = .ok (.goto 4, 3) := by decide +kernel
theorem dL_law_250 : decode cL_law 250 = .ok (.iconst 0, 1) := by decide +kernel
theorem dL_law_251 : decode cL_law 251 = .ok (.istore_n 2, 1) := by decide +kernel
theorem dL_law_252 : decode cL_law 252 = .ok (.iinc 4 1, 3) := by decide +kernel
theorem dL_law_255 : decode cL_law 255 = .ok (.goto (-223), 3) := by decide +kernel
theorem dL_law_258 : decode cL_law 258 = .ok (.iload_n 2, 1) := by decide +kernel
theorem dL_law_259 : decode cL_law 259 = .ok (.ireturn, 1) := by decide +kernel
abbrev vwCl : List vw_C := [(RX0, TX0, 3), (RX1, TX1, 6), (RX2, TX2, 6), (RX3, TX3, 2), (RX4, TX4, 5)]
end
section
/-! ===== base: bundles of what every walk has at hand, and rows over them ===== -/
-- option rows: the mirror of a method is a function into Option
def nm {α β : Type} (e : α) (k : α → β) : β := k e
def chk {α : Type} (i : Int32) (n : Nat) (k : Nat → Option α) : Option α := if i < 0 ∨ n ≤ i.toNatClampNeg then none else k i.toNatClampNeg
def ob0 {α γ : Type} (o : Option α) (k : Option γ) : Option γ := o.bind (fun _ => k)
def ob1 {α γ : Type} (o : Option α) (k : α → Option γ) : Option γ := o.bind k
def ob2 {α β γ : Type} (o : Option (α × β)) (k : α → β → Option γ) : Option γ := o.bind (fun z => k z.1 z.2)
def ob3 {α β δ γ : Type} (o : Option (α × β × δ)) (k : α → β → δ → Option γ) : Option γ := o.bind (fun z => k z.1 z.2.1 z.2.2)
def ob4 {α β δ ε γ : Type} (o : Option (α × β × δ × ε)) (k : α → β → δ → ε → Option γ) : Option γ := o.bind (fun z => k z.1 z.2.1 z.2.2.1 z.2.2.2)
def ob5 {α β δ ε ζ γ : Type} (o : Option (α × β × δ × ε × ζ)) (k : α → β → δ → ε → ζ → Option γ) : Option γ := o.bind (fun z => k z.1 z.2.1 z.2.2.1 z.2.2.2.1 z.2.2.2.2)
def ob6 {α β δ ε ζ η γ : Type} (o : Option (α × β × δ × ε × ζ × η)) (k : α → β → δ → ε → ζ → η → Option γ) : Option γ := o.bind (fun z => k z.1 z.2.1 z.2.2.1 z.2.2.2.1 z.2.2.2.2.1 z.2.2.2.2.2)
def ob7 {α β δ ε ζ η θ γ : Type} (o : Option (α × β × δ × ε × ζ × η × θ)) (k : α → β → δ → ε → ζ → η → θ → Option γ) : Option γ := o.bind (fun z => k z.1 z.2.1 z.2.2.1 z.2.2.2.1 z.2.2.2.2.1 z.2.2.2.2.2.1 z.2.2.2.2.2.2)
theorem nm_use {α β : Type} {e x : α} {k : α → Option β} {r : Option β} (h : nm e k = r) (hx : x = e) : k x = r := by subst hx; exact h
theorem chk_use {α : Type} {i : Int32} {n : Nat} {k : Nat → Option α} {r : α} (h : chk i n k = some r) : ∃ j, (vp_in i n ∧ i.toNatClampNeg = j) ∧ k j = some r := by
  unfold chk at h
  split at h
  · cases h
  · rename_i hn
    exact ⟨_, ⟨hn, rfl⟩, h⟩
theorem ob0_use {α γ : Type} {o : Option α} {k : Option γ} {r : γ} (h : ob0 o k = some r) : ∃ a, o = some a ∧ k = some r := by
  cases o with
  | none => cases h
  | some a => exact ⟨a, rfl, h⟩
theorem ob1_use {α γ : Type} {o : Option α} {k : α → Option γ} {r : γ} (h : ob1 o k = some r) : ∃ a, o = some a ∧ k a = some r := by
  cases o with
  | none => cases h
  | some a => exact ⟨a, rfl, h⟩
theorem ob2_use {α β γ : Type} {o : Option (α × β)} {k : α → β → Option γ} {r : γ} (h : ob2 o k = some r) : ∃ a b, o = some (a, b) ∧ k a b = some r := by
  cases o with
  | none => cases h
  | some a => exact ⟨a.1, a.2, rfl, h⟩
theorem ob3_use {α β δ γ : Type} {o : Option (α × β × δ)} {k : α → β → δ → Option γ} {r : γ} (h : ob3 o k = some r) : ∃ a b c, o = some (a, b, c) ∧ k a b c = some r := by
  cases o with
  | none => cases h
  | some a => exact ⟨a.1, a.2.1, a.2.2, rfl, h⟩
theorem ob4_use {α β δ ε γ : Type} {o : Option (α × β × δ × ε)} {k : α → β → δ → ε → Option γ} {r : γ} (h : ob4 o k = some r) : ∃ a b c d, o = some (a, b, c, d) ∧ k a b c d = some r := by
  cases o with
  | none => cases h
  | some a => exact ⟨a.1, a.2.1, a.2.2.1, a.2.2.2, rfl, h⟩
theorem ob5_use {α β δ ε ζ γ : Type} {o : Option (α × β × δ × ε × ζ)} {k : α → β → δ → ε → ζ → Option γ} {r : γ} (h : ob5 o k = some r) : ∃ a b c d e, o = some (a, b, c, d, e) ∧ k a b c d e = some r := by
  cases o with
  | none => cases h
  | some a => exact ⟨a.1, a.2.1, a.2.2.1, a.2.2.2.1, a.2.2.2.2, rfl, h⟩
theorem ob6_use {α β δ ε ζ η γ : Type} {o : Option (α × β × δ × ε × ζ × η)} {k : α → β → δ → ε → ζ → η → Option γ} {r : γ} (h : ob6 o k = some r) : ∃ a b c d e f, o = some (a, b, c, d, e, f) ∧ k a b c d e f = some r := by
  cases o with
  | none => cases h
  | some a => exact ⟨a.1, a.2.1, a.2.2.1, a.2.2.2.1, a.2.2.2.2.1, a.2.2.2.2.2, rfl, h⟩
theorem ob7_use {α β δ ε ζ η θ γ : Type} {o : Option (α × β × δ × ε × ζ × η × θ)} {k : α → β → δ → ε → ζ → η → θ → Option γ} {r : γ} (h : ob7 o k = some r) : ∃ a b c d e f g, o = some (a, b, c, d, e, f, g) ∧ k a b c d e f g = some r := by
  cases o with
  | none => cases h
  | some a => exact ⟨a.1, a.2.1, a.2.2.1, a.2.2.2.1, a.2.2.2.2.1, a.2.2.2.2.2.1, a.2.2.2.2.2.2, rfl, h⟩
theorem it_t {α : Type} {c : Prop} [Decidable c] {A B r : Option α} (h : (if c then A else B) = r) (hc : c) : A = r := by rw [if_pos hc] at h; exact h
theorem it_f {α : Type} {c : Prop} [Decidable c] {A B r : Option α} (h : (if c then A else B) = r) (hc : ¬ c) : B = r := by rw [if_neg hc] at h; exact h
/-- a side condition that the pure side owes -/
def nd {α : Type} (c : Prop) [Decidable c] (k : Option α) : Option α := if c then k else none
theorem nd_use {α : Type} {c : Prop} [Decidable c] {k : Option α} {r : α} (h : nd c k = some r) : c ∧ k = some r := by
  unfold nd at h
  split at h
  · rename_i hc
    exact ⟨hc, h⟩
  · cases h
-- nest mates' words
def nwF : List (String × Nat × String × String × String × String) := [("LineDoubler$State", 33, "LineDoubler", "FIRST_SETTINGS", "[I", "LineDoubler"), ("LineDoubler", 63, "LineDoubler$State", "numbers", "[I", "LineDoubler"), ("LineDoubler", 71, "LineDoubler$State", "queue", "LLineDoubler$Table;", "LineDoubler"), ("LineDoubler", 83, "LineDoubler$State", "screen", "LLineDoubler$Table;", "LineDoubler"), ("LineDoubler", 91, "LineDoubler$State", "lost", "LLineDoubler$Table;", "LineDoubler"), ("LineDoubler", 98, "LineDoubler$History", "size", "I", "LineDoubler"), ("LineDoubler", 94, "LineDoubler$Pad", "length", "I", "LineDoubler"), ("LineDoubler$State", 58, "LineDoubler", "LEAST_SETTINGS", "[I", "LineDoubler"), ("LineDoubler$State", 61, "LineDoubler", "MOST_SETTINGS", "[I", "LineDoubler")]
def nwM : List (String × Nat × MethodName × String) := [("LineDoubler", 25, yX0_init, "LineDoubler"), ("LineDoubler", 32, yX1_init, "LineDoubler"), ("LineDoubler$History", 24, yX4_keepCopy, "LineDoubler"), ("LineDoubler$State", 50, yX4_isWithin, "LineDoubler")]
def NW (U : State) : Prop := (∀ t ∈ nwF, va_Nw (.fieldLinkNest t.1 t.2.1 t.2.2.1 t.2.2.2.1 t.2.2.2.2.1 t.2.2.2.2.2) U) ∧ (∀ t ∈ nwM, va_Nw (.methodLinkNest t.1 t.2.1 t.2.2.1 t.2.2.2) U) ∧ va_AO RX2 U
theorem NW.warm {s U : State} (hW : s.WarmedH U.vm) (h : NW s) : NW U := ⟨fun t ht => va_Nw.warmF hW (h.1 t ht), fun t ht => va_Nw.warmM hW (h.2.1 t ht), va_AO.moved hW.alike h.2.2⟩
theorem NW.same {u U : State} (hv : u.vm = U.vm) (h : NW u) : NW U := ⟨fun t ht => va_Nw.same rfl hv (h.1 t ht), fun t ht => va_Nw.same rfl hv (h.2.1 t ht), va_AO.moved (by rw [hv]; exact Vm.Alike.refl _) h.2.2⟩
-- the three static tables
def sfFirst : Nat → Int32 := fun k => match k with
  | 0 => 10
  | 1 => 5
  | 2 => 4
  | 3 => 4
  | 4 => 0
  | 5 => 0
  | 6 => 255
  | _ => 0
def sfLeast : Nat → Int32 := fun k => match k with
  | 0 => 2
  | 1 => 1
  | 2 => 1
  | 3 => 2
  | _ => 0
def sfMost : Nat → Int32 := fun k => match k with
  | 0 => 99
  | 1 => 99
  | 2 => 16
  | 3 => 16
  | 4 => 1
  | 5 => 1
  | _ => 255
def SF1 (n : String) (f : Nat → Int32) (A : Nat → Prop) (U : State) (H : Heap) : Prop := ∃ t : Nat, va_Z RX4 n "[I" (.ref t) A U H ∧ va_T .int t 8 (fun j => .int (f j)) A U H
def SF (A : Nat → Prop) (U : State) (H : Heap) : Prop := SF1 "FIRST_SETTINGS" sfFirst A U H ∧ SF1 "LEAST_SETTINGS" sfLeast A U H ∧ SF1 "MOST_SETTINGS" sfMost A U H
theorem SF1.moved {n : String} {f : Nat → Int32} {A : Nat → Prop} {u U : State} {H : Heap} (hv : u.vm.Alike U.vm) (h : SF1 n f A u H) : SF1 n f A U H := by
  obtain ⟨t, h1, h2⟩ := h
  exact ⟨t, h1.moved hv, h2.moved hv⟩
theorem SF1.kept {n : String} {f : Nat → Int32} {A B : Nat → Prop} {U : State} {H H1 : Heap} (h : SF1 n f A U H) (hq : ∀ a : Nat, a < H.size → ¬ A a → H1[a]? = H[a]?) (hAB : ∀ q, B q → A q) : SF1 n f B U H1 := by
  obtain ⟨t, h1, h2⟩ := h
  exact ⟨t, (h1.kept hq).narrow hAB, (h2.kept hq).narrow hAB⟩
theorem SF.moved {A : Nat → Prop} {u U : State} {H : Heap} (hv : u.vm.Alike U.vm) (h : SF A u H) : SF A U H := ⟨h.1.moved hv, h.2.1.moved hv, h.2.2.moved hv⟩
theorem SF.kept {A B : Nat → Prop} {U : State} {H H1 : Heap} (h : SF A U H) (hq : ∀ a : Nat, a < H.size → ¬ A a → H1[a]? = H[a]?) (hAB : ∀ q, B q → A q) : SF B U H1 := ⟨h.1.kept hq hAB, h.2.1.kept hq hAB, h.2.2.kept hq hAB⟩
/-- what a method finds at its start -/
def Pre (G : va_G) (tys : List (ClassId × FieldType)) (w : va_W) (sz : Nat) : State → Prop := fun U => U.heap.size = sz ∧ va_P G vwCl w U.heap ∧ va_K G vwCl tys U ∧ va_D (fun _ => True) w ∧ SF (va_A w sz) U U.heap ∧ NW U
/-- what it leaves -/
def Qx (G : va_G) (res : Option Value) (w' : va_W) (A : Nat → Prop) : Array Value → State → Outcome → State → Prop := fun _ st oc t => (oc = .returned res ∧ va_P G vwCl w' t.heap ∧ va_D A w') ∧ va_F A st t
theorem Pre.blind {G : va_G} {tys : List (ClassId × FieldType)} {w : va_W} {sz : Nat} {av : List Value} : FrameBlind (va_Pc av (Pre G tys w sz)) := by
  intro a U g mk q
  obtain ⟨q0, q1, qP, qK, qD, qS, qN⟩ := q
  exact ⟨q0, q1, qP, va_K.moved (u := U) (U := U.calling g mk a) (Vm.Alike.refl U.vm) qK, qD, qS.moved (u := U) (U := U.calling g mk a) (Vm.Alike.refl U.vm), NW.same (u := U) (U := U.calling g mk a) rfl qN⟩
/-- a method that makes nothing: its contract -/
def CT (l : Launch) (y : MethodName) (ws : List Cond) (rm : Room) (G : va_G) (tys : List (ClassId × FieldType)) (av : List Value) (w : va_W) (res : Option Value) (w' : va_W) : Prop := ∀ sz : Nat, Met l y ws rm (va_Pc av (Pre G tys w sz)) (Qx G res w' (va_A w sz)) 0 0 (va_A w sz)
/-- what stays through a walk -/
def Cx (p : Program) (s : State) (m : MethodId) (args : Array Value) (c : Code) (G : va_G) (tys : List (ClassId × FieldType)) (A : Nat → Prop) (own : String) (cc : ByteArray) (Ts : List Cond) (nL : Nat) : Prop :=
  p.tables.exec = Jvm.exec ∧ c.code = cc ∧ c.maxLocals = nL ∧ s.vm.findClass own = some m.cls ∧ (∀ w ∈ Ts, w.before args s = true) ∧ va_K G vwCl tys s ∧ NW s ∧ (∀ q, s.heap.size ≤ q → A q) ∧ SF A s s.heap
/-- what the heap holds at a point of a walk -/
def Hx (s : State) (G : va_G) (A : Nat → Prop) (w : va_W) (H : Heap) (locs : List Loc) : Prop := va_P G vwCl w H ∧ va_D A w ∧ va_S A s.heap H locs
/-- places of a world written anew -/
def upds : va_W → List Nat → va_W → va_W
  | ws, i :: is, x :: xs => upds (ws.set i x) is xs
  | ws, _, _ => ws
theorem upds_get : ∀ (is : List Nat) (wc' ws : va_W), is.length = wc'.length → va_nd is = true → (∀ i ∈ is, i < ws.length) → ∀ (k : Nat) (q : Nat × va_E), (upds ws is wc')[k]? = some q → (k ∉ is ∧ ws[k]? = some q) ∨ ∃ j : Nat, is[j]? = some k ∧ wc'[j]? = some q
  | [], [], ws, _, _, _, k, q, h => Or.inl ⟨List.not_mem_nil, h⟩
  | [], _ :: _, _, h, _, _, _, _, _ => by cases h
  | _ :: _, [], _, h, _, _, _, _, _ => by cases h
  | i :: is, x :: xs, ws, hl, hn, hi, k, q, h => by
    simp only [va_nd, Bool.and_eq_true, decide_eq_true_eq] at hn
    have ih := upds_get is xs (ws.set i x) (by simpa using hl) hn.2 (fun j hj => by rw [List.length_set]; exact hi j (List.mem_cons_of_mem _ hj)) k q h
    rcases ih with ⟨h1, h2⟩ | ⟨j, h1, h2⟩
    · by_cases hk : k = i
      · subst hk
        rw [List.getElem?_set_self (hi k List.mem_cons_self)] at h2
        exact Or.inr ⟨0, rfl, h2⟩
      · rw [List.getElem?_set_ne (Ne.symm hk)] at h2
        refine Or.inl ⟨fun hm => ?_, h2⟩
        rcases List.mem_cons.mp hm with e | e
        · exact hk e
        · exact h1 e
    · exact Or.inr ⟨j + 1, h1, h2⟩
theorem va_back {A0 : Nat → Prop} {D : va_G} {cl : List vw_C} {ws wc wc' : va_W} {H H1 : Heap} (hP : va_P D cl ws H) (hD : va_D A0 ws) (is : List Nat) (hC : is.map (fun i => ws[i]?) = wc.map some) (hn : va_nd is = true) (ha : wc'.map Prod.fst = wc.map Prod.fst)
    (hk : ∀ q : Nat, q < H.size → ¬ va_A wc H.size q → H1[q]? = H[q]?) (hP1 : va_P D cl wc' H1) : va_P D cl (upds ws is wc') H1 ∧ va_D A0 (upds ws is wc') := by
  have hlen : is.length = wc'.length := by
    have h1 := congrArg List.length hC
    have h2 := congrArg List.length ha
    simp only [List.length_map] at h1 h2
    omega
  have hlt : ∀ i ∈ is, i < ws.length := by
    intro i hi
    obtain ⟨j, hj⟩ := List.getElem?_of_mem hi
    have h1 : (is.map (fun i => ws[i]?))[j]? = some (ws[i]?) := by rw [List.getElem?_map, hj]; rfl
    rw [hC, List.getElem?_map] at h1
    cases hw : wc[j]? with
    | none => rw [hw] at h1; cases h1
    | some q => rw [hw] at h1; exact (List.getElem?_eq_some_iff.mp (Option.some.inj h1).symm).1
  have old : ∀ (j k : Nat), is[j]? = some k → ∀ q, wc'[j]? = some q → ∃ q0, ws[k]? = some q0 ∧ wc[j]? = some q0 ∧ q0.1 = q.1 := by
    intro j k hj q hq
    have h1 : (is.map (fun i => ws[i]?))[j]? = some (ws[k]?) := by rw [List.getElem?_map, hj]; rfl
    rw [hC, List.getElem?_map] at h1
    cases hw : wc[j]? with
    | none => rw [hw] at h1; cases h1
    | some q0 =>
      rw [hw] at h1
      refine ⟨q0, (Option.some.inj h1).symm, rfl, ?_⟩
      have h2 := congrArg (fun l => l[j]?) ha
      simp only [List.getElem?_map, hw, hq, Option.map_some] at h2
      exact (Option.some.inj h2).symm
  refine ⟨fun k q h => ?_, ⟨fun i j p q h1 h2 hpq => ?_, fun k q h => ?_⟩⟩
  · rcases upds_get is wc' ws hlen hn hlt k q h with ⟨h1, h2⟩ | ⟨j, h1, h2⟩
    · have hl := (hP k q h2).lt
      refine (hP k q h2).kept (hk q.1 hl (fun z => ?_))
      rcases z with ⟨k2, e, z⟩ | z
      · have h3 : (is.map (fun i => ws[i]?))[k2]? = some (some (q.1, e)) := by rw [hC, List.getElem?_map, z]; rfl
        rw [List.getElem?_map] at h3
        cases hi : is[k2]? with
        | none => rw [hi] at h3; cases h3
        | some i =>
          rw [hi] at h3
          have := hD.1 k i q (q.1, e) h2 (Option.some.inj h3) rfl
          subst this
          exact h1 (List.mem_of_getElem? hi)
      · omega
    · exact hP1 j q h2
  · have key : ∀ (k : Nat) (q : Nat × va_E), (upds ws is wc')[k]? = some q → ∃ q0, ws[k]? = some q0 ∧ q0.1 = q.1 := by
      intro k q h
      rcases upds_get is wc' ws hlen hn hlt k q h with ⟨-, h2⟩ | ⟨j, h1, h2⟩
      · exact ⟨q, h2, rfl⟩
      · obtain ⟨q0, a1, -, a3⟩ := old j k h1 q h2
        exact ⟨q0, a1, a3⟩
    obtain ⟨p0, a1, a2⟩ := key i p h1
    obtain ⟨q0, b1, b2⟩ := key j q h2
    exact hD.1 i j p0 q0 a1 b1 (a2.trans (hpq.trans b2.symm))
  · rcases upds_get is wc' ws hlen hn hlt k q h with ⟨-, h2⟩ | ⟨j, h1, h2⟩
    · exact hD.2 k q h2
    · obtain ⟨q0, a1, -, a3⟩ := old j k h1 q h2
      rw [← a3]
      exact hD.2 k q0 a1
end
section
/-! ===== rows over the bundles ===== -/
section CxAcc
variable {p : Program} {s : State} {m : MethodId} {args : Array Value} {c : Code} {G : va_G} {tys : List (ClassId × FieldType)} {A : Nat → Prop} {own : String} {cc : ByteArray} {Ts : List Cond} {nL : Nat}
theorem Cx.hx (C : Cx p s m args c G tys A own cc Ts nL) : p.tables.exec = Jvm.exec := C.1
theorem Cx.hb (C : Cx p s m args c G tys A own cc Ts nL) : c.code = cc := C.2.1
theorem Cx.hml (C : Cx p s m args c G tys A own cc Ts nL) : c.maxLocals = nL := C.2.2.1
theorem Cx.hown (C : Cx p s m args c G tys A own cc Ts nL) : s.vm.findClass own = some m.cls := C.2.2.2.1
theorem Cx.hts (C : Cx p s m args c G tys A own cc Ts nL) : ∀ w ∈ Ts, w.before args s = true := C.2.2.2.2.1
theorem Cx.hK (C : Cx p s m args c G tys A own cc Ts nL) : va_K G vwCl tys s := C.2.2.2.2.2.1
theorem Cx.nw (C : Cx p s m args c G tys A own cc Ts nL) : NW s := C.2.2.2.2.2.2.1
theorem Cx.hA (C : Cx p s m args c G tys A own cc Ts nL) : ∀ q, s.heap.size ≤ q → A q := C.2.2.2.2.2.2.2.1
theorem Cx.sf (C : Cx p s m args c G tys A own cc Ts nL) : SF A s s.heap := C.2.2.2.2.2.2.2.2
theorem Cx.fix (C : Cx p s m args c G tys A own cc Ts nL) : CallFix p m c cc nL s args Ts own := ⟨C.hx, C.hb, C.hml, C.hown, C.hts⟩
end CxAcc
section Rows
variable {p : Program} {l : Launch} {e : Env} {R : Room} {s : State} {m : MethodId} {args : Array Value} {below : List Frame} {meth : Method} {c : Code} {H : Heap} {locs : List Loc} {cells slots : Nat} {Q : State → Prop}
variable {cc : ByteArray} {pc : Nat} {ls : Array Slot} {rest st0 st1 : List Value} {G : va_G} {tys : List (ClassId × FieldType)} {A : Nat → Prop} {own : String} {Ts : List Cond} {nL : Nat} {w : va_W} {a : Nat}
theorem r_get (C : Cx p s m args c G tys A own cc Ts nL) (h : Hx s G A w H locs) (q0 k : Nat) {ci index N : Nat} {Cn : String} {T : u_T} {fs : List Value} {v : Value} (he : w[q0]? = some (a, .inr (ci, fs))) (hc : vwCl[ci]? = some (Cn, T, N)) (hk : k < N) (hin : ∀ x ∈ u_ws Cn T N, x ∈ Ts) (hl : Cond.fieldLink own index (T k).1 (T k).2.1 (T k).2.2.1 ∈ Ts) (hv : fs[k]? = some v) (hdg : decode cc pc = .ok (.getfield index, 3))
    (kk : W p l e R s m args below meth c H locs cells slots Q (F0 m (pc + 3) ls (v :: rest))) : W p l e R s m args below meth c H locs cells slots Q (F0 m pc ls (.ref a :: rest)) :=
  va_get C.hx C.hb C.hts hin C.hown C.hK h.1 q0 he hc k hk (C.hts _ hl) (fun _ h9 => h9) hv hdg kk
theorem r_getN (C : Cx p s m args c G tys A own cc Ts nL) (h : Hx s G A w H locs) (q0 k : Nat) {ci index N : Nat} {Cn host : String} {T : u_T} {fs : List Value} {v : Value} (he : w[q0]? = some (a, .inr (ci, fs))) (hc : vwCl[ci]? = some (Cn, T, N)) (hk : k < N) (hin : ∀ x ∈ u_ws Cn T N, x ∈ Ts) (hl : (own, index, (T k).1, (T k).2.1, (T k).2.2.1, host) ∈ nwF) (hv : fs[k]? = some v) (hdg : decode cc pc = .ok (.getfield index, 3))
    (kk : W p l e R s m args below meth c H locs cells slots Q (F0 m (pc + 3) ls (v :: rest))) : W p l e R s m args below meth c H locs cells slots Q (F0 m pc ls (.ref a :: rest)) :=
  va_getN C.hx C.hb C.hts hin C.hown C.hK h.1 q0 he hc k hk (va_Nw.use rfl (C.nw.1 _ hl)) (fun _ h9 => h9) hv hdg kk
theorem r_put (C : Cx p s m args c G tys A own cc Ts nL) (h : Hx s G A w H locs) (q0 k : Nat) {ci index N : Nat} {Cn : String} {T : u_T} {fs : List Value} {v : Value} {ty0 : Nat → FieldType} (he : w[q0]? = some (a, .inr (ci, fs))) (hc : vwCl[ci]? = some (Cn, T, N)) (hk : k < N) (hin : ∀ x ∈ u_ws Cn T N, x ∈ Ts) (hty : ∀ k, k < N → parseFieldDescriptor (T k).2.2.1 = some (ty0 k)) (hnm : ∀ a, a < N → ∀ b, b < N → a ≠ b → (T a).2.1 ≠ (T b).2.1) (hl : Cond.fieldLink own index (T k).1 (T k).2.1 (T k).2.2.1 ∈ Ts) (hfin : (T k).2.2.2 = false) (hn : narrow (ty0 k) v = v) (hfit : fits (ty0 k) v = true) (hlen : k < fs.length) (w' : va_W) (hw : w.set q0 (a, .inr (ci, fs.set k v)) = w') (hdg : decode cc pc = .ok (.putfield index, 3))
    (kk : ∀ (H1 : Heap) (locs1 : List Loc), Hx s G A w' H1 locs1 → W p l e R s m args below meth c H1 locs1 cells slots Q (F0 m (pc + 3) ls rest)) : W p l e R s m args below meth c H locs cells slots Q (F0 m pc ls (v :: .ref a :: rest)) := by
  subst hw
  exact va_put C.hx C.hb C.hts hin ty0 hty hnm C.hown C.hK h.1 h.2.1 h.2.2 q0 he hc k hk (C.hts _ hl) (fun _ h9 => h9) hfin (hty k hk) hn hfit hlen hdg (fun H1 locs1 a1 a2 a3 => kk H1 locs1 ⟨a1, a2, a3⟩)
theorem r_putN (C : Cx p s m args c G tys A own cc Ts nL) (h : Hx s G A w H locs) (q0 k : Nat) {ci index N : Nat} {Cn host : String} {T : u_T} {fs : List Value} {v : Value} {ty0 : Nat → FieldType} (he : w[q0]? = some (a, .inr (ci, fs))) (hc : vwCl[ci]? = some (Cn, T, N)) (hk : k < N) (hin : ∀ x ∈ u_ws Cn T N, x ∈ Ts) (hty : ∀ k, k < N → parseFieldDescriptor (T k).2.2.1 = some (ty0 k)) (hnm : ∀ a, a < N → ∀ b, b < N → a ≠ b → (T a).2.1 ≠ (T b).2.1) (hl : (own, index, (T k).1, (T k).2.1, (T k).2.2.1, host) ∈ nwF) (hfin : (T k).2.2.2 = false) (hn : narrow (ty0 k) v = v) (hfit : fits (ty0 k) v = true) (hlen : k < fs.length) (w' : va_W) (hw : w.set q0 (a, .inr (ci, fs.set k v)) = w') (hdg : decode cc pc = .ok (.putfield index, 3))
    (kk : ∀ (H1 : Heap) (locs1 : List Loc), Hx s G A w' H1 locs1 → W p l e R s m args below meth c H1 locs1 cells slots Q (F0 m (pc + 3) ls rest)) : W p l e R s m args below meth c H locs cells slots Q (F0 m pc ls (v :: .ref a :: rest)) := by
  subst hw
  exact va_putN C.hx C.hb C.hts hin ty0 hty hnm C.hown C.hK h.1 h.2.1 h.2.2 q0 he hc k hk (va_Nw.use rfl (C.nw.1 _ hl)) (fun _ h9 => h9) hfin (hty k hk) hn hfit hlen hdg (fun H1 locs1 a1 a2 a3 => kk H1 locs1 ⟨a1, a2, a3⟩)
theorem r_putF (C : Cx p s m args c G tys A own cc Ts nL) (h : Hx s G A w H locs) (hin2 : meth.name = "<init>") (q0 k : Nat) {ci index N : Nat} {T : u_T} {fs : List Value} {v : Value} {ty0 : Nat → FieldType} (he : w[q0]? = some (a, .inr (ci, fs))) (hc : vwCl[ci]? = some (own, T, N)) (hk : k < N) (hin : ∀ x ∈ u_ws own T N, x ∈ Ts) (hty : ∀ k, k < N → parseFieldDescriptor (T k).2.2.1 = some (ty0 k)) (hnm : ∀ a, a < N → ∀ b, b < N → a ≠ b → (T a).2.1 ≠ (T b).2.1) (hl : Cond.fieldLink own index (T k).1 (T k).2.1 (T k).2.2.1 ∈ Ts) (hfin : (T k).2.2.2 = true) (hdecl : (T k).1 = own) (hn : narrow (ty0 k) v = v) (hfit : fits (ty0 k) v = true) (hlen : k < fs.length) (w' : va_W) (hw : w.set q0 (a, .inr (ci, fs.set k v)) = w') (hdg : decode cc pc = .ok (.putfield index, 3))
    (kk : ∀ (H1 : Heap) (locs1 : List Loc), Hx s G A w' H1 locs1 → W p l e R s m args below meth c H1 locs1 cells slots Q (F0 m (pc + 3) ls rest)) : W p l e R s m args below meth c H locs cells slots Q (F0 m pc ls (v :: .ref a :: rest)) := by
  subst hw
  exact va_putF C.hx C.hb C.hts hin ty0 hty hnm C.hown C.hK h.1 h.2.1 h.2.2 q0 he hc k hk (C.hts _ hl) (fun _ h9 => h9) hfin hin2 hdecl (hty k hk) hn hfit hlen hdg (fun H1 locs1 a1 a2 a3 => kk H1 locs1 ⟨a1, a2, a3⟩)
theorem r_ald (C : Cx p s m args c G tys A own cc Ts nL) (h : Hx s G A w H locs) (q0 : Nat) {cA : ClassId} {n j : Nat} {f : Nat → Int32} (he : w[q0]? = some (a, .inl (cA, n, .inl f))) (ht : tys[0]? = some (cA, .int)) {i : Int32} (hij : vp_in i n ∧ i.toNatClampNeg = j) (hdg : decode cc pc = .ok (.iaload, 1))
    (kk : W p l e R s m args below meth c H locs cells slots Q (F0 m (pc + 1) ls (.int (f j) :: rest))) : W p l e R s m args below meth c H locs cells slots Q (F0 m pc ls (.int i :: .ref a :: rest)) := by
  obtain ⟨hi, rfl⟩ := hij
  exact va_iald C.hx C.hb C.hK h.1 q0 0 he ht hi hdg kk
theorem r_cald (C : Cx p s m args c G tys A own cc Ts nL) (h : Hx s G A w H locs) (q0 : Nat) {cA : ClassId} {n j : Nat} {f : Nat → Int32} (he : w[q0]? = some (a, .inl (cA, n, .inl f))) (ht : tys[1]? = some (cA, .char)) {i : Int32} (hij : vp_in i n ∧ i.toNatClampNeg = j) (hdg : decode cc pc = .ok (.caload, 1))
    (kk : W p l e R s m args below meth c H locs cells slots Q (F0 m (pc + 1) ls (.int (f j) :: rest))) : W p l e R s m args below meth c H locs cells slots Q (F0 m pc ls (.int i :: .ref a :: rest)) := by
  obtain ⟨hi, rfl⟩ := hij
  exact va_cald C.hx C.hb C.hK h.1 q0 1 he ht hi hdg kk
theorem r_zald (C : Cx p s m args c G tys A own cc Ts nL) (h : Hx s G A w H locs) (q0 : Nat) {cA : ClassId} {n j : Nat} {f : Nat → Int32} (he : w[q0]? = some (a, .inl (cA, n, .inl f))) (ht : tys[2]? = some (cA, .boolean)) {i : Int32} (hij : vp_in i n ∧ i.toNatClampNeg = j) (hdg : decode cc pc = .ok (.baload, 1))
    (kk : W p l e R s m args below meth c H locs cells slots Q (F0 m (pc + 1) ls (.int (f j) :: rest))) : W p l e R s m args below meth c H locs cells slots Q (F0 m pc ls (.int i :: .ref a :: rest)) := by
  obtain ⟨hi, rfl⟩ := hij
  exact va_zald C.hx C.hb C.hK h.1 q0 2 he ht hi hdg kk
theorem r_ast (C : Cx p s m args c G tys A own cc Ts nL) (h : Hx s G A w H locs) (q0 : Nat) {cA : ClassId} {n j : Nat} {f : Nat → Int32} (he : w[q0]? = some (a, .inl (cA, n, .inl f))) (ht : tys[0]? = some (cA, .int)) {i x : Int32} (hij : vp_in i n ∧ i.toNatClampNeg = j) (w' : (Nat → Int32) → va_W) (hw : ∀ f', w.set q0 (a, .inl (cA, n, .inl f')) = w' f') (hdg : decode cc pc = .ok (.iastore, 1))
    (kk : ∀ f' : Nat → Int32, f' = upd f j x → ∀ (H1 : Heap) (locs1 : List Loc), Hx s G A (w' f') H1 locs1 → W p l e R s m args below meth c H1 locs1 cells slots Q (F0 m (pc + 1) ls rest)) : W p l e R s m args below meth c H locs cells slots Q (F0 m pc ls (.int x :: .int i :: .ref a :: rest)) := by
  obtain ⟨hi, rfl⟩ := hij
  exact va_iast C.hx C.hb C.hK h.1 h.2.1 h.2.2 q0 0 he ht hi hdg (fun H1 locs1 a1 a2 a3 => kk _ rfl H1 locs1 (by rw [← hw]; exact ⟨a1, a2, a3⟩))
theorem r_cast (C : Cx p s m args c G tys A own cc Ts nL) (h : Hx s G A w H locs) (q0 : Nat) {cA : ClassId} {n j : Nat} {f : Nat → Int32} (he : w[q0]? = some (a, .inl (cA, n, .inl f))) (ht : tys[1]? = some (cA, .char)) {i x : Int32} (hij : vp_in i n ∧ i.toNatClampNeg = j) (w' : (Nat → Int32) → va_W) (hw : ∀ f', w.set q0 (a, .inl (cA, n, .inl f')) = w' f') (hdg : decode cc pc = .ok (.castore, 1))
    (kk : ∀ f' : Nat → Int32, f' = upd f j (vp_nar .char x) → ∀ (H1 : Heap) (locs1 : List Loc), Hx s G A (w' f') H1 locs1 → W p l e R s m args below meth c H1 locs1 cells slots Q (F0 m (pc + 1) ls rest)) : W p l e R s m args below meth c H locs cells slots Q (F0 m pc ls (.int x :: .int i :: .ref a :: rest)) := by
  obtain ⟨hi, rfl⟩ := hij
  exact va_cast C.hx C.hb C.hK h.1 h.2.1 h.2.2 q0 1 he ht hi hdg (fun H1 locs1 a1 a2 a3 => kk _ rfl H1 locs1 (by rw [← hw]; exact ⟨a1, a2, a3⟩))
theorem r_zast (C : Cx p s m args c G tys A own cc Ts nL) (h : Hx s G A w H locs) (q0 : Nat) {cA : ClassId} {n j : Nat} {f : Nat → Int32} (he : w[q0]? = some (a, .inl (cA, n, .inl f))) (ht : tys[2]? = some (cA, .boolean)) {i x : Int32} (hij : vp_in i n ∧ i.toNatClampNeg = j) (w' : (Nat → Int32) → va_W) (hw : ∀ f', w.set q0 (a, .inl (cA, n, .inl f')) = w' f') (hdg : decode cc pc = .ok (.bastore, 1))
    (kk : ∀ f' : Nat → Int32, f' = upd f j (vp_nar .boolean x) → ∀ (H1 : Heap) (locs1 : List Loc), Hx s G A (w' f') H1 locs1 → W p l e R s m args below meth c H1 locs1 cells slots Q (F0 m (pc + 1) ls rest)) : W p l e R s m args below meth c H locs cells slots Q (F0 m pc ls (.int x :: .int i :: .ref a :: rest)) := by
  obtain ⟨hi, rfl⟩ := hij
  exact va_zast C.hx C.hb C.hK h.1 h.2.1 h.2.2 q0 2 he ht hi hdg (fun H1 locs1 a1 a2 a3 => kk _ rfl H1 locs1 (by rw [← hw]; exact ⟨a1, a2, a3⟩))
theorem r_alen (C : Cx p s m args c G tys A own cc Ts nL) (h : Hx s G A w H locs) (q0 : Nat) {cA : ClassId} {n : Nat} {f : Nat → Int32} (he : w[q0]? = some (a, .inl (cA, n, .inl f))) (ht : tys[0]? = some (cA, .int)) (hdg : decode cc pc = .ok (.arraylength, 1))
    (kk : W p l e R s m args below meth c H locs cells slots Q (F0 m (pc + 1) ls (.int (nI n) :: rest))) : W p l e R s m args below meth c H locs cells slots Q (F0 m pc ls (.ref a :: rest)) :=
  va_alen C.hx C.hb C.hK h.1 q0 0 he ht rfl hdg kk
/-- what arraycopy asks of its numbers -/
abbrev acok (sp dp n : Int32) (n0 n1 : Nat) : Prop := ¬ sp < 0 ∧ ¬ dp < 0 ∧ ¬ n < 0 ∧ sp.toNatClampNeg + n.toNatClampNeg ≤ n0 ∧ dp.toNatClampNeg + n.toNatClampNeg ≤ n1
theorem r_copy (C : Cx p s m args c G tys A own cc Ts nL) (h : Hx s G A w H locs) (hls : ls.size = nL) (q0 q1 : Nat) {index : Nat} {a0 : Nat} {cA : ClassId} {n0 n1 : Nat} {f g : Nat → Int32} (he0 : w[q0]? = some (a0, .inl (cA, n0, .inl f))) (he1 : w[q1]? = some (a, .inl (cA, n1, .inl g))) (ht : tys[0]? = some (cA, .int)) {sp dp n : Int32} (hok : acok sp dp n n0 n1)
    (hlink : Cond.methodLink own index arraycopyName ∈ Ts) (hnat : Cond.native arraycopyName ∈ Ts) (hstat : Cond.static arraycopyName ∈ Ts) (hini : Cond.initialized "java/lang/System" ∈ Ts) (hframes : 1 ≤ R.frames) (hlocals : (rest.map fun v => v.category).sum + (nativeFrameWords "java/lang/System" "arraycopy" 5 + 11) ≤ R.locals) (w' : (Nat → Int32) → va_W) (hw : ∀ f', w.set q1 (a, .inl (cA, n1, .inl f')) = w' f') (hdg : decode cc pc = .ok (.invokestatic index, 3))
    (kk : ∀ f' : Nat → Int32, f' = va_cpy f g sp.toNatClampNeg dp.toNatClampNeg n.toNatClampNeg → ∀ (H1 : Heap) (locs1 : List Loc), Hx s G A (w' f') H1 locs1 → W p l e R s m args below meth c H1 locs1 cells slots Q (F0 m (pc + 3) ls rest)) : W p l e R s m args below meth c H locs cells slots Q (F0 m pc ls (.int n :: .int dp :: .ref a :: .int sp :: .ref a0 :: rest)) := by
  obtain ⟨h1, h2, h3, h4, h5⟩ := hok
  exact va_copyi C.hx C.hb (C.hml.trans hls.symm) C.hown (C.hts _ hlink) (C.hts _ hnat) (C.hts _ hstat) (C.hts _ hini) C.hK h.1 h.2.1 h.2.2 q0 q1 0 0 he0 he1 ht ht rfl h1 h2 h3 h4 h5 (fun i _ => rfl) hframes hlocals hdg (fun H1 locs1 a1 a2 a3 => kk _ rfl H1 locs1 (by rw [← hw]; exact ⟨a1, a2, a3⟩))
theorem r_max (C : Cx p s m args c G tys A own cc Ts nL) (hls : ls.size = nL) {index : Nat} (hlink : Cond.methodLink own index Lib.Math.max.name ∈ Ts) (hstat : Cond.static Lib.Math.max.name ∈ Ts) (hini : Cond.initialized "java/lang/Math" ∈ Ts) (hcode : Cond.code Lib.Math.max.name Lib.Math.max.code 2 (some .int) ∈ Ts) (hframes : 1 ≤ R.frames) (hlocals : (rest.map fun v => v.category).sum + 13 ≤ R.locals) (hc : cells ≤ R.cells) (hs : slots ≤ R.slots) {x y : Int32} (hdg : decode cc pc = .ok (.invokestatic index, 3))
    (kk : W p l e R s m args below meth c H locs cells slots Q (F0 m (pc + 3) ls (.int (if x < y then y else x) :: rest))) : W p l e R s m args below meth c H locs cells slots Q (F0 m pc ls (.int y :: .int x :: rest)) :=
  va_mmax C.hx C.hb (C.hml.trans hls.symm) C.hown (C.hts _ hlink) (C.hts _ hstat) (C.hts _ hini) (C.hts _ hcode) hframes hlocals hc hs hdg kk
theorem r_min (C : Cx p s m args c G tys A own cc Ts nL) (hls : ls.size = nL) {index : Nat} (hlink : Cond.methodLink own index Lib.Math.min.name ∈ Ts) (hstat : Cond.static Lib.Math.min.name ∈ Ts) (hini : Cond.initialized "java/lang/Math" ∈ Ts) (hcode : Cond.code Lib.Math.min.name Lib.Math.min.code 2 (some .int) ∈ Ts) (hframes : 1 ≤ R.frames) (hlocals : (rest.map fun v => v.category).sum + 13 ≤ R.locals) (hc : cells ≤ R.cells) (hs : slots ≤ R.slots) {x y : Int32} (hdg : decode cc pc = .ok (.invokestatic index, 3))
    (kk : W p l e R s m args below meth c H locs cells slots Q (F0 m (pc + 3) ls (.int (if y < x then y else x) :: rest))) : W p l e R s m args below meth c H locs cells slots Q (F0 m pc ls (.int y :: .int x :: rest)) :=
  va_mmin C.hx C.hb (C.hml.trans hls.symm) C.hown (C.hts _ hlink) (C.hts _ hstat) (C.hts _ hini) (C.hts _ hcode) hframes hlocals hc hs hdg kk
theorem r_getsN (C : Cx p s m args c G tys A own cc Ts nL) (h : Hx s G A w H locs) {n host ref : String} {index t : Nat} (hZ : va_Z ref n "[I" (.ref t) A s s.heap) (hl : (own, index, ref, n, "[I", host) ∈ nwF) (hdg : decode cc pc = .ok (.getstatic index, 3))
    (kk : W p l e R s m args below meth c H locs cells slots Q (F0 m (pc + 3) ls (.ref t :: rest))) : W p l e R s m args below meth c H locs cells slots Q (F0 m pc ls rest) :=
  va_getsN C.hx C.hb hZ h.2.2 C.hown (va_Nw.use rfl (C.nw.1 _ hl)) (fun _ h9 => h9) hdg kk
theorem r_ti (C : Cx p s m args c G tys A own cc Ts nL) (h : Hx s G A w H locs) {t j : Nat} {f : Nat → Int32} (hT : va_T .int t 8 (fun j => .int (f j)) A s s.heap) {i : Int32} (hij : vp_in i 8 ∧ i.toNatClampNeg = j) (hdg : decode cc pc = .ok (.iaload, 1))
    (kk : W p l e R s m args below meth c H locs cells slots Q (F0 m (pc + 1) ls (.int (f j) :: rest))) : W p l e R s m args below meth c H locs cells slots Q (F0 m pc ls (.int i :: .ref t :: rest)) := by
  obtain ⟨hi, rfl⟩ := hij
  exact va_ti C.hx C.hb hT h.2.2 hi rfl hdg kk
-- calls
theorem r_back (C : Cx p s m args c G tys A own cc Ts nL) (h : Hx s G A w H locs) {wc wc' : va_W} {res : Option Value} {av : Array Value} (is : List Nat) (hC : is.map (fun i => w[i]?) = wc.map some) (hn : va_nd is = true) (hfst : wc'.map Prod.fst = wc.map Prod.fst) (w' : va_W) (hw : upds w is wc' = w')
    (hr : va_Run p l e R s m args below meth c H locs cells slots 0 0 (F0 m pc ls st0) rest (Qx G res wc' (va_A wc H.size) av) (va_A wc H.size)) (hst : res.toList ++ rest = st1)
    (kk : ∀ (H1 : Heap) (locs1 : List Loc), Hx s G A w' H1 locs1 → W p l e R s m args below meth c H1 locs1 cells slots Q (F0 m (pc + 3) ls st1)) : W p l e R s m args below meth c H locs cells slots Q (F0 m pc ls st0) := by
  subst hw
  subst hst
  have hF := va_free (wc := wc) h.2.1 h.2.2 C.hA is hC
  intro T hT X
  obtain ⟨v, st₀, t, T', L, h0, X', hL, e1, e2, ⟨⟨hv, hp, -⟩, hz, hk⟩, st⟩ := hr T hT X
  cases hv
  rw [h0] at hz hk
  rw [← e1] at hp hz hk
  have hj := va_back h.1 h.2.1 is hC hn hfst hk hp
  obtain ⟨t2, a1, b1⟩ := kk T'.heap (locs ++ L) ⟨hj.1, hj.2, Nat.le_trans h.2.2.1 hz, fun q h1 h2 => by rw [hk q (Nat.lt_of_lt_of_le h1 h.2.2.1) (fun z => h2 (hF q z))]; exact h.2.2.2.1 q h1 h2, fun q hq => by
      rcases List.mem_append.mp hq with h1 | h1
      · exact h.2.2.2.2 q h1
      · exact hF _ (hL q h1)⟩ T' rfl X'
  exact ⟨t2, st t2 a1, b1⟩
theorem r_pre (C : Cx p s m args c G tys A own cc Ts nL) (h : Hx s G A w H locs) {wc : va_W} {av : List Value} (is : List Nat) (hC : is.map (fun i => w[i]?) = wc.map some) (hn : va_nd is = true) : PreS s H (va_Pc av (Pre G tys wc H.size)) av := by
  have hF := va_free (wc := wc) h.2.1 h.2.2 C.hA is hC
  have hfm : is.filterMap (fun i => w[i]?) = wc := by
    have h1 : is.filterMap (fun i => w[i]?) = (is.map (fun i => w[i]?)).filterMap id := by rw [List.filterMap_map]; rfl
    rw [h1, hC, List.filterMap_map]
    exact List.filterMap_some
  refine ⟨Pre.blind, fun U hU hW => ⟨rfl, by rw [hU], by rw [hU]; exact h.1.sub is hfm, va_K.moved hW.alike C.hK, (h.2.1.sub is hn hC).weaken (fun _ _ _ _ => trivial), ?_, NW.warm hW C.nw⟩⟩
  rw [hU]
  exact (C.sf.kept h.2.2.2.1 hF).moved hW.alike
theorem r_callV (C : Cx p s m args c G tys A own cc Ts nL) (h : Hx s G A w H locs) {y : MethodName} {bytes : ByteArray} {maxL n index ci : Nat} {ret : Option FieldType} {wsy : List Cond} {rmy : Room} {Cn : String} {T : u_T} {N b : Nat} {fs As : List Value} {wc wc' : va_W} {res : Option Value}
    (cw : CallW R s args own Cn index y bytes maxL ret wsy rmy 0 0 n) (ct : CT l y wsy rmy G tys (.ref b :: As) wc res wc') (is : List Nat) (hC : is.map (fun i => w[i]?) = wc.map some) (hn : va_nd is = true) (hfst : wc'.map Prod.fst = wc.map Prod.fst) (hrc : vwCl[ci]? = some (Cn, T, N)) (q0 : Nat) (hq0 : w[q0]? = some (b, .inr (ci, fs)))
    (hlen : As.length = n) (hls : ls.size = nL) (hst0 : st0 = As.reverse ++ .ref b :: rest) (hroom : (rest.map fun v => v.category).sum ≤ 8) (hf : cells ≤ R.cells ∧ slots ≤ R.slots) (w' : va_W) (hw : upds w is wc' = w') (hst : res.toList ++ rest = st1) (hdg : decode cc pc = .ok (.invokevirtual index, 3))
    (kk : ∀ (H1 : Heap) (locs1 : List Loc), Hx s G A w' H1 locs1 → W p l e R s m args below meth c H1 locs1 cells slots Q (F0 m (pc + 3) ls st1)) : W p l e R s m args below meth c H locs cells slots Q (F0 m pc ls st0) := by
  have hp := r_pre (av := .ref b :: As) C h is hC hn
  exact r_back C h is hC hn hfst w' hw (va_runV C.fix (ct H.size) cw ⟨hp.1, va_recv C.hK h.1 hrc hq0, hp.2⟩ rfl hlen hls hst0 (lv_room hroom) hdg hf) hst kk
theorem r_callS (C : Cx p s m args c G tys A own cc Ts nL) (h : Hx s G A w H locs) {y : MethodName} {bytes : ByteArray} {maxL n index : Nat} {ret : Option FieldType} {wsy : List Cond} {rmy : Room} {As : List Value} {wc wc' : va_W} {res : Option Value}
    (cw : CallB R s args own index y bytes maxL ret wsy rmy 0 0 n ∧ (Cond.static y).before args s = true) (ct : CT l y wsy rmy G tys As wc res wc') (is : List Nat) (hC : is.map (fun i => w[i]?) = wc.map some) (hn : va_nd is = true) (hfst : wc'.map Prod.fst = wc.map Prod.fst)
    (hlen : As.length = n) (hls : ls.size = nL) (hst0 : st0 = As.reverse ++ rest) (hroom : (rest.map fun v => v.category).sum ≤ 8) (hf : cells ≤ R.cells ∧ slots ≤ R.slots) (w' : va_W) (hw : upds w is wc' = w') (hst : res.toList ++ rest = st1) (hdg : decode cc pc = .ok (.invokestatic index, 3))
    (kk : ∀ (H1 : Heap) (locs1 : List Loc), Hx s G A w' H1 locs1 → W p l e R s m args below meth c H1 locs1 cells slots Q (F0 m (pc + 3) ls st1)) : W p l e R s m args below meth c H locs cells slots Q (F0 m pc ls st0) := by
  exact r_back C h is hC hn hfst w' hw (va_runS C.fix (ct H.size) cw (r_pre C h is hC hn) rfl hlen hls hst0 (lv_room hroom) hdg hf) hst kk
theorem r_callSN (C : Cx p s m args c G tys A own cc Ts nL) (h : Hx s G A w H locs) {y : MethodName} {bytes : ByteArray} {maxL n index : Nat} {ret : Option FieldType} {wsy : List Cond} {rmy : Room} {As : List Value} {wc wc' : va_W} {res : Option Value} {host : String}
    (cw : va_CN R s args own index y host bytes maxL ret wsy rmy 0 0 n ∧ (Cond.static y).before args s = true ∧ True) (ct : CT l y wsy rmy G tys As wc res wc') (is : List Nat) (hC : is.map (fun i => w[i]?) = wc.map some) (hn : va_nd is = true) (hfst : wc'.map Prod.fst = wc.map Prod.fst)
    (hlen : As.length = n) (hls : ls.size = nL) (hst0 : st0 = As.reverse ++ rest) (hroom : (rest.map fun v => v.category).sum ≤ 8) (hf : cells ≤ R.cells ∧ slots ≤ R.slots) (w' : va_W) (hw : upds w is wc' = w') (hst : res.toList ++ rest = st1) (hdg : decode cc pc = .ok (.invokestatic index, 3))
    (kk : ∀ (H1 : Heap) (locs1 : List Loc), Hx s G A w' H1 locs1 → W p l e R s m args below meth c H1 locs1 cells slots Q (F0 m (pc + 3) ls st1)) : W p l e R s m args below meth c H locs cells slots Q (F0 m pc ls st0) := by
  exact r_back C h is hC hn hfst w' hw (va_runSN C.fix (ct H.size) cw (r_pre C h is hC hn) rfl hlen hls hst0 (lv_room hroom) hdg hf) hst kk
-- ends
variable {w' : va_W}
theorem r_iret (C : Cx p s m args c G tys A own cc Ts nL) (h : Hx s G A w' H locs) (hr : meth.sig.returnType = some .int) (hlocks : meth.locks = false) {v : Int32} (hdg : decode cc pc = .ok (.ireturn, 1)) : W p l e R s m args below meth c H locs cells slots (MQ below (Qx G (some (.int v)) w' A) args s cells slots A) (F0 m pc ls [.int v]) :=
  W.iret (v := v) C.hx C.hb hr (fun t ht hW => ⟨⟨rfl, by rw [ht]; exact h.1, h.2.1⟩, h.2.2.F ht⟩) h.2.2.2.2 hdg hlocks
theorem r_zret (C : Cx p s m args c G tys A own cc Ts nL) (h : Hx s G A w' H locs) {ty : FieldType} (hr : meth.sig.returnType = some ty) (hlocks : meth.locks = false) {v : Int32} (hn : narrow ty (.int v) = .int v) (hdg : decode cc pc = .ok (.ireturn, 1)) : W p l e R s m args below meth c H locs cells slots (MQ below (Qx G (some (.int v)) w' A) args s cells slots A) (F0 m pc ls [.int v]) :=
  W.zret (v := v) C.hx C.hb hr hn (fun t ht hW => ⟨⟨rfl, by rw [ht]; exact h.1, h.2.1⟩, h.2.2.F ht⟩) h.2.2.2.2 hdg hlocks
theorem r_lret (C : Cx p s m args c G tys A own cc Ts nL) (h : Hx s G A w' H locs) (hr : meth.sig.returnType = some .long) (hlocks : meth.locks = false) {v : Int64} (hdg : decode cc pc = .ok (.lreturn, 1)) : W p l e R s m args below meth c H locs cells slots (MQ below (Qx G (some (.long v)) w' A) args s cells slots A) (F0 m pc ls [.long v]) :=
  W.lret (v := v) C.hx C.hb hr (fun t ht hW => ⟨⟨rfl, by rw [ht]; exact h.1, h.2.1⟩, h.2.2.F ht⟩) h.2.2.2.2 hdg hlocks
theorem r_vret (C : Cx p s m args c G tys A own cc Ts nL) (h : Hx s G A w' H locs) (hr : meth.sig.returnType = none) (hlocks : meth.locks = false) (hdg : decode cc pc = .ok (.return_, 1)) : W p l e R s m args below meth c H locs cells slots (MQ below (Qx G none w' A) args s cells slots A) (F0 m pc ls []) :=
  W.vret C.hx C.hb hr (fun t ht hW => ⟨⟨rfl, by rw [ht]; exact h.1, h.2.1⟩, h.2.2.F ht⟩) h.2.2.2.2 hdg hlocks
end Rows
/-- the start of a walk -/
theorem CT.of {l : Launch} {y : MethodName} {ws ws' : List Cond} {rm : Room} {G : va_G} {tys : List (ClassId × FieldType)} {av : List Value} {w w' : va_W} {res : Option Value} {cc : ByteArray} {maxL : Nat} {ret : Option FieldType} (own : String) (ho : y.cls = own) (hy : plainName y.cls = true) (hw : ws = Cond.code y cc maxL ret :: ws') (hlen : (lg_sl av).length ≤ maxL)
    (body : ∀ (p : Program) (e : Env) (s : State) (m : MethodId) (args : Array Value) (below : List Frame) (meth : Method) (c : Code) (A : Nat → Prop) (ls : Array Slot), Cx p s m args c G tys A own cc ws maxL → meth.sig.returnType = ret → meth.locks = false → meth.name = y.name → Hx s G A w s.heap [] → lv_has ls maxL (lv_args 0 av) → W p l e rm s m args below meth c s.heap [] 0 0 (MQ below (Qx G res w' A) args s 0 0 A) (F0 m 0 ls [])) : CT l y ws rm G tys av w res w' := by
  subst ho
  intro sz
  refine Met.ofW (cc := cc) (maxL := maxL) (ret := ret) hy hw ?_
  intro p e s m args below meth c s₁ B hml hv
  obtain ⟨rfl, hsz, hP, hK, hD0, hSF, hNW⟩ := hv
  have hts := atoms_spec (ws := ws) B.pre
  have hown : s.vm.findClass y.cls = some m.cls := findClass_of_methodNamed B.named
  subst hsz
  have hl := lv_entry av (n := maxL) hlen
  rw [lg_entry_eq]
  exact body p e s m _ below meth c _ _ ⟨B.exec, B.bytes, hml, hown, hts, hK, hNW, fun q hq => Or.inr hq, hSF⟩ B.returns B.notSynchronized (name_of_methodNamed B.named B.method).1 ⟨hP, hD0.self, va_S.rf⟩ hl
end
section
/-! ===== shapes of worlds, small rows (by program) ===== -/
def KF : Nat := 5000
abbrev TY (cI cC cZ : ClassId) (X : List (ClassId × FieldType)) : List (ClassId × FieldType) := (cI, .int) :: (cC, .char) :: (cI, .int) :: X
theorem nn_some {α : Type} (x : α) : ¬ (none : Option α) = some x := fun h => by cases h
theorem r_nch {x : Int32} (h : vp_nar .char x = x) : narrow .char (.int x) = .int x := congrArg Value.int (show x.toUInt32.toUInt16.toUInt32.toInt32 = x from h)
theorem r_fch {x : Int32} (h : vp_nar .char x = x) : fits .char (.int x) = true := by
  have e : x = (x.toUInt32 % 65536).toInt32 := by
    have h1 : x.toUInt32.toUInt16.toUInt32.toInt32 = x := h
    rw [show x.toUInt32.toUInt16.toUInt32 = x.toUInt32 % 65536 from by simp] at h1
    exact h1.symm
  rw [e]
  exact pk_fc x
abbrev wTb (cI : ClassId) (t0 t1 : Nat) (co : Int32) (tn : Nat) (tf : Nat → Int32) : va_W := [(t0, .inr (3, [.int co, .ref t1])), (t1, .inl (cI, tn, .inl tf))]
abbrev wTb2 (cI : ClassId) (t0 t1 o0 o1 : Nat) (co : Int32) (tn : Nat) (tf : Nat → Int32) (oc : Int32) (on : Nat) (of : Nat → Int32) : va_W := [(t0, .inr (3, [.int co, .ref t1])), (t1, .inl (cI, tn, .inl tf)), (o0, .inr (3, [.int oc, .ref o1])), (o1, .inl (cI, on, .inl of))]
abbrev wSt (cI : ClassId) (a0 a1 a2 a3 a4 a5 a6 a7 a8 : Nat) (nu : Nat → Int32) (va : Nat → Int32) (qu : Nat → Int32) (sc : Nat → Int32) (lo : Nat → Int32) (wt : Int32) : va_W := [(a0, .inr (2, [.ref a1, .ref a2, .ref a3, .ref a5, .ref a7, .int wt])), (a1, .inl (cI, 24, .inl nu)), (a2, .inl (cI, 16, .inl va)), (a3, .inr (3, [.int 4, .ref a4])), (a4, .inl (cI, 68, .inl qu)), (a5, .inr (3, [.int 3, .ref a6])), (a6, .inl (cI, 96, .inl sc)), (a7, .inr (3, [.int 4, .ref a8])), (a8, .inl (cI, 32, .inl lo))]
abbrev wSt2 (cI : ClassId) (a0 a1 a2 a3 a4 a5 a6 a7 a8 o0 o1 o2 o3 o4 o5 o6 o7 o8 : Nat) (nu : Nat → Int32) (va : Nat → Int32) (qu : Nat → Int32) (sc : Nat → Int32) (lo : Nat → Int32) (wt : Int32) (onu : Nat → Int32) (ova : Nat → Int32) (oqu : Nat → Int32) (osc : Nat → Int32) (olo : Nat → Int32) (owt : Int32) : va_W := [(a0, .inr (2, [.ref a1, .ref a2, .ref a3, .ref a5, .ref a7, .int wt])), (a1, .inl (cI, 24, .inl nu)), (a2, .inl (cI, 16, .inl va)), (a3, .inr (3, [.int 4, .ref a4])), (a4, .inl (cI, 68, .inl qu)), (a5, .inr (3, [.int 3, .ref a6])), (a6, .inl (cI, 96, .inl sc)), (a7, .inr (3, [.int 4, .ref a8])), (a8, .inl (cI, 32, .inl lo)), (o0, .inr (2, [.ref o1, .ref o2, .ref o3, .ref o5, .ref o7, .int owt])), (o1, .inl (cI, 24, .inl onu)), (o2, .inl (cI, 16, .inl ova)), (o3, .inr (3, [.int 4, .ref o4])), (o4, .inl (cI, 68, .inl oqu)), (o5, .inr (3, [.int 3, .ref o6])), (o6, .inl (cI, 96, .inl osc)), (o7, .inr (3, [.int 4, .ref o8])), (o8, .inl (cI, 32, .inl olo))]
abbrev wPd (cC : ClassId) (p0 p1 : Nat) (ch : Nat → Int32) (pl : Int32) (pa : Int32) (po : Int32) (pf : Int32) (ps : Int32) : va_W := [(p0, .inr (1, [.ref p1, .int pl, .int pa, .int po, .int pf, .int ps])), (p1, .inl (cC, 80, .inl ch))]
abbrev wHi (h0 h1 : Nat) (ho : Int32) (hs : Int32) : va_W := [(h0, .inr (0, [.ref h1, .int ho, .int hs]))]
abbrev wLDs (cI : ClassId) (d0 b0 sl h0 p0 a0 a1 a2 a3 a4 a5 a6 a7 a8 : Nat) (nu : Nat → Int32) (va : Nat → Int32) (qu : Nat → Int32) (sc : Nat → Int32) (lo : Nat → Int32) (wt : Int32) : va_W := [(d0, .inr (4, [.ref a0, .ref b0, .ref sl, .ref h0, .ref p0])), (a0, .inr (2, [.ref a1, .ref a2, .ref a3, .ref a5, .ref a7, .int wt])), (a1, .inl (cI, 24, .inl nu)), (a2, .inl (cI, 16, .inl va)), (a3, .inr (3, [.int 4, .ref a4])), (a4, .inl (cI, 68, .inl qu)), (a5, .inr (3, [.int 3, .ref a6])), (a6, .inl (cI, 96, .inl sc)), (a7, .inr (3, [.int 4, .ref a8])), (a8, .inl (cI, 32, .inl lo))]
abbrev wLDt (cI : ClassId) (d0 sl h0 p0 a0 a1 a2 a3 a4 a5 a6 a7 a8 b0 b1 b2 b3 b4 b5 b6 b7 b8 : Nat) (nu : Nat → Int32) (va : Nat → Int32) (qu : Nat → Int32) (sc : Nat → Int32) (lo : Nat → Int32) (wt : Int32) (tnu : Nat → Int32) (tva : Nat → Int32) (tqu : Nat → Int32) (tsc : Nat → Int32) (tlo : Nat → Int32) (twt : Int32) : va_W := [(d0, .inr (4, [.ref a0, .ref b0, .ref sl, .ref h0, .ref p0])), (a0, .inr (2, [.ref a1, .ref a2, .ref a3, .ref a5, .ref a7, .int wt])), (a1, .inl (cI, 24, .inl nu)), (a2, .inl (cI, 16, .inl va)), (a3, .inr (3, [.int 4, .ref a4])), (a4, .inl (cI, 68, .inl qu)), (a5, .inr (3, [.int 3, .ref a6])), (a6, .inl (cI, 96, .inl sc)), (a7, .inr (3, [.int 4, .ref a8])), (a8, .inl (cI, 32, .inl lo)), (b0, .inr (2, [.ref b1, .ref b2, .ref b3, .ref b5, .ref b7, .int twt])), (b1, .inl (cI, 24, .inl tnu)), (b2, .inl (cI, 16, .inl tva)), (b3, .inr (3, [.int 4, .ref b4])), (b4, .inl (cI, 68, .inl tqu)), (b5, .inr (3, [.int 3, .ref b6])), (b6, .inl (cI, 96, .inl tsc)), (b7, .inr (3, [.int 4, .ref b8])), (b8, .inl (cI, 32, .inl tlo))]
abbrev wLDc (cI : ClassId) (cC : ClassId) (d0 b0 sl a0 a1 a2 a3 a4 a5 a6 a7 a8 p0 p1 h0 h1 : Nat) (nu : Nat → Int32) (va : Nat → Int32) (qu : Nat → Int32) (sc : Nat → Int32) (lo : Nat → Int32) (wt : Int32) (ch : Nat → Int32) (pl : Int32) (pa : Int32) (po : Int32) (pf : Int32) (ps : Int32) (ho : Int32) (hs : Int32) : va_W := [(d0, .inr (4, [.ref a0, .ref b0, .ref sl, .ref h0, .ref p0])), (a0, .inr (2, [.ref a1, .ref a2, .ref a3, .ref a5, .ref a7, .int wt])), (a1, .inl (cI, 24, .inl nu)), (a2, .inl (cI, 16, .inl va)), (a3, .inr (3, [.int 4, .ref a4])), (a4, .inl (cI, 68, .inl qu)), (a5, .inr (3, [.int 3, .ref a6])), (a6, .inl (cI, 96, .inl sc)), (a7, .inr (3, [.int 4, .ref a8])), (a8, .inl (cI, 32, .inl lo)), (p0, .inr (1, [.ref p1, .int pl, .int pa, .int po, .int pf, .int ps])), (p1, .inl (cC, 80, .inl ch)), (h0, .inr (0, [.ref h1, .int ho, .int hs]))]
abbrev wLDg (cI : ClassId) (d0 sl h0 p0 a0 a1 a2 a3 a5 a7 b0 b1 b2 b3 b5 b7 : Nat) (nu : Nat → Int32) (wt : Int32) (tnu : Nat → Int32) (twt : Int32) : va_W := [(d0, .inr (4, [.ref a0, .ref b0, .ref sl, .ref h0, .ref p0])), (a0, .inr (2, [.ref a1, .ref a2, .ref a3, .ref a5, .ref a7, .int wt])), (a1, .inl (cI, 24, .inl nu)), (b0, .inr (2, [.ref b1, .ref b2, .ref b3, .ref b5, .ref b7, .int twt])), (b1, .inl (cI, 24, .inl tnu))]
theorem lkN_2_33 : ("LineDoubler$State", 33, "LineDoubler", "FIRST_SETTINGS", "[I", "LineDoubler") ∈ nwF := by decide +kernel
theorem lkN_4_63 : ("LineDoubler", 63, "LineDoubler$State", "numbers", "[I", "LineDoubler") ∈ nwF := by decide +kernel
theorem lkN_4_71 : ("LineDoubler", 71, "LineDoubler$State", "queue", "LLineDoubler$Table;", "LineDoubler") ∈ nwF := by decide +kernel
theorem lkN_4_83 : ("LineDoubler", 83, "LineDoubler$State", "screen", "LLineDoubler$Table;", "LineDoubler") ∈ nwF := by decide +kernel
theorem lkN_4_91 : ("LineDoubler", 91, "LineDoubler$State", "lost", "LLineDoubler$Table;", "LineDoubler") ∈ nwF := by decide +kernel
theorem lkN_4_98 : ("LineDoubler", 98, "LineDoubler$History", "size", "I", "LineDoubler") ∈ nwF := by decide +kernel
theorem lkN_4_94 : ("LineDoubler", 94, "LineDoubler$Pad", "length", "I", "LineDoubler") ∈ nwF := by decide +kernel
theorem lkN_2_58 : ("LineDoubler$State", 58, "LineDoubler", "LEAST_SETTINGS", "[I", "LineDoubler") ∈ nwF := by decide +kernel
theorem lkN_2_61 : ("LineDoubler$State", 61, "LineDoubler", "MOST_SETTINGS", "[I", "LineDoubler") ∈ nwF := by decide +kernel
theorem lkM_4_25 : ("LineDoubler", 25, yX0_init, "LineDoubler") ∈ nwM := by decide +kernel
theorem lkM_4_32 : ("LineDoubler", 32, yX1_init, "LineDoubler") ∈ nwM := by decide +kernel
theorem lkM_0_24 : ("LineDoubler$History", 24, yX4_keepCopy, "LineDoubler") ∈ nwM := by decide +kernel
theorem lkM_2_50 : ("LineDoubler$State", 50, yX4_isWithin, "LineDoubler") ∈ nwM := by decide +kernel
theorem k_0_24 : vp_in 0 24 ∧ (0 : Int32).toNatClampNeg = 0 := ⟨by unfold vp_in; decide, rfl⟩
theorem k_1_24 : vp_in 1 24 ∧ (1 : Int32).toNatClampNeg = 1 := ⟨by unfold vp_in; decide, rfl⟩
theorem k_2_24 : vp_in 2 24 ∧ (2 : Int32).toNatClampNeg = 2 := ⟨by unfold vp_in; decide, rfl⟩
theorem k_3_24 : vp_in 3 24 ∧ (3 : Int32).toNatClampNeg = 3 := ⟨by unfold vp_in; decide, rfl⟩
theorem k_4_24 : vp_in 4 24 ∧ (4 : Int32).toNatClampNeg = 4 := ⟨by unfold vp_in; decide, rfl⟩
theorem k_5_24 : vp_in 5 24 ∧ (5 : Int32).toNatClampNeg = 5 := ⟨by unfold vp_in; decide, rfl⟩
theorem k_6_24 : vp_in 6 24 ∧ (6 : Int32).toNatClampNeg = 6 := ⟨by unfold vp_in; decide, rfl⟩
theorem k_7_24 : vp_in 7 24 ∧ (7 : Int32).toNatClampNeg = 7 := ⟨by unfold vp_in; decide, rfl⟩
theorem k_8_24 : vp_in 8 24 ∧ (8 : Int32).toNatClampNeg = 8 := ⟨by unfold vp_in; decide, rfl⟩
theorem k_9_24 : vp_in 9 24 ∧ (9 : Int32).toNatClampNeg = 9 := ⟨by unfold vp_in; decide, rfl⟩
theorem k_10_24 : vp_in 10 24 ∧ (10 : Int32).toNatClampNeg = 10 := ⟨by unfold vp_in; decide, rfl⟩
theorem k_11_24 : vp_in 11 24 ∧ (11 : Int32).toNatClampNeg = 11 := ⟨by unfold vp_in; decide, rfl⟩
theorem k_15_24 : vp_in 15 24 ∧ (15 : Int32).toNatClampNeg = 15 := ⟨by unfold vp_in; decide, rfl⟩
end
section
/-- the mirror of X4_isWithin -/
def fX4_isWithin (x0 : Int32) (x1 : Int32) (x2 : Int32) : Option (Int32) :=
  (if x0 < x1 then
  some (0)
  else
  (if x2 < x0 then
  some (0)
  else
  some (1)))

/-- the mirror of X3_read -/
def fX3_read (co : Int32) (tn : Nat) (tf : Nat → Int32) (x1 : Int32) (x2 : Int32) : Option (Int32) :=
  nm (((x1 * co) + x2)) fun x3_1 =>
  (if x3_1 < 0 then
  some ((-6))
  else
  (if (nI tn) ≤ x3_1 then
  some ((-6))
  else
  chk x3_1 tn fun j_2 =>
  some ((tf j_2))))

/-- the mirror of X3_write -/
def fX3_write (co : Int32) (tn : Nat) (tf : Nat → Int32) (x1 : Int32) (x2 : Int32) (x3 : Int32) : Option ((Nat → Int32)) :=
  nm (((x1 * co) + x2)) fun x4_1 =>
  (if x4_1 < 0 then
  some (tf)
  else
  (if (nI tn) ≤ x4_1 then
  some (tf)
  else
  chk x4_1 tn fun j_2 =>
  nm (upd tf j_2 x3) fun tf_3 =>
  some (tf_3)))

/-- the mirror of X3_removeRow -/
def fX3_removeRow (co : Int32) (tn : Nat) (tf : Nat → Int32) (x1 : Int32) : Option ((Nat → Int32)) :=
  nm ((x1 * co)) fun x2_1 =>
  nm ((x2_1 + co)) fun x3_2 =>
  (if x2_1 < 0 then
  some (tf)
  else
  (if (nI tn) < x3_2 then
  some (tf)
  else
  nm (((nI tn) - x3_2)) fun y_3 =>
  nd (acok x3_2 x2_1 y_3 tn tn) <|
  nm (va_cpy tf tf x3_2.toNatClampNeg x2_1.toNatClampNeg y_3.toNatClampNeg) fun tf_4 =>
  some (tf_4)))

/-- the mirror of X3_copyFrom -/
def fX3_copyFrom (tn : Nat) (tf : Nat → Int32) (on : Nat) (of : Nat → Int32) : Option ((Nat → Int32)) :=
  nm ((if (nI tn) < (nI on) then (nI tn) else (nI on))) fun y_1 =>
  nd (acok (0 : Int32) (0 : Int32) y_1 on tn) <|
  nm (va_cpy of tf (0 : Int32).toNatClampNeg (0 : Int32).toNatClampNeg y_1.toNatClampNeg) fun tf_2 =>
  some (tf_2)

def rm_X4_isWithin : Room := { frames := 0, cells := 0, slots := 0, locals := 0 }
set_option maxHeartbeats 4000000 in
set_option maxRecDepth 100000 in
theorem c_X4_isWithin (l : Launch) (G : va_G) (cI cC cZ : ClassId) (X : List (ClassId × FieldType)) (x0 : Int32) (x1 : Int32) (x2 : Int32) (rv : Int32) (hf : fX4_isWithin x0 x1 x2 = some (rv)) : CT l yX4_isWithin wsX4_isWithin rm_X4_isWithin G (TY cI cC cZ X) [.int x0, .int x1, .int x2] ([] : va_W) (some (.int rv)) ([] : va_W) := by
  refine CT.of (cc := cX4_isWithin) (maxL := 3) (ret := (some .boolean)) RX4 rfl (by decide) rfl (Nat.le_of_ble_eq_true rfl) ?_
  intro p e s m args below meth c A ls C hr hlocks hnm h hl
  have hx := C.hx
  have hb := C.hb
  have hl : lv_has ls 3 [(0, .int x0), (1, .int x1), (2, .int x2)] := hl
  unfold fX4_isWithin at hf
  refine lv_iload_n hx hb dX4_isWithin_0 rfl (lv_at hl 0 rfl) ?_
  refine lv_iload_n hx hb dX4_isWithin_1 rfl (lv_at hl 1 rfl) ?_
  refine lv_icmp_lt (tgt := 14) hx hb dX4_isWithin_2 (by decide) (fun hc => ?_) (fun hc => ?_)
  · replace hf := it_t hf hc
    refine lv_iconst (v := 0) hx hb dX4_isWithin_14 (by decide) ?_
    cases hf
    exact r_zret C h hr hlocks rfl dX4_isWithin_15
  · replace hf := it_f hf hc
    refine lv_iload_n hx hb dX4_isWithin_5 rfl (lv_at hl 0 rfl) ?_
    refine lv_iload_n hx hb dX4_isWithin_6 rfl (lv_at hl 2 rfl) ?_
    refine lv_icmp_gt (tgt := 14) hx hb dX4_isWithin_7 (by decide) (fun hc => ?_) (fun hc => ?_)
    · replace hf := it_t hf hc
      refine lv_iconst (v := 0) hx hb dX4_isWithin_14 (by decide) ?_
      cases hf
      exact r_zret C h hr hlocks rfl dX4_isWithin_15
    · replace hf := it_f hf hc
      refine lv_iconst (v := 1) hx hb dX4_isWithin_10 (by decide) ?_
      refine lv_goto (tgt := 15) hx hb dX4_isWithin_11 (by decide) ?_
      cases hf
      exact r_zret C h hr hlocks rfl dX4_isWithin_15
def rm_X3_read : Room := { frames := 0, cells := 0, slots := 0, locals := 0 }
set_option maxRecDepth 20000 in
theorem lk_X3_read_9 : Cond.fieldLink RX3 9 "LineDoubler$Table" "columns" "I" ∈ wsX3_read := List.mem_of_getElem? (i := 1) (by decide +kernel)
set_option maxRecDepth 20000 in
theorem lk_X3_read_21 : Cond.fieldLink RX3 21 "LineDoubler$Table" "cells" "[I" ∈ wsX3_read := List.mem_of_getElem? (i := 2) (by decide +kernel)
set_option maxRecDepth 20000 in
theorem in_X3_read_X3 : ∀ x ∈ wsX30, x ∈ wsX3_read := mem_r _ [3, 4] (by decide +kernel)
set_option maxHeartbeats 4000000 in
set_option maxRecDepth 100000 in
theorem c_X3_read (l : Launch) (G : va_G) (cI cC cZ : ClassId) (X : List (ClassId × FieldType)) (t0 t1 : Nat) (co : Int32) (tn : Nat) (tf : Nat → Int32) (x1 : Int32) (x2 : Int32) (rv : Int32) (hf : fX3_read co tn tf x1 x2 = some (rv)) : CT l yX3_read wsX3_read rm_X3_read G (TY cI cC cZ X) [.ref t0, .int x1, .int x2] (wTb cI t0 t1 co tn tf) (some (.int rv)) (wTb cI t0 t1 co tn tf) := by
  refine CT.of (cc := cX3_read) (maxL := 4) (ret := (some .int)) RX3 rfl (by decide) rfl (Nat.le_of_ble_eq_true rfl) ?_
  intro p e s m args below meth c A ls C hr hlocks hnm h hl
  have hx := C.hx
  have hb := C.hb
  have hl : lv_has ls 4 [(0, .ref t0), (1, .int x1), (2, .int x2)] := hl
  unfold fX3_read at hf
  refine lv_iload_n hx hb dX3_read_0 rfl (lv_at hl 1 rfl) ?_
  refine lv_aload_n hx hb dX3_read_1 rfl (lv_at hl 0 rfl) ?_
  refine r_get C h 0 0 (ci := 3) (N := 2) (Cn := RX3) (T := TX3) rfl rfl (by decide) in_X3_read_X3 lk_X3_read_9 rfl dX3_read_2 ?_
  refine lv_imul hx hb dX3_read_5 ?_
  refine lv_iload_n hx hb dX3_read_6 rfl (lv_at hl 2 rfl) ?_
  refine lv_iadd hx hb dX3_read_7 ?_
  refine lv_topi (fun x3_1 ex3_1 => ?_)
  replace hf := nm_use hf ex3_1
  refine lv_istore_n (lv' := [(3, .int x3_1), (0, .ref t0), (1, .int x1), (2, .int x2)]) hx hb dX3_read_8 rfl hl (by decide) rfl (fun ls hl => ?_)
  refine lv_iload_n hx hb dX3_read_9 rfl (lv_at hl 0 rfl) ?_
  refine lv_if_lt (tgt := 31) hx hb dX3_read_10 (by decide) (fun hc => ?_) (fun hc => ?_)
  · replace hf := it_t hf hc
    refine lv_bipush (v := (-6)) hx hb dX3_read_31 (by decide) ?_
    cases hf
    exact r_iret C h hr hlocks dX3_read_33
  · replace hf := it_f hf hc
    refine lv_iload_n hx hb dX3_read_13 rfl (lv_at hl 0 rfl) ?_
    refine lv_aload_n hx hb dX3_read_14 rfl (lv_at hl 1 rfl) ?_
    refine r_get C h 0 1 (ci := 3) (N := 2) (Cn := RX3) (T := TX3) rfl rfl (by decide) in_X3_read_X3 lk_X3_read_21 rfl dX3_read_15 ?_
    refine r_alen C h 1 rfl rfl dX3_read_18 ?_
    refine lv_icmp_ge (tgt := 31) hx hb dX3_read_19 (by decide) (fun hc => ?_) (fun hc => ?_)
    · replace hf := it_t hf hc
      refine lv_bipush (v := (-6)) hx hb dX3_read_31 (by decide) ?_
      cases hf
      exact r_iret C h hr hlocks dX3_read_33
    · replace hf := it_f hf hc
      refine lv_aload_n hx hb dX3_read_22 rfl (lv_at hl 1 rfl) ?_
      refine r_get C h 0 1 (ci := 3) (N := 2) (Cn := RX3) (T := TX3) rfl rfl (by decide) in_X3_read_X3 lk_X3_read_21 rfl dX3_read_23 ?_
      refine lv_iload_n hx hb dX3_read_26 rfl (lv_at hl 0 rfl) ?_
      obtain ⟨j_2, hj_2, hf⟩ := chk_use hf
      refine r_ald C h 1 rfl rfl hj_2 dX3_read_27 ?_
      refine lv_goto (tgt := 33) hx hb dX3_read_28 (by decide) ?_
      cases hf
      exact r_iret C h hr hlocks dX3_read_33
def rm_X3_write : Room := { frames := 0, cells := 0, slots := 0, locals := 0 }
set_option maxRecDepth 20000 in
theorem lk_X3_write_9 : Cond.fieldLink RX3 9 "LineDoubler$Table" "columns" "I" ∈ wsX3_write := List.mem_of_getElem? (i := 1) (by decide +kernel)
set_option maxRecDepth 20000 in
theorem lk_X3_write_21 : Cond.fieldLink RX3 21 "LineDoubler$Table" "cells" "[I" ∈ wsX3_write := List.mem_of_getElem? (i := 2) (by decide +kernel)
set_option maxRecDepth 20000 in
theorem in_X3_write_X3 : ∀ x ∈ wsX30, x ∈ wsX3_write := mem_r _ [3, 4] (by decide +kernel)
set_option maxHeartbeats 4000000 in
set_option maxRecDepth 100000 in
theorem c_X3_write (l : Launch) (G : va_G) (cI cC cZ : ClassId) (X : List (ClassId × FieldType)) (t0 t1 : Nat) (co : Int32) (tn : Nat) (tf : Nat → Int32) (x1 : Int32) (x2 : Int32) (x3 : Int32) (tf' : Nat → Int32) (hf : fX3_write co tn tf x1 x2 x3 = some (tf')) : CT l yX3_write wsX3_write rm_X3_write G (TY cI cC cZ X) [.ref t0, .int x1, .int x2, .int x3] (wTb cI t0 t1 co tn tf) none (wTb cI t0 t1 co tn tf') := by
  refine CT.of (cc := cX3_write) (maxL := 5) (ret := none) RX3 rfl (by decide) rfl (Nat.le_of_ble_eq_true rfl) ?_
  intro p e s m args below meth c A ls C hr hlocks hnm h hl
  have hx := C.hx
  have hb := C.hb
  have hl : lv_has ls 5 [(0, .ref t0), (1, .int x1), (2, .int x2), (3, .int x3)] := hl
  unfold fX3_write at hf
  refine lv_iload_n hx hb dX3_write_0 rfl (lv_at hl 1 rfl) ?_
  refine lv_aload_n hx hb dX3_write_1 rfl (lv_at hl 0 rfl) ?_
  refine r_get C h 0 0 (ci := 3) (N := 2) (Cn := RX3) (T := TX3) rfl rfl (by decide) in_X3_write_X3 lk_X3_write_9 rfl dX3_write_2 ?_
  refine lv_imul hx hb dX3_write_5 ?_
  refine lv_iload_n hx hb dX3_write_6 rfl (lv_at hl 2 rfl) ?_
  refine lv_iadd hx hb dX3_write_7 ?_
  refine lv_topi (fun x4_1 ex4_1 => ?_)
  replace hf := nm_use hf ex4_1
  refine lv_istore (lv' := [(4, .int x4_1), (0, .ref t0), (1, .int x1), (2, .int x2), (3, .int x3)]) hx hb dX3_write_8 hl (by decide) rfl (fun ls hl => ?_)
  refine lv_iload hx hb dX3_write_10 (lv_at hl 0 rfl) ?_
  refine lv_if_lt (tgt := 33) hx hb dX3_write_12 (by decide) (fun hc => ?_) (fun hc => ?_)
  · replace hf := it_t hf hc
    cases hf
    exact r_vret C h hr hlocks dX3_write_33
  · replace hf := it_f hf hc
    refine lv_iload hx hb dX3_write_15 (lv_at hl 0 rfl) ?_
    refine lv_aload_n hx hb dX3_write_17 rfl (lv_at hl 1 rfl) ?_
    refine r_get C h 0 1 (ci := 3) (N := 2) (Cn := RX3) (T := TX3) rfl rfl (by decide) in_X3_write_X3 lk_X3_write_21 rfl dX3_write_18 ?_
    refine r_alen C h 1 rfl rfl dX3_write_21 ?_
    refine lv_icmp_ge (tgt := 33) hx hb dX3_write_22 (by decide) (fun hc => ?_) (fun hc => ?_)
    · replace hf := it_t hf hc
      cases hf
      exact r_vret C h hr hlocks dX3_write_33
    · replace hf := it_f hf hc
      refine lv_aload_n hx hb dX3_write_25 rfl (lv_at hl 1 rfl) ?_
      refine r_get C h 0 1 (ci := 3) (N := 2) (Cn := RX3) (T := TX3) rfl rfl (by decide) in_X3_write_X3 lk_X3_write_21 rfl dX3_write_26 ?_
      refine lv_iload hx hb dX3_write_29 (lv_at hl 0 rfl) ?_
      refine lv_iload_n hx hb dX3_write_31 rfl (lv_at hl 4 rfl) ?_
      obtain ⟨j_2, hj_2, hf⟩ := chk_use hf
      refine r_ast C h 1 rfl rfl hj_2 (fun z__ => (wTb cI t0 t1 co tn z__)) (fun _ => rfl) dX3_write_32 (fun tf_3 etf_3 H locs h => ?_)
      replace hf := nm_use hf etf_3
      cases hf
      exact r_vret C h hr hlocks dX3_write_33
def rm_X3_removeRow : Room := { frames := 1, cells := 0, slots := 0, locals := 18 }
set_option maxRecDepth 20000 in
theorem lk_X3_removeRow_9 : Cond.fieldLink RX3 9 "LineDoubler$Table" "columns" "I" ∈ wsX3_removeRow := List.mem_of_getElem? (i := 1) (by decide +kernel)
set_option maxRecDepth 20000 in
theorem lk_X3_removeRow_21 : Cond.fieldLink RX3 21 "LineDoubler$Table" "cells" "[I" ∈ wsX3_removeRow := List.mem_of_getElem? (i := 2) (by decide +kernel)
set_option maxRecDepth 20000 in
theorem lm_X3_removeRow_25 : Cond.methodLink RX3 25 arraycopyName ∈ wsX3_removeRow := List.mem_of_getElem? (i := 3) (by decide +kernel)
set_option maxRecDepth 20000 in
theorem ln_X3_removeRow_ac : Cond.native arraycopyName ∈ wsX3_removeRow := List.mem_of_getElem? (i := 4) (by decide +kernel)
set_option maxRecDepth 20000 in
theorem ls_X3_removeRow_ac : Cond.static arraycopyName ∈ wsX3_removeRow := List.mem_of_getElem? (i := 5) (by decide +kernel)
set_option maxRecDepth 20000 in
theorem li_X3_removeRow_System : Cond.initialized "java/lang/System" ∈ wsX3_removeRow := List.mem_of_getElem? (i := 6) (by decide +kernel)
set_option maxRecDepth 20000 in
theorem in_X3_removeRow_X3 : ∀ x ∈ wsX30, x ∈ wsX3_removeRow := mem_r _ [7, 8] (by decide +kernel)
set_option maxHeartbeats 4000000 in
set_option maxRecDepth 100000 in
theorem c_X3_removeRow (l : Launch) (G : va_G) (cI cC cZ : ClassId) (X : List (ClassId × FieldType)) (t0 t1 : Nat) (co : Int32) (tn : Nat) (tf : Nat → Int32) (x1 : Int32) (tf' : Nat → Int32) (hf : fX3_removeRow co tn tf x1 = some (tf')) : CT l yX3_removeRow wsX3_removeRow rm_X3_removeRow G (TY cI cC cZ X) [.ref t0, .int x1] (wTb cI t0 t1 co tn tf) none (wTb cI t0 t1 co tn tf') := by
  refine CT.of (cc := cX3_removeRow) (maxL := 4) (ret := none) RX3 rfl (by decide) rfl (Nat.le_of_ble_eq_true rfl) ?_
  intro p e s m args below meth c A ls C hr hlocks hnm h hl
  have hx := C.hx
  have hb := C.hb
  have hl : lv_has ls 4 [(0, .ref t0), (1, .int x1)] := hl
  unfold fX3_removeRow at hf
  refine lv_iload_n hx hb dX3_removeRow_0 rfl (lv_at hl 1 rfl) ?_
  refine lv_aload_n hx hb dX3_removeRow_1 rfl (lv_at hl 0 rfl) ?_
  refine r_get C h 0 0 (ci := 3) (N := 2) (Cn := RX3) (T := TX3) rfl rfl (by decide) in_X3_removeRow_X3 lk_X3_removeRow_9 rfl dX3_removeRow_2 ?_
  refine lv_imul hx hb dX3_removeRow_5 ?_
  refine lv_topi (fun x2_1 ex2_1 => ?_)
  replace hf := nm_use hf ex2_1
  refine lv_istore_n (lv' := [(2, .int x2_1), (0, .ref t0), (1, .int x1)]) hx hb dX3_removeRow_6 rfl hl (by decide) rfl (fun ls hl => ?_)
  refine lv_iload_n hx hb dX3_removeRow_7 rfl (lv_at hl 0 rfl) ?_
  refine lv_aload_n hx hb dX3_removeRow_8 rfl (lv_at hl 1 rfl) ?_
  refine r_get C h 0 0 (ci := 3) (N := 2) (Cn := RX3) (T := TX3) rfl rfl (by decide) in_X3_removeRow_X3 lk_X3_removeRow_9 rfl dX3_removeRow_9 ?_
  refine lv_iadd hx hb dX3_removeRow_12 ?_
  refine lv_topi (fun x3_2 ex3_2 => ?_)
  replace hf := nm_use hf ex3_2
  refine lv_istore_n (lv' := [(3, .int x3_2), (2, .int x2_1), (0, .ref t0), (1, .int x1)]) hx hb dX3_removeRow_13 rfl hl (by decide) rfl (fun ls hl => ?_)
  refine lv_iload_n hx hb dX3_removeRow_14 rfl (lv_at hl 1 rfl) ?_
  refine lv_if_lt (tgt := 47) hx hb dX3_removeRow_15 (by decide) (fun hc => ?_) (fun hc => ?_)
  · replace hf := it_t hf hc
    cases hf
    exact r_vret C h hr hlocks dX3_removeRow_47
  · replace hf := it_f hf hc
    refine lv_iload_n hx hb dX3_removeRow_18 rfl (lv_at hl 0 rfl) ?_
    refine lv_aload_n hx hb dX3_removeRow_19 rfl (lv_at hl 2 rfl) ?_
    refine r_get C h 0 1 (ci := 3) (N := 2) (Cn := RX3) (T := TX3) rfl rfl (by decide) in_X3_removeRow_X3 lk_X3_removeRow_21 rfl dX3_removeRow_20 ?_
    refine r_alen C h 1 rfl rfl dX3_removeRow_23 ?_
    refine lv_icmp_gt (tgt := 47) hx hb dX3_removeRow_24 (by decide) (fun hc => ?_) (fun hc => ?_)
    · replace hf := it_t hf hc
      cases hf
      exact r_vret C h hr hlocks dX3_removeRow_47
    · replace hf := it_f hf hc
      refine lv_aload_n hx hb dX3_removeRow_27 rfl (lv_at hl 2 rfl) ?_
      refine r_get C h 0 1 (ci := 3) (N := 2) (Cn := RX3) (T := TX3) rfl rfl (by decide) in_X3_removeRow_X3 lk_X3_removeRow_21 rfl dX3_removeRow_28 ?_
      refine lv_iload_n hx hb dX3_removeRow_31 rfl (lv_at hl 0 rfl) ?_
      refine lv_aload_n hx hb dX3_removeRow_32 rfl (lv_at hl 2 rfl) ?_
      refine r_get C h 0 1 (ci := 3) (N := 2) (Cn := RX3) (T := TX3) rfl rfl (by decide) in_X3_removeRow_X3 lk_X3_removeRow_21 rfl dX3_removeRow_33 ?_
      refine lv_iload_n hx hb dX3_removeRow_36 rfl (lv_at hl 1 rfl) ?_
      refine lv_aload_n hx hb dX3_removeRow_37 rfl (lv_at hl 2 rfl) ?_
      refine r_get C h 0 1 (ci := 3) (N := 2) (Cn := RX3) (T := TX3) rfl rfl (by decide) in_X3_removeRow_X3 lk_X3_removeRow_21 rfl dX3_removeRow_38 ?_
      refine r_alen C h 1 rfl rfl dX3_removeRow_41 ?_
      refine lv_iload_n hx hb dX3_removeRow_42 rfl (lv_at hl 0 rfl) ?_
      refine lv_isub hx hb dX3_removeRow_43 ?_
      refine lv_topi (fun y_3 ey_3 => ?_)
      replace hf := nm_use hf ey_3
      obtain ⟨hk_5, hf⟩ := nd_use hf
      refine r_copy C h hl.1 1 1 rfl rfl rfl hk_5 lm_X3_removeRow_25 ln_X3_removeRow_ac ls_X3_removeRow_ac li_X3_removeRow_System (Nat.le_of_ble_eq_true rfl) (by decide) (fun z__ => (wTb cI t0 t1 co tn z__)) (fun _ => rfl) dX3_removeRow_44 (fun tf_4 etf_4 H locs h => ?_)
      replace hf := nm_use hf etf_4
      cases hf
      exact r_vret C h hr hlocks dX3_removeRow_47
def rm_X3_copyFrom : Room := { frames := 1, cells := 0, slots := 0, locals := 18 }
set_option maxRecDepth 20000 in
theorem lk_X3_copyFrom_21 : Cond.fieldLink RX3 21 "LineDoubler$Table" "cells" "[I" ∈ wsX3_copyFrom := List.mem_of_getElem? (i := 1) (by decide +kernel)
set_option maxRecDepth 20000 in
theorem lm_X3_copyFrom_31 : Cond.methodLink RX3 31 Lib.Math.min.name ∈ wsX3_copyFrom := List.mem_of_getElem? (i := 2) (by decide +kernel)
set_option maxRecDepth 20000 in
theorem ls_X3_copyFrom_min : Cond.static Lib.Math.min.name ∈ wsX3_copyFrom := List.mem_of_getElem? (i := 3) (by decide +kernel)
set_option maxRecDepth 20000 in
theorem li_X3_copyFrom_Math : Cond.initialized "java/lang/Math" ∈ wsX3_copyFrom := List.mem_of_getElem? (i := 4) (by decide +kernel)
set_option maxRecDepth 20000 in
theorem lc_X3_copyFrom_min : Cond.code Lib.Math.min.name Lib.Math.min.code 2 (some .int) ∈ wsX3_copyFrom := List.mem_of_getElem? (i := 5) (by decide +kernel)
set_option maxRecDepth 20000 in
theorem lm_X3_copyFrom_25 : Cond.methodLink RX3 25 arraycopyName ∈ wsX3_copyFrom := List.mem_of_getElem? (i := 6) (by decide +kernel)
set_option maxRecDepth 20000 in
theorem ln_X3_copyFrom_ac : Cond.native arraycopyName ∈ wsX3_copyFrom := List.mem_of_getElem? (i := 7) (by decide +kernel)
set_option maxRecDepth 20000 in
theorem ls_X3_copyFrom_ac : Cond.static arraycopyName ∈ wsX3_copyFrom := List.mem_of_getElem? (i := 8) (by decide +kernel)
set_option maxRecDepth 20000 in
theorem li_X3_copyFrom_System : Cond.initialized "java/lang/System" ∈ wsX3_copyFrom := List.mem_of_getElem? (i := 9) (by decide +kernel)
set_option maxRecDepth 20000 in
theorem in_X3_copyFrom_X3 : ∀ x ∈ wsX30, x ∈ wsX3_copyFrom := mem_r _ [10, 11] (by decide +kernel)
set_option maxHeartbeats 4000000 in
set_option maxRecDepth 100000 in
theorem c_X3_copyFrom (l : Launch) (G : va_G) (cI cC cZ : ClassId) (X : List (ClassId × FieldType)) (t0 t1 o0 o1 : Nat) (co : Int32) (tn : Nat) (tf : Nat → Int32) (oc : Int32) (on : Nat) (of : Nat → Int32) (tf' : Nat → Int32) (hf : fX3_copyFrom tn tf on of = some (tf')) : CT l yX3_copyFrom wsX3_copyFrom rm_X3_copyFrom G (TY cI cC cZ X) [.ref t0, .ref o0] (wTb2 cI t0 t1 o0 o1 co tn tf oc on of) none (wTb2 cI t0 t1 o0 o1 co tn tf' oc on of) := by
  refine CT.of (cc := cX3_copyFrom) (maxL := 2) (ret := none) RX3 rfl (by decide) rfl (Nat.le_of_ble_eq_true rfl) ?_
  intro p e s m args below meth c A ls C hr hlocks hnm h hl
  have hx := C.hx
  have hb := C.hb
  have hl : lv_has ls 2 [(0, .ref t0), (1, .ref o0)] := hl
  unfold fX3_copyFrom at hf
  refine lv_aload_n hx hb dX3_copyFrom_0 rfl (lv_at hl 1 rfl) ?_
  refine r_get C h 2 1 (ci := 3) (N := 2) (Cn := RX3) (T := TX3) rfl rfl (by decide) in_X3_copyFrom_X3 lk_X3_copyFrom_21 rfl dX3_copyFrom_1 ?_
  refine lv_iconst (v := 0) hx hb dX3_copyFrom_4 (by decide) ?_
  refine lv_aload_n hx hb dX3_copyFrom_5 rfl (lv_at hl 0 rfl) ?_
  refine r_get C h 0 1 (ci := 3) (N := 2) (Cn := RX3) (T := TX3) rfl rfl (by decide) in_X3_copyFrom_X3 lk_X3_copyFrom_21 rfl dX3_copyFrom_6 ?_
  refine lv_iconst (v := 0) hx hb dX3_copyFrom_9 (by decide) ?_
  refine lv_aload_n hx hb dX3_copyFrom_10 rfl (lv_at hl 1 rfl) ?_
  refine r_get C h 2 1 (ci := 3) (N := 2) (Cn := RX3) (T := TX3) rfl rfl (by decide) in_X3_copyFrom_X3 lk_X3_copyFrom_21 rfl dX3_copyFrom_11 ?_
  refine r_alen C h 3 rfl rfl dX3_copyFrom_14 ?_
  refine lv_aload_n hx hb dX3_copyFrom_15 rfl (lv_at hl 0 rfl) ?_
  refine r_get C h 0 1 (ci := 3) (N := 2) (Cn := RX3) (T := TX3) rfl rfl (by decide) in_X3_copyFrom_X3 lk_X3_copyFrom_21 rfl dX3_copyFrom_16 ?_
  refine r_alen C h 1 rfl rfl dX3_copyFrom_19 ?_
  refine r_min C hl.1 lm_X3_copyFrom_31 ls_X3_copyFrom_min li_X3_copyFrom_Math lc_X3_copyFrom_min (Nat.le_of_ble_eq_true rfl) (Nat.le_of_ble_eq_true rfl) (Nat.le_of_ble_eq_true rfl) (Nat.le_of_ble_eq_true rfl) dX3_copyFrom_20 ?_
  refine lv_topi (fun y_1 ey_1 => ?_)
  replace hf := nm_use hf ey_1
  obtain ⟨hk_3, hf⟩ := nd_use hf
  refine r_copy C h hl.1 3 1 rfl rfl rfl hk_3 lm_X3_copyFrom_25 ln_X3_copyFrom_ac ls_X3_copyFrom_ac li_X3_copyFrom_System (Nat.le_of_ble_eq_true rfl) (by decide) (fun z__ => (wTb2 cI t0 t1 o0 o1 co tn z__ oc on of)) (fun _ => rfl) dX3_copyFrom_23 (fun tf_2 etf_2 H locs h => ?_)
  replace hf := nm_use hf etf_2
  cases hf
  exact r_vret C h hr hlocks dX3_copyFrom_26
end
section
/-- the mirror of X2_copyFrom -/
def fX2_copyFrom (nu : Nat → Int32) (va : Nat → Int32) (qu : Nat → Int32) (sc : Nat → Int32) (lo : Nat → Int32) (wt : Int32) (onu : Nat → Int32) (ova : Nat → Int32) (oqu : Nat → Int32) (osc : Nat → Int32) (olo : Nat → Int32) (owt : Int32) : Option ((Nat → Int32) × (Nat → Int32) × (Nat → Int32) × (Nat → Int32) × (Nat → Int32) × Int32) :=
  nd (acok (0 : Int32) (0 : Int32) (24 : Int32) 24 24) <|
  nm (va_cpy onu nu (0 : Int32).toNatClampNeg (0 : Int32).toNatClampNeg (24 : Int32).toNatClampNeg) fun nu_1 =>
  nd (acok (0 : Int32) (0 : Int32) (16 : Int32) 16 16) <|
  nm (va_cpy ova va (0 : Int32).toNatClampNeg (0 : Int32).toNatClampNeg (16 : Int32).toNatClampNeg) fun va_3 =>
  ob1 (fX3_copyFrom 68 qu 68 oqu) fun qu_5 =>
  ob1 (fX3_copyFrom 96 sc 96 osc) fun sc_7 =>
  ob1 (fX3_copyFrom 32 lo 32 olo) fun lo_9 =>
  some (nu_1, va_3, qu_5, sc_7, lo_9, owt)

/-- the mirror of X2_setting -/
def fX2_setting (nu : Nat → Int32) (x1 : Int32) : Option (Int32) :=
  ob1 (fX4_isWithin x1 (0 : Int32) (7 : Int32)) fun r_1 =>
  (if r_1 = 0 then
  some (0)
  else
  chk (16 + x1) 24 fun j_3 =>
  some ((nu j_3)))

/-- the mirror of X2_rowsOfScreen -/
def fX2_rowsOfScreen (nu : Nat → Int32) : Option (Int32) :=
  ob1 (fX2_setting nu (3 : Int32)) fun r_1 =>
  some ((2 * r_1))

def fX2_changeSetting_62 (nu : Nat → Int32) (x1 : Int32) (x2 : Int32) : Option (Int32 × (Nat → Int32)) :=
  chk (16 + x1) 24 fun j_1 =>
  nm ((nu j_1)) fun x3_2 =>
  chk (16 + x1) 24 fun j_3 =>
  nm (upd nu j_3 x2) fun nu_4 =>
  some (x3_2, nu_4)

/-- the mirror of X2_changeSetting -/
def fX2_changeSetting (nu : Nat → Int32) (x1 : Int32) (x2 : Int32) : Option (Int32 × (Nat → Int32)) :=
  ob1 (fX4_isWithin x1 (0 : Int32) (7 : Int32)) fun r_1 =>
  (if r_1 = 0 then
  some ((-2), nu)
  else
  chk x1 8 fun j_3 =>
  chk x1 8 fun j_4 =>
  ob1 (fX4_isWithin x2 (sfLeast j_3) (sfMost j_4)) fun r_5 =>
  (if r_5 = 0 then
  some ((-2), nu)
  else
  (if x1 = 3 then
  (if (nu 0) = 0 then
  (if x1 = 2 then
  (if (nu 2) ≤ x2 then
  fX2_changeSetting_62 nu x1 x2
  else
  some ((-5), nu))
  else
  fX2_changeSetting_62 nu x1 x2)
  else
  some ((-5), nu))
  else
  (if x1 = 2 then
  (if (nu 2) ≤ x2 then
  fX2_changeSetting_62 nu x1 x2
  else
  some ((-5), nu))
  else
  fX2_changeSetting_62 nu x1 x2))))

/-- the mirror of X2_changeValue -/
def fX2_changeValue (va : Nat → Int32) (x1 : Int32) (x2 : Int32) : Option (Int32 × (Nat → Int32)) :=
  ob1 (fX4_isWithin x1 (0 : Int32) (15 : Int32)) fun r_1 =>
  (if r_1 = 0 then
  some ((-1), va)
  else
  ob1 (fX4_isWithin x2 (0 : Int32) (255 : Int32)) fun r_3 =>
  (if r_3 = 0 then
  some ((-2), va)
  else
  chk x1 16 fun j_5 =>
  nm ((va j_5)) fun x3_6 =>
  chk x1 16 fun j_7 =>
  nm (upd va j_7 x2) fun va_8 =>
  some (x3_6, va_8)))

/-- the mirror of X2_delayClock -/
def fX2_delayClock (nu : Nat → Int32) (x1 : Int32) (x2 : Int32) : Option (Int32 × (Nat → Int32)) :=
  ob1 (fX4_isWithin x1 (0 : Int32) (1 : Int32)) fun r_1 =>
  (if r_1 = 0 then
  some ((-2), nu)
  else
  ob1 (fX4_isWithin x2 (1 : Int32) (99 : Int32)) fun r_3 =>
  (if r_3 = 0 then
  some ((-2), nu)
  else
  (if x1 = 0 then
  nm (upd nu 10 ((nu 10) + x2)) fun nu_6 =>
  some ((nu_6 10), nu_6)
  else
  nm (upd nu 11 ((nu 11) + x2)) fun nu_5 =>
  some ((nu_5 11), nu_5))))

/-- the mirror of X2_nextLineWaits -/
def fX2_nextLineWaits (nu : Nat → Int32) (va : Nat → Int32) (qu : Nat → Int32) : Option ((Nat → Int32) × (Nat → Int32)) :=
  nm ((nu 2)) fun x1_1 =>
  nm ((nu 9)) fun x2_2 =>
  nm ((nu 8)) fun x3_3 =>
  ob1 (fX4_isWithin x3_3 (0 : Int32) (15 : Int32)) fun r_4 =>
  (if r_4 = 0 then
  ob1 (fX3_write 4 68 qu x1_1 (0 : Int32) x2_2) fun qu_6 =>
  ob1 (fX3_write 4 68 qu_6 x1_1 (1 : Int32) x3_3) fun qu_8 =>
  ob1 (fX3_write 4 68 qu_8 x1_1 (2 : Int32) ((0 : Int32) &&& 255)) fun qu_10 =>
  ob1 (fX3_write 4 68 qu_10 x1_1 (3 : Int32) (0 : Int32)) fun qu_12 =>
  nm (upd nu 2 ((nu 2) + 1)) fun nu_14 =>
  some (nu_14, qu_12)
  else
  chk x3_3 16 fun j_15 =>
  ob1 (fX2_setting nu (7 : Int32)) fun r_16 =>
  nm (((va j_15) + (r_16 * x2_2))) fun x4_18 =>
  ob1 (fX3_write 4 68 qu x1_1 (0 : Int32) x2_2) fun qu_19 =>
  ob1 (fX3_write 4 68 qu_19 x1_1 (1 : Int32) x3_3) fun qu_21 =>
  ob1 (fX3_write 4 68 qu_21 x1_1 (2 : Int32) (x4_18 &&& 255)) fun qu_23 =>
  ob1 (fX3_write 4 68 qu_23 x1_1 (3 : Int32) (0 : Int32)) fun qu_25 =>
  nm (upd nu 2 ((nu 2) + 1)) fun nu_27 =>
  some (nu_27, qu_25))

def fX2_firstNotOut_2_b (rec : (Nat → Int32) → (Nat → Int32) → Int32 → Option (Int32)) (nu : Nat → Int32) (qu : Nat → Int32) (x1 : Int32) : Option (Int32) :=
  (if ((nu 2) - 1) ≤ x1 then
  some (x1)
  else
  ob1 (fX3_read 4 68 qu x1 (3 : Int32)) fun r_1 =>
  (if r_1 = 0 then
  some (x1)
  else
  nm (x1 + 1) fun x1_3 =>
  rec nu qu x1_3))
def fX2_firstNotOut_2 : Nat → (Nat → Int32) → (Nat → Int32) → Int32 → Option (Int32)
  | 0 => fun _ _ _ => none
  | n + 1 => fX2_firstNotOut_2_b (fX2_firstNotOut_2 n)

/-- the mirror of X2_firstNotOut -/
def fX2_firstNotOut (nu : Nat → Int32) (qu : Nat → Int32) : Option (Int32) :=
  fX2_firstNotOut_2 KF nu qu 0

/-- the mirror of X2_loseWaiting -/
def fX2_loseWaiting (nu : Nat → Int32) (qu : Nat → Int32) (lo : Nat → Int32) (x1 : Int32) (x2 : Int32) : Option ((Nat → Int32) × (Nat → Int32) × (Nat → Int32)) :=
  nm (((nu 4) - (nu 4) / 8 * 8)) fun x3_1 =>
  ob1 (fX3_read 4 68 qu x1 (0 : Int32)) fun r_2 =>
  ob1 (fX3_write 4 32 lo x3_1 (0 : Int32) r_2) fun lo_4 =>
  ob1 (fX3_read 4 68 qu x1 (1 : Int32)) fun r_6 =>
  ob1 (fX3_write 4 32 lo_4 x3_1 (1 : Int32) r_6) fun lo_8 =>
  ob1 (fX3_write 4 32 lo_8 x3_1 (2 : Int32) x2) fun lo_10 =>
  ob1 (fX3_write 4 32 lo_10 x3_1 (3 : Int32) (nu 0)) fun lo_12 =>
  nm (upd nu 4 ((nu 4) + 1)) fun nu_14 =>
  ob1 (fX3_removeRow 4 68 qu x1) fun qu_15 =>
  nm (upd nu_14 2 ((nu_14 2) - 1)) fun nu_17 =>
  some (nu_17, qu_15, lo_12)

def fX2_skipAll_9_b (rec : (Nat → Int32) → (Nat → Int32) → (Nat → Int32) → Int32 → Int32 → Option (Int32 × (Nat → Int32) × (Nat → Int32) × (Nat → Int32))) (nu : Nat → Int32) (qu : Nat → Int32) (lo : Nat → Int32) (x1 : Int32) (x2 : Int32) : Option (Int32 × (Nat → Int32) × (Nat → Int32) × (Nat → Int32)) :=
  (if x1 ≤ x2 then
  some (x1, nu, qu, lo)
  else
  ob3 (fX2_loseWaiting nu qu lo (0 : Int32) (2 : Int32)) fun nu_1 qu_2 lo_3 =>
  nm (x2 + 1) fun x2_5 =>
  rec nu_1 qu_2 lo_3 x1 x2_5)
def fX2_skipAll_9 : Nat → (Nat → Int32) → (Nat → Int32) → (Nat → Int32) → Int32 → Int32 → Option (Int32 × (Nat → Int32) × (Nat → Int32) × (Nat → Int32))
  | 0 => fun _ _ _ _ _ => none
  | n + 1 => fX2_skipAll_9_b (fX2_skipAll_9 n)

/-- the mirror of X2_skipAll -/
def fX2_skipAll (nu : Nat → Int32) (qu : Nat → Int32) (lo : Nat → Int32) : Option (Int32 × (Nat → Int32) × (Nat → Int32) × (Nat → Int32)) :=
  nm ((nu 2)) fun x1_1 =>
  fX2_skipAll_9 KF nu qu lo x1_1 0

def fX2_lineComes_115 (nu : Nat → Int32) (va : Nat → Int32) (qu : Nat → Int32) (lo : Nat → Int32) : Option ((Nat → Int32) × (Nat → Int32) × (Nat → Int32)) :=
  ob1 (fX2_setting nu (0 : Int32)) fun r_1 =>
  nm (upd nu 10 ((nu 10) + r_1)) fun nu_3 =>
  some (nu_3, qu, lo)

def fX2_lineComes_70 (nu : Nat → Int32) (va : Nat → Int32) (qu : Nat → Int32) (lo : Nat → Int32) : Option ((Nat → Int32) × (Nat → Int32) × (Nat → Int32)) :=
  nm (upd nu 8 ((nu 8) + 1)) fun nu_1 =>
  ob1 (fX2_setting nu_1 (3 : Int32)) fun r_2 =>
  (if (nu_1 8) < r_2 then
  fX2_lineComes_115 nu_1 va qu lo
  else
  nm (upd nu_1 8 0) fun nu_4 =>
  nm (upd nu_4 9 ((nu_4 9) + 1)) fun nu_5 =>
  fX2_lineComes_115 nu_5 va qu lo)

/-- the mirror of X2_lineComes -/
def fX2_lineComes (nu : Nat → Int32) (va : Nat → Int32) (qu : Nat → Int32) (lo : Nat → Int32) : Option ((Nat → Int32) × (Nat → Int32) × (Nat → Int32)) :=
  nm (upd nu 1 ((nu 1) + 1)) fun nu_1 =>
  ob2 (fX2_nextLineWaits nu_1 va qu) fun nu_2 qu_3 =>
  ob1 (fX2_setting nu_2 (2 : Int32)) fun r_5 =>
  (if (nu_2 2) ≤ r_5 then
  fX2_lineComes_70 nu_2 va qu_3 lo
  else
  nm (((nu_2 2) - 1)) fun x1_7 =>
  ob1 (fX2_setting nu_2 (4 : Int32)) fun r_8 =>
  (if r_8 = 1 then
  ob1 (fX2_firstNotOut nu_2 qu_3) fun r_18 =>
  (if r_18 = x1_7 then
  ob3 (fX2_loseWaiting nu_2 qu_3 lo r_18 (0 : Int32)) fun nu_24 qu_25 lo_26 =>
  fX2_lineComes_70 nu_24 va qu_25 lo_26
  else
  ob3 (fX2_loseWaiting nu_2 qu_3 lo r_18 (1 : Int32)) fun nu_20 qu_21 lo_22 =>
  fX2_lineComes_70 nu_20 va qu_21 lo_22)
  else
  (if x1_7 = x1_7 then
  ob3 (fX2_loseWaiting nu_2 qu_3 lo x1_7 (0 : Int32)) fun nu_14 qu_15 lo_16 =>
  fX2_lineComes_70 nu_14 va qu_15 lo_16
  else
  ob3 (fX2_loseWaiting nu_2 qu_3 lo x1_7 (1 : Int32)) fun nu_10 qu_11 lo_12 =>
  fX2_lineComes_70 nu_10 va qu_11 lo_12)))

def fX2_skipToPicture_9_b (rec : (Nat → Int32) → (Nat → Int32) → (Nat → Int32) → Int32 → Int32 → Option ((Nat → Int32) × (Nat → Int32) × (Nat → Int32))) (nu : Nat → Int32) (qu : Nat → Int32) (lo : Nat → Int32) (x1 : Int32) (x2 : Int32) : Option ((Nat → Int32) × (Nat → Int32) × (Nat → Int32)) :=
  (if x1 ≤ x2 then
  some (nu, qu, lo)
  else
  ob1 (fX3_read 4 68 qu (0 : Int32) (1 : Int32)) fun r_1 =>
  (if r_1 = 0 then
  ob1 (fX3_read 4 68 qu (0 : Int32) (3 : Int32)) fun r_8 =>
  (if r_8 = 0 then
  some (nu, qu, lo)
  else
  ob3 (fX2_loseWaiting nu qu lo (0 : Int32) (2 : Int32)) fun nu_10 qu_11 lo_12 =>
  nm (x2 + 1) fun x2_14 =>
  rec nu_10 qu_11 lo_12 x1 x2_14)
  else
  ob3 (fX2_loseWaiting nu qu lo (0 : Int32) (2 : Int32)) fun nu_3 qu_4 lo_5 =>
  nm (x2 + 1) fun x2_7 =>
  rec nu_3 qu_4 lo_5 x1 x2_7))
def fX2_skipToPicture_9 : Nat → (Nat → Int32) → (Nat → Int32) → (Nat → Int32) → Int32 → Int32 → Option ((Nat → Int32) × (Nat → Int32) × (Nat → Int32))
  | 0 => fun _ _ _ _ _ => none
  | n + 1 => fX2_skipToPicture_9_b (fX2_skipToPicture_9 n)

/-- the mirror of X2_skipToPicture -/
def fX2_skipToPicture (nu : Nat → Int32) (qu : Nat → Int32) (lo : Nat → Int32) : Option ((Nat → Int32) × (Nat → Int32) × (Nat → Int32)) :=
  nm ((nu 2)) fun x1_1 =>
  fX2_skipToPicture_9 KF nu qu lo x1_1 0

/-- the mirror of X2_showFirstWaiting -/
def fX2_showFirstWaiting (nu : Nat → Int32) (qu : Nat → Int32) (sc : Nat → Int32) (x1 : Int32) : Option ((Nat → Int32) × (Nat → Int32) × (Nat → Int32)) :=
  ob1 (fX3_read 4 68 qu (0 : Int32) (2 : Int32)) fun r_1 =>
  ob1 (fX3_write 3 96 sc x1 (0 : Int32) r_1) fun sc_3 =>
  ob1 (fX3_read 4 68 qu (0 : Int32) (0 : Int32)) fun r_5 =>
  ob1 (fX3_write 3 96 sc_3 x1 (1 : Int32) r_5) fun sc_7 =>
  ob1 (fX3_read 4 68 qu (0 : Int32) (1 : Int32)) fun r_9 =>
  ob1 (fX3_write 3 96 sc_7 x1 (2 : Int32) r_9) fun sc_11 =>
  ob1 (fX3_read 4 68 qu (0 : Int32) (3 : Int32)) fun r_13 =>
  (if r_13 = 0 then
  ob1 (fX3_write 4 68 qu (0 : Int32) (3 : Int32) (1 : Int32)) fun qu_19 =>
  some (nu, qu_19, sc_11)
  else
  ob1 (fX3_removeRow 4 68 qu (0 : Int32)) fun qu_15 =>
  nm (upd nu 2 ((nu 2) - 1)) fun nu_17 =>
  nm (upd nu_17 3 ((nu_17 3) + 1)) fun nu_18 =>
  some (nu_18, qu_15, sc_11))

/-- the mirror of X2_showColour -/
def fX2_showColour (nu : Nat → Int32) (sc : Nat → Int32) (x1 : Int32) : Option ((Nat → Int32) × (Nat → Int32)) :=
  ob1 (fX2_setting nu (6 : Int32)) fun r_1 =>
  ob1 (fX3_write 3 96 sc x1 (0 : Int32) r_1) fun sc_3 =>
  ob1 (fX3_write 3 96 sc_3 x1 (1 : Int32) (-6 : Int32)) fun sc_5 =>
  ob1 (fX3_write 3 96 sc_5 x1 (2 : Int32) (-6 : Int32)) fun sc_7 =>
  nm (upd nu 6 ((nu 6) + 1)) fun nu_9 =>
  some (nu_9, sc_7)

def fX2_judgeScreen_15_b (rec : (Nat → Int32) → Int32 → Int32 → Int32 → Int32 → Option (Int32)) (sc : Nat → Int32) (x1 : Int32) (x2 : Int32) (x3 : Int32) (x4 : Int32) : Option (Int32) :=
  (if x1 ≤ x4 then
  some (x3)
  else
  ob1 (fX3_read 3 96 sc x4 (1 : Int32)) fun r_1 =>
  (if r_1 = (-6) then
  some (2)
  else
  ob1 (fX3_read 3 96 sc x4 (1 : Int32)) fun r_3 =>
  (if r_3 = x2 then
  ob1 (fX3_read 3 96 sc x4 (2 : Int32)) fun r_6 =>
  (if r_6 = (x4 / 2) then
  nm (x4 + 1) fun x4_8 =>
  rec sc x1 x2 x3 x4_8
  else
  nm (x4 + 1) fun x4_9 =>
  rec sc x1 x2 1 x4_9)
  else
  nm (x4 + 1) fun x4_5 =>
  rec sc x1 x2 1 x4_5)))
def fX2_judgeScreen_15 : Nat → (Nat → Int32) → Int32 → Int32 → Int32 → Int32 → Option (Int32)
  | 0 => fun _ _ _ _ _ => none
  | n + 1 => fX2_judgeScreen_15_b (fX2_judgeScreen_15 n)

/-- the mirror of X2_judgeScreen -/
def fX2_judgeScreen (sc : Nat → Int32) (x1 : Int32) : Option (Int32) :=
  ob1 (fX3_read 3 96 sc (0 : Int32) (1 : Int32)) fun r_1 =>
  fX2_judgeScreen_15 KF sc x1 r_1 0 0

def fX2_rowGoesOut_118 (nu : Nat → Int32) (qu : Nat → Int32) (sc : Nat → Int32) (lo : Nat → Int32) : Option ((Nat → Int32) × (Nat → Int32) × (Nat → Int32) × (Nat → Int32)) :=
  ob1 (fX2_setting nu (1 : Int32)) fun r_1 =>
  nm (upd nu 11 ((nu 11) + r_1)) fun nu_3 =>
  some (nu_3, qu, sc, lo)

def fX2_rowGoesOut_52 (nu : Nat → Int32) (qu : Nat → Int32) (sc : Nat → Int32) (lo : Nat → Int32) (x1 : Int32) (x2 : Int32) : Option ((Nat → Int32) × (Nat → Int32) × (Nat → Int32) × (Nat → Int32)) :=
  nm (upd nu 5 ((nu 5) + 1)) fun nu_1 =>
  nm (upd nu_1 7 (x2 + 1)) fun nu_2 =>
  (if (nu_2 7) < x1 then
  fX2_rowGoesOut_118 nu_2 qu sc lo
  else
  nm (upd nu_2 7 0) fun nu_3 =>
  ob1 (fX2_judgeScreen sc x1) fun r_4 =>
  nm ((12 + r_4)) fun y_6 =>
  chk y_6 24 fun j_7 =>
  chk y_6 24 fun j_8 =>
  nm (upd nu_3 j_8 ((nu_3 j_7) + 1)) fun nu_9 =>
  nm (upd nu_9 15 r_4) fun nu_10 =>
  fX2_rowGoesOut_118 nu_10 qu sc lo)

def fX2_rowGoesOut_30 (nu : Nat → Int32) (qu : Nat → Int32) (sc : Nat → Int32) (lo : Nat → Int32) (x1 : Int32) (x2 : Int32) : Option ((Nat → Int32) × (Nat → Int32) × (Nat → Int32) × (Nat → Int32)) :=
  (if (nu 2) ≤ 0 then
  ob2 (fX2_showColour nu sc x2) fun nu_1 sc_2 =>
  fX2_rowGoesOut_52 nu_1 qu sc_2 lo x1 x2
  else
  ob3 (fX2_showFirstWaiting nu qu sc x2) fun nu_4 qu_5 sc_6 =>
  fX2_rowGoesOut_52 nu_4 qu_5 sc_6 lo x1 x2)

/-- the mirror of X2_rowGoesOut -/
def fX2_rowGoesOut (nu : Nat → Int32) (qu : Nat → Int32) (sc : Nat → Int32) (lo : Nat → Int32) : Option ((Nat → Int32) × (Nat → Int32) × (Nat → Int32) × (Nat → Int32)) :=
  ob1 (fX2_rowsOfScreen nu) fun r_1 =>
  nm ((nu 7)) fun x2_3 =>
  (if x2_3 = 0 then
  ob1 (fX2_setting nu (5 : Int32)) fun r_4 =>
  (if r_4 = 1 then
  ob3 (fX2_skipToPicture nu qu lo) fun nu_6 qu_7 lo_8 =>
  fX2_rowGoesOut_30 nu_6 qu_7 sc lo_8 r_1 x2_3
  else
  fX2_rowGoesOut_30 nu qu sc lo r_1 x2_3)
  else
  fX2_rowGoesOut_30 nu qu sc lo r_1 x2_3)

def fX2_passTicks_31_b (rec : (Nat → Int32) → (Nat → Int32) → (Nat → Int32) → (Nat → Int32) → (Nat → Int32) → Int32 → Int32 → Int32 → Option (Int32 × (Nat → Int32) × (Nat → Int32) × (Nat → Int32) × (Nat → Int32) × Int32)) (nu : Nat → Int32) (va : Nat → Int32) (qu : Nat → Int32) (sc : Nat → Int32) (lo : Nat → Int32) (wt : Int32) (x1 : Int32) (x3 : Int32) : Option (Int32 × (Nat → Int32) × (Nat → Int32) × (Nat → Int32) × (Nat → Int32) × Int32) :=
  (if x1 ≤ x3 then
  some ((nu 0), nu, qu, sc, lo, wt)
  else
  (if (nu 0) = (nu 10) then
  ob3 (fX2_lineComes nu va qu lo) fun nu_16 qu_17 lo_18 =>
  (if (nu_16 0) = (nu_16 11) then
  ob4 (fX2_rowGoesOut nu_16 qu_17 sc lo_18) fun nu_25 qu_26 sc_27 lo_28 =>
  nm (((if (nu_25 11) < (nu_25 10) then (nu_25 11) else (nu_25 10)) - (nu_25 0))) fun x4_30 =>
  nm ((if 1 < (if (x1 - x3) < x4_30 then (x1 - x3) else x4_30) then (if (x1 - x3) < x4_30 then (x1 - x3) else x4_30) else 1)) fun x5_31 =>
  nm ((wt + (x5_31 * (nu_25 2)))) fun wt_32 =>
  nm (upd nu_25 0 ((nu_25 0) + x5_31)) fun nu_33 =>
  nm ((x3 + x5_31)) fun x3_34 =>
  rec nu_33 va qu_26 sc_27 lo_28 wt_32 x1 x3_34
  else
  nm (((if (nu_16 11) < (nu_16 10) then (nu_16 11) else (nu_16 10)) - (nu_16 0))) fun x4_20 =>
  nm ((if 1 < (if (x1 - x3) < x4_20 then (x1 - x3) else x4_20) then (if (x1 - x3) < x4_20 then (x1 - x3) else x4_20) else 1)) fun x5_21 =>
  nm ((wt + (x5_21 * (nu_16 2)))) fun wt_22 =>
  nm (upd nu_16 0 ((nu_16 0) + x5_21)) fun nu_23 =>
  nm ((x3 + x5_21)) fun x3_24 =>
  rec nu_23 va qu_17 sc lo_18 wt_22 x1 x3_24)
  else
  (if (nu 0) = (nu 11) then
  ob4 (fX2_rowGoesOut nu qu sc lo) fun nu_6 qu_7 sc_8 lo_9 =>
  nm (((if (nu_6 11) < (nu_6 10) then (nu_6 11) else (nu_6 10)) - (nu_6 0))) fun x4_11 =>
  nm ((if 1 < (if (x1 - x3) < x4_11 then (x1 - x3) else x4_11) then (if (x1 - x3) < x4_11 then (x1 - x3) else x4_11) else 1)) fun x5_12 =>
  nm ((wt + (x5_12 * (nu_6 2)))) fun wt_13 =>
  nm (upd nu_6 0 ((nu_6 0) + x5_12)) fun nu_14 =>
  nm ((x3 + x5_12)) fun x3_15 =>
  rec nu_14 va qu_7 sc_8 lo_9 wt_13 x1 x3_15
  else
  nm (((if (nu 11) < (nu 10) then (nu 11) else (nu 10)) - (nu 0))) fun x4_1 =>
  nm ((if 1 < (if (x1 - x3) < x4_1 then (x1 - x3) else x4_1) then (if (x1 - x3) < x4_1 then (x1 - x3) else x4_1) else 1)) fun x5_2 =>
  nm ((wt + (x5_2 * (nu 2)))) fun wt_3 =>
  nm (upd nu 0 ((nu 0) + x5_2)) fun nu_4 =>
  nm ((x3 + x5_2)) fun x3_5 =>
  rec nu_4 va qu sc lo wt_3 x1 x3_5)))
def fX2_passTicks_31 : Nat → (Nat → Int32) → (Nat → Int32) → (Nat → Int32) → (Nat → Int32) → (Nat → Int32) → Int32 → Int32 → Int32 → Option (Int32 × (Nat → Int32) × (Nat → Int32) × (Nat → Int32) × (Nat → Int32) × Int32)
  | 0 => fun _ _ _ _ _ _ _ _ => none
  | n + 1 => fX2_passTicks_31_b (fX2_passTicks_31 n)

/-- the mirror of X2_passTicks -/
def fX2_passTicks (nu : Nat → Int32) (va : Nat → Int32) (qu : Nat → Int32) (sc : Nat → Int32) (lo : Nat → Int32) (wt : Int32) (x1 : Int32) (x2 : Int32) : Option (Int32 × (Nat → Int32) × (Nat → Int32) × (Nat → Int32) × (Nat → Int32) × Int32) :=
  ob1 (fX4_isWithin x1 (1 : Int32) (999 : Int32)) fun r_1 =>
  (if r_1 = 0 then
  some ((-2), nu, qu, sc, lo, wt)
  else
  (if (nu 0) ≤ (x2 - x1) then
  fX2_passTicks_31 KF nu va qu sc lo wt x1 0
  else
  some ((-4), nu, qu, sc, lo, wt)))

def rm_X2_copyFrom : Room := { frames := 2, cells := 0, slots := 0, locals := 39 }
set_option maxRecDepth 20000 in
theorem lk_X2_copyFrom_9 : Cond.fieldLink RX2 9 "LineDoubler$State" "numbers" "[I" ∈ wsX2_copyFrom := List.mem_of_getElem? (i := 1) (by decide +kernel)
set_option maxRecDepth 20000 in
theorem lm_X2_copyFrom_36 : Cond.methodLink RX2 36 arraycopyName ∈ wsX2_copyFrom := List.mem_of_getElem? (i := 2) (by decide +kernel)
set_option maxRecDepth 20000 in
theorem ln_X2_copyFrom_ac : Cond.native arraycopyName ∈ wsX2_copyFrom := List.mem_of_getElem? (i := 3) (by decide +kernel)
set_option maxRecDepth 20000 in
theorem ls_X2_copyFrom_ac : Cond.static arraycopyName ∈ wsX2_copyFrom := List.mem_of_getElem? (i := 4) (by decide +kernel)
set_option maxRecDepth 20000 in
theorem li_X2_copyFrom_System : Cond.initialized "java/lang/System" ∈ wsX2_copyFrom := List.mem_of_getElem? (i := 5) (by decide +kernel)
set_option maxRecDepth 20000 in
theorem lk_X2_copyFrom_15 : Cond.fieldLink RX2 15 "LineDoubler$State" "values" "[I" ∈ wsX2_copyFrom := List.mem_of_getElem? (i := 6) (by decide +kernel)
set_option maxRecDepth 20000 in
theorem lk_X2_copyFrom_23 : Cond.fieldLink RX2 23 "LineDoubler$State" "queue" "LLineDoubler$Table;" ∈ wsX2_copyFrom := List.mem_of_getElem? (i := 7) (by decide +kernel)
set_option maxRecDepth 20000 in
theorem lk_X2_copyFrom_27 : Cond.fieldLink RX2 27 "LineDoubler$State" "screen" "LLineDoubler$Table;" ∈ wsX2_copyFrom := List.mem_of_getElem? (i := 8) (by decide +kernel)
set_option maxRecDepth 20000 in
theorem lk_X2_copyFrom_30 : Cond.fieldLink RX2 30 "LineDoubler$State" "lost" "LLineDoubler$Table;" ∈ wsX2_copyFrom := List.mem_of_getElem? (i := 9) (by decide +kernel)
set_option maxRecDepth 20000 in
theorem lk_X2_copyFrom_46 : Cond.fieldLink RX2 46 "LineDoubler$State" "waitedSum" "I" ∈ wsX2_copyFrom := List.mem_of_getElem? (i := 10) (by decide +kernel)
set_option maxRecDepth 20000 in
theorem in_X2_copyFrom_X2 : ∀ x ∈ wsX20, x ∈ wsX2_copyFrom := mem_r _ [22, 23, 24, 25, 26, 27] (by decide +kernel)
set_option maxRecDepth 20000 in
theorem cw_X2_copyFrom_X3_copyFrom_42 {s : State} {args : Array Value} (hts : ∀ w ∈ wsX2_copyFrom, w.before args s = true) : CallW rm_X2_copyFrom s args RX2 RX3 42 yX3_copyFrom cX3_copyFrom 2 none wsX3_copyFrom rm_X3_copyFrom 0 0 1 :=
  cwV 1 hts gX2_copyFrom_X3_copyFrom rfl rfl rfl (by decide +kernel) ⟨Nat.le_of_ble_eq_true rfl, Nat.le_of_ble_eq_true rfl⟩
set_option maxHeartbeats 4000000 in
set_option maxRecDepth 100000 in
theorem c_X2_copyFrom (l : Launch) (G : va_G) (cI cC cZ : ClassId) (X : List (ClassId × FieldType)) (a0 a1 a2 a3 a4 a5 a6 a7 a8 o0 o1 o2 o3 o4 o5 o6 o7 o8 : Nat) (nu : Nat → Int32) (va : Nat → Int32) (qu : Nat → Int32) (sc : Nat → Int32) (lo : Nat → Int32) (wt : Int32) (onu : Nat → Int32) (ova : Nat → Int32) (oqu : Nat → Int32) (osc : Nat → Int32) (olo : Nat → Int32) (owt : Int32) (nu' : Nat → Int32) (va' : Nat → Int32) (qu' : Nat → Int32) (sc' : Nat → Int32) (lo' : Nat → Int32) (wt' : Int32) (hf : fX2_copyFrom nu va qu sc lo wt onu ova oqu osc olo owt = some (nu', va', qu', sc', lo', wt')) : CT l yX2_copyFrom wsX2_copyFrom rm_X2_copyFrom G (TY cI cC cZ X) [.ref a0, .ref o0] (wSt2 cI a0 a1 a2 a3 a4 a5 a6 a7 a8 o0 o1 o2 o3 o4 o5 o6 o7 o8 nu va qu sc lo wt onu ova oqu osc olo owt) none (wSt2 cI a0 a1 a2 a3 a4 a5 a6 a7 a8 o0 o1 o2 o3 o4 o5 o6 o7 o8 nu' va' qu' sc' lo' wt' onu ova oqu osc olo owt) := by
  refine CT.of (cc := cX2_copyFrom) (maxL := 2) (ret := none) RX2 rfl (by decide) rfl (Nat.le_of_ble_eq_true rfl) ?_
  intro p e s m args below meth c A ls C hr hlocks hnm h hl
  have hx := C.hx
  have hb := C.hb
  have hl : lv_has ls 2 [(0, .ref a0), (1, .ref o0)] := hl
  unfold fX2_copyFrom at hf
  refine lv_aload_n hx hb dX2_copyFrom_0 rfl (lv_at hl 1 rfl) ?_
  refine r_get C h 9 0 (ci := 2) (N := 6) (Cn := RX2) (T := TX2) rfl rfl (by decide) in_X2_copyFrom_X2 lk_X2_copyFrom_9 rfl dX2_copyFrom_1 ?_
  refine lv_iconst (v := 0) hx hb dX2_copyFrom_4 (by decide) ?_
  refine lv_aload_n hx hb dX2_copyFrom_5 rfl (lv_at hl 0 rfl) ?_
  refine r_get C h 0 0 (ci := 2) (N := 6) (Cn := RX2) (T := TX2) rfl rfl (by decide) in_X2_copyFrom_X2 lk_X2_copyFrom_9 rfl dX2_copyFrom_6 ?_
  refine lv_iconst (v := 0) hx hb dX2_copyFrom_9 (by decide) ?_
  refine lv_bipush (v := 24) hx hb dX2_copyFrom_10 (by decide) ?_
  obtain ⟨hk_2, hf⟩ := nd_use hf
  refine r_copy C h hl.1 10 1 rfl rfl rfl hk_2 lm_X2_copyFrom_36 ln_X2_copyFrom_ac ls_X2_copyFrom_ac li_X2_copyFrom_System (Nat.le_of_ble_eq_true rfl) (by decide) (fun z__ => (wSt2 cI a0 a1 a2 a3 a4 a5 a6 a7 a8 o0 o1 o2 o3 o4 o5 o6 o7 o8 z__ va qu sc lo wt onu ova oqu osc olo owt)) (fun _ => rfl) dX2_copyFrom_12 (fun nu_1 enu_1 H locs h => ?_)
  replace hf := nm_use hf enu_1
  refine lv_aload_n hx hb dX2_copyFrom_15 rfl (lv_at hl 1 rfl) ?_
  refine r_get C h 9 1 (ci := 2) (N := 6) (Cn := RX2) (T := TX2) rfl rfl (by decide) in_X2_copyFrom_X2 lk_X2_copyFrom_15 rfl dX2_copyFrom_16 ?_
  refine lv_iconst (v := 0) hx hb dX2_copyFrom_19 (by decide) ?_
  refine lv_aload_n hx hb dX2_copyFrom_20 rfl (lv_at hl 0 rfl) ?_
  refine r_get C h 0 1 (ci := 2) (N := 6) (Cn := RX2) (T := TX2) rfl rfl (by decide) in_X2_copyFrom_X2 lk_X2_copyFrom_15 rfl dX2_copyFrom_21 ?_
  refine lv_iconst (v := 0) hx hb dX2_copyFrom_24 (by decide) ?_
  refine lv_bipush (v := 16) hx hb dX2_copyFrom_25 (by decide) ?_
  obtain ⟨hk_4, hf⟩ := nd_use hf
  refine r_copy C h hl.1 11 2 rfl rfl rfl hk_4 lm_X2_copyFrom_36 ln_X2_copyFrom_ac ls_X2_copyFrom_ac li_X2_copyFrom_System (Nat.le_of_ble_eq_true rfl) (by decide) (fun z__ => (wSt2 cI a0 a1 a2 a3 a4 a5 a6 a7 a8 o0 o1 o2 o3 o4 o5 o6 o7 o8 nu_1 z__ qu sc lo wt onu ova oqu osc olo owt)) (fun _ => rfl) dX2_copyFrom_27 (fun va_3 eva_3 H locs h => ?_)
  replace hf := nm_use hf eva_3
  refine lv_aload_n hx hb dX2_copyFrom_30 rfl (lv_at hl 0 rfl) ?_
  refine r_get C h 0 2 (ci := 2) (N := 6) (Cn := RX2) (T := TX2) rfl rfl (by decide) in_X2_copyFrom_X2 lk_X2_copyFrom_23 rfl dX2_copyFrom_31 ?_
  refine lv_aload_n hx hb dX2_copyFrom_34 rfl (lv_at hl 1 rfl) ?_
  refine r_get C h 9 2 (ci := 2) (N := 6) (Cn := RX2) (T := TX2) rfl rfl (by decide) in_X2_copyFrom_X2 lk_X2_copyFrom_23 rfl dX2_copyFrom_35 ?_
  obtain ⟨qu_5, hq_6, hf⟩ := ob1_use hf
  refine r_callV C h (cw_X2_copyFrom_X3_copyFrom_42 C.hts) (rest := []) (ci := 3) (N := 2) (Cn := RX3) (T := TX3) (c_X3_copyFrom l G cI cC cZ X a3 a4 o3 o4 4 68 qu 4 68 oqu qu_5 hq_6) [3, 4, 12, 13] rfl rfl rfl rfl 3 rfl rfl hl.1 rfl (Nat.le_of_ble_eq_true rfl) ⟨Nat.le_of_ble_eq_true rfl, Nat.le_of_ble_eq_true rfl⟩ (wSt2 cI a0 a1 a2 a3 a4 a5 a6 a7 a8 o0 o1 o2 o3 o4 o5 o6 o7 o8 nu_1 va_3 qu_5 sc lo wt onu ova oqu osc olo owt) rfl rfl dX2_copyFrom_38 (fun H locs h => ?_)
  refine lv_aload_n hx hb dX2_copyFrom_41 rfl (lv_at hl 0 rfl) ?_
  refine r_get C h 0 3 (ci := 2) (N := 6) (Cn := RX2) (T := TX2) rfl rfl (by decide) in_X2_copyFrom_X2 lk_X2_copyFrom_27 rfl dX2_copyFrom_42 ?_
  refine lv_aload_n hx hb dX2_copyFrom_45 rfl (lv_at hl 1 rfl) ?_
  refine r_get C h 9 3 (ci := 2) (N := 6) (Cn := RX2) (T := TX2) rfl rfl (by decide) in_X2_copyFrom_X2 lk_X2_copyFrom_27 rfl dX2_copyFrom_46 ?_
  obtain ⟨sc_7, hq_8, hf⟩ := ob1_use hf
  refine r_callV C h (cw_X2_copyFrom_X3_copyFrom_42 C.hts) (rest := []) (ci := 3) (N := 2) (Cn := RX3) (T := TX3) (c_X3_copyFrom l G cI cC cZ X a5 a6 o5 o6 3 96 sc 3 96 osc sc_7 hq_8) [5, 6, 14, 15] rfl rfl rfl rfl 5 rfl rfl hl.1 rfl (Nat.le_of_ble_eq_true rfl) ⟨Nat.le_of_ble_eq_true rfl, Nat.le_of_ble_eq_true rfl⟩ (wSt2 cI a0 a1 a2 a3 a4 a5 a6 a7 a8 o0 o1 o2 o3 o4 o5 o6 o7 o8 nu_1 va_3 qu_5 sc_7 lo wt onu ova oqu osc olo owt) rfl rfl dX2_copyFrom_49 (fun H locs h => ?_)
  refine lv_aload_n hx hb dX2_copyFrom_52 rfl (lv_at hl 0 rfl) ?_
  refine r_get C h 0 4 (ci := 2) (N := 6) (Cn := RX2) (T := TX2) rfl rfl (by decide) in_X2_copyFrom_X2 lk_X2_copyFrom_30 rfl dX2_copyFrom_53 ?_
  refine lv_aload_n hx hb dX2_copyFrom_56 rfl (lv_at hl 1 rfl) ?_
  refine r_get C h 9 4 (ci := 2) (N := 6) (Cn := RX2) (T := TX2) rfl rfl (by decide) in_X2_copyFrom_X2 lk_X2_copyFrom_30 rfl dX2_copyFrom_57 ?_
  obtain ⟨lo_9, hq_10, hf⟩ := ob1_use hf
  refine r_callV C h (cw_X2_copyFrom_X3_copyFrom_42 C.hts) (rest := []) (ci := 3) (N := 2) (Cn := RX3) (T := TX3) (c_X3_copyFrom l G cI cC cZ X a7 a8 o7 o8 4 32 lo 4 32 olo lo_9 hq_10) [7, 8, 16, 17] rfl rfl rfl rfl 7 rfl rfl hl.1 rfl (Nat.le_of_ble_eq_true rfl) ⟨Nat.le_of_ble_eq_true rfl, Nat.le_of_ble_eq_true rfl⟩ (wSt2 cI a0 a1 a2 a3 a4 a5 a6 a7 a8 o0 o1 o2 o3 o4 o5 o6 o7 o8 nu_1 va_3 qu_5 sc_7 lo_9 wt onu ova oqu osc olo owt) rfl rfl dX2_copyFrom_60 (fun H locs h => ?_)
  refine lv_aload_n hx hb dX2_copyFrom_63 rfl (lv_at hl 0 rfl) ?_
  refine lv_aload_n hx hb dX2_copyFrom_64 rfl (lv_at hl 1 rfl) ?_
  refine r_get C h 9 5 (ci := 2) (N := 6) (Cn := RX2) (T := TX2) rfl rfl (by decide) in_X2_copyFrom_X2 lk_X2_copyFrom_46 rfl dX2_copyFrom_65 ?_
  refine r_put C h 0 5 (ci := 2) (N := 6) (Cn := RX2) (T := TX2) (ty0 := tyX2) rfl rfl (by decide) in_X2_copyFrom_X2 tyX2_ok nmX2 lk_X2_copyFrom_46 rfl rfl rfl (Nat.le_of_ble_eq_true rfl) (wSt2 cI a0 a1 a2 a3 a4 a5 a6 a7 a8 o0 o1 o2 o3 o4 o5 o6 o7 o8 nu_1 va_3 qu_5 sc_7 lo_9 owt onu ova oqu osc olo owt) rfl dX2_copyFrom_68 (fun H locs h => ?_)
  cases hf
  exact r_vret C h hr hlocks dX2_copyFrom_71
def rm_X2_setting : Room := { frames := 1, cells := 0, slots := 0, locals := 22 }
set_option maxRecDepth 20000 in
theorem lk_X2_setting_9 : Cond.fieldLink RX2 9 "LineDoubler$State" "numbers" "[I" ∈ wsX2_setting := List.mem_of_getElem? (i := 1) (by decide +kernel)
set_option maxRecDepth 20000 in
theorem in_X2_setting_X2 : ∀ x ∈ wsX20, x ∈ wsX2_setting := mem_r _ [5, 6, 7, 8, 9, 10] (by decide +kernel)
set_option maxRecDepth 20000 in
theorem cw_X2_setting_X4_isWithin_50 {s : State} {args : Array Value} (hts : ∀ w ∈ wsX2_setting, w.before args s = true) (hnw : NW s) : va_CN rm_X2_setting s args RX2 50 yX4_isWithin "LineDoubler" cX4_isWithin 3 (some .boolean) wsX4_isWithin rm_X4_isWithin 0 0 3 ∧ (Cond.static yX4_isWithin).before args s = true ∧ True :=
  ⟨va_cnB 3 hts gX2_setting_X4_isWithin_n50 rfl rfl rfl (hnw.2.1 _ lkM_2_50) (hts _ (List.mem_of_getElem? (i := 3) (by decide +kernel))) (by decide +kernel) ⟨Nat.le_of_ble_eq_true rfl, Nat.le_of_ble_eq_true rfl⟩, hts _ (List.mem_of_getElem? (i := 2) (by decide +kernel)), trivial⟩
set_option maxHeartbeats 4000000 in
set_option maxRecDepth 100000 in
theorem c_X2_setting (l : Launch) (G : va_G) (cI cC cZ : ClassId) (X : List (ClassId × FieldType)) (a0 a1 a2 a3 a4 a5 a6 a7 a8 : Nat) (nu : Nat → Int32) (va : Nat → Int32) (qu : Nat → Int32) (sc : Nat → Int32) (lo : Nat → Int32) (wt : Int32) (x1 : Int32) (rv : Int32) (hf : fX2_setting nu x1 = some (rv)) : CT l yX2_setting wsX2_setting rm_X2_setting G (TY cI cC cZ X) [.ref a0, .int x1] (wSt cI a0 a1 a2 a3 a4 a5 a6 a7 a8 nu va qu sc lo wt) (some (.int rv)) (wSt cI a0 a1 a2 a3 a4 a5 a6 a7 a8 nu va qu sc lo wt) := by
  refine CT.of (cc := cX2_setting) (maxL := 2) (ret := (some .int)) RX2 rfl (by decide) rfl (Nat.le_of_ble_eq_true rfl) ?_
  intro p e s m args below meth c A ls C hr hlocks hnm h hl
  have hx := C.hx
  have hb := C.hb
  have hl : lv_has ls 2 [(0, .ref a0), (1, .int x1)] := hl
  unfold fX2_setting at hf
  refine lv_iload_n hx hb dX2_setting_0 rfl (lv_at hl 1 rfl) ?_
  refine lv_iconst (v := 0) hx hb dX2_setting_1 (by decide) ?_
  refine lv_bipush (v := 7) hx hb dX2_setting_2 (by decide) ?_
  obtain ⟨r_1, hq_2, hf⟩ := ob1_use hf
  refine r_callSN C h (cw_X2_setting_X4_isWithin_50 C.hts C.nw) (rest := []) (c_X4_isWithin l G cI cC cZ X x1 (0 : Int32) (7 : Int32) r_1 hq_2) [] rfl rfl rfl rfl hl.1 rfl (Nat.le_of_ble_eq_true rfl) ⟨Nat.le_of_ble_eq_true rfl, Nat.le_of_ble_eq_true rfl⟩ (wSt cI a0 a1 a2 a3 a4 a5 a6 a7 a8 nu va qu sc lo wt) rfl rfl dX2_setting_4 (fun H locs h => ?_)
  refine lv_if_eq (tgt := 22) hx hb dX2_setting_7 (by decide) (fun hc => ?_) (fun hc => ?_)
  · replace hf := it_t hf hc
    refine lv_iconst (v := 0) hx hb dX2_setting_22 (by decide) ?_
    cases hf
    exact r_iret C h hr hlocks dX2_setting_23
  · replace hf := it_f hf hc
    refine lv_aload_n hx hb dX2_setting_10 rfl (lv_at hl 0 rfl) ?_
    refine r_get C h 0 0 (ci := 2) (N := 6) (Cn := RX2) (T := TX2) rfl rfl (by decide) in_X2_setting_X2 lk_X2_setting_9 rfl dX2_setting_11 ?_
    refine lv_bipush (v := 16) hx hb dX2_setting_14 (by decide) ?_
    refine lv_iload_n hx hb dX2_setting_16 rfl (lv_at hl 1 rfl) ?_
    refine lv_iadd hx hb dX2_setting_17 ?_
    obtain ⟨j_3, hj_3, hf⟩ := chk_use hf
    refine r_ald C h 1 rfl rfl hj_3 dX2_setting_18 ?_
    refine lv_goto (tgt := 23) hx hb dX2_setting_19 (by decide) ?_
    cases hf
    exact r_iret C h hr hlocks dX2_setting_23
def rm_X2_rowsOfScreen : Room := { frames := 2, cells := 0, slots := 0, locals := 43 }
set_option maxRecDepth 20000 in
theorem cw_X2_rowsOfScreen_X2_setting_54 {s : State} {args : Array Value} (hts : ∀ w ∈ wsX2_rowsOfScreen, w.before args s = true) : CallW rm_X2_rowsOfScreen s args RX2 RX2 54 yX2_setting cX2_setting 2 (some .int) wsX2_setting rm_X2_setting 0 0 1 :=
  cwV 1 hts gX2_rowsOfScreen_X2_setting rfl rfl rfl (by decide +kernel) ⟨Nat.le_of_ble_eq_true rfl, Nat.le_of_ble_eq_true rfl⟩
set_option maxHeartbeats 4000000 in
set_option maxRecDepth 100000 in
theorem c_X2_rowsOfScreen (l : Launch) (G : va_G) (cI cC cZ : ClassId) (X : List (ClassId × FieldType)) (a0 a1 a2 a3 a4 a5 a6 a7 a8 : Nat) (nu : Nat → Int32) (va : Nat → Int32) (qu : Nat → Int32) (sc : Nat → Int32) (lo : Nat → Int32) (wt : Int32) (rv : Int32) (hf : fX2_rowsOfScreen nu = some (rv)) : CT l yX2_rowsOfScreen wsX2_rowsOfScreen rm_X2_rowsOfScreen G (TY cI cC cZ X) [.ref a0] (wSt cI a0 a1 a2 a3 a4 a5 a6 a7 a8 nu va qu sc lo wt) (some (.int rv)) (wSt cI a0 a1 a2 a3 a4 a5 a6 a7 a8 nu va qu sc lo wt) := by
  refine CT.of (cc := cX2_rowsOfScreen) (maxL := 1) (ret := (some .int)) RX2 rfl (by decide) rfl (Nat.le_of_ble_eq_true rfl) ?_
  intro p e s m args below meth c A ls C hr hlocks hnm h hl
  have hx := C.hx
  have hb := C.hb
  have hl : lv_has ls 1 [(0, .ref a0)] := hl
  unfold fX2_rowsOfScreen at hf
  refine lv_iconst (v := 2) hx hb dX2_rowsOfScreen_0 (by decide) ?_
  refine lv_aload_n hx hb dX2_rowsOfScreen_1 rfl (lv_at hl 0 rfl) ?_
  refine lv_iconst (v := 3) hx hb dX2_rowsOfScreen_2 (by decide) ?_
  obtain ⟨r_1, hq_2, hf⟩ := ob1_use hf
  refine r_callV C h (cw_X2_rowsOfScreen_X2_setting_54 C.hts) (rest := [.int 2]) (ci := 2) (N := 6) (Cn := RX2) (T := TX2) (c_X2_setting l G cI cC cZ X a0 a1 a2 a3 a4 a5 a6 a7 a8 nu va qu sc lo wt (3 : Int32) r_1 hq_2) [0, 1, 2, 3, 4, 5, 6, 7, 8] rfl rfl rfl rfl 0 rfl rfl hl.1 rfl (Nat.le_of_ble_eq_true rfl) ⟨Nat.le_of_ble_eq_true rfl, Nat.le_of_ble_eq_true rfl⟩ (wSt cI a0 a1 a2 a3 a4 a5 a6 a7 a8 nu va qu sc lo wt) rfl rfl dX2_rowsOfScreen_3 (fun H locs h => ?_)
  refine lv_imul hx hb dX2_rowsOfScreen_6 ?_
  cases hf
  exact r_iret C h hr hlocks dX2_rowsOfScreen_7
def rm_X2_changeSetting : Room := { frames := 1, cells := 0, slots := 0, locals := 22 }
set_option maxRecDepth 20000 in
theorem lk_X2_changeSetting_9 : Cond.fieldLink RX2 9 "LineDoubler$State" "numbers" "[I" ∈ wsX2_changeSetting := List.mem_of_getElem? (i := 1) (by decide +kernel)
set_option maxRecDepth 20000 in
theorem in_X2_changeSetting_X2 : ∀ x ∈ wsX20, x ∈ wsX2_changeSetting := mem_r _ [5, 6, 7, 8, 9, 10] (by decide +kernel)
set_option maxRecDepth 20000 in
theorem cw_X2_changeSetting_X4_isWithin_50 {s : State} {args : Array Value} (hts : ∀ w ∈ wsX2_changeSetting, w.before args s = true) (hnw : NW s) : va_CN rm_X2_changeSetting s args RX2 50 yX4_isWithin "LineDoubler" cX4_isWithin 3 (some .boolean) wsX4_isWithin rm_X4_isWithin 0 0 3 ∧ (Cond.static yX4_isWithin).before args s = true ∧ True :=
  ⟨va_cnB 3 hts gX2_changeSetting_X4_isWithin_n50 rfl rfl rfl (hnw.2.1 _ lkM_2_50) (hts _ (List.mem_of_getElem? (i := 3) (by decide +kernel))) (by decide +kernel) ⟨Nat.le_of_ble_eq_true rfl, Nat.le_of_ble_eq_true rfl⟩, hts _ (List.mem_of_getElem? (i := 2) (by decide +kernel)), trivial⟩
set_option maxHeartbeats 4000000 in
set_option maxRecDepth 100000 in
theorem c_X2_changeSetting (l : Launch) (G : va_G) (cI cC cZ : ClassId) (X : List (ClassId × FieldType)) (a0 a1 a2 a3 a4 a5 a6 a7 a8 : Nat) (nu : Nat → Int32) (va : Nat → Int32) (qu : Nat → Int32) (sc : Nat → Int32) (lo : Nat → Int32) (wt : Int32) (x1 : Int32) (x2 : Int32) (rv : Int32) (nu' : Nat → Int32) (hf : fX2_changeSetting nu x1 x2 = some (rv, nu')) : CT l yX2_changeSetting wsX2_changeSetting rm_X2_changeSetting G (TY cI cC cZ X) [.ref a0, .int x1, .int x2] (wSt cI a0 a1 a2 a3 a4 a5 a6 a7 a8 nu va qu sc lo wt) (some (.int rv)) (wSt cI a0 a1 a2 a3 a4 a5 a6 a7 a8 nu' va qu sc lo wt) := by
  refine CT.of (cc := cX2_changeSetting) (maxL := 4) (ret := (some .int)) RX2 rfl (by decide) rfl (Nat.le_of_ble_eq_true rfl) ?_
  intro p e s m args below meth c A ls C hr hlocks hnm h hl
  have hx := C.hx
  have hb := C.hb
  have hl : lv_has ls 4 [(0, .ref a0), (1, .int x1), (2, .int x2)] := hl
  obtain ⟨⟨tF, hZF, hTF⟩, ⟨tL, hZL, hTL⟩, ⟨tM, hZM, hTM⟩⟩ := C.sf
  have cut_62 : ∀ (nu : Nat → Int32) (x1 : Int32) (x2 : Int32) (H : Heap) (locs : List Loc) (ls : Array Slot), Hx s G A (wSt cI a0 a1 a2 a3 a4 a5 a6 a7 a8 nu va qu sc lo wt) H locs → lv_has ls 4 [(0, .ref a0), (1, .int x1), (2, .int x2)] → fX2_changeSetting_62 nu x1 x2 = some (rv, nu') → W p l e rm_X2_changeSetting s m args below meth c H locs 0 0 (MQ below (Qx G (some (.int rv)) (wSt cI a0 a1 a2 a3 a4 a5 a6 a7 a8 nu' va qu sc lo wt) A) args s 0 0 A) (F0 m 62 ls []) := by
    intro nu x1 x2 H locs ls h hl hf
    unfold fX2_changeSetting_62 at hf
    refine lv_aload_n hx hb dX2_changeSetting_62 rfl (lv_at hl 0 rfl) ?_
    refine r_get C h 0 0 (ci := 2) (N := 6) (Cn := RX2) (T := TX2) rfl rfl (by decide) in_X2_changeSetting_X2 lk_X2_changeSetting_9 rfl dX2_changeSetting_63 ?_
    refine lv_bipush (v := 16) hx hb dX2_changeSetting_66 (by decide) ?_
    refine lv_iload_n hx hb dX2_changeSetting_68 rfl (lv_at hl 1 rfl) ?_
    refine lv_iadd hx hb dX2_changeSetting_69 ?_
    obtain ⟨j_1, hj_1, hf⟩ := chk_use hf
    refine r_ald C h 1 rfl rfl hj_1 dX2_changeSetting_70 ?_
    refine lv_topi (fun x3_2 ex3_2 => ?_)
    replace hf := nm_use hf ex3_2
    refine lv_istore_n (lv' := [(3, .int x3_2), (0, .ref a0), (1, .int x1), (2, .int x2)]) hx hb dX2_changeSetting_71 rfl hl (by decide) rfl (fun ls hl => ?_)
    refine lv_aload_n hx hb dX2_changeSetting_72 rfl (lv_at hl 1 rfl) ?_
    refine r_get C h 0 0 (ci := 2) (N := 6) (Cn := RX2) (T := TX2) rfl rfl (by decide) in_X2_changeSetting_X2 lk_X2_changeSetting_9 rfl dX2_changeSetting_73 ?_
    refine lv_bipush (v := 16) hx hb dX2_changeSetting_76 (by decide) ?_
    refine lv_iload_n hx hb dX2_changeSetting_78 rfl (lv_at hl 2 rfl) ?_
    refine lv_iadd hx hb dX2_changeSetting_79 ?_
    refine lv_iload_n hx hb dX2_changeSetting_80 rfl (lv_at hl 3 rfl) ?_
    obtain ⟨j_3, hj_3, hf⟩ := chk_use hf
    refine r_ast C h 1 rfl rfl hj_3 (fun z__ => (wSt cI a0 a1 a2 a3 a4 a5 a6 a7 a8 z__ va qu sc lo wt)) (fun _ => rfl) dX2_changeSetting_81 (fun nu_4 enu_4 H locs h => ?_)
    replace hf := nm_use hf enu_4
    refine lv_iload_n hx hb dX2_changeSetting_82 rfl (lv_at hl 0 rfl) ?_
    cases hf
    exact r_iret C h hr hlocks dX2_changeSetting_83
  unfold fX2_changeSetting at hf
  refine lv_iload_n hx hb dX2_changeSetting_0 rfl (lv_at hl 1 rfl) ?_
  refine lv_iconst (v := 0) hx hb dX2_changeSetting_1 (by decide) ?_
  refine lv_bipush (v := 7) hx hb dX2_changeSetting_2 (by decide) ?_
  obtain ⟨r_1, hq_2, hf⟩ := ob1_use hf
  refine r_callSN C h (cw_X2_changeSetting_X4_isWithin_50 C.hts C.nw) (rest := []) (c_X4_isWithin l G cI cC cZ X x1 (0 : Int32) (7 : Int32) r_1 hq_2) [] rfl rfl rfl rfl hl.1 rfl (Nat.le_of_ble_eq_true rfl) ⟨Nat.le_of_ble_eq_true rfl, Nat.le_of_ble_eq_true rfl⟩ (wSt cI a0 a1 a2 a3 a4 a5 a6 a7 a8 nu va qu sc lo wt) rfl rfl dX2_changeSetting_4 (fun H locs h => ?_)
  refine lv_if_eq (tgt := 27) hx hb dX2_changeSetting_7 (by decide) (fun hc => ?_) (fun hc => ?_)
  · replace hf := it_t hf hc
    refine lv_bipush (v := (-2)) hx hb dX2_changeSetting_27 (by decide) ?_
    cases hf
    exact r_iret C h hr hlocks dX2_changeSetting_29
  · replace hf := it_f hf hc
    refine lv_iload_n hx hb dX2_changeSetting_10 rfl (lv_at hl 2 rfl) ?_
    refine r_getsN C h hZL lkN_2_58 dX2_changeSetting_11 ?_
    refine lv_iload_n hx hb dX2_changeSetting_14 rfl (lv_at hl 1 rfl) ?_
    obtain ⟨j_3, hj_3, hf⟩ := chk_use hf
    refine r_ti C h hTL hj_3 dX2_changeSetting_15 ?_
    refine r_getsN C h hZM lkN_2_61 dX2_changeSetting_16 ?_
    refine lv_iload_n hx hb dX2_changeSetting_19 rfl (lv_at hl 1 rfl) ?_
    obtain ⟨j_4, hj_4, hf⟩ := chk_use hf
    refine r_ti C h hTM hj_4 dX2_changeSetting_20 ?_
    obtain ⟨r_5, hq_6, hf⟩ := ob1_use hf
    refine r_callSN C h (cw_X2_changeSetting_X4_isWithin_50 C.hts C.nw) (rest := []) (c_X4_isWithin l G cI cC cZ X x2 (sfLeast j_3) (sfMost j_4) r_5 hq_6) [] rfl rfl rfl rfl hl.1 rfl (Nat.le_of_ble_eq_true rfl) ⟨Nat.le_of_ble_eq_true rfl, Nat.le_of_ble_eq_true rfl⟩ (wSt cI a0 a1 a2 a3 a4 a5 a6 a7 a8 nu va qu sc lo wt) rfl rfl dX2_changeSetting_21 (fun H locs h => ?_)
    refine lv_if_ne (tgt := 30) hx hb dX2_changeSetting_24 (by decide) (fun hc => ?_) (fun hc => ?_)
    · replace hf := it_f hf hc
      refine lv_iload_n hx hb dX2_changeSetting_30 rfl (lv_at hl 1 rfl) ?_
      refine lv_iconst (v := 3) hx hb dX2_changeSetting_31 (by decide) ?_
      refine lv_icmp_ne (tgt := 44) hx hb dX2_changeSetting_32 (by decide) (fun hc => ?_) (fun hc => ?_)
      · replace hf := it_f hf hc
        refine lv_iload_n hx hb dX2_changeSetting_44 rfl (lv_at hl 1 rfl) ?_
        refine lv_iconst (v := 2) hx hb dX2_changeSetting_45 (by decide) ?_
        refine lv_icmp_ne (tgt := 62) hx hb dX2_changeSetting_46 (by decide) (fun hc => ?_) (fun hc => ?_)
        · replace hf := it_f hf hc
          exact cut_62 nu x1 x2 _ _ _ h (lv_sub hl [0, 1, 2] rfl) hf
        · replace hf := it_t hf hc
          refine lv_iload_n hx hb dX2_changeSetting_49 rfl (lv_at hl 2 rfl) ?_
          refine lv_aload_n hx hb dX2_changeSetting_50 rfl (lv_at hl 0 rfl) ?_
          refine r_get C h 0 0 (ci := 2) (N := 6) (Cn := RX2) (T := TX2) rfl rfl (by decide) in_X2_changeSetting_X2 lk_X2_changeSetting_9 rfl dX2_changeSetting_51 ?_
          refine lv_iconst (v := 2) hx hb dX2_changeSetting_54 (by decide) ?_
          refine r_ald C h 1 rfl rfl k_2_24 dX2_changeSetting_55 ?_
          refine lv_icmp_ge (tgt := 62) hx hb dX2_changeSetting_56 (by decide) (fun hc => ?_) (fun hc => ?_)
          · replace hf := it_t hf hc
            exact cut_62 nu x1 x2 _ _ _ h (lv_sub hl [0, 1, 2] rfl) hf
          · replace hf := it_f hf hc
            refine lv_bipush (v := (-5)) hx hb dX2_changeSetting_59 (by decide) ?_
            cases hf
            exact r_iret C h hr hlocks dX2_changeSetting_61
      · replace hf := it_t hf hc
        refine lv_aload_n hx hb dX2_changeSetting_35 rfl (lv_at hl 0 rfl) ?_
        refine r_get C h 0 0 (ci := 2) (N := 6) (Cn := RX2) (T := TX2) rfl rfl (by decide) in_X2_changeSetting_X2 lk_X2_changeSetting_9 rfl dX2_changeSetting_36 ?_
        refine lv_iconst (v := 0) hx hb dX2_changeSetting_39 (by decide) ?_
        refine r_ald C h 1 rfl rfl k_0_24 dX2_changeSetting_40 ?_
        refine lv_if_ne (tgt := 59) hx hb dX2_changeSetting_41 (by decide) (fun hc => ?_) (fun hc => ?_)
        · replace hf := it_f hf hc
          refine lv_bipush (v := (-5)) hx hb dX2_changeSetting_59 (by decide) ?_
          cases hf
          exact r_iret C h hr hlocks dX2_changeSetting_61
        · replace hf := it_t hf hc
          refine lv_iload_n hx hb dX2_changeSetting_44 rfl (lv_at hl 1 rfl) ?_
          refine lv_iconst (v := 2) hx hb dX2_changeSetting_45 (by decide) ?_
          refine lv_icmp_ne (tgt := 62) hx hb dX2_changeSetting_46 (by decide) (fun hc => ?_) (fun hc => ?_)
          · replace hf := it_f hf hc
            exact cut_62 nu x1 x2 _ _ _ h (lv_sub hl [0, 1, 2] rfl) hf
          · replace hf := it_t hf hc
            refine lv_iload_n hx hb dX2_changeSetting_49 rfl (lv_at hl 2 rfl) ?_
            refine lv_aload_n hx hb dX2_changeSetting_50 rfl (lv_at hl 0 rfl) ?_
            refine r_get C h 0 0 (ci := 2) (N := 6) (Cn := RX2) (T := TX2) rfl rfl (by decide) in_X2_changeSetting_X2 lk_X2_changeSetting_9 rfl dX2_changeSetting_51 ?_
            refine lv_iconst (v := 2) hx hb dX2_changeSetting_54 (by decide) ?_
            refine r_ald C h 1 rfl rfl k_2_24 dX2_changeSetting_55 ?_
            refine lv_icmp_ge (tgt := 62) hx hb dX2_changeSetting_56 (by decide) (fun hc => ?_) (fun hc => ?_)
            · replace hf := it_t hf hc
              exact cut_62 nu x1 x2 _ _ _ h (lv_sub hl [0, 1, 2] rfl) hf
            · replace hf := it_f hf hc
              refine lv_bipush (v := (-5)) hx hb dX2_changeSetting_59 (by decide) ?_
              cases hf
              exact r_iret C h hr hlocks dX2_changeSetting_61
    · replace hf := it_t hf hc
      refine lv_bipush (v := (-2)) hx hb dX2_changeSetting_27 (by decide) ?_
      cases hf
      exact r_iret C h hr hlocks dX2_changeSetting_29
def rm_X2_changeValue : Room := { frames := 1, cells := 0, slots := 0, locals := 22 }
set_option maxRecDepth 20000 in
theorem lk_X2_changeValue_15 : Cond.fieldLink RX2 15 "LineDoubler$State" "values" "[I" ∈ wsX2_changeValue := List.mem_of_getElem? (i := 1) (by decide +kernel)
set_option maxRecDepth 20000 in
theorem in_X2_changeValue_X2 : ∀ x ∈ wsX20, x ∈ wsX2_changeValue := mem_r _ [5, 6, 7, 8, 9, 10] (by decide +kernel)
set_option maxRecDepth 20000 in
theorem cw_X2_changeValue_X4_isWithin_50 {s : State} {args : Array Value} (hts : ∀ w ∈ wsX2_changeValue, w.before args s = true) (hnw : NW s) : va_CN rm_X2_changeValue s args RX2 50 yX4_isWithin "LineDoubler" cX4_isWithin 3 (some .boolean) wsX4_isWithin rm_X4_isWithin 0 0 3 ∧ (Cond.static yX4_isWithin).before args s = true ∧ True :=
  ⟨va_cnB 3 hts gX2_changeValue_X4_isWithin_n50 rfl rfl rfl (hnw.2.1 _ lkM_2_50) (hts _ (List.mem_of_getElem? (i := 3) (by decide +kernel))) (by decide +kernel) ⟨Nat.le_of_ble_eq_true rfl, Nat.le_of_ble_eq_true rfl⟩, hts _ (List.mem_of_getElem? (i := 2) (by decide +kernel)), trivial⟩
set_option maxHeartbeats 4000000 in
set_option maxRecDepth 100000 in
theorem c_X2_changeValue (l : Launch) (G : va_G) (cI cC cZ : ClassId) (X : List (ClassId × FieldType)) (a0 a1 a2 a3 a4 a5 a6 a7 a8 : Nat) (nu : Nat → Int32) (va : Nat → Int32) (qu : Nat → Int32) (sc : Nat → Int32) (lo : Nat → Int32) (wt : Int32) (x1 : Int32) (x2 : Int32) (rv : Int32) (va' : Nat → Int32) (hf : fX2_changeValue va x1 x2 = some (rv, va')) : CT l yX2_changeValue wsX2_changeValue rm_X2_changeValue G (TY cI cC cZ X) [.ref a0, .int x1, .int x2] (wSt cI a0 a1 a2 a3 a4 a5 a6 a7 a8 nu va qu sc lo wt) (some (.int rv)) (wSt cI a0 a1 a2 a3 a4 a5 a6 a7 a8 nu va' qu sc lo wt) := by
  refine CT.of (cc := cX2_changeValue) (maxL := 4) (ret := (some .int)) RX2 rfl (by decide) rfl (Nat.le_of_ble_eq_true rfl) ?_
  intro p e s m args below meth c A ls C hr hlocks hnm h hl
  have hx := C.hx
  have hb := C.hb
  have hl : lv_has ls 4 [(0, .ref a0), (1, .int x1), (2, .int x2)] := hl
  unfold fX2_changeValue at hf
  refine lv_iload_n hx hb dX2_changeValue_0 rfl (lv_at hl 1 rfl) ?_
  refine lv_iconst (v := 0) hx hb dX2_changeValue_1 (by decide) ?_
  refine lv_bipush (v := 15) hx hb dX2_changeValue_2 (by decide) ?_
  obtain ⟨r_1, hq_2, hf⟩ := ob1_use hf
  refine r_callSN C h (cw_X2_changeValue_X4_isWithin_50 C.hts C.nw) (rest := []) (c_X4_isWithin l G cI cC cZ X x1 (0 : Int32) (15 : Int32) r_1 hq_2) [] rfl rfl rfl rfl hl.1 rfl (Nat.le_of_ble_eq_true rfl) ⟨Nat.le_of_ble_eq_true rfl, Nat.le_of_ble_eq_true rfl⟩ (wSt cI a0 a1 a2 a3 a4 a5 a6 a7 a8 nu va qu sc lo wt) rfl rfl dX2_changeValue_4 (fun H locs h => ?_)
  refine lv_if_ne (tgt := 12) hx hb dX2_changeValue_7 (by decide) (fun hc => ?_) (fun hc => ?_)
  · replace hf := it_f hf hc
    refine lv_iload_n hx hb dX2_changeValue_12 rfl (lv_at hl 2 rfl) ?_
    refine lv_iconst (v := 0) hx hb dX2_changeValue_13 (by decide) ?_
    refine lv_sipush (v := 255) hx hb dX2_changeValue_14 (by decide) ?_
    obtain ⟨r_3, hq_4, hf⟩ := ob1_use hf
    refine r_callSN C h (cw_X2_changeValue_X4_isWithin_50 C.hts C.nw) (rest := []) (c_X4_isWithin l G cI cC cZ X x2 (0 : Int32) (255 : Int32) r_3 hq_4) [] rfl rfl rfl rfl hl.1 rfl (Nat.le_of_ble_eq_true rfl) ⟨Nat.le_of_ble_eq_true rfl, Nat.le_of_ble_eq_true rfl⟩ (wSt cI a0 a1 a2 a3 a4 a5 a6 a7 a8 nu va qu sc lo wt) rfl rfl dX2_changeValue_17 (fun H locs h => ?_)
    refine lv_if_ne (tgt := 26) hx hb dX2_changeValue_20 (by decide) (fun hc => ?_) (fun hc => ?_)
    · replace hf := it_f hf hc
      refine lv_aload_n hx hb dX2_changeValue_26 rfl (lv_at hl 0 rfl) ?_
      refine r_get C h 0 1 (ci := 2) (N := 6) (Cn := RX2) (T := TX2) rfl rfl (by decide) in_X2_changeValue_X2 lk_X2_changeValue_15 rfl dX2_changeValue_27 ?_
      refine lv_iload_n hx hb dX2_changeValue_30 rfl (lv_at hl 1 rfl) ?_
      obtain ⟨j_5, hj_5, hf⟩ := chk_use hf
      refine r_ald C h 2 rfl rfl hj_5 dX2_changeValue_31 ?_
      refine lv_topi (fun x3_6 ex3_6 => ?_)
      replace hf := nm_use hf ex3_6
      refine lv_istore_n (lv' := [(3, .int x3_6), (0, .ref a0), (1, .int x1), (2, .int x2)]) hx hb dX2_changeValue_32 rfl hl (by decide) rfl (fun ls hl => ?_)
      refine lv_aload_n hx hb dX2_changeValue_33 rfl (lv_at hl 1 rfl) ?_
      refine r_get C h 0 1 (ci := 2) (N := 6) (Cn := RX2) (T := TX2) rfl rfl (by decide) in_X2_changeValue_X2 lk_X2_changeValue_15 rfl dX2_changeValue_34 ?_
      refine lv_iload_n hx hb dX2_changeValue_37 rfl (lv_at hl 2 rfl) ?_
      refine lv_iload_n hx hb dX2_changeValue_38 rfl (lv_at hl 3 rfl) ?_
      obtain ⟨j_7, hj_7, hf⟩ := chk_use hf
      refine r_ast C h 2 rfl rfl hj_7 (fun z__ => (wSt cI a0 a1 a2 a3 a4 a5 a6 a7 a8 nu z__ qu sc lo wt)) (fun _ => rfl) dX2_changeValue_39 (fun va_8 eva_8 H locs h => ?_)
      replace hf := nm_use hf eva_8
      refine lv_iload_n hx hb dX2_changeValue_40 rfl (lv_at hl 0 rfl) ?_
      cases hf
      exact r_iret C h hr hlocks dX2_changeValue_41
    · replace hf := it_t hf hc
      refine lv_bipush (v := (-2)) hx hb dX2_changeValue_23 (by decide) ?_
      cases hf
      exact r_iret C h hr hlocks dX2_changeValue_25
  · replace hf := it_t hf hc
    refine lv_iconst (v := (-1)) hx hb dX2_changeValue_10 (by decide) ?_
    cases hf
    exact r_iret C h hr hlocks dX2_changeValue_11
def rm_X2_delayClock : Room := { frames := 1, cells := 0, slots := 0, locals := 22 }
set_option maxRecDepth 20000 in
theorem lk_X2_delayClock_9 : Cond.fieldLink RX2 9 "LineDoubler$State" "numbers" "[I" ∈ wsX2_delayClock := List.mem_of_getElem? (i := 1) (by decide +kernel)
set_option maxRecDepth 20000 in
theorem in_X2_delayClock_X2 : ∀ x ∈ wsX20, x ∈ wsX2_delayClock := mem_r _ [5, 6, 7, 8, 9, 10] (by decide +kernel)
set_option maxRecDepth 20000 in
theorem cw_X2_delayClock_X4_isWithin_50 {s : State} {args : Array Value} (hts : ∀ w ∈ wsX2_delayClock, w.before args s = true) (hnw : NW s) : va_CN rm_X2_delayClock s args RX2 50 yX4_isWithin "LineDoubler" cX4_isWithin 3 (some .boolean) wsX4_isWithin rm_X4_isWithin 0 0 3 ∧ (Cond.static yX4_isWithin).before args s = true ∧ True :=
  ⟨va_cnB 3 hts gX2_delayClock_X4_isWithin_n50 rfl rfl rfl (hnw.2.1 _ lkM_2_50) (hts _ (List.mem_of_getElem? (i := 3) (by decide +kernel))) (by decide +kernel) ⟨Nat.le_of_ble_eq_true rfl, Nat.le_of_ble_eq_true rfl⟩, hts _ (List.mem_of_getElem? (i := 2) (by decide +kernel)), trivial⟩
set_option maxHeartbeats 4000000 in
set_option maxRecDepth 100000 in
theorem c_X2_delayClock (l : Launch) (G : va_G) (cI cC cZ : ClassId) (X : List (ClassId × FieldType)) (a0 a1 a2 a3 a4 a5 a6 a7 a8 : Nat) (nu : Nat → Int32) (va : Nat → Int32) (qu : Nat → Int32) (sc : Nat → Int32) (lo : Nat → Int32) (wt : Int32) (x1 : Int32) (x2 : Int32) (rv : Int32) (nu' : Nat → Int32) (hf : fX2_delayClock nu x1 x2 = some (rv, nu')) : CT l yX2_delayClock wsX2_delayClock rm_X2_delayClock G (TY cI cC cZ X) [.ref a0, .int x1, .int x2] (wSt cI a0 a1 a2 a3 a4 a5 a6 a7 a8 nu va qu sc lo wt) (some (.int rv)) (wSt cI a0 a1 a2 a3 a4 a5 a6 a7 a8 nu' va qu sc lo wt) := by
  refine CT.of (cc := cX2_delayClock) (maxL := 4) (ret := (some .int)) RX2 rfl (by decide) rfl (Nat.le_of_ble_eq_true rfl) ?_
  intro p e s m args below meth c A ls C hr hlocks hnm h hl
  have hx := C.hx
  have hb := C.hb
  have hl : lv_has ls 4 [(0, .ref a0), (1, .int x1), (2, .int x2)] := hl
  unfold fX2_delayClock at hf
  refine lv_iload_n hx hb dX2_delayClock_0 rfl (lv_at hl 1 rfl) ?_
  refine lv_iconst (v := 0) hx hb dX2_delayClock_1 (by decide) ?_
  refine lv_iconst (v := 1) hx hb dX2_delayClock_2 (by decide) ?_
  obtain ⟨r_1, hq_2, hf⟩ := ob1_use hf
  refine r_callSN C h (cw_X2_delayClock_X4_isWithin_50 C.hts C.nw) (rest := []) (c_X4_isWithin l G cI cC cZ X x1 (0 : Int32) (1 : Int32) r_1 hq_2) [] rfl rfl rfl rfl hl.1 rfl (Nat.le_of_ble_eq_true rfl) ⟨Nat.le_of_ble_eq_true rfl, Nat.le_of_ble_eq_true rfl⟩ (wSt cI a0 a1 a2 a3 a4 a5 a6 a7 a8 nu va qu sc lo wt) rfl rfl dX2_delayClock_3 (fun H locs h => ?_)
  refine lv_if_eq (tgt := 19) hx hb dX2_delayClock_6 (by decide) (fun hc => ?_) (fun hc => ?_)
  · replace hf := it_t hf hc
    refine lv_bipush (v := (-2)) hx hb dX2_delayClock_19 (by decide) ?_
    cases hf
    exact r_iret C h hr hlocks dX2_delayClock_21
  · replace hf := it_f hf hc
    refine lv_iload_n hx hb dX2_delayClock_9 rfl (lv_at hl 2 rfl) ?_
    refine lv_iconst (v := 1) hx hb dX2_delayClock_10 (by decide) ?_
    refine lv_bipush (v := 99) hx hb dX2_delayClock_11 (by decide) ?_
    obtain ⟨r_3, hq_4, hf⟩ := ob1_use hf
    refine r_callSN C h (cw_X2_delayClock_X4_isWithin_50 C.hts C.nw) (rest := []) (c_X4_isWithin l G cI cC cZ X x2 (1 : Int32) (99 : Int32) r_3 hq_4) [] rfl rfl rfl rfl hl.1 rfl (Nat.le_of_ble_eq_true rfl) ⟨Nat.le_of_ble_eq_true rfl, Nat.le_of_ble_eq_true rfl⟩ (wSt cI a0 a1 a2 a3 a4 a5 a6 a7 a8 nu va qu sc lo wt) rfl rfl dX2_delayClock_13 (fun H locs h => ?_)
    refine lv_if_ne (tgt := 22) hx hb dX2_delayClock_16 (by decide) (fun hc => ?_) (fun hc => ?_)
    · replace hf := it_f hf hc
      refine lv_iload_n hx hb dX2_delayClock_22 rfl (lv_at hl 1 rfl) ?_
      refine lv_if_ne (tgt := 31) hx hb dX2_delayClock_23 (by decide) (fun hc => ?_) (fun hc => ?_)
      · replace hf := it_f hf hc
        refine lv_bipush (v := 11) hx hb dX2_delayClock_31 (by decide) ?_
        refine lv_istore_n (lv' := [(3, .int 11), (0, .ref a0), (1, .int x1), (2, .int x2)]) hx hb dX2_delayClock_33 rfl hl (by decide) rfl (fun ls hl => ?_)
        refine lv_aload_n hx hb dX2_delayClock_34 rfl (lv_at hl 1 rfl) ?_
        refine r_get C h 0 0 (ci := 2) (N := 6) (Cn := RX2) (T := TX2) rfl rfl (by decide) in_X2_delayClock_X2 lk_X2_delayClock_9 rfl dX2_delayClock_35 ?_
        refine lv_iload_n hx hb dX2_delayClock_38 rfl (lv_at hl 0 rfl) ?_
        refine lv_dup2_11 hx hb dX2_delayClock_39 rfl rfl ?_
        refine r_ald C h 1 rfl rfl k_11_24 dX2_delayClock_40 ?_
        refine lv_iload_n hx hb dX2_delayClock_41 rfl (lv_at hl 3 rfl) ?_
        refine lv_iadd hx hb dX2_delayClock_42 ?_
        refine r_ast C h 1 rfl rfl k_11_24 (fun z__ => (wSt cI a0 a1 a2 a3 a4 a5 a6 a7 a8 z__ va qu sc lo wt)) (fun _ => rfl) dX2_delayClock_43 (fun nu_5 enu_5 H locs h => ?_)
        replace hf := nm_use hf enu_5
        refine lv_aload_n hx hb dX2_delayClock_44 rfl (lv_at hl 1 rfl) ?_
        refine r_get C h 0 0 (ci := 2) (N := 6) (Cn := RX2) (T := TX2) rfl rfl (by decide) in_X2_delayClock_X2 lk_X2_delayClock_9 rfl dX2_delayClock_45 ?_
        refine lv_iload_n hx hb dX2_delayClock_48 rfl (lv_at hl 0 rfl) ?_
        refine r_ald C h 1 rfl rfl k_11_24 dX2_delayClock_49 ?_
        cases hf
        exact r_iret C h hr hlocks dX2_delayClock_50
      · replace hf := it_t hf hc
        refine lv_bipush (v := 10) hx hb dX2_delayClock_26 (by decide) ?_
        refine lv_goto (tgt := 33) hx hb dX2_delayClock_28 (by decide) ?_
        refine lv_istore_n (lv' := [(3, .int 10), (0, .ref a0), (1, .int x1), (2, .int x2)]) hx hb dX2_delayClock_33 rfl hl (by decide) rfl (fun ls hl => ?_)
        refine lv_aload_n hx hb dX2_delayClock_34 rfl (lv_at hl 1 rfl) ?_
        refine r_get C h 0 0 (ci := 2) (N := 6) (Cn := RX2) (T := TX2) rfl rfl (by decide) in_X2_delayClock_X2 lk_X2_delayClock_9 rfl dX2_delayClock_35 ?_
        refine lv_iload_n hx hb dX2_delayClock_38 rfl (lv_at hl 0 rfl) ?_
        refine lv_dup2_11 hx hb dX2_delayClock_39 rfl rfl ?_
        refine r_ald C h 1 rfl rfl k_10_24 dX2_delayClock_40 ?_
        refine lv_iload_n hx hb dX2_delayClock_41 rfl (lv_at hl 3 rfl) ?_
        refine lv_iadd hx hb dX2_delayClock_42 ?_
        refine r_ast C h 1 rfl rfl k_10_24 (fun z__ => (wSt cI a0 a1 a2 a3 a4 a5 a6 a7 a8 z__ va qu sc lo wt)) (fun _ => rfl) dX2_delayClock_43 (fun nu_6 enu_6 H locs h => ?_)
        replace hf := nm_use hf enu_6
        refine lv_aload_n hx hb dX2_delayClock_44 rfl (lv_at hl 1 rfl) ?_
        refine r_get C h 0 0 (ci := 2) (N := 6) (Cn := RX2) (T := TX2) rfl rfl (by decide) in_X2_delayClock_X2 lk_X2_delayClock_9 rfl dX2_delayClock_45 ?_
        refine lv_iload_n hx hb dX2_delayClock_48 rfl (lv_at hl 0 rfl) ?_
        refine r_ald C h 1 rfl rfl k_10_24 dX2_delayClock_49 ?_
        cases hf
        exact r_iret C h hr hlocks dX2_delayClock_50
    · replace hf := it_t hf hc
      refine lv_bipush (v := (-2)) hx hb dX2_delayClock_19 (by decide) ?_
      cases hf
      exact r_iret C h hr hlocks dX2_delayClock_21
def rm_X2_nextLineWaits : Room := { frames := 2, cells := 0, slots := 0, locals := 43 }
set_option maxRecDepth 20000 in
theorem lk_X2_nextLineWaits_9 : Cond.fieldLink RX2 9 "LineDoubler$State" "numbers" "[I" ∈ wsX2_nextLineWaits := List.mem_of_getElem? (i := 1) (by decide +kernel)
set_option maxRecDepth 20000 in
theorem lk_X2_nextLineWaits_23 : Cond.fieldLink RX2 23 "LineDoubler$State" "queue" "LLineDoubler$Table;" ∈ wsX2_nextLineWaits := List.mem_of_getElem? (i := 3) (by decide +kernel)
set_option maxRecDepth 20000 in
theorem lk_X2_nextLineWaits_15 : Cond.fieldLink RX2 15 "LineDoubler$State" "values" "[I" ∈ wsX2_nextLineWaits := List.mem_of_getElem? (i := 2) (by decide +kernel)
set_option maxRecDepth 20000 in
theorem in_X2_nextLineWaits_X2 : ∀ x ∈ wsX20, x ∈ wsX2_nextLineWaits := mem_r _ [19, 20, 21, 22, 23, 24] (by decide +kernel)
set_option maxRecDepth 20000 in
theorem cw_X2_nextLineWaits_X4_isWithin_50 {s : State} {args : Array Value} (hts : ∀ w ∈ wsX2_nextLineWaits, w.before args s = true) (hnw : NW s) : va_CN rm_X2_nextLineWaits s args RX2 50 yX4_isWithin "LineDoubler" cX4_isWithin 3 (some .boolean) wsX4_isWithin rm_X4_isWithin 0 0 3 ∧ (Cond.static yX4_isWithin).before args s = true ∧ True :=
  ⟨va_cnB 3 hts gX2_nextLineWaits_X4_isWithin_n50 rfl rfl rfl (hnw.2.1 _ lkM_2_50) (hts _ (List.mem_of_getElem? (i := 5) (by decide +kernel))) (by decide +kernel) ⟨Nat.le_of_ble_eq_true rfl, Nat.le_of_ble_eq_true rfl⟩, hts _ (List.mem_of_getElem? (i := 4) (by decide +kernel)), trivial⟩
set_option maxRecDepth 20000 in
theorem cw_X2_nextLineWaits_X3_write_90 {s : State} {args : Array Value} (hts : ∀ w ∈ wsX2_nextLineWaits, w.before args s = true) : CallW rm_X2_nextLineWaits s args RX2 RX3 90 yX3_write cX3_write 5 none wsX3_write rm_X3_write 0 0 3 :=
  cwV 3 hts gX2_nextLineWaits_X3_write rfl rfl rfl (by decide +kernel) ⟨Nat.le_of_ble_eq_true rfl, Nat.le_of_ble_eq_true rfl⟩
set_option maxRecDepth 20000 in
theorem cw_X2_nextLineWaits_X2_setting_54 {s : State} {args : Array Value} (hts : ∀ w ∈ wsX2_nextLineWaits, w.before args s = true) : CallW rm_X2_nextLineWaits s args RX2 RX2 54 yX2_setting cX2_setting 2 (some .int) wsX2_setting rm_X2_setting 0 0 1 :=
  cwV 1 hts gX2_nextLineWaits_X2_setting rfl rfl rfl (by decide +kernel) ⟨Nat.le_of_ble_eq_true rfl, Nat.le_of_ble_eq_true rfl⟩
set_option maxHeartbeats 4000000 in
set_option maxRecDepth 100000 in
theorem c_X2_nextLineWaits (l : Launch) (G : va_G) (cI cC cZ : ClassId) (X : List (ClassId × FieldType)) (a0 a1 a2 a3 a4 a5 a6 a7 a8 : Nat) (nu : Nat → Int32) (va : Nat → Int32) (qu : Nat → Int32) (sc : Nat → Int32) (lo : Nat → Int32) (wt : Int32) (nu' : Nat → Int32) (qu' : Nat → Int32) (hf : fX2_nextLineWaits nu va qu = some (nu', qu')) : CT l yX2_nextLineWaits wsX2_nextLineWaits rm_X2_nextLineWaits G (TY cI cC cZ X) [.ref a0] (wSt cI a0 a1 a2 a3 a4 a5 a6 a7 a8 nu va qu sc lo wt) none (wSt cI a0 a1 a2 a3 a4 a5 a6 a7 a8 nu' va qu' sc lo wt) := by
  refine CT.of (cc := cX2_nextLineWaits) (maxL := 5) (ret := none) RX2 rfl (by decide) rfl (Nat.le_of_ble_eq_true rfl) ?_
  intro p e s m args below meth c A ls C hr hlocks hnm h hl
  have hx := C.hx
  have hb := C.hb
  have hl : lv_has ls 5 [(0, .ref a0)] := hl
  unfold fX2_nextLineWaits at hf
  refine lv_aload_n hx hb dX2_nextLineWaits_0 rfl (lv_at hl 0 rfl) ?_
  refine r_get C h 0 0 (ci := 2) (N := 6) (Cn := RX2) (T := TX2) rfl rfl (by decide) in_X2_nextLineWaits_X2 lk_X2_nextLineWaits_9 rfl dX2_nextLineWaits_1 ?_
  refine lv_iconst (v := 2) hx hb dX2_nextLineWaits_4 (by decide) ?_
  refine r_ald C h 1 rfl rfl k_2_24 dX2_nextLineWaits_5 ?_
  refine lv_topi (fun x1_1 ex1_1 => ?_)
  replace hf := nm_use hf ex1_1
  refine lv_istore_n (lv' := [(1, .int x1_1), (0, .ref a0)]) hx hb dX2_nextLineWaits_6 rfl hl (by decide) rfl (fun ls hl => ?_)
  refine lv_aload_n hx hb dX2_nextLineWaits_7 rfl (lv_at hl 1 rfl) ?_
  refine r_get C h 0 0 (ci := 2) (N := 6) (Cn := RX2) (T := TX2) rfl rfl (by decide) in_X2_nextLineWaits_X2 lk_X2_nextLineWaits_9 rfl dX2_nextLineWaits_8 ?_
  refine lv_bipush (v := 9) hx hb dX2_nextLineWaits_11 (by decide) ?_
  refine r_ald C h 1 rfl rfl k_9_24 dX2_nextLineWaits_13 ?_
  refine lv_topi (fun x2_2 ex2_2 => ?_)
  replace hf := nm_use hf ex2_2
  refine lv_istore_n (lv' := [(2, .int x2_2), (1, .int x1_1), (0, .ref a0)]) hx hb dX2_nextLineWaits_14 rfl hl (by decide) rfl (fun ls hl => ?_)
  refine lv_aload_n hx hb dX2_nextLineWaits_15 rfl (lv_at hl 2 rfl) ?_
  refine r_get C h 0 0 (ci := 2) (N := 6) (Cn := RX2) (T := TX2) rfl rfl (by decide) in_X2_nextLineWaits_X2 lk_X2_nextLineWaits_9 rfl dX2_nextLineWaits_16 ?_
  refine lv_bipush (v := 8) hx hb dX2_nextLineWaits_19 (by decide) ?_
  refine r_ald C h 1 rfl rfl k_8_24 dX2_nextLineWaits_21 ?_
  refine lv_topi (fun x3_3 ex3_3 => ?_)
  replace hf := nm_use hf ex3_3
  refine lv_istore_n (lv' := [(3, .int x3_3), (2, .int x2_2), (1, .int x1_1), (0, .ref a0)]) hx hb dX2_nextLineWaits_22 rfl hl (by decide) rfl (fun ls hl => ?_)
  refine lv_iload_n hx hb dX2_nextLineWaits_23 rfl (lv_at hl 0 rfl) ?_
  refine lv_iconst (v := 0) hx hb dX2_nextLineWaits_24 (by decide) ?_
  refine lv_bipush (v := 15) hx hb dX2_nextLineWaits_25 (by decide) ?_
  obtain ⟨r_4, hq_5, hf⟩ := ob1_use hf
  refine r_callSN C h (cw_X2_nextLineWaits_X4_isWithin_50 C.hts C.nw) (rest := []) (c_X4_isWithin l G cI cC cZ X x3_3 (0 : Int32) (15 : Int32) r_4 hq_5) [] rfl rfl rfl rfl hl.1 rfl (Nat.le_of_ble_eq_true rfl) ⟨Nat.le_of_ble_eq_true rfl, Nat.le_of_ble_eq_true rfl⟩ (wSt cI a0 a1 a2 a3 a4 a5 a6 a7 a8 nu va qu sc lo wt) rfl rfl dX2_nextLineWaits_27 (fun H locs h => ?_)
  refine lv_if_eq (tgt := 51) hx hb dX2_nextLineWaits_30 (by decide) (fun hc => ?_) (fun hc => ?_)
  · replace hf := it_t hf hc
    refine lv_iconst (v := 0) hx hb dX2_nextLineWaits_51 (by decide) ?_
    refine lv_istore (lv' := [(4, .int 0), (3, .int x3_3), (2, .int x2_2), (1, .int x1_1), (0, .ref a0)]) hx hb dX2_nextLineWaits_52 hl (by decide) rfl (fun ls hl => ?_)
    refine lv_aload_n hx hb dX2_nextLineWaits_54 rfl (lv_at hl 4 rfl) ?_
    refine r_get C h 0 2 (ci := 2) (N := 6) (Cn := RX2) (T := TX2) rfl rfl (by decide) in_X2_nextLineWaits_X2 lk_X2_nextLineWaits_23 rfl dX2_nextLineWaits_55 ?_
    refine lv_iload_n hx hb dX2_nextLineWaits_58 rfl (lv_at hl 3 rfl) ?_
    refine lv_iconst (v := 0) hx hb dX2_nextLineWaits_59 (by decide) ?_
    refine lv_iload_n hx hb dX2_nextLineWaits_60 rfl (lv_at hl 2 rfl) ?_
    obtain ⟨qu_6, hq_7, hf⟩ := ob1_use hf
    refine r_callV C h (cw_X2_nextLineWaits_X3_write_90 C.hts) (rest := []) (ci := 3) (N := 2) (Cn := RX3) (T := TX3) (c_X3_write l G cI cC cZ X a3 a4 4 68 qu x1_1 (0 : Int32) x2_2 qu_6 hq_7) [3, 4] rfl rfl rfl rfl 3 rfl rfl hl.1 rfl (Nat.le_of_ble_eq_true rfl) ⟨Nat.le_of_ble_eq_true rfl, Nat.le_of_ble_eq_true rfl⟩ (wSt cI a0 a1 a2 a3 a4 a5 a6 a7 a8 nu va qu_6 sc lo wt) rfl rfl dX2_nextLineWaits_61 (fun H locs h => ?_)
    refine lv_aload_n hx hb dX2_nextLineWaits_64 rfl (lv_at hl 4 rfl) ?_
    refine r_get C h 0 2 (ci := 2) (N := 6) (Cn := RX2) (T := TX2) rfl rfl (by decide) in_X2_nextLineWaits_X2 lk_X2_nextLineWaits_23 rfl dX2_nextLineWaits_65 ?_
    refine lv_iload_n hx hb dX2_nextLineWaits_68 rfl (lv_at hl 3 rfl) ?_
    refine lv_iconst (v := 1) hx hb dX2_nextLineWaits_69 (by decide) ?_
    refine lv_iload_n hx hb dX2_nextLineWaits_70 rfl (lv_at hl 1 rfl) ?_
    obtain ⟨qu_8, hq_9, hf⟩ := ob1_use hf
    refine r_callV C h (cw_X2_nextLineWaits_X3_write_90 C.hts) (rest := []) (ci := 3) (N := 2) (Cn := RX3) (T := TX3) (c_X3_write l G cI cC cZ X a3 a4 4 68 qu_6 x1_1 (1 : Int32) x3_3 qu_8 hq_9) [3, 4] rfl rfl rfl rfl 3 rfl rfl hl.1 rfl (Nat.le_of_ble_eq_true rfl) ⟨Nat.le_of_ble_eq_true rfl, Nat.le_of_ble_eq_true rfl⟩ (wSt cI a0 a1 a2 a3 a4 a5 a6 a7 a8 nu va qu_8 sc lo wt) rfl rfl dX2_nextLineWaits_71 (fun H locs h => ?_)
    refine lv_aload_n hx hb dX2_nextLineWaits_74 rfl (lv_at hl 4 rfl) ?_
    refine r_get C h 0 2 (ci := 2) (N := 6) (Cn := RX2) (T := TX2) rfl rfl (by decide) in_X2_nextLineWaits_X2 lk_X2_nextLineWaits_23 rfl dX2_nextLineWaits_75 ?_
    refine lv_iload_n hx hb dX2_nextLineWaits_78 rfl (lv_at hl 3 rfl) ?_
    refine lv_iconst (v := 2) hx hb dX2_nextLineWaits_79 (by decide) ?_
    refine lv_iload hx hb dX2_nextLineWaits_80 (lv_at hl 0 rfl) ?_
    refine lv_sipush (v := 255) hx hb dX2_nextLineWaits_82 (by decide) ?_
    refine lv_iand hx hb dX2_nextLineWaits_85 ?_
    obtain ⟨qu_10, hq_11, hf⟩ := ob1_use hf
    refine r_callV C h (cw_X2_nextLineWaits_X3_write_90 C.hts) (rest := []) (ci := 3) (N := 2) (Cn := RX3) (T := TX3) (c_X3_write l G cI cC cZ X a3 a4 4 68 qu_8 x1_1 (2 : Int32) ((0 : Int32) &&& 255) qu_10 hq_11) [3, 4] rfl rfl rfl rfl 3 rfl rfl hl.1 rfl (Nat.le_of_ble_eq_true rfl) ⟨Nat.le_of_ble_eq_true rfl, Nat.le_of_ble_eq_true rfl⟩ (wSt cI a0 a1 a2 a3 a4 a5 a6 a7 a8 nu va qu_10 sc lo wt) rfl rfl dX2_nextLineWaits_86 (fun H locs h => ?_)
    refine lv_aload_n hx hb dX2_nextLineWaits_89 rfl (lv_at hl 4 rfl) ?_
    refine r_get C h 0 2 (ci := 2) (N := 6) (Cn := RX2) (T := TX2) rfl rfl (by decide) in_X2_nextLineWaits_X2 lk_X2_nextLineWaits_23 rfl dX2_nextLineWaits_90 ?_
    refine lv_iload_n hx hb dX2_nextLineWaits_93 rfl (lv_at hl 3 rfl) ?_
    refine lv_iconst (v := 3) hx hb dX2_nextLineWaits_94 (by decide) ?_
    refine lv_iconst (v := 0) hx hb dX2_nextLineWaits_95 (by decide) ?_
    obtain ⟨qu_12, hq_13, hf⟩ := ob1_use hf
    refine r_callV C h (cw_X2_nextLineWaits_X3_write_90 C.hts) (rest := []) (ci := 3) (N := 2) (Cn := RX3) (T := TX3) (c_X3_write l G cI cC cZ X a3 a4 4 68 qu_10 x1_1 (3 : Int32) (0 : Int32) qu_12 hq_13) [3, 4] rfl rfl rfl rfl 3 rfl rfl hl.1 rfl (Nat.le_of_ble_eq_true rfl) ⟨Nat.le_of_ble_eq_true rfl, Nat.le_of_ble_eq_true rfl⟩ (wSt cI a0 a1 a2 a3 a4 a5 a6 a7 a8 nu va qu_12 sc lo wt) rfl rfl dX2_nextLineWaits_96 (fun H locs h => ?_)
    refine lv_aload_n hx hb dX2_nextLineWaits_99 rfl (lv_at hl 4 rfl) ?_
    refine r_get C h 0 0 (ci := 2) (N := 6) (Cn := RX2) (T := TX2) rfl rfl (by decide) in_X2_nextLineWaits_X2 lk_X2_nextLineWaits_9 rfl dX2_nextLineWaits_100 ?_
    refine lv_iconst (v := 2) hx hb dX2_nextLineWaits_103 (by decide) ?_
    refine lv_dup2_11 hx hb dX2_nextLineWaits_104 rfl rfl ?_
    refine r_ald C h 1 rfl rfl k_2_24 dX2_nextLineWaits_105 ?_
    refine lv_iconst (v := 1) hx hb dX2_nextLineWaits_106 (by decide) ?_
    refine lv_iadd hx hb dX2_nextLineWaits_107 ?_
    refine r_ast C h 1 rfl rfl k_2_24 (fun z__ => (wSt cI a0 a1 a2 a3 a4 a5 a6 a7 a8 z__ va qu_12 sc lo wt)) (fun _ => rfl) dX2_nextLineWaits_108 (fun nu_14 enu_14 H locs h => ?_)
    replace hf := nm_use hf enu_14
    cases hf
    exact r_vret C h hr hlocks dX2_nextLineWaits_109
  · replace hf := it_f hf hc
    refine lv_aload_n hx hb dX2_nextLineWaits_33 rfl (lv_at hl 3 rfl) ?_
    refine r_get C h 0 1 (ci := 2) (N := 6) (Cn := RX2) (T := TX2) rfl rfl (by decide) in_X2_nextLineWaits_X2 lk_X2_nextLineWaits_15 rfl dX2_nextLineWaits_34 ?_
    refine lv_iload_n hx hb dX2_nextLineWaits_37 rfl (lv_at hl 0 rfl) ?_
    obtain ⟨j_15, hj_15, hf⟩ := chk_use hf
    refine r_ald C h 2 rfl rfl hj_15 dX2_nextLineWaits_38 ?_
    refine lv_aload_n hx hb dX2_nextLineWaits_39 rfl (lv_at hl 3 rfl) ?_
    refine lv_bipush (v := 7) hx hb dX2_nextLineWaits_40 (by decide) ?_
    obtain ⟨r_16, hq_17, hf⟩ := ob1_use hf
    refine r_callV C h (cw_X2_nextLineWaits_X2_setting_54 C.hts) (rest := [.int (va j_15)]) (ci := 2) (N := 6) (Cn := RX2) (T := TX2) (c_X2_setting l G cI cC cZ X a0 a1 a2 a3 a4 a5 a6 a7 a8 nu va qu sc lo wt (7 : Int32) r_16 hq_17) [0, 1, 2, 3, 4, 5, 6, 7, 8] rfl rfl rfl rfl 0 rfl rfl hl.1 rfl (Nat.le_of_ble_eq_true rfl) ⟨Nat.le_of_ble_eq_true rfl, Nat.le_of_ble_eq_true rfl⟩ (wSt cI a0 a1 a2 a3 a4 a5 a6 a7 a8 nu va qu sc lo wt) rfl rfl dX2_nextLineWaits_42 (fun H locs h => ?_)
    refine lv_iload_n hx hb dX2_nextLineWaits_45 rfl (lv_at hl 1 rfl) ?_
    refine lv_imul hx hb dX2_nextLineWaits_46 ?_
    refine lv_iadd hx hb dX2_nextLineWaits_47 ?_
    refine lv_goto (tgt := 52) hx hb dX2_nextLineWaits_48 (by decide) ?_
    refine lv_topi (fun x4_18 ex4_18 => ?_)
    replace hf := nm_use hf ex4_18
    refine lv_istore (lv' := [(4, .int x4_18), (3, .int x3_3), (2, .int x2_2), (1, .int x1_1), (0, .ref a0)]) hx hb dX2_nextLineWaits_52 hl (by decide) rfl (fun ls hl => ?_)
    refine lv_aload_n hx hb dX2_nextLineWaits_54 rfl (lv_at hl 4 rfl) ?_
    refine r_get C h 0 2 (ci := 2) (N := 6) (Cn := RX2) (T := TX2) rfl rfl (by decide) in_X2_nextLineWaits_X2 lk_X2_nextLineWaits_23 rfl dX2_nextLineWaits_55 ?_
    refine lv_iload_n hx hb dX2_nextLineWaits_58 rfl (lv_at hl 3 rfl) ?_
    refine lv_iconst (v := 0) hx hb dX2_nextLineWaits_59 (by decide) ?_
    refine lv_iload_n hx hb dX2_nextLineWaits_60 rfl (lv_at hl 2 rfl) ?_
    obtain ⟨qu_19, hq_20, hf⟩ := ob1_use hf
    refine r_callV C h (cw_X2_nextLineWaits_X3_write_90 C.hts) (rest := []) (ci := 3) (N := 2) (Cn := RX3) (T := TX3) (c_X3_write l G cI cC cZ X a3 a4 4 68 qu x1_1 (0 : Int32) x2_2 qu_19 hq_20) [3, 4] rfl rfl rfl rfl 3 rfl rfl hl.1 rfl (Nat.le_of_ble_eq_true rfl) ⟨Nat.le_of_ble_eq_true rfl, Nat.le_of_ble_eq_true rfl⟩ (wSt cI a0 a1 a2 a3 a4 a5 a6 a7 a8 nu va qu_19 sc lo wt) rfl rfl dX2_nextLineWaits_61 (fun H locs h => ?_)
    refine lv_aload_n hx hb dX2_nextLineWaits_64 rfl (lv_at hl 4 rfl) ?_
    refine r_get C h 0 2 (ci := 2) (N := 6) (Cn := RX2) (T := TX2) rfl rfl (by decide) in_X2_nextLineWaits_X2 lk_X2_nextLineWaits_23 rfl dX2_nextLineWaits_65 ?_
    refine lv_iload_n hx hb dX2_nextLineWaits_68 rfl (lv_at hl 3 rfl) ?_
    refine lv_iconst (v := 1) hx hb dX2_nextLineWaits_69 (by decide) ?_
    refine lv_iload_n hx hb dX2_nextLineWaits_70 rfl (lv_at hl 1 rfl) ?_
    obtain ⟨qu_21, hq_22, hf⟩ := ob1_use hf
    refine r_callV C h (cw_X2_nextLineWaits_X3_write_90 C.hts) (rest := []) (ci := 3) (N := 2) (Cn := RX3) (T := TX3) (c_X3_write l G cI cC cZ X a3 a4 4 68 qu_19 x1_1 (1 : Int32) x3_3 qu_21 hq_22) [3, 4] rfl rfl rfl rfl 3 rfl rfl hl.1 rfl (Nat.le_of_ble_eq_true rfl) ⟨Nat.le_of_ble_eq_true rfl, Nat.le_of_ble_eq_true rfl⟩ (wSt cI a0 a1 a2 a3 a4 a5 a6 a7 a8 nu va qu_21 sc lo wt) rfl rfl dX2_nextLineWaits_71 (fun H locs h => ?_)
    refine lv_aload_n hx hb dX2_nextLineWaits_74 rfl (lv_at hl 4 rfl) ?_
    refine r_get C h 0 2 (ci := 2) (N := 6) (Cn := RX2) (T := TX2) rfl rfl (by decide) in_X2_nextLineWaits_X2 lk_X2_nextLineWaits_23 rfl dX2_nextLineWaits_75 ?_
    refine lv_iload_n hx hb dX2_nextLineWaits_78 rfl (lv_at hl 3 rfl) ?_
    refine lv_iconst (v := 2) hx hb dX2_nextLineWaits_79 (by decide) ?_
    refine lv_iload hx hb dX2_nextLineWaits_80 (lv_at hl 0 rfl) ?_
    refine lv_sipush (v := 255) hx hb dX2_nextLineWaits_82 (by decide) ?_
    refine lv_iand hx hb dX2_nextLineWaits_85 ?_
    obtain ⟨qu_23, hq_24, hf⟩ := ob1_use hf
    refine r_callV C h (cw_X2_nextLineWaits_X3_write_90 C.hts) (rest := []) (ci := 3) (N := 2) (Cn := RX3) (T := TX3) (c_X3_write l G cI cC cZ X a3 a4 4 68 qu_21 x1_1 (2 : Int32) (x4_18 &&& 255) qu_23 hq_24) [3, 4] rfl rfl rfl rfl 3 rfl rfl hl.1 rfl (Nat.le_of_ble_eq_true rfl) ⟨Nat.le_of_ble_eq_true rfl, Nat.le_of_ble_eq_true rfl⟩ (wSt cI a0 a1 a2 a3 a4 a5 a6 a7 a8 nu va qu_23 sc lo wt) rfl rfl dX2_nextLineWaits_86 (fun H locs h => ?_)
    refine lv_aload_n hx hb dX2_nextLineWaits_89 rfl (lv_at hl 4 rfl) ?_
    refine r_get C h 0 2 (ci := 2) (N := 6) (Cn := RX2) (T := TX2) rfl rfl (by decide) in_X2_nextLineWaits_X2 lk_X2_nextLineWaits_23 rfl dX2_nextLineWaits_90 ?_
    refine lv_iload_n hx hb dX2_nextLineWaits_93 rfl (lv_at hl 3 rfl) ?_
    refine lv_iconst (v := 3) hx hb dX2_nextLineWaits_94 (by decide) ?_
    refine lv_iconst (v := 0) hx hb dX2_nextLineWaits_95 (by decide) ?_
    obtain ⟨qu_25, hq_26, hf⟩ := ob1_use hf
    refine r_callV C h (cw_X2_nextLineWaits_X3_write_90 C.hts) (rest := []) (ci := 3) (N := 2) (Cn := RX3) (T := TX3) (c_X3_write l G cI cC cZ X a3 a4 4 68 qu_23 x1_1 (3 : Int32) (0 : Int32) qu_25 hq_26) [3, 4] rfl rfl rfl rfl 3 rfl rfl hl.1 rfl (Nat.le_of_ble_eq_true rfl) ⟨Nat.le_of_ble_eq_true rfl, Nat.le_of_ble_eq_true rfl⟩ (wSt cI a0 a1 a2 a3 a4 a5 a6 a7 a8 nu va qu_25 sc lo wt) rfl rfl dX2_nextLineWaits_96 (fun H locs h => ?_)
    refine lv_aload_n hx hb dX2_nextLineWaits_99 rfl (lv_at hl 4 rfl) ?_
    refine r_get C h 0 0 (ci := 2) (N := 6) (Cn := RX2) (T := TX2) rfl rfl (by decide) in_X2_nextLineWaits_X2 lk_X2_nextLineWaits_9 rfl dX2_nextLineWaits_100 ?_
    refine lv_iconst (v := 2) hx hb dX2_nextLineWaits_103 (by decide) ?_
    refine lv_dup2_11 hx hb dX2_nextLineWaits_104 rfl rfl ?_
    refine r_ald C h 1 rfl rfl k_2_24 dX2_nextLineWaits_105 ?_
    refine lv_iconst (v := 1) hx hb dX2_nextLineWaits_106 (by decide) ?_
    refine lv_iadd hx hb dX2_nextLineWaits_107 ?_
    refine r_ast C h 1 rfl rfl k_2_24 (fun z__ => (wSt cI a0 a1 a2 a3 a4 a5 a6 a7 a8 z__ va qu_25 sc lo wt)) (fun _ => rfl) dX2_nextLineWaits_108 (fun nu_27 enu_27 H locs h => ?_)
    replace hf := nm_use hf enu_27
    cases hf
    exact r_vret C h hr hlocks dX2_nextLineWaits_109
def rm_X2_firstNotOut : Room := { frames := 1, cells := 0, slots := 0, locals := 23 }
set_option maxRecDepth 20000 in
theorem lk_X2_firstNotOut_9 : Cond.fieldLink RX2 9 "LineDoubler$State" "numbers" "[I" ∈ wsX2_firstNotOut := List.mem_of_getElem? (i := 1) (by decide +kernel)
set_option maxRecDepth 20000 in
theorem lk_X2_firstNotOut_23 : Cond.fieldLink RX2 23 "LineDoubler$State" "queue" "LLineDoubler$Table;" ∈ wsX2_firstNotOut := List.mem_of_getElem? (i := 2) (by decide +kernel)
set_option maxRecDepth 20000 in
theorem in_X2_firstNotOut_X2 : ∀ x ∈ wsX20, x ∈ wsX2_firstNotOut := mem_r _ [10, 11, 12, 13, 14, 15] (by decide +kernel)
set_option maxRecDepth 20000 in
theorem cw_X2_firstNotOut_X3_read_93 {s : State} {args : Array Value} (hts : ∀ w ∈ wsX2_firstNotOut, w.before args s = true) : CallW rm_X2_firstNotOut s args RX2 RX3 93 yX3_read cX3_read 4 (some .int) wsX3_read rm_X3_read 0 0 2 :=
  cwV 2 hts gX2_firstNotOut_X3_read rfl rfl rfl (by decide +kernel) ⟨Nat.le_of_ble_eq_true rfl, Nat.le_of_ble_eq_true rfl⟩
set_option maxHeartbeats 4000000 in
set_option maxRecDepth 100000 in
theorem c_X2_firstNotOut (l : Launch) (G : va_G) (cI cC cZ : ClassId) (X : List (ClassId × FieldType)) (a0 a1 a2 a3 a4 a5 a6 a7 a8 : Nat) (nu : Nat → Int32) (va : Nat → Int32) (qu : Nat → Int32) (sc : Nat → Int32) (lo : Nat → Int32) (wt : Int32) (rv : Int32) (hf : fX2_firstNotOut nu qu = some (rv)) : CT l yX2_firstNotOut wsX2_firstNotOut rm_X2_firstNotOut G (TY cI cC cZ X) [.ref a0] (wSt cI a0 a1 a2 a3 a4 a5 a6 a7 a8 nu va qu sc lo wt) (some (.int rv)) (wSt cI a0 a1 a2 a3 a4 a5 a6 a7 a8 nu va qu sc lo wt) := by
  refine CT.of (cc := cX2_firstNotOut) (maxL := 2) (ret := (some .int)) RX2 rfl (by decide) rfl (Nat.le_of_ble_eq_true rfl) ?_
  intro p e s m args below meth c A ls C hr hlocks hnm h hl
  have hx := C.hx
  have hb := C.hb
  have hl : lv_has ls 2 [(0, .ref a0)] := hl
  have cut_2 : ∀ (n : Nat) (x1 : Int32) (H : Heap) (locs : List Loc) (ls : Array Slot), Hx s G A (wSt cI a0 a1 a2 a3 a4 a5 a6 a7 a8 nu va qu sc lo wt) H locs → lv_has ls 2 [(0, .ref a0), (1, .int x1)] → fX2_firstNotOut_2 n nu qu x1 = some (rv) → W p l e rm_X2_firstNotOut s m args below meth c H locs 0 0 (MQ below (Qx G (some (.int rv)) (wSt cI a0 a1 a2 a3 a4 a5 a6 a7 a8 nu va qu sc lo wt) A) args s 0 0 A) (F0 m 2 ls []) := by
    intro n
    induction n with
    | zero =>
      intro x1 H locs ls h hl hf
      exact (nn_some _ hf).elim
    | succ n ih =>
      intro x1 H locs ls h hl hf
      have hf : fX2_firstNotOut_2_b (fX2_firstNotOut_2 n) nu qu x1 = some (rv) := hf
      unfold fX2_firstNotOut_2_b at hf
      refine lv_iload_n hx hb dX2_firstNotOut_2 rfl (lv_at hl 1 rfl) ?_
      refine lv_aload_n hx hb dX2_firstNotOut_3 rfl (lv_at hl 0 rfl) ?_
      refine r_get C h 0 0 (ci := 2) (N := 6) (Cn := RX2) (T := TX2) rfl rfl (by decide) in_X2_firstNotOut_X2 lk_X2_firstNotOut_9 rfl dX2_firstNotOut_4 ?_
      refine lv_iconst (v := 2) hx hb dX2_firstNotOut_7 (by decide) ?_
      refine r_ald C h 1 rfl rfl k_2_24 dX2_firstNotOut_8 ?_
      refine lv_iconst (v := 1) hx hb dX2_firstNotOut_9 (by decide) ?_
      refine lv_isub hx hb dX2_firstNotOut_10 ?_
      refine lv_icmp_ge (tgt := 32) hx hb dX2_firstNotOut_11 (by decide) (fun hc => ?_) (fun hc => ?_)
      · replace hf := it_t hf hc
        refine lv_iload_n hx hb dX2_firstNotOut_32 rfl (lv_at hl 1 rfl) ?_
        cases hf
        exact r_iret C h hr hlocks dX2_firstNotOut_33
      · replace hf := it_f hf hc
        refine lv_aload_n hx hb dX2_firstNotOut_14 rfl (lv_at hl 0 rfl) ?_
        refine r_get C h 0 2 (ci := 2) (N := 6) (Cn := RX2) (T := TX2) rfl rfl (by decide) in_X2_firstNotOut_X2 lk_X2_firstNotOut_23 rfl dX2_firstNotOut_15 ?_
        refine lv_iload_n hx hb dX2_firstNotOut_18 rfl (lv_at hl 1 rfl) ?_
        refine lv_iconst (v := 3) hx hb dX2_firstNotOut_19 (by decide) ?_
        obtain ⟨r_1, hq_2, hf⟩ := ob1_use hf
        refine r_callV C h (cw_X2_firstNotOut_X3_read_93 C.hts) (rest := []) (ci := 3) (N := 2) (Cn := RX3) (T := TX3) (c_X3_read l G cI cC cZ X a3 a4 4 68 qu x1 (3 : Int32) r_1 hq_2) [3, 4] rfl rfl rfl rfl 3 rfl rfl hl.1 rfl (Nat.le_of_ble_eq_true rfl) ⟨Nat.le_of_ble_eq_true rfl, Nat.le_of_ble_eq_true rfl⟩ (wSt cI a0 a1 a2 a3 a4 a5 a6 a7 a8 nu va qu sc lo wt) rfl rfl dX2_firstNotOut_20 (fun H locs h => ?_)
        refine lv_if_eq (tgt := 32) hx hb dX2_firstNotOut_23 (by decide) (fun hc => ?_) (fun hc => ?_)
        · replace hf := it_t hf hc
          refine lv_iload_n hx hb dX2_firstNotOut_32 rfl (lv_at hl 1 rfl) ?_
          cases hf
          exact r_iret C h hr hlocks dX2_firstNotOut_33
        · replace hf := it_f hf hc
          obtain ⟨x1_3, ex1_3⟩ : ∃ y : Int32, y = x1 + 1 := ⟨_, rfl⟩
          replace hf := nm_use hf ex1_3
          refine lv_iinc (v := x1_3) (lv' := [(1, .int x1_3), (0, .ref a0)]) hx hb dX2_firstNotOut_26 hl (k := 1) rfl (by rw [ex1_3]; rfl) (by decide) rfl (fun ls hl => ?_)
          refine lv_goto (tgt := 2) hx hb dX2_firstNotOut_29 (by decide) ?_
          exact ih x1_3 _ _ _ h (lv_sub hl [1, 0] rfl) hf
  unfold fX2_firstNotOut at hf
  refine lv_iconst (v := 0) hx hb dX2_firstNotOut_0 (by decide) ?_
  refine lv_istore_n (lv' := [(1, .int 0), (0, .ref a0)]) hx hb dX2_firstNotOut_1 rfl hl (by decide) rfl (fun ls hl => ?_)
  exact cut_2 KF 0 _ _ _ h (lv_sub hl [1, 0] rfl) hf
def rm_X2_loseWaiting : Room := { frames := 2, cells := 0, slots := 0, locals := 41 }
set_option maxRecDepth 20000 in
theorem lk_X2_loseWaiting_9 : Cond.fieldLink RX2 9 "LineDoubler$State" "numbers" "[I" ∈ wsX2_loseWaiting := List.mem_of_getElem? (i := 1) (by decide +kernel)
set_option maxRecDepth 20000 in
theorem lk_X2_loseWaiting_30 : Cond.fieldLink RX2 30 "LineDoubler$State" "lost" "LLineDoubler$Table;" ∈ wsX2_loseWaiting := List.mem_of_getElem? (i := 2) (by decide +kernel)
set_option maxRecDepth 20000 in
theorem lk_X2_loseWaiting_23 : Cond.fieldLink RX2 23 "LineDoubler$State" "queue" "LLineDoubler$Table;" ∈ wsX2_loseWaiting := List.mem_of_getElem? (i := 3) (by decide +kernel)
set_option maxRecDepth 20000 in
theorem in_X2_loseWaiting_X2 : ∀ x ∈ wsX20, x ∈ wsX2_loseWaiting := mem_r _ [23, 24, 25, 26, 27, 28] (by decide +kernel)
set_option maxRecDepth 20000 in
theorem cw_X2_loseWaiting_X3_read_93 {s : State} {args : Array Value} (hts : ∀ w ∈ wsX2_loseWaiting, w.before args s = true) : CallW rm_X2_loseWaiting s args RX2 RX3 93 yX3_read cX3_read 4 (some .int) wsX3_read rm_X3_read 0 0 2 :=
  cwV 2 hts gX2_loseWaiting_X3_read rfl rfl rfl (by decide +kernel) ⟨Nat.le_of_ble_eq_true rfl, Nat.le_of_ble_eq_true rfl⟩
set_option maxRecDepth 20000 in
theorem cw_X2_loseWaiting_X3_write_90 {s : State} {args : Array Value} (hts : ∀ w ∈ wsX2_loseWaiting, w.before args s = true) : CallW rm_X2_loseWaiting s args RX2 RX3 90 yX3_write cX3_write 5 none wsX3_write rm_X3_write 0 0 3 :=
  cwV 3 hts gX2_loseWaiting_X3_write rfl rfl rfl (by decide +kernel) ⟨Nat.le_of_ble_eq_true rfl, Nat.le_of_ble_eq_true rfl⟩
set_option maxRecDepth 20000 in
theorem cw_X2_loseWaiting_X3_removeRow_96 {s : State} {args : Array Value} (hts : ∀ w ∈ wsX2_loseWaiting, w.before args s = true) : CallW rm_X2_loseWaiting s args RX2 RX3 96 yX3_removeRow cX3_removeRow 4 none wsX3_removeRow rm_X3_removeRow 0 0 1 :=
  cwV 1 hts gX2_loseWaiting_X3_removeRow rfl rfl rfl (by decide +kernel) ⟨Nat.le_of_ble_eq_true rfl, Nat.le_of_ble_eq_true rfl⟩
set_option maxHeartbeats 4000000 in
set_option maxRecDepth 100000 in
theorem c_X2_loseWaiting (l : Launch) (G : va_G) (cI cC cZ : ClassId) (X : List (ClassId × FieldType)) (a0 a1 a2 a3 a4 a5 a6 a7 a8 : Nat) (nu : Nat → Int32) (va : Nat → Int32) (qu : Nat → Int32) (sc : Nat → Int32) (lo : Nat → Int32) (wt : Int32) (x1 : Int32) (x2 : Int32) (nu' : Nat → Int32) (qu' : Nat → Int32) (lo' : Nat → Int32) (hf : fX2_loseWaiting nu qu lo x1 x2 = some (nu', qu', lo')) : CT l yX2_loseWaiting wsX2_loseWaiting rm_X2_loseWaiting G (TY cI cC cZ X) [.ref a0, .int x1, .int x2] (wSt cI a0 a1 a2 a3 a4 a5 a6 a7 a8 nu va qu sc lo wt) none (wSt cI a0 a1 a2 a3 a4 a5 a6 a7 a8 nu' va qu' sc lo' wt) := by
  refine CT.of (cc := cX2_loseWaiting) (maxL := 4) (ret := none) RX2 rfl (by decide) rfl (Nat.le_of_ble_eq_true rfl) ?_
  intro p e s m args below meth c A ls C hr hlocks hnm h hl
  have hx := C.hx
  have hb := C.hb
  have hl : lv_has ls 4 [(0, .ref a0), (1, .int x1), (2, .int x2)] := hl
  unfold fX2_loseWaiting at hf
  refine lv_aload_n hx hb dX2_loseWaiting_0 rfl (lv_at hl 0 rfl) ?_
  refine r_get C h 0 0 (ci := 2) (N := 6) (Cn := RX2) (T := TX2) rfl rfl (by decide) in_X2_loseWaiting_X2 lk_X2_loseWaiting_9 rfl dX2_loseWaiting_1 ?_
  refine lv_iconst (v := 4) hx hb dX2_loseWaiting_4 (by decide) ?_
  refine r_ald C h 1 rfl rfl k_4_24 dX2_loseWaiting_5 ?_
  refine lv_bipush (v := 8) hx hb dX2_loseWaiting_6 (by decide) ?_
  refine lv_irem hx hb dX2_loseWaiting_8 (by decide) ?_
  refine lv_topi (fun x3_1 ex3_1 => ?_)
  replace hf := nm_use hf ex3_1
  refine lv_istore_n (lv' := [(3, .int x3_1), (0, .ref a0), (1, .int x1), (2, .int x2)]) hx hb dX2_loseWaiting_9 rfl hl (by decide) rfl (fun ls hl => ?_)
  refine lv_aload_n hx hb dX2_loseWaiting_10 rfl (lv_at hl 1 rfl) ?_
  refine r_get C h 0 4 (ci := 2) (N := 6) (Cn := RX2) (T := TX2) rfl rfl (by decide) in_X2_loseWaiting_X2 lk_X2_loseWaiting_30 rfl dX2_loseWaiting_11 ?_
  refine lv_iload_n hx hb dX2_loseWaiting_14 rfl (lv_at hl 0 rfl) ?_
  refine lv_iconst (v := 0) hx hb dX2_loseWaiting_15 (by decide) ?_
  refine lv_aload_n hx hb dX2_loseWaiting_16 rfl (lv_at hl 1 rfl) ?_
  refine r_get C h 0 2 (ci := 2) (N := 6) (Cn := RX2) (T := TX2) rfl rfl (by decide) in_X2_loseWaiting_X2 lk_X2_loseWaiting_23 rfl dX2_loseWaiting_17 ?_
  refine lv_iload_n hx hb dX2_loseWaiting_20 rfl (lv_at hl 2 rfl) ?_
  refine lv_iconst (v := 0) hx hb dX2_loseWaiting_21 (by decide) ?_
  obtain ⟨r_2, hq_3, hf⟩ := ob1_use hf
  refine r_callV C h (cw_X2_loseWaiting_X3_read_93 C.hts) (rest := [.int 0, .int x3_1, .ref a7]) (ci := 3) (N := 2) (Cn := RX3) (T := TX3) (c_X3_read l G cI cC cZ X a3 a4 4 68 qu x1 (0 : Int32) r_2 hq_3) [3, 4] rfl rfl rfl rfl 3 rfl rfl hl.1 rfl (Nat.le_of_ble_eq_true rfl) ⟨Nat.le_of_ble_eq_true rfl, Nat.le_of_ble_eq_true rfl⟩ (wSt cI a0 a1 a2 a3 a4 a5 a6 a7 a8 nu va qu sc lo wt) rfl rfl dX2_loseWaiting_22 (fun H locs h => ?_)
  obtain ⟨lo_4, hq_5, hf⟩ := ob1_use hf
  refine r_callV C h (cw_X2_loseWaiting_X3_write_90 C.hts) (rest := []) (ci := 3) (N := 2) (Cn := RX3) (T := TX3) (c_X3_write l G cI cC cZ X a7 a8 4 32 lo x3_1 (0 : Int32) r_2 lo_4 hq_5) [7, 8] rfl rfl rfl rfl 7 rfl rfl hl.1 rfl (Nat.le_of_ble_eq_true rfl) ⟨Nat.le_of_ble_eq_true rfl, Nat.le_of_ble_eq_true rfl⟩ (wSt cI a0 a1 a2 a3 a4 a5 a6 a7 a8 nu va qu sc lo_4 wt) rfl rfl dX2_loseWaiting_25 (fun H locs h => ?_)
  refine lv_aload_n hx hb dX2_loseWaiting_28 rfl (lv_at hl 1 rfl) ?_
  refine r_get C h 0 4 (ci := 2) (N := 6) (Cn := RX2) (T := TX2) rfl rfl (by decide) in_X2_loseWaiting_X2 lk_X2_loseWaiting_30 rfl dX2_loseWaiting_29 ?_
  refine lv_iload_n hx hb dX2_loseWaiting_32 rfl (lv_at hl 0 rfl) ?_
  refine lv_iconst (v := 1) hx hb dX2_loseWaiting_33 (by decide) ?_
  refine lv_aload_n hx hb dX2_loseWaiting_34 rfl (lv_at hl 1 rfl) ?_
  refine r_get C h 0 2 (ci := 2) (N := 6) (Cn := RX2) (T := TX2) rfl rfl (by decide) in_X2_loseWaiting_X2 lk_X2_loseWaiting_23 rfl dX2_loseWaiting_35 ?_
  refine lv_iload_n hx hb dX2_loseWaiting_38 rfl (lv_at hl 2 rfl) ?_
  refine lv_iconst (v := 1) hx hb dX2_loseWaiting_39 (by decide) ?_
  obtain ⟨r_6, hq_7, hf⟩ := ob1_use hf
  refine r_callV C h (cw_X2_loseWaiting_X3_read_93 C.hts) (rest := [.int 1, .int x3_1, .ref a7]) (ci := 3) (N := 2) (Cn := RX3) (T := TX3) (c_X3_read l G cI cC cZ X a3 a4 4 68 qu x1 (1 : Int32) r_6 hq_7) [3, 4] rfl rfl rfl rfl 3 rfl rfl hl.1 rfl (Nat.le_of_ble_eq_true rfl) ⟨Nat.le_of_ble_eq_true rfl, Nat.le_of_ble_eq_true rfl⟩ (wSt cI a0 a1 a2 a3 a4 a5 a6 a7 a8 nu va qu sc lo_4 wt) rfl rfl dX2_loseWaiting_40 (fun H locs h => ?_)
  obtain ⟨lo_8, hq_9, hf⟩ := ob1_use hf
  refine r_callV C h (cw_X2_loseWaiting_X3_write_90 C.hts) (rest := []) (ci := 3) (N := 2) (Cn := RX3) (T := TX3) (c_X3_write l G cI cC cZ X a7 a8 4 32 lo_4 x3_1 (1 : Int32) r_6 lo_8 hq_9) [7, 8] rfl rfl rfl rfl 7 rfl rfl hl.1 rfl (Nat.le_of_ble_eq_true rfl) ⟨Nat.le_of_ble_eq_true rfl, Nat.le_of_ble_eq_true rfl⟩ (wSt cI a0 a1 a2 a3 a4 a5 a6 a7 a8 nu va qu sc lo_8 wt) rfl rfl dX2_loseWaiting_43 (fun H locs h => ?_)
  refine lv_aload_n hx hb dX2_loseWaiting_46 rfl (lv_at hl 1 rfl) ?_
  refine r_get C h 0 4 (ci := 2) (N := 6) (Cn := RX2) (T := TX2) rfl rfl (by decide) in_X2_loseWaiting_X2 lk_X2_loseWaiting_30 rfl dX2_loseWaiting_47 ?_
  refine lv_iload_n hx hb dX2_loseWaiting_50 rfl (lv_at hl 0 rfl) ?_
  refine lv_iconst (v := 2) hx hb dX2_loseWaiting_51 (by decide) ?_
  refine lv_iload_n hx hb dX2_loseWaiting_52 rfl (lv_at hl 3 rfl) ?_
  obtain ⟨lo_10, hq_11, hf⟩ := ob1_use hf
  refine r_callV C h (cw_X2_loseWaiting_X3_write_90 C.hts) (rest := []) (ci := 3) (N := 2) (Cn := RX3) (T := TX3) (c_X3_write l G cI cC cZ X a7 a8 4 32 lo_8 x3_1 (2 : Int32) x2 lo_10 hq_11) [7, 8] rfl rfl rfl rfl 7 rfl rfl hl.1 rfl (Nat.le_of_ble_eq_true rfl) ⟨Nat.le_of_ble_eq_true rfl, Nat.le_of_ble_eq_true rfl⟩ (wSt cI a0 a1 a2 a3 a4 a5 a6 a7 a8 nu va qu sc lo_10 wt) rfl rfl dX2_loseWaiting_53 (fun H locs h => ?_)
  refine lv_aload_n hx hb dX2_loseWaiting_56 rfl (lv_at hl 1 rfl) ?_
  refine r_get C h 0 4 (ci := 2) (N := 6) (Cn := RX2) (T := TX2) rfl rfl (by decide) in_X2_loseWaiting_X2 lk_X2_loseWaiting_30 rfl dX2_loseWaiting_57 ?_
  refine lv_iload_n hx hb dX2_loseWaiting_60 rfl (lv_at hl 0 rfl) ?_
  refine lv_iconst (v := 3) hx hb dX2_loseWaiting_61 (by decide) ?_
  refine lv_aload_n hx hb dX2_loseWaiting_62 rfl (lv_at hl 1 rfl) ?_
  refine r_get C h 0 0 (ci := 2) (N := 6) (Cn := RX2) (T := TX2) rfl rfl (by decide) in_X2_loseWaiting_X2 lk_X2_loseWaiting_9 rfl dX2_loseWaiting_63 ?_
  refine lv_iconst (v := 0) hx hb dX2_loseWaiting_66 (by decide) ?_
  refine r_ald C h 1 rfl rfl k_0_24 dX2_loseWaiting_67 ?_
  obtain ⟨lo_12, hq_13, hf⟩ := ob1_use hf
  refine r_callV C h (cw_X2_loseWaiting_X3_write_90 C.hts) (rest := []) (ci := 3) (N := 2) (Cn := RX3) (T := TX3) (c_X3_write l G cI cC cZ X a7 a8 4 32 lo_10 x3_1 (3 : Int32) (nu 0) lo_12 hq_13) [7, 8] rfl rfl rfl rfl 7 rfl rfl hl.1 rfl (Nat.le_of_ble_eq_true rfl) ⟨Nat.le_of_ble_eq_true rfl, Nat.le_of_ble_eq_true rfl⟩ (wSt cI a0 a1 a2 a3 a4 a5 a6 a7 a8 nu va qu sc lo_12 wt) rfl rfl dX2_loseWaiting_68 (fun H locs h => ?_)
  refine lv_aload_n hx hb dX2_loseWaiting_71 rfl (lv_at hl 1 rfl) ?_
  refine r_get C h 0 0 (ci := 2) (N := 6) (Cn := RX2) (T := TX2) rfl rfl (by decide) in_X2_loseWaiting_X2 lk_X2_loseWaiting_9 rfl dX2_loseWaiting_72 ?_
  refine lv_iconst (v := 4) hx hb dX2_loseWaiting_75 (by decide) ?_
  refine lv_dup2_11 hx hb dX2_loseWaiting_76 rfl rfl ?_
  refine r_ald C h 1 rfl rfl k_4_24 dX2_loseWaiting_77 ?_
  refine lv_iconst (v := 1) hx hb dX2_loseWaiting_78 (by decide) ?_
  refine lv_iadd hx hb dX2_loseWaiting_79 ?_
  refine r_ast C h 1 rfl rfl k_4_24 (fun z__ => (wSt cI a0 a1 a2 a3 a4 a5 a6 a7 a8 z__ va qu sc lo_12 wt)) (fun _ => rfl) dX2_loseWaiting_80 (fun nu_14 enu_14 H locs h => ?_)
  replace hf := nm_use hf enu_14
  refine lv_aload_n hx hb dX2_loseWaiting_81 rfl (lv_at hl 1 rfl) ?_
  refine r_get C h 0 2 (ci := 2) (N := 6) (Cn := RX2) (T := TX2) rfl rfl (by decide) in_X2_loseWaiting_X2 lk_X2_loseWaiting_23 rfl dX2_loseWaiting_82 ?_
  refine lv_iload_n hx hb dX2_loseWaiting_85 rfl (lv_at hl 2 rfl) ?_
  obtain ⟨qu_15, hq_16, hf⟩ := ob1_use hf
  refine r_callV C h (cw_X2_loseWaiting_X3_removeRow_96 C.hts) (rest := []) (ci := 3) (N := 2) (Cn := RX3) (T := TX3) (c_X3_removeRow l G cI cC cZ X a3 a4 4 68 qu x1 qu_15 hq_16) [3, 4] rfl rfl rfl rfl 3 rfl rfl hl.1 rfl (Nat.le_of_ble_eq_true rfl) ⟨Nat.le_of_ble_eq_true rfl, Nat.le_of_ble_eq_true rfl⟩ (wSt cI a0 a1 a2 a3 a4 a5 a6 a7 a8 nu_14 va qu_15 sc lo_12 wt) rfl rfl dX2_loseWaiting_86 (fun H locs h => ?_)
  refine lv_aload_n hx hb dX2_loseWaiting_89 rfl (lv_at hl 1 rfl) ?_
  refine r_get C h 0 0 (ci := 2) (N := 6) (Cn := RX2) (T := TX2) rfl rfl (by decide) in_X2_loseWaiting_X2 lk_X2_loseWaiting_9 rfl dX2_loseWaiting_90 ?_
  refine lv_iconst (v := 2) hx hb dX2_loseWaiting_93 (by decide) ?_
  refine lv_dup2_11 hx hb dX2_loseWaiting_94 rfl rfl ?_
  refine r_ald C h 1 rfl rfl k_2_24 dX2_loseWaiting_95 ?_
  refine lv_iconst (v := 1) hx hb dX2_loseWaiting_96 (by decide) ?_
  refine lv_isub hx hb dX2_loseWaiting_97 ?_
  refine r_ast C h 1 rfl rfl k_2_24 (fun z__ => (wSt cI a0 a1 a2 a3 a4 a5 a6 a7 a8 z__ va qu_15 sc lo_12 wt)) (fun _ => rfl) dX2_loseWaiting_98 (fun nu_17 enu_17 H locs h => ?_)
  replace hf := nm_use hf enu_17
  cases hf
  exact r_vret C h hr hlocks dX2_loseWaiting_99
def rm_X2_skipAll : Room := { frames := 3, cells := 0, slots := 0, locals := 64 }
set_option maxRecDepth 20000 in
theorem lk_X2_skipAll_9 : Cond.fieldLink RX2 9 "LineDoubler$State" "numbers" "[I" ∈ wsX2_skipAll := List.mem_of_getElem? (i := 1) (by decide +kernel)
set_option maxRecDepth 20000 in
theorem in_X2_skipAll_X2 : ∀ x ∈ wsX20, x ∈ wsX2_skipAll := mem_r _ [28, 29, 30, 31, 32, 33] (by decide +kernel)
set_option maxRecDepth 20000 in
theorem cw_X2_skipAll_X2_loseWaiting_79 {s : State} {args : Array Value} (hts : ∀ w ∈ wsX2_skipAll, w.before args s = true) : CallW rm_X2_skipAll s args RX2 RX2 79 yX2_loseWaiting cX2_loseWaiting 4 none wsX2_loseWaiting rm_X2_loseWaiting 0 0 2 :=
  cwV 2 hts gX2_skipAll_X2_loseWaiting rfl rfl rfl (by decide +kernel) ⟨Nat.le_of_ble_eq_true rfl, Nat.le_of_ble_eq_true rfl⟩
set_option maxHeartbeats 4000000 in
set_option maxRecDepth 100000 in
theorem c_X2_skipAll (l : Launch) (G : va_G) (cI cC cZ : ClassId) (X : List (ClassId × FieldType)) (a0 a1 a2 a3 a4 a5 a6 a7 a8 : Nat) (nu : Nat → Int32) (va : Nat → Int32) (qu : Nat → Int32) (sc : Nat → Int32) (lo : Nat → Int32) (wt : Int32) (rv : Int32) (nu' : Nat → Int32) (qu' : Nat → Int32) (lo' : Nat → Int32) (hf : fX2_skipAll nu qu lo = some (rv, nu', qu', lo')) : CT l yX2_skipAll wsX2_skipAll rm_X2_skipAll G (TY cI cC cZ X) [.ref a0] (wSt cI a0 a1 a2 a3 a4 a5 a6 a7 a8 nu va qu sc lo wt) (some (.int rv)) (wSt cI a0 a1 a2 a3 a4 a5 a6 a7 a8 nu' va qu' sc lo' wt) := by
  refine CT.of (cc := cX2_skipAll) (maxL := 3) (ret := (some .int)) RX2 rfl (by decide) rfl (Nat.le_of_ble_eq_true rfl) ?_
  intro p e s m args below meth c A ls C hr hlocks hnm h hl
  have hx := C.hx
  have hb := C.hb
  have hl : lv_has ls 3 [(0, .ref a0)] := hl
  have cut_9 : ∀ (n : Nat) (nu : Nat → Int32) (qu : Nat → Int32) (lo : Nat → Int32) (x1 : Int32) (x2 : Int32) (H : Heap) (locs : List Loc) (ls : Array Slot), Hx s G A (wSt cI a0 a1 a2 a3 a4 a5 a6 a7 a8 nu va qu sc lo wt) H locs → lv_has ls 3 [(0, .ref a0), (1, .int x1), (2, .int x2)] → fX2_skipAll_9 n nu qu lo x1 x2 = some (rv, nu', qu', lo') → W p l e rm_X2_skipAll s m args below meth c H locs 0 0 (MQ below (Qx G (some (.int rv)) (wSt cI a0 a1 a2 a3 a4 a5 a6 a7 a8 nu' va qu' sc lo' wt) A) args s 0 0 A) (F0 m 9 ls []) := by
    intro n
    induction n with
    | zero =>
      intro nu qu lo x1 x2 H locs ls h hl hf
      exact (nn_some _ hf).elim
    | succ n ih =>
      intro nu qu lo x1 x2 H locs ls h hl hf
      have hf : fX2_skipAll_9_b (fX2_skipAll_9 n) nu qu lo x1 x2 = some (rv, nu', qu', lo') := hf
      unfold fX2_skipAll_9_b at hf
      refine lv_iload_n hx hb dX2_skipAll_9 rfl (lv_at hl 2 rfl) ?_
      refine lv_iload_n hx hb dX2_skipAll_10 rfl (lv_at hl 1 rfl) ?_
      refine lv_icmp_ge (tgt := 26) hx hb dX2_skipAll_11 (by decide) (fun hc => ?_) (fun hc => ?_)
      · replace hf := it_t hf hc
        refine lv_iload_n hx hb dX2_skipAll_26 rfl (lv_at hl 1 rfl) ?_
        cases hf
        exact r_iret C h hr hlocks dX2_skipAll_27
      · replace hf := it_f hf hc
        refine lv_aload_n hx hb dX2_skipAll_14 rfl (lv_at hl 0 rfl) ?_
        refine lv_iconst (v := 0) hx hb dX2_skipAll_15 (by decide) ?_
        refine lv_iconst (v := 2) hx hb dX2_skipAll_16 (by decide) ?_
        obtain ⟨nu_1, qu_2, lo_3, hq_4, hf⟩ := ob3_use hf
        refine r_callV C h (cw_X2_skipAll_X2_loseWaiting_79 C.hts) (rest := []) (ci := 2) (N := 6) (Cn := RX2) (T := TX2) (c_X2_loseWaiting l G cI cC cZ X a0 a1 a2 a3 a4 a5 a6 a7 a8 nu va qu sc lo wt (0 : Int32) (2 : Int32) nu_1 qu_2 lo_3 hq_4) [0, 1, 2, 3, 4, 5, 6, 7, 8] rfl rfl rfl rfl 0 rfl rfl hl.1 rfl (Nat.le_of_ble_eq_true rfl) ⟨Nat.le_of_ble_eq_true rfl, Nat.le_of_ble_eq_true rfl⟩ (wSt cI a0 a1 a2 a3 a4 a5 a6 a7 a8 nu_1 va qu_2 sc lo_3 wt) rfl rfl dX2_skipAll_17 (fun H locs h => ?_)
        obtain ⟨x2_5, ex2_5⟩ : ∃ y : Int32, y = x2 + 1 := ⟨_, rfl⟩
        replace hf := nm_use hf ex2_5
        refine lv_iinc (v := x2_5) (lv' := [(2, .int x2_5), (0, .ref a0), (1, .int x1)]) hx hb dX2_skipAll_20 hl (k := 2) rfl (by rw [ex2_5]; rfl) (by decide) rfl (fun ls hl => ?_)
        refine lv_goto (tgt := 9) hx hb dX2_skipAll_23 (by decide) ?_
        exact ih nu_1 qu_2 lo_3 x1 x2_5 _ _ _ h (lv_sub hl [1, 2, 0] rfl) hf
  unfold fX2_skipAll at hf
  refine lv_aload_n hx hb dX2_skipAll_0 rfl (lv_at hl 0 rfl) ?_
  refine r_get C h 0 0 (ci := 2) (N := 6) (Cn := RX2) (T := TX2) rfl rfl (by decide) in_X2_skipAll_X2 lk_X2_skipAll_9 rfl dX2_skipAll_1 ?_
  refine lv_iconst (v := 2) hx hb dX2_skipAll_4 (by decide) ?_
  refine r_ald C h 1 rfl rfl k_2_24 dX2_skipAll_5 ?_
  refine lv_topi (fun x1_1 ex1_1 => ?_)
  replace hf := nm_use hf ex1_1
  refine lv_istore_n (lv' := [(1, .int x1_1), (0, .ref a0)]) hx hb dX2_skipAll_6 rfl hl (by decide) rfl (fun ls hl => ?_)
  refine lv_iconst (v := 0) hx hb dX2_skipAll_7 (by decide) ?_
  refine lv_istore_n (lv' := [(2, .int 0), (1, .int x1_1), (0, .ref a0)]) hx hb dX2_skipAll_8 rfl hl (by decide) rfl (fun ls hl => ?_)
  exact cut_9 KF nu qu lo x1_1 0 _ _ _ h (lv_sub hl [2, 1, 0] rfl) hf
def rm_X2_lineComes : Room := { frames := 3, cells := 0, slots := 0, locals := 67 }
set_option maxRecDepth 20000 in
theorem lk_X2_lineComes_9 : Cond.fieldLink RX2 9 "LineDoubler$State" "numbers" "[I" ∈ wsX2_lineComes := List.mem_of_getElem? (i := 1) (by decide +kernel)
set_option maxRecDepth 20000 in
theorem in_X2_lineComes_X2 : ∀ x ∈ wsX20, x ∈ wsX2_lineComes := mem_r _ [44, 45, 46, 47, 48, 49] (by decide +kernel)
set_option maxRecDepth 20000 in
theorem cw_X2_lineComes_X2_nextLineWaits_83 {s : State} {args : Array Value} (hts : ∀ w ∈ wsX2_lineComes, w.before args s = true) : CallW rm_X2_lineComes s args RX2 RX2 83 yX2_nextLineWaits cX2_nextLineWaits 5 none wsX2_nextLineWaits rm_X2_nextLineWaits 0 0 0 :=
  cwV 0 hts gX2_lineComes_X2_nextLineWaits rfl rfl rfl (by decide +kernel) ⟨Nat.le_of_ble_eq_true rfl, Nat.le_of_ble_eq_true rfl⟩
set_option maxRecDepth 20000 in
theorem cw_X2_lineComes_X2_setting_54 {s : State} {args : Array Value} (hts : ∀ w ∈ wsX2_lineComes, w.before args s = true) : CallW rm_X2_lineComes s args RX2 RX2 54 yX2_setting cX2_setting 2 (some .int) wsX2_setting rm_X2_setting 0 0 1 :=
  cwV 1 hts gX2_lineComes_X2_setting rfl rfl rfl (by decide +kernel) ⟨Nat.le_of_ble_eq_true rfl, Nat.le_of_ble_eq_true rfl⟩
set_option maxRecDepth 20000 in
theorem cw_X2_lineComes_X2_loseWaiting_79 {s : State} {args : Array Value} (hts : ∀ w ∈ wsX2_lineComes, w.before args s = true) : CallW rm_X2_lineComes s args RX2 RX2 79 yX2_loseWaiting cX2_loseWaiting 4 none wsX2_loseWaiting rm_X2_loseWaiting 0 0 2 :=
  cwV 2 hts gX2_lineComes_X2_loseWaiting rfl rfl rfl (by decide +kernel) ⟨Nat.le_of_ble_eq_true rfl, Nat.le_of_ble_eq_true rfl⟩
set_option maxRecDepth 20000 in
theorem cw_X2_lineComes_X2_firstNotOut_86 {s : State} {args : Array Value} (hts : ∀ w ∈ wsX2_lineComes, w.before args s = true) : CallW rm_X2_lineComes s args RX2 RX2 86 yX2_firstNotOut cX2_firstNotOut 2 (some .int) wsX2_firstNotOut rm_X2_firstNotOut 0 0 0 :=
  cwV 0 hts gX2_lineComes_X2_firstNotOut rfl rfl rfl (by decide +kernel) ⟨Nat.le_of_ble_eq_true rfl, Nat.le_of_ble_eq_true rfl⟩
set_option maxHeartbeats 4000000 in
set_option maxRecDepth 100000 in
theorem c_X2_lineComes (l : Launch) (G : va_G) (cI cC cZ : ClassId) (X : List (ClassId × FieldType)) (a0 a1 a2 a3 a4 a5 a6 a7 a8 : Nat) (nu : Nat → Int32) (va : Nat → Int32) (qu : Nat → Int32) (sc : Nat → Int32) (lo : Nat → Int32) (wt : Int32) (nu' : Nat → Int32) (qu' : Nat → Int32) (lo' : Nat → Int32) (hf : fX2_lineComes nu va qu lo = some (nu', qu', lo')) : CT l yX2_lineComes wsX2_lineComes rm_X2_lineComes G (TY cI cC cZ X) [.ref a0] (wSt cI a0 a1 a2 a3 a4 a5 a6 a7 a8 nu va qu sc lo wt) none (wSt cI a0 a1 a2 a3 a4 a5 a6 a7 a8 nu' va qu' sc lo' wt) := by
  refine CT.of (cc := cX2_lineComes) (maxL := 3) (ret := none) RX2 rfl (by decide) rfl (Nat.le_of_ble_eq_true rfl) ?_
  intro p e s m args below meth c A ls C hr hlocks hnm h hl
  have hx := C.hx
  have hb := C.hb
  have hl : lv_has ls 3 [(0, .ref a0)] := hl
  have cut_115 : ∀ (nu : Nat → Int32) (qu : Nat → Int32) (lo : Nat → Int32) (H : Heap) (locs : List Loc) (ls : Array Slot), Hx s G A (wSt cI a0 a1 a2 a3 a4 a5 a6 a7 a8 nu va qu sc lo wt) H locs → lv_has ls 3 [(0, .ref a0)] → fX2_lineComes_115 nu va qu lo = some (nu', qu', lo') → W p l e rm_X2_lineComes s m args below meth c H locs 0 0 (MQ below (Qx G none (wSt cI a0 a1 a2 a3 a4 a5 a6 a7 a8 nu' va qu' sc lo' wt) A) args s 0 0 A) (F0 m 115 ls []) := by
    intro nu qu lo H locs ls h hl hf
    unfold fX2_lineComes_115 at hf
    refine lv_aload_n hx hb dX2_lineComes_115 rfl (lv_at hl 0 rfl) ?_
    refine r_get C h 0 0 (ci := 2) (N := 6) (Cn := RX2) (T := TX2) rfl rfl (by decide) in_X2_lineComes_X2 lk_X2_lineComes_9 rfl dX2_lineComes_116 ?_
    refine lv_bipush (v := 10) hx hb dX2_lineComes_119 (by decide) ?_
    refine lv_dup2_11 hx hb dX2_lineComes_121 rfl rfl ?_
    refine r_ald C h 1 rfl rfl k_10_24 dX2_lineComes_122 ?_
    refine lv_aload_n hx hb dX2_lineComes_123 rfl (lv_at hl 0 rfl) ?_
    refine lv_iconst (v := 0) hx hb dX2_lineComes_124 (by decide) ?_
    obtain ⟨r_1, hq_2, hf⟩ := ob1_use hf
    refine r_callV C h (cw_X2_lineComes_X2_setting_54 C.hts) (rest := [.int (nu 10), .int 10, .ref a1]) (ci := 2) (N := 6) (Cn := RX2) (T := TX2) (c_X2_setting l G cI cC cZ X a0 a1 a2 a3 a4 a5 a6 a7 a8 nu va qu sc lo wt (0 : Int32) r_1 hq_2) [0, 1, 2, 3, 4, 5, 6, 7, 8] rfl rfl rfl rfl 0 rfl rfl hl.1 rfl (Nat.le_of_ble_eq_true rfl) ⟨Nat.le_of_ble_eq_true rfl, Nat.le_of_ble_eq_true rfl⟩ (wSt cI a0 a1 a2 a3 a4 a5 a6 a7 a8 nu va qu sc lo wt) rfl rfl dX2_lineComes_125 (fun H locs h => ?_)
    refine lv_iadd hx hb dX2_lineComes_128 ?_
    refine r_ast C h 1 rfl rfl k_10_24 (fun z__ => (wSt cI a0 a1 a2 a3 a4 a5 a6 a7 a8 z__ va qu sc lo wt)) (fun _ => rfl) dX2_lineComes_129 (fun nu_3 enu_3 H locs h => ?_)
    replace hf := nm_use hf enu_3
    cases hf
    exact r_vret C h hr hlocks dX2_lineComes_130
  have cut_70 : ∀ (nu : Nat → Int32) (qu : Nat → Int32) (lo : Nat → Int32) (H : Heap) (locs : List Loc) (ls : Array Slot), Hx s G A (wSt cI a0 a1 a2 a3 a4 a5 a6 a7 a8 nu va qu sc lo wt) H locs → lv_has ls 3 [(0, .ref a0)] → fX2_lineComes_70 nu va qu lo = some (nu', qu', lo') → W p l e rm_X2_lineComes s m args below meth c H locs 0 0 (MQ below (Qx G none (wSt cI a0 a1 a2 a3 a4 a5 a6 a7 a8 nu' va qu' sc lo' wt) A) args s 0 0 A) (F0 m 70 ls []) := by
    intro nu qu lo H locs ls h hl hf
    unfold fX2_lineComes_70 at hf
    refine lv_aload_n hx hb dX2_lineComes_70 rfl (lv_at hl 0 rfl) ?_
    refine r_get C h 0 0 (ci := 2) (N := 6) (Cn := RX2) (T := TX2) rfl rfl (by decide) in_X2_lineComes_X2 lk_X2_lineComes_9 rfl dX2_lineComes_71 ?_
    refine lv_bipush (v := 8) hx hb dX2_lineComes_74 (by decide) ?_
    refine lv_dup2_11 hx hb dX2_lineComes_76 rfl rfl ?_
    refine r_ald C h 1 rfl rfl k_8_24 dX2_lineComes_77 ?_
    refine lv_iconst (v := 1) hx hb dX2_lineComes_78 (by decide) ?_
    refine lv_iadd hx hb dX2_lineComes_79 ?_
    refine r_ast C h 1 rfl rfl k_8_24 (fun z__ => (wSt cI a0 a1 a2 a3 a4 a5 a6 a7 a8 z__ va qu sc lo wt)) (fun _ => rfl) dX2_lineComes_80 (fun nu_1 enu_1 H locs h => ?_)
    replace hf := nm_use hf enu_1
    refine lv_aload_n hx hb dX2_lineComes_81 rfl (lv_at hl 0 rfl) ?_
    refine r_get C h 0 0 (ci := 2) (N := 6) (Cn := RX2) (T := TX2) rfl rfl (by decide) in_X2_lineComes_X2 lk_X2_lineComes_9 rfl dX2_lineComes_82 ?_
    refine lv_bipush (v := 8) hx hb dX2_lineComes_85 (by decide) ?_
    refine r_ald C h 1 rfl rfl k_8_24 dX2_lineComes_87 ?_
    refine lv_aload_n hx hb dX2_lineComes_88 rfl (lv_at hl 0 rfl) ?_
    refine lv_iconst (v := 3) hx hb dX2_lineComes_89 (by decide) ?_
    obtain ⟨r_2, hq_3, hf⟩ := ob1_use hf
    refine r_callV C h (cw_X2_lineComes_X2_setting_54 C.hts) (rest := [.int (nu_1 8)]) (ci := 2) (N := 6) (Cn := RX2) (T := TX2) (c_X2_setting l G cI cC cZ X a0 a1 a2 a3 a4 a5 a6 a7 a8 nu_1 va qu sc lo wt (3 : Int32) r_2 hq_3) [0, 1, 2, 3, 4, 5, 6, 7, 8] rfl rfl rfl rfl 0 rfl rfl hl.1 rfl (Nat.le_of_ble_eq_true rfl) ⟨Nat.le_of_ble_eq_true rfl, Nat.le_of_ble_eq_true rfl⟩ (wSt cI a0 a1 a2 a3 a4 a5 a6 a7 a8 nu_1 va qu sc lo wt) rfl rfl dX2_lineComes_90 (fun H locs h => ?_)
    refine lv_icmp_lt (tgt := 115) hx hb dX2_lineComes_93 (by decide) (fun hc => ?_) (fun hc => ?_)
    · replace hf := it_t hf hc
      exact cut_115 nu_1 qu lo _ _ _ h (lv_sub hl [0] rfl) hf
    · replace hf := it_f hf hc
      refine lv_aload_n hx hb dX2_lineComes_96 rfl (lv_at hl 0 rfl) ?_
      refine r_get C h 0 0 (ci := 2) (N := 6) (Cn := RX2) (T := TX2) rfl rfl (by decide) in_X2_lineComes_X2 lk_X2_lineComes_9 rfl dX2_lineComes_97 ?_
      refine lv_bipush (v := 8) hx hb dX2_lineComes_100 (by decide) ?_
      refine lv_iconst (v := 0) hx hb dX2_lineComes_102 (by decide) ?_
      refine r_ast C h 1 rfl rfl k_8_24 (fun z__ => (wSt cI a0 a1 a2 a3 a4 a5 a6 a7 a8 z__ va qu sc lo wt)) (fun _ => rfl) dX2_lineComes_103 (fun nu_4 enu_4 H locs h => ?_)
      replace hf := nm_use hf enu_4
      refine lv_aload_n hx hb dX2_lineComes_104 rfl (lv_at hl 0 rfl) ?_
      refine r_get C h 0 0 (ci := 2) (N := 6) (Cn := RX2) (T := TX2) rfl rfl (by decide) in_X2_lineComes_X2 lk_X2_lineComes_9 rfl dX2_lineComes_105 ?_
      refine lv_bipush (v := 9) hx hb dX2_lineComes_108 (by decide) ?_
      refine lv_dup2_11 hx hb dX2_lineComes_110 rfl rfl ?_
      refine r_ald C h 1 rfl rfl k_9_24 dX2_lineComes_111 ?_
      refine lv_iconst (v := 1) hx hb dX2_lineComes_112 (by decide) ?_
      refine lv_iadd hx hb dX2_lineComes_113 ?_
      refine r_ast C h 1 rfl rfl k_9_24 (fun z__ => (wSt cI a0 a1 a2 a3 a4 a5 a6 a7 a8 z__ va qu sc lo wt)) (fun _ => rfl) dX2_lineComes_114 (fun nu_5 enu_5 H locs h => ?_)
      replace hf := nm_use hf enu_5
      exact cut_115 nu_5 qu lo _ _ _ h (lv_sub hl [0] rfl) hf
  unfold fX2_lineComes at hf
  refine lv_aload_n hx hb dX2_lineComes_0 rfl (lv_at hl 0 rfl) ?_
  refine r_get C h 0 0 (ci := 2) (N := 6) (Cn := RX2) (T := TX2) rfl rfl (by decide) in_X2_lineComes_X2 lk_X2_lineComes_9 rfl dX2_lineComes_1 ?_
  refine lv_iconst (v := 1) hx hb dX2_lineComes_4 (by decide) ?_
  refine lv_dup2_11 hx hb dX2_lineComes_5 rfl rfl ?_
  refine r_ald C h 1 rfl rfl k_1_24 dX2_lineComes_6 ?_
  refine lv_iconst (v := 1) hx hb dX2_lineComes_7 (by decide) ?_
  refine lv_iadd hx hb dX2_lineComes_8 ?_
  refine r_ast C h 1 rfl rfl k_1_24 (fun z__ => (wSt cI a0 a1 a2 a3 a4 a5 a6 a7 a8 z__ va qu sc lo wt)) (fun _ => rfl) dX2_lineComes_9 (fun nu_1 enu_1 H locs h => ?_)
  replace hf := nm_use hf enu_1
  refine lv_aload_n hx hb dX2_lineComes_10 rfl (lv_at hl 0 rfl) ?_
  obtain ⟨nu_2, qu_3, hq_4, hf⟩ := ob2_use hf
  refine r_callV C h (cw_X2_lineComes_X2_nextLineWaits_83 C.hts) (rest := []) (ci := 2) (N := 6) (Cn := RX2) (T := TX2) (c_X2_nextLineWaits l G cI cC cZ X a0 a1 a2 a3 a4 a5 a6 a7 a8 nu_1 va qu sc lo wt nu_2 qu_3 hq_4) [0, 1, 2, 3, 4, 5, 6, 7, 8] rfl rfl rfl rfl 0 rfl rfl hl.1 rfl (Nat.le_of_ble_eq_true rfl) ⟨Nat.le_of_ble_eq_true rfl, Nat.le_of_ble_eq_true rfl⟩ (wSt cI a0 a1 a2 a3 a4 a5 a6 a7 a8 nu_2 va qu_3 sc lo wt) rfl rfl dX2_lineComes_11 (fun H locs h => ?_)
  refine lv_aload_n hx hb dX2_lineComes_14 rfl (lv_at hl 0 rfl) ?_
  refine r_get C h 0 0 (ci := 2) (N := 6) (Cn := RX2) (T := TX2) rfl rfl (by decide) in_X2_lineComes_X2 lk_X2_lineComes_9 rfl dX2_lineComes_15 ?_
  refine lv_iconst (v := 2) hx hb dX2_lineComes_18 (by decide) ?_
  refine r_ald C h 1 rfl rfl k_2_24 dX2_lineComes_19 ?_
  refine lv_aload_n hx hb dX2_lineComes_20 rfl (lv_at hl 0 rfl) ?_
  refine lv_iconst (v := 2) hx hb dX2_lineComes_21 (by decide) ?_
  obtain ⟨r_5, hq_6, hf⟩ := ob1_use hf
  refine r_callV C h (cw_X2_lineComes_X2_setting_54 C.hts) (rest := [.int (nu_2 2)]) (ci := 2) (N := 6) (Cn := RX2) (T := TX2) (c_X2_setting l G cI cC cZ X a0 a1 a2 a3 a4 a5 a6 a7 a8 nu_2 va qu_3 sc lo wt (2 : Int32) r_5 hq_6) [0, 1, 2, 3, 4, 5, 6, 7, 8] rfl rfl rfl rfl 0 rfl rfl hl.1 rfl (Nat.le_of_ble_eq_true rfl) ⟨Nat.le_of_ble_eq_true rfl, Nat.le_of_ble_eq_true rfl⟩ (wSt cI a0 a1 a2 a3 a4 a5 a6 a7 a8 nu_2 va qu_3 sc lo wt) rfl rfl dX2_lineComes_22 (fun H locs h => ?_)
  refine lv_icmp_le (tgt := 70) hx hb dX2_lineComes_25 (by decide) (fun hc => ?_) (fun hc => ?_)
  · replace hf := it_t hf hc
    exact cut_70 nu_2 qu_3 lo _ _ _ h (lv_sub hl [0] rfl) hf
  · replace hf := it_f hf hc
    refine lv_aload_n hx hb dX2_lineComes_28 rfl (lv_at hl 0 rfl) ?_
    refine r_get C h 0 0 (ci := 2) (N := 6) (Cn := RX2) (T := TX2) rfl rfl (by decide) in_X2_lineComes_X2 lk_X2_lineComes_9 rfl dX2_lineComes_29 ?_
    refine lv_iconst (v := 2) hx hb dX2_lineComes_32 (by decide) ?_
    refine r_ald C h 1 rfl rfl k_2_24 dX2_lineComes_33 ?_
    refine lv_iconst (v := 1) hx hb dX2_lineComes_34 (by decide) ?_
    refine lv_isub hx hb dX2_lineComes_35 ?_
    refine lv_topi (fun x1_7 ex1_7 => ?_)
    replace hf := nm_use hf ex1_7
    refine lv_istore_n (lv' := [(1, .int x1_7), (0, .ref a0)]) hx hb dX2_lineComes_36 rfl hl (by decide) rfl (fun ls hl => ?_)
    refine lv_aload_n hx hb dX2_lineComes_37 rfl (lv_at hl 1 rfl) ?_
    refine lv_iconst (v := 4) hx hb dX2_lineComes_38 (by decide) ?_
    obtain ⟨r_8, hq_9, hf⟩ := ob1_use hf
    refine r_callV C h (cw_X2_lineComes_X2_setting_54 C.hts) (rest := []) (ci := 2) (N := 6) (Cn := RX2) (T := TX2) (c_X2_setting l G cI cC cZ X a0 a1 a2 a3 a4 a5 a6 a7 a8 nu_2 va qu_3 sc lo wt (4 : Int32) r_8 hq_9) [0, 1, 2, 3, 4, 5, 6, 7, 8] rfl rfl rfl rfl 0 rfl rfl hl.1 rfl (Nat.le_of_ble_eq_true rfl) ⟨Nat.le_of_ble_eq_true rfl, Nat.le_of_ble_eq_true rfl⟩ (wSt cI a0 a1 a2 a3 a4 a5 a6 a7 a8 nu_2 va qu_3 sc lo wt) rfl rfl dX2_lineComes_39 (fun H locs h => ?_)
    refine lv_iconst (v := 1) hx hb dX2_lineComes_42 (by decide) ?_
    refine lv_icmp_ne (tgt := 53) hx hb dX2_lineComes_43 (by decide) (fun hc => ?_) (fun hc => ?_)
    · replace hf := it_f hf hc
      refine lv_iload_n hx hb dX2_lineComes_53 rfl (lv_at hl 0 rfl) ?_
      refine lv_istore_n (lv' := [(2, .int x1_7), (1, .int x1_7), (0, .ref a0)]) hx hb dX2_lineComes_54 rfl hl (by decide) rfl (fun ls hl => ?_)
      refine lv_aload_n hx hb dX2_lineComes_55 rfl (lv_at hl 2 rfl) ?_
      refine lv_iload_n hx hb dX2_lineComes_56 rfl (lv_at hl 0 rfl) ?_
      refine lv_iload_n hx hb dX2_lineComes_57 rfl (lv_at hl 0 rfl) ?_
      refine lv_iload_n hx hb dX2_lineComes_58 rfl (lv_at hl 1 rfl) ?_
      refine lv_icmp_ne (tgt := 66) hx hb dX2_lineComes_59 (by decide) (fun hc => ?_) (fun hc => ?_)
      · replace hf := it_f hf hc
        refine lv_iconst (v := 1) hx hb dX2_lineComes_66 (by decide) ?_
        obtain ⟨nu_10, qu_11, lo_12, hq_13, hf⟩ := ob3_use hf
        refine r_callV C h (cw_X2_lineComes_X2_loseWaiting_79 C.hts) (rest := []) (ci := 2) (N := 6) (Cn := RX2) (T := TX2) (c_X2_loseWaiting l G cI cC cZ X a0 a1 a2 a3 a4 a5 a6 a7 a8 nu_2 va qu_3 sc lo wt x1_7 (1 : Int32) nu_10 qu_11 lo_12 hq_13) [0, 1, 2, 3, 4, 5, 6, 7, 8] rfl rfl rfl rfl 0 rfl rfl hl.1 rfl (Nat.le_of_ble_eq_true rfl) ⟨Nat.le_of_ble_eq_true rfl, Nat.le_of_ble_eq_true rfl⟩ (wSt cI a0 a1 a2 a3 a4 a5 a6 a7 a8 nu_10 va qu_11 sc lo_12 wt) rfl rfl dX2_lineComes_67 (fun H locs h => ?_)
        exact cut_70 nu_10 qu_11 lo_12 _ _ _ h (lv_sub hl [2] rfl) hf
      · replace hf := it_t hf hc
        refine lv_iconst (v := 0) hx hb dX2_lineComes_62 (by decide) ?_
        refine lv_goto (tgt := 67) hx hb dX2_lineComes_63 (by decide) ?_
        obtain ⟨nu_14, qu_15, lo_16, hq_17, hf⟩ := ob3_use hf
        refine r_callV C h (cw_X2_lineComes_X2_loseWaiting_79 C.hts) (rest := []) (ci := 2) (N := 6) (Cn := RX2) (T := TX2) (c_X2_loseWaiting l G cI cC cZ X a0 a1 a2 a3 a4 a5 a6 a7 a8 nu_2 va qu_3 sc lo wt x1_7 (0 : Int32) nu_14 qu_15 lo_16 hq_17) [0, 1, 2, 3, 4, 5, 6, 7, 8] rfl rfl rfl rfl 0 rfl rfl hl.1 rfl (Nat.le_of_ble_eq_true rfl) ⟨Nat.le_of_ble_eq_true rfl, Nat.le_of_ble_eq_true rfl⟩ (wSt cI a0 a1 a2 a3 a4 a5 a6 a7 a8 nu_14 va qu_15 sc lo_16 wt) rfl rfl dX2_lineComes_67 (fun H locs h => ?_)
        exact cut_70 nu_14 qu_15 lo_16 _ _ _ h (lv_sub hl [2] rfl) hf
    · replace hf := it_t hf hc
      refine lv_aload_n hx hb dX2_lineComes_46 rfl (lv_at hl 1 rfl) ?_
      obtain ⟨r_18, hq_19, hf⟩ := ob1_use hf
      refine r_callV C h (cw_X2_lineComes_X2_firstNotOut_86 C.hts) (rest := []) (ci := 2) (N := 6) (Cn := RX2) (T := TX2) (c_X2_firstNotOut l G cI cC cZ X a0 a1 a2 a3 a4 a5 a6 a7 a8 nu_2 va qu_3 sc lo wt r_18 hq_19) [0, 1, 2, 3, 4, 5, 6, 7, 8] rfl rfl rfl rfl 0 rfl rfl hl.1 rfl (Nat.le_of_ble_eq_true rfl) ⟨Nat.le_of_ble_eq_true rfl, Nat.le_of_ble_eq_true rfl⟩ (wSt cI a0 a1 a2 a3 a4 a5 a6 a7 a8 nu_2 va qu_3 sc lo wt) rfl rfl dX2_lineComes_47 (fun H locs h => ?_)
      refine lv_goto (tgt := 54) hx hb dX2_lineComes_50 (by decide) ?_
      refine lv_istore_n (lv' := [(2, .int r_18), (1, .int x1_7), (0, .ref a0)]) hx hb dX2_lineComes_54 rfl hl (by decide) rfl (fun ls hl => ?_)
      refine lv_aload_n hx hb dX2_lineComes_55 rfl (lv_at hl 2 rfl) ?_
      refine lv_iload_n hx hb dX2_lineComes_56 rfl (lv_at hl 0 rfl) ?_
      refine lv_iload_n hx hb dX2_lineComes_57 rfl (lv_at hl 0 rfl) ?_
      refine lv_iload_n hx hb dX2_lineComes_58 rfl (lv_at hl 1 rfl) ?_
      refine lv_icmp_ne (tgt := 66) hx hb dX2_lineComes_59 (by decide) (fun hc => ?_) (fun hc => ?_)
      · replace hf := it_f hf hc
        refine lv_iconst (v := 1) hx hb dX2_lineComes_66 (by decide) ?_
        obtain ⟨nu_20, qu_21, lo_22, hq_23, hf⟩ := ob3_use hf
        refine r_callV C h (cw_X2_lineComes_X2_loseWaiting_79 C.hts) (rest := []) (ci := 2) (N := 6) (Cn := RX2) (T := TX2) (c_X2_loseWaiting l G cI cC cZ X a0 a1 a2 a3 a4 a5 a6 a7 a8 nu_2 va qu_3 sc lo wt r_18 (1 : Int32) nu_20 qu_21 lo_22 hq_23) [0, 1, 2, 3, 4, 5, 6, 7, 8] rfl rfl rfl rfl 0 rfl rfl hl.1 rfl (Nat.le_of_ble_eq_true rfl) ⟨Nat.le_of_ble_eq_true rfl, Nat.le_of_ble_eq_true rfl⟩ (wSt cI a0 a1 a2 a3 a4 a5 a6 a7 a8 nu_20 va qu_21 sc lo_22 wt) rfl rfl dX2_lineComes_67 (fun H locs h => ?_)
        exact cut_70 nu_20 qu_21 lo_22 _ _ _ h (lv_sub hl [2] rfl) hf
      · replace hf := it_t hf hc
        refine lv_iconst (v := 0) hx hb dX2_lineComes_62 (by decide) ?_
        refine lv_goto (tgt := 67) hx hb dX2_lineComes_63 (by decide) ?_
        obtain ⟨nu_24, qu_25, lo_26, hq_27, hf⟩ := ob3_use hf
        refine r_callV C h (cw_X2_lineComes_X2_loseWaiting_79 C.hts) (rest := []) (ci := 2) (N := 6) (Cn := RX2) (T := TX2) (c_X2_loseWaiting l G cI cC cZ X a0 a1 a2 a3 a4 a5 a6 a7 a8 nu_2 va qu_3 sc lo wt r_18 (0 : Int32) nu_24 qu_25 lo_26 hq_27) [0, 1, 2, 3, 4, 5, 6, 7, 8] rfl rfl rfl rfl 0 rfl rfl hl.1 rfl (Nat.le_of_ble_eq_true rfl) ⟨Nat.le_of_ble_eq_true rfl, Nat.le_of_ble_eq_true rfl⟩ (wSt cI a0 a1 a2 a3 a4 a5 a6 a7 a8 nu_24 va qu_25 sc lo_26 wt) rfl rfl dX2_lineComes_67 (fun H locs h => ?_)
        exact cut_70 nu_24 qu_25 lo_26 _ _ _ h (lv_sub hl [2] rfl) hf
def rm_X2_skipToPicture : Room := { frames := 3, cells := 0, slots := 0, locals := 64 }
set_option maxRecDepth 20000 in
theorem lk_X2_skipToPicture_9 : Cond.fieldLink RX2 9 "LineDoubler$State" "numbers" "[I" ∈ wsX2_skipToPicture := List.mem_of_getElem? (i := 1) (by decide +kernel)
set_option maxRecDepth 20000 in
theorem lk_X2_skipToPicture_23 : Cond.fieldLink RX2 23 "LineDoubler$State" "queue" "LLineDoubler$Table;" ∈ wsX2_skipToPicture := List.mem_of_getElem? (i := 2) (by decide +kernel)
set_option maxRecDepth 20000 in
theorem in_X2_skipToPicture_X2 : ∀ x ∈ wsX20, x ∈ wsX2_skipToPicture := mem_r _ [28, 29, 30, 31, 32, 33] (by decide +kernel)
set_option maxRecDepth 20000 in
theorem cw_X2_skipToPicture_X3_read_93 {s : State} {args : Array Value} (hts : ∀ w ∈ wsX2_skipToPicture, w.before args s = true) : CallW rm_X2_skipToPicture s args RX2 RX3 93 yX3_read cX3_read 4 (some .int) wsX3_read rm_X3_read 0 0 2 :=
  cwV 2 hts gX2_skipToPicture_X3_read rfl rfl rfl (by decide +kernel) ⟨Nat.le_of_ble_eq_true rfl, Nat.le_of_ble_eq_true rfl⟩
set_option maxRecDepth 20000 in
theorem cw_X2_skipToPicture_X2_loseWaiting_79 {s : State} {args : Array Value} (hts : ∀ w ∈ wsX2_skipToPicture, w.before args s = true) : CallW rm_X2_skipToPicture s args RX2 RX2 79 yX2_loseWaiting cX2_loseWaiting 4 none wsX2_loseWaiting rm_X2_loseWaiting 0 0 2 :=
  cwV 2 hts gX2_skipToPicture_X2_loseWaiting rfl rfl rfl (by decide +kernel) ⟨Nat.le_of_ble_eq_true rfl, Nat.le_of_ble_eq_true rfl⟩
set_option maxHeartbeats 4000000 in
set_option maxRecDepth 100000 in
theorem c_X2_skipToPicture (l : Launch) (G : va_G) (cI cC cZ : ClassId) (X : List (ClassId × FieldType)) (a0 a1 a2 a3 a4 a5 a6 a7 a8 : Nat) (nu : Nat → Int32) (va : Nat → Int32) (qu : Nat → Int32) (sc : Nat → Int32) (lo : Nat → Int32) (wt : Int32) (nu' : Nat → Int32) (qu' : Nat → Int32) (lo' : Nat → Int32) (hf : fX2_skipToPicture nu qu lo = some (nu', qu', lo')) : CT l yX2_skipToPicture wsX2_skipToPicture rm_X2_skipToPicture G (TY cI cC cZ X) [.ref a0] (wSt cI a0 a1 a2 a3 a4 a5 a6 a7 a8 nu va qu sc lo wt) none (wSt cI a0 a1 a2 a3 a4 a5 a6 a7 a8 nu' va qu' sc lo' wt) := by
  refine CT.of (cc := cX2_skipToPicture) (maxL := 3) (ret := none) RX2 rfl (by decide) rfl (Nat.le_of_ble_eq_true rfl) ?_
  intro p e s m args below meth c A ls C hr hlocks hnm h hl
  have hx := C.hx
  have hb := C.hb
  have hl : lv_has ls 3 [(0, .ref a0)] := hl
  have cut_9 : ∀ (n : Nat) (nu : Nat → Int32) (qu : Nat → Int32) (lo : Nat → Int32) (x1 : Int32) (x2 : Int32) (H : Heap) (locs : List Loc) (ls : Array Slot), Hx s G A (wSt cI a0 a1 a2 a3 a4 a5 a6 a7 a8 nu va qu sc lo wt) H locs → lv_has ls 3 [(0, .ref a0), (1, .int x1), (2, .int x2)] → fX2_skipToPicture_9 n nu qu lo x1 x2 = some (nu', qu', lo') → W p l e rm_X2_skipToPicture s m args below meth c H locs 0 0 (MQ below (Qx G none (wSt cI a0 a1 a2 a3 a4 a5 a6 a7 a8 nu' va qu' sc lo' wt) A) args s 0 0 A) (F0 m 9 ls []) := by
    intro n
    induction n with
    | zero =>
      intro nu qu lo x1 x2 H locs ls h hl hf
      exact (nn_some _ hf).elim
    | succ n ih =>
      intro nu qu lo x1 x2 H locs ls h hl hf
      have hf : fX2_skipToPicture_9_b (fX2_skipToPicture_9 n) nu qu lo x1 x2 = some (nu', qu', lo') := hf
      unfold fX2_skipToPicture_9_b at hf
      refine lv_iload_n hx hb dX2_skipToPicture_9 rfl (lv_at hl 2 rfl) ?_
      refine lv_iload_n hx hb dX2_skipToPicture_10 rfl (lv_at hl 1 rfl) ?_
      refine lv_icmp_ge (tgt := 51) hx hb dX2_skipToPicture_11 (by decide) (fun hc => ?_) (fun hc => ?_)
      · replace hf := it_t hf hc
        cases hf
        exact r_vret C h hr hlocks dX2_skipToPicture_51
      · replace hf := it_f hf hc
        refine lv_aload_n hx hb dX2_skipToPicture_14 rfl (lv_at hl 0 rfl) ?_
        refine r_get C h 0 2 (ci := 2) (N := 6) (Cn := RX2) (T := TX2) rfl rfl (by decide) in_X2_skipToPicture_X2 lk_X2_skipToPicture_23 rfl dX2_skipToPicture_15 ?_
        refine lv_iconst (v := 0) hx hb dX2_skipToPicture_18 (by decide) ?_
        refine lv_iconst (v := 1) hx hb dX2_skipToPicture_19 (by decide) ?_
        obtain ⟨r_1, hq_2, hf⟩ := ob1_use hf
        refine r_callV C h (cw_X2_skipToPicture_X3_read_93 C.hts) (rest := []) (ci := 3) (N := 2) (Cn := RX3) (T := TX3) (c_X3_read l G cI cC cZ X a3 a4 4 68 qu (0 : Int32) (1 : Int32) r_1 hq_2) [3, 4] rfl rfl rfl rfl 3 rfl rfl hl.1 rfl (Nat.le_of_ble_eq_true rfl) ⟨Nat.le_of_ble_eq_true rfl, Nat.le_of_ble_eq_true rfl⟩ (wSt cI a0 a1 a2 a3 a4 a5 a6 a7 a8 nu va qu sc lo wt) rfl rfl dX2_skipToPicture_20 (fun H locs h => ?_)
        refine lv_if_ne (tgt := 39) hx hb dX2_skipToPicture_23 (by decide) (fun hc => ?_) (fun hc => ?_)
        · replace hf := it_f hf hc
          refine lv_aload_n hx hb dX2_skipToPicture_39 rfl (lv_at hl 0 rfl) ?_
          refine lv_iconst (v := 0) hx hb dX2_skipToPicture_40 (by decide) ?_
          refine lv_iconst (v := 2) hx hb dX2_skipToPicture_41 (by decide) ?_
          obtain ⟨nu_3, qu_4, lo_5, hq_6, hf⟩ := ob3_use hf
          refine r_callV C h (cw_X2_skipToPicture_X2_loseWaiting_79 C.hts) (rest := []) (ci := 2) (N := 6) (Cn := RX2) (T := TX2) (c_X2_loseWaiting l G cI cC cZ X a0 a1 a2 a3 a4 a5 a6 a7 a8 nu va qu sc lo wt (0 : Int32) (2 : Int32) nu_3 qu_4 lo_5 hq_6) [0, 1, 2, 3, 4, 5, 6, 7, 8] rfl rfl rfl rfl 0 rfl rfl hl.1 rfl (Nat.le_of_ble_eq_true rfl) ⟨Nat.le_of_ble_eq_true rfl, Nat.le_of_ble_eq_true rfl⟩ (wSt cI a0 a1 a2 a3 a4 a5 a6 a7 a8 nu_3 va qu_4 sc lo_5 wt) rfl rfl dX2_skipToPicture_42 (fun H locs h => ?_)
          obtain ⟨x2_7, ex2_7⟩ : ∃ y : Int32, y = x2 + 1 := ⟨_, rfl⟩
          replace hf := nm_use hf ex2_7
          refine lv_iinc (v := x2_7) (lv' := [(2, .int x2_7), (0, .ref a0), (1, .int x1)]) hx hb dX2_skipToPicture_45 hl (k := 2) rfl (by rw [ex2_7]; rfl) (by decide) rfl (fun ls hl => ?_)
          refine lv_goto (tgt := 9) hx hb dX2_skipToPicture_48 (by decide) ?_
          exact ih nu_3 qu_4 lo_5 x1 x2_7 _ _ _ h (lv_sub hl [1, 2, 0] rfl) hf
        · replace hf := it_t hf hc
          refine lv_aload_n hx hb dX2_skipToPicture_26 rfl (lv_at hl 0 rfl) ?_
          refine r_get C h 0 2 (ci := 2) (N := 6) (Cn := RX2) (T := TX2) rfl rfl (by decide) in_X2_skipToPicture_X2 lk_X2_skipToPicture_23 rfl dX2_skipToPicture_27 ?_
          refine lv_iconst (v := 0) hx hb dX2_skipToPicture_30 (by decide) ?_
          refine lv_iconst (v := 3) hx hb dX2_skipToPicture_31 (by decide) ?_
          obtain ⟨r_8, hq_9, hf⟩ := ob1_use hf
          refine r_callV C h (cw_X2_skipToPicture_X3_read_93 C.hts) (rest := []) (ci := 3) (N := 2) (Cn := RX3) (T := TX3) (c_X3_read l G cI cC cZ X a3 a4 4 68 qu (0 : Int32) (3 : Int32) r_8 hq_9) [3, 4] rfl rfl rfl rfl 3 rfl rfl hl.1 rfl (Nat.le_of_ble_eq_true rfl) ⟨Nat.le_of_ble_eq_true rfl, Nat.le_of_ble_eq_true rfl⟩ (wSt cI a0 a1 a2 a3 a4 a5 a6 a7 a8 nu va qu sc lo wt) rfl rfl dX2_skipToPicture_32 (fun H locs h => ?_)
          refine lv_if_ne (tgt := 39) hx hb dX2_skipToPicture_35 (by decide) (fun hc => ?_) (fun hc => ?_)
          · replace hf := it_f hf hc
            refine lv_aload_n hx hb dX2_skipToPicture_39 rfl (lv_at hl 0 rfl) ?_
            refine lv_iconst (v := 0) hx hb dX2_skipToPicture_40 (by decide) ?_
            refine lv_iconst (v := 2) hx hb dX2_skipToPicture_41 (by decide) ?_
            obtain ⟨nu_10, qu_11, lo_12, hq_13, hf⟩ := ob3_use hf
            refine r_callV C h (cw_X2_skipToPicture_X2_loseWaiting_79 C.hts) (rest := []) (ci := 2) (N := 6) (Cn := RX2) (T := TX2) (c_X2_loseWaiting l G cI cC cZ X a0 a1 a2 a3 a4 a5 a6 a7 a8 nu va qu sc lo wt (0 : Int32) (2 : Int32) nu_10 qu_11 lo_12 hq_13) [0, 1, 2, 3, 4, 5, 6, 7, 8] rfl rfl rfl rfl 0 rfl rfl hl.1 rfl (Nat.le_of_ble_eq_true rfl) ⟨Nat.le_of_ble_eq_true rfl, Nat.le_of_ble_eq_true rfl⟩ (wSt cI a0 a1 a2 a3 a4 a5 a6 a7 a8 nu_10 va qu_11 sc lo_12 wt) rfl rfl dX2_skipToPicture_42 (fun H locs h => ?_)
            obtain ⟨x2_14, ex2_14⟩ : ∃ y : Int32, y = x2 + 1 := ⟨_, rfl⟩
            replace hf := nm_use hf ex2_14
            refine lv_iinc (v := x2_14) (lv' := [(2, .int x2_14), (0, .ref a0), (1, .int x1)]) hx hb dX2_skipToPicture_45 hl (k := 2) rfl (by rw [ex2_14]; rfl) (by decide) rfl (fun ls hl => ?_)
            refine lv_goto (tgt := 9) hx hb dX2_skipToPicture_48 (by decide) ?_
            exact ih nu_10 qu_11 lo_12 x1 x2_14 _ _ _ h (lv_sub hl [1, 2, 0] rfl) hf
          · replace hf := it_t hf hc
            cases hf
            exact r_vret C h hr hlocks dX2_skipToPicture_38
  unfold fX2_skipToPicture at hf
  refine lv_aload_n hx hb dX2_skipToPicture_0 rfl (lv_at hl 0 rfl) ?_
  refine r_get C h 0 0 (ci := 2) (N := 6) (Cn := RX2) (T := TX2) rfl rfl (by decide) in_X2_skipToPicture_X2 lk_X2_skipToPicture_9 rfl dX2_skipToPicture_1 ?_
  refine lv_iconst (v := 2) hx hb dX2_skipToPicture_4 (by decide) ?_
  refine r_ald C h 1 rfl rfl k_2_24 dX2_skipToPicture_5 ?_
  refine lv_topi (fun x1_1 ex1_1 => ?_)
  replace hf := nm_use hf ex1_1
  refine lv_istore_n (lv' := [(1, .int x1_1), (0, .ref a0)]) hx hb dX2_skipToPicture_6 rfl hl (by decide) rfl (fun ls hl => ?_)
  refine lv_iconst (v := 0) hx hb dX2_skipToPicture_7 (by decide) ?_
  refine lv_istore_n (lv' := [(2, .int 0), (1, .int x1_1), (0, .ref a0)]) hx hb dX2_skipToPicture_8 rfl hl (by decide) rfl (fun ls hl => ?_)
  exact cut_9 KF nu qu lo x1_1 0 _ _ _ h (lv_sub hl [2, 1, 0] rfl) hf
def rm_X2_showFirstWaiting : Room := { frames := 2, cells := 0, slots := 0, locals := 41 }
set_option maxRecDepth 20000 in
theorem lk_X2_showFirstWaiting_27 : Cond.fieldLink RX2 27 "LineDoubler$State" "screen" "LLineDoubler$Table;" ∈ wsX2_showFirstWaiting := List.mem_of_getElem? (i := 1) (by decide +kernel)
set_option maxRecDepth 20000 in
theorem lk_X2_showFirstWaiting_23 : Cond.fieldLink RX2 23 "LineDoubler$State" "queue" "LLineDoubler$Table;" ∈ wsX2_showFirstWaiting := List.mem_of_getElem? (i := 2) (by decide +kernel)
set_option maxRecDepth 20000 in
theorem lk_X2_showFirstWaiting_9 : Cond.fieldLink RX2 9 "LineDoubler$State" "numbers" "[I" ∈ wsX2_showFirstWaiting := List.mem_of_getElem? (i := 3) (by decide +kernel)
set_option maxRecDepth 20000 in
theorem in_X2_showFirstWaiting_X2 : ∀ x ∈ wsX20, x ∈ wsX2_showFirstWaiting := mem_r _ [23, 24, 25, 26, 27, 28] (by decide +kernel)
set_option maxRecDepth 20000 in
theorem cw_X2_showFirstWaiting_X3_read_93 {s : State} {args : Array Value} (hts : ∀ w ∈ wsX2_showFirstWaiting, w.before args s = true) : CallW rm_X2_showFirstWaiting s args RX2 RX3 93 yX3_read cX3_read 4 (some .int) wsX3_read rm_X3_read 0 0 2 :=
  cwV 2 hts gX2_showFirstWaiting_X3_read rfl rfl rfl (by decide +kernel) ⟨Nat.le_of_ble_eq_true rfl, Nat.le_of_ble_eq_true rfl⟩
set_option maxRecDepth 20000 in
theorem cw_X2_showFirstWaiting_X3_write_90 {s : State} {args : Array Value} (hts : ∀ w ∈ wsX2_showFirstWaiting, w.before args s = true) : CallW rm_X2_showFirstWaiting s args RX2 RX3 90 yX3_write cX3_write 5 none wsX3_write rm_X3_write 0 0 3 :=
  cwV 3 hts gX2_showFirstWaiting_X3_write rfl rfl rfl (by decide +kernel) ⟨Nat.le_of_ble_eq_true rfl, Nat.le_of_ble_eq_true rfl⟩
set_option maxRecDepth 20000 in
theorem cw_X2_showFirstWaiting_X3_removeRow_96 {s : State} {args : Array Value} (hts : ∀ w ∈ wsX2_showFirstWaiting, w.before args s = true) : CallW rm_X2_showFirstWaiting s args RX2 RX3 96 yX3_removeRow cX3_removeRow 4 none wsX3_removeRow rm_X3_removeRow 0 0 1 :=
  cwV 1 hts gX2_showFirstWaiting_X3_removeRow rfl rfl rfl (by decide +kernel) ⟨Nat.le_of_ble_eq_true rfl, Nat.le_of_ble_eq_true rfl⟩
set_option maxHeartbeats 4000000 in
set_option maxRecDepth 100000 in
theorem c_X2_showFirstWaiting (l : Launch) (G : va_G) (cI cC cZ : ClassId) (X : List (ClassId × FieldType)) (a0 a1 a2 a3 a4 a5 a6 a7 a8 : Nat) (nu : Nat → Int32) (va : Nat → Int32) (qu : Nat → Int32) (sc : Nat → Int32) (lo : Nat → Int32) (wt : Int32) (x1 : Int32) (nu' : Nat → Int32) (qu' : Nat → Int32) (sc' : Nat → Int32) (hf : fX2_showFirstWaiting nu qu sc x1 = some (nu', qu', sc')) : CT l yX2_showFirstWaiting wsX2_showFirstWaiting rm_X2_showFirstWaiting G (TY cI cC cZ X) [.ref a0, .int x1] (wSt cI a0 a1 a2 a3 a4 a5 a6 a7 a8 nu va qu sc lo wt) none (wSt cI a0 a1 a2 a3 a4 a5 a6 a7 a8 nu' va qu' sc' lo wt) := by
  refine CT.of (cc := cX2_showFirstWaiting) (maxL := 2) (ret := none) RX2 rfl (by decide) rfl (Nat.le_of_ble_eq_true rfl) ?_
  intro p e s m args below meth c A ls C hr hlocks hnm h hl
  have hx := C.hx
  have hb := C.hb
  have hl : lv_has ls 2 [(0, .ref a0), (1, .int x1)] := hl
  unfold fX2_showFirstWaiting at hf
  refine lv_aload_n hx hb dX2_showFirstWaiting_0 rfl (lv_at hl 0 rfl) ?_
  refine r_get C h 0 3 (ci := 2) (N := 6) (Cn := RX2) (T := TX2) rfl rfl (by decide) in_X2_showFirstWaiting_X2 lk_X2_showFirstWaiting_27 rfl dX2_showFirstWaiting_1 ?_
  refine lv_iload_n hx hb dX2_showFirstWaiting_4 rfl (lv_at hl 1 rfl) ?_
  refine lv_iconst (v := 0) hx hb dX2_showFirstWaiting_5 (by decide) ?_
  refine lv_aload_n hx hb dX2_showFirstWaiting_6 rfl (lv_at hl 0 rfl) ?_
  refine r_get C h 0 2 (ci := 2) (N := 6) (Cn := RX2) (T := TX2) rfl rfl (by decide) in_X2_showFirstWaiting_X2 lk_X2_showFirstWaiting_23 rfl dX2_showFirstWaiting_7 ?_
  refine lv_iconst (v := 0) hx hb dX2_showFirstWaiting_10 (by decide) ?_
  refine lv_iconst (v := 2) hx hb dX2_showFirstWaiting_11 (by decide) ?_
  obtain ⟨r_1, hq_2, hf⟩ := ob1_use hf
  refine r_callV C h (cw_X2_showFirstWaiting_X3_read_93 C.hts) (rest := [.int 0, .int x1, .ref a5]) (ci := 3) (N := 2) (Cn := RX3) (T := TX3) (c_X3_read l G cI cC cZ X a3 a4 4 68 qu (0 : Int32) (2 : Int32) r_1 hq_2) [3, 4] rfl rfl rfl rfl 3 rfl rfl hl.1 rfl (Nat.le_of_ble_eq_true rfl) ⟨Nat.le_of_ble_eq_true rfl, Nat.le_of_ble_eq_true rfl⟩ (wSt cI a0 a1 a2 a3 a4 a5 a6 a7 a8 nu va qu sc lo wt) rfl rfl dX2_showFirstWaiting_12 (fun H locs h => ?_)
  obtain ⟨sc_3, hq_4, hf⟩ := ob1_use hf
  refine r_callV C h (cw_X2_showFirstWaiting_X3_write_90 C.hts) (rest := []) (ci := 3) (N := 2) (Cn := RX3) (T := TX3) (c_X3_write l G cI cC cZ X a5 a6 3 96 sc x1 (0 : Int32) r_1 sc_3 hq_4) [5, 6] rfl rfl rfl rfl 5 rfl rfl hl.1 rfl (Nat.le_of_ble_eq_true rfl) ⟨Nat.le_of_ble_eq_true rfl, Nat.le_of_ble_eq_true rfl⟩ (wSt cI a0 a1 a2 a3 a4 a5 a6 a7 a8 nu va qu sc_3 lo wt) rfl rfl dX2_showFirstWaiting_15 (fun H locs h => ?_)
  refine lv_aload_n hx hb dX2_showFirstWaiting_18 rfl (lv_at hl 0 rfl) ?_
  refine r_get C h 0 3 (ci := 2) (N := 6) (Cn := RX2) (T := TX2) rfl rfl (by decide) in_X2_showFirstWaiting_X2 lk_X2_showFirstWaiting_27 rfl dX2_showFirstWaiting_19 ?_
  refine lv_iload_n hx hb dX2_showFirstWaiting_22 rfl (lv_at hl 1 rfl) ?_
  refine lv_iconst (v := 1) hx hb dX2_showFirstWaiting_23 (by decide) ?_
  refine lv_aload_n hx hb dX2_showFirstWaiting_24 rfl (lv_at hl 0 rfl) ?_
  refine r_get C h 0 2 (ci := 2) (N := 6) (Cn := RX2) (T := TX2) rfl rfl (by decide) in_X2_showFirstWaiting_X2 lk_X2_showFirstWaiting_23 rfl dX2_showFirstWaiting_25 ?_
  refine lv_iconst (v := 0) hx hb dX2_showFirstWaiting_28 (by decide) ?_
  refine lv_iconst (v := 0) hx hb dX2_showFirstWaiting_29 (by decide) ?_
  obtain ⟨r_5, hq_6, hf⟩ := ob1_use hf
  refine r_callV C h (cw_X2_showFirstWaiting_X3_read_93 C.hts) (rest := [.int 1, .int x1, .ref a5]) (ci := 3) (N := 2) (Cn := RX3) (T := TX3) (c_X3_read l G cI cC cZ X a3 a4 4 68 qu (0 : Int32) (0 : Int32) r_5 hq_6) [3, 4] rfl rfl rfl rfl 3 rfl rfl hl.1 rfl (Nat.le_of_ble_eq_true rfl) ⟨Nat.le_of_ble_eq_true rfl, Nat.le_of_ble_eq_true rfl⟩ (wSt cI a0 a1 a2 a3 a4 a5 a6 a7 a8 nu va qu sc_3 lo wt) rfl rfl dX2_showFirstWaiting_30 (fun H locs h => ?_)
  obtain ⟨sc_7, hq_8, hf⟩ := ob1_use hf
  refine r_callV C h (cw_X2_showFirstWaiting_X3_write_90 C.hts) (rest := []) (ci := 3) (N := 2) (Cn := RX3) (T := TX3) (c_X3_write l G cI cC cZ X a5 a6 3 96 sc_3 x1 (1 : Int32) r_5 sc_7 hq_8) [5, 6] rfl rfl rfl rfl 5 rfl rfl hl.1 rfl (Nat.le_of_ble_eq_true rfl) ⟨Nat.le_of_ble_eq_true rfl, Nat.le_of_ble_eq_true rfl⟩ (wSt cI a0 a1 a2 a3 a4 a5 a6 a7 a8 nu va qu sc_7 lo wt) rfl rfl dX2_showFirstWaiting_33 (fun H locs h => ?_)
  refine lv_aload_n hx hb dX2_showFirstWaiting_36 rfl (lv_at hl 0 rfl) ?_
  refine r_get C h 0 3 (ci := 2) (N := 6) (Cn := RX2) (T := TX2) rfl rfl (by decide) in_X2_showFirstWaiting_X2 lk_X2_showFirstWaiting_27 rfl dX2_showFirstWaiting_37 ?_
  refine lv_iload_n hx hb dX2_showFirstWaiting_40 rfl (lv_at hl 1 rfl) ?_
  refine lv_iconst (v := 2) hx hb dX2_showFirstWaiting_41 (by decide) ?_
  refine lv_aload_n hx hb dX2_showFirstWaiting_42 rfl (lv_at hl 0 rfl) ?_
  refine r_get C h 0 2 (ci := 2) (N := 6) (Cn := RX2) (T := TX2) rfl rfl (by decide) in_X2_showFirstWaiting_X2 lk_X2_showFirstWaiting_23 rfl dX2_showFirstWaiting_43 ?_
  refine lv_iconst (v := 0) hx hb dX2_showFirstWaiting_46 (by decide) ?_
  refine lv_iconst (v := 1) hx hb dX2_showFirstWaiting_47 (by decide) ?_
  obtain ⟨r_9, hq_10, hf⟩ := ob1_use hf
  refine r_callV C h (cw_X2_showFirstWaiting_X3_read_93 C.hts) (rest := [.int 2, .int x1, .ref a5]) (ci := 3) (N := 2) (Cn := RX3) (T := TX3) (c_X3_read l G cI cC cZ X a3 a4 4 68 qu (0 : Int32) (1 : Int32) r_9 hq_10) [3, 4] rfl rfl rfl rfl 3 rfl rfl hl.1 rfl (Nat.le_of_ble_eq_true rfl) ⟨Nat.le_of_ble_eq_true rfl, Nat.le_of_ble_eq_true rfl⟩ (wSt cI a0 a1 a2 a3 a4 a5 a6 a7 a8 nu va qu sc_7 lo wt) rfl rfl dX2_showFirstWaiting_48 (fun H locs h => ?_)
  obtain ⟨sc_11, hq_12, hf⟩ := ob1_use hf
  refine r_callV C h (cw_X2_showFirstWaiting_X3_write_90 C.hts) (rest := []) (ci := 3) (N := 2) (Cn := RX3) (T := TX3) (c_X3_write l G cI cC cZ X a5 a6 3 96 sc_7 x1 (2 : Int32) r_9 sc_11 hq_12) [5, 6] rfl rfl rfl rfl 5 rfl rfl hl.1 rfl (Nat.le_of_ble_eq_true rfl) ⟨Nat.le_of_ble_eq_true rfl, Nat.le_of_ble_eq_true rfl⟩ (wSt cI a0 a1 a2 a3 a4 a5 a6 a7 a8 nu va qu sc_11 lo wt) rfl rfl dX2_showFirstWaiting_51 (fun H locs h => ?_)
  refine lv_aload_n hx hb dX2_showFirstWaiting_54 rfl (lv_at hl 0 rfl) ?_
  refine r_get C h 0 2 (ci := 2) (N := 6) (Cn := RX2) (T := TX2) rfl rfl (by decide) in_X2_showFirstWaiting_X2 lk_X2_showFirstWaiting_23 rfl dX2_showFirstWaiting_55 ?_
  refine lv_iconst (v := 0) hx hb dX2_showFirstWaiting_58 (by decide) ?_
  refine lv_iconst (v := 3) hx hb dX2_showFirstWaiting_59 (by decide) ?_
  obtain ⟨r_13, hq_14, hf⟩ := ob1_use hf
  refine r_callV C h (cw_X2_showFirstWaiting_X3_read_93 C.hts) (rest := []) (ci := 3) (N := 2) (Cn := RX3) (T := TX3) (c_X3_read l G cI cC cZ X a3 a4 4 68 qu (0 : Int32) (3 : Int32) r_13 hq_14) [3, 4] rfl rfl rfl rfl 3 rfl rfl hl.1 rfl (Nat.le_of_ble_eq_true rfl) ⟨Nat.le_of_ble_eq_true rfl, Nat.le_of_ble_eq_true rfl⟩ (wSt cI a0 a1 a2 a3 a4 a5 a6 a7 a8 nu va qu sc_11 lo wt) rfl rfl dX2_showFirstWaiting_60 (fun H locs h => ?_)
  refine lv_if_ne (tgt := 79) hx hb dX2_showFirstWaiting_63 (by decide) (fun hc => ?_) (fun hc => ?_)
  · replace hf := it_f hf hc
    refine lv_aload_n hx hb dX2_showFirstWaiting_79 rfl (lv_at hl 0 rfl) ?_
    refine r_get C h 0 2 (ci := 2) (N := 6) (Cn := RX2) (T := TX2) rfl rfl (by decide) in_X2_showFirstWaiting_X2 lk_X2_showFirstWaiting_23 rfl dX2_showFirstWaiting_80 ?_
    refine lv_iconst (v := 0) hx hb dX2_showFirstWaiting_83 (by decide) ?_
    obtain ⟨qu_15, hq_16, hf⟩ := ob1_use hf
    refine r_callV C h (cw_X2_showFirstWaiting_X3_removeRow_96 C.hts) (rest := []) (ci := 3) (N := 2) (Cn := RX3) (T := TX3) (c_X3_removeRow l G cI cC cZ X a3 a4 4 68 qu (0 : Int32) qu_15 hq_16) [3, 4] rfl rfl rfl rfl 3 rfl rfl hl.1 rfl (Nat.le_of_ble_eq_true rfl) ⟨Nat.le_of_ble_eq_true rfl, Nat.le_of_ble_eq_true rfl⟩ (wSt cI a0 a1 a2 a3 a4 a5 a6 a7 a8 nu va qu_15 sc_11 lo wt) rfl rfl dX2_showFirstWaiting_84 (fun H locs h => ?_)
    refine lv_aload_n hx hb dX2_showFirstWaiting_87 rfl (lv_at hl 0 rfl) ?_
    refine r_get C h 0 0 (ci := 2) (N := 6) (Cn := RX2) (T := TX2) rfl rfl (by decide) in_X2_showFirstWaiting_X2 lk_X2_showFirstWaiting_9 rfl dX2_showFirstWaiting_88 ?_
    refine lv_iconst (v := 2) hx hb dX2_showFirstWaiting_91 (by decide) ?_
    refine lv_dup2_11 hx hb dX2_showFirstWaiting_92 rfl rfl ?_
    refine r_ald C h 1 rfl rfl k_2_24 dX2_showFirstWaiting_93 ?_
    refine lv_iconst (v := 1) hx hb dX2_showFirstWaiting_94 (by decide) ?_
    refine lv_isub hx hb dX2_showFirstWaiting_95 ?_
    refine r_ast C h 1 rfl rfl k_2_24 (fun z__ => (wSt cI a0 a1 a2 a3 a4 a5 a6 a7 a8 z__ va qu_15 sc_11 lo wt)) (fun _ => rfl) dX2_showFirstWaiting_96 (fun nu_17 enu_17 H locs h => ?_)
    replace hf := nm_use hf enu_17
    refine lv_aload_n hx hb dX2_showFirstWaiting_97 rfl (lv_at hl 0 rfl) ?_
    refine r_get C h 0 0 (ci := 2) (N := 6) (Cn := RX2) (T := TX2) rfl rfl (by decide) in_X2_showFirstWaiting_X2 lk_X2_showFirstWaiting_9 rfl dX2_showFirstWaiting_98 ?_
    refine lv_iconst (v := 3) hx hb dX2_showFirstWaiting_101 (by decide) ?_
    refine lv_dup2_11 hx hb dX2_showFirstWaiting_102 rfl rfl ?_
    refine r_ald C h 1 rfl rfl k_3_24 dX2_showFirstWaiting_103 ?_
    refine lv_iconst (v := 1) hx hb dX2_showFirstWaiting_104 (by decide) ?_
    refine lv_iadd hx hb dX2_showFirstWaiting_105 ?_
    refine r_ast C h 1 rfl rfl k_3_24 (fun z__ => (wSt cI a0 a1 a2 a3 a4 a5 a6 a7 a8 z__ va qu_15 sc_11 lo wt)) (fun _ => rfl) dX2_showFirstWaiting_106 (fun nu_18 enu_18 H locs h => ?_)
    replace hf := nm_use hf enu_18
    cases hf
    exact r_vret C h hr hlocks dX2_showFirstWaiting_107
  · replace hf := it_t hf hc
    refine lv_aload_n hx hb dX2_showFirstWaiting_66 rfl (lv_at hl 0 rfl) ?_
    refine r_get C h 0 2 (ci := 2) (N := 6) (Cn := RX2) (T := TX2) rfl rfl (by decide) in_X2_showFirstWaiting_X2 lk_X2_showFirstWaiting_23 rfl dX2_showFirstWaiting_67 ?_
    refine lv_iconst (v := 0) hx hb dX2_showFirstWaiting_70 (by decide) ?_
    refine lv_iconst (v := 3) hx hb dX2_showFirstWaiting_71 (by decide) ?_
    refine lv_iconst (v := 1) hx hb dX2_showFirstWaiting_72 (by decide) ?_
    obtain ⟨qu_19, hq_20, hf⟩ := ob1_use hf
    refine r_callV C h (cw_X2_showFirstWaiting_X3_write_90 C.hts) (rest := []) (ci := 3) (N := 2) (Cn := RX3) (T := TX3) (c_X3_write l G cI cC cZ X a3 a4 4 68 qu (0 : Int32) (3 : Int32) (1 : Int32) qu_19 hq_20) [3, 4] rfl rfl rfl rfl 3 rfl rfl hl.1 rfl (Nat.le_of_ble_eq_true rfl) ⟨Nat.le_of_ble_eq_true rfl, Nat.le_of_ble_eq_true rfl⟩ (wSt cI a0 a1 a2 a3 a4 a5 a6 a7 a8 nu va qu_19 sc_11 lo wt) rfl rfl dX2_showFirstWaiting_73 (fun H locs h => ?_)
    refine lv_goto (tgt := 107) hx hb dX2_showFirstWaiting_76 (by decide) ?_
    cases hf
    exact r_vret C h hr hlocks dX2_showFirstWaiting_107
def rm_X2_showColour : Room := { frames := 2, cells := 0, slots := 0, locals := 43 }
set_option maxRecDepth 20000 in
theorem lk_X2_showColour_27 : Cond.fieldLink RX2 27 "LineDoubler$State" "screen" "LLineDoubler$Table;" ∈ wsX2_showColour := List.mem_of_getElem? (i := 1) (by decide +kernel)
set_option maxRecDepth 20000 in
theorem lk_X2_showColour_9 : Cond.fieldLink RX2 9 "LineDoubler$State" "numbers" "[I" ∈ wsX2_showColour := List.mem_of_getElem? (i := 2) (by decide +kernel)
set_option maxRecDepth 20000 in
theorem in_X2_showColour_X2 : ∀ x ∈ wsX20, x ∈ wsX2_showColour := mem_r _ [18, 19, 20, 21, 22, 23] (by decide +kernel)
set_option maxRecDepth 20000 in
theorem cw_X2_showColour_X2_setting_54 {s : State} {args : Array Value} (hts : ∀ w ∈ wsX2_showColour, w.before args s = true) : CallW rm_X2_showColour s args RX2 RX2 54 yX2_setting cX2_setting 2 (some .int) wsX2_setting rm_X2_setting 0 0 1 :=
  cwV 1 hts gX2_showColour_X2_setting rfl rfl rfl (by decide +kernel) ⟨Nat.le_of_ble_eq_true rfl, Nat.le_of_ble_eq_true rfl⟩
set_option maxRecDepth 20000 in
theorem cw_X2_showColour_X3_write_90 {s : State} {args : Array Value} (hts : ∀ w ∈ wsX2_showColour, w.before args s = true) : CallW rm_X2_showColour s args RX2 RX3 90 yX3_write cX3_write 5 none wsX3_write rm_X3_write 0 0 3 :=
  cwV 3 hts gX2_showColour_X3_write rfl rfl rfl (by decide +kernel) ⟨Nat.le_of_ble_eq_true rfl, Nat.le_of_ble_eq_true rfl⟩
set_option maxHeartbeats 4000000 in
set_option maxRecDepth 100000 in
theorem c_X2_showColour (l : Launch) (G : va_G) (cI cC cZ : ClassId) (X : List (ClassId × FieldType)) (a0 a1 a2 a3 a4 a5 a6 a7 a8 : Nat) (nu : Nat → Int32) (va : Nat → Int32) (qu : Nat → Int32) (sc : Nat → Int32) (lo : Nat → Int32) (wt : Int32) (x1 : Int32) (nu' : Nat → Int32) (sc' : Nat → Int32) (hf : fX2_showColour nu sc x1 = some (nu', sc')) : CT l yX2_showColour wsX2_showColour rm_X2_showColour G (TY cI cC cZ X) [.ref a0, .int x1] (wSt cI a0 a1 a2 a3 a4 a5 a6 a7 a8 nu va qu sc lo wt) none (wSt cI a0 a1 a2 a3 a4 a5 a6 a7 a8 nu' va qu sc' lo wt) := by
  refine CT.of (cc := cX2_showColour) (maxL := 2) (ret := none) RX2 rfl (by decide) rfl (Nat.le_of_ble_eq_true rfl) ?_
  intro p e s m args below meth c A ls C hr hlocks hnm h hl
  have hx := C.hx
  have hb := C.hb
  have hl : lv_has ls 2 [(0, .ref a0), (1, .int x1)] := hl
  unfold fX2_showColour at hf
  refine lv_aload_n hx hb dX2_showColour_0 rfl (lv_at hl 0 rfl) ?_
  refine r_get C h 0 3 (ci := 2) (N := 6) (Cn := RX2) (T := TX2) rfl rfl (by decide) in_X2_showColour_X2 lk_X2_showColour_27 rfl dX2_showColour_1 ?_
  refine lv_iload_n hx hb dX2_showColour_4 rfl (lv_at hl 1 rfl) ?_
  refine lv_iconst (v := 0) hx hb dX2_showColour_5 (by decide) ?_
  refine lv_aload_n hx hb dX2_showColour_6 rfl (lv_at hl 0 rfl) ?_
  refine lv_bipush (v := 6) hx hb dX2_showColour_7 (by decide) ?_
  obtain ⟨r_1, hq_2, hf⟩ := ob1_use hf
  refine r_callV C h (cw_X2_showColour_X2_setting_54 C.hts) (rest := [.int 0, .int x1, .ref a5]) (ci := 2) (N := 6) (Cn := RX2) (T := TX2) (c_X2_setting l G cI cC cZ X a0 a1 a2 a3 a4 a5 a6 a7 a8 nu va qu sc lo wt (6 : Int32) r_1 hq_2) [0, 1, 2, 3, 4, 5, 6, 7, 8] rfl rfl rfl rfl 0 rfl rfl hl.1 rfl (Nat.le_of_ble_eq_true rfl) ⟨Nat.le_of_ble_eq_true rfl, Nat.le_of_ble_eq_true rfl⟩ (wSt cI a0 a1 a2 a3 a4 a5 a6 a7 a8 nu va qu sc lo wt) rfl rfl dX2_showColour_9 (fun H locs h => ?_)
  obtain ⟨sc_3, hq_4, hf⟩ := ob1_use hf
  refine r_callV C h (cw_X2_showColour_X3_write_90 C.hts) (rest := []) (ci := 3) (N := 2) (Cn := RX3) (T := TX3) (c_X3_write l G cI cC cZ X a5 a6 3 96 sc x1 (0 : Int32) r_1 sc_3 hq_4) [5, 6] rfl rfl rfl rfl 5 rfl rfl hl.1 rfl (Nat.le_of_ble_eq_true rfl) ⟨Nat.le_of_ble_eq_true rfl, Nat.le_of_ble_eq_true rfl⟩ (wSt cI a0 a1 a2 a3 a4 a5 a6 a7 a8 nu va qu sc_3 lo wt) rfl rfl dX2_showColour_12 (fun H locs h => ?_)
  refine lv_aload_n hx hb dX2_showColour_15 rfl (lv_at hl 0 rfl) ?_
  refine r_get C h 0 3 (ci := 2) (N := 6) (Cn := RX2) (T := TX2) rfl rfl (by decide) in_X2_showColour_X2 lk_X2_showColour_27 rfl dX2_showColour_16 ?_
  refine lv_iload_n hx hb dX2_showColour_19 rfl (lv_at hl 1 rfl) ?_
  refine lv_iconst (v := 1) hx hb dX2_showColour_20 (by decide) ?_
  refine lv_bipush (v := (-6)) hx hb dX2_showColour_21 (by decide) ?_
  obtain ⟨sc_5, hq_6, hf⟩ := ob1_use hf
  refine r_callV C h (cw_X2_showColour_X3_write_90 C.hts) (rest := []) (ci := 3) (N := 2) (Cn := RX3) (T := TX3) (c_X3_write l G cI cC cZ X a5 a6 3 96 sc_3 x1 (1 : Int32) (-6 : Int32) sc_5 hq_6) [5, 6] rfl rfl rfl rfl 5 rfl rfl hl.1 rfl (Nat.le_of_ble_eq_true rfl) ⟨Nat.le_of_ble_eq_true rfl, Nat.le_of_ble_eq_true rfl⟩ (wSt cI a0 a1 a2 a3 a4 a5 a6 a7 a8 nu va qu sc_5 lo wt) rfl rfl dX2_showColour_23 (fun H locs h => ?_)
  refine lv_aload_n hx hb dX2_showColour_26 rfl (lv_at hl 0 rfl) ?_
  refine r_get C h 0 3 (ci := 2) (N := 6) (Cn := RX2) (T := TX2) rfl rfl (by decide) in_X2_showColour_X2 lk_X2_showColour_27 rfl dX2_showColour_27 ?_
  refine lv_iload_n hx hb dX2_showColour_30 rfl (lv_at hl 1 rfl) ?_
  refine lv_iconst (v := 2) hx hb dX2_showColour_31 (by decide) ?_
  refine lv_bipush (v := (-6)) hx hb dX2_showColour_32 (by decide) ?_
  obtain ⟨sc_7, hq_8, hf⟩ := ob1_use hf
  refine r_callV C h (cw_X2_showColour_X3_write_90 C.hts) (rest := []) (ci := 3) (N := 2) (Cn := RX3) (T := TX3) (c_X3_write l G cI cC cZ X a5 a6 3 96 sc_5 x1 (2 : Int32) (-6 : Int32) sc_7 hq_8) [5, 6] rfl rfl rfl rfl 5 rfl rfl hl.1 rfl (Nat.le_of_ble_eq_true rfl) ⟨Nat.le_of_ble_eq_true rfl, Nat.le_of_ble_eq_true rfl⟩ (wSt cI a0 a1 a2 a3 a4 a5 a6 a7 a8 nu va qu sc_7 lo wt) rfl rfl dX2_showColour_34 (fun H locs h => ?_)
  refine lv_aload_n hx hb dX2_showColour_37 rfl (lv_at hl 0 rfl) ?_
  refine r_get C h 0 0 (ci := 2) (N := 6) (Cn := RX2) (T := TX2) rfl rfl (by decide) in_X2_showColour_X2 lk_X2_showColour_9 rfl dX2_showColour_38 ?_
  refine lv_bipush (v := 6) hx hb dX2_showColour_41 (by decide) ?_
  refine lv_dup2_11 hx hb dX2_showColour_43 rfl rfl ?_
  refine r_ald C h 1 rfl rfl k_6_24 dX2_showColour_44 ?_
  refine lv_iconst (v := 1) hx hb dX2_showColour_45 (by decide) ?_
  refine lv_iadd hx hb dX2_showColour_46 ?_
  refine r_ast C h 1 rfl rfl k_6_24 (fun z__ => (wSt cI a0 a1 a2 a3 a4 a5 a6 a7 a8 z__ va qu sc_7 lo wt)) (fun _ => rfl) dX2_showColour_47 (fun nu_9 enu_9 H locs h => ?_)
  replace hf := nm_use hf enu_9
  cases hf
  exact r_vret C h hr hlocks dX2_showColour_48
def rm_X2_judgeScreen : Room := { frames := 1, cells := 0, slots := 0, locals := 23 }
set_option maxRecDepth 20000 in
theorem lk_X2_judgeScreen_27 : Cond.fieldLink RX2 27 "LineDoubler$State" "screen" "LLineDoubler$Table;" ∈ wsX2_judgeScreen := List.mem_of_getElem? (i := 1) (by decide +kernel)
set_option maxRecDepth 20000 in
theorem in_X2_judgeScreen_X2 : ∀ x ∈ wsX20, x ∈ wsX2_judgeScreen := mem_r _ [9, 10, 11, 12, 13, 14] (by decide +kernel)
set_option maxRecDepth 20000 in
theorem cw_X2_judgeScreen_X3_read_93 {s : State} {args : Array Value} (hts : ∀ w ∈ wsX2_judgeScreen, w.before args s = true) : CallW rm_X2_judgeScreen s args RX2 RX3 93 yX3_read cX3_read 4 (some .int) wsX3_read rm_X3_read 0 0 2 :=
  cwV 2 hts gX2_judgeScreen_X3_read rfl rfl rfl (by decide +kernel) ⟨Nat.le_of_ble_eq_true rfl, Nat.le_of_ble_eq_true rfl⟩
set_option maxHeartbeats 4000000 in
set_option maxRecDepth 100000 in
theorem c_X2_judgeScreen (l : Launch) (G : va_G) (cI cC cZ : ClassId) (X : List (ClassId × FieldType)) (a0 a1 a2 a3 a4 a5 a6 a7 a8 : Nat) (nu : Nat → Int32) (va : Nat → Int32) (qu : Nat → Int32) (sc : Nat → Int32) (lo : Nat → Int32) (wt : Int32) (x1 : Int32) (rv : Int32) (hf : fX2_judgeScreen sc x1 = some (rv)) : CT l yX2_judgeScreen wsX2_judgeScreen rm_X2_judgeScreen G (TY cI cC cZ X) [.ref a0, .int x1] (wSt cI a0 a1 a2 a3 a4 a5 a6 a7 a8 nu va qu sc lo wt) (some (.int rv)) (wSt cI a0 a1 a2 a3 a4 a5 a6 a7 a8 nu va qu sc lo wt) := by
  refine CT.of (cc := cX2_judgeScreen) (maxL := 5) (ret := (some .int)) RX2 rfl (by decide) rfl (Nat.le_of_ble_eq_true rfl) ?_
  intro p e s m args below meth c A ls C hr hlocks hnm h hl
  have hx := C.hx
  have hb := C.hb
  have hl : lv_has ls 5 [(0, .ref a0), (1, .int x1)] := hl
  have cut_15 : ∀ (n : Nat) (x1 : Int32) (x2 : Int32) (x3 : Int32) (x4 : Int32) (H : Heap) (locs : List Loc) (ls : Array Slot), Hx s G A (wSt cI a0 a1 a2 a3 a4 a5 a6 a7 a8 nu va qu sc lo wt) H locs → lv_has ls 5 [(0, .ref a0), (1, .int x1), (2, .int x2), (3, .int x3), (4, .int x4)] → fX2_judgeScreen_15 n sc x1 x2 x3 x4 = some (rv) → W p l e rm_X2_judgeScreen s m args below meth c H locs 0 0 (MQ below (Qx G (some (.int rv)) (wSt cI a0 a1 a2 a3 a4 a5 a6 a7 a8 nu va qu sc lo wt) A) args s 0 0 A) (F0 m 15 ls []) := by
    intro n
    induction n with
    | zero =>
      intro x1 x2 x3 x4 H locs ls h hl hf
      exact (nn_some _ hf).elim
    | succ n ih =>
      intro x1 x2 x3 x4 H locs ls h hl hf
      have hf : fX2_judgeScreen_15_b (fX2_judgeScreen_15 n) sc x1 x2 x3 x4 = some (rv) := hf
      unfold fX2_judgeScreen_15_b at hf
      refine lv_iload hx hb dX2_judgeScreen_15 (lv_at hl 4 rfl) ?_
      refine lv_iload_n hx hb dX2_judgeScreen_17 rfl (lv_at hl 1 rfl) ?_
      refine lv_icmp_ge (tgt := 77) hx hb dX2_judgeScreen_18 (by decide) (fun hc => ?_) (fun hc => ?_)
      · replace hf := it_t hf hc
        refine lv_iload_n hx hb dX2_judgeScreen_77 rfl (lv_at hl 3 rfl) ?_
        cases hf
        exact r_iret C h hr hlocks dX2_judgeScreen_78
      · replace hf := it_f hf hc
        refine lv_aload_n hx hb dX2_judgeScreen_21 rfl (lv_at hl 0 rfl) ?_
        refine r_get C h 0 3 (ci := 2) (N := 6) (Cn := RX2) (T := TX2) rfl rfl (by decide) in_X2_judgeScreen_X2 lk_X2_judgeScreen_27 rfl dX2_judgeScreen_22 ?_
        refine lv_iload hx hb dX2_judgeScreen_25 (lv_at hl 4 rfl) ?_
        refine lv_iconst (v := 1) hx hb dX2_judgeScreen_27 (by decide) ?_
        obtain ⟨r_1, hq_2, hf⟩ := ob1_use hf
        refine r_callV C h (cw_X2_judgeScreen_X3_read_93 C.hts) (rest := []) (ci := 3) (N := 2) (Cn := RX3) (T := TX3) (c_X3_read l G cI cC cZ X a5 a6 3 96 sc x4 (1 : Int32) r_1 hq_2) [5, 6] rfl rfl rfl rfl 5 rfl rfl hl.1 rfl (Nat.le_of_ble_eq_true rfl) ⟨Nat.le_of_ble_eq_true rfl, Nat.le_of_ble_eq_true rfl⟩ (wSt cI a0 a1 a2 a3 a4 a5 a6 a7 a8 nu va qu sc lo wt) rfl rfl dX2_judgeScreen_28 (fun H locs h => ?_)
        refine lv_bipush (v := (-6)) hx hb dX2_judgeScreen_31 (by decide) ?_
        refine lv_icmp_ne (tgt := 38) hx hb dX2_judgeScreen_33 (by decide) (fun hc => ?_) (fun hc => ?_)
        · replace hf := it_f hf hc
          refine lv_aload_n hx hb dX2_judgeScreen_38 rfl (lv_at hl 0 rfl) ?_
          refine r_get C h 0 3 (ci := 2) (N := 6) (Cn := RX2) (T := TX2) rfl rfl (by decide) in_X2_judgeScreen_X2 lk_X2_judgeScreen_27 rfl dX2_judgeScreen_39 ?_
          refine lv_iload hx hb dX2_judgeScreen_42 (lv_at hl 4 rfl) ?_
          refine lv_iconst (v := 1) hx hb dX2_judgeScreen_44 (by decide) ?_
          obtain ⟨r_3, hq_4, hf⟩ := ob1_use hf
          refine r_callV C h (cw_X2_judgeScreen_X3_read_93 C.hts) (rest := []) (ci := 3) (N := 2) (Cn := RX3) (T := TX3) (c_X3_read l G cI cC cZ X a5 a6 3 96 sc x4 (1 : Int32) r_3 hq_4) [5, 6] rfl rfl rfl rfl 5 rfl rfl hl.1 rfl (Nat.le_of_ble_eq_true rfl) ⟨Nat.le_of_ble_eq_true rfl, Nat.le_of_ble_eq_true rfl⟩ (wSt cI a0 a1 a2 a3 a4 a5 a6 a7 a8 nu va qu sc lo wt) rfl rfl dX2_judgeScreen_45 (fun H locs h => ?_)
          refine lv_iload_n hx hb dX2_judgeScreen_48 rfl (lv_at hl 2 rfl) ?_
          refine lv_icmp_ne (tgt := 69) hx hb dX2_judgeScreen_49 (by decide) (fun hc => ?_) (fun hc => ?_)
          · replace hf := it_f hf hc
            refine lv_iconst (v := 1) hx hb dX2_judgeScreen_69 (by decide) ?_
            refine lv_istore_n (lv' := [(3, .int 1), (0, .ref a0), (1, .int x1), (2, .int x2), (4, .int x4)]) hx hb dX2_judgeScreen_70 rfl hl (by decide) rfl (fun ls hl => ?_)
            obtain ⟨x4_5, ex4_5⟩ : ∃ y : Int32, y = x4 + 1 := ⟨_, rfl⟩
            replace hf := nm_use hf ex4_5
            refine lv_iinc (v := x4_5) (lv' := [(4, .int x4_5), (3, .int 1), (0, .ref a0), (1, .int x1), (2, .int x2)]) hx hb dX2_judgeScreen_71 hl (k := 4) rfl (by rw [ex4_5]; rfl) (by decide) rfl (fun ls hl => ?_)
            refine lv_goto (tgt := 15) hx hb dX2_judgeScreen_74 (by decide) ?_
            exact ih x1 x2 1 x4_5 _ _ _ h (lv_sub hl [2, 3, 4, 1, 0] rfl) hf
          · replace hf := it_t hf hc
            refine lv_aload_n hx hb dX2_judgeScreen_52 rfl (lv_at hl 0 rfl) ?_
            refine r_get C h 0 3 (ci := 2) (N := 6) (Cn := RX2) (T := TX2) rfl rfl (by decide) in_X2_judgeScreen_X2 lk_X2_judgeScreen_27 rfl dX2_judgeScreen_53 ?_
            refine lv_iload hx hb dX2_judgeScreen_56 (lv_at hl 4 rfl) ?_
            refine lv_iconst (v := 2) hx hb dX2_judgeScreen_58 (by decide) ?_
            obtain ⟨r_6, hq_7, hf⟩ := ob1_use hf
            refine r_callV C h (cw_X2_judgeScreen_X3_read_93 C.hts) (rest := []) (ci := 3) (N := 2) (Cn := RX3) (T := TX3) (c_X3_read l G cI cC cZ X a5 a6 3 96 sc x4 (2 : Int32) r_6 hq_7) [5, 6] rfl rfl rfl rfl 5 rfl rfl hl.1 rfl (Nat.le_of_ble_eq_true rfl) ⟨Nat.le_of_ble_eq_true rfl, Nat.le_of_ble_eq_true rfl⟩ (wSt cI a0 a1 a2 a3 a4 a5 a6 a7 a8 nu va qu sc lo wt) rfl rfl dX2_judgeScreen_59 (fun H locs h => ?_)
            refine lv_iload hx hb dX2_judgeScreen_62 (lv_at hl 4 rfl) ?_
            refine lv_iconst (v := 2) hx hb dX2_judgeScreen_64 (by decide) ?_
            refine lv_idiv hx hb dX2_judgeScreen_65 (by decide) ?_
            refine lv_icmp_eq (tgt := 71) hx hb dX2_judgeScreen_66 (by decide) (fun hc => ?_) (fun hc => ?_)
            · replace hf := it_t hf hc
              obtain ⟨x4_8, ex4_8⟩ : ∃ y : Int32, y = x4 + 1 := ⟨_, rfl⟩
              replace hf := nm_use hf ex4_8
              refine lv_iinc (v := x4_8) (lv' := [(4, .int x4_8), (0, .ref a0), (1, .int x1), (2, .int x2), (3, .int x3)]) hx hb dX2_judgeScreen_71 hl (k := 4) rfl (by rw [ex4_8]; rfl) (by decide) rfl (fun ls hl => ?_)
              refine lv_goto (tgt := 15) hx hb dX2_judgeScreen_74 (by decide) ?_
              exact ih x1 x2 x3 x4_8 _ _ _ h (lv_sub hl [1, 2, 3, 4, 0] rfl) hf
            · replace hf := it_f hf hc
              refine lv_iconst (v := 1) hx hb dX2_judgeScreen_69 (by decide) ?_
              refine lv_istore_n (lv' := [(3, .int 1), (0, .ref a0), (1, .int x1), (2, .int x2), (4, .int x4)]) hx hb dX2_judgeScreen_70 rfl hl (by decide) rfl (fun ls hl => ?_)
              obtain ⟨x4_9, ex4_9⟩ : ∃ y : Int32, y = x4 + 1 := ⟨_, rfl⟩
              replace hf := nm_use hf ex4_9
              refine lv_iinc (v := x4_9) (lv' := [(4, .int x4_9), (3, .int 1), (0, .ref a0), (1, .int x1), (2, .int x2)]) hx hb dX2_judgeScreen_71 hl (k := 4) rfl (by rw [ex4_9]; rfl) (by decide) rfl (fun ls hl => ?_)
              refine lv_goto (tgt := 15) hx hb dX2_judgeScreen_74 (by decide) ?_
              exact ih x1 x2 1 x4_9 _ _ _ h (lv_sub hl [2, 3, 4, 1, 0] rfl) hf
        · replace hf := it_t hf hc
          refine lv_iconst (v := 2) hx hb dX2_judgeScreen_36 (by decide) ?_
          cases hf
          exact r_iret C h hr hlocks dX2_judgeScreen_37
  unfold fX2_judgeScreen at hf
  refine lv_aload_n hx hb dX2_judgeScreen_0 rfl (lv_at hl 0 rfl) ?_
  refine r_get C h 0 3 (ci := 2) (N := 6) (Cn := RX2) (T := TX2) rfl rfl (by decide) in_X2_judgeScreen_X2 lk_X2_judgeScreen_27 rfl dX2_judgeScreen_1 ?_
  refine lv_iconst (v := 0) hx hb dX2_judgeScreen_4 (by decide) ?_
  refine lv_iconst (v := 1) hx hb dX2_judgeScreen_5 (by decide) ?_
  obtain ⟨r_1, hq_2, hf⟩ := ob1_use hf
  refine r_callV C h (cw_X2_judgeScreen_X3_read_93 C.hts) (rest := []) (ci := 3) (N := 2) (Cn := RX3) (T := TX3) (c_X3_read l G cI cC cZ X a5 a6 3 96 sc (0 : Int32) (1 : Int32) r_1 hq_2) [5, 6] rfl rfl rfl rfl 5 rfl rfl hl.1 rfl (Nat.le_of_ble_eq_true rfl) ⟨Nat.le_of_ble_eq_true rfl, Nat.le_of_ble_eq_true rfl⟩ (wSt cI a0 a1 a2 a3 a4 a5 a6 a7 a8 nu va qu sc lo wt) rfl rfl dX2_judgeScreen_6 (fun H locs h => ?_)
  refine lv_istore_n (lv' := [(2, .int r_1), (0, .ref a0), (1, .int x1)]) hx hb dX2_judgeScreen_9 rfl hl (by decide) rfl (fun ls hl => ?_)
  refine lv_iconst (v := 0) hx hb dX2_judgeScreen_10 (by decide) ?_
  refine lv_istore_n (lv' := [(3, .int 0), (2, .int r_1), (0, .ref a0), (1, .int x1)]) hx hb dX2_judgeScreen_11 rfl hl (by decide) rfl (fun ls hl => ?_)
  refine lv_iconst (v := 0) hx hb dX2_judgeScreen_12 (by decide) ?_
  refine lv_istore (lv' := [(4, .int 0), (3, .int 0), (2, .int r_1), (0, .ref a0), (1, .int x1)]) hx hb dX2_judgeScreen_13 hl (by decide) rfl (fun ls hl => ?_)
  exact cut_15 KF x1 r_1 0 0 _ _ _ h (lv_sub hl [3, 4, 2, 1, 0] rfl) hf
def rm_X2_rowGoesOut : Room := { frames := 4, cells := 0, slots := 0, locals := 86 }
set_option maxRecDepth 20000 in
theorem lk_X2_rowGoesOut_9 : Cond.fieldLink RX2 9 "LineDoubler$State" "numbers" "[I" ∈ wsX2_rowGoesOut := List.mem_of_getElem? (i := 1) (by decide +kernel)
set_option maxRecDepth 20000 in
theorem in_X2_rowGoesOut_X2 : ∀ x ∈ wsX20, x ∈ wsX2_rowGoesOut := mem_r _ [56, 57, 58, 59, 60, 61] (by decide +kernel)
set_option maxRecDepth 20000 in
theorem cw_X2_rowGoesOut_X2_rowsOfScreen_100 {s : State} {args : Array Value} (hts : ∀ w ∈ wsX2_rowGoesOut, w.before args s = true) : CallW rm_X2_rowGoesOut s args RX2 RX2 100 yX2_rowsOfScreen cX2_rowsOfScreen 1 (some .int) wsX2_rowsOfScreen rm_X2_rowsOfScreen 0 0 0 :=
  cwV 0 hts gX2_rowGoesOut_X2_rowsOfScreen rfl rfl rfl (by decide +kernel) ⟨Nat.le_of_ble_eq_true rfl, Nat.le_of_ble_eq_true rfl⟩
set_option maxRecDepth 20000 in
theorem cw_X2_rowGoesOut_X2_setting_54 {s : State} {args : Array Value} (hts : ∀ w ∈ wsX2_rowGoesOut, w.before args s = true) : CallW rm_X2_rowGoesOut s args RX2 RX2 54 yX2_setting cX2_setting 2 (some .int) wsX2_setting rm_X2_setting 0 0 1 :=
  cwV 1 hts gX2_rowGoesOut_X2_setting rfl rfl rfl (by decide +kernel) ⟨Nat.le_of_ble_eq_true rfl, Nat.le_of_ble_eq_true rfl⟩
set_option maxRecDepth 20000 in
theorem cw_X2_rowGoesOut_X2_skipToPicture_103 {s : State} {args : Array Value} (hts : ∀ w ∈ wsX2_rowGoesOut, w.before args s = true) : CallW rm_X2_rowGoesOut s args RX2 RX2 103 yX2_skipToPicture cX2_skipToPicture 3 none wsX2_skipToPicture rm_X2_skipToPicture 0 0 0 :=
  cwV 0 hts gX2_rowGoesOut_X2_skipToPicture rfl rfl rfl (by decide +kernel) ⟨Nat.le_of_ble_eq_true rfl, Nat.le_of_ble_eq_true rfl⟩
set_option maxRecDepth 20000 in
theorem cw_X2_rowGoesOut_X2_judgeScreen_112 {s : State} {args : Array Value} (hts : ∀ w ∈ wsX2_rowGoesOut, w.before args s = true) : CallW rm_X2_rowGoesOut s args RX2 RX2 112 yX2_judgeScreen cX2_judgeScreen 5 (some .int) wsX2_judgeScreen rm_X2_judgeScreen 0 0 1 :=
  cwV 1 hts gX2_rowGoesOut_X2_judgeScreen rfl rfl rfl (by decide +kernel) ⟨Nat.le_of_ble_eq_true rfl, Nat.le_of_ble_eq_true rfl⟩
set_option maxRecDepth 20000 in
theorem cw_X2_rowGoesOut_X2_showColour_109 {s : State} {args : Array Value} (hts : ∀ w ∈ wsX2_rowGoesOut, w.before args s = true) : CallW rm_X2_rowGoesOut s args RX2 RX2 109 yX2_showColour cX2_showColour 2 none wsX2_showColour rm_X2_showColour 0 0 1 :=
  cwV 1 hts gX2_rowGoesOut_X2_showColour rfl rfl rfl (by decide +kernel) ⟨Nat.le_of_ble_eq_true rfl, Nat.le_of_ble_eq_true rfl⟩
set_option maxRecDepth 20000 in
theorem cw_X2_rowGoesOut_X2_showFirstWaiting_106 {s : State} {args : Array Value} (hts : ∀ w ∈ wsX2_rowGoesOut, w.before args s = true) : CallW rm_X2_rowGoesOut s args RX2 RX2 106 yX2_showFirstWaiting cX2_showFirstWaiting 2 none wsX2_showFirstWaiting rm_X2_showFirstWaiting 0 0 1 :=
  cwV 1 hts gX2_rowGoesOut_X2_showFirstWaiting rfl rfl rfl (by decide +kernel) ⟨Nat.le_of_ble_eq_true rfl, Nat.le_of_ble_eq_true rfl⟩
set_option maxHeartbeats 4000000 in
set_option maxRecDepth 100000 in
theorem c_X2_rowGoesOut (l : Launch) (G : va_G) (cI cC cZ : ClassId) (X : List (ClassId × FieldType)) (a0 a1 a2 a3 a4 a5 a6 a7 a8 : Nat) (nu : Nat → Int32) (va : Nat → Int32) (qu : Nat → Int32) (sc : Nat → Int32) (lo : Nat → Int32) (wt : Int32) (nu' : Nat → Int32) (qu' : Nat → Int32) (sc' : Nat → Int32) (lo' : Nat → Int32) (hf : fX2_rowGoesOut nu qu sc lo = some (nu', qu', sc', lo')) : CT l yX2_rowGoesOut wsX2_rowGoesOut rm_X2_rowGoesOut G (TY cI cC cZ X) [.ref a0] (wSt cI a0 a1 a2 a3 a4 a5 a6 a7 a8 nu va qu sc lo wt) none (wSt cI a0 a1 a2 a3 a4 a5 a6 a7 a8 nu' va qu' sc' lo' wt) := by
  refine CT.of (cc := cX2_rowGoesOut) (maxL := 4) (ret := none) RX2 rfl (by decide) rfl (Nat.le_of_ble_eq_true rfl) ?_
  intro p e s m args below meth c A ls C hr hlocks hnm h hl
  have hx := C.hx
  have hb := C.hb
  have hl : lv_has ls 4 [(0, .ref a0)] := hl
  have cut_118 : ∀ (nu : Nat → Int32) (qu : Nat → Int32) (sc : Nat → Int32) (lo : Nat → Int32) (H : Heap) (locs : List Loc) (ls : Array Slot), Hx s G A (wSt cI a0 a1 a2 a3 a4 a5 a6 a7 a8 nu va qu sc lo wt) H locs → lv_has ls 4 [(0, .ref a0)] → fX2_rowGoesOut_118 nu qu sc lo = some (nu', qu', sc', lo') → W p l e rm_X2_rowGoesOut s m args below meth c H locs 0 0 (MQ below (Qx G none (wSt cI a0 a1 a2 a3 a4 a5 a6 a7 a8 nu' va qu' sc' lo' wt) A) args s 0 0 A) (F0 m 118 ls []) := by
    intro nu qu sc lo H locs ls h hl hf
    unfold fX2_rowGoesOut_118 at hf
    refine lv_aload_n hx hb dX2_rowGoesOut_118 rfl (lv_at hl 0 rfl) ?_
    refine r_get C h 0 0 (ci := 2) (N := 6) (Cn := RX2) (T := TX2) rfl rfl (by decide) in_X2_rowGoesOut_X2 lk_X2_rowGoesOut_9 rfl dX2_rowGoesOut_119 ?_
    refine lv_bipush (v := 11) hx hb dX2_rowGoesOut_122 (by decide) ?_
    refine lv_dup2_11 hx hb dX2_rowGoesOut_124 rfl rfl ?_
    refine r_ald C h 1 rfl rfl k_11_24 dX2_rowGoesOut_125 ?_
    refine lv_aload_n hx hb dX2_rowGoesOut_126 rfl (lv_at hl 0 rfl) ?_
    refine lv_iconst (v := 1) hx hb dX2_rowGoesOut_127 (by decide) ?_
    obtain ⟨r_1, hq_2, hf⟩ := ob1_use hf
    refine r_callV C h (cw_X2_rowGoesOut_X2_setting_54 C.hts) (rest := [.int (nu 11), .int 11, .ref a1]) (ci := 2) (N := 6) (Cn := RX2) (T := TX2) (c_X2_setting l G cI cC cZ X a0 a1 a2 a3 a4 a5 a6 a7 a8 nu va qu sc lo wt (1 : Int32) r_1 hq_2) [0, 1, 2, 3, 4, 5, 6, 7, 8] rfl rfl rfl rfl 0 rfl rfl hl.1 rfl (Nat.le_of_ble_eq_true rfl) ⟨Nat.le_of_ble_eq_true rfl, Nat.le_of_ble_eq_true rfl⟩ (wSt cI a0 a1 a2 a3 a4 a5 a6 a7 a8 nu va qu sc lo wt) rfl rfl dX2_rowGoesOut_128 (fun H locs h => ?_)
    refine lv_iadd hx hb dX2_rowGoesOut_131 ?_
    refine r_ast C h 1 rfl rfl k_11_24 (fun z__ => (wSt cI a0 a1 a2 a3 a4 a5 a6 a7 a8 z__ va qu sc lo wt)) (fun _ => rfl) dX2_rowGoesOut_132 (fun nu_3 enu_3 H locs h => ?_)
    replace hf := nm_use hf enu_3
    cases hf
    exact r_vret C h hr hlocks dX2_rowGoesOut_133
  have cut_52 : ∀ (nu : Nat → Int32) (qu : Nat → Int32) (sc : Nat → Int32) (lo : Nat → Int32) (x1 : Int32) (x2 : Int32) (H : Heap) (locs : List Loc) (ls : Array Slot), Hx s G A (wSt cI a0 a1 a2 a3 a4 a5 a6 a7 a8 nu va qu sc lo wt) H locs → lv_has ls 4 [(0, .ref a0), (1, .int x1), (2, .int x2)] → fX2_rowGoesOut_52 nu qu sc lo x1 x2 = some (nu', qu', sc', lo') → W p l e rm_X2_rowGoesOut s m args below meth c H locs 0 0 (MQ below (Qx G none (wSt cI a0 a1 a2 a3 a4 a5 a6 a7 a8 nu' va qu' sc' lo' wt) A) args s 0 0 A) (F0 m 52 ls []) := by
    intro nu qu sc lo x1 x2 H locs ls h hl hf
    unfold fX2_rowGoesOut_52 at hf
    refine lv_aload_n hx hb dX2_rowGoesOut_52 rfl (lv_at hl 0 rfl) ?_
    refine r_get C h 0 0 (ci := 2) (N := 6) (Cn := RX2) (T := TX2) rfl rfl (by decide) in_X2_rowGoesOut_X2 lk_X2_rowGoesOut_9 rfl dX2_rowGoesOut_53 ?_
    refine lv_iconst (v := 5) hx hb dX2_rowGoesOut_56 (by decide) ?_
    refine lv_dup2_11 hx hb dX2_rowGoesOut_57 rfl rfl ?_
    refine r_ald C h 1 rfl rfl k_5_24 dX2_rowGoesOut_58 ?_
    refine lv_iconst (v := 1) hx hb dX2_rowGoesOut_59 (by decide) ?_
    refine lv_iadd hx hb dX2_rowGoesOut_60 ?_
    refine r_ast C h 1 rfl rfl k_5_24 (fun z__ => (wSt cI a0 a1 a2 a3 a4 a5 a6 a7 a8 z__ va qu sc lo wt)) (fun _ => rfl) dX2_rowGoesOut_61 (fun nu_1 enu_1 H locs h => ?_)
    replace hf := nm_use hf enu_1
    refine lv_aload_n hx hb dX2_rowGoesOut_62 rfl (lv_at hl 0 rfl) ?_
    refine r_get C h 0 0 (ci := 2) (N := 6) (Cn := RX2) (T := TX2) rfl rfl (by decide) in_X2_rowGoesOut_X2 lk_X2_rowGoesOut_9 rfl dX2_rowGoesOut_63 ?_
    refine lv_bipush (v := 7) hx hb dX2_rowGoesOut_66 (by decide) ?_
    refine lv_iload_n hx hb dX2_rowGoesOut_68 rfl (lv_at hl 2 rfl) ?_
    refine lv_iconst (v := 1) hx hb dX2_rowGoesOut_69 (by decide) ?_
    refine lv_iadd hx hb dX2_rowGoesOut_70 ?_
    refine r_ast C h 1 rfl rfl k_7_24 (fun z__ => (wSt cI a0 a1 a2 a3 a4 a5 a6 a7 a8 z__ va qu sc lo wt)) (fun _ => rfl) dX2_rowGoesOut_71 (fun nu_2 enu_2 H locs h => ?_)
    replace hf := nm_use hf enu_2
    refine lv_aload_n hx hb dX2_rowGoesOut_72 rfl (lv_at hl 0 rfl) ?_
    refine r_get C h 0 0 (ci := 2) (N := 6) (Cn := RX2) (T := TX2) rfl rfl (by decide) in_X2_rowGoesOut_X2 lk_X2_rowGoesOut_9 rfl dX2_rowGoesOut_73 ?_
    refine lv_bipush (v := 7) hx hb dX2_rowGoesOut_76 (by decide) ?_
    refine r_ald C h 1 rfl rfl k_7_24 dX2_rowGoesOut_78 ?_
    refine lv_iload_n hx hb dX2_rowGoesOut_79 rfl (lv_at hl 1 rfl) ?_
    refine lv_icmp_lt (tgt := 118) hx hb dX2_rowGoesOut_80 (by decide) (fun hc => ?_) (fun hc => ?_)
    · replace hf := it_t hf hc
      exact cut_118 nu_2 qu sc lo _ _ _ h (lv_sub hl [0] rfl) hf
    · replace hf := it_f hf hc
      refine lv_aload_n hx hb dX2_rowGoesOut_83 rfl (lv_at hl 0 rfl) ?_
      refine r_get C h 0 0 (ci := 2) (N := 6) (Cn := RX2) (T := TX2) rfl rfl (by decide) in_X2_rowGoesOut_X2 lk_X2_rowGoesOut_9 rfl dX2_rowGoesOut_84 ?_
      refine lv_bipush (v := 7) hx hb dX2_rowGoesOut_87 (by decide) ?_
      refine lv_iconst (v := 0) hx hb dX2_rowGoesOut_89 (by decide) ?_
      refine r_ast C h 1 rfl rfl k_7_24 (fun z__ => (wSt cI a0 a1 a2 a3 a4 a5 a6 a7 a8 z__ va qu sc lo wt)) (fun _ => rfl) dX2_rowGoesOut_90 (fun nu_3 enu_3 H locs h => ?_)
      replace hf := nm_use hf enu_3
      refine lv_aload_n hx hb dX2_rowGoesOut_91 rfl (lv_at hl 0 rfl) ?_
      refine lv_iload_n hx hb dX2_rowGoesOut_92 rfl (lv_at hl 1 rfl) ?_
      obtain ⟨r_4, hq_5, hf⟩ := ob1_use hf
      refine r_callV C h (cw_X2_rowGoesOut_X2_judgeScreen_112 C.hts) (rest := []) (ci := 2) (N := 6) (Cn := RX2) (T := TX2) (c_X2_judgeScreen l G cI cC cZ X a0 a1 a2 a3 a4 a5 a6 a7 a8 nu_3 va qu sc lo wt x1 r_4 hq_5) [0, 1, 2, 3, 4, 5, 6, 7, 8] rfl rfl rfl rfl 0 rfl rfl hl.1 rfl (Nat.le_of_ble_eq_true rfl) ⟨Nat.le_of_ble_eq_true rfl, Nat.le_of_ble_eq_true rfl⟩ (wSt cI a0 a1 a2 a3 a4 a5 a6 a7 a8 nu_3 va qu sc lo wt) rfl rfl dX2_rowGoesOut_93 (fun H locs h => ?_)
      refine lv_istore_n (lv' := [(3, .int r_4), (0, .ref a0), (1, .int x1), (2, .int x2)]) hx hb dX2_rowGoesOut_96 rfl hl (by decide) rfl (fun ls hl => ?_)
      refine lv_aload_n hx hb dX2_rowGoesOut_97 rfl (lv_at hl 1 rfl) ?_
      refine r_get C h 0 0 (ci := 2) (N := 6) (Cn := RX2) (T := TX2) rfl rfl (by decide) in_X2_rowGoesOut_X2 lk_X2_rowGoesOut_9 rfl dX2_rowGoesOut_98 ?_
      refine lv_bipush (v := 12) hx hb dX2_rowGoesOut_101 (by decide) ?_
      refine lv_iload_n hx hb dX2_rowGoesOut_103 rfl (lv_at hl 0 rfl) ?_
      refine lv_iadd hx hb dX2_rowGoesOut_104 ?_
      refine lv_topi (fun y_6 ey_6 => ?_)
      replace hf := nm_use hf ey_6
      refine lv_dup2_11 hx hb dX2_rowGoesOut_105 rfl rfl ?_
      obtain ⟨j_7, hj_7, hf⟩ := chk_use hf
      refine r_ald C h 1 rfl rfl hj_7 dX2_rowGoesOut_106 ?_
      refine lv_iconst (v := 1) hx hb dX2_rowGoesOut_107 (by decide) ?_
      refine lv_iadd hx hb dX2_rowGoesOut_108 ?_
      obtain ⟨j_8, hj_8, hf⟩ := chk_use hf
      refine r_ast C h 1 rfl rfl hj_8 (fun z__ => (wSt cI a0 a1 a2 a3 a4 a5 a6 a7 a8 z__ va qu sc lo wt)) (fun _ => rfl) dX2_rowGoesOut_109 (fun nu_9 enu_9 H locs h => ?_)
      replace hf := nm_use hf enu_9
      refine lv_aload_n hx hb dX2_rowGoesOut_110 rfl (lv_at hl 1 rfl) ?_
      refine r_get C h 0 0 (ci := 2) (N := 6) (Cn := RX2) (T := TX2) rfl rfl (by decide) in_X2_rowGoesOut_X2 lk_X2_rowGoesOut_9 rfl dX2_rowGoesOut_111 ?_
      refine lv_bipush (v := 15) hx hb dX2_rowGoesOut_114 (by decide) ?_
      refine lv_iload_n hx hb dX2_rowGoesOut_116 rfl (lv_at hl 0 rfl) ?_
      refine r_ast C h 1 rfl rfl k_15_24 (fun z__ => (wSt cI a0 a1 a2 a3 a4 a5 a6 a7 a8 z__ va qu sc lo wt)) (fun _ => rfl) dX2_rowGoesOut_117 (fun nu_10 enu_10 H locs h => ?_)
      replace hf := nm_use hf enu_10
      exact cut_118 nu_10 qu sc lo _ _ _ h (lv_sub hl [1] rfl) hf
  have cut_30 : ∀ (nu : Nat → Int32) (qu : Nat → Int32) (sc : Nat → Int32) (lo : Nat → Int32) (x1 : Int32) (x2 : Int32) (H : Heap) (locs : List Loc) (ls : Array Slot), Hx s G A (wSt cI a0 a1 a2 a3 a4 a5 a6 a7 a8 nu va qu sc lo wt) H locs → lv_has ls 4 [(0, .ref a0), (1, .int x1), (2, .int x2)] → fX2_rowGoesOut_30 nu qu sc lo x1 x2 = some (nu', qu', sc', lo') → W p l e rm_X2_rowGoesOut s m args below meth c H locs 0 0 (MQ below (Qx G none (wSt cI a0 a1 a2 a3 a4 a5 a6 a7 a8 nu' va qu' sc' lo' wt) A) args s 0 0 A) (F0 m 30 ls []) := by
    intro nu qu sc lo x1 x2 H locs ls h hl hf
    unfold fX2_rowGoesOut_30 at hf
    refine lv_aload_n hx hb dX2_rowGoesOut_30 rfl (lv_at hl 0 rfl) ?_
    refine r_get C h 0 0 (ci := 2) (N := 6) (Cn := RX2) (T := TX2) rfl rfl (by decide) in_X2_rowGoesOut_X2 lk_X2_rowGoesOut_9 rfl dX2_rowGoesOut_31 ?_
    refine lv_iconst (v := 2) hx hb dX2_rowGoesOut_34 (by decide) ?_
    refine r_ald C h 1 rfl rfl k_2_24 dX2_rowGoesOut_35 ?_
    refine lv_if_le (tgt := 47) hx hb dX2_rowGoesOut_36 (by decide) (fun hc => ?_) (fun hc => ?_)
    · replace hf := it_t hf hc
      refine lv_aload_n hx hb dX2_rowGoesOut_47 rfl (lv_at hl 0 rfl) ?_
      refine lv_iload_n hx hb dX2_rowGoesOut_48 rfl (lv_at hl 2 rfl) ?_
      obtain ⟨nu_1, sc_2, hq_3, hf⟩ := ob2_use hf
      refine r_callV C h (cw_X2_rowGoesOut_X2_showColour_109 C.hts) (rest := []) (ci := 2) (N := 6) (Cn := RX2) (T := TX2) (c_X2_showColour l G cI cC cZ X a0 a1 a2 a3 a4 a5 a6 a7 a8 nu va qu sc lo wt x2 nu_1 sc_2 hq_3) [0, 1, 2, 3, 4, 5, 6, 7, 8] rfl rfl rfl rfl 0 rfl rfl hl.1 rfl (Nat.le_of_ble_eq_true rfl) ⟨Nat.le_of_ble_eq_true rfl, Nat.le_of_ble_eq_true rfl⟩ (wSt cI a0 a1 a2 a3 a4 a5 a6 a7 a8 nu_1 va qu sc_2 lo wt) rfl rfl dX2_rowGoesOut_49 (fun H locs h => ?_)
      exact cut_52 nu_1 qu sc_2 lo x1 x2 _ _ _ h (lv_sub hl [0, 1, 2] rfl) hf
    · replace hf := it_f hf hc
      refine lv_aload_n hx hb dX2_rowGoesOut_39 rfl (lv_at hl 0 rfl) ?_
      refine lv_iload_n hx hb dX2_rowGoesOut_40 rfl (lv_at hl 2 rfl) ?_
      obtain ⟨nu_4, qu_5, sc_6, hq_7, hf⟩ := ob3_use hf
      refine r_callV C h (cw_X2_rowGoesOut_X2_showFirstWaiting_106 C.hts) (rest := []) (ci := 2) (N := 6) (Cn := RX2) (T := TX2) (c_X2_showFirstWaiting l G cI cC cZ X a0 a1 a2 a3 a4 a5 a6 a7 a8 nu va qu sc lo wt x2 nu_4 qu_5 sc_6 hq_7) [0, 1, 2, 3, 4, 5, 6, 7, 8] rfl rfl rfl rfl 0 rfl rfl hl.1 rfl (Nat.le_of_ble_eq_true rfl) ⟨Nat.le_of_ble_eq_true rfl, Nat.le_of_ble_eq_true rfl⟩ (wSt cI a0 a1 a2 a3 a4 a5 a6 a7 a8 nu_4 va qu_5 sc_6 lo wt) rfl rfl dX2_rowGoesOut_41 (fun H locs h => ?_)
      refine lv_goto (tgt := 52) hx hb dX2_rowGoesOut_44 (by decide) ?_
      exact cut_52 nu_4 qu_5 sc_6 lo x1 x2 _ _ _ h (lv_sub hl [0, 1, 2] rfl) hf
  unfold fX2_rowGoesOut at hf
  refine lv_aload_n hx hb dX2_rowGoesOut_0 rfl (lv_at hl 0 rfl) ?_
  obtain ⟨r_1, hq_2, hf⟩ := ob1_use hf
  refine r_callV C h (cw_X2_rowGoesOut_X2_rowsOfScreen_100 C.hts) (rest := []) (ci := 2) (N := 6) (Cn := RX2) (T := TX2) (c_X2_rowsOfScreen l G cI cC cZ X a0 a1 a2 a3 a4 a5 a6 a7 a8 nu va qu sc lo wt r_1 hq_2) [0, 1, 2, 3, 4, 5, 6, 7, 8] rfl rfl rfl rfl 0 rfl rfl hl.1 rfl (Nat.le_of_ble_eq_true rfl) ⟨Nat.le_of_ble_eq_true rfl, Nat.le_of_ble_eq_true rfl⟩ (wSt cI a0 a1 a2 a3 a4 a5 a6 a7 a8 nu va qu sc lo wt) rfl rfl dX2_rowGoesOut_1 (fun H locs h => ?_)
  refine lv_istore_n (lv' := [(1, .int r_1), (0, .ref a0)]) hx hb dX2_rowGoesOut_4 rfl hl (by decide) rfl (fun ls hl => ?_)
  refine lv_aload_n hx hb dX2_rowGoesOut_5 rfl (lv_at hl 1 rfl) ?_
  refine r_get C h 0 0 (ci := 2) (N := 6) (Cn := RX2) (T := TX2) rfl rfl (by decide) in_X2_rowGoesOut_X2 lk_X2_rowGoesOut_9 rfl dX2_rowGoesOut_6 ?_
  refine lv_bipush (v := 7) hx hb dX2_rowGoesOut_9 (by decide) ?_
  refine r_ald C h 1 rfl rfl k_7_24 dX2_rowGoesOut_11 ?_
  refine lv_topi (fun x2_3 ex2_3 => ?_)
  replace hf := nm_use hf ex2_3
  refine lv_istore_n (lv' := [(2, .int x2_3), (1, .int r_1), (0, .ref a0)]) hx hb dX2_rowGoesOut_12 rfl hl (by decide) rfl (fun ls hl => ?_)
  refine lv_iload_n hx hb dX2_rowGoesOut_13 rfl (lv_at hl 0 rfl) ?_
  refine lv_if_ne (tgt := 30) hx hb dX2_rowGoesOut_14 (by decide) (fun hc => ?_) (fun hc => ?_)
  · replace hf := it_f hf hc
    exact cut_30 nu qu sc lo r_1 x2_3 _ _ _ h (lv_sub hl [2, 1, 0] rfl) hf
  · replace hf := it_t hf hc
    refine lv_aload_n hx hb dX2_rowGoesOut_17 rfl (lv_at hl 2 rfl) ?_
    refine lv_iconst (v := 5) hx hb dX2_rowGoesOut_18 (by decide) ?_
    obtain ⟨r_4, hq_5, hf⟩ := ob1_use hf
    refine r_callV C h (cw_X2_rowGoesOut_X2_setting_54 C.hts) (rest := []) (ci := 2) (N := 6) (Cn := RX2) (T := TX2) (c_X2_setting l G cI cC cZ X a0 a1 a2 a3 a4 a5 a6 a7 a8 nu va qu sc lo wt (5 : Int32) r_4 hq_5) [0, 1, 2, 3, 4, 5, 6, 7, 8] rfl rfl rfl rfl 0 rfl rfl hl.1 rfl (Nat.le_of_ble_eq_true rfl) ⟨Nat.le_of_ble_eq_true rfl, Nat.le_of_ble_eq_true rfl⟩ (wSt cI a0 a1 a2 a3 a4 a5 a6 a7 a8 nu va qu sc lo wt) rfl rfl dX2_rowGoesOut_19 (fun H locs h => ?_)
    refine lv_iconst (v := 1) hx hb dX2_rowGoesOut_22 (by decide) ?_
    refine lv_icmp_ne (tgt := 30) hx hb dX2_rowGoesOut_23 (by decide) (fun hc => ?_) (fun hc => ?_)
    · replace hf := it_f hf hc
      exact cut_30 nu qu sc lo r_1 x2_3 _ _ _ h (lv_sub hl [2, 1, 0] rfl) hf
    · replace hf := it_t hf hc
      refine lv_aload_n hx hb dX2_rowGoesOut_26 rfl (lv_at hl 2 rfl) ?_
      obtain ⟨nu_6, qu_7, lo_8, hq_9, hf⟩ := ob3_use hf
      refine r_callV C h (cw_X2_rowGoesOut_X2_skipToPicture_103 C.hts) (rest := []) (ci := 2) (N := 6) (Cn := RX2) (T := TX2) (c_X2_skipToPicture l G cI cC cZ X a0 a1 a2 a3 a4 a5 a6 a7 a8 nu va qu sc lo wt nu_6 qu_7 lo_8 hq_9) [0, 1, 2, 3, 4, 5, 6, 7, 8] rfl rfl rfl rfl 0 rfl rfl hl.1 rfl (Nat.le_of_ble_eq_true rfl) ⟨Nat.le_of_ble_eq_true rfl, Nat.le_of_ble_eq_true rfl⟩ (wSt cI a0 a1 a2 a3 a4 a5 a6 a7 a8 nu_6 va qu_7 sc lo_8 wt) rfl rfl dX2_rowGoesOut_27 (fun H locs h => ?_)
      exact cut_30 nu_6 qu_7 sc lo_8 r_1 x2_3 _ _ _ h (lv_sub hl [2, 1, 0] rfl) hf
def rm_X2_passTicks : Room := { frames := 5, cells := 0, slots := 0, locals := 109 }
set_option maxRecDepth 20000 in
theorem lk_X2_passTicks_9 : Cond.fieldLink RX2 9 "LineDoubler$State" "numbers" "[I" ∈ wsX2_passTicks := List.mem_of_getElem? (i := 1) (by decide +kernel)
set_option maxRecDepth 20000 in
theorem lm_X2_passTicks_70 : Cond.methodLink RX2 70 Lib.Math.min.name ∈ wsX2_passTicks := List.mem_of_getElem? (i := 2) (by decide +kernel)
set_option maxRecDepth 20000 in
theorem ls_X2_passTicks_min : Cond.static Lib.Math.min.name ∈ wsX2_passTicks := List.mem_of_getElem? (i := 3) (by decide +kernel)
set_option maxRecDepth 20000 in
theorem li_X2_passTicks_Math : Cond.initialized "java/lang/Math" ∈ wsX2_passTicks := List.mem_of_getElem? (i := 4) (by decide +kernel)
set_option maxRecDepth 20000 in
theorem lc_X2_passTicks_min : Cond.code Lib.Math.min.name Lib.Math.min.code 2 (some .int) ∈ wsX2_passTicks := List.mem_of_getElem? (i := 5) (by decide +kernel)
set_option maxRecDepth 20000 in
theorem lm_X2_passTicks_76 : Cond.methodLink RX2 76 Lib.Math.max.name ∈ wsX2_passTicks := List.mem_of_getElem? (i := 6) (by decide +kernel)
set_option maxRecDepth 20000 in
theorem ls_X2_passTicks_max : Cond.static Lib.Math.max.name ∈ wsX2_passTicks := List.mem_of_getElem? (i := 7) (by decide +kernel)
set_option maxRecDepth 20000 in
theorem lc_X2_passTicks_max : Cond.code Lib.Math.max.name Lib.Math.max.code 2 (some .int) ∈ wsX2_passTicks := List.mem_of_getElem? (i := 8) (by decide +kernel)
set_option maxRecDepth 20000 in
theorem lk_X2_passTicks_46 : Cond.fieldLink RX2 46 "LineDoubler$State" "waitedSum" "I" ∈ wsX2_passTicks := List.mem_of_getElem? (i := 9) (by decide +kernel)
set_option maxRecDepth 20000 in
theorem in_X2_passTicks_X2 : ∀ x ∈ wsX20, x ∈ wsX2_passTicks := mem_r _ [81, 82, 83, 84, 85, 86] (by decide +kernel)
set_option maxRecDepth 20000 in
theorem cw_X2_passTicks_X4_isWithin_50 {s : State} {args : Array Value} (hts : ∀ w ∈ wsX2_passTicks, w.before args s = true) (hnw : NW s) : va_CN rm_X2_passTicks s args RX2 50 yX4_isWithin "LineDoubler" cX4_isWithin 3 (some .boolean) wsX4_isWithin rm_X4_isWithin 0 0 3 ∧ (Cond.static yX4_isWithin).before args s = true ∧ True :=
  ⟨va_cnB 3 hts gX2_passTicks_X4_isWithin_n50 rfl rfl rfl (hnw.2.1 _ lkM_2_50) (hts _ (List.mem_of_getElem? (i := 11) (by decide +kernel))) (by decide +kernel) ⟨Nat.le_of_ble_eq_true rfl, Nat.le_of_ble_eq_true rfl⟩, hts _ (List.mem_of_getElem? (i := 10) (by decide +kernel)), trivial⟩
set_option maxRecDepth 20000 in
theorem cw_X2_passTicks_X2_rowGoesOut_67 {s : State} {args : Array Value} (hts : ∀ w ∈ wsX2_passTicks, w.before args s = true) : CallW rm_X2_passTicks s args RX2 RX2 67 yX2_rowGoesOut cX2_rowGoesOut 4 none wsX2_rowGoesOut rm_X2_rowGoesOut 0 0 0 :=
  cwV 0 hts gX2_passTicks_X2_rowGoesOut rfl rfl rfl (by decide +kernel) ⟨Nat.le_of_ble_eq_true rfl, Nat.le_of_ble_eq_true rfl⟩
set_option maxRecDepth 20000 in
theorem cw_X2_passTicks_X2_lineComes_64 {s : State} {args : Array Value} (hts : ∀ w ∈ wsX2_passTicks, w.before args s = true) : CallW rm_X2_passTicks s args RX2 RX2 64 yX2_lineComes cX2_lineComes 3 none wsX2_lineComes rm_X2_lineComes 0 0 0 :=
  cwV 0 hts gX2_passTicks_X2_lineComes rfl rfl rfl (by decide +kernel) ⟨Nat.le_of_ble_eq_true rfl, Nat.le_of_ble_eq_true rfl⟩
set_option maxHeartbeats 4000000 in
set_option maxRecDepth 100000 in
theorem c_X2_passTicks (l : Launch) (G : va_G) (cI cC cZ : ClassId) (X : List (ClassId × FieldType)) (a0 a1 a2 a3 a4 a5 a6 a7 a8 : Nat) (nu : Nat → Int32) (va : Nat → Int32) (qu : Nat → Int32) (sc : Nat → Int32) (lo : Nat → Int32) (wt : Int32) (x1 : Int32) (x2 : Int32) (rv : Int32) (nu' : Nat → Int32) (qu' : Nat → Int32) (sc' : Nat → Int32) (lo' : Nat → Int32) (wt' : Int32) (hf : fX2_passTicks nu va qu sc lo wt x1 x2 = some (rv, nu', qu', sc', lo', wt')) : CT l yX2_passTicks wsX2_passTicks rm_X2_passTicks G (TY cI cC cZ X) [.ref a0, .int x1, .int x2] (wSt cI a0 a1 a2 a3 a4 a5 a6 a7 a8 nu va qu sc lo wt) (some (.int rv)) (wSt cI a0 a1 a2 a3 a4 a5 a6 a7 a8 nu' va qu' sc' lo' wt') := by
  refine CT.of (cc := cX2_passTicks) (maxL := 6) (ret := (some .int)) RX2 rfl (by decide) rfl (Nat.le_of_ble_eq_true rfl) ?_
  intro p e s m args below meth c A ls C hr hlocks hnm h hl
  have hx := C.hx
  have hb := C.hb
  have hl : lv_has ls 6 [(0, .ref a0), (1, .int x1), (2, .int x2)] := hl
  have cut_31 : ∀ (n : Nat) (nu : Nat → Int32) (qu : Nat → Int32) (sc : Nat → Int32) (lo : Nat → Int32) (wt : Int32) (x1 : Int32) (x3 : Int32) (H : Heap) (locs : List Loc) (ls : Array Slot), Hx s G A (wSt cI a0 a1 a2 a3 a4 a5 a6 a7 a8 nu va qu sc lo wt) H locs → lv_has ls 6 [(0, .ref a0), (1, .int x1), (3, .int x3)] → fX2_passTicks_31 n nu va qu sc lo wt x1 x3 = some (rv, nu', qu', sc', lo', wt') → W p l e rm_X2_passTicks s m args below meth c H locs 0 0 (MQ below (Qx G (some (.int rv)) (wSt cI a0 a1 a2 a3 a4 a5 a6 a7 a8 nu' va qu' sc' lo' wt') A) args s 0 0 A) (F0 m 31 ls []) := by
    intro n
    induction n with
    | zero =>
      intro nu qu sc lo wt x1 x3 H locs ls h hl hf
      exact (nn_some _ hf).elim
    | succ n ih =>
      intro nu qu sc lo wt x1 x3 H locs ls h hl hf
      have hf : fX2_passTicks_31_b (fX2_passTicks_31 n) nu va qu sc lo wt x1 x3 = some (rv, nu', qu', sc', lo', wt') := hf
      unfold fX2_passTicks_31_b at hf
      refine lv_iload_n hx hb dX2_passTicks_31 rfl (lv_at hl 2 rfl) ?_
      refine lv_iload_n hx hb dX2_passTicks_32 rfl (lv_at hl 1 rfl) ?_
      refine lv_icmp_ge (tgt := 153) hx hb dX2_passTicks_33 (by decide) (fun hc => ?_) (fun hc => ?_)
      · replace hf := it_t hf hc
        refine lv_aload_n hx hb dX2_passTicks_153 rfl (lv_at hl 0 rfl) ?_
        refine r_get C h 0 0 (ci := 2) (N := 6) (Cn := RX2) (T := TX2) rfl rfl (by decide) in_X2_passTicks_X2 lk_X2_passTicks_9 rfl dX2_passTicks_154 ?_
        refine lv_iconst (v := 0) hx hb dX2_passTicks_157 (by decide) ?_
        refine r_ald C h 1 rfl rfl k_0_24 dX2_passTicks_158 ?_
        cases hf
        exact r_iret C h hr hlocks dX2_passTicks_159
      · replace hf := it_f hf hc
        refine lv_aload_n hx hb dX2_passTicks_36 rfl (lv_at hl 0 rfl) ?_
        refine r_get C h 0 0 (ci := 2) (N := 6) (Cn := RX2) (T := TX2) rfl rfl (by decide) in_X2_passTicks_X2 lk_X2_passTicks_9 rfl dX2_passTicks_37 ?_
        refine lv_iconst (v := 0) hx hb dX2_passTicks_40 (by decide) ?_
        refine r_ald C h 1 rfl rfl k_0_24 dX2_passTicks_41 ?_
        refine lv_aload_n hx hb dX2_passTicks_42 rfl (lv_at hl 0 rfl) ?_
        refine r_get C h 0 0 (ci := 2) (N := 6) (Cn := RX2) (T := TX2) rfl rfl (by decide) in_X2_passTicks_X2 lk_X2_passTicks_9 rfl dX2_passTicks_43 ?_
        refine lv_bipush (v := 10) hx hb dX2_passTicks_46 (by decide) ?_
        refine r_ald C h 1 rfl rfl k_10_24 dX2_passTicks_48 ?_
        refine lv_icmp_ne (tgt := 56) hx hb dX2_passTicks_49 (by decide) (fun hc => ?_) (fun hc => ?_)
        · replace hf := it_f hf hc
          refine lv_aload_n hx hb dX2_passTicks_56 rfl (lv_at hl 0 rfl) ?_
          refine r_get C h 0 0 (ci := 2) (N := 6) (Cn := RX2) (T := TX2) rfl rfl (by decide) in_X2_passTicks_X2 lk_X2_passTicks_9 rfl dX2_passTicks_57 ?_
          refine lv_iconst (v := 0) hx hb dX2_passTicks_60 (by decide) ?_
          refine r_ald C h 1 rfl rfl k_0_24 dX2_passTicks_61 ?_
          refine lv_aload_n hx hb dX2_passTicks_62 rfl (lv_at hl 0 rfl) ?_
          refine r_get C h 0 0 (ci := 2) (N := 6) (Cn := RX2) (T := TX2) rfl rfl (by decide) in_X2_passTicks_X2 lk_X2_passTicks_9 rfl dX2_passTicks_63 ?_
          refine lv_bipush (v := 11) hx hb dX2_passTicks_66 (by decide) ?_
          refine r_ald C h 1 rfl rfl k_11_24 dX2_passTicks_68 ?_
          refine lv_icmp_ne (tgt := 76) hx hb dX2_passTicks_69 (by decide) (fun hc => ?_) (fun hc => ?_)
          · replace hf := it_f hf hc
            refine lv_aload_n hx hb dX2_passTicks_76 rfl (lv_at hl 0 rfl) ?_
            refine r_get C h 0 0 (ci := 2) (N := 6) (Cn := RX2) (T := TX2) rfl rfl (by decide) in_X2_passTicks_X2 lk_X2_passTicks_9 rfl dX2_passTicks_77 ?_
            refine lv_bipush (v := 10) hx hb dX2_passTicks_80 (by decide) ?_
            refine r_ald C h 1 rfl rfl k_10_24 dX2_passTicks_82 ?_
            refine lv_aload_n hx hb dX2_passTicks_83 rfl (lv_at hl 0 rfl) ?_
            refine r_get C h 0 0 (ci := 2) (N := 6) (Cn := RX2) (T := TX2) rfl rfl (by decide) in_X2_passTicks_X2 lk_X2_passTicks_9 rfl dX2_passTicks_84 ?_
            refine lv_bipush (v := 11) hx hb dX2_passTicks_87 (by decide) ?_
            refine r_ald C h 1 rfl rfl k_11_24 dX2_passTicks_89 ?_
            refine r_min C hl.1 lm_X2_passTicks_70 ls_X2_passTicks_min li_X2_passTicks_Math lc_X2_passTicks_min (Nat.le_of_ble_eq_true rfl) (Nat.le_of_ble_eq_true rfl) (Nat.le_of_ble_eq_true rfl) (Nat.le_of_ble_eq_true rfl) dX2_passTicks_90 ?_
            refine lv_aload_n hx hb dX2_passTicks_93 rfl (lv_at hl 0 rfl) ?_
            refine r_get C h 0 0 (ci := 2) (N := 6) (Cn := RX2) (T := TX2) rfl rfl (by decide) in_X2_passTicks_X2 lk_X2_passTicks_9 rfl dX2_passTicks_94 ?_
            refine lv_iconst (v := 0) hx hb dX2_passTicks_97 (by decide) ?_
            refine r_ald C h 1 rfl rfl k_0_24 dX2_passTicks_98 ?_
            refine lv_isub hx hb dX2_passTicks_99 ?_
            refine lv_topi (fun x4_1 ex4_1 => ?_)
            replace hf := nm_use hf ex4_1
            refine lv_istore (lv' := [(4, .int x4_1), (0, .ref a0), (1, .int x1), (3, .int x3)]) hx hb dX2_passTicks_100 hl (by decide) rfl (fun ls hl => ?_)
            refine lv_iconst (v := 1) hx hb dX2_passTicks_102 (by decide) ?_
            refine lv_iload hx hb dX2_passTicks_103 (lv_at hl 0 rfl) ?_
            refine lv_iload_n hx hb dX2_passTicks_105 rfl (lv_at hl 2 rfl) ?_
            refine lv_iload_n hx hb dX2_passTicks_106 rfl (lv_at hl 3 rfl) ?_
            refine lv_isub hx hb dX2_passTicks_107 ?_
            refine r_min C hl.1 lm_X2_passTicks_70 ls_X2_passTicks_min li_X2_passTicks_Math lc_X2_passTicks_min (Nat.le_of_ble_eq_true rfl) (Nat.le_of_ble_eq_true rfl) (Nat.le_of_ble_eq_true rfl) (Nat.le_of_ble_eq_true rfl) dX2_passTicks_108 ?_
            refine r_max C hl.1 lm_X2_passTicks_76 ls_X2_passTicks_max li_X2_passTicks_Math lc_X2_passTicks_max (Nat.le_of_ble_eq_true rfl) (Nat.le_of_ble_eq_true rfl) (Nat.le_of_ble_eq_true rfl) (Nat.le_of_ble_eq_true rfl) dX2_passTicks_111 ?_
            refine lv_topi (fun x5_2 ex5_2 => ?_)
            replace hf := nm_use hf ex5_2
            refine lv_istore (lv' := [(5, .int x5_2), (4, .int x4_1), (0, .ref a0), (1, .int x1), (3, .int x3)]) hx hb dX2_passTicks_114 hl (by decide) rfl (fun ls hl => ?_)
            refine lv_aload_n hx hb dX2_passTicks_116 rfl (lv_at hl 2 rfl) ?_
            refine lv_dup hx hb dX2_passTicks_117 rfl ?_
            refine r_get C h 0 5 (ci := 2) (N := 6) (Cn := RX2) (T := TX2) rfl rfl (by decide) in_X2_passTicks_X2 lk_X2_passTicks_46 rfl dX2_passTicks_118 ?_
            refine lv_iload hx hb dX2_passTicks_121 (lv_at hl 0 rfl) ?_
            refine lv_aload_n hx hb dX2_passTicks_123 rfl (lv_at hl 2 rfl) ?_
            refine r_get C h 0 0 (ci := 2) (N := 6) (Cn := RX2) (T := TX2) rfl rfl (by decide) in_X2_passTicks_X2 lk_X2_passTicks_9 rfl dX2_passTicks_124 ?_
            refine lv_iconst (v := 2) hx hb dX2_passTicks_127 (by decide) ?_
            refine r_ald C h 1 rfl rfl k_2_24 dX2_passTicks_128 ?_
            refine lv_imul hx hb dX2_passTicks_129 ?_
            refine lv_iadd hx hb dX2_passTicks_130 ?_
            refine lv_topi (fun wt_3 ewt_3 => ?_)
            replace hf := nm_use hf ewt_3
            refine r_put C h 0 5 (ci := 2) (N := 6) (Cn := RX2) (T := TX2) (ty0 := tyX2) rfl rfl (by decide) in_X2_passTicks_X2 tyX2_ok nmX2 lk_X2_passTicks_46 rfl rfl rfl (Nat.le_of_ble_eq_true rfl) (wSt cI a0 a1 a2 a3 a4 a5 a6 a7 a8 nu va qu sc lo wt_3) rfl dX2_passTicks_131 (fun H locs h => ?_)
            refine lv_aload_n hx hb dX2_passTicks_134 rfl (lv_at hl 2 rfl) ?_
            refine r_get C h 0 0 (ci := 2) (N := 6) (Cn := RX2) (T := TX2) rfl rfl (by decide) in_X2_passTicks_X2 lk_X2_passTicks_9 rfl dX2_passTicks_135 ?_
            refine lv_iconst (v := 0) hx hb dX2_passTicks_138 (by decide) ?_
            refine lv_dup2_11 hx hb dX2_passTicks_139 rfl rfl ?_
            refine r_ald C h 1 rfl rfl k_0_24 dX2_passTicks_140 ?_
            refine lv_iload hx hb dX2_passTicks_141 (lv_at hl 0 rfl) ?_
            refine lv_iadd hx hb dX2_passTicks_143 ?_
            refine r_ast C h 1 rfl rfl k_0_24 (fun z__ => (wSt cI a0 a1 a2 a3 a4 a5 a6 a7 a8 z__ va qu sc lo wt_3)) (fun _ => rfl) dX2_passTicks_144 (fun nu_4 enu_4 H locs h => ?_)
            replace hf := nm_use hf enu_4
            refine lv_iload_n hx hb dX2_passTicks_145 rfl (lv_at hl 4 rfl) ?_
            refine lv_iload hx hb dX2_passTicks_146 (lv_at hl 0 rfl) ?_
            refine lv_iadd hx hb dX2_passTicks_148 ?_
            refine lv_topi (fun x3_5 ex3_5 => ?_)
            replace hf := nm_use hf ex3_5
            refine lv_istore_n (lv' := [(3, .int x3_5), (5, .int x5_2), (4, .int x4_1), (0, .ref a0), (1, .int x1)]) hx hb dX2_passTicks_149 rfl hl (by decide) rfl (fun ls hl => ?_)
            refine lv_goto (tgt := 31) hx hb dX2_passTicks_150 (by decide) ?_
            exact ih nu_4 qu sc lo wt_3 x1 x3_5 _ _ _ h (lv_sub hl [3, 4, 0] rfl) hf
          · replace hf := it_t hf hc
            refine lv_aload_n hx hb dX2_passTicks_72 rfl (lv_at hl 0 rfl) ?_
            obtain ⟨nu_6, qu_7, sc_8, lo_9, hq_10, hf⟩ := ob4_use hf
            refine r_callV C h (cw_X2_passTicks_X2_rowGoesOut_67 C.hts) (rest := []) (ci := 2) (N := 6) (Cn := RX2) (T := TX2) (c_X2_rowGoesOut l G cI cC cZ X a0 a1 a2 a3 a4 a5 a6 a7 a8 nu va qu sc lo wt nu_6 qu_7 sc_8 lo_9 hq_10) [0, 1, 2, 3, 4, 5, 6, 7, 8] rfl rfl rfl rfl 0 rfl rfl hl.1 rfl (Nat.le_of_ble_eq_true rfl) ⟨Nat.le_of_ble_eq_true rfl, Nat.le_of_ble_eq_true rfl⟩ (wSt cI a0 a1 a2 a3 a4 a5 a6 a7 a8 nu_6 va qu_7 sc_8 lo_9 wt) rfl rfl dX2_passTicks_73 (fun H locs h => ?_)
            refine lv_aload_n hx hb dX2_passTicks_76 rfl (lv_at hl 0 rfl) ?_
            refine r_get C h 0 0 (ci := 2) (N := 6) (Cn := RX2) (T := TX2) rfl rfl (by decide) in_X2_passTicks_X2 lk_X2_passTicks_9 rfl dX2_passTicks_77 ?_
            refine lv_bipush (v := 10) hx hb dX2_passTicks_80 (by decide) ?_
            refine r_ald C h 1 rfl rfl k_10_24 dX2_passTicks_82 ?_
            refine lv_aload_n hx hb dX2_passTicks_83 rfl (lv_at hl 0 rfl) ?_
            refine r_get C h 0 0 (ci := 2) (N := 6) (Cn := RX2) (T := TX2) rfl rfl (by decide) in_X2_passTicks_X2 lk_X2_passTicks_9 rfl dX2_passTicks_84 ?_
            refine lv_bipush (v := 11) hx hb dX2_passTicks_87 (by decide) ?_
            refine r_ald C h 1 rfl rfl k_11_24 dX2_passTicks_89 ?_
            refine r_min C hl.1 lm_X2_passTicks_70 ls_X2_passTicks_min li_X2_passTicks_Math lc_X2_passTicks_min (Nat.le_of_ble_eq_true rfl) (Nat.le_of_ble_eq_true rfl) (Nat.le_of_ble_eq_true rfl) (Nat.le_of_ble_eq_true rfl) dX2_passTicks_90 ?_
            refine lv_aload_n hx hb dX2_passTicks_93 rfl (lv_at hl 0 rfl) ?_
            refine r_get C h 0 0 (ci := 2) (N := 6) (Cn := RX2) (T := TX2) rfl rfl (by decide) in_X2_passTicks_X2 lk_X2_passTicks_9 rfl dX2_passTicks_94 ?_
            refine lv_iconst (v := 0) hx hb dX2_passTicks_97 (by decide) ?_
            refine r_ald C h 1 rfl rfl k_0_24 dX2_passTicks_98 ?_
            refine lv_isub hx hb dX2_passTicks_99 ?_
            refine lv_topi (fun x4_11 ex4_11 => ?_)
            replace hf := nm_use hf ex4_11
            refine lv_istore (lv' := [(4, .int x4_11), (0, .ref a0), (1, .int x1), (3, .int x3)]) hx hb dX2_passTicks_100 hl (by decide) rfl (fun ls hl => ?_)
            refine lv_iconst (v := 1) hx hb dX2_passTicks_102 (by decide) ?_
            refine lv_iload hx hb dX2_passTicks_103 (lv_at hl 0 rfl) ?_
            refine lv_iload_n hx hb dX2_passTicks_105 rfl (lv_at hl 2 rfl) ?_
            refine lv_iload_n hx hb dX2_passTicks_106 rfl (lv_at hl 3 rfl) ?_
            refine lv_isub hx hb dX2_passTicks_107 ?_
            refine r_min C hl.1 lm_X2_passTicks_70 ls_X2_passTicks_min li_X2_passTicks_Math lc_X2_passTicks_min (Nat.le_of_ble_eq_true rfl) (Nat.le_of_ble_eq_true rfl) (Nat.le_of_ble_eq_true rfl) (Nat.le_of_ble_eq_true rfl) dX2_passTicks_108 ?_
            refine r_max C hl.1 lm_X2_passTicks_76 ls_X2_passTicks_max li_X2_passTicks_Math lc_X2_passTicks_max (Nat.le_of_ble_eq_true rfl) (Nat.le_of_ble_eq_true rfl) (Nat.le_of_ble_eq_true rfl) (Nat.le_of_ble_eq_true rfl) dX2_passTicks_111 ?_
            refine lv_topi (fun x5_12 ex5_12 => ?_)
            replace hf := nm_use hf ex5_12
            refine lv_istore (lv' := [(5, .int x5_12), (4, .int x4_11), (0, .ref a0), (1, .int x1), (3, .int x3)]) hx hb dX2_passTicks_114 hl (by decide) rfl (fun ls hl => ?_)
            refine lv_aload_n hx hb dX2_passTicks_116 rfl (lv_at hl 2 rfl) ?_
            refine lv_dup hx hb dX2_passTicks_117 rfl ?_
            refine r_get C h 0 5 (ci := 2) (N := 6) (Cn := RX2) (T := TX2) rfl rfl (by decide) in_X2_passTicks_X2 lk_X2_passTicks_46 rfl dX2_passTicks_118 ?_
            refine lv_iload hx hb dX2_passTicks_121 (lv_at hl 0 rfl) ?_
            refine lv_aload_n hx hb dX2_passTicks_123 rfl (lv_at hl 2 rfl) ?_
            refine r_get C h 0 0 (ci := 2) (N := 6) (Cn := RX2) (T := TX2) rfl rfl (by decide) in_X2_passTicks_X2 lk_X2_passTicks_9 rfl dX2_passTicks_124 ?_
            refine lv_iconst (v := 2) hx hb dX2_passTicks_127 (by decide) ?_
            refine r_ald C h 1 rfl rfl k_2_24 dX2_passTicks_128 ?_
            refine lv_imul hx hb dX2_passTicks_129 ?_
            refine lv_iadd hx hb dX2_passTicks_130 ?_
            refine lv_topi (fun wt_13 ewt_13 => ?_)
            replace hf := nm_use hf ewt_13
            refine r_put C h 0 5 (ci := 2) (N := 6) (Cn := RX2) (T := TX2) (ty0 := tyX2) rfl rfl (by decide) in_X2_passTicks_X2 tyX2_ok nmX2 lk_X2_passTicks_46 rfl rfl rfl (Nat.le_of_ble_eq_true rfl) (wSt cI a0 a1 a2 a3 a4 a5 a6 a7 a8 nu_6 va qu_7 sc_8 lo_9 wt_13) rfl dX2_passTicks_131 (fun H locs h => ?_)
            refine lv_aload_n hx hb dX2_passTicks_134 rfl (lv_at hl 2 rfl) ?_
            refine r_get C h 0 0 (ci := 2) (N := 6) (Cn := RX2) (T := TX2) rfl rfl (by decide) in_X2_passTicks_X2 lk_X2_passTicks_9 rfl dX2_passTicks_135 ?_
            refine lv_iconst (v := 0) hx hb dX2_passTicks_138 (by decide) ?_
            refine lv_dup2_11 hx hb dX2_passTicks_139 rfl rfl ?_
            refine r_ald C h 1 rfl rfl k_0_24 dX2_passTicks_140 ?_
            refine lv_iload hx hb dX2_passTicks_141 (lv_at hl 0 rfl) ?_
            refine lv_iadd hx hb dX2_passTicks_143 ?_
            refine r_ast C h 1 rfl rfl k_0_24 (fun z__ => (wSt cI a0 a1 a2 a3 a4 a5 a6 a7 a8 z__ va qu_7 sc_8 lo_9 wt_13)) (fun _ => rfl) dX2_passTicks_144 (fun nu_14 enu_14 H locs h => ?_)
            replace hf := nm_use hf enu_14
            refine lv_iload_n hx hb dX2_passTicks_145 rfl (lv_at hl 4 rfl) ?_
            refine lv_iload hx hb dX2_passTicks_146 (lv_at hl 0 rfl) ?_
            refine lv_iadd hx hb dX2_passTicks_148 ?_
            refine lv_topi (fun x3_15 ex3_15 => ?_)
            replace hf := nm_use hf ex3_15
            refine lv_istore_n (lv' := [(3, .int x3_15), (5, .int x5_12), (4, .int x4_11), (0, .ref a0), (1, .int x1)]) hx hb dX2_passTicks_149 rfl hl (by decide) rfl (fun ls hl => ?_)
            refine lv_goto (tgt := 31) hx hb dX2_passTicks_150 (by decide) ?_
            exact ih nu_14 qu_7 sc_8 lo_9 wt_13 x1 x3_15 _ _ _ h (lv_sub hl [3, 4, 0] rfl) hf
        · replace hf := it_t hf hc
          refine lv_aload_n hx hb dX2_passTicks_52 rfl (lv_at hl 0 rfl) ?_
          obtain ⟨nu_16, qu_17, lo_18, hq_19, hf⟩ := ob3_use hf
          refine r_callV C h (cw_X2_passTicks_X2_lineComes_64 C.hts) (rest := []) (ci := 2) (N := 6) (Cn := RX2) (T := TX2) (c_X2_lineComes l G cI cC cZ X a0 a1 a2 a3 a4 a5 a6 a7 a8 nu va qu sc lo wt nu_16 qu_17 lo_18 hq_19) [0, 1, 2, 3, 4, 5, 6, 7, 8] rfl rfl rfl rfl 0 rfl rfl hl.1 rfl (Nat.le_of_ble_eq_true rfl) ⟨Nat.le_of_ble_eq_true rfl, Nat.le_of_ble_eq_true rfl⟩ (wSt cI a0 a1 a2 a3 a4 a5 a6 a7 a8 nu_16 va qu_17 sc lo_18 wt) rfl rfl dX2_passTicks_53 (fun H locs h => ?_)
          refine lv_aload_n hx hb dX2_passTicks_56 rfl (lv_at hl 0 rfl) ?_
          refine r_get C h 0 0 (ci := 2) (N := 6) (Cn := RX2) (T := TX2) rfl rfl (by decide) in_X2_passTicks_X2 lk_X2_passTicks_9 rfl dX2_passTicks_57 ?_
          refine lv_iconst (v := 0) hx hb dX2_passTicks_60 (by decide) ?_
          refine r_ald C h 1 rfl rfl k_0_24 dX2_passTicks_61 ?_
          refine lv_aload_n hx hb dX2_passTicks_62 rfl (lv_at hl 0 rfl) ?_
          refine r_get C h 0 0 (ci := 2) (N := 6) (Cn := RX2) (T := TX2) rfl rfl (by decide) in_X2_passTicks_X2 lk_X2_passTicks_9 rfl dX2_passTicks_63 ?_
          refine lv_bipush (v := 11) hx hb dX2_passTicks_66 (by decide) ?_
          refine r_ald C h 1 rfl rfl k_11_24 dX2_passTicks_68 ?_
          refine lv_icmp_ne (tgt := 76) hx hb dX2_passTicks_69 (by decide) (fun hc => ?_) (fun hc => ?_)
          · replace hf := it_f hf hc
            refine lv_aload_n hx hb dX2_passTicks_76 rfl (lv_at hl 0 rfl) ?_
            refine r_get C h 0 0 (ci := 2) (N := 6) (Cn := RX2) (T := TX2) rfl rfl (by decide) in_X2_passTicks_X2 lk_X2_passTicks_9 rfl dX2_passTicks_77 ?_
            refine lv_bipush (v := 10) hx hb dX2_passTicks_80 (by decide) ?_
            refine r_ald C h 1 rfl rfl k_10_24 dX2_passTicks_82 ?_
            refine lv_aload_n hx hb dX2_passTicks_83 rfl (lv_at hl 0 rfl) ?_
            refine r_get C h 0 0 (ci := 2) (N := 6) (Cn := RX2) (T := TX2) rfl rfl (by decide) in_X2_passTicks_X2 lk_X2_passTicks_9 rfl dX2_passTicks_84 ?_
            refine lv_bipush (v := 11) hx hb dX2_passTicks_87 (by decide) ?_
            refine r_ald C h 1 rfl rfl k_11_24 dX2_passTicks_89 ?_
            refine r_min C hl.1 lm_X2_passTicks_70 ls_X2_passTicks_min li_X2_passTicks_Math lc_X2_passTicks_min (Nat.le_of_ble_eq_true rfl) (Nat.le_of_ble_eq_true rfl) (Nat.le_of_ble_eq_true rfl) (Nat.le_of_ble_eq_true rfl) dX2_passTicks_90 ?_
            refine lv_aload_n hx hb dX2_passTicks_93 rfl (lv_at hl 0 rfl) ?_
            refine r_get C h 0 0 (ci := 2) (N := 6) (Cn := RX2) (T := TX2) rfl rfl (by decide) in_X2_passTicks_X2 lk_X2_passTicks_9 rfl dX2_passTicks_94 ?_
            refine lv_iconst (v := 0) hx hb dX2_passTicks_97 (by decide) ?_
            refine r_ald C h 1 rfl rfl k_0_24 dX2_passTicks_98 ?_
            refine lv_isub hx hb dX2_passTicks_99 ?_
            refine lv_topi (fun x4_20 ex4_20 => ?_)
            replace hf := nm_use hf ex4_20
            refine lv_istore (lv' := [(4, .int x4_20), (0, .ref a0), (1, .int x1), (3, .int x3)]) hx hb dX2_passTicks_100 hl (by decide) rfl (fun ls hl => ?_)
            refine lv_iconst (v := 1) hx hb dX2_passTicks_102 (by decide) ?_
            refine lv_iload hx hb dX2_passTicks_103 (lv_at hl 0 rfl) ?_
            refine lv_iload_n hx hb dX2_passTicks_105 rfl (lv_at hl 2 rfl) ?_
            refine lv_iload_n hx hb dX2_passTicks_106 rfl (lv_at hl 3 rfl) ?_
            refine lv_isub hx hb dX2_passTicks_107 ?_
            refine r_min C hl.1 lm_X2_passTicks_70 ls_X2_passTicks_min li_X2_passTicks_Math lc_X2_passTicks_min (Nat.le_of_ble_eq_true rfl) (Nat.le_of_ble_eq_true rfl) (Nat.le_of_ble_eq_true rfl) (Nat.le_of_ble_eq_true rfl) dX2_passTicks_108 ?_
            refine r_max C hl.1 lm_X2_passTicks_76 ls_X2_passTicks_max li_X2_passTicks_Math lc_X2_passTicks_max (Nat.le_of_ble_eq_true rfl) (Nat.le_of_ble_eq_true rfl) (Nat.le_of_ble_eq_true rfl) (Nat.le_of_ble_eq_true rfl) dX2_passTicks_111 ?_
            refine lv_topi (fun x5_21 ex5_21 => ?_)
            replace hf := nm_use hf ex5_21
            refine lv_istore (lv' := [(5, .int x5_21), (4, .int x4_20), (0, .ref a0), (1, .int x1), (3, .int x3)]) hx hb dX2_passTicks_114 hl (by decide) rfl (fun ls hl => ?_)
            refine lv_aload_n hx hb dX2_passTicks_116 rfl (lv_at hl 2 rfl) ?_
            refine lv_dup hx hb dX2_passTicks_117 rfl ?_
            refine r_get C h 0 5 (ci := 2) (N := 6) (Cn := RX2) (T := TX2) rfl rfl (by decide) in_X2_passTicks_X2 lk_X2_passTicks_46 rfl dX2_passTicks_118 ?_
            refine lv_iload hx hb dX2_passTicks_121 (lv_at hl 0 rfl) ?_
            refine lv_aload_n hx hb dX2_passTicks_123 rfl (lv_at hl 2 rfl) ?_
            refine r_get C h 0 0 (ci := 2) (N := 6) (Cn := RX2) (T := TX2) rfl rfl (by decide) in_X2_passTicks_X2 lk_X2_passTicks_9 rfl dX2_passTicks_124 ?_
            refine lv_iconst (v := 2) hx hb dX2_passTicks_127 (by decide) ?_
            refine r_ald C h 1 rfl rfl k_2_24 dX2_passTicks_128 ?_
            refine lv_imul hx hb dX2_passTicks_129 ?_
            refine lv_iadd hx hb dX2_passTicks_130 ?_
            refine lv_topi (fun wt_22 ewt_22 => ?_)
            replace hf := nm_use hf ewt_22
            refine r_put C h 0 5 (ci := 2) (N := 6) (Cn := RX2) (T := TX2) (ty0 := tyX2) rfl rfl (by decide) in_X2_passTicks_X2 tyX2_ok nmX2 lk_X2_passTicks_46 rfl rfl rfl (Nat.le_of_ble_eq_true rfl) (wSt cI a0 a1 a2 a3 a4 a5 a6 a7 a8 nu_16 va qu_17 sc lo_18 wt_22) rfl dX2_passTicks_131 (fun H locs h => ?_)
            refine lv_aload_n hx hb dX2_passTicks_134 rfl (lv_at hl 2 rfl) ?_
            refine r_get C h 0 0 (ci := 2) (N := 6) (Cn := RX2) (T := TX2) rfl rfl (by decide) in_X2_passTicks_X2 lk_X2_passTicks_9 rfl dX2_passTicks_135 ?_
            refine lv_iconst (v := 0) hx hb dX2_passTicks_138 (by decide) ?_
            refine lv_dup2_11 hx hb dX2_passTicks_139 rfl rfl ?_
            refine r_ald C h 1 rfl rfl k_0_24 dX2_passTicks_140 ?_
            refine lv_iload hx hb dX2_passTicks_141 (lv_at hl 0 rfl) ?_
            refine lv_iadd hx hb dX2_passTicks_143 ?_
            refine r_ast C h 1 rfl rfl k_0_24 (fun z__ => (wSt cI a0 a1 a2 a3 a4 a5 a6 a7 a8 z__ va qu_17 sc lo_18 wt_22)) (fun _ => rfl) dX2_passTicks_144 (fun nu_23 enu_23 H locs h => ?_)
            replace hf := nm_use hf enu_23
            refine lv_iload_n hx hb dX2_passTicks_145 rfl (lv_at hl 4 rfl) ?_
            refine lv_iload hx hb dX2_passTicks_146 (lv_at hl 0 rfl) ?_
            refine lv_iadd hx hb dX2_passTicks_148 ?_
            refine lv_topi (fun x3_24 ex3_24 => ?_)
            replace hf := nm_use hf ex3_24
            refine lv_istore_n (lv' := [(3, .int x3_24), (5, .int x5_21), (4, .int x4_20), (0, .ref a0), (1, .int x1)]) hx hb dX2_passTicks_149 rfl hl (by decide) rfl (fun ls hl => ?_)
            refine lv_goto (tgt := 31) hx hb dX2_passTicks_150 (by decide) ?_
            exact ih nu_23 qu_17 sc lo_18 wt_22 x1 x3_24 _ _ _ h (lv_sub hl [3, 4, 0] rfl) hf
          · replace hf := it_t hf hc
            refine lv_aload_n hx hb dX2_passTicks_72 rfl (lv_at hl 0 rfl) ?_
            obtain ⟨nu_25, qu_26, sc_27, lo_28, hq_29, hf⟩ := ob4_use hf
            refine r_callV C h (cw_X2_passTicks_X2_rowGoesOut_67 C.hts) (rest := []) (ci := 2) (N := 6) (Cn := RX2) (T := TX2) (c_X2_rowGoesOut l G cI cC cZ X a0 a1 a2 a3 a4 a5 a6 a7 a8 nu_16 va qu_17 sc lo_18 wt nu_25 qu_26 sc_27 lo_28 hq_29) [0, 1, 2, 3, 4, 5, 6, 7, 8] rfl rfl rfl rfl 0 rfl rfl hl.1 rfl (Nat.le_of_ble_eq_true rfl) ⟨Nat.le_of_ble_eq_true rfl, Nat.le_of_ble_eq_true rfl⟩ (wSt cI a0 a1 a2 a3 a4 a5 a6 a7 a8 nu_25 va qu_26 sc_27 lo_28 wt) rfl rfl dX2_passTicks_73 (fun H locs h => ?_)
            refine lv_aload_n hx hb dX2_passTicks_76 rfl (lv_at hl 0 rfl) ?_
            refine r_get C h 0 0 (ci := 2) (N := 6) (Cn := RX2) (T := TX2) rfl rfl (by decide) in_X2_passTicks_X2 lk_X2_passTicks_9 rfl dX2_passTicks_77 ?_
            refine lv_bipush (v := 10) hx hb dX2_passTicks_80 (by decide) ?_
            refine r_ald C h 1 rfl rfl k_10_24 dX2_passTicks_82 ?_
            refine lv_aload_n hx hb dX2_passTicks_83 rfl (lv_at hl 0 rfl) ?_
            refine r_get C h 0 0 (ci := 2) (N := 6) (Cn := RX2) (T := TX2) rfl rfl (by decide) in_X2_passTicks_X2 lk_X2_passTicks_9 rfl dX2_passTicks_84 ?_
            refine lv_bipush (v := 11) hx hb dX2_passTicks_87 (by decide) ?_
            refine r_ald C h 1 rfl rfl k_11_24 dX2_passTicks_89 ?_
            refine r_min C hl.1 lm_X2_passTicks_70 ls_X2_passTicks_min li_X2_passTicks_Math lc_X2_passTicks_min (Nat.le_of_ble_eq_true rfl) (Nat.le_of_ble_eq_true rfl) (Nat.le_of_ble_eq_true rfl) (Nat.le_of_ble_eq_true rfl) dX2_passTicks_90 ?_
            refine lv_aload_n hx hb dX2_passTicks_93 rfl (lv_at hl 0 rfl) ?_
            refine r_get C h 0 0 (ci := 2) (N := 6) (Cn := RX2) (T := TX2) rfl rfl (by decide) in_X2_passTicks_X2 lk_X2_passTicks_9 rfl dX2_passTicks_94 ?_
            refine lv_iconst (v := 0) hx hb dX2_passTicks_97 (by decide) ?_
            refine r_ald C h 1 rfl rfl k_0_24 dX2_passTicks_98 ?_
            refine lv_isub hx hb dX2_passTicks_99 ?_
            refine lv_topi (fun x4_30 ex4_30 => ?_)
            replace hf := nm_use hf ex4_30
            refine lv_istore (lv' := [(4, .int x4_30), (0, .ref a0), (1, .int x1), (3, .int x3)]) hx hb dX2_passTicks_100 hl (by decide) rfl (fun ls hl => ?_)
            refine lv_iconst (v := 1) hx hb dX2_passTicks_102 (by decide) ?_
            refine lv_iload hx hb dX2_passTicks_103 (lv_at hl 0 rfl) ?_
            refine lv_iload_n hx hb dX2_passTicks_105 rfl (lv_at hl 2 rfl) ?_
            refine lv_iload_n hx hb dX2_passTicks_106 rfl (lv_at hl 3 rfl) ?_
            refine lv_isub hx hb dX2_passTicks_107 ?_
            refine r_min C hl.1 lm_X2_passTicks_70 ls_X2_passTicks_min li_X2_passTicks_Math lc_X2_passTicks_min (Nat.le_of_ble_eq_true rfl) (Nat.le_of_ble_eq_true rfl) (Nat.le_of_ble_eq_true rfl) (Nat.le_of_ble_eq_true rfl) dX2_passTicks_108 ?_
            refine r_max C hl.1 lm_X2_passTicks_76 ls_X2_passTicks_max li_X2_passTicks_Math lc_X2_passTicks_max (Nat.le_of_ble_eq_true rfl) (Nat.le_of_ble_eq_true rfl) (Nat.le_of_ble_eq_true rfl) (Nat.le_of_ble_eq_true rfl) dX2_passTicks_111 ?_
            refine lv_topi (fun x5_31 ex5_31 => ?_)
            replace hf := nm_use hf ex5_31
            refine lv_istore (lv' := [(5, .int x5_31), (4, .int x4_30), (0, .ref a0), (1, .int x1), (3, .int x3)]) hx hb dX2_passTicks_114 hl (by decide) rfl (fun ls hl => ?_)
            refine lv_aload_n hx hb dX2_passTicks_116 rfl (lv_at hl 2 rfl) ?_
            refine lv_dup hx hb dX2_passTicks_117 rfl ?_
            refine r_get C h 0 5 (ci := 2) (N := 6) (Cn := RX2) (T := TX2) rfl rfl (by decide) in_X2_passTicks_X2 lk_X2_passTicks_46 rfl dX2_passTicks_118 ?_
            refine lv_iload hx hb dX2_passTicks_121 (lv_at hl 0 rfl) ?_
            refine lv_aload_n hx hb dX2_passTicks_123 rfl (lv_at hl 2 rfl) ?_
            refine r_get C h 0 0 (ci := 2) (N := 6) (Cn := RX2) (T := TX2) rfl rfl (by decide) in_X2_passTicks_X2 lk_X2_passTicks_9 rfl dX2_passTicks_124 ?_
            refine lv_iconst (v := 2) hx hb dX2_passTicks_127 (by decide) ?_
            refine r_ald C h 1 rfl rfl k_2_24 dX2_passTicks_128 ?_
            refine lv_imul hx hb dX2_passTicks_129 ?_
            refine lv_iadd hx hb dX2_passTicks_130 ?_
            refine lv_topi (fun wt_32 ewt_32 => ?_)
            replace hf := nm_use hf ewt_32
            refine r_put C h 0 5 (ci := 2) (N := 6) (Cn := RX2) (T := TX2) (ty0 := tyX2) rfl rfl (by decide) in_X2_passTicks_X2 tyX2_ok nmX2 lk_X2_passTicks_46 rfl rfl rfl (Nat.le_of_ble_eq_true rfl) (wSt cI a0 a1 a2 a3 a4 a5 a6 a7 a8 nu_25 va qu_26 sc_27 lo_28 wt_32) rfl dX2_passTicks_131 (fun H locs h => ?_)
            refine lv_aload_n hx hb dX2_passTicks_134 rfl (lv_at hl 2 rfl) ?_
            refine r_get C h 0 0 (ci := 2) (N := 6) (Cn := RX2) (T := TX2) rfl rfl (by decide) in_X2_passTicks_X2 lk_X2_passTicks_9 rfl dX2_passTicks_135 ?_
            refine lv_iconst (v := 0) hx hb dX2_passTicks_138 (by decide) ?_
            refine lv_dup2_11 hx hb dX2_passTicks_139 rfl rfl ?_
            refine r_ald C h 1 rfl rfl k_0_24 dX2_passTicks_140 ?_
            refine lv_iload hx hb dX2_passTicks_141 (lv_at hl 0 rfl) ?_
            refine lv_iadd hx hb dX2_passTicks_143 ?_
            refine r_ast C h 1 rfl rfl k_0_24 (fun z__ => (wSt cI a0 a1 a2 a3 a4 a5 a6 a7 a8 z__ va qu_26 sc_27 lo_28 wt_32)) (fun _ => rfl) dX2_passTicks_144 (fun nu_33 enu_33 H locs h => ?_)
            replace hf := nm_use hf enu_33
            refine lv_iload_n hx hb dX2_passTicks_145 rfl (lv_at hl 4 rfl) ?_
            refine lv_iload hx hb dX2_passTicks_146 (lv_at hl 0 rfl) ?_
            refine lv_iadd hx hb dX2_passTicks_148 ?_
            refine lv_topi (fun x3_34 ex3_34 => ?_)
            replace hf := nm_use hf ex3_34
            refine lv_istore_n (lv' := [(3, .int x3_34), (5, .int x5_31), (4, .int x4_30), (0, .ref a0), (1, .int x1)]) hx hb dX2_passTicks_149 rfl hl (by decide) rfl (fun ls hl => ?_)
            refine lv_goto (tgt := 31) hx hb dX2_passTicks_150 (by decide) ?_
            exact ih nu_33 qu_26 sc_27 lo_28 wt_32 x1 x3_34 _ _ _ h (lv_sub hl [3, 4, 0] rfl) hf
  unfold fX2_passTicks at hf
  refine lv_iload_n hx hb dX2_passTicks_0 rfl (lv_at hl 1 rfl) ?_
  refine lv_iconst (v := 1) hx hb dX2_passTicks_1 (by decide) ?_
  refine lv_sipush (v := 999) hx hb dX2_passTicks_2 (by decide) ?_
  obtain ⟨r_1, hq_2, hf⟩ := ob1_use hf
  refine r_callSN C h (cw_X2_passTicks_X4_isWithin_50 C.hts C.nw) (rest := []) (c_X4_isWithin l G cI cC cZ X x1 (1 : Int32) (999 : Int32) r_1 hq_2) [] rfl rfl rfl rfl hl.1 rfl (Nat.le_of_ble_eq_true rfl) ⟨Nat.le_of_ble_eq_true rfl, Nat.le_of_ble_eq_true rfl⟩ (wSt cI a0 a1 a2 a3 a4 a5 a6 a7 a8 nu va qu sc lo wt) rfl rfl dX2_passTicks_5 (fun H locs h => ?_)
  refine lv_if_ne (tgt := 14) hx hb dX2_passTicks_8 (by decide) (fun hc => ?_) (fun hc => ?_)
  · replace hf := it_f hf hc
    refine lv_aload_n hx hb dX2_passTicks_14 rfl (lv_at hl 0 rfl) ?_
    refine r_get C h 0 0 (ci := 2) (N := 6) (Cn := RX2) (T := TX2) rfl rfl (by decide) in_X2_passTicks_X2 lk_X2_passTicks_9 rfl dX2_passTicks_15 ?_
    refine lv_iconst (v := 0) hx hb dX2_passTicks_18 (by decide) ?_
    refine r_ald C h 1 rfl rfl k_0_24 dX2_passTicks_19 ?_
    refine lv_iload_n hx hb dX2_passTicks_20 rfl (lv_at hl 2 rfl) ?_
    refine lv_iload_n hx hb dX2_passTicks_21 rfl (lv_at hl 1 rfl) ?_
    refine lv_isub hx hb dX2_passTicks_22 ?_
    refine lv_icmp_le (tgt := 29) hx hb dX2_passTicks_23 (by decide) (fun hc => ?_) (fun hc => ?_)
    · replace hf := it_t hf hc
      refine lv_iconst (v := 0) hx hb dX2_passTicks_29 (by decide) ?_
      refine lv_istore_n (lv' := [(3, .int 0), (0, .ref a0), (1, .int x1), (2, .int x2)]) hx hb dX2_passTicks_30 rfl hl (by decide) rfl (fun ls hl => ?_)
      exact cut_31 KF nu qu sc lo wt x1 0 _ _ _ h (lv_sub hl [1, 2, 0] rfl) hf
    · replace hf := it_f hf hc
      refine lv_bipush (v := (-4)) hx hb dX2_passTicks_26 (by decide) ?_
      cases hf
      exact r_iret C h hr hlocks dX2_passTicks_28
  · replace hf := it_t hf hc
    refine lv_bipush (v := (-2)) hx hb dX2_passTicks_11 (by decide) ?_
    cases hf
    exact r_iret C h hr hlocks dX2_passTicks_13
end
section
/-! ===== calls that write nothing ===== -/
theorem upds_same : ∀ (is : List Nat) (wc ws : va_W), is.map (fun i => ws[i]?) = wc.map some → upds ws is wc = ws
  | [], [], _, _ => rfl
  | [], _ :: _, _, h => by cases h
  | _ :: _, [], _, h => by cases h
  | i :: is, x :: xs, ws, h => by
    simp only [List.map_cons, List.cons.injEq] at h
    have e : ws.set i x = ws := by
      apply List.ext_getElem?
      intro j
      by_cases hj : i = j
      · subst hj
        rw [List.getElem?_set_self (List.getElem?_eq_some_iff.mp h.1).1, h.1]
      · rw [List.getElem?_set_ne hj]
    show upds (ws.set i x) is xs = ws
    rw [e]
    exact upds_same is xs ws h.2
section Rows0
variable {p : Program} {l : Launch} {e : Env} {R : Room} {s : State} {m : MethodId} {args : Array Value} {below : List Frame} {meth : Method} {c : Code} {H : Heap} {locs : List Loc} {cells slots : Nat} {Q : State → Prop}
variable {cc : ByteArray} {pc : Nat} {ls : Array Slot} {rest st0 st1 : List Value} {G : va_G} {tys : List (ClassId × FieldType)} {A : Nat → Prop} {own : String} {Ts : List Cond} {nL : Nat} {w : va_W} {a : Nat}
theorem r_callV0 (C : Cx p s m args c G tys A own cc Ts nL) (h : Hx s G A w H locs) {y : MethodName} {bytes : ByteArray} {maxL n index ci : Nat} {ret : Option FieldType} {wsy : List Cond} {rmy : Room} {Cn : String} {T : u_T} {N b : Nat} {fs As : List Value} {wc : va_W} {res : Option Value}
    (cw : CallW R s args own Cn index y bytes maxL ret wsy rmy 0 0 n) (ct : CT l y wsy rmy G tys (.ref b :: As) wc res wc) (is : List Nat) (hC : is.map (fun i => w[i]?) = wc.map some) (hn : va_nd is = true) (hrc : vwCl[ci]? = some (Cn, T, N)) (q0 : Nat) (hq0 : w[q0]? = some (b, .inr (ci, fs)))
    (hlen : As.length = n) (hls : ls.size = nL) (hst0 : st0 = As.reverse ++ .ref b :: rest) (hroom : (rest.map fun v => v.category).sum ≤ 8) (hf : cells ≤ R.cells ∧ slots ≤ R.slots) (hst : res.toList ++ rest = st1) (hdg : decode cc pc = .ok (.invokevirtual index, 3))
    (kk : ∀ (H1 : Heap) (locs1 : List Loc), Hx s G A w H1 locs1 → W p l e R s m args below meth c H1 locs1 cells slots Q (F0 m (pc + 3) ls st1)) : W p l e R s m args below meth c H locs cells slots Q (F0 m pc ls st0) :=
  r_callV C h cw ct is hC hn rfl hrc q0 hq0 hlen hls hst0 hroom hf w (upds_same is wc w hC) hst hdg kk
theorem r_callS0 (C : Cx p s m args c G tys A own cc Ts nL) (h : Hx s G A w H locs) {y : MethodName} {bytes : ByteArray} {maxL n index : Nat} {ret : Option FieldType} {wsy : List Cond} {rmy : Room} {As : List Value} {wc : va_W} {res : Option Value}
    (cw : CallB R s args own index y bytes maxL ret wsy rmy 0 0 n ∧ (Cond.static y).before args s = true) (ct : CT l y wsy rmy G tys As wc res wc) (is : List Nat) (hC : is.map (fun i => w[i]?) = wc.map some) (hn : va_nd is = true)
    (hlen : As.length = n) (hls : ls.size = nL) (hst0 : st0 = As.reverse ++ rest) (hroom : (rest.map fun v => v.category).sum ≤ 8) (hf : cells ≤ R.cells ∧ slots ≤ R.slots) (hst : res.toList ++ rest = st1) (hdg : decode cc pc = .ok (.invokestatic index, 3))
    (kk : ∀ (H1 : Heap) (locs1 : List Loc), Hx s G A w H1 locs1 → W p l e R s m args below meth c H1 locs1 cells slots Q (F0 m (pc + 3) ls st1)) : W p l e R s m args below meth c H locs cells slots Q (F0 m pc ls st0) :=
  r_callS C h cw ct is hC hn rfl hlen hls hst0 hroom hf w (upds_same is wc w hC) hst hdg kk
end Rows0
end
section
/-- the mirror of X0_keepIfDone -/
def fX0_keepIfDone (ho : Int32) (hs : Int32) (x1 : Int32) : Option (Int32 × Int32 × Int32) :=
  (if x1 < 0 then
  some (x1, ho, hs)
  else
  (if 6 ≤ hs then
  nm (((ho + 1) - (ho + 1) / 7 * 7)) fun ho_1 =>
  some (x1, ho_1, hs)
  else
  nm ((hs + 1)) fun hs_2 =>
  some (x1, ho, hs_2)))

/-- the mirror of X4_waiting -/
def fX4_waiting (nu : Nat → Int32) (qu : Nat → Int32) (x1 : Int32) (x2 : Int32) : Option (Int32) :=
  (if x1 < 0 then
  some ((-1))
  else
  (if x1 < (nu 2) then
  ob1 (fX4_isWithin x2 (0 : Int32) (3 : Int32)) fun r_1 =>
  (if r_1 = 0 then
  some ((-2))
  else
  ob1 (fX3_read 4 68 qu x1 x2) fun r_3 =>
  some (r_3))
  else
  some ((-1))))

/-- the mirror of X4_row -/
def fX4_row (nu : Nat → Int32) (sc : Nat → Int32) (x1 : Int32) (x2 : Int32) : Option (Int32) :=
  (if x1 < 0 then
  some ((-1))
  else
  ob1 (fX2_rowsOfScreen nu) fun r_1 =>
  (if x1 < r_1 then
  ob1 (fX4_isWithin x2 (0 : Int32) (2 : Int32)) fun r_3 =>
  (if r_3 = 0 then
  some ((-2))
  else
  ob1 (fX3_read 3 96 sc x1 x2) fun r_5 =>
  some (r_5))
  else
  some ((-1))))

/-- the mirror of X4_ofMissing -/
def fX4_ofMissing (nu : Nat → Int32) (lo : Nat → Int32) (x1 : Int32) (x2 : Int32) : Option (Int32) :=
  (if x1 < 0 then
  some ((-1))
  else
  (if x1 < (if (nu 4) < 8 then (nu 4) else 8) then
  ob1 (fX4_isWithin x2 (0 : Int32) (3 : Int32)) fun r_1 =>
  (if r_1 = 0 then
  some ((-2))
  else
  ob1 (fX3_read 4 32 lo ((((nu 4) - 1) - x1) - (((nu 4) - 1) - x1) / 8 * 8) x2) fun r_3 =>
  some (r_3))
  else
  some ((-1))))

def fX4_shown_10_b (rec : (Nat → Int32) → (Nat → Int32) → Int32 → Int32 → Option (Int32)) (nu : Nat → Int32) (sc : Nat → Int32) (x1 : Int32) (x2 : Int32) : Option (Int32) :=
  (if x1 ≤ x2 then
  some (x2)
  else
  ob1 (fX3_read 3 96 sc x2 (1 : Int32)) fun r_1 =>
  (if r_1 = (-6) then
  some (x2)
  else
  nm (x2 + 1) fun x2_3 =>
  rec nu sc x1 x2_3))
def fX4_shown_10 : Nat → (Nat → Int32) → (Nat → Int32) → Int32 → Int32 → Option (Int32)
  | 0 => fun _ _ _ _ => none
  | n + 1 => fX4_shown_10_b (fX4_shown_10 n)

/-- the mirror of X4_shown -/
def fX4_shown (nu : Nat → Int32) (sc : Nat → Int32) : Option (Int32) :=
  ob1 (fX2_rowsOfScreen nu) fun r_1 =>
  fX4_shown_10 KF nu sc r_1 0

/-- the mirror of X4_count -/
def fX4_count (nu : Nat → Int32) (pl : Int32) (hs : Int32) (x1 : Int32) : Option (Int32) :=
  (if x1 = 24 then
  some (pl)
  else
  (if x1 = 25 then
  some (hs)
  else
  ob1 (fX4_isWithin x1 (0 : Int32) (23 : Int32)) fun r_1 =>
  (if r_1 = 0 then
  some ((-2))
  else
  chk x1 24 fun j_3 =>
  some ((nu j_3)))))

def rm_X0_keepIfDone : Room := { frames := 0, cells := 0, slots := 0, locals := 0 }
set_option maxRecDepth 20000 in
theorem lk_X0_keepIfDone_21 : Cond.fieldLink RX0 21 "LineDoubler$History" "size" "I" ∈ wsX0_keepIfDone := List.mem_of_getElem? (i := 1) (by decide +kernel)
set_option maxRecDepth 20000 in
theorem lk_X0_keepIfDone_17 : Cond.fieldLink RX0 17 "LineDoubler$History" "oldest" "I" ∈ wsX0_keepIfDone := List.mem_of_getElem? (i := 2) (by decide +kernel)
set_option maxRecDepth 20000 in
theorem in_X0_keepIfDone_X0 : ∀ x ∈ wsX00, x ∈ wsX0_keepIfDone := mem_r _ [3, 4, 5] (by decide +kernel)
set_option maxHeartbeats 4000000 in
set_option maxRecDepth 100000 in
theorem c_X0_keepIfDone (l : Launch) (G : va_G) (cI cC cZ : ClassId) (X : List (ClassId × FieldType)) (h0 h1 : Nat) (ho : Int32) (hs : Int32) (x1 : Int32) (rv : Int32) (ho' : Int32) (hs' : Int32) (hf : fX0_keepIfDone ho hs x1 = some (rv, ho', hs')) : CT l yX0_keepIfDone wsX0_keepIfDone rm_X0_keepIfDone G (TY cI cC cZ X) [.ref h0, .int x1] (wHi h0 h1 ho hs) (some (.int rv)) (wHi h0 h1 ho' hs') := by
  refine CT.of (cc := cX0_keepIfDone) (maxL := 2) (ret := (some .int)) RX0 rfl (by decide) rfl (Nat.le_of_ble_eq_true rfl) ?_
  intro p e s m args below meth c A ls C hr hlocks hnm h hl
  have hx := C.hx
  have hb := C.hb
  have hl : lv_has ls 2 [(0, .ref h0), (1, .int x1)] := hl
  unfold fX0_keepIfDone at hf
  refine lv_iload_n hx hb dX0_keepIfDone_0 rfl (lv_at hl 1 rfl) ?_
  refine lv_if_lt (tgt := 39) hx hb dX0_keepIfDone_1 (by decide) (fun hc => ?_) (fun hc => ?_)
  · replace hf := it_t hf hc
    refine lv_iload_n hx hb dX0_keepIfDone_39 rfl (lv_at hl 1 rfl) ?_
    cases hf
    exact r_iret C h hr hlocks dX0_keepIfDone_40
  · replace hf := it_f hf hc
    refine lv_aload_n hx hb dX0_keepIfDone_4 rfl (lv_at hl 0 rfl) ?_
    refine r_get C h 0 2 (ci := 0) (N := 3) (Cn := RX0) (T := TX0) rfl rfl (by decide) in_X0_keepIfDone_X0 lk_X0_keepIfDone_21 rfl dX0_keepIfDone_5 ?_
    refine lv_bipush (v := 6) hx hb dX0_keepIfDone_8 (by decide) ?_
    refine lv_icmp_ge (tgt := 26) hx hb dX0_keepIfDone_10 (by decide) (fun hc => ?_) (fun hc => ?_)
    · replace hf := it_t hf hc
      refine lv_aload_n hx hb dX0_keepIfDone_26 rfl (lv_at hl 0 rfl) ?_
      refine lv_aload_n hx hb dX0_keepIfDone_27 rfl (lv_at hl 0 rfl) ?_
      refine r_get C h 0 1 (ci := 0) (N := 3) (Cn := RX0) (T := TX0) rfl rfl (by decide) in_X0_keepIfDone_X0 lk_X0_keepIfDone_17 rfl dX0_keepIfDone_28 ?_
      refine lv_iconst (v := 1) hx hb dX0_keepIfDone_31 (by decide) ?_
      refine lv_iadd hx hb dX0_keepIfDone_32 ?_
      refine lv_bipush (v := 7) hx hb dX0_keepIfDone_33 (by decide) ?_
      refine lv_irem hx hb dX0_keepIfDone_35 (by decide) ?_
      refine lv_topi (fun ho_1 eho_1 => ?_)
      replace hf := nm_use hf eho_1
      refine r_put C h 0 1 (ci := 0) (N := 3) (Cn := RX0) (T := TX0) (ty0 := tyX0) rfl rfl (by decide) in_X0_keepIfDone_X0 tyX0_ok nmX0 lk_X0_keepIfDone_17 rfl rfl rfl (Nat.le_of_ble_eq_true rfl) (wHi h0 h1 ho_1 hs) rfl dX0_keepIfDone_36 (fun H locs h => ?_)
      refine lv_iload_n hx hb dX0_keepIfDone_39 rfl (lv_at hl 1 rfl) ?_
      cases hf
      exact r_iret C h hr hlocks dX0_keepIfDone_40
    · replace hf := it_f hf hc
      refine lv_aload_n hx hb dX0_keepIfDone_13 rfl (lv_at hl 0 rfl) ?_
      refine lv_dup hx hb dX0_keepIfDone_14 rfl ?_
      refine r_get C h 0 2 (ci := 0) (N := 3) (Cn := RX0) (T := TX0) rfl rfl (by decide) in_X0_keepIfDone_X0 lk_X0_keepIfDone_21 rfl dX0_keepIfDone_15 ?_
      refine lv_iconst (v := 1) hx hb dX0_keepIfDone_18 (by decide) ?_
      refine lv_iadd hx hb dX0_keepIfDone_19 ?_
      refine lv_topi (fun hs_2 ehs_2 => ?_)
      replace hf := nm_use hf ehs_2
      refine r_put C h 0 2 (ci := 0) (N := 3) (Cn := RX0) (T := TX0) (ty0 := tyX0) rfl rfl (by decide) in_X0_keepIfDone_X0 tyX0_ok nmX0 lk_X0_keepIfDone_21 rfl rfl rfl (Nat.le_of_ble_eq_true rfl) (wHi h0 h1 ho hs_2) rfl dX0_keepIfDone_20 (fun H locs h => ?_)
      refine lv_goto (tgt := 39) hx hb dX0_keepIfDone_23 (by decide) ?_
      refine lv_iload_n hx hb dX0_keepIfDone_39 rfl (lv_at hl 1 rfl) ?_
      cases hf
      exact r_iret C h hr hlocks dX0_keepIfDone_40
def rm_X4_waiting : Room := { frames := 1, cells := 0, slots := 0, locals := 23 }
set_option maxRecDepth 20000 in
theorem lk_X4_waiting_10 : Cond.fieldLink RX4 10 "LineDoubler" "state" "LLineDoubler$State;" ∈ wsX4_waiting := List.mem_of_getElem? (i := 1) (by decide +kernel)
set_option maxRecDepth 20000 in
theorem in_X4_waiting_X4 : ∀ x ∈ wsX40, x ∈ wsX4_waiting := mem_r _ [13, 14, 15, 16, 17] (by decide +kernel)
set_option maxRecDepth 20000 in
theorem in_X4_waiting_X2 : ∀ x ∈ wsX20, x ∈ wsX4_waiting := mem_r _ [18, 19, 20, 21, 22, 23] (by decide +kernel)
set_option maxRecDepth 20000 in
theorem cw_X4_waiting_X4_isWithin_67 {s : State} {args : Array Value} (hts : ∀ w ∈ wsX4_waiting, w.before args s = true) : CallB rm_X4_waiting s args RX4 67 yX4_isWithin cX4_isWithin 3 (some .boolean) wsX4_isWithin rm_X4_isWithin 0 0 3 ∧ (Cond.static yX4_isWithin).before args s = true :=
  va_cwS 3 hts gX4_waiting_X4_isWithin rfl rfl rfl (by decide +kernel) ⟨Nat.le_of_ble_eq_true rfl, Nat.le_of_ble_eq_true rfl⟩
set_option maxRecDepth 20000 in
theorem cw_X4_waiting_X3_read_75 {s : State} {args : Array Value} (hts : ∀ w ∈ wsX4_waiting, w.before args s = true) : CallW rm_X4_waiting s args RX4 RX3 75 yX3_read cX3_read 4 (some .int) wsX3_read rm_X3_read 0 0 2 :=
  cwV 2 hts gX4_waiting_X3_read rfl rfl rfl (by decide +kernel) ⟨Nat.le_of_ble_eq_true rfl, Nat.le_of_ble_eq_true rfl⟩
set_option maxHeartbeats 4000000 in
set_option maxRecDepth 100000 in
theorem c_X4_waiting (l : Launch) (G : va_G) (cI cC cZ : ClassId) (X : List (ClassId × FieldType)) (d0 b0 sl h0 p0 a0 a1 a2 a3 a4 a5 a6 a7 a8 : Nat) (nu : Nat → Int32) (va : Nat → Int32) (qu : Nat → Int32) (sc : Nat → Int32) (lo : Nat → Int32) (wt : Int32) (x1 : Int32) (x2 : Int32) (rv : Int32) (hf : fX4_waiting nu qu x1 x2 = some (rv)) : CT l yX4_waiting wsX4_waiting rm_X4_waiting G (TY cI cC cZ X) [.ref d0, .int x1, .int x2] (wLDs cI d0 b0 sl h0 p0 a0 a1 a2 a3 a4 a5 a6 a7 a8 nu va qu sc lo wt) (some (.int rv)) (wLDs cI d0 b0 sl h0 p0 a0 a1 a2 a3 a4 a5 a6 a7 a8 nu va qu sc lo wt) := by
  refine CT.of (cc := cX4_waiting) (maxL := 3) (ret := (some .int)) RX4 rfl (by decide) rfl (Nat.le_of_ble_eq_true rfl) ?_
  intro p e s m args below meth c A ls C hr hlocks hnm h hl
  have hx := C.hx
  have hb := C.hb
  have hl : lv_has ls 3 [(0, .ref d0), (1, .int x1), (2, .int x2)] := hl
  unfold fX4_waiting at hf
  refine lv_iload_n hx hb dX4_waiting_0 rfl (lv_at hl 1 rfl) ?_
  refine lv_if_lt (tgt := 17) hx hb dX4_waiting_1 (by decide) (fun hc => ?_) (fun hc => ?_)
  · replace hf := it_t hf hc
    refine lv_iconst (v := (-1)) hx hb dX4_waiting_17 (by decide) ?_
    cases hf
    exact r_iret C h hr hlocks dX4_waiting_18
  · replace hf := it_f hf hc
    refine lv_iload_n hx hb dX4_waiting_4 rfl (lv_at hl 1 rfl) ?_
    refine lv_aload_n hx hb dX4_waiting_5 rfl (lv_at hl 0 rfl) ?_
    refine r_get C h 0 0 (ci := 4) (N := 5) (Cn := RX4) (T := TX4) rfl rfl (by decide) in_X4_waiting_X4 lk_X4_waiting_10 rfl dX4_waiting_6 ?_
    refine r_getN C h 1 0 (ci := 2) (N := 6) (Cn := RX2) (T := TX2) rfl rfl (by decide) in_X4_waiting_X2 lkN_4_63 rfl dX4_waiting_9 ?_
    refine lv_iconst (v := 2) hx hb dX4_waiting_12 (by decide) ?_
    refine r_ald C h 2 rfl rfl k_2_24 dX4_waiting_13 ?_
    refine lv_icmp_lt (tgt := 19) hx hb dX4_waiting_14 (by decide) (fun hc => ?_) (fun hc => ?_)
    · replace hf := it_t hf hc
      refine lv_iload_n hx hb dX4_waiting_19 rfl (lv_at hl 2 rfl) ?_
      refine lv_iconst (v := 0) hx hb dX4_waiting_20 (by decide) ?_
      refine lv_iconst (v := 3) hx hb dX4_waiting_21 (by decide) ?_
      obtain ⟨r_1, hq_2, hf⟩ := ob1_use hf
      refine r_callS C h (cw_X4_waiting_X4_isWithin_67 C.hts) (rest := []) (c_X4_isWithin l G cI cC cZ X x2 (0 : Int32) (3 : Int32) r_1 hq_2) [] rfl rfl rfl rfl hl.1 rfl (Nat.le_of_ble_eq_true rfl) ⟨Nat.le_of_ble_eq_true rfl, Nat.le_of_ble_eq_true rfl⟩ (wLDs cI d0 b0 sl h0 p0 a0 a1 a2 a3 a4 a5 a6 a7 a8 nu va qu sc lo wt) rfl rfl dX4_waiting_22 (fun H locs h => ?_)
      refine lv_if_eq (tgt := 43) hx hb dX4_waiting_25 (by decide) (fun hc => ?_) (fun hc => ?_)
      · replace hf := it_t hf hc
        refine lv_bipush (v := (-2)) hx hb dX4_waiting_43 (by decide) ?_
        cases hf
        exact r_iret C h hr hlocks dX4_waiting_45
      · replace hf := it_f hf hc
        refine lv_aload_n hx hb dX4_waiting_28 rfl (lv_at hl 0 rfl) ?_
        refine r_get C h 0 0 (ci := 4) (N := 5) (Cn := RX4) (T := TX4) rfl rfl (by decide) in_X4_waiting_X4 lk_X4_waiting_10 rfl dX4_waiting_29 ?_
        refine r_getN C h 1 2 (ci := 2) (N := 6) (Cn := RX2) (T := TX2) rfl rfl (by decide) in_X4_waiting_X2 lkN_4_71 rfl dX4_waiting_32 ?_
        refine lv_iload_n hx hb dX4_waiting_35 rfl (lv_at hl 1 rfl) ?_
        refine lv_iload_n hx hb dX4_waiting_36 rfl (lv_at hl 2 rfl) ?_
        obtain ⟨r_3, hq_4, hf⟩ := ob1_use hf
        refine r_callV C h (cw_X4_waiting_X3_read_75 C.hts) (rest := []) (ci := 3) (N := 2) (Cn := RX3) (T := TX3) (c_X3_read l G cI cC cZ X a3 a4 4 68 qu x1 x2 r_3 hq_4) [4, 5] rfl rfl rfl rfl 4 rfl rfl hl.1 rfl (Nat.le_of_ble_eq_true rfl) ⟨Nat.le_of_ble_eq_true rfl, Nat.le_of_ble_eq_true rfl⟩ (wLDs cI d0 b0 sl h0 p0 a0 a1 a2 a3 a4 a5 a6 a7 a8 nu va qu sc lo wt) rfl rfl dX4_waiting_37 (fun H locs h => ?_)
        refine lv_goto (tgt := 45) hx hb dX4_waiting_40 (by decide) ?_
        cases hf
        exact r_iret C h hr hlocks dX4_waiting_45
    · replace hf := it_f hf hc
      refine lv_iconst (v := (-1)) hx hb dX4_waiting_17 (by decide) ?_
      cases hf
      exact r_iret C h hr hlocks dX4_waiting_18
def rm_X4_row : Room := { frames := 3, cells := 0, slots := 0, locals := 63 }
set_option maxRecDepth 20000 in
theorem lk_X4_row_10 : Cond.fieldLink RX4 10 "LineDoubler" "state" "LLineDoubler$State;" ∈ wsX4_row := List.mem_of_getElem? (i := 1) (by decide +kernel)
set_option maxRecDepth 20000 in
theorem in_X4_row_X4 : ∀ x ∈ wsX40, x ∈ wsX4_row := mem_r _ [23, 24, 25, 26, 27] (by decide +kernel)
set_option maxRecDepth 20000 in
theorem in_X4_row_X2 : ∀ x ∈ wsX20, x ∈ wsX4_row := mem_r _ [28, 29, 30, 31, 32, 33] (by decide +kernel)
set_option maxRecDepth 20000 in
theorem cw_X4_row_X2_rowsOfScreen_80 {s : State} {args : Array Value} (hts : ∀ w ∈ wsX4_row, w.before args s = true) : CallW rm_X4_row s args RX4 RX2 80 yX2_rowsOfScreen cX2_rowsOfScreen 1 (some .int) wsX2_rowsOfScreen rm_X2_rowsOfScreen 0 0 0 :=
  cwV 0 hts gX4_row_X2_rowsOfScreen rfl rfl rfl (by decide +kernel) ⟨Nat.le_of_ble_eq_true rfl, Nat.le_of_ble_eq_true rfl⟩
set_option maxRecDepth 20000 in
theorem cw_X4_row_X4_isWithin_67 {s : State} {args : Array Value} (hts : ∀ w ∈ wsX4_row, w.before args s = true) : CallB rm_X4_row s args RX4 67 yX4_isWithin cX4_isWithin 3 (some .boolean) wsX4_isWithin rm_X4_isWithin 0 0 3 ∧ (Cond.static yX4_isWithin).before args s = true :=
  va_cwS 3 hts gX4_row_X4_isWithin rfl rfl rfl (by decide +kernel) ⟨Nat.le_of_ble_eq_true rfl, Nat.le_of_ble_eq_true rfl⟩
set_option maxRecDepth 20000 in
theorem cw_X4_row_X3_read_75 {s : State} {args : Array Value} (hts : ∀ w ∈ wsX4_row, w.before args s = true) : CallW rm_X4_row s args RX4 RX3 75 yX3_read cX3_read 4 (some .int) wsX3_read rm_X3_read 0 0 2 :=
  cwV 2 hts gX4_row_X3_read rfl rfl rfl (by decide +kernel) ⟨Nat.le_of_ble_eq_true rfl, Nat.le_of_ble_eq_true rfl⟩
set_option maxHeartbeats 4000000 in
set_option maxRecDepth 100000 in
theorem c_X4_row (l : Launch) (G : va_G) (cI cC cZ : ClassId) (X : List (ClassId × FieldType)) (d0 b0 sl h0 p0 a0 a1 a2 a3 a4 a5 a6 a7 a8 : Nat) (nu : Nat → Int32) (va : Nat → Int32) (qu : Nat → Int32) (sc : Nat → Int32) (lo : Nat → Int32) (wt : Int32) (x1 : Int32) (x2 : Int32) (rv : Int32) (hf : fX4_row nu sc x1 x2 = some (rv)) : CT l yX4_row wsX4_row rm_X4_row G (TY cI cC cZ X) [.ref d0, .int x1, .int x2] (wLDs cI d0 b0 sl h0 p0 a0 a1 a2 a3 a4 a5 a6 a7 a8 nu va qu sc lo wt) (some (.int rv)) (wLDs cI d0 b0 sl h0 p0 a0 a1 a2 a3 a4 a5 a6 a7 a8 nu va qu sc lo wt) := by
  refine CT.of (cc := cX4_row) (maxL := 3) (ret := (some .int)) RX4 rfl (by decide) rfl (Nat.le_of_ble_eq_true rfl) ?_
  intro p e s m args below meth c A ls C hr hlocks hnm h hl
  have hx := C.hx
  have hb := C.hb
  have hl : lv_has ls 3 [(0, .ref d0), (1, .int x1), (2, .int x2)] := hl
  unfold fX4_row at hf
  refine lv_iload_n hx hb dX4_row_0 rfl (lv_at hl 1 rfl) ?_
  refine lv_if_lt (tgt := 15) hx hb dX4_row_1 (by decide) (fun hc => ?_) (fun hc => ?_)
  · replace hf := it_t hf hc
    refine lv_iconst (v := (-1)) hx hb dX4_row_15 (by decide) ?_
    cases hf
    exact r_iret C h hr hlocks dX4_row_16
  · replace hf := it_f hf hc
    refine lv_iload_n hx hb dX4_row_4 rfl (lv_at hl 1 rfl) ?_
    refine lv_aload_n hx hb dX4_row_5 rfl (lv_at hl 0 rfl) ?_
    refine r_get C h 0 0 (ci := 4) (N := 5) (Cn := RX4) (T := TX4) rfl rfl (by decide) in_X4_row_X4 lk_X4_row_10 rfl dX4_row_6 ?_
    obtain ⟨r_1, hq_2, hf⟩ := ob1_use hf
    refine r_callV C h (cw_X4_row_X2_rowsOfScreen_80 C.hts) (rest := [.int x1]) (ci := 2) (N := 6) (Cn := RX2) (T := TX2) (c_X2_rowsOfScreen l G cI cC cZ X a0 a1 a2 a3 a4 a5 a6 a7 a8 nu va qu sc lo wt r_1 hq_2) [1, 2, 3, 4, 5, 6, 7, 8, 9] rfl rfl rfl rfl 1 rfl rfl hl.1 rfl (Nat.le_of_ble_eq_true rfl) ⟨Nat.le_of_ble_eq_true rfl, Nat.le_of_ble_eq_true rfl⟩ (wLDs cI d0 b0 sl h0 p0 a0 a1 a2 a3 a4 a5 a6 a7 a8 nu va qu sc lo wt) rfl rfl dX4_row_9 (fun H locs h => ?_)
    refine lv_icmp_lt (tgt := 17) hx hb dX4_row_12 (by decide) (fun hc => ?_) (fun hc => ?_)
    · replace hf := it_t hf hc
      refine lv_iload_n hx hb dX4_row_17 rfl (lv_at hl 2 rfl) ?_
      refine lv_iconst (v := 0) hx hb dX4_row_18 (by decide) ?_
      refine lv_iconst (v := 2) hx hb dX4_row_19 (by decide) ?_
      obtain ⟨r_3, hq_4, hf⟩ := ob1_use hf
      refine r_callS C h (cw_X4_row_X4_isWithin_67 C.hts) (rest := []) (c_X4_isWithin l G cI cC cZ X x2 (0 : Int32) (2 : Int32) r_3 hq_4) [] rfl rfl rfl rfl hl.1 rfl (Nat.le_of_ble_eq_true rfl) ⟨Nat.le_of_ble_eq_true rfl, Nat.le_of_ble_eq_true rfl⟩ (wLDs cI d0 b0 sl h0 p0 a0 a1 a2 a3 a4 a5 a6 a7 a8 nu va qu sc lo wt) rfl rfl dX4_row_20 (fun H locs h => ?_)
      refine lv_if_eq (tgt := 41) hx hb dX4_row_23 (by decide) (fun hc => ?_) (fun hc => ?_)
      · replace hf := it_t hf hc
        refine lv_bipush (v := (-2)) hx hb dX4_row_41 (by decide) ?_
        cases hf
        exact r_iret C h hr hlocks dX4_row_43
      · replace hf := it_f hf hc
        refine lv_aload_n hx hb dX4_row_26 rfl (lv_at hl 0 rfl) ?_
        refine r_get C h 0 0 (ci := 4) (N := 5) (Cn := RX4) (T := TX4) rfl rfl (by decide) in_X4_row_X4 lk_X4_row_10 rfl dX4_row_27 ?_
        refine r_getN C h 1 3 (ci := 2) (N := 6) (Cn := RX2) (T := TX2) rfl rfl (by decide) in_X4_row_X2 lkN_4_83 rfl dX4_row_30 ?_
        refine lv_iload_n hx hb dX4_row_33 rfl (lv_at hl 1 rfl) ?_
        refine lv_iload_n hx hb dX4_row_34 rfl (lv_at hl 2 rfl) ?_
        obtain ⟨r_5, hq_6, hf⟩ := ob1_use hf
        refine r_callV C h (cw_X4_row_X3_read_75 C.hts) (rest := []) (ci := 3) (N := 2) (Cn := RX3) (T := TX3) (c_X3_read l G cI cC cZ X a5 a6 3 96 sc x1 x2 r_5 hq_6) [6, 7] rfl rfl rfl rfl 6 rfl rfl hl.1 rfl (Nat.le_of_ble_eq_true rfl) ⟨Nat.le_of_ble_eq_true rfl, Nat.le_of_ble_eq_true rfl⟩ (wLDs cI d0 b0 sl h0 p0 a0 a1 a2 a3 a4 a5 a6 a7 a8 nu va qu sc lo wt) rfl rfl dX4_row_35 (fun H locs h => ?_)
        refine lv_goto (tgt := 43) hx hb dX4_row_38 (by decide) ?_
        cases hf
        exact r_iret C h hr hlocks dX4_row_43
    · replace hf := it_f hf hc
      refine lv_iconst (v := (-1)) hx hb dX4_row_15 (by decide) ?_
      cases hf
      exact r_iret C h hr hlocks dX4_row_16
def rm_X4_ofMissing : Room := { frames := 1, cells := 0, slots := 0, locals := 23 }
set_option maxRecDepth 20000 in
theorem lk_X4_ofMissing_10 : Cond.fieldLink RX4 10 "LineDoubler" "state" "LLineDoubler$State;" ∈ wsX4_ofMissing := List.mem_of_getElem? (i := 1) (by decide +kernel)
set_option maxRecDepth 20000 in
theorem lm_X4_ofMissing_86 : Cond.methodLink RX4 86 Lib.Math.min.name ∈ wsX4_ofMissing := List.mem_of_getElem? (i := 2) (by decide +kernel)
set_option maxRecDepth 20000 in
theorem ls_X4_ofMissing_min : Cond.static Lib.Math.min.name ∈ wsX4_ofMissing := List.mem_of_getElem? (i := 3) (by decide +kernel)
set_option maxRecDepth 20000 in
theorem li_X4_ofMissing_Math : Cond.initialized "java/lang/Math" ∈ wsX4_ofMissing := List.mem_of_getElem? (i := 4) (by decide +kernel)
set_option maxRecDepth 20000 in
theorem lc_X4_ofMissing_min : Cond.code Lib.Math.min.name Lib.Math.min.code 2 (some .int) ∈ wsX4_ofMissing := List.mem_of_getElem? (i := 5) (by decide +kernel)
set_option maxRecDepth 20000 in
theorem in_X4_ofMissing_X4 : ∀ x ∈ wsX40, x ∈ wsX4_ofMissing := mem_r _ [17, 18, 19, 20, 21] (by decide +kernel)
set_option maxRecDepth 20000 in
theorem in_X4_ofMissing_X2 : ∀ x ∈ wsX20, x ∈ wsX4_ofMissing := mem_r _ [22, 23, 24, 25, 26, 27] (by decide +kernel)
set_option maxRecDepth 20000 in
theorem cw_X4_ofMissing_X4_isWithin_67 {s : State} {args : Array Value} (hts : ∀ w ∈ wsX4_ofMissing, w.before args s = true) : CallB rm_X4_ofMissing s args RX4 67 yX4_isWithin cX4_isWithin 3 (some .boolean) wsX4_isWithin rm_X4_isWithin 0 0 3 ∧ (Cond.static yX4_isWithin).before args s = true :=
  va_cwS 3 hts gX4_ofMissing_X4_isWithin rfl rfl rfl (by decide +kernel) ⟨Nat.le_of_ble_eq_true rfl, Nat.le_of_ble_eq_true rfl⟩
set_option maxRecDepth 20000 in
theorem cw_X4_ofMissing_X3_read_75 {s : State} {args : Array Value} (hts : ∀ w ∈ wsX4_ofMissing, w.before args s = true) : CallW rm_X4_ofMissing s args RX4 RX3 75 yX3_read cX3_read 4 (some .int) wsX3_read rm_X3_read 0 0 2 :=
  cwV 2 hts gX4_ofMissing_X3_read rfl rfl rfl (by decide +kernel) ⟨Nat.le_of_ble_eq_true rfl, Nat.le_of_ble_eq_true rfl⟩
set_option maxHeartbeats 4000000 in
set_option maxRecDepth 100000 in
theorem c_X4_ofMissing (l : Launch) (G : va_G) (cI cC cZ : ClassId) (X : List (ClassId × FieldType)) (d0 b0 sl h0 p0 a0 a1 a2 a3 a4 a5 a6 a7 a8 : Nat) (nu : Nat → Int32) (va : Nat → Int32) (qu : Nat → Int32) (sc : Nat → Int32) (lo : Nat → Int32) (wt : Int32) (x1 : Int32) (x2 : Int32) (rv : Int32) (hf : fX4_ofMissing nu lo x1 x2 = some (rv)) : CT l yX4_ofMissing wsX4_ofMissing rm_X4_ofMissing G (TY cI cC cZ X) [.ref d0, .int x1, .int x2] (wLDs cI d0 b0 sl h0 p0 a0 a1 a2 a3 a4 a5 a6 a7 a8 nu va qu sc lo wt) (some (.int rv)) (wLDs cI d0 b0 sl h0 p0 a0 a1 a2 a3 a4 a5 a6 a7 a8 nu va qu sc lo wt) := by
  refine CT.of (cc := cX4_ofMissing) (maxL := 3) (ret := (some .int)) RX4 rfl (by decide) rfl (Nat.le_of_ble_eq_true rfl) ?_
  intro p e s m args below meth c A ls C hr hlocks hnm h hl
  have hx := C.hx
  have hb := C.hb
  have hl : lv_has ls 3 [(0, .ref d0), (1, .int x1), (2, .int x2)] := hl
  unfold fX4_ofMissing at hf
  refine lv_iload_n hx hb dX4_ofMissing_0 rfl (lv_at hl 1 rfl) ?_
  refine lv_if_lt (tgt := 22) hx hb dX4_ofMissing_1 (by decide) (fun hc => ?_) (fun hc => ?_)
  · replace hf := it_t hf hc
    refine lv_iconst (v := (-1)) hx hb dX4_ofMissing_22 (by decide) ?_
    cases hf
    exact r_iret C h hr hlocks dX4_ofMissing_23
  · replace hf := it_f hf hc
    refine lv_iload_n hx hb dX4_ofMissing_4 rfl (lv_at hl 1 rfl) ?_
    refine lv_bipush (v := 8) hx hb dX4_ofMissing_5 (by decide) ?_
    refine lv_aload_n hx hb dX4_ofMissing_7 rfl (lv_at hl 0 rfl) ?_
    refine r_get C h 0 0 (ci := 4) (N := 5) (Cn := RX4) (T := TX4) rfl rfl (by decide) in_X4_ofMissing_X4 lk_X4_ofMissing_10 rfl dX4_ofMissing_8 ?_
    refine r_getN C h 1 0 (ci := 2) (N := 6) (Cn := RX2) (T := TX2) rfl rfl (by decide) in_X4_ofMissing_X2 lkN_4_63 rfl dX4_ofMissing_11 ?_
    refine lv_iconst (v := 4) hx hb dX4_ofMissing_14 (by decide) ?_
    refine r_ald C h 2 rfl rfl k_4_24 dX4_ofMissing_15 ?_
    refine r_min C hl.1 lm_X4_ofMissing_86 ls_X4_ofMissing_min li_X4_ofMissing_Math lc_X4_ofMissing_min (Nat.le_of_ble_eq_true rfl) (Nat.le_of_ble_eq_true rfl) (Nat.le_of_ble_eq_true rfl) (Nat.le_of_ble_eq_true rfl) dX4_ofMissing_16 ?_
    refine lv_icmp_lt (tgt := 24) hx hb dX4_ofMissing_19 (by decide) (fun hc => ?_) (fun hc => ?_)
    · replace hf := it_t hf hc
      refine lv_iload_n hx hb dX4_ofMissing_24 rfl (lv_at hl 2 rfl) ?_
      refine lv_iconst (v := 0) hx hb dX4_ofMissing_25 (by decide) ?_
      refine lv_iconst (v := 3) hx hb dX4_ofMissing_26 (by decide) ?_
      obtain ⟨r_1, hq_2, hf⟩ := ob1_use hf
      refine r_callS C h (cw_X4_ofMissing_X4_isWithin_67 C.hts) (rest := []) (c_X4_isWithin l G cI cC cZ X x2 (0 : Int32) (3 : Int32) r_1 hq_2) [] rfl rfl rfl rfl hl.1 rfl (Nat.le_of_ble_eq_true rfl) ⟨Nat.le_of_ble_eq_true rfl, Nat.le_of_ble_eq_true rfl⟩ (wLDs cI d0 b0 sl h0 p0 a0 a1 a2 a3 a4 a5 a6 a7 a8 nu va qu sc lo wt) rfl rfl dX4_ofMissing_27 (fun H locs h => ?_)
      refine lv_if_ne (tgt := 36) hx hb dX4_ofMissing_30 (by decide) (fun hc => ?_) (fun hc => ?_)
      · replace hf := it_f hf hc
        refine lv_aload_n hx hb dX4_ofMissing_36 rfl (lv_at hl 0 rfl) ?_
        refine r_get C h 0 0 (ci := 4) (N := 5) (Cn := RX4) (T := TX4) rfl rfl (by decide) in_X4_ofMissing_X4 lk_X4_ofMissing_10 rfl dX4_ofMissing_37 ?_
        refine r_getN C h 1 4 (ci := 2) (N := 6) (Cn := RX2) (T := TX2) rfl rfl (by decide) in_X4_ofMissing_X2 lkN_4_91 rfl dX4_ofMissing_40 ?_
        refine lv_aload_n hx hb dX4_ofMissing_43 rfl (lv_at hl 0 rfl) ?_
        refine r_get C h 0 0 (ci := 4) (N := 5) (Cn := RX4) (T := TX4) rfl rfl (by decide) in_X4_ofMissing_X4 lk_X4_ofMissing_10 rfl dX4_ofMissing_44 ?_
        refine r_getN C h 1 0 (ci := 2) (N := 6) (Cn := RX2) (T := TX2) rfl rfl (by decide) in_X4_ofMissing_X2 lkN_4_63 rfl dX4_ofMissing_47 ?_
        refine lv_iconst (v := 4) hx hb dX4_ofMissing_50 (by decide) ?_
        refine r_ald C h 2 rfl rfl k_4_24 dX4_ofMissing_51 ?_
        refine lv_iconst (v := 1) hx hb dX4_ofMissing_52 (by decide) ?_
        refine lv_isub hx hb dX4_ofMissing_53 ?_
        refine lv_iload_n hx hb dX4_ofMissing_54 rfl (lv_at hl 1 rfl) ?_
        refine lv_isub hx hb dX4_ofMissing_55 ?_
        refine lv_bipush (v := 8) hx hb dX4_ofMissing_56 (by decide) ?_
        refine lv_irem hx hb dX4_ofMissing_58 (by decide) ?_
        refine lv_iload_n hx hb dX4_ofMissing_59 rfl (lv_at hl 2 rfl) ?_
        obtain ⟨r_3, hq_4, hf⟩ := ob1_use hf
        refine r_callV C h (cw_X4_ofMissing_X3_read_75 C.hts) (rest := []) (ci := 3) (N := 2) (Cn := RX3) (T := TX3) (c_X3_read l G cI cC cZ X a7 a8 4 32 lo ((((nu 4) - 1) - x1) - (((nu 4) - 1) - x1) / 8 * 8) x2 r_3 hq_4) [8, 9] rfl rfl rfl rfl 8 rfl rfl hl.1 rfl (Nat.le_of_ble_eq_true rfl) ⟨Nat.le_of_ble_eq_true rfl, Nat.le_of_ble_eq_true rfl⟩ (wLDs cI d0 b0 sl h0 p0 a0 a1 a2 a3 a4 a5 a6 a7 a8 nu va qu sc lo wt) rfl rfl dX4_ofMissing_60 (fun H locs h => ?_)
        cases hf
        exact r_iret C h hr hlocks dX4_ofMissing_63
      · replace hf := it_t hf hc
        refine lv_bipush (v := (-2)) hx hb dX4_ofMissing_33 (by decide) ?_
        cases hf
        exact r_iret C h hr hlocks dX4_ofMissing_35
    · replace hf := it_f hf hc
      refine lv_iconst (v := (-1)) hx hb dX4_ofMissing_22 (by decide) ?_
      cases hf
      exact r_iret C h hr hlocks dX4_ofMissing_23
def rm_X4_shown : Room := { frames := 3, cells := 0, slots := 0, locals := 63 }
set_option maxRecDepth 20000 in
theorem lk_X4_shown_10 : Cond.fieldLink RX4 10 "LineDoubler" "state" "LLineDoubler$State;" ∈ wsX4_shown := List.mem_of_getElem? (i := 1) (by decide +kernel)
set_option maxRecDepth 20000 in
theorem in_X4_shown_X4 : ∀ x ∈ wsX40, x ∈ wsX4_shown := mem_r _ [22, 23, 24, 25, 26] (by decide +kernel)
set_option maxRecDepth 20000 in
theorem in_X4_shown_X2 : ∀ x ∈ wsX20, x ∈ wsX4_shown := mem_r _ [27, 28, 29, 30, 31, 32] (by decide +kernel)
set_option maxRecDepth 20000 in
theorem cw_X4_shown_X2_rowsOfScreen_80 {s : State} {args : Array Value} (hts : ∀ w ∈ wsX4_shown, w.before args s = true) : CallW rm_X4_shown s args RX4 RX2 80 yX2_rowsOfScreen cX2_rowsOfScreen 1 (some .int) wsX2_rowsOfScreen rm_X2_rowsOfScreen 0 0 0 :=
  cwV 0 hts gX4_shown_X2_rowsOfScreen rfl rfl rfl (by decide +kernel) ⟨Nat.le_of_ble_eq_true rfl, Nat.le_of_ble_eq_true rfl⟩
set_option maxRecDepth 20000 in
theorem cw_X4_shown_X3_read_75 {s : State} {args : Array Value} (hts : ∀ w ∈ wsX4_shown, w.before args s = true) : CallW rm_X4_shown s args RX4 RX3 75 yX3_read cX3_read 4 (some .int) wsX3_read rm_X3_read 0 0 2 :=
  cwV 2 hts gX4_shown_X3_read rfl rfl rfl (by decide +kernel) ⟨Nat.le_of_ble_eq_true rfl, Nat.le_of_ble_eq_true rfl⟩
set_option maxHeartbeats 4000000 in
set_option maxRecDepth 100000 in
theorem c_X4_shown (l : Launch) (G : va_G) (cI cC cZ : ClassId) (X : List (ClassId × FieldType)) (d0 b0 sl h0 p0 a0 a1 a2 a3 a4 a5 a6 a7 a8 : Nat) (nu : Nat → Int32) (va : Nat → Int32) (qu : Nat → Int32) (sc : Nat → Int32) (lo : Nat → Int32) (wt : Int32) (rv : Int32) (hf : fX4_shown nu sc = some (rv)) : CT l yX4_shown wsX4_shown rm_X4_shown G (TY cI cC cZ X) [.ref d0] (wLDs cI d0 b0 sl h0 p0 a0 a1 a2 a3 a4 a5 a6 a7 a8 nu va qu sc lo wt) (some (.int rv)) (wLDs cI d0 b0 sl h0 p0 a0 a1 a2 a3 a4 a5 a6 a7 a8 nu va qu sc lo wt) := by
  refine CT.of (cc := cX4_shown) (maxL := 3) (ret := (some .int)) RX4 rfl (by decide) rfl (Nat.le_of_ble_eq_true rfl) ?_
  intro p e s m args below meth c A ls C hr hlocks hnm h hl
  have hx := C.hx
  have hb := C.hb
  have hl : lv_has ls 3 [(0, .ref d0)] := hl
  have cut_10 : ∀ (n : Nat) (x1 : Int32) (x2 : Int32) (H : Heap) (locs : List Loc) (ls : Array Slot), Hx s G A (wLDs cI d0 b0 sl h0 p0 a0 a1 a2 a3 a4 a5 a6 a7 a8 nu va qu sc lo wt) H locs → lv_has ls 3 [(0, .ref d0), (1, .int x1), (2, .int x2)] → fX4_shown_10 n nu sc x1 x2 = some (rv) → W p l e rm_X4_shown s m args below meth c H locs 0 0 (MQ below (Qx G (some (.int rv)) (wLDs cI d0 b0 sl h0 p0 a0 a1 a2 a3 a4 a5 a6 a7 a8 nu va qu sc lo wt) A) args s 0 0 A) (F0 m 10 ls []) := by
    intro n
    induction n with
    | zero =>
      intro x1 x2 H locs ls h hl hf
      exact (nn_some _ hf).elim
    | succ n ih =>
      intro x1 x2 H locs ls h hl hf
      have hf : fX4_shown_10_b (fX4_shown_10 n) nu sc x1 x2 = some (rv) := hf
      unfold fX4_shown_10_b at hf
      refine lv_iload_n hx hb dX4_shown_10 rfl (lv_at hl 2 rfl) ?_
      refine lv_iload_n hx hb dX4_shown_11 rfl (lv_at hl 1 rfl) ?_
      refine lv_icmp_ge (tgt := 38) hx hb dX4_shown_12 (by decide) (fun hc => ?_) (fun hc => ?_)
      · replace hf := it_t hf hc
        refine lv_iload_n hx hb dX4_shown_38 rfl (lv_at hl 2 rfl) ?_
        cases hf
        exact r_iret C h hr hlocks dX4_shown_39
      · replace hf := it_f hf hc
        refine lv_aload_n hx hb dX4_shown_15 rfl (lv_at hl 0 rfl) ?_
        refine r_get C h 0 0 (ci := 4) (N := 5) (Cn := RX4) (T := TX4) rfl rfl (by decide) in_X4_shown_X4 lk_X4_shown_10 rfl dX4_shown_16 ?_
        refine r_getN C h 1 3 (ci := 2) (N := 6) (Cn := RX2) (T := TX2) rfl rfl (by decide) in_X4_shown_X2 lkN_4_83 rfl dX4_shown_19 ?_
        refine lv_iload_n hx hb dX4_shown_22 rfl (lv_at hl 2 rfl) ?_
        refine lv_iconst (v := 1) hx hb dX4_shown_23 (by decide) ?_
        obtain ⟨r_1, hq_2, hf⟩ := ob1_use hf
        refine r_callV C h (cw_X4_shown_X3_read_75 C.hts) (rest := []) (ci := 3) (N := 2) (Cn := RX3) (T := TX3) (c_X3_read l G cI cC cZ X a5 a6 3 96 sc x2 (1 : Int32) r_1 hq_2) [6, 7] rfl rfl rfl rfl 6 rfl rfl hl.1 rfl (Nat.le_of_ble_eq_true rfl) ⟨Nat.le_of_ble_eq_true rfl, Nat.le_of_ble_eq_true rfl⟩ (wLDs cI d0 b0 sl h0 p0 a0 a1 a2 a3 a4 a5 a6 a7 a8 nu va qu sc lo wt) rfl rfl dX4_shown_24 (fun H locs h => ?_)
        refine lv_bipush (v := (-6)) hx hb dX4_shown_27 (by decide) ?_
        refine lv_icmp_eq (tgt := 38) hx hb dX4_shown_29 (by decide) (fun hc => ?_) (fun hc => ?_)
        · replace hf := it_t hf hc
          refine lv_iload_n hx hb dX4_shown_38 rfl (lv_at hl 2 rfl) ?_
          cases hf
          exact r_iret C h hr hlocks dX4_shown_39
        · replace hf := it_f hf hc
          obtain ⟨x2_3, ex2_3⟩ : ∃ y : Int32, y = x2 + 1 := ⟨_, rfl⟩
          replace hf := nm_use hf ex2_3
          refine lv_iinc (v := x2_3) (lv' := [(2, .int x2_3), (0, .ref d0), (1, .int x1)]) hx hb dX4_shown_32 hl (k := 2) rfl (by rw [ex2_3]; rfl) (by decide) rfl (fun ls hl => ?_)
          refine lv_goto (tgt := 10) hx hb dX4_shown_35 (by decide) ?_
          exact ih x1 x2_3 _ _ _ h (lv_sub hl [1, 2, 0] rfl) hf
  unfold fX4_shown at hf
  refine lv_aload_n hx hb dX4_shown_0 rfl (lv_at hl 0 rfl) ?_
  refine r_get C h 0 0 (ci := 4) (N := 5) (Cn := RX4) (T := TX4) rfl rfl (by decide) in_X4_shown_X4 lk_X4_shown_10 rfl dX4_shown_1 ?_
  obtain ⟨r_1, hq_2, hf⟩ := ob1_use hf
  refine r_callV C h (cw_X4_shown_X2_rowsOfScreen_80 C.hts) (rest := []) (ci := 2) (N := 6) (Cn := RX2) (T := TX2) (c_X2_rowsOfScreen l G cI cC cZ X a0 a1 a2 a3 a4 a5 a6 a7 a8 nu va qu sc lo wt r_1 hq_2) [1, 2, 3, 4, 5, 6, 7, 8, 9] rfl rfl rfl rfl 1 rfl rfl hl.1 rfl (Nat.le_of_ble_eq_true rfl) ⟨Nat.le_of_ble_eq_true rfl, Nat.le_of_ble_eq_true rfl⟩ (wLDs cI d0 b0 sl h0 p0 a0 a1 a2 a3 a4 a5 a6 a7 a8 nu va qu sc lo wt) rfl rfl dX4_shown_4 (fun H locs h => ?_)
  refine lv_istore_n (lv' := [(1, .int r_1), (0, .ref d0)]) hx hb dX4_shown_7 rfl hl (by decide) rfl (fun ls hl => ?_)
  refine lv_iconst (v := 0) hx hb dX4_shown_8 (by decide) ?_
  refine lv_istore_n (lv' := [(2, .int 0), (1, .int r_1), (0, .ref d0)]) hx hb dX4_shown_9 rfl hl (by decide) rfl (fun ls hl => ?_)
  exact cut_10 KF r_1 0 _ _ _ h (lv_sub hl [2, 1, 0] rfl) hf
def rm_X4_count : Room := { frames := 1, cells := 0, slots := 0, locals := 22 }
set_option maxRecDepth 20000 in
theorem lk_X4_count_10 : Cond.fieldLink RX4 10 "LineDoubler" "state" "LLineDoubler$State;" ∈ wsX4_count := List.mem_of_getElem? (i := 3) (by decide +kernel)
set_option maxRecDepth 20000 in
theorem lk_X4_count_26 : Cond.fieldLink RX4 26 "LineDoubler" "history" "LLineDoubler$History;" ∈ wsX4_count := List.mem_of_getElem? (i := 2) (by decide +kernel)
set_option maxRecDepth 20000 in
theorem lk_X4_count_33 : Cond.fieldLink RX4 33 "LineDoubler" "pad" "LLineDoubler$Pad;" ∈ wsX4_count := List.mem_of_getElem? (i := 1) (by decide +kernel)
set_option maxRecDepth 20000 in
theorem in_X4_count_X4 : ∀ x ∈ wsX40, x ∈ wsX4_count := mem_r _ [8, 9, 10, 11, 12] (by decide +kernel)
set_option maxRecDepth 20000 in
theorem in_X4_count_X2 : ∀ x ∈ wsX20, x ∈ wsX4_count := mem_r _ [22, 23, 24, 25, 26, 27] (by decide +kernel)
set_option maxRecDepth 20000 in
theorem in_X4_count_X0 : ∀ x ∈ wsX00, x ∈ wsX4_count := mem_r _ [19, 20, 21] (by decide +kernel)
set_option maxRecDepth 20000 in
theorem in_X4_count_X1 : ∀ x ∈ wsX10, x ∈ wsX4_count := mem_r _ [13, 14, 15, 16, 17, 18] (by decide +kernel)
set_option maxRecDepth 20000 in
theorem cw_X4_count_X4_isWithin_67 {s : State} {args : Array Value} (hts : ∀ w ∈ wsX4_count, w.before args s = true) : CallB rm_X4_count s args RX4 67 yX4_isWithin cX4_isWithin 3 (some .boolean) wsX4_isWithin rm_X4_isWithin 0 0 3 ∧ (Cond.static yX4_isWithin).before args s = true :=
  va_cwS 3 hts gX4_count_X4_isWithin rfl rfl rfl (by decide +kernel) ⟨Nat.le_of_ble_eq_true rfl, Nat.le_of_ble_eq_true rfl⟩
set_option maxHeartbeats 4000000 in
set_option maxRecDepth 100000 in
theorem c_X4_count (l : Launch) (G : va_G) (cI cC cZ : ClassId) (X : List (ClassId × FieldType)) (d0 b0 sl a0 a1 a2 a3 a4 a5 a6 a7 a8 p0 p1 h0 h1 : Nat) (nu : Nat → Int32) (va : Nat → Int32) (qu : Nat → Int32) (sc : Nat → Int32) (lo : Nat → Int32) (wt : Int32) (ch : Nat → Int32) (pl : Int32) (pa : Int32) (po : Int32) (pf : Int32) (ps : Int32) (ho : Int32) (hs : Int32) (x1 : Int32) (rv : Int32) (hf : fX4_count nu pl hs x1 = some (rv)) : CT l yX4_count wsX4_count rm_X4_count G (TY cI cC cZ X) [.ref d0, .int x1] (wLDc cI cC d0 b0 sl a0 a1 a2 a3 a4 a5 a6 a7 a8 p0 p1 h0 h1 nu va qu sc lo wt ch pl pa po pf ps ho hs) (some (.int rv)) (wLDc cI cC d0 b0 sl a0 a1 a2 a3 a4 a5 a6 a7 a8 p0 p1 h0 h1 nu va qu sc lo wt ch pl pa po pf ps ho hs) := by
  refine CT.of (cc := cX4_count) (maxL := 2) (ret := (some .int)) RX4 rfl (by decide) rfl (Nat.le_of_ble_eq_true rfl) ?_
  intro p e s m args below meth c A ls C hr hlocks hnm h hl
  have hx := C.hx
  have hb := C.hb
  have hl : lv_has ls 2 [(0, .ref d0), (1, .int x1)] := hl
  unfold fX4_count at hf
  refine lv_iload_n hx hb dX4_count_0 rfl (lv_at hl 1 rfl) ?_
  refine lv_bipush (v := 24) hx hb dX4_count_1 (by decide) ?_
  refine lv_icmp_ne (tgt := 14) hx hb dX4_count_3 (by decide) (fun hc => ?_) (fun hc => ?_)
  · replace hf := it_f hf hc
    refine lv_iload_n hx hb dX4_count_14 rfl (lv_at hl 1 rfl) ?_
    refine lv_bipush (v := 25) hx hb dX4_count_15 (by decide) ?_
    refine lv_icmp_ne (tgt := 28) hx hb dX4_count_17 (by decide) (fun hc => ?_) (fun hc => ?_)
    · replace hf := it_f hf hc
      refine lv_iload_n hx hb dX4_count_28 rfl (lv_at hl 1 rfl) ?_
      refine lv_iconst (v := 0) hx hb dX4_count_29 (by decide) ?_
      refine lv_bipush (v := 23) hx hb dX4_count_30 (by decide) ?_
      obtain ⟨r_1, hq_2, hf⟩ := ob1_use hf
      refine r_callS C h (cw_X4_count_X4_isWithin_67 C.hts) (rest := []) (c_X4_isWithin l G cI cC cZ X x1 (0 : Int32) (23 : Int32) r_1 hq_2) [] rfl rfl rfl rfl hl.1 rfl (Nat.le_of_ble_eq_true rfl) ⟨Nat.le_of_ble_eq_true rfl, Nat.le_of_ble_eq_true rfl⟩ (wLDc cI cC d0 b0 sl a0 a1 a2 a3 a4 a5 a6 a7 a8 p0 p1 h0 h1 nu va qu sc lo wt ch pl pa po pf ps ho hs) rfl rfl dX4_count_32 (fun H locs h => ?_)
      refine lv_if_eq (tgt := 50) hx hb dX4_count_35 (by decide) (fun hc => ?_) (fun hc => ?_)
      · replace hf := it_t hf hc
        refine lv_bipush (v := (-2)) hx hb dX4_count_50 (by decide) ?_
        cases hf
        exact r_iret C h hr hlocks dX4_count_52
      · replace hf := it_f hf hc
        refine lv_aload_n hx hb dX4_count_38 rfl (lv_at hl 0 rfl) ?_
        refine r_get C h 0 0 (ci := 4) (N := 5) (Cn := RX4) (T := TX4) rfl rfl (by decide) in_X4_count_X4 lk_X4_count_10 rfl dX4_count_39 ?_
        refine r_getN C h 1 0 (ci := 2) (N := 6) (Cn := RX2) (T := TX2) rfl rfl (by decide) in_X4_count_X2 lkN_4_63 rfl dX4_count_42 ?_
        refine lv_iload_n hx hb dX4_count_45 rfl (lv_at hl 1 rfl) ?_
        obtain ⟨j_3, hj_3, hf⟩ := chk_use hf
        refine r_ald C h 2 rfl rfl hj_3 dX4_count_46 ?_
        refine lv_goto (tgt := 52) hx hb dX4_count_47 (by decide) ?_
        cases hf
        exact r_iret C h hr hlocks dX4_count_52
    · replace hf := it_t hf hc
      refine lv_aload_n hx hb dX4_count_20 rfl (lv_at hl 0 rfl) ?_
      refine r_get C h 0 3 (ci := 4) (N := 5) (Cn := RX4) (T := TX4) rfl rfl (by decide) in_X4_count_X4 lk_X4_count_26 rfl dX4_count_21 ?_
      refine r_getN C h 12 2 (ci := 0) (N := 3) (Cn := RX0) (T := TX0) rfl rfl (by decide) in_X4_count_X0 lkN_4_98 rfl dX4_count_24 ?_
      cases hf
      exact r_iret C h hr hlocks dX4_count_27
  · replace hf := it_t hf hc
    refine lv_aload_n hx hb dX4_count_6 rfl (lv_at hl 0 rfl) ?_
    refine r_get C h 0 4 (ci := 4) (N := 5) (Cn := RX4) (T := TX4) rfl rfl (by decide) in_X4_count_X4 lk_X4_count_33 rfl dX4_count_7 ?_
    refine r_getN C h 10 1 (ci := 1) (N := 6) (Cn := RX1) (T := TX1) rfl rfl (by decide) in_X4_count_X1 lkN_4_94 rfl dX4_count_10 ?_
    cases hf
    exact r_iret C h hr hlocks dX4_count_13
end
section
/-- the mirror of X4_gainOf -/
def fX4_gainOf (nu : Nat → Int32) (tnu : Nat → Int32) (x1 : Int32) : Option (Int32) :=
  ob1 (fX4_isWithin x1 (0 : Int32) (23 : Int32)) fun r_1 =>
  (if r_1 = 0 then
  some (0)
  else
  chk x1 24 fun j_3 =>
  chk x1 24 fun j_4 =>
  some (((tnu j_3) - (nu j_4))))

def rm_X4_gainOf : Room := { frames := 1, cells := 0, slots := 0, locals := 22 }
set_option maxRecDepth 20000 in
theorem lk_X4_gainOf_16 : Cond.fieldLink RX4 16 "LineDoubler" "trial" "LLineDoubler$State;" ∈ wsX4_gainOf := List.mem_of_getElem? (i := 1) (by decide +kernel)
set_option maxRecDepth 20000 in
theorem lk_X4_gainOf_10 : Cond.fieldLink RX4 10 "LineDoubler" "state" "LLineDoubler$State;" ∈ wsX4_gainOf := List.mem_of_getElem? (i := 2) (by decide +kernel)
set_option maxRecDepth 20000 in
theorem in_X4_gainOf_X4 : ∀ x ∈ wsX40, x ∈ wsX4_gainOf := mem_r _ [7, 8, 9, 10, 11] (by decide +kernel)
set_option maxRecDepth 20000 in
theorem in_X4_gainOf_X2 : ∀ x ∈ wsX20, x ∈ wsX4_gainOf := mem_r _ [12, 13, 14, 15, 16, 17] (by decide +kernel)
set_option maxRecDepth 20000 in
theorem cw_X4_gainOf_X4_isWithin_67 {s : State} {args : Array Value} (hts : ∀ w ∈ wsX4_gainOf, w.before args s = true) : CallB rm_X4_gainOf s args RX4 67 yX4_isWithin cX4_isWithin 3 (some .boolean) wsX4_isWithin rm_X4_isWithin 0 0 3 ∧ (Cond.static yX4_isWithin).before args s = true :=
  va_cwS 3 hts gX4_gainOf_X4_isWithin rfl rfl rfl (by decide +kernel) ⟨Nat.le_of_ble_eq_true rfl, Nat.le_of_ble_eq_true rfl⟩
set_option maxHeartbeats 4000000 in
set_option maxRecDepth 100000 in
theorem c_X4_gainOf (l : Launch) (G : va_G) (cI cC cZ : ClassId) (X : List (ClassId × FieldType)) (d0 sl h0 p0 a0 a1 a2 a3 a5 a7 b0 b1 b2 b3 b5 b7 : Nat) (nu : Nat → Int32) (wt : Int32) (tnu : Nat → Int32) (twt : Int32) (x1 : Int32) (rv : Int32) (hf : fX4_gainOf nu tnu x1 = some (rv)) : CT l yX4_gainOf wsX4_gainOf rm_X4_gainOf G (TY cI cC cZ X) [.ref d0, .int x1] (wLDg cI d0 sl h0 p0 a0 a1 a2 a3 a5 a7 b0 b1 b2 b3 b5 b7 nu wt tnu twt) (some (.int rv)) (wLDg cI d0 sl h0 p0 a0 a1 a2 a3 a5 a7 b0 b1 b2 b3 b5 b7 nu wt tnu twt) := by
  refine CT.of (cc := cX4_gainOf) (maxL := 2) (ret := (some .int)) RX4 rfl (by decide) rfl (Nat.le_of_ble_eq_true rfl) ?_
  intro p e s m args below meth c A ls C hr hlocks hnm h hl
  have hx := C.hx
  have hb := C.hb
  have hl : lv_has ls 2 [(0, .ref d0), (1, .int x1)] := hl
  unfold fX4_gainOf at hf
  refine lv_iload_n hx hb dX4_gainOf_0 rfl (lv_at hl 1 rfl) ?_
  refine lv_iconst (v := 0) hx hb dX4_gainOf_1 (by decide) ?_
  refine lv_bipush (v := 23) hx hb dX4_gainOf_2 (by decide) ?_
  obtain ⟨r_1, hq_2, hf⟩ := ob1_use hf
  refine r_callS C h (cw_X4_gainOf_X4_isWithin_67 C.hts) (rest := []) (c_X4_isWithin l G cI cC cZ X x1 (0 : Int32) (23 : Int32) r_1 hq_2) [] rfl rfl rfl rfl hl.1 rfl (Nat.le_of_ble_eq_true rfl) ⟨Nat.le_of_ble_eq_true rfl, Nat.le_of_ble_eq_true rfl⟩ (wLDg cI d0 sl h0 p0 a0 a1 a2 a3 a5 a7 b0 b1 b2 b3 b5 b7 nu wt tnu twt) rfl rfl dX4_gainOf_4 (fun H locs h => ?_)
  refine lv_if_eq (tgt := 32) hx hb dX4_gainOf_7 (by decide) (fun hc => ?_) (fun hc => ?_)
  · replace hf := it_t hf hc
    refine lv_iconst (v := 0) hx hb dX4_gainOf_32 (by decide) ?_
    cases hf
    exact r_iret C h hr hlocks dX4_gainOf_33
  · replace hf := it_f hf hc
    refine lv_aload_n hx hb dX4_gainOf_10 rfl (lv_at hl 0 rfl) ?_
    refine r_get C h 0 1 (ci := 4) (N := 5) (Cn := RX4) (T := TX4) rfl rfl (by decide) in_X4_gainOf_X4 lk_X4_gainOf_16 rfl dX4_gainOf_11 ?_
    refine r_getN C h 3 0 (ci := 2) (N := 6) (Cn := RX2) (T := TX2) rfl rfl (by decide) in_X4_gainOf_X2 lkN_4_63 rfl dX4_gainOf_14 ?_
    refine lv_iload_n hx hb dX4_gainOf_17 rfl (lv_at hl 1 rfl) ?_
    obtain ⟨j_3, hj_3, hf⟩ := chk_use hf
    refine r_ald C h 4 rfl rfl hj_3 dX4_gainOf_18 ?_
    refine lv_aload_n hx hb dX4_gainOf_19 rfl (lv_at hl 0 rfl) ?_
    refine r_get C h 0 0 (ci := 4) (N := 5) (Cn := RX4) (T := TX4) rfl rfl (by decide) in_X4_gainOf_X4 lk_X4_gainOf_10 rfl dX4_gainOf_20 ?_
    refine r_getN C h 1 0 (ci := 2) (N := 6) (Cn := RX2) (T := TX2) rfl rfl (by decide) in_X4_gainOf_X2 lkN_4_63 rfl dX4_gainOf_23 ?_
    refine lv_iload_n hx hb dX4_gainOf_26 rfl (lv_at hl 1 rfl) ?_
    obtain ⟨j_4, hj_4, hf⟩ := chk_use hf
    refine r_ald C h 2 rfl rfl hj_4 dX4_gainOf_27 ?_
    refine lv_isub hx hb dX4_gainOf_28 ?_
    refine lv_goto (tgt := 33) hx hb dX4_gainOf_29 (by decide) ?_
    cases hf
    exact r_iret C h hr hlocks dX4_gainOf_33
end
section
/-- the mirror of X4_would -/
def fX4_would (nu : Nat → Int32) (va : Nat → Int32) (qu : Nat → Int32) (sc : Nat → Int32) (lo : Nat → Int32) (wt : Int32) (tnu : Nat → Int32) (tva : Nat → Int32) (tqu : Nat → Int32) (tsc : Nat → Int32) (tlo : Nat → Int32) (twt : Int32) (x1 : Int32) (x2 : Int32) : Option (Int32 × (Nat → Int32) × (Nat → Int32) × (Nat → Int32) × (Nat → Int32) × (Nat → Int32) × Int32) :=
  ob1 (fX4_isWithin x1 (1 : Int32) (999 : Int32)) fun r_1 =>
  (if r_1 = 0 then
  some ((-2), tnu, tva, tqu, tsc, tlo, twt)
  else
  ob1 (fX4_isWithin x2 (0 : Int32) (2 : Int32)) fun r_3 =>
  (if r_3 = 0 then
  some ((-2), tnu, tva, tqu, tsc, tlo, twt)
  else
  ob6 (fX2_copyFrom tnu tva tqu tsc tlo twt nu va qu sc lo wt) fun tnu_5 tva_6 tqu_7 tsc_8 tlo_9 twt_10 =>
  ob6 (fX2_passTicks tnu_5 tva_6 tqu_7 tsc_8 tlo_9 twt_10 x1 (1073741824 : Int32)) fun r_12 tnu_13 tqu_14 tsc_15 tlo_16 twt_17 =>
  (if x2 = 0 then
  ob1 (fX4_gainOf nu tnu_13 (4 : Int32)) fun r_23 =>
  some (r_23, tnu_13, tva_6, tqu_14, tsc_15, tlo_16, twt_17)
  else
  (if x2 = 1 then
  ob1 (fX4_gainOf nu tnu_13 (6 : Int32)) fun r_21 =>
  some (r_21, tnu_13, tva_6, tqu_14, tsc_15, tlo_16, twt_17)
  else
  ob1 (fX4_gainOf nu tnu_13 (12 : Int32)) fun r_19 =>
  some (r_19, tnu_13, tva_6, tqu_14, tsc_15, tlo_16, twt_17)))))

def rm_X4_would : Room := { frames := 6, cells := 0, slots := 0, locals := 134 }
set_option maxRecDepth 20000 in
theorem lk_X4_would_16 : Cond.fieldLink RX4 16 "LineDoubler" "trial" "LLineDoubler$State;" ∈ wsX4_would := List.mem_of_getElem? (i := 1) (by decide +kernel)
set_option maxRecDepth 20000 in
theorem lk_X4_would_10 : Cond.fieldLink RX4 10 "LineDoubler" "state" "LLineDoubler$State;" ∈ wsX4_would := List.mem_of_getElem? (i := 2) (by decide +kernel)
set_option maxRecDepth 20000 in
theorem kc_X4_would_114 : Cond.constant RX4 114 (1073741824) ∈ wsX4_would := List.mem_of_getElem? (i := 3) (by decide +kernel)
set_option maxRecDepth 20000 in
theorem in_X4_would_X4 : ∀ x ∈ wsX40, x ∈ wsX4_would := mem_r _ [103, 104, 105, 106, 107] (by decide +kernel)
set_option maxRecDepth 20000 in
theorem cw_X4_would_X4_isWithin_67 {s : State} {args : Array Value} (hts : ∀ w ∈ wsX4_would, w.before args s = true) : CallB rm_X4_would s args RX4 67 yX4_isWithin cX4_isWithin 3 (some .boolean) wsX4_isWithin rm_X4_isWithin 0 0 3 ∧ (Cond.static yX4_isWithin).before args s = true :=
  va_cwS 3 hts gX4_would_X4_isWithin rfl rfl rfl (by decide +kernel) ⟨Nat.le_of_ble_eq_true rfl, Nat.le_of_ble_eq_true rfl⟩
set_option maxRecDepth 20000 in
theorem cw_X4_would_X2_copyFrom_111 {s : State} {args : Array Value} (hts : ∀ w ∈ wsX4_would, w.before args s = true) : CallW rm_X4_would s args RX4 RX2 111 yX2_copyFrom cX2_copyFrom 2 none wsX2_copyFrom rm_X2_copyFrom 0 0 1 :=
  cwV 1 hts gX4_would_X2_copyFrom rfl rfl rfl (by decide +kernel) ⟨Nat.le_of_ble_eq_true rfl, Nat.le_of_ble_eq_true rfl⟩
set_option maxRecDepth 20000 in
theorem cw_X4_would_X2_passTicks_56 {s : State} {args : Array Value} (hts : ∀ w ∈ wsX4_would, w.before args s = true) : CallW rm_X4_would s args RX4 RX2 56 yX2_passTicks cX2_passTicks 6 (some .int) wsX2_passTicks rm_X2_passTicks 0 0 2 :=
  cwV 2 hts gX4_would_X2_passTicks rfl rfl rfl (by decide +kernel) ⟨Nat.le_of_ble_eq_true rfl, Nat.le_of_ble_eq_true rfl⟩
set_option maxRecDepth 20000 in
theorem cw_X4_would_X4_gainOf_115 {s : State} {args : Array Value} (hts : ∀ w ∈ wsX4_would, w.before args s = true) : CallW rm_X4_would s args RX4 RX4 115 yX4_gainOf cX4_gainOf 2 (some .int) wsX4_gainOf rm_X4_gainOf 0 0 1 :=
  cwV 1 hts gX4_would_X4_gainOf rfl rfl rfl (by decide +kernel) ⟨Nat.le_of_ble_eq_true rfl, Nat.le_of_ble_eq_true rfl⟩
set_option maxHeartbeats 4000000 in
set_option maxRecDepth 100000 in
theorem c_X4_would (l : Launch) (G : va_G) (cI cC cZ : ClassId) (X : List (ClassId × FieldType)) (d0 sl h0 p0 a0 a1 a2 a3 a4 a5 a6 a7 a8 b0 b1 b2 b3 b4 b5 b6 b7 b8 : Nat) (nu : Nat → Int32) (va : Nat → Int32) (qu : Nat → Int32) (sc : Nat → Int32) (lo : Nat → Int32) (wt : Int32) (tnu : Nat → Int32) (tva : Nat → Int32) (tqu : Nat → Int32) (tsc : Nat → Int32) (tlo : Nat → Int32) (twt : Int32) (x1 : Int32) (x2 : Int32) (rv : Int32) (tnu' : Nat → Int32) (tva' : Nat → Int32) (tqu' : Nat → Int32) (tsc' : Nat → Int32) (tlo' : Nat → Int32) (twt' : Int32) (hf : fX4_would nu va qu sc lo wt tnu tva tqu tsc tlo twt x1 x2 = some (rv, tnu', tva', tqu', tsc', tlo', twt')) : CT l yX4_would wsX4_would rm_X4_would G (TY cI cC cZ X) [.ref d0, .int x1, .int x2] (wLDt cI d0 sl h0 p0 a0 a1 a2 a3 a4 a5 a6 a7 a8 b0 b1 b2 b3 b4 b5 b6 b7 b8 nu va qu sc lo wt tnu tva tqu tsc tlo twt) (some (.int rv)) (wLDt cI d0 sl h0 p0 a0 a1 a2 a3 a4 a5 a6 a7 a8 b0 b1 b2 b3 b4 b5 b6 b7 b8 nu va qu sc lo wt tnu' tva' tqu' tsc' tlo' twt') := by
  refine CT.of (cc := cX4_would) (maxL := 3) (ret := (some .int)) RX4 rfl (by decide) rfl (Nat.le_of_ble_eq_true rfl) ?_
  intro p e s m args below meth c A ls C hr hlocks hnm h hl
  have hx := C.hx
  have hb := C.hb
  have hl : lv_has ls 3 [(0, .ref d0), (1, .int x1), (2, .int x2)] := hl
  unfold fX4_would at hf
  refine lv_iload_n hx hb dX4_would_0 rfl (lv_at hl 1 rfl) ?_
  refine lv_iconst (v := 1) hx hb dX4_would_1 (by decide) ?_
  refine lv_sipush (v := 999) hx hb dX4_would_2 (by decide) ?_
  obtain ⟨r_1, hq_2, hf⟩ := ob1_use hf
  refine r_callS0 C h (cw_X4_would_X4_isWithin_67 C.hts) (rest := []) (c_X4_isWithin l G cI cC cZ X x1 (1 : Int32) (999 : Int32) r_1 hq_2) [] rfl rfl rfl hl.1 rfl (Nat.le_of_ble_eq_true rfl) ⟨Nat.le_of_ble_eq_true rfl, Nat.le_of_ble_eq_true rfl⟩ rfl dX4_would_5 (fun H locs h => ?_)
  refine lv_if_eq (tgt := 20) hx hb dX4_would_8 (by decide) (fun hc => ?_) (fun hc => ?_)
  · replace hf := it_t hf hc
    refine lv_bipush (v := (-2)) hx hb dX4_would_20 (by decide) ?_
    cases hf
    exact r_iret C h hr hlocks dX4_would_22
  · replace hf := it_f hf hc
    refine lv_iload_n hx hb dX4_would_11 rfl (lv_at hl 2 rfl) ?_
    refine lv_iconst (v := 0) hx hb dX4_would_12 (by decide) ?_
    refine lv_iconst (v := 2) hx hb dX4_would_13 (by decide) ?_
    obtain ⟨r_3, hq_4, hf⟩ := ob1_use hf
    refine r_callS0 C h (cw_X4_would_X4_isWithin_67 C.hts) (rest := []) (c_X4_isWithin l G cI cC cZ X x2 (0 : Int32) (2 : Int32) r_3 hq_4) [] rfl rfl rfl hl.1 rfl (Nat.le_of_ble_eq_true rfl) ⟨Nat.le_of_ble_eq_true rfl, Nat.le_of_ble_eq_true rfl⟩ rfl dX4_would_14 (fun H locs h => ?_)
    refine lv_if_ne (tgt := 23) hx hb dX4_would_17 (by decide) (fun hc => ?_) (fun hc => ?_)
    · replace hf := it_f hf hc
      refine lv_aload_n hx hb dX4_would_23 rfl (lv_at hl 0 rfl) ?_
      refine r_get C h 0 1 (ci := 4) (N := 5) (Cn := RX4) (T := TX4) rfl rfl (by decide) in_X4_would_X4 lk_X4_would_16 rfl dX4_would_24 ?_
      refine lv_aload_n hx hb dX4_would_27 rfl (lv_at hl 0 rfl) ?_
      refine r_get C h 0 0 (ci := 4) (N := 5) (Cn := RX4) (T := TX4) rfl rfl (by decide) in_X4_would_X4 lk_X4_would_10 rfl dX4_would_28 ?_
      obtain ⟨tnu_5, tva_6, tqu_7, tsc_8, tlo_9, twt_10, hq_11, hf⟩ := ob6_use hf
      refine r_callV C h (cw_X4_would_X2_copyFrom_111 C.hts) (rest := []) (ci := 2) (N := 6) (Cn := RX2) (T := TX2) (c_X2_copyFrom l G cI cC cZ X b0 b1 b2 b3 b4 b5 b6 b7 b8 a0 a1 a2 a3 a4 a5 a6 a7 a8 tnu tva tqu tsc tlo twt nu va qu sc lo wt tnu_5 tva_6 tqu_7 tsc_8 tlo_9 twt_10 hq_11) [10, 11, 12, 13, 14, 15, 16, 17, 18, 1, 2, 3, 4, 5, 6, 7, 8, 9] rfl rfl rfl rfl 10 rfl rfl hl.1 rfl (Nat.le_of_ble_eq_true rfl) ⟨Nat.le_of_ble_eq_true rfl, Nat.le_of_ble_eq_true rfl⟩ (wLDt cI d0 sl h0 p0 a0 a1 a2 a3 a4 a5 a6 a7 a8 b0 b1 b2 b3 b4 b5 b6 b7 b8 nu va qu sc lo wt tnu_5 tva_6 tqu_7 tsc_8 tlo_9 twt_10) rfl rfl dX4_would_31 (fun H locs h => ?_)
      refine lv_aload_n hx hb dX4_would_34 rfl (lv_at hl 0 rfl) ?_
      refine r_get C h 0 1 (ci := 4) (N := 5) (Cn := RX4) (T := TX4) rfl rfl (by decide) in_X4_would_X4 lk_X4_would_16 rfl dX4_would_35 ?_
      refine lv_iload_n hx hb dX4_would_38 rfl (lv_at hl 1 rfl) ?_
      refine lv_ldc hx hb C.hown (C.hts _ kc_X4_would_114) dX4_would_39 ?_
      obtain ⟨r_12, tnu_13, tqu_14, tsc_15, tlo_16, twt_17, hq_18, hf⟩ := ob6_use hf
      refine r_callV C h (cw_X4_would_X2_passTicks_56 C.hts) (rest := []) (ci := 2) (N := 6) (Cn := RX2) (T := TX2) (c_X2_passTicks l G cI cC cZ X b0 b1 b2 b3 b4 b5 b6 b7 b8 tnu_5 tva_6 tqu_7 tsc_8 tlo_9 twt_10 x1 (1073741824 : Int32) r_12 tnu_13 tqu_14 tsc_15 tlo_16 twt_17 hq_18) [10, 11, 12, 13, 14, 15, 16, 17, 18] rfl rfl rfl rfl 10 rfl rfl hl.1 rfl (Nat.le_of_ble_eq_true rfl) ⟨Nat.le_of_ble_eq_true rfl, Nat.le_of_ble_eq_true rfl⟩ (wLDt cI d0 sl h0 p0 a0 a1 a2 a3 a4 a5 a6 a7 a8 b0 b1 b2 b3 b4 b5 b6 b7 b8 nu va qu sc lo wt tnu_13 tva_6 tqu_14 tsc_15 tlo_16 twt_17) rfl rfl dX4_would_41 (fun H locs h => ?_)
      refine lv_pop hx hb dX4_would_44 rfl ?_
      refine lv_iload_n hx hb dX4_would_45 rfl (lv_at hl 2 rfl) ?_
      refine lv_if_ne (tgt := 55) hx hb dX4_would_46 (by decide) (fun hc => ?_) (fun hc => ?_)
      · replace hf := it_f hf hc
        refine lv_iload_n hx hb dX4_would_55 rfl (lv_at hl 2 rfl) ?_
        refine lv_iconst (v := 1) hx hb dX4_would_56 (by decide) ?_
        refine lv_icmp_ne (tgt := 69) hx hb dX4_would_57 (by decide) (fun hc => ?_) (fun hc => ?_)
        · replace hf := it_f hf hc
          refine lv_aload_n hx hb dX4_would_69 rfl (lv_at hl 0 rfl) ?_
          refine lv_bipush (v := 12) hx hb dX4_would_70 (by decide) ?_
          obtain ⟨r_19, hq_20, hf⟩ := ob1_use hf
          refine r_callV0 C h (cw_X4_would_X4_gainOf_115 C.hts) (rest := []) (ci := 4) (N := 5) (Cn := RX4) (T := TX4) (c_X4_gainOf l G cI cC cZ X d0 sl h0 p0 a0 a1 a2 a3 a5 a7 b0 b1 b2 b3 b5 b7 nu wt tnu_13 twt_17 (12 : Int32) r_19 hq_20) [0, 1, 2, 10, 11] rfl rfl rfl 0 rfl rfl hl.1 rfl (Nat.le_of_ble_eq_true rfl) ⟨Nat.le_of_ble_eq_true rfl, Nat.le_of_ble_eq_true rfl⟩ rfl dX4_would_72 (fun H locs h => ?_)
          cases hf
          exact r_iret C h hr hlocks dX4_would_75
        · replace hf := it_t hf hc
          refine lv_aload_n hx hb dX4_would_60 rfl (lv_at hl 0 rfl) ?_
          refine lv_bipush (v := 6) hx hb dX4_would_61 (by decide) ?_
          obtain ⟨r_21, hq_22, hf⟩ := ob1_use hf
          refine r_callV0 C h (cw_X4_would_X4_gainOf_115 C.hts) (rest := []) (ci := 4) (N := 5) (Cn := RX4) (T := TX4) (c_X4_gainOf l G cI cC cZ X d0 sl h0 p0 a0 a1 a2 a3 a5 a7 b0 b1 b2 b3 b5 b7 nu wt tnu_13 twt_17 (6 : Int32) r_21 hq_22) [0, 1, 2, 10, 11] rfl rfl rfl 0 rfl rfl hl.1 rfl (Nat.le_of_ble_eq_true rfl) ⟨Nat.le_of_ble_eq_true rfl, Nat.le_of_ble_eq_true rfl⟩ rfl dX4_would_63 (fun H locs h => ?_)
          refine lv_goto (tgt := 75) hx hb dX4_would_66 (by decide) ?_
          cases hf
          exact r_iret C h hr hlocks dX4_would_75
      · replace hf := it_t hf hc
        refine lv_aload_n hx hb dX4_would_49 rfl (lv_at hl 0 rfl) ?_
        refine lv_iconst (v := 4) hx hb dX4_would_50 (by decide) ?_
        obtain ⟨r_23, hq_24, hf⟩ := ob1_use hf
        refine r_callV0 C h (cw_X4_would_X4_gainOf_115 C.hts) (rest := []) (ci := 4) (N := 5) (Cn := RX4) (T := TX4) (c_X4_gainOf l G cI cC cZ X d0 sl h0 p0 a0 a1 a2 a3 a5 a7 b0 b1 b2 b3 b5 b7 nu wt tnu_13 twt_17 (4 : Int32) r_23 hq_24) [0, 1, 2, 10, 11] rfl rfl rfl 0 rfl rfl hl.1 rfl (Nat.le_of_ble_eq_true rfl) ⟨Nat.le_of_ble_eq_true rfl, Nat.le_of_ble_eq_true rfl⟩ rfl dX4_would_51 (fun H locs h => ?_)
        cases hf
        exact r_iret C h hr hlocks dX4_would_54
    · replace hf := it_t hf hc
      refine lv_bipush (v := (-2)) hx hb dX4_would_20 (by decide) ?_
      cases hf
      exact r_iret C h hr hlocks dX4_would_22
end
section
/-! ===== worlds whose cells are not counted beforehand; methods that make cells ===== -/
theorem va_P_mem {D : va_G} {cl : List vw_C} {ws : va_W} {H : Heap} : va_P D cl ws H ↔ ∀ q ∈ ws, va_at D cl q H := by
  constructor
  · intro h q hq
    obtain ⟨k, hk⟩ := List.getElem?_of_mem hq
    exact h k q hk
  · intro h k q hk
    exact h q (List.mem_of_getElem? hk)
theorem va_D_mem {A : Nat → Prop} {ws : va_W} : va_D A ws ↔ (ws.map Prod.fst).Nodup ∧ ∀ q ∈ ws, A q.1 := by
  constructor
  · intro h
    refine ⟨?_, fun q hq => ?_⟩
    · unfold List.Nodup
      rw [List.pairwise_iff_getElem]
      intro i j hi hj hij he
      simp only [List.length_map] at hi hj
      simp only [List.getElem_map] at he
      have := h.1 i j _ _ (List.getElem?_eq_getElem hi) (List.getElem?_eq_getElem hj) he
      omega
    · obtain ⟨k, hk⟩ := List.getElem?_of_mem hq
      exact h.2 k q hk
  · intro h
    refine ⟨fun i j x y hi hj hxy => ?_, fun k q hk => h.2 q (List.mem_of_getElem? hk)⟩
    obtain ⟨hn, -⟩ := h
    unfold List.Nodup at hn
    rw [List.pairwise_iff_getElem] at hn
    obtain ⟨li, ei⟩ := List.getElem?_eq_some_iff.mp hi
    obtain ⟨lj, ej⟩ := List.getElem?_eq_some_iff.mp hj
    rcases Nat.lt_trichotomy i j with g | g | g
    · exact (hn i j (by simpa using li) (by simpa using lj) g (by simp only [List.getElem_map, ei, ej]; exact hxy)).elim
    · exact g
    · exact (hn j i (by simpa using lj) (by simpa using li) g (by simp only [List.getElem_map, ei, ej]; exact hxy.symm)).elim
theorem Hx.perm {s : State} {G : va_G} {A : Nat → Prop} {w w2 : va_W} {H : Heap} {locs : List Loc} (h : Hx s G A w H locs) (hp : w.Perm w2) : Hx s G A w2 H locs := by
  obtain ⟨h1, h2, h3⟩ := h
  rw [va_P_mem] at h1
  rw [va_D_mem] at h2
  refine ⟨va_P_mem.mpr fun q hq => h1 q (hp.mem_iff.mpr hq), va_D_mem.mpr ⟨(hp.map Prod.fst).nodup_iff.mp h2.1, fun q hq => h2.2 q (hp.mem_iff.mpr hq)⟩, h3⟩
/-- a list by its places, in any order -/
theorem perm_pl {α : Type} (ss : List (List α)) (is : List Nat) (h : (List.range ss.length).Perm is) : ss.flatten.Perm (is.map (fun i => ss.getD i [])).flatten := by
  have e : ss = (List.range ss.length).map (fun i => ss.getD i []) := by
    apply List.ext_getElem?
    intro j
    by_cases hj : j < ss.length
    · rw [List.getElem?_map, List.getElem?_range hj, List.getElem?_eq_getElem hj]
      simp [List.getD, hj]
    · rw [List.getElem?_eq_none (by omega), List.getElem?_eq_none (by simp; omega)]
  have h2 : ss.Perm (is.map (fun i => ss.getD i [])) := by
    have h3 := h.map (fun i => ss.getD i [])
    rw [← e] at h3
    exact h3
  exact h2.flatten
def Qy (G : va_G) (post : Option Value → va_W → Prop) (A : Nat → Prop) : Array Value → State → Outcome → State → Prop := fun _ st oc t => (∃ (res : Option Value) (w' : va_W), oc = .returned res ∧ post res w' ∧ va_P G vwCl w' t.heap ∧ va_D A w') ∧ va_F A st t
def CY (l : Launch) (y : MethodName) (ws : List Cond) (rm : Room) (G : va_G) (tys : List (ClassId × FieldType)) (av : List Value) (w : va_W) (post : Option Value → va_W → Prop) (mc ms : Nat) : Prop := ∀ sz : Nat, Met l y ws rm (va_Pc av (Pre G tys w sz)) (Qy G post (va_A w sz)) mc ms (va_A w sz)
theorem Met.mono {l : Launch} {y : MethodName} {ws : List Cond} {rm : Room} {Pc : Array Value → State → Prop} {Qc Qc' : Array Value → State → Outcome → State → Prop} {mc ms : Nat} {free : Addr → Prop} (h : Met l y ws rm Pc Qc mc ms free) (hq : ∀ a st o t, Qc a st o t → Qc' a st o t) : Met l y ws rm Pc Qc' mc ms free := by
  intro p e ha hc hk s m args below hf happ hP hK
  obtain ⟨n, o, h1, h2, h3, h4, h5⟩ := h p e ha hc hk s m args below hf happ hP hK
  exact ⟨n, o, h1, h2, h3, hq _ _ _ _ h4, h5⟩
theorem CT.toY {l : Launch} {y : MethodName} {ws : List Cond} {rm : Room} {G : va_G} {tys : List (ClassId × FieldType)} {av : List Value} {w w' : va_W} {res : Option Value} (h : CT l y ws rm G tys av w res w') : CY l y ws rm G tys av w (fun r v => r = res ∧ v = w') 0 0 := fun sz => (h sz).mono fun a st o t hq => ⟨⟨res, w', hq.1.1, ⟨rfl, rfl⟩, hq.1.2.1, hq.1.2.2⟩, hq.2⟩
theorem CY.mono {l : Launch} {y : MethodName} {ws : List Cond} {rm : Room} {G : va_G} {tys : List (ClassId × FieldType)} {av : List Value} {w : va_W} {post post' : Option Value → va_W → Prop} {mc ms : Nat} (h : CY l y ws rm G tys av w post mc ms) (hq : ∀ r v, post r v → post' r v) : CY l y ws rm G tys av w post' mc ms := fun sz => (h sz).mono fun a st o t h1 => by
  obtain ⟨⟨res, w', a1, a2, a3⟩, b⟩ := h1
  exact ⟨⟨res, w', a1, hq _ _ a2, a3⟩, b⟩
section RowsY
variable {p : Program} {l : Launch} {e : Env} {R : Room} {s : State} {m : MethodId} {args : Array Value} {below : List Frame} {meth : Method} {c : Code} {H : Heap} {locs : List Loc} {cells slots : Nat} {Q : State → Prop}
variable {cc : ByteArray} {pc : Nat} {ls : Array Slot} {rest st0 st1 : List Value} {G : va_G} {tys : List (ClassId × FieldType)} {A : Nat → Prop} {own : String} {Ts : List Cond} {nL : Nat} {w wr wc : va_W} {a mc ms : Nat} {post : Option Value → va_W → Prop}
theorem r_preY (C : Cx p s m args c G tys A own cc Ts nL) (h : Hx s G A (wr ++ wc) H locs) {av : List Value} : PreS s H (va_Pc av (Pre G tys wc H.size)) av := by
  obtain ⟨h1, h2, h3⟩ := h
  rw [va_P_mem] at h1
  rw [va_D_mem] at h2
  have hF : ∀ q, va_A wc H.size q → A q := by
    intro q hq
    rcases hq with ⟨k, e, hq⟩ | hq
    · exact h2.2 (q, e) (List.mem_append_right _ (List.mem_of_getElem? hq))
    · exact C.hA q (Nat.le_trans h3.1 hq)
  refine ⟨Pre.blind, fun U hU hW => ⟨rfl, by rw [hU], by rw [hU]; exact va_P_mem.mpr fun q hq => h1 q (List.mem_append_right _ hq), va_K.moved hW.alike C.hK, va_D_mem.mpr ⟨?_, fun _ _ => trivial⟩, ?_, NW.warm hW C.nw⟩⟩
  · have := h2.1
    rw [List.map_append] at this
    exact (List.nodup_append.mp this).2.1
  · rw [hU]
    exact (C.sf.kept h3.2.1 hF).moved hW.alike
theorem r_backY (C : Cx p s m args c G tys A own cc Ts nL) (h : Hx s G A (wr ++ wc) H locs) {av : Array Value}
    (hr : va_Run p l e R s m args below meth c H locs cells slots mc ms (F0 m pc ls st0) rest (Qy G post (va_A wc H.size) av) (va_A wc H.size))
    (kk : ∀ (res : Option Value) (w1 : va_W) (H1 : Heap) (locs1 : List Loc), post res w1 → Hx s G A (wr ++ w1) H1 locs1 → W p l e R s m args below meth c H1 locs1 (cells + mc) (slots + ms) Q (F0 m (pc + 3) ls (res.toList ++ rest))) : W p l e R s m args below meth c H locs cells slots Q (F0 m pc ls st0) := by
  obtain ⟨h1, h2, h3⟩ := h
  rw [va_P_mem] at h1
  rw [va_D_mem] at h2
  obtain ⟨n0, hA0⟩ := h2
  rw [List.map_append, List.nodup_append] at n0
  obtain ⟨n1, n2, n3⟩ := n0
  have hF : ∀ q, va_A wc H.size q → A q := by
    intro q hq
    rcases hq with ⟨k, e, hq⟩ | hq
    · exact hA0 (q, e) (List.mem_append_right _ (List.mem_of_getElem? hq))
    · exact C.hA q (Nat.le_trans h3.1 hq)
  have hR : ∀ q ∈ wr, q.1 < H.size ∧ ¬ va_A wc H.size q.1 := by
    intro q hq
    have hl := (h1 q (List.mem_append_left _ hq)).lt
    refine ⟨hl, fun z => ?_⟩
    rcases z with ⟨k, e, z⟩ | z
    · exact n3 q.1 (List.mem_map.mpr ⟨q, hq, rfl⟩) q.1 (List.mem_map.mpr ⟨(q.1, e), List.mem_of_getElem? z, rfl⟩) rfl
    · omega
  intro T hT X
  obtain ⟨v, st₀, t, T', L, h0, X', hL, e1, e2, ⟨⟨res, w1, hv, hpo, hp, hd⟩, hz, hk⟩, st⟩ := hr T hT X
  cases hv
  rw [h0] at hz hk
  rw [← e1] at hp hz hk
  rw [va_P_mem] at hp
  rw [va_D_mem] at hd
  have hH : Hx s G A (wr ++ w1) T'.heap (locs ++ L) := by
    refine ⟨?_, ?_, ?_⟩
    · refine va_P_mem.mpr fun q hq => ?_
      rcases List.mem_append.mp hq with g | g
      · exact (h1 q (List.mem_append_left _ g)).kept (hk q.1 (hR q g).1 (hR q g).2)
      · exact hp q g
    · refine va_D_mem.mpr ⟨?_, fun q hq => ?_⟩
      · rw [List.map_append, List.nodup_append]
        refine ⟨n1, hd.1, fun x hx y hy e => ?_⟩
        obtain ⟨q1, g1, rfl⟩ := List.mem_map.mp hx
        obtain ⟨q2, g2, rfl⟩ := List.mem_map.mp hy
        exact (hR q1 g1).2 (by rw [e]; exact hd.2 q2 g2)
      · rcases List.mem_append.mp hq with g | g
        · exact hA0 q (List.mem_append_left _ g)
        · exact hF _ (hd.2 q g)
    · exact ⟨Nat.le_trans h3.1 hz, fun q g1 g2 => by rw [hk q (Nat.lt_of_lt_of_le g1 h3.1) (fun z => g2 (hF q z))]; exact h3.2.1 q g1 g2, fun q hq => by
        rcases List.mem_append.mp hq with g | g
        · exact h3.2.2 q g
        · exact hF _ (hL q g)⟩
  obtain ⟨t2, a1, b1⟩ := kk v w1 T'.heap (locs ++ L) hpo hH T' rfl X'
  exact ⟨t2, st t2 a1, b1⟩
theorem r_callVY (C : Cx p s m args c G tys A own cc Ts nL) (h : Hx s G A (wr ++ wc) H locs) {y : MethodName} {bytes : ByteArray} {maxL n index ci : Nat} {ret : Option FieldType} {wsy : List Cond} {rmy : Room} {Cn : String} {T : u_T} {N b : Nat} {fs As : List Value}
    (cw : CallW R s args own Cn index y bytes maxL ret wsy rmy mc ms n) (ct : CY l y wsy rmy G tys (.ref b :: As) wc post mc ms) (hrc : vwCl[ci]? = some (Cn, T, N)) (hq0 : (b, .inr (ci, fs)) ∈ wr ++ wc)
    (hlen : As.length = n) (hls : ls.size = nL) (hst0 : st0 = As.reverse ++ .ref b :: rest) (hroom : (rest.map fun v => v.category).sum ≤ 8) (hf : cells + mc ≤ R.cells ∧ slots + ms ≤ R.slots) (hdg : decode cc pc = .ok (.invokevirtual index, 3))
    (kk : ∀ (res : Option Value) (w1 : va_W) (H1 : Heap) (locs1 : List Loc), post res w1 → Hx s G A (wr ++ w1) H1 locs1 → W p l e R s m args below meth c H1 locs1 (cells + mc) (slots + ms) Q (F0 m (pc + 3) ls (res.toList ++ rest))) : W p l e R s m args below meth c H locs cells slots Q (F0 m pc ls st0) := by
  have hp := r_preY (av := .ref b :: As) C h
  obtain ⟨q0, hq0⟩ := List.getElem?_of_mem hq0
  exact r_backY C h (va_runV C.fix (ct H.size) cw ⟨hp.1, va_recv C.hK h.1 hrc hq0, hp.2⟩ rfl hlen hls hst0 (lv_room hroom) hdg hf) kk
theorem r_callSY (C : Cx p s m args c G tys A own cc Ts nL) (h : Hx s G A (wr ++ wc) H locs) {y : MethodName} {bytes : ByteArray} {maxL n index : Nat} {ret : Option FieldType} {wsy : List Cond} {rmy : Room} {As : List Value}
    (cw : CallB R s args own index y bytes maxL ret wsy rmy mc ms n ∧ (Cond.static y).before args s = true) (ct : CY l y wsy rmy G tys As wc post mc ms)
    (hlen : As.length = n) (hls : ls.size = nL) (hst0 : st0 = As.reverse ++ rest) (hroom : (rest.map fun v => v.category).sum ≤ 8) (hf : cells + mc ≤ R.cells ∧ slots + ms ≤ R.slots) (hdg : decode cc pc = .ok (.invokestatic index, 3))
    (kk : ∀ (res : Option Value) (w1 : va_W) (H1 : Heap) (locs1 : List Loc), post res w1 → Hx s G A (wr ++ w1) H1 locs1 → W p l e R s m args below meth c H1 locs1 (cells + mc) (slots + ms) Q (F0 m (pc + 3) ls (res.toList ++ rest))) : W p l e R s m args below meth c H locs cells slots Q (F0 m pc ls st0) :=
  r_backY C h (va_runS C.fix (ct H.size) cw (r_preY C h) rfl hlen hls hst0 (lv_room hroom) hdg hf) kk
theorem r_callSNY (C : Cx p s m args c G tys A own cc Ts nL) (h : Hx s G A (wr ++ wc) H locs) {y : MethodName} {bytes : ByteArray} {maxL n index : Nat} {ret : Option FieldType} {wsy : List Cond} {rmy : Room} {As : List Value} {host : String}
    (cw : va_CN R s args own index y host bytes maxL ret wsy rmy mc ms n ∧ (Cond.static y).before args s = true ∧ True) (ct : CY l y wsy rmy G tys As wc post mc ms)
    (hlen : As.length = n) (hls : ls.size = nL) (hst0 : st0 = As.reverse ++ rest) (hroom : (rest.map fun v => v.category).sum ≤ 8) (hf : cells + mc ≤ R.cells ∧ slots + ms ≤ R.slots) (hdg : decode cc pc = .ok (.invokestatic index, 3))
    (kk : ∀ (res : Option Value) (w1 : va_W) (H1 : Heap) (locs1 : List Loc), post res w1 → Hx s G A (wr ++ w1) H1 locs1 → W p l e R s m args below meth c H1 locs1 (cells + mc) (slots + ms) Q (F0 m (pc + 3) ls (res.toList ++ rest))) : W p l e R s m args below meth c H locs cells slots Q (F0 m pc ls st0) :=
  r_backY C h (va_runSN C.fix (ct H.size) cw (r_preY C h) rfl hlen hls hst0 (lv_room hroom) hdg hf) kk
theorem r_callIY (C : Cx p s m args c G tys A own cc Ts nL) (h : Hx s G A (wr ++ wc) H locs) {y : MethodName} {bytes : ByteArray} {maxL n index b : Nat} {wsy : List Cond} {rmy : Room} {As : List Value}
    (cw : CallB R s args own index y bytes maxL none wsy rmy mc ms n ∧ y.name = "<init>" ∧ (Cond.instanceMethod y).before args s = true) (ct : CY l y wsy rmy G tys (.ref b :: As) wc post mc ms)
    (hlen : As.length = n) (hls : ls.size = nL) (hst0 : st0 = As.reverse ++ .ref b :: rest) (hroom : (rest.map fun v => v.category).sum ≤ 8) (hf : cells + mc ≤ R.cells ∧ slots + ms ≤ R.slots) (hdg : decode cc pc = .ok (.invokespecial index, 3))
    (kk : ∀ (res : Option Value) (w1 : va_W) (H1 : Heap) (locs1 : List Loc), post res w1 → Hx s G A (wr ++ w1) H1 locs1 → W p l e R s m args below meth c H1 locs1 (cells + mc) (slots + ms) Q (F0 m (pc + 3) ls (res.toList ++ rest))) : W p l e R s m args below meth c H locs cells slots Q (F0 m pc ls st0) :=
  r_backY C h (va_runI C.fix (ct H.size) cw (r_preY (av := .ref b :: As) C h) rfl hlen hls hst0 (lv_room hroom) hdg hf) kk
theorem r_callINY (C : Cx p s m args c G tys A own cc Ts nL) (h : Hx s G A (wr ++ wc) H locs) {y : MethodName} {bytes : ByteArray} {maxL n index b : Nat} {wsy : List Cond} {rmy : Room} {As : List Value} {host : String}
    (cw : va_CN R s args own index y host bytes maxL none wsy rmy mc ms n ∧ y.name = "<init>" ∧ (Cond.instanceMethod y).before args s = true) (ct : CY l y wsy rmy G tys (.ref b :: As) wc post mc ms)
    (hlen : As.length = n) (hls : ls.size = nL) (hst0 : st0 = As.reverse ++ .ref b :: rest) (hroom : (rest.map fun v => v.category).sum ≤ 8) (hf : cells + mc ≤ R.cells ∧ slots + ms ≤ R.slots) (hdg : decode cc pc = .ok (.invokespecial index, 3))
    (kk : ∀ (res : Option Value) (w1 : va_W) (H1 : Heap) (locs1 : List Loc), post res w1 → Hx s G A (wr ++ w1) H1 locs1 → W p l e R s m args below meth c H1 locs1 (cells + mc) (slots + ms) Q (F0 m (pc + 3) ls (res.toList ++ rest))) : W p l e R s m args below meth c H locs cells slots Q (F0 m pc ls st0) :=
  r_backY C h (va_runIN C.fix (ct H.size) cw (r_preY (av := .ref b :: As) C h) rfl hlen hls hst0 (lv_room hroom) hdg hf) kk
-- ends
theorem y_vret (C : Cx p s m args c G tys A own cc Ts nL) (h : Hx s G A w H locs) (hp : post none w) (hr : meth.sig.returnType = none) (hlocks : meth.locks = false) (hdg : decode cc pc = .ok (.return_, 1)) : W p l e R s m args below meth c H locs cells slots (MQ below (Qy G post A) args s cells slots A) (F0 m pc ls []) :=
  W.vret C.hx C.hb hr (fun t ht hW => ⟨⟨none, w, rfl, hp, by rw [ht]; exact h.1, h.2.1⟩, h.2.2.F ht⟩) h.2.2.2.2 hdg hlocks
theorem y_iret (C : Cx p s m args c G tys A own cc Ts nL) (h : Hx s G A w H locs) {v : Int32} (hp : post (some (.int v)) w) (hr : meth.sig.returnType = some .int) (hlocks : meth.locks = false) (hdg : decode cc pc = .ok (.ireturn, 1)) : W p l e R s m args below meth c H locs cells slots (MQ below (Qy G post A) args s cells slots A) (F0 m pc ls [.int v]) :=
  W.iret (v := v) C.hx C.hb hr (fun t ht hW => ⟨⟨_, w, rfl, hp, by rw [ht]; exact h.1, h.2.1⟩, h.2.2.F ht⟩) h.2.2.2.2 hdg hlocks
end RowsY
theorem CY.of {l : Launch} {y : MethodName} {ws ws' : List Cond} {rm : Room} {G : va_G} {tys : List (ClassId × FieldType)} {av : List Value} {w : va_W} {post : Option Value → va_W → Prop} {mc ms : Nat} {cc : ByteArray} {maxL : Nat} {ret : Option FieldType} (own : String) (ho : y.cls = own) (hy : plainName y.cls = true) (hw : ws = Cond.code y cc maxL ret :: ws') (hlen : (lg_sl av).length ≤ maxL)
    (body : ∀ (p : Program) (e : Env) (s : State) (m : MethodId) (args : Array Value) (below : List Frame) (meth : Method) (c : Code) (A : Nat → Prop) (ls : Array Slot), Cx p s m args c G tys A own cc ws maxL → meth.sig.returnType = ret → meth.locks = false → meth.name = y.name → Hx s G A w s.heap [] → lv_has ls maxL (lv_args 0 av) → W p l e rm s m args below meth c s.heap [] 0 0 (MQ below (Qy G post A) args s mc ms A) (F0 m 0 ls [])) : CY l y ws rm G tys av w post mc ms := by
  subst ho
  intro sz
  refine Met.ofW (cc := cc) (maxL := maxL) (ret := ret) hy hw ?_
  intro p e s m args below meth c s₁ B hml hv
  obtain ⟨rfl, hsz, hP, hK, hD0, hSF, hNW⟩ := hv
  have hts := atoms_spec (ws := ws) B.pre
  have hown : s.vm.findClass y.cls = some m.cls := findClass_of_methodNamed B.named
  subst hsz
  have hl := lv_entry av (n := maxL) hlen
  rw [lg_entry_eq]
  exact body p e s m _ below meth c _ _ ⟨B.exec, B.bytes, hml, hown, hts, hK, hNW, fun q hq => Or.inr hq, hSF⟩ B.returns B.notSynchronized (name_of_methodNamed B.named B.method).1 ⟨hP, hD0.self, va_S.rf⟩ hl
end
section
def fL_lines_224 (nu : Nat → Int32) (qu : Nat → Int32) (pl : Int32) (hs : Int32) : Option (Int32) :=
  some (0)

def fL_lines_174 (nu : Nat → Int32) (qu : Nat → Int32) (pl : Int32) (hs : Int32) (x1 : Int32) : Option (Int32) :=
  (if x1 = 0 then
  fL_lines_224 nu qu pl hs
  else
  ob1 (fX4_count nu pl hs (2 : Int32)) fun r_1 =>
  ob1 (fX4_waiting nu qu r_1 (0 : Int32)) fun r_3 =>
  (if r_3 = (-1) then
  ob1 (fX4_count nu pl hs (9 : Int32)) fun r_5 =>
  ob1 (fX4_count nu pl hs (19 : Int32)) fun r_7 =>
  ob1 (fX4_count nu pl hs (8 : Int32)) fun r_9 =>
  ob1 (fX4_count nu pl hs (1 : Int32)) fun r_11 =>
  (if ((r_5 * r_7) + r_9) = r_11 then
  some (1)
  else
  fL_lines_224 nu qu pl hs)
  else
  fL_lines_224 nu qu pl hs))

def fL_lines_165 (nu : Nat → Int32) (qu : Nat → Int32) (pl : Int32) (hs : Int32) (x1 : Int32) (x3 : Int32) (x4 : Int32) : Option (Int32) :=
  nm (x3 + 1) fun x3_1 =>
  fL_lines_49 KF nu qu pl hs x1 x4 x3_1

def fL_lines_163 (nu : Nat → Int32) (qu : Nat → Int32) (pl : Int32) (hs : Int32) (x3 : Int32) (x4 : Int32) : Option (Int32) :=
  fL_lines_165 nu qu pl hs 0 x3 x4

def fL_lines_138 (nu : Nat → Int32) (qu : Nat → Int32) (pl : Int32) (hs : Int32) (x3 : Int32) (x4 : Int32) : Option (Int32) :=
  ob1 (fX4_waiting nu qu x3 (2 : Int32)) fun r_1 =>
  (if r_1 < 0 then
  fL_lines_163 nu qu pl hs x3 x4
  else
  ob1 (fX4_waiting nu qu x3 (2 : Int32)) fun r_3 =>
  (if 256 ≤ r_3 then
  fL_lines_163 nu qu pl hs x3 x4
  else
  fL_lines_165 nu qu pl hs 1 x3 x4))

def fL_lines_49_b (rec : (Nat → Int32) → (Nat → Int32) → Int32 → Int32 → Int32 → Int32 → Int32 → Option (Int32)) (nu : Nat → Int32) (qu : Nat → Int32) (pl : Int32) (hs : Int32) (x1 : Int32) (x2 : Int32) (x3 : Int32) : Option (Int32) :=
  ob1 (fX4_count nu pl hs (2 : Int32)) fun r_1 =>
  (if r_1 ≤ x3 then
  fL_lines_174 nu qu pl hs x1
  else
  (if x1 = 0 then
  fL_lines_174 nu qu pl hs x1
  else
  ob1 (fX4_waiting nu qu x3 (0 : Int32)) fun r_3 =>
  ob1 (fX4_count nu pl hs (19 : Int32)) fun r_5 =>
  ob1 (fX4_waiting nu qu x3 (1 : Int32)) fun r_7 =>
  nm (((r_3 * r_5) + r_7)) fun x4_9 =>
  (if x4_9 ≤ x2 then
  fL_lines_163 nu qu pl hs x3 x4_9
  else
  ob1 (fX4_count nu pl hs (1 : Int32)) fun r_10 =>
  (if r_10 ≤ x4_9 then
  fL_lines_163 nu qu pl hs x3 x4_9
  else
  ob1 (fX4_waiting nu qu x3 (1 : Int32)) fun r_12 =>
  ob1 (fX4_count nu pl hs (19 : Int32)) fun r_14 =>
  (if r_14 ≤ r_12 then
  fL_lines_163 nu qu pl hs x3 x4_9
  else
  ob1 (fX4_waiting nu qu x3 (3 : Int32)) fun r_16 =>
  (if 2 ≤ r_16 then
  fL_lines_163 nu qu pl hs x3 x4_9
  else
  (if x3 = 0 then
  fL_lines_138 nu qu pl hs x3 x4_9
  else
  ob1 (fX4_waiting nu qu x3 (3 : Int32)) fun r_18 =>
  (if r_18 = 0 then
  fL_lines_138 nu qu pl hs x3 x4_9
  else
  fL_lines_163 nu qu pl hs x3 x4_9))))))))
def fL_lines_49 : Nat → (Nat → Int32) → (Nat → Int32) → Int32 → Int32 → Int32 → Int32 → Int32 → Option (Int32)
  | 0 => fun _ _ _ _ _ _ _ => none
  | n + 1 => fL_lines_49_b (fL_lines_49 n)

def fL_lines_45 (nu : Nat → Int32) (qu : Nat → Int32) (pl : Int32) (hs : Int32) (x1 : Int32) : Option (Int32) :=
  nm (((-1) : Int32)) fun x2_1 =>
  fL_lines_49 KF nu qu pl hs x1 x2_1 0

def fL_lines_43 (nu : Nat → Int32) (qu : Nat → Int32) (pl : Int32) (hs : Int32) : Option (Int32) :=
  fL_lines_45 nu qu pl hs 0

/-- the mirror of L_lines -/
def fL_lines (nu : Nat → Int32) (qu : Nat → Int32) (pl : Int32) (hs : Int32) : Option (Int32) :=
  ob1 (fX4_count nu pl hs (1 : Int32)) fun r_1 =>
  ob1 (fX4_count nu pl hs (2 : Int32)) fun r_3 =>
  ob1 (fX4_count nu pl hs (3 : Int32)) fun r_5 =>
  ob1 (fX4_count nu pl hs (4 : Int32)) fun r_7 =>
  (if r_1 = ((r_3 + r_5) + r_7) then
  ob1 (fX4_count nu pl hs (2 : Int32)) fun r_9 =>
  ob1 (fX4_count nu pl hs (18 : Int32)) fun r_11 =>
  (if r_11 < r_9 then
  fL_lines_43 nu qu pl hs
  else
  fL_lines_45 nu qu pl hs 1)
  else
  fL_lines_43 nu qu pl hs)

def rm_L_lines : Room := { frames := 2, cells := 0, slots := 0, locals := 45 }
set_option maxRecDepth 20000 in
theorem cw_L_lines_X4_count_9 {s : State} {args : Array Value} (hts : ∀ w ∈ wsL_lines, w.before args s = true) : CallW rm_L_lines s args RL RX4 9 yX4_count cX4_count 2 (some .int) wsX4_count rm_X4_count 0 0 1 :=
  cwV 1 hts gL_lines_X4_count rfl rfl rfl (by decide +kernel) ⟨Nat.le_of_ble_eq_true rfl, Nat.le_of_ble_eq_true rfl⟩
set_option maxRecDepth 20000 in
theorem cw_L_lines_X4_waiting_15 {s : State} {args : Array Value} (hts : ∀ w ∈ wsL_lines, w.before args s = true) : CallW rm_L_lines s args RL RX4 15 yX4_waiting cX4_waiting 3 (some .int) wsX4_waiting rm_X4_waiting 0 0 2 :=
  cwV 2 hts gL_lines_X4_waiting rfl rfl rfl (by decide +kernel) ⟨Nat.le_of_ble_eq_true rfl, Nat.le_of_ble_eq_true rfl⟩
set_option maxHeartbeats 4000000 in
set_option maxRecDepth 100000 in
theorem c_L_lines (l : Launch) (G : va_G) (cI cC cZ : ClassId) (X : List (ClassId × FieldType)) (d0 b0 sl a0 a1 a2 a3 a4 a5 a6 a7 a8 p0 p1 h0 h1 : Nat) (nu : Nat → Int32) (va : Nat → Int32) (qu : Nat → Int32) (sc : Nat → Int32) (lo : Nat → Int32) (wt : Int32) (ch : Nat → Int32) (pl : Int32) (pa : Int32) (po : Int32) (pf : Int32) (ps : Int32) (ho : Int32) (hs : Int32) (rv : Int32) (hf : fL_lines nu qu pl hs = some (rv)) : CT l yL_lines wsL_lines rm_L_lines G (TY cI cC cZ X) [.ref d0] (wLDc cI cC d0 b0 sl a0 a1 a2 a3 a4 a5 a6 a7 a8 p0 p1 h0 h1 nu va qu sc lo wt ch pl pa po pf ps ho hs) (some (.int rv)) (wLDc cI cC d0 b0 sl a0 a1 a2 a3 a4 a5 a6 a7 a8 p0 p1 h0 h1 nu va qu sc lo wt ch pl pa po pf ps ho hs) := by
  refine CT.of (cc := cL_lines) (maxL := 5) (ret := (some .boolean)) RL rfl (by decide) rfl (Nat.le_of_ble_eq_true rfl) ?_
  intro p e s m args below meth c A ls C hr hlocks hnm h hl
  have hx := C.hx
  have hb := C.hb
  have hl : lv_has ls 5 [(0, .ref d0)] := hl
  have cut_224 : ∀ (H : Heap) (locs : List Loc) (ls : Array Slot), Hx s G A (wLDc cI cC d0 b0 sl a0 a1 a2 a3 a4 a5 a6 a7 a8 p0 p1 h0 h1 nu va qu sc lo wt ch pl pa po pf ps ho hs) H locs → lv_has ls 5 [] → fL_lines_224 nu qu pl hs = some (rv) → W p l e rm_L_lines s m args below meth c H locs 0 0 (MQ below (Qx G (some (.int rv)) (wLDc cI cC d0 b0 sl a0 a1 a2 a3 a4 a5 a6 a7 a8 p0 p1 h0 h1 nu va qu sc lo wt ch pl pa po pf ps ho hs) A) args s 0 0 A) (F0 m 224 ls []) := by
    intro H locs ls h hl hf
    unfold fL_lines_224 at hf
    refine lv_iconst (v := 0) hx hb dL_lines_224 (by decide) ?_
    cases hf
    exact r_zret C h hr hlocks rfl dL_lines_225
  have cut_174 : ∀ (x1 : Int32) (H : Heap) (locs : List Loc) (ls : Array Slot), Hx s G A (wLDc cI cC d0 b0 sl a0 a1 a2 a3 a4 a5 a6 a7 a8 p0 p1 h0 h1 nu va qu sc lo wt ch pl pa po pf ps ho hs) H locs → lv_has ls 5 [(0, .ref d0), (1, .int x1)] → fL_lines_174 nu qu pl hs x1 = some (rv) → W p l e rm_L_lines s m args below meth c H locs 0 0 (MQ below (Qx G (some (.int rv)) (wLDc cI cC d0 b0 sl a0 a1 a2 a3 a4 a5 a6 a7 a8 p0 p1 h0 h1 nu va qu sc lo wt ch pl pa po pf ps ho hs) A) args s 0 0 A) (F0 m 174 ls []) := by
    intro x1 H locs ls h hl hf
    unfold fL_lines_174 at hf
    refine lv_iload_n hx hb dL_lines_174 rfl (lv_at hl 1 rfl) ?_
    refine lv_if_eq (tgt := 224) hx hb dL_lines_175 (by decide) (fun hc => ?_) (fun hc => ?_)
    · replace hf := it_t hf hc
      exact cut_224 _ _ _ h (lv_sub hl [] rfl) hf
    · replace hf := it_f hf hc
      refine lv_aload_n hx hb dL_lines_178 rfl (lv_at hl 0 rfl) ?_
      refine lv_aload_n hx hb dL_lines_179 rfl (lv_at hl 0 rfl) ?_
      refine lv_iconst (v := 2) hx hb dL_lines_180 (by decide) ?_
      obtain ⟨r_1, hq_2, hf⟩ := ob1_use hf
      refine r_callV C h (cw_L_lines_X4_count_9 C.hts) (rest := [.ref d0]) (ci := 4) (N := 5) (Cn := RX4) (T := TX4) (c_X4_count l G cI cC cZ X d0 b0 sl a0 a1 a2 a3 a4 a5 a6 a7 a8 p0 p1 h0 h1 nu va qu sc lo wt ch pl pa po pf ps ho hs (2 : Int32) r_1 hq_2) [0, 1, 2, 3, 4, 5, 6, 7, 8, 9, 10, 11, 12] rfl rfl rfl rfl 0 rfl rfl hl.1 rfl (Nat.le_of_ble_eq_true rfl) ⟨Nat.le_of_ble_eq_true rfl, Nat.le_of_ble_eq_true rfl⟩ (wLDc cI cC d0 b0 sl a0 a1 a2 a3 a4 a5 a6 a7 a8 p0 p1 h0 h1 nu va qu sc lo wt ch pl pa po pf ps ho hs) rfl rfl dL_lines_181 (fun H locs h => ?_)
      refine lv_iconst (v := 0) hx hb dL_lines_184 (by decide) ?_
      obtain ⟨r_3, hq_4, hf⟩ := ob1_use hf
      refine r_callV C h (cw_L_lines_X4_waiting_15 C.hts) (rest := []) (ci := 4) (N := 5) (Cn := RX4) (T := TX4) (c_X4_waiting l G cI cC cZ X d0 b0 sl h0 p0 a0 a1 a2 a3 a4 a5 a6 a7 a8 nu va qu sc lo wt r_1 (0 : Int32) r_3 hq_4) [0, 1, 2, 3, 4, 5, 6, 7, 8, 9] rfl rfl rfl rfl 0 rfl rfl hl.1 rfl (Nat.le_of_ble_eq_true rfl) ⟨Nat.le_of_ble_eq_true rfl, Nat.le_of_ble_eq_true rfl⟩ (wLDc cI cC d0 b0 sl a0 a1 a2 a3 a4 a5 a6 a7 a8 p0 p1 h0 h1 nu va qu sc lo wt ch pl pa po pf ps ho hs) rfl rfl dL_lines_185 (fun H locs h => ?_)
      refine lv_iconst (v := (-1)) hx hb dL_lines_188 (by decide) ?_
      refine lv_icmp_ne (tgt := 224) hx hb dL_lines_189 (by decide) (fun hc => ?_) (fun hc => ?_)
      · replace hf := it_f hf hc
        exact cut_224 _ _ _ h (lv_sub hl [] rfl) hf
      · replace hf := it_t hf hc
        refine lv_aload_n hx hb dL_lines_192 rfl (lv_at hl 0 rfl) ?_
        refine lv_bipush (v := 9) hx hb dL_lines_193 (by decide) ?_
        obtain ⟨r_5, hq_6, hf⟩ := ob1_use hf
        refine r_callV C h (cw_L_lines_X4_count_9 C.hts) (rest := []) (ci := 4) (N := 5) (Cn := RX4) (T := TX4) (c_X4_count l G cI cC cZ X d0 b0 sl a0 a1 a2 a3 a4 a5 a6 a7 a8 p0 p1 h0 h1 nu va qu sc lo wt ch pl pa po pf ps ho hs (9 : Int32) r_5 hq_6) [0, 1, 2, 3, 4, 5, 6, 7, 8, 9, 10, 11, 12] rfl rfl rfl rfl 0 rfl rfl hl.1 rfl (Nat.le_of_ble_eq_true rfl) ⟨Nat.le_of_ble_eq_true rfl, Nat.le_of_ble_eq_true rfl⟩ (wLDc cI cC d0 b0 sl a0 a1 a2 a3 a4 a5 a6 a7 a8 p0 p1 h0 h1 nu va qu sc lo wt ch pl pa po pf ps ho hs) rfl rfl dL_lines_195 (fun H locs h => ?_)
        refine lv_aload_n hx hb dL_lines_198 rfl (lv_at hl 0 rfl) ?_
        refine lv_bipush (v := 19) hx hb dL_lines_199 (by decide) ?_
        obtain ⟨r_7, hq_8, hf⟩ := ob1_use hf
        refine r_callV C h (cw_L_lines_X4_count_9 C.hts) (rest := [.int r_5]) (ci := 4) (N := 5) (Cn := RX4) (T := TX4) (c_X4_count l G cI cC cZ X d0 b0 sl a0 a1 a2 a3 a4 a5 a6 a7 a8 p0 p1 h0 h1 nu va qu sc lo wt ch pl pa po pf ps ho hs (19 : Int32) r_7 hq_8) [0, 1, 2, 3, 4, 5, 6, 7, 8, 9, 10, 11, 12] rfl rfl rfl rfl 0 rfl rfl hl.1 rfl (Nat.le_of_ble_eq_true rfl) ⟨Nat.le_of_ble_eq_true rfl, Nat.le_of_ble_eq_true rfl⟩ (wLDc cI cC d0 b0 sl a0 a1 a2 a3 a4 a5 a6 a7 a8 p0 p1 h0 h1 nu va qu sc lo wt ch pl pa po pf ps ho hs) rfl rfl dL_lines_201 (fun H locs h => ?_)
        refine lv_imul hx hb dL_lines_204 ?_
        refine lv_aload_n hx hb dL_lines_205 rfl (lv_at hl 0 rfl) ?_
        refine lv_bipush (v := 8) hx hb dL_lines_206 (by decide) ?_
        obtain ⟨r_9, hq_10, hf⟩ := ob1_use hf
        refine r_callV C h (cw_L_lines_X4_count_9 C.hts) (rest := [.int (r_5 * r_7)]) (ci := 4) (N := 5) (Cn := RX4) (T := TX4) (c_X4_count l G cI cC cZ X d0 b0 sl a0 a1 a2 a3 a4 a5 a6 a7 a8 p0 p1 h0 h1 nu va qu sc lo wt ch pl pa po pf ps ho hs (8 : Int32) r_9 hq_10) [0, 1, 2, 3, 4, 5, 6, 7, 8, 9, 10, 11, 12] rfl rfl rfl rfl 0 rfl rfl hl.1 rfl (Nat.le_of_ble_eq_true rfl) ⟨Nat.le_of_ble_eq_true rfl, Nat.le_of_ble_eq_true rfl⟩ (wLDc cI cC d0 b0 sl a0 a1 a2 a3 a4 a5 a6 a7 a8 p0 p1 h0 h1 nu va qu sc lo wt ch pl pa po pf ps ho hs) rfl rfl dL_lines_208 (fun H locs h => ?_)
        refine lv_iadd hx hb dL_lines_211 ?_
        refine lv_aload_n hx hb dL_lines_212 rfl (lv_at hl 0 rfl) ?_
        refine lv_iconst (v := 1) hx hb dL_lines_213 (by decide) ?_
        obtain ⟨r_11, hq_12, hf⟩ := ob1_use hf
        refine r_callV C h (cw_L_lines_X4_count_9 C.hts) (rest := [.int ((r_5 * r_7) + r_9)]) (ci := 4) (N := 5) (Cn := RX4) (T := TX4) (c_X4_count l G cI cC cZ X d0 b0 sl a0 a1 a2 a3 a4 a5 a6 a7 a8 p0 p1 h0 h1 nu va qu sc lo wt ch pl pa po pf ps ho hs (1 : Int32) r_11 hq_12) [0, 1, 2, 3, 4, 5, 6, 7, 8, 9, 10, 11, 12] rfl rfl rfl rfl 0 rfl rfl hl.1 rfl (Nat.le_of_ble_eq_true rfl) ⟨Nat.le_of_ble_eq_true rfl, Nat.le_of_ble_eq_true rfl⟩ (wLDc cI cC d0 b0 sl a0 a1 a2 a3 a4 a5 a6 a7 a8 p0 p1 h0 h1 nu va qu sc lo wt ch pl pa po pf ps ho hs) rfl rfl dL_lines_214 (fun H locs h => ?_)
        refine lv_icmp_ne (tgt := 224) hx hb dL_lines_217 (by decide) (fun hc => ?_) (fun hc => ?_)
        · replace hf := it_f hf hc
          exact cut_224 _ _ _ h (lv_sub hl [] rfl) hf
        · replace hf := it_t hf hc
          refine lv_iconst (v := 1) hx hb dL_lines_220 (by decide) ?_
          refine lv_goto (tgt := 225) hx hb dL_lines_221 (by decide) ?_
          cases hf
          exact r_zret C h hr hlocks rfl dL_lines_225
  have cut_165 : ∀ (x1 : Int32) (x3 : Int32) (x4 : Int32) (H : Heap) (locs : List Loc) (ls : Array Slot), Hx s G A (wLDc cI cC d0 b0 sl a0 a1 a2 a3 a4 a5 a6 a7 a8 p0 p1 h0 h1 nu va qu sc lo wt ch pl pa po pf ps ho hs) H locs → lv_has ls 5 [(0, .ref d0), (1, .int x1), (3, .int x3), (4, .int x4)] → fL_lines_165 nu qu pl hs x1 x3 x4 = some (rv) → W p l e rm_L_lines s m args below meth c H locs 0 0 (MQ below (Qx G (some (.int rv)) (wLDc cI cC d0 b0 sl a0 a1 a2 a3 a4 a5 a6 a7 a8 p0 p1 h0 h1 nu va qu sc lo wt ch pl pa po pf ps ho hs) A) args s 0 0 A) (F0 m 165 ls []) := by
    intro x1 x3 x4 H locs ls h hl hf
    unfold fL_lines_165 at hf
    refine lv_iload hx hb dL_lines_165 (lv_at hl 3 rfl) ?_
    refine lv_istore_n (lv' := [(2, .int x4), (0, .ref d0), (1, .int x1), (3, .int x3), (4, .int x4)]) hx hb dL_lines_167 rfl hl (by decide) rfl (fun ls hl => ?_)
    obtain ⟨x3_1, ex3_1⟩ : ∃ y : Int32, y = x3 + 1 := ⟨_, rfl⟩
    replace hf := nm_use hf ex3_1
    refine lv_iinc (v := x3_1) (lv' := [(3, .int x3_1), (2, .int x4), (0, .ref d0), (1, .int x1), (4, .int x4)]) hx hb dL_lines_168 hl (k := 3) rfl (by rw [ex3_1]; rfl) (by decide) rfl (fun ls hl => ?_)
    refine lv_goto (tgt := 49) hx hb dL_lines_171 (by decide) ?_
    exact cut_49 KF x1 x4 x3_1 _ _ _ h (lv_sub hl [2, 3, 1, 0] rfl) hf
  have cut_163 : ∀ (x3 : Int32) (x4 : Int32) (H : Heap) (locs : List Loc) (ls : Array Slot), Hx s G A (wLDc cI cC d0 b0 sl a0 a1 a2 a3 a4 a5 a6 a7 a8 p0 p1 h0 h1 nu va qu sc lo wt ch pl pa po pf ps ho hs) H locs → lv_has ls 5 [(0, .ref d0), (3, .int x3), (4, .int x4)] → fL_lines_163 nu qu pl hs x3 x4 = some (rv) → W p l e rm_L_lines s m args below meth c H locs 0 0 (MQ below (Qx G (some (.int rv)) (wLDc cI cC d0 b0 sl a0 a1 a2 a3 a4 a5 a6 a7 a8 p0 p1 h0 h1 nu va qu sc lo wt ch pl pa po pf ps ho hs) A) args s 0 0 A) (F0 m 163 ls []) := by
    intro x3 x4 H locs ls h hl hf
    unfold fL_lines_163 at hf
    refine lv_iconst (v := 0) hx hb dL_lines_163 (by decide) ?_
    refine lv_istore_n (lv' := [(1, .int 0), (0, .ref d0), (3, .int x3), (4, .int x4)]) hx hb dL_lines_164 rfl hl (by decide) rfl (fun ls hl => ?_)
    exact cut_165 0 x3 x4 _ _ _ h (lv_sub hl [1, 0, 2, 3] rfl) hf
  have cut_138 : ∀ (x3 : Int32) (x4 : Int32) (H : Heap) (locs : List Loc) (ls : Array Slot), Hx s G A (wLDc cI cC d0 b0 sl a0 a1 a2 a3 a4 a5 a6 a7 a8 p0 p1 h0 h1 nu va qu sc lo wt ch pl pa po pf ps ho hs) H locs → lv_has ls 5 [(0, .ref d0), (3, .int x3), (4, .int x4)] → fL_lines_138 nu qu pl hs x3 x4 = some (rv) → W p l e rm_L_lines s m args below meth c H locs 0 0 (MQ below (Qx G (some (.int rv)) (wLDc cI cC d0 b0 sl a0 a1 a2 a3 a4 a5 a6 a7 a8 p0 p1 h0 h1 nu va qu sc lo wt ch pl pa po pf ps ho hs) A) args s 0 0 A) (F0 m 138 ls []) := by
    intro x3 x4 H locs ls h hl hf
    unfold fL_lines_138 at hf
    refine lv_aload_n hx hb dL_lines_138 rfl (lv_at hl 0 rfl) ?_
    refine lv_iload_n hx hb dL_lines_139 rfl (lv_at hl 1 rfl) ?_
    refine lv_iconst (v := 2) hx hb dL_lines_140 (by decide) ?_
    obtain ⟨r_1, hq_2, hf⟩ := ob1_use hf
    refine r_callV C h (cw_L_lines_X4_waiting_15 C.hts) (rest := []) (ci := 4) (N := 5) (Cn := RX4) (T := TX4) (c_X4_waiting l G cI cC cZ X d0 b0 sl h0 p0 a0 a1 a2 a3 a4 a5 a6 a7 a8 nu va qu sc lo wt x3 (2 : Int32) r_1 hq_2) [0, 1, 2, 3, 4, 5, 6, 7, 8, 9] rfl rfl rfl rfl 0 rfl rfl hl.1 rfl (Nat.le_of_ble_eq_true rfl) ⟨Nat.le_of_ble_eq_true rfl, Nat.le_of_ble_eq_true rfl⟩ (wLDc cI cC d0 b0 sl a0 a1 a2 a3 a4 a5 a6 a7 a8 p0 p1 h0 h1 nu va qu sc lo wt ch pl pa po pf ps ho hs) rfl rfl dL_lines_141 (fun H locs h => ?_)
    refine lv_if_lt (tgt := 163) hx hb dL_lines_144 (by decide) (fun hc => ?_) (fun hc => ?_)
    · replace hf := it_t hf hc
      exact cut_163 x3 x4 _ _ _ h (lv_sub hl [0, 1, 2] rfl) hf
    · replace hf := it_f hf hc
      refine lv_aload_n hx hb dL_lines_147 rfl (lv_at hl 0 rfl) ?_
      refine lv_iload_n hx hb dL_lines_148 rfl (lv_at hl 1 rfl) ?_
      refine lv_iconst (v := 2) hx hb dL_lines_149 (by decide) ?_
      obtain ⟨r_3, hq_4, hf⟩ := ob1_use hf
      refine r_callV C h (cw_L_lines_X4_waiting_15 C.hts) (rest := []) (ci := 4) (N := 5) (Cn := RX4) (T := TX4) (c_X4_waiting l G cI cC cZ X d0 b0 sl h0 p0 a0 a1 a2 a3 a4 a5 a6 a7 a8 nu va qu sc lo wt x3 (2 : Int32) r_3 hq_4) [0, 1, 2, 3, 4, 5, 6, 7, 8, 9] rfl rfl rfl rfl 0 rfl rfl hl.1 rfl (Nat.le_of_ble_eq_true rfl) ⟨Nat.le_of_ble_eq_true rfl, Nat.le_of_ble_eq_true rfl⟩ (wLDc cI cC d0 b0 sl a0 a1 a2 a3 a4 a5 a6 a7 a8 p0 p1 h0 h1 nu va qu sc lo wt ch pl pa po pf ps ho hs) rfl rfl dL_lines_150 (fun H locs h => ?_)
      refine lv_sipush (v := 256) hx hb dL_lines_153 (by decide) ?_
      refine lv_icmp_ge (tgt := 163) hx hb dL_lines_156 (by decide) (fun hc => ?_) (fun hc => ?_)
      · replace hf := it_t hf hc
        exact cut_163 x3 x4 _ _ _ h (lv_sub hl [0, 1, 2] rfl) hf
      · replace hf := it_f hf hc
        refine lv_iconst (v := 1) hx hb dL_lines_159 (by decide) ?_
        refine lv_goto (tgt := 164) hx hb dL_lines_160 (by decide) ?_
        refine lv_istore_n (lv' := [(1, .int 1), (0, .ref d0), (3, .int x3), (4, .int x4)]) hx hb dL_lines_164 rfl hl (by decide) rfl (fun ls hl => ?_)
        exact cut_165 1 x3 x4 _ _ _ h (lv_sub hl [1, 0, 2, 3] rfl) hf
  have cut_49 : ∀ (n : Nat) (x1 : Int32) (x2 : Int32) (x3 : Int32) (H : Heap) (locs : List Loc) (ls : Array Slot), Hx s G A (wLDc cI cC d0 b0 sl a0 a1 a2 a3 a4 a5 a6 a7 a8 p0 p1 h0 h1 nu va qu sc lo wt ch pl pa po pf ps ho hs) H locs → lv_has ls 5 [(0, .ref d0), (1, .int x1), (2, .int x2), (3, .int x3)] → fL_lines_49 n nu qu pl hs x1 x2 x3 = some (rv) → W p l e rm_L_lines s m args below meth c H locs 0 0 (MQ below (Qx G (some (.int rv)) (wLDc cI cC d0 b0 sl a0 a1 a2 a3 a4 a5 a6 a7 a8 p0 p1 h0 h1 nu va qu sc lo wt ch pl pa po pf ps ho hs) A) args s 0 0 A) (F0 m 49 ls []) := by
    intro n
    induction n with
    | zero =>
      intro x1 x2 x3 H locs ls h hl hf
      exact (nn_some _ hf).elim
    | succ n ih =>
      intro x1 x2 x3 H locs ls h hl hf
      have hf : fL_lines_49_b (fL_lines_49 n) nu qu pl hs x1 x2 x3 = some (rv) := hf
      unfold fL_lines_49_b at hf
      refine lv_iload_n hx hb dL_lines_49 rfl (lv_at hl 3 rfl) ?_
      refine lv_aload_n hx hb dL_lines_50 rfl (lv_at hl 0 rfl) ?_
      refine lv_iconst (v := 2) hx hb dL_lines_51 (by decide) ?_
      obtain ⟨r_1, hq_2, hf⟩ := ob1_use hf
      refine r_callV C h (cw_L_lines_X4_count_9 C.hts) (rest := [.int x3]) (ci := 4) (N := 5) (Cn := RX4) (T := TX4) (c_X4_count l G cI cC cZ X d0 b0 sl a0 a1 a2 a3 a4 a5 a6 a7 a8 p0 p1 h0 h1 nu va qu sc lo wt ch pl pa po pf ps ho hs (2 : Int32) r_1 hq_2) [0, 1, 2, 3, 4, 5, 6, 7, 8, 9, 10, 11, 12] rfl rfl rfl rfl 0 rfl rfl hl.1 rfl (Nat.le_of_ble_eq_true rfl) ⟨Nat.le_of_ble_eq_true rfl, Nat.le_of_ble_eq_true rfl⟩ (wLDc cI cC d0 b0 sl a0 a1 a2 a3 a4 a5 a6 a7 a8 p0 p1 h0 h1 nu va qu sc lo wt ch pl pa po pf ps ho hs) rfl rfl dL_lines_52 (fun H locs h => ?_)
      refine lv_icmp_ge (tgt := 174) hx hb dL_lines_55 (by decide) (fun hc => ?_) (fun hc => ?_)
      · replace hf := it_t hf hc
        exact cut_174 x1 _ _ _ h (lv_sub hl [0, 1] rfl) hf
      · replace hf := it_f hf hc
        refine lv_iload_n hx hb dL_lines_58 rfl (lv_at hl 1 rfl) ?_
        refine lv_if_eq (tgt := 174) hx hb dL_lines_59 (by decide) (fun hc => ?_) (fun hc => ?_)
        · replace hf := it_t hf hc
          exact cut_174 x1 _ _ _ h (lv_sub hl [0, 1] rfl) hf
        · replace hf := it_f hf hc
          refine lv_aload_n hx hb dL_lines_62 rfl (lv_at hl 0 rfl) ?_
          refine lv_iload_n hx hb dL_lines_63 rfl (lv_at hl 3 rfl) ?_
          refine lv_iconst (v := 0) hx hb dL_lines_64 (by decide) ?_
          obtain ⟨r_3, hq_4, hf⟩ := ob1_use hf
          refine r_callV C h (cw_L_lines_X4_waiting_15 C.hts) (rest := []) (ci := 4) (N := 5) (Cn := RX4) (T := TX4) (c_X4_waiting l G cI cC cZ X d0 b0 sl h0 p0 a0 a1 a2 a3 a4 a5 a6 a7 a8 nu va qu sc lo wt x3 (0 : Int32) r_3 hq_4) [0, 1, 2, 3, 4, 5, 6, 7, 8, 9] rfl rfl rfl rfl 0 rfl rfl hl.1 rfl (Nat.le_of_ble_eq_true rfl) ⟨Nat.le_of_ble_eq_true rfl, Nat.le_of_ble_eq_true rfl⟩ (wLDc cI cC d0 b0 sl a0 a1 a2 a3 a4 a5 a6 a7 a8 p0 p1 h0 h1 nu va qu sc lo wt ch pl pa po pf ps ho hs) rfl rfl dL_lines_65 (fun H locs h => ?_)
          refine lv_aload_n hx hb dL_lines_68 rfl (lv_at hl 0 rfl) ?_
          refine lv_bipush (v := 19) hx hb dL_lines_69 (by decide) ?_
          obtain ⟨r_5, hq_6, hf⟩ := ob1_use hf
          refine r_callV C h (cw_L_lines_X4_count_9 C.hts) (rest := [.int r_3]) (ci := 4) (N := 5) (Cn := RX4) (T := TX4) (c_X4_count l G cI cC cZ X d0 b0 sl a0 a1 a2 a3 a4 a5 a6 a7 a8 p0 p1 h0 h1 nu va qu sc lo wt ch pl pa po pf ps ho hs (19 : Int32) r_5 hq_6) [0, 1, 2, 3, 4, 5, 6, 7, 8, 9, 10, 11, 12] rfl rfl rfl rfl 0 rfl rfl hl.1 rfl (Nat.le_of_ble_eq_true rfl) ⟨Nat.le_of_ble_eq_true rfl, Nat.le_of_ble_eq_true rfl⟩ (wLDc cI cC d0 b0 sl a0 a1 a2 a3 a4 a5 a6 a7 a8 p0 p1 h0 h1 nu va qu sc lo wt ch pl pa po pf ps ho hs) rfl rfl dL_lines_71 (fun H locs h => ?_)
          refine lv_imul hx hb dL_lines_74 ?_
          refine lv_aload_n hx hb dL_lines_75 rfl (lv_at hl 0 rfl) ?_
          refine lv_iload_n hx hb dL_lines_76 rfl (lv_at hl 3 rfl) ?_
          refine lv_iconst (v := 1) hx hb dL_lines_77 (by decide) ?_
          obtain ⟨r_7, hq_8, hf⟩ := ob1_use hf
          refine r_callV C h (cw_L_lines_X4_waiting_15 C.hts) (rest := [.int (r_3 * r_5)]) (ci := 4) (N := 5) (Cn := RX4) (T := TX4) (c_X4_waiting l G cI cC cZ X d0 b0 sl h0 p0 a0 a1 a2 a3 a4 a5 a6 a7 a8 nu va qu sc lo wt x3 (1 : Int32) r_7 hq_8) [0, 1, 2, 3, 4, 5, 6, 7, 8, 9] rfl rfl rfl rfl 0 rfl rfl hl.1 rfl (Nat.le_of_ble_eq_true rfl) ⟨Nat.le_of_ble_eq_true rfl, Nat.le_of_ble_eq_true rfl⟩ (wLDc cI cC d0 b0 sl a0 a1 a2 a3 a4 a5 a6 a7 a8 p0 p1 h0 h1 nu va qu sc lo wt ch pl pa po pf ps ho hs) rfl rfl dL_lines_78 (fun H locs h => ?_)
          refine lv_iadd hx hb dL_lines_81 ?_
          refine lv_topi (fun x4_9 ex4_9 => ?_)
          replace hf := nm_use hf ex4_9
          refine lv_istore (lv' := [(4, .int x4_9), (0, .ref d0), (1, .int x1), (2, .int x2), (3, .int x3)]) hx hb dL_lines_82 hl (by decide) rfl (fun ls hl => ?_)
          refine lv_iload hx hb dL_lines_84 (lv_at hl 0 rfl) ?_
          refine lv_iload_n hx hb dL_lines_86 rfl (lv_at hl 3 rfl) ?_
          refine lv_icmp_le (tgt := 163) hx hb dL_lines_87 (by decide) (fun hc => ?_) (fun hc => ?_)
          · replace hf := it_t hf hc
            exact cut_163 x3 x4_9 _ _ _ h (lv_sub hl [1, 4, 0] rfl) hf
          · replace hf := it_f hf hc
            refine lv_iload hx hb dL_lines_90 (lv_at hl 0 rfl) ?_
            refine lv_aload_n hx hb dL_lines_92 rfl (lv_at hl 1 rfl) ?_
            refine lv_iconst (v := 1) hx hb dL_lines_93 (by decide) ?_
            obtain ⟨r_10, hq_11, hf⟩ := ob1_use hf
            refine r_callV C h (cw_L_lines_X4_count_9 C.hts) (rest := [.int x4_9]) (ci := 4) (N := 5) (Cn := RX4) (T := TX4) (c_X4_count l G cI cC cZ X d0 b0 sl a0 a1 a2 a3 a4 a5 a6 a7 a8 p0 p1 h0 h1 nu va qu sc lo wt ch pl pa po pf ps ho hs (1 : Int32) r_10 hq_11) [0, 1, 2, 3, 4, 5, 6, 7, 8, 9, 10, 11, 12] rfl rfl rfl rfl 0 rfl rfl hl.1 rfl (Nat.le_of_ble_eq_true rfl) ⟨Nat.le_of_ble_eq_true rfl, Nat.le_of_ble_eq_true rfl⟩ (wLDc cI cC d0 b0 sl a0 a1 a2 a3 a4 a5 a6 a7 a8 p0 p1 h0 h1 nu va qu sc lo wt ch pl pa po pf ps ho hs) rfl rfl dL_lines_94 (fun H locs h => ?_)
            refine lv_icmp_ge (tgt := 163) hx hb dL_lines_97 (by decide) (fun hc => ?_) (fun hc => ?_)
            · replace hf := it_t hf hc
              exact cut_163 x3 x4_9 _ _ _ h (lv_sub hl [1, 4, 0] rfl) hf
            · replace hf := it_f hf hc
              refine lv_aload_n hx hb dL_lines_100 rfl (lv_at hl 1 rfl) ?_
              refine lv_iload_n hx hb dL_lines_101 rfl (lv_at hl 4 rfl) ?_
              refine lv_iconst (v := 1) hx hb dL_lines_102 (by decide) ?_
              obtain ⟨r_12, hq_13, hf⟩ := ob1_use hf
              refine r_callV C h (cw_L_lines_X4_waiting_15 C.hts) (rest := []) (ci := 4) (N := 5) (Cn := RX4) (T := TX4) (c_X4_waiting l G cI cC cZ X d0 b0 sl h0 p0 a0 a1 a2 a3 a4 a5 a6 a7 a8 nu va qu sc lo wt x3 (1 : Int32) r_12 hq_13) [0, 1, 2, 3, 4, 5, 6, 7, 8, 9] rfl rfl rfl rfl 0 rfl rfl hl.1 rfl (Nat.le_of_ble_eq_true rfl) ⟨Nat.le_of_ble_eq_true rfl, Nat.le_of_ble_eq_true rfl⟩ (wLDc cI cC d0 b0 sl a0 a1 a2 a3 a4 a5 a6 a7 a8 p0 p1 h0 h1 nu va qu sc lo wt ch pl pa po pf ps ho hs) rfl rfl dL_lines_103 (fun H locs h => ?_)
              refine lv_aload_n hx hb dL_lines_106 rfl (lv_at hl 1 rfl) ?_
              refine lv_bipush (v := 19) hx hb dL_lines_107 (by decide) ?_
              obtain ⟨r_14, hq_15, hf⟩ := ob1_use hf
              refine r_callV C h (cw_L_lines_X4_count_9 C.hts) (rest := [.int r_12]) (ci := 4) (N := 5) (Cn := RX4) (T := TX4) (c_X4_count l G cI cC cZ X d0 b0 sl a0 a1 a2 a3 a4 a5 a6 a7 a8 p0 p1 h0 h1 nu va qu sc lo wt ch pl pa po pf ps ho hs (19 : Int32) r_14 hq_15) [0, 1, 2, 3, 4, 5, 6, 7, 8, 9, 10, 11, 12] rfl rfl rfl rfl 0 rfl rfl hl.1 rfl (Nat.le_of_ble_eq_true rfl) ⟨Nat.le_of_ble_eq_true rfl, Nat.le_of_ble_eq_true rfl⟩ (wLDc cI cC d0 b0 sl a0 a1 a2 a3 a4 a5 a6 a7 a8 p0 p1 h0 h1 nu va qu sc lo wt ch pl pa po pf ps ho hs) rfl rfl dL_lines_109 (fun H locs h => ?_)
              refine lv_icmp_ge (tgt := 163) hx hb dL_lines_112 (by decide) (fun hc => ?_) (fun hc => ?_)
              · replace hf := it_t hf hc
                exact cut_163 x3 x4_9 _ _ _ h (lv_sub hl [1, 4, 0] rfl) hf
              · replace hf := it_f hf hc
                refine lv_aload_n hx hb dL_lines_115 rfl (lv_at hl 1 rfl) ?_
                refine lv_iload_n hx hb dL_lines_116 rfl (lv_at hl 4 rfl) ?_
                refine lv_iconst (v := 3) hx hb dL_lines_117 (by decide) ?_
                obtain ⟨r_16, hq_17, hf⟩ := ob1_use hf
                refine r_callV C h (cw_L_lines_X4_waiting_15 C.hts) (rest := []) (ci := 4) (N := 5) (Cn := RX4) (T := TX4) (c_X4_waiting l G cI cC cZ X d0 b0 sl h0 p0 a0 a1 a2 a3 a4 a5 a6 a7 a8 nu va qu sc lo wt x3 (3 : Int32) r_16 hq_17) [0, 1, 2, 3, 4, 5, 6, 7, 8, 9] rfl rfl rfl rfl 0 rfl rfl hl.1 rfl (Nat.le_of_ble_eq_true rfl) ⟨Nat.le_of_ble_eq_true rfl, Nat.le_of_ble_eq_true rfl⟩ (wLDc cI cC d0 b0 sl a0 a1 a2 a3 a4 a5 a6 a7 a8 p0 p1 h0 h1 nu va qu sc lo wt ch pl pa po pf ps ho hs) rfl rfl dL_lines_118 (fun H locs h => ?_)
                refine lv_iconst (v := 2) hx hb dL_lines_121 (by decide) ?_
                refine lv_icmp_ge (tgt := 163) hx hb dL_lines_122 (by decide) (fun hc => ?_) (fun hc => ?_)
                · replace hf := it_t hf hc
                  exact cut_163 x3 x4_9 _ _ _ h (lv_sub hl [1, 4, 0] rfl) hf
                · replace hf := it_f hf hc
                  refine lv_iload_n hx hb dL_lines_125 rfl (lv_at hl 4 rfl) ?_
                  refine lv_if_eq (tgt := 138) hx hb dL_lines_126 (by decide) (fun hc => ?_) (fun hc => ?_)
                  · replace hf := it_t hf hc
                    exact cut_138 x3 x4_9 _ _ _ h (lv_sub hl [1, 4, 0] rfl) hf
                  · replace hf := it_f hf hc
                    refine lv_aload_n hx hb dL_lines_129 rfl (lv_at hl 1 rfl) ?_
                    refine lv_iload_n hx hb dL_lines_130 rfl (lv_at hl 4 rfl) ?_
                    refine lv_iconst (v := 3) hx hb dL_lines_131 (by decide) ?_
                    obtain ⟨r_18, hq_19, hf⟩ := ob1_use hf
                    refine r_callV C h (cw_L_lines_X4_waiting_15 C.hts) (rest := []) (ci := 4) (N := 5) (Cn := RX4) (T := TX4) (c_X4_waiting l G cI cC cZ X d0 b0 sl h0 p0 a0 a1 a2 a3 a4 a5 a6 a7 a8 nu va qu sc lo wt x3 (3 : Int32) r_18 hq_19) [0, 1, 2, 3, 4, 5, 6, 7, 8, 9] rfl rfl rfl rfl 0 rfl rfl hl.1 rfl (Nat.le_of_ble_eq_true rfl) ⟨Nat.le_of_ble_eq_true rfl, Nat.le_of_ble_eq_true rfl⟩ (wLDc cI cC d0 b0 sl a0 a1 a2 a3 a4 a5 a6 a7 a8 p0 p1 h0 h1 nu va qu sc lo wt ch pl pa po pf ps ho hs) rfl rfl dL_lines_132 (fun H locs h => ?_)
                    refine lv_if_ne (tgt := 163) hx hb dL_lines_135 (by decide) (fun hc => ?_) (fun hc => ?_)
                    · replace hf := it_f hf hc
                      exact cut_163 x3 x4_9 _ _ _ h (lv_sub hl [1, 4, 0] rfl) hf
                    · replace hf := it_t hf hc
                      exact cut_138 x3 x4_9 _ _ _ h (lv_sub hl [1, 4, 0] rfl) hf
  have cut_45 : ∀ (x1 : Int32) (H : Heap) (locs : List Loc) (ls : Array Slot), Hx s G A (wLDc cI cC d0 b0 sl a0 a1 a2 a3 a4 a5 a6 a7 a8 p0 p1 h0 h1 nu va qu sc lo wt ch pl pa po pf ps ho hs) H locs → lv_has ls 5 [(0, .ref d0), (1, .int x1)] → fL_lines_45 nu qu pl hs x1 = some (rv) → W p l e rm_L_lines s m args below meth c H locs 0 0 (MQ below (Qx G (some (.int rv)) (wLDc cI cC d0 b0 sl a0 a1 a2 a3 a4 a5 a6 a7 a8 p0 p1 h0 h1 nu va qu sc lo wt ch pl pa po pf ps ho hs) A) args s 0 0 A) (F0 m 45 ls []) := by
    intro x1 H locs ls h hl hf
    unfold fL_lines_45 at hf
    refine lv_iconst (v := (-1)) hx hb dL_lines_45 (by decide) ?_
    refine lv_topi (fun x2_1 ex2_1 => ?_)
    replace hf := nm_use hf ex2_1
    refine lv_istore_n (lv' := [(2, .int x2_1), (0, .ref d0), (1, .int x1)]) hx hb dL_lines_46 rfl hl (by decide) rfl (fun ls hl => ?_)
    refine lv_iconst (v := 0) hx hb dL_lines_47 (by decide) ?_
    refine lv_istore_n (lv' := [(3, .int 0), (2, .int x2_1), (0, .ref d0), (1, .int x1)]) hx hb dL_lines_48 rfl hl (by decide) rfl (fun ls hl => ?_)
    exact cut_49 KF x1 x2_1 0 _ _ _ h (lv_sub hl [2, 3, 1, 0] rfl) hf
  have cut_43 : ∀ (H : Heap) (locs : List Loc) (ls : Array Slot), Hx s G A (wLDc cI cC d0 b0 sl a0 a1 a2 a3 a4 a5 a6 a7 a8 p0 p1 h0 h1 nu va qu sc lo wt ch pl pa po pf ps ho hs) H locs → lv_has ls 5 [(0, .ref d0)] → fL_lines_43 nu qu pl hs = some (rv) → W p l e rm_L_lines s m args below meth c H locs 0 0 (MQ below (Qx G (some (.int rv)) (wLDc cI cC d0 b0 sl a0 a1 a2 a3 a4 a5 a6 a7 a8 p0 p1 h0 h1 nu va qu sc lo wt ch pl pa po pf ps ho hs) A) args s 0 0 A) (F0 m 43 ls []) := by
    intro H locs ls h hl hf
    unfold fL_lines_43 at hf
    refine lv_iconst (v := 0) hx hb dL_lines_43 (by decide) ?_
    refine lv_istore_n (lv' := [(1, .int 0), (0, .ref d0)]) hx hb dL_lines_44 rfl hl (by decide) rfl (fun ls hl => ?_)
    exact cut_45 0 _ _ _ h (lv_sub hl [1, 0] rfl) hf
  unfold fL_lines at hf
  refine lv_aload_n hx hb dL_lines_0 rfl (lv_at hl 0 rfl) ?_
  refine lv_iconst (v := 1) hx hb dL_lines_1 (by decide) ?_
  obtain ⟨r_1, hq_2, hf⟩ := ob1_use hf
  refine r_callV C h (cw_L_lines_X4_count_9 C.hts) (rest := []) (ci := 4) (N := 5) (Cn := RX4) (T := TX4) (c_X4_count l G cI cC cZ X d0 b0 sl a0 a1 a2 a3 a4 a5 a6 a7 a8 p0 p1 h0 h1 nu va qu sc lo wt ch pl pa po pf ps ho hs (1 : Int32) r_1 hq_2) [0, 1, 2, 3, 4, 5, 6, 7, 8, 9, 10, 11, 12] rfl rfl rfl rfl 0 rfl rfl hl.1 rfl (Nat.le_of_ble_eq_true rfl) ⟨Nat.le_of_ble_eq_true rfl, Nat.le_of_ble_eq_true rfl⟩ (wLDc cI cC d0 b0 sl a0 a1 a2 a3 a4 a5 a6 a7 a8 p0 p1 h0 h1 nu va qu sc lo wt ch pl pa po pf ps ho hs) rfl rfl dL_lines_2 (fun H locs h => ?_)
  refine lv_aload_n hx hb dL_lines_5 rfl (lv_at hl 0 rfl) ?_
  refine lv_iconst (v := 2) hx hb dL_lines_6 (by decide) ?_
  obtain ⟨r_3, hq_4, hf⟩ := ob1_use hf
  refine r_callV C h (cw_L_lines_X4_count_9 C.hts) (rest := [.int r_1]) (ci := 4) (N := 5) (Cn := RX4) (T := TX4) (c_X4_count l G cI cC cZ X d0 b0 sl a0 a1 a2 a3 a4 a5 a6 a7 a8 p0 p1 h0 h1 nu va qu sc lo wt ch pl pa po pf ps ho hs (2 : Int32) r_3 hq_4) [0, 1, 2, 3, 4, 5, 6, 7, 8, 9, 10, 11, 12] rfl rfl rfl rfl 0 rfl rfl hl.1 rfl (Nat.le_of_ble_eq_true rfl) ⟨Nat.le_of_ble_eq_true rfl, Nat.le_of_ble_eq_true rfl⟩ (wLDc cI cC d0 b0 sl a0 a1 a2 a3 a4 a5 a6 a7 a8 p0 p1 h0 h1 nu va qu sc lo wt ch pl pa po pf ps ho hs) rfl rfl dL_lines_7 (fun H locs h => ?_)
  refine lv_aload_n hx hb dL_lines_10 rfl (lv_at hl 0 rfl) ?_
  refine lv_iconst (v := 3) hx hb dL_lines_11 (by decide) ?_
  obtain ⟨r_5, hq_6, hf⟩ := ob1_use hf
  refine r_callV C h (cw_L_lines_X4_count_9 C.hts) (rest := [.int r_3, .int r_1]) (ci := 4) (N := 5) (Cn := RX4) (T := TX4) (c_X4_count l G cI cC cZ X d0 b0 sl a0 a1 a2 a3 a4 a5 a6 a7 a8 p0 p1 h0 h1 nu va qu sc lo wt ch pl pa po pf ps ho hs (3 : Int32) r_5 hq_6) [0, 1, 2, 3, 4, 5, 6, 7, 8, 9, 10, 11, 12] rfl rfl rfl rfl 0 rfl rfl hl.1 rfl (Nat.le_of_ble_eq_true rfl) ⟨Nat.le_of_ble_eq_true rfl, Nat.le_of_ble_eq_true rfl⟩ (wLDc cI cC d0 b0 sl a0 a1 a2 a3 a4 a5 a6 a7 a8 p0 p1 h0 h1 nu va qu sc lo wt ch pl pa po pf ps ho hs) rfl rfl dL_lines_12 (fun H locs h => ?_)
  refine lv_iadd hx hb dL_lines_15 ?_
  refine lv_aload_n hx hb dL_lines_16 rfl (lv_at hl 0 rfl) ?_
  refine lv_iconst (v := 4) hx hb dL_lines_17 (by decide) ?_
  obtain ⟨r_7, hq_8, hf⟩ := ob1_use hf
  refine r_callV C h (cw_L_lines_X4_count_9 C.hts) (rest := [.int (r_3 + r_5), .int r_1]) (ci := 4) (N := 5) (Cn := RX4) (T := TX4) (c_X4_count l G cI cC cZ X d0 b0 sl a0 a1 a2 a3 a4 a5 a6 a7 a8 p0 p1 h0 h1 nu va qu sc lo wt ch pl pa po pf ps ho hs (4 : Int32) r_7 hq_8) [0, 1, 2, 3, 4, 5, 6, 7, 8, 9, 10, 11, 12] rfl rfl rfl rfl 0 rfl rfl hl.1 rfl (Nat.le_of_ble_eq_true rfl) ⟨Nat.le_of_ble_eq_true rfl, Nat.le_of_ble_eq_true rfl⟩ (wLDc cI cC d0 b0 sl a0 a1 a2 a3 a4 a5 a6 a7 a8 p0 p1 h0 h1 nu va qu sc lo wt ch pl pa po pf ps ho hs) rfl rfl dL_lines_18 (fun H locs h => ?_)
  refine lv_iadd hx hb dL_lines_21 ?_
  refine lv_icmp_ne (tgt := 43) hx hb dL_lines_22 (by decide) (fun hc => ?_) (fun hc => ?_)
  · replace hf := it_f hf hc
    exact cut_43 _ _ _ h (lv_sub hl [0] rfl) hf
  · replace hf := it_t hf hc
    refine lv_aload_n hx hb dL_lines_25 rfl (lv_at hl 0 rfl) ?_
    refine lv_iconst (v := 2) hx hb dL_lines_26 (by decide) ?_
    obtain ⟨r_9, hq_10, hf⟩ := ob1_use hf
    refine r_callV C h (cw_L_lines_X4_count_9 C.hts) (rest := []) (ci := 4) (N := 5) (Cn := RX4) (T := TX4) (c_X4_count l G cI cC cZ X d0 b0 sl a0 a1 a2 a3 a4 a5 a6 a7 a8 p0 p1 h0 h1 nu va qu sc lo wt ch pl pa po pf ps ho hs (2 : Int32) r_9 hq_10) [0, 1, 2, 3, 4, 5, 6, 7, 8, 9, 10, 11, 12] rfl rfl rfl rfl 0 rfl rfl hl.1 rfl (Nat.le_of_ble_eq_true rfl) ⟨Nat.le_of_ble_eq_true rfl, Nat.le_of_ble_eq_true rfl⟩ (wLDc cI cC d0 b0 sl a0 a1 a2 a3 a4 a5 a6 a7 a8 p0 p1 h0 h1 nu va qu sc lo wt ch pl pa po pf ps ho hs) rfl rfl dL_lines_27 (fun H locs h => ?_)
    refine lv_aload_n hx hb dL_lines_30 rfl (lv_at hl 0 rfl) ?_
    refine lv_bipush (v := 18) hx hb dL_lines_31 (by decide) ?_
    obtain ⟨r_11, hq_12, hf⟩ := ob1_use hf
    refine r_callV C h (cw_L_lines_X4_count_9 C.hts) (rest := [.int r_9]) (ci := 4) (N := 5) (Cn := RX4) (T := TX4) (c_X4_count l G cI cC cZ X d0 b0 sl a0 a1 a2 a3 a4 a5 a6 a7 a8 p0 p1 h0 h1 nu va qu sc lo wt ch pl pa po pf ps ho hs (18 : Int32) r_11 hq_12) [0, 1, 2, 3, 4, 5, 6, 7, 8, 9, 10, 11, 12] rfl rfl rfl rfl 0 rfl rfl hl.1 rfl (Nat.le_of_ble_eq_true rfl) ⟨Nat.le_of_ble_eq_true rfl, Nat.le_of_ble_eq_true rfl⟩ (wLDc cI cC d0 b0 sl a0 a1 a2 a3 a4 a5 a6 a7 a8 p0 p1 h0 h1 nu va qu sc lo wt ch pl pa po pf ps ho hs) rfl rfl dL_lines_33 (fun H locs h => ?_)
    refine lv_icmp_gt (tgt := 43) hx hb dL_lines_36 (by decide) (fun hc => ?_) (fun hc => ?_)
    · replace hf := it_t hf hc
      exact cut_43 _ _ _ h (lv_sub hl [0] rfl) hf
    · replace hf := it_f hf hc
      refine lv_iconst (v := 1) hx hb dL_lines_39 (by decide) ?_
      refine lv_goto (tgt := 44) hx hb dL_lines_40 (by decide) ?_
      refine lv_istore_n (lv' := [(1, .int 1), (0, .ref d0)]) hx hb dL_lines_44 rfl hl (by decide) rfl (fun ls hl => ?_)
      exact cut_45 1 _ _ _ h (lv_sub hl [1, 0] rfl) hf
end
section
def fL_rows_465 (nu : Nat → Int32) (qu : Nat → Int32) (sc : Nat → Int32) (lo : Nat → Int32) (pl : Int32) (hs : Int32) : Option (Int32) :=
  some (0)

def fL_rows_408 (nu : Nat → Int32) (qu : Nat → Int32) (sc : Nat → Int32) (lo : Nat → Int32) (pl : Int32) (hs : Int32) (x3 : Int32) (x5 : Int32) (x6 : Int32) (x8 : Int32) : Option (Int32) :=
  (if x5 = 0 then
  fL_rows_465 nu qu sc lo pl hs
  else
  ob1 (fX4_shown nu sc) fun r_1 =>
  (if r_1 = x6 then
  ob1 (fX4_ofMissing nu lo x8 (0 : Int32)) fun r_3 =>
  (if r_3 = (-1) then
  ob1 (fX4_count nu pl hs (15 : Int32)) fun r_5 =>
  (if r_5 = (-6) then
  (if x3 = 0 then
  some (1)
  else
  fL_rows_465 nu qu sc lo pl hs)
  else
  (if x3 = 0 then
  fL_rows_465 nu qu sc lo pl hs
  else
  some (1)))
  else
  fL_rows_465 nu qu sc lo pl hs)
  else
  fL_rows_465 nu qu sc lo pl hs))

def fL_rows_393 (nu : Nat → Int32) (qu : Nat → Int32) (sc : Nat → Int32) (lo : Nat → Int32) (pl : Int32) (hs : Int32) (x3 : Int32) (x5 : Int32) (x6 : Int32) (x8 : Int32) (x10 : Int32) : Option (Int32) :=
  ob1 (fX4_ofMissing nu lo x10 (3 : Int32)) fun r_1 =>
  nm (x10 + 1) fun x10_3 =>
  fL_rows_311 KF nu qu sc lo pl hs x3 x5 x6 x8 r_1 x10_3

def fL_rows_390 (nu : Nat → Int32) (qu : Nat → Int32) (sc : Nat → Int32) (lo : Nat → Int32) (pl : Int32) (hs : Int32) (x3 : Int32) (x6 : Int32) (x8 : Int32) (x10 : Int32) : Option (Int32) :=
  fL_rows_393 nu qu sc lo pl hs x3 0 x6 x8 x10

def fL_rows_311_b (rec : (Nat → Int32) → (Nat → Int32) → (Nat → Int32) → (Nat → Int32) → Int32 → Int32 → Int32 → Int32 → Int32 → Int32 → Int32 → Int32 → Option (Int32)) (nu : Nat → Int32) (qu : Nat → Int32) (sc : Nat → Int32) (lo : Nat → Int32) (pl : Int32) (hs : Int32) (x3 : Int32) (x5 : Int32) (x6 : Int32) (x8 : Int32) (x9 : Int32) (x10 : Int32) : Option (Int32) :=
  (if x8 ≤ x10 then
  fL_rows_408 nu qu sc lo pl hs x3 x5 x6 x8
  else
  (if x5 = 0 then
  fL_rows_408 nu qu sc lo pl hs x3 x5 x6 x8
  else
  ob1 (fX4_ofMissing nu lo x10 (3 : Int32)) fun r_1 =>
  (if x9 < r_1 then
  fL_rows_390 nu qu sc lo pl hs x3 x6 x8 x10
  else
  ob1 (fX4_ofMissing nu lo x10 (2 : Int32)) fun r_3 =>
  (if r_3 < 0 then
  fL_rows_390 nu qu sc lo pl hs x3 x6 x8 x10
  else
  ob1 (fX4_ofMissing nu lo x10 (2 : Int32)) fun r_5 =>
  (if 3 ≤ r_5 then
  fL_rows_390 nu qu sc lo pl hs x3 x6 x8 x10
  else
  ob1 (fX4_ofMissing nu lo x10 (0 : Int32)) fun r_7 =>
  ob1 (fX4_count nu pl hs (19 : Int32)) fun r_9 =>
  ob1 (fX4_ofMissing nu lo x10 (1 : Int32)) fun r_11 =>
  ob1 (fX4_count nu pl hs (1 : Int32)) fun r_13 =>
  (if r_13 ≤ ((r_7 * r_9) + r_11) then
  fL_rows_390 nu qu sc lo pl hs x3 x6 x8 x10
  else
  fL_rows_393 nu qu sc lo pl hs x3 1 x6 x8 x10))))))
def fL_rows_311 : Nat → (Nat → Int32) → (Nat → Int32) → (Nat → Int32) → (Nat → Int32) → Int32 → Int32 → Int32 → Int32 → Int32 → Int32 → Int32 → Int32 → Option (Int32)
  | 0 => fun _ _ _ _ _ _ _ _ _ _ _ _ => none
  | n + 1 => fL_rows_311_b (fL_rows_311 n)

def fL_rows_301 (nu : Nat → Int32) (qu : Nat → Int32) (sc : Nat → Int32) (lo : Nat → Int32) (pl : Int32) (hs : Int32) (x3 : Int32) (x5 : Int32) (x6 : Int32) (x8 : Int32) : Option (Int32) :=
  ob1 (fX4_count nu pl hs (0 : Int32)) fun r_1 =>
  fL_rows_311 KF nu qu sc lo pl hs x3 x5 x6 x8 r_1 0

def fL_rows_279 (nu : Nat → Int32) (qu : Nat → Int32) (sc : Nat → Int32) (lo : Nat → Int32) (pl : Int32) (hs : Int32) (x3 : Int32) (x5 : Int32) (x6 : Int32) : Option (Int32) :=
  ob1 (fX4_count nu pl hs (4 : Int32)) fun r_1 =>
  (if 8 ≤ r_1 then
  fL_rows_301 nu qu sc lo pl hs x3 x5 x6 8
  else
  ob1 (fX4_count nu pl hs (4 : Int32)) fun r_3 =>
  fL_rows_301 nu qu sc lo pl hs x3 x5 x6 r_3)

def fL_rows_273 (nu : Nat → Int32) (qu : Nat → Int32) (sc : Nat → Int32) (lo : Nat → Int32) (pl : Int32) (hs : Int32) (x1 : Int32) (x3 : Int32) (x5 : Int32) (x6 : Int32) (x7 : Int32) (x8 : Int32) : Option (Int32) :=
  nm (x8 + 1) fun x8_1 =>
  fL_rows_136 KF nu qu sc lo pl hs x1 x3 x5 x6 x7 x8_1

def fL_rows_258 (nu : Nat → Int32) (qu : Nat → Int32) (sc : Nat → Int32) (lo : Nat → Int32) (pl : Int32) (hs : Int32) (x1 : Int32) (x3 : Int32) (x5 : Int32) (x6 : Int32) (x7 : Int32) (x8 : Int32) : Option (Int32) :=
  (if x7 = 0 then
  nm ((x6 + 0)) fun x6_1 =>
  fL_rows_273 nu qu sc lo pl hs x1 x3 x5 x6_1 x7 x8
  else
  nm ((x6 + 1)) fun x6_2 =>
  fL_rows_273 nu qu sc lo pl hs x1 x3 x5 x6_2 x7 x8)

def fL_rows_255 (nu : Nat → Int32) (qu : Nat → Int32) (sc : Nat → Int32) (lo : Nat → Int32) (pl : Int32) (hs : Int32) (x1 : Int32) (x3 : Int32) (x5 : Int32) (x6 : Int32) (x8 : Int32) : Option (Int32) :=
  fL_rows_258 nu qu sc lo pl hs x1 x3 x5 x6 0 x8

def fL_rows_241 (nu : Nat → Int32) (qu : Nat → Int32) (sc : Nat → Int32) (lo : Nat → Int32) (pl : Int32) (hs : Int32) (x1 : Int32) (x3 : Int32) (x5 : Int32) (x6 : Int32) (x7 : Int32) (x8 : Int32) (x9 : Int32) : Option (Int32) :=
  (if x7 = 0 then
  fL_rows_255 nu qu sc lo pl hs x1 x3 x5 x6 x8
  else
  (if x9 = 0 then
  fL_rows_255 nu qu sc lo pl hs x1 x3 x5 x6 x8
  else
  fL_rows_258 nu qu sc lo pl hs x1 x3 x5 x6 1 x8))

def fL_rows_238 (nu : Nat → Int32) (qu : Nat → Int32) (sc : Nat → Int32) (lo : Nat → Int32) (pl : Int32) (hs : Int32) (x1 : Int32) (x3 : Int32) (x6 : Int32) (x7 : Int32) (x8 : Int32) (x9 : Int32) : Option (Int32) :=
  fL_rows_241 nu qu sc lo pl hs x1 x3 0 x6 x7 x8 x9

def fL_rows_234 (nu : Nat → Int32) (qu : Nat → Int32) (sc : Nat → Int32) (lo : Nat → Int32) (pl : Int32) (hs : Int32) (x1 : Int32) (x3 : Int32) (x6 : Int32) (x7 : Int32) (x8 : Int32) (x9 : Int32) : Option (Int32) :=
  fL_rows_241 nu qu sc lo pl hs x1 x3 1 x6 x7 x8 x9

def fL_rows_219 (nu : Nat → Int32) (qu : Nat → Int32) (sc : Nat → Int32) (lo : Nat → Int32) (pl : Int32) (hs : Int32) (x1 : Int32) (x3 : Int32) (x6 : Int32) (x7 : Int32) (x8 : Int32) (x9 : Int32) : Option (Int32) :=
  ob1 (fX4_count nu pl hs (5 : Int32)) fun r_1 =>
  (if x8 < r_1 then
  fL_rows_234 nu qu sc lo pl hs x1 x3 x6 x7 x8 x9
  else
  (if x9 = 0 then
  fL_rows_234 nu qu sc lo pl hs x1 x3 x6 x7 x8 x9
  else
  fL_rows_238 nu qu sc lo pl hs x1 x3 x6 x7 x8 x9))

def fL_rows_199 (nu : Nat → Int32) (qu : Nat → Int32) (sc : Nat → Int32) (lo : Nat → Int32) (pl : Int32) (hs : Int32) (x1 : Int32) (x3 : Int32) (x6 : Int32) (x7 : Int32) (x8 : Int32) (x9 : Int32) : Option (Int32) :=
  ob1 (fX4_row nu sc x8 (2 : Int32)) fun r_1 =>
  (if r_1 < 0 then
  (if x9 = 0 then
  fL_rows_219 nu qu sc lo pl hs x1 x3 x6 x7 x8 x9
  else
  fL_rows_238 nu qu sc lo pl hs x1 x3 x6 x7 x8 x9)
  else
  (if x9 = 1 then
  fL_rows_219 nu qu sc lo pl hs x1 x3 x6 x7 x8 x9
  else
  fL_rows_238 nu qu sc lo pl hs x1 x3 x6 x7 x8 x9))

def fL_rows_164 (nu : Nat → Int32) (qu : Nat → Int32) (sc : Nat → Int32) (lo : Nat → Int32) (pl : Int32) (hs : Int32) (x1 : Int32) (x3 : Int32) (x6 : Int32) (x7 : Int32) (x8 : Int32) (x9 : Int32) : Option (Int32) :=
  ob1 (fX4_row nu sc x8 (0 : Int32)) fun r_1 =>
  (if r_1 = (-6) then
  ob1 (fX4_count nu pl hs (5 : Int32)) fun r_5 =>
  (if x8 < r_5 then
  fL_rows_238 nu qu sc lo pl hs x1 x3 x6 x7 x8 x9
  else
  fL_rows_199 nu qu sc lo pl hs x1 x3 x6 x7 x8 x9)
  else
  ob1 (fX4_count nu pl hs (5 : Int32)) fun r_3 =>
  (if x8 < r_3 then
  fL_rows_199 nu qu sc lo pl hs x1 x3 x6 x7 x8 x9
  else
  fL_rows_238 nu qu sc lo pl hs x1 x3 x6 x7 x8 x9))

def fL_rows_136_b (rec : (Nat → Int32) → (Nat → Int32) → (Nat → Int32) → (Nat → Int32) → Int32 → Int32 → Int32 → Int32 → Int32 → Int32 → Int32 → Int32 → Option (Int32)) (nu : Nat → Int32) (qu : Nat → Int32) (sc : Nat → Int32) (lo : Nat → Int32) (pl : Int32) (hs : Int32) (x1 : Int32) (x3 : Int32) (x5 : Int32) (x6 : Int32) (x7 : Int32) (x8 : Int32) : Option (Int32) :=
  (if x1 ≤ x8 then
  fL_rows_279 nu qu sc lo pl hs x3 x5 x6
  else
  (if x5 = 0 then
  fL_rows_279 nu qu sc lo pl hs x3 x5 x6
  else
  ob1 (fX4_row nu sc x8 (1 : Int32)) fun r_1 =>
  (if r_1 < 0 then
  fL_rows_164 nu qu sc lo pl hs x1 x3 x6 x7 x8 0
  else
  fL_rows_164 nu qu sc lo pl hs x1 x3 x6 x7 x8 1)))
def fL_rows_136 : Nat → (Nat → Int32) → (Nat → Int32) → (Nat → Int32) → (Nat → Int32) → Int32 → Int32 → Int32 → Int32 → Int32 → Int32 → Int32 → Int32 → Option (Int32)
  | 0 => fun _ _ _ _ _ _ _ _ _ _ _ _ => none
  | n + 1 => fL_rows_136_b (fL_rows_136 n)

def fL_rows_127 (nu : Nat → Int32) (qu : Nat → Int32) (sc : Nat → Int32) (lo : Nat → Int32) (pl : Int32) (hs : Int32) (x1 : Int32) (x3 : Int32) (x5 : Int32) : Option (Int32) :=
  fL_rows_136 KF nu qu sc lo pl hs x1 x3 x5 0 1 0

def fL_rows_124 (nu : Nat → Int32) (qu : Nat → Int32) (sc : Nat → Int32) (lo : Nat → Int32) (pl : Int32) (hs : Int32) (x1 : Int32) (x3 : Int32) : Option (Int32) :=
  fL_rows_127 nu qu sc lo pl hs x1 x3 0

def fL_rows_28 (nu : Nat → Int32) (qu : Nat → Int32) (sc : Nat → Int32) (lo : Nat → Int32) (pl : Int32) (hs : Int32) (x1 : Int32) (x2 : Int32) : Option (Int32) :=
  ob1 (fX4_count nu pl hs (12 : Int32)) fun r_1 =>
  ob1 (fX4_count nu pl hs (13 : Int32)) fun r_3 =>
  ob1 (fX4_count nu pl hs (14 : Int32)) fun r_5 =>
  nm (((r_1 + r_3) + r_5)) fun x3_7 =>
  ob1 (fX4_count nu pl hs (5 : Int32)) fun r_8 =>
  ob1 (fX4_count nu pl hs (3 : Int32)) fun r_10 =>
  ob1 (fX4_count nu pl hs (6 : Int32)) fun r_12 =>
  nm ((((r_8 - (2 * r_10)) - x2) - r_12)) fun x4_14 =>
  (if x4_14 < 0 then
  fL_rows_124 nu qu sc lo pl hs x1 x3_7
  else
  ob1 (fX4_count nu pl hs (4 : Int32)) fun r_15 =>
  (if r_15 < x4_14 then
  fL_rows_124 nu qu sc lo pl hs x1 x3_7
  else
  ob1 (fX4_count nu pl hs (5 : Int32)) fun r_17 =>
  ob1 (fX4_count nu pl hs (7 : Int32)) fun r_19 =>
  (if r_17 = ((x3_7 * x1) + r_19) then
  ob1 (fX4_count nu pl hs (6 : Int32)) fun r_21 =>
  ob1 (fX4_count nu pl hs (5 : Int32)) fun r_23 =>
  (if r_23 < r_21 then
  fL_rows_124 nu qu sc lo pl hs x1 x3_7
  else
  fL_rows_127 nu qu sc lo pl hs x1 x3_7 1)
  else
  fL_rows_124 nu qu sc lo pl hs x1 x3_7)))

/-- the mirror of L_rows -/
def fL_rows (nu : Nat → Int32) (qu : Nat → Int32) (sc : Nat → Int32) (lo : Nat → Int32) (pl : Int32) (hs : Int32) : Option (Int32) :=
  ob1 (fX4_count nu pl hs (19 : Int32)) fun r_1 =>
  nm ((2 * r_1)) fun x1_3 =>
  ob1 (fX4_count nu pl hs (2 : Int32)) fun r_4 =>
  (if r_4 ≤ 0 then
  fL_rows_28 nu qu sc lo pl hs x1_3 0
  else
  ob1 (fX4_waiting nu qu (0 : Int32) (3 : Int32)) fun r_6 =>
  fL_rows_28 nu qu sc lo pl hs x1_3 r_6)

def rm_L_rows : Room := { frames := 4, cells := 0, slots := 0, locals := 85 }
set_option maxRecDepth 20000 in
theorem cw_L_rows_X4_count_9 {s : State} {args : Array Value} (hts : ∀ w ∈ wsL_rows, w.before args s = true) : CallW rm_L_rows s args RL RX4 9 yX4_count cX4_count 2 (some .int) wsX4_count rm_X4_count 0 0 1 :=
  cwV 1 hts gL_rows_X4_count rfl rfl rfl (by decide +kernel) ⟨Nat.le_of_ble_eq_true rfl, Nat.le_of_ble_eq_true rfl⟩
set_option maxRecDepth 20000 in
theorem cw_L_rows_X4_waiting_15 {s : State} {args : Array Value} (hts : ∀ w ∈ wsL_rows, w.before args s = true) : CallW rm_L_rows s args RL RX4 15 yX4_waiting cX4_waiting 3 (some .int) wsX4_waiting rm_X4_waiting 0 0 2 :=
  cwV 2 hts gL_rows_X4_waiting rfl rfl rfl (by decide +kernel) ⟨Nat.le_of_ble_eq_true rfl, Nat.le_of_ble_eq_true rfl⟩
set_option maxRecDepth 20000 in
theorem cw_L_rows_X4_shown_25 {s : State} {args : Array Value} (hts : ∀ w ∈ wsL_rows, w.before args s = true) : CallW rm_L_rows s args RL RX4 25 yX4_shown cX4_shown 3 (some .int) wsX4_shown rm_X4_shown 0 0 0 :=
  cwV 0 hts gL_rows_X4_shown rfl rfl rfl (by decide +kernel) ⟨Nat.le_of_ble_eq_true rfl, Nat.le_of_ble_eq_true rfl⟩
set_option maxRecDepth 20000 in
theorem cw_L_rows_X4_ofMissing_22 {s : State} {args : Array Value} (hts : ∀ w ∈ wsL_rows, w.before args s = true) : CallW rm_L_rows s args RL RX4 22 yX4_ofMissing cX4_ofMissing 3 (some .int) wsX4_ofMissing rm_X4_ofMissing 0 0 2 :=
  cwV 2 hts gL_rows_X4_ofMissing rfl rfl rfl (by decide +kernel) ⟨Nat.le_of_ble_eq_true rfl, Nat.le_of_ble_eq_true rfl⟩
set_option maxRecDepth 20000 in
theorem cw_L_rows_X4_row_19 {s : State} {args : Array Value} (hts : ∀ w ∈ wsL_rows, w.before args s = true) : CallW rm_L_rows s args RL RX4 19 yX4_row cX4_row 3 (some .int) wsX4_row rm_X4_row 0 0 2 :=
  cwV 2 hts gL_rows_X4_row rfl rfl rfl (by decide +kernel) ⟨Nat.le_of_ble_eq_true rfl, Nat.le_of_ble_eq_true rfl⟩
set_option maxHeartbeats 4000000 in
set_option maxRecDepth 100000 in
theorem c_L_rows (l : Launch) (G : va_G) (cI cC cZ : ClassId) (X : List (ClassId × FieldType)) (d0 b0 sl a0 a1 a2 a3 a4 a5 a6 a7 a8 p0 p1 h0 h1 : Nat) (nu : Nat → Int32) (va : Nat → Int32) (qu : Nat → Int32) (sc : Nat → Int32) (lo : Nat → Int32) (wt : Int32) (ch : Nat → Int32) (pl : Int32) (pa : Int32) (po : Int32) (pf : Int32) (ps : Int32) (ho : Int32) (hs : Int32) (rv : Int32) (hf : fL_rows nu qu sc lo pl hs = some (rv)) : CT l yL_rows wsL_rows rm_L_rows G (TY cI cC cZ X) [.ref d0] (wLDc cI cC d0 b0 sl a0 a1 a2 a3 a4 a5 a6 a7 a8 p0 p1 h0 h1 nu va qu sc lo wt ch pl pa po pf ps ho hs) (some (.int rv)) (wLDc cI cC d0 b0 sl a0 a1 a2 a3 a4 a5 a6 a7 a8 p0 p1 h0 h1 nu va qu sc lo wt ch pl pa po pf ps ho hs) := by
  refine CT.of (cc := cL_rows) (maxL := 11) (ret := (some .boolean)) RL rfl (by decide) rfl (Nat.le_of_ble_eq_true rfl) ?_
  intro p e s m args below meth c A ls C hr hlocks hnm h hl
  have hx := C.hx
  have hb := C.hb
  have hl : lv_has ls 11 [(0, .ref d0)] := hl
  have cut_465 : ∀ (H : Heap) (locs : List Loc) (ls : Array Slot), Hx s G A (wLDc cI cC d0 b0 sl a0 a1 a2 a3 a4 a5 a6 a7 a8 p0 p1 h0 h1 nu va qu sc lo wt ch pl pa po pf ps ho hs) H locs → lv_has ls 11 [] → fL_rows_465 nu qu sc lo pl hs = some (rv) → W p l e rm_L_rows s m args below meth c H locs 0 0 (MQ below (Qx G (some (.int rv)) (wLDc cI cC d0 b0 sl a0 a1 a2 a3 a4 a5 a6 a7 a8 p0 p1 h0 h1 nu va qu sc lo wt ch pl pa po pf ps ho hs) A) args s 0 0 A) (F0 m 465 ls []) := by
    intro H locs ls h hl hf
    unfold fL_rows_465 at hf
    refine lv_iconst (v := 0) hx hb dL_rows_465 (by decide) ?_
    cases hf
    exact r_zret C h hr hlocks rfl dL_rows_466
  have cut_408 : ∀ (x3 : Int32) (x5 : Int32) (x6 : Int32) (x8 : Int32) (H : Heap) (locs : List Loc) (ls : Array Slot), Hx s G A (wLDc cI cC d0 b0 sl a0 a1 a2 a3 a4 a5 a6 a7 a8 p0 p1 h0 h1 nu va qu sc lo wt ch pl pa po pf ps ho hs) H locs → lv_has ls 11 [(0, .ref d0), (3, .int x3), (5, .int x5), (6, .int x6), (8, .int x8)] → fL_rows_408 nu qu sc lo pl hs x3 x5 x6 x8 = some (rv) → W p l e rm_L_rows s m args below meth c H locs 0 0 (MQ below (Qx G (some (.int rv)) (wLDc cI cC d0 b0 sl a0 a1 a2 a3 a4 a5 a6 a7 a8 p0 p1 h0 h1 nu va qu sc lo wt ch pl pa po pf ps ho hs) A) args s 0 0 A) (F0 m 408 ls []) := by
    intro x3 x5 x6 x8 H locs ls h hl hf
    unfold fL_rows_408 at hf
    refine lv_iload hx hb dL_rows_408 (lv_at hl 2 rfl) ?_
    refine lv_if_eq (tgt := 465) hx hb dL_rows_410 (by decide) (fun hc => ?_) (fun hc => ?_)
    · replace hf := it_t hf hc
      exact cut_465 _ _ _ h (lv_sub hl [] rfl) hf
    · replace hf := it_f hf hc
      refine lv_aload_n hx hb dL_rows_413 rfl (lv_at hl 0 rfl) ?_
      obtain ⟨r_1, hq_2, hf⟩ := ob1_use hf
      refine r_callV C h (cw_L_rows_X4_shown_25 C.hts) (rest := []) (ci := 4) (N := 5) (Cn := RX4) (T := TX4) (c_X4_shown l G cI cC cZ X d0 b0 sl h0 p0 a0 a1 a2 a3 a4 a5 a6 a7 a8 nu va qu sc lo wt r_1 hq_2) [0, 1, 2, 3, 4, 5, 6, 7, 8, 9] rfl rfl rfl rfl 0 rfl rfl hl.1 rfl (Nat.le_of_ble_eq_true rfl) ⟨Nat.le_of_ble_eq_true rfl, Nat.le_of_ble_eq_true rfl⟩ (wLDc cI cC d0 b0 sl a0 a1 a2 a3 a4 a5 a6 a7 a8 p0 p1 h0 h1 nu va qu sc lo wt ch pl pa po pf ps ho hs) rfl rfl dL_rows_414 (fun H locs h => ?_)
      refine lv_iload hx hb dL_rows_417 (lv_at hl 3 rfl) ?_
      refine lv_icmp_ne (tgt := 465) hx hb dL_rows_419 (by decide) (fun hc => ?_) (fun hc => ?_)
      · replace hf := it_f hf hc
        exact cut_465 _ _ _ h (lv_sub hl [] rfl) hf
      · replace hf := it_t hf hc
        refine lv_aload_n hx hb dL_rows_422 rfl (lv_at hl 0 rfl) ?_
        refine lv_iload hx hb dL_rows_423 (lv_at hl 4 rfl) ?_
        refine lv_iconst (v := 0) hx hb dL_rows_425 (by decide) ?_
        obtain ⟨r_3, hq_4, hf⟩ := ob1_use hf
        refine r_callV C h (cw_L_rows_X4_ofMissing_22 C.hts) (rest := []) (ci := 4) (N := 5) (Cn := RX4) (T := TX4) (c_X4_ofMissing l G cI cC cZ X d0 b0 sl h0 p0 a0 a1 a2 a3 a4 a5 a6 a7 a8 nu va qu sc lo wt x8 (0 : Int32) r_3 hq_4) [0, 1, 2, 3, 4, 5, 6, 7, 8, 9] rfl rfl rfl rfl 0 rfl rfl hl.1 rfl (Nat.le_of_ble_eq_true rfl) ⟨Nat.le_of_ble_eq_true rfl, Nat.le_of_ble_eq_true rfl⟩ (wLDc cI cC d0 b0 sl a0 a1 a2 a3 a4 a5 a6 a7 a8 p0 p1 h0 h1 nu va qu sc lo wt ch pl pa po pf ps ho hs) rfl rfl dL_rows_426 (fun H locs h => ?_)
        refine lv_iconst (v := (-1)) hx hb dL_rows_429 (by decide) ?_
        refine lv_icmp_ne (tgt := 465) hx hb dL_rows_430 (by decide) (fun hc => ?_) (fun hc => ?_)
        · replace hf := it_f hf hc
          exact cut_465 _ _ _ h (lv_sub hl [] rfl) hf
        · replace hf := it_t hf hc
          refine lv_aload_n hx hb dL_rows_433 rfl (lv_at hl 0 rfl) ?_
          refine lv_bipush (v := 15) hx hb dL_rows_434 (by decide) ?_
          obtain ⟨r_5, hq_6, hf⟩ := ob1_use hf
          refine r_callV C h (cw_L_rows_X4_count_9 C.hts) (rest := []) (ci := 4) (N := 5) (Cn := RX4) (T := TX4) (c_X4_count l G cI cC cZ X d0 b0 sl a0 a1 a2 a3 a4 a5 a6 a7 a8 p0 p1 h0 h1 nu va qu sc lo wt ch pl pa po pf ps ho hs (15 : Int32) r_5 hq_6) [0, 1, 2, 3, 4, 5, 6, 7, 8, 9, 10, 11, 12] rfl rfl rfl rfl 0 rfl rfl hl.1 rfl (Nat.le_of_ble_eq_true rfl) ⟨Nat.le_of_ble_eq_true rfl, Nat.le_of_ble_eq_true rfl⟩ (wLDc cI cC d0 b0 sl a0 a1 a2 a3 a4 a5 a6 a7 a8 p0 p1 h0 h1 nu va qu sc lo wt ch pl pa po pf ps ho hs) rfl rfl dL_rows_436 (fun H locs h => ?_)
          refine lv_bipush (v := (-6)) hx hb dL_rows_439 (by decide) ?_
          refine lv_icmp_ne (tgt := 448) hx hb dL_rows_441 (by decide) (fun hc => ?_) (fun hc => ?_)
          · replace hf := it_f hf hc
            refine lv_iconst (v := 0) hx hb dL_rows_448 (by decide) ?_
            refine lv_iload_n hx hb dL_rows_449 rfl (lv_at hl 1 rfl) ?_
            refine lv_if_ne (tgt := 457) hx hb dL_rows_450 (by decide) (fun hc => ?_) (fun hc => ?_)
            · replace hf := it_f hf hc
              refine lv_iconst (v := 0) hx hb dL_rows_457 (by decide) ?_
              refine lv_icmp_ne (tgt := 465) hx hb dL_rows_458 (by decide) (fun hc => absurd hc (by decide)) (fun _ => ?_)
              refine lv_iconst (v := 1) hx hb dL_rows_461 (by decide) ?_
              refine lv_goto (tgt := 466) hx hb dL_rows_462 (by decide) ?_
              cases hf
              exact r_zret C h hr hlocks rfl dL_rows_466
            · replace hf := it_t hf hc
              refine lv_iconst (v := 1) hx hb dL_rows_453 (by decide) ?_
              refine lv_goto (tgt := 458) hx hb dL_rows_454 (by decide) ?_
              refine lv_icmp_ne (tgt := 465) hx hb dL_rows_458 (by decide) (fun _ => ?_) (fun hc => absurd hc (by decide))
              exact cut_465 _ _ _ h (lv_sub hl [] rfl) hf
          · replace hf := it_t hf hc
            refine lv_iconst (v := 1) hx hb dL_rows_444 (by decide) ?_
            refine lv_goto (tgt := 449) hx hb dL_rows_445 (by decide) ?_
            refine lv_iload_n hx hb dL_rows_449 rfl (lv_at hl 1 rfl) ?_
            refine lv_if_ne (tgt := 457) hx hb dL_rows_450 (by decide) (fun hc => ?_) (fun hc => ?_)
            · replace hf := it_f hf hc
              refine lv_iconst (v := 0) hx hb dL_rows_457 (by decide) ?_
              refine lv_icmp_ne (tgt := 465) hx hb dL_rows_458 (by decide) (fun _ => ?_) (fun hc => absurd hc (by decide))
              exact cut_465 _ _ _ h (lv_sub hl [] rfl) hf
            · replace hf := it_t hf hc
              refine lv_iconst (v := 1) hx hb dL_rows_453 (by decide) ?_
              refine lv_goto (tgt := 458) hx hb dL_rows_454 (by decide) ?_
              refine lv_icmp_ne (tgt := 465) hx hb dL_rows_458 (by decide) (fun hc => absurd hc (by decide)) (fun _ => ?_)
              refine lv_iconst (v := 1) hx hb dL_rows_461 (by decide) ?_
              refine lv_goto (tgt := 466) hx hb dL_rows_462 (by decide) ?_
              cases hf
              exact r_zret C h hr hlocks rfl dL_rows_466
  have cut_393 : ∀ (x3 : Int32) (x5 : Int32) (x6 : Int32) (x8 : Int32) (x10 : Int32) (H : Heap) (locs : List Loc) (ls : Array Slot), Hx s G A (wLDc cI cC d0 b0 sl a0 a1 a2 a3 a4 a5 a6 a7 a8 p0 p1 h0 h1 nu va qu sc lo wt ch pl pa po pf ps ho hs) H locs → lv_has ls 11 [(0, .ref d0), (3, .int x3), (5, .int x5), (6, .int x6), (8, .int x8), (10, .int x10)] → fL_rows_393 nu qu sc lo pl hs x3 x5 x6 x8 x10 = some (rv) → W p l e rm_L_rows s m args below meth c H locs 0 0 (MQ below (Qx G (some (.int rv)) (wLDc cI cC d0 b0 sl a0 a1 a2 a3 a4 a5 a6 a7 a8 p0 p1 h0 h1 nu va qu sc lo wt ch pl pa po pf ps ho hs) A) args s 0 0 A) (F0 m 393 ls []) := by
    intro x3 x5 x6 x8 x10 H locs ls h hl hf
    unfold fL_rows_393 at hf
    refine lv_aload_n hx hb dL_rows_393 rfl (lv_at hl 0 rfl) ?_
    refine lv_iload hx hb dL_rows_394 (lv_at hl 5 rfl) ?_
    refine lv_iconst (v := 3) hx hb dL_rows_396 (by decide) ?_
    obtain ⟨r_1, hq_2, hf⟩ := ob1_use hf
    refine r_callV C h (cw_L_rows_X4_ofMissing_22 C.hts) (rest := []) (ci := 4) (N := 5) (Cn := RX4) (T := TX4) (c_X4_ofMissing l G cI cC cZ X d0 b0 sl h0 p0 a0 a1 a2 a3 a4 a5 a6 a7 a8 nu va qu sc lo wt x10 (3 : Int32) r_1 hq_2) [0, 1, 2, 3, 4, 5, 6, 7, 8, 9] rfl rfl rfl rfl 0 rfl rfl hl.1 rfl (Nat.le_of_ble_eq_true rfl) ⟨Nat.le_of_ble_eq_true rfl, Nat.le_of_ble_eq_true rfl⟩ (wLDc cI cC d0 b0 sl a0 a1 a2 a3 a4 a5 a6 a7 a8 p0 p1 h0 h1 nu va qu sc lo wt ch pl pa po pf ps ho hs) rfl rfl dL_rows_397 (fun H locs h => ?_)
    refine lv_istore (lv' := [(9, .int r_1), (0, .ref d0), (3, .int x3), (5, .int x5), (6, .int x6), (8, .int x8), (10, .int x10)]) hx hb dL_rows_400 hl (by decide) rfl (fun ls hl => ?_)
    obtain ⟨x10_3, ex10_3⟩ : ∃ y : Int32, y = x10 + 1 := ⟨_, rfl⟩
    replace hf := nm_use hf ex10_3
    refine lv_iinc (v := x10_3) (lv' := [(10, .int x10_3), (9, .int r_1), (0, .ref d0), (3, .int x3), (5, .int x5), (6, .int x6), (8, .int x8)]) hx hb dL_rows_402 hl (k := 6) rfl (by rw [ex10_3]; rfl) (by decide) rfl (fun ls hl => ?_)
    refine lv_goto (tgt := 311) hx hb dL_rows_405 (by decide) ?_
    exact cut_311 KF x3 x5 x6 x8 r_1 x10_3 _ _ _ h (lv_sub hl [2, 3, 4, 5, 6, 1, 0] rfl) hf
  have cut_390 : ∀ (x3 : Int32) (x6 : Int32) (x8 : Int32) (x10 : Int32) (H : Heap) (locs : List Loc) (ls : Array Slot), Hx s G A (wLDc cI cC d0 b0 sl a0 a1 a2 a3 a4 a5 a6 a7 a8 p0 p1 h0 h1 nu va qu sc lo wt ch pl pa po pf ps ho hs) H locs → lv_has ls 11 [(0, .ref d0), (3, .int x3), (6, .int x6), (8, .int x8), (10, .int x10)] → fL_rows_390 nu qu sc lo pl hs x3 x6 x8 x10 = some (rv) → W p l e rm_L_rows s m args below meth c H locs 0 0 (MQ below (Qx G (some (.int rv)) (wLDc cI cC d0 b0 sl a0 a1 a2 a3 a4 a5 a6 a7 a8 p0 p1 h0 h1 nu va qu sc lo wt ch pl pa po pf ps ho hs) A) args s 0 0 A) (F0 m 390 ls []) := by
    intro x3 x6 x8 x10 H locs ls h hl hf
    unfold fL_rows_390 at hf
    refine lv_iconst (v := 0) hx hb dL_rows_390 (by decide) ?_
    refine lv_istore (lv' := [(5, .int 0), (0, .ref d0), (3, .int x3), (6, .int x6), (8, .int x8), (10, .int x10)]) hx hb dL_rows_391 hl (by decide) rfl (fun ls hl => ?_)
    exact cut_393 x3 0 x6 x8 x10 _ _ _ h (lv_sub hl [1, 2, 0, 3, 4, 5] rfl) hf
  have cut_311 : ∀ (n : Nat) (x3 : Int32) (x5 : Int32) (x6 : Int32) (x8 : Int32) (x9 : Int32) (x10 : Int32) (H : Heap) (locs : List Loc) (ls : Array Slot), Hx s G A (wLDc cI cC d0 b0 sl a0 a1 a2 a3 a4 a5 a6 a7 a8 p0 p1 h0 h1 nu va qu sc lo wt ch pl pa po pf ps ho hs) H locs → lv_has ls 11 [(0, .ref d0), (3, .int x3), (5, .int x5), (6, .int x6), (8, .int x8), (9, .int x9), (10, .int x10)] → fL_rows_311 n nu qu sc lo pl hs x3 x5 x6 x8 x9 x10 = some (rv) → W p l e rm_L_rows s m args below meth c H locs 0 0 (MQ below (Qx G (some (.int rv)) (wLDc cI cC d0 b0 sl a0 a1 a2 a3 a4 a5 a6 a7 a8 p0 p1 h0 h1 nu va qu sc lo wt ch pl pa po pf ps ho hs) A) args s 0 0 A) (F0 m 311 ls []) := by
    intro n
    induction n with
    | zero =>
      intro x3 x5 x6 x8 x9 x10 H locs ls h hl hf
      exact (nn_some _ hf).elim
    | succ n ih =>
      intro x3 x5 x6 x8 x9 x10 H locs ls h hl hf
      have hf : fL_rows_311_b (fL_rows_311 n) nu qu sc lo pl hs x3 x5 x6 x8 x9 x10 = some (rv) := hf
      unfold fL_rows_311_b at hf
      refine lv_iload hx hb dL_rows_311 (lv_at hl 6 rfl) ?_
      refine lv_iload hx hb dL_rows_313 (lv_at hl 4 rfl) ?_
      refine lv_icmp_ge (tgt := 408) hx hb dL_rows_315 (by decide) (fun hc => ?_) (fun hc => ?_)
      · replace hf := it_t hf hc
        exact cut_408 x3 x5 x6 x8 _ _ _ h (lv_sub hl [0, 1, 2, 3, 4] rfl) hf
      · replace hf := it_f hf hc
        refine lv_iload hx hb dL_rows_318 (lv_at hl 2 rfl) ?_
        refine lv_if_eq (tgt := 408) hx hb dL_rows_320 (by decide) (fun hc => ?_) (fun hc => ?_)
        · replace hf := it_t hf hc
          exact cut_408 x3 x5 x6 x8 _ _ _ h (lv_sub hl [0, 1, 2, 3, 4] rfl) hf
        · replace hf := it_f hf hc
          refine lv_aload_n hx hb dL_rows_323 rfl (lv_at hl 0 rfl) ?_
          refine lv_iload hx hb dL_rows_324 (lv_at hl 6 rfl) ?_
          refine lv_iconst (v := 3) hx hb dL_rows_326 (by decide) ?_
          obtain ⟨r_1, hq_2, hf⟩ := ob1_use hf
          refine r_callV C h (cw_L_rows_X4_ofMissing_22 C.hts) (rest := []) (ci := 4) (N := 5) (Cn := RX4) (T := TX4) (c_X4_ofMissing l G cI cC cZ X d0 b0 sl h0 p0 a0 a1 a2 a3 a4 a5 a6 a7 a8 nu va qu sc lo wt x10 (3 : Int32) r_1 hq_2) [0, 1, 2, 3, 4, 5, 6, 7, 8, 9] rfl rfl rfl rfl 0 rfl rfl hl.1 rfl (Nat.le_of_ble_eq_true rfl) ⟨Nat.le_of_ble_eq_true rfl, Nat.le_of_ble_eq_true rfl⟩ (wLDc cI cC d0 b0 sl a0 a1 a2 a3 a4 a5 a6 a7 a8 p0 p1 h0 h1 nu va qu sc lo wt ch pl pa po pf ps ho hs) rfl rfl dL_rows_327 (fun H locs h => ?_)
          refine lv_iload hx hb dL_rows_330 (lv_at hl 5 rfl) ?_
          refine lv_icmp_gt (tgt := 390) hx hb dL_rows_332 (by decide) (fun hc => ?_) (fun hc => ?_)
          · replace hf := it_t hf hc
            exact cut_390 x3 x6 x8 x10 _ _ _ h (lv_sub hl [0, 1, 3, 4, 6] rfl) hf
          · replace hf := it_f hf hc
            refine lv_aload_n hx hb dL_rows_335 rfl (lv_at hl 0 rfl) ?_
            refine lv_iload hx hb dL_rows_336 (lv_at hl 6 rfl) ?_
            refine lv_iconst (v := 2) hx hb dL_rows_338 (by decide) ?_
            obtain ⟨r_3, hq_4, hf⟩ := ob1_use hf
            refine r_callV C h (cw_L_rows_X4_ofMissing_22 C.hts) (rest := []) (ci := 4) (N := 5) (Cn := RX4) (T := TX4) (c_X4_ofMissing l G cI cC cZ X d0 b0 sl h0 p0 a0 a1 a2 a3 a4 a5 a6 a7 a8 nu va qu sc lo wt x10 (2 : Int32) r_3 hq_4) [0, 1, 2, 3, 4, 5, 6, 7, 8, 9] rfl rfl rfl rfl 0 rfl rfl hl.1 rfl (Nat.le_of_ble_eq_true rfl) ⟨Nat.le_of_ble_eq_true rfl, Nat.le_of_ble_eq_true rfl⟩ (wLDc cI cC d0 b0 sl a0 a1 a2 a3 a4 a5 a6 a7 a8 p0 p1 h0 h1 nu va qu sc lo wt ch pl pa po pf ps ho hs) rfl rfl dL_rows_339 (fun H locs h => ?_)
            refine lv_if_lt (tgt := 390) hx hb dL_rows_342 (by decide) (fun hc => ?_) (fun hc => ?_)
            · replace hf := it_t hf hc
              exact cut_390 x3 x6 x8 x10 _ _ _ h (lv_sub hl [0, 1, 3, 4, 6] rfl) hf
            · replace hf := it_f hf hc
              refine lv_aload_n hx hb dL_rows_345 rfl (lv_at hl 0 rfl) ?_
              refine lv_iload hx hb dL_rows_346 (lv_at hl 6 rfl) ?_
              refine lv_iconst (v := 2) hx hb dL_rows_348 (by decide) ?_
              obtain ⟨r_5, hq_6, hf⟩ := ob1_use hf
              refine r_callV C h (cw_L_rows_X4_ofMissing_22 C.hts) (rest := []) (ci := 4) (N := 5) (Cn := RX4) (T := TX4) (c_X4_ofMissing l G cI cC cZ X d0 b0 sl h0 p0 a0 a1 a2 a3 a4 a5 a6 a7 a8 nu va qu sc lo wt x10 (2 : Int32) r_5 hq_6) [0, 1, 2, 3, 4, 5, 6, 7, 8, 9] rfl rfl rfl rfl 0 rfl rfl hl.1 rfl (Nat.le_of_ble_eq_true rfl) ⟨Nat.le_of_ble_eq_true rfl, Nat.le_of_ble_eq_true rfl⟩ (wLDc cI cC d0 b0 sl a0 a1 a2 a3 a4 a5 a6 a7 a8 p0 p1 h0 h1 nu va qu sc lo wt ch pl pa po pf ps ho hs) rfl rfl dL_rows_349 (fun H locs h => ?_)
              refine lv_iconst (v := 3) hx hb dL_rows_352 (by decide) ?_
              refine lv_icmp_ge (tgt := 390) hx hb dL_rows_353 (by decide) (fun hc => ?_) (fun hc => ?_)
              · replace hf := it_t hf hc
                exact cut_390 x3 x6 x8 x10 _ _ _ h (lv_sub hl [0, 1, 3, 4, 6] rfl) hf
              · replace hf := it_f hf hc
                refine lv_aload_n hx hb dL_rows_356 rfl (lv_at hl 0 rfl) ?_
                refine lv_iload hx hb dL_rows_357 (lv_at hl 6 rfl) ?_
                refine lv_iconst (v := 0) hx hb dL_rows_359 (by decide) ?_
                obtain ⟨r_7, hq_8, hf⟩ := ob1_use hf
                refine r_callV C h (cw_L_rows_X4_ofMissing_22 C.hts) (rest := []) (ci := 4) (N := 5) (Cn := RX4) (T := TX4) (c_X4_ofMissing l G cI cC cZ X d0 b0 sl h0 p0 a0 a1 a2 a3 a4 a5 a6 a7 a8 nu va qu sc lo wt x10 (0 : Int32) r_7 hq_8) [0, 1, 2, 3, 4, 5, 6, 7, 8, 9] rfl rfl rfl rfl 0 rfl rfl hl.1 rfl (Nat.le_of_ble_eq_true rfl) ⟨Nat.le_of_ble_eq_true rfl, Nat.le_of_ble_eq_true rfl⟩ (wLDc cI cC d0 b0 sl a0 a1 a2 a3 a4 a5 a6 a7 a8 p0 p1 h0 h1 nu va qu sc lo wt ch pl pa po pf ps ho hs) rfl rfl dL_rows_360 (fun H locs h => ?_)
                refine lv_aload_n hx hb dL_rows_363 rfl (lv_at hl 0 rfl) ?_
                refine lv_bipush (v := 19) hx hb dL_rows_364 (by decide) ?_
                obtain ⟨r_9, hq_10, hf⟩ := ob1_use hf
                refine r_callV C h (cw_L_rows_X4_count_9 C.hts) (rest := [.int r_7]) (ci := 4) (N := 5) (Cn := RX4) (T := TX4) (c_X4_count l G cI cC cZ X d0 b0 sl a0 a1 a2 a3 a4 a5 a6 a7 a8 p0 p1 h0 h1 nu va qu sc lo wt ch pl pa po pf ps ho hs (19 : Int32) r_9 hq_10) [0, 1, 2, 3, 4, 5, 6, 7, 8, 9, 10, 11, 12] rfl rfl rfl rfl 0 rfl rfl hl.1 rfl (Nat.le_of_ble_eq_true rfl) ⟨Nat.le_of_ble_eq_true rfl, Nat.le_of_ble_eq_true rfl⟩ (wLDc cI cC d0 b0 sl a0 a1 a2 a3 a4 a5 a6 a7 a8 p0 p1 h0 h1 nu va qu sc lo wt ch pl pa po pf ps ho hs) rfl rfl dL_rows_366 (fun H locs h => ?_)
                refine lv_imul hx hb dL_rows_369 ?_
                refine lv_aload_n hx hb dL_rows_370 rfl (lv_at hl 0 rfl) ?_
                refine lv_iload hx hb dL_rows_371 (lv_at hl 6 rfl) ?_
                refine lv_iconst (v := 1) hx hb dL_rows_373 (by decide) ?_
                obtain ⟨r_11, hq_12, hf⟩ := ob1_use hf
                refine r_callV C h (cw_L_rows_X4_ofMissing_22 C.hts) (rest := [.int (r_7 * r_9)]) (ci := 4) (N := 5) (Cn := RX4) (T := TX4) (c_X4_ofMissing l G cI cC cZ X d0 b0 sl h0 p0 a0 a1 a2 a3 a4 a5 a6 a7 a8 nu va qu sc lo wt x10 (1 : Int32) r_11 hq_12) [0, 1, 2, 3, 4, 5, 6, 7, 8, 9] rfl rfl rfl rfl 0 rfl rfl hl.1 rfl (Nat.le_of_ble_eq_true rfl) ⟨Nat.le_of_ble_eq_true rfl, Nat.le_of_ble_eq_true rfl⟩ (wLDc cI cC d0 b0 sl a0 a1 a2 a3 a4 a5 a6 a7 a8 p0 p1 h0 h1 nu va qu sc lo wt ch pl pa po pf ps ho hs) rfl rfl dL_rows_374 (fun H locs h => ?_)
                refine lv_iadd hx hb dL_rows_377 ?_
                refine lv_aload_n hx hb dL_rows_378 rfl (lv_at hl 0 rfl) ?_
                refine lv_iconst (v := 1) hx hb dL_rows_379 (by decide) ?_
                obtain ⟨r_13, hq_14, hf⟩ := ob1_use hf
                refine r_callV C h (cw_L_rows_X4_count_9 C.hts) (rest := [.int ((r_7 * r_9) + r_11)]) (ci := 4) (N := 5) (Cn := RX4) (T := TX4) (c_X4_count l G cI cC cZ X d0 b0 sl a0 a1 a2 a3 a4 a5 a6 a7 a8 p0 p1 h0 h1 nu va qu sc lo wt ch pl pa po pf ps ho hs (1 : Int32) r_13 hq_14) [0, 1, 2, 3, 4, 5, 6, 7, 8, 9, 10, 11, 12] rfl rfl rfl rfl 0 rfl rfl hl.1 rfl (Nat.le_of_ble_eq_true rfl) ⟨Nat.le_of_ble_eq_true rfl, Nat.le_of_ble_eq_true rfl⟩ (wLDc cI cC d0 b0 sl a0 a1 a2 a3 a4 a5 a6 a7 a8 p0 p1 h0 h1 nu va qu sc lo wt ch pl pa po pf ps ho hs) rfl rfl dL_rows_380 (fun H locs h => ?_)
                refine lv_icmp_ge (tgt := 390) hx hb dL_rows_383 (by decide) (fun hc => ?_) (fun hc => ?_)
                · replace hf := it_t hf hc
                  exact cut_390 x3 x6 x8 x10 _ _ _ h (lv_sub hl [0, 1, 3, 4, 6] rfl) hf
                · replace hf := it_f hf hc
                  refine lv_iconst (v := 1) hx hb dL_rows_386 (by decide) ?_
                  refine lv_goto (tgt := 391) hx hb dL_rows_387 (by decide) ?_
                  refine lv_istore (lv' := [(5, .int 1), (0, .ref d0), (3, .int x3), (6, .int x6), (8, .int x8), (9, .int x9), (10, .int x10)]) hx hb dL_rows_391 hl (by decide) rfl (fun ls hl => ?_)
                  exact cut_393 x3 1 x6 x8 x10 _ _ _ h (lv_sub hl [1, 2, 0, 3, 4, 6] rfl) hf
  have cut_301 : ∀ (x3 : Int32) (x5 : Int32) (x6 : Int32) (x8 : Int32) (H : Heap) (locs : List Loc) (ls : Array Slot), Hx s G A (wLDc cI cC d0 b0 sl a0 a1 a2 a3 a4 a5 a6 a7 a8 p0 p1 h0 h1 nu va qu sc lo wt ch pl pa po pf ps ho hs) H locs → lv_has ls 11 [(0, .ref d0), (3, .int x3), (5, .int x5), (6, .int x6), (8, .int x8)] → fL_rows_301 nu qu sc lo pl hs x3 x5 x6 x8 = some (rv) → W p l e rm_L_rows s m args below meth c H locs 0 0 (MQ below (Qx G (some (.int rv)) (wLDc cI cC d0 b0 sl a0 a1 a2 a3 a4 a5 a6 a7 a8 p0 p1 h0 h1 nu va qu sc lo wt ch pl pa po pf ps ho hs) A) args s 0 0 A) (F0 m 301 ls []) := by
    intro x3 x5 x6 x8 H locs ls h hl hf
    unfold fL_rows_301 at hf
    refine lv_aload_n hx hb dL_rows_301 rfl (lv_at hl 0 rfl) ?_
    refine lv_iconst (v := 0) hx hb dL_rows_302 (by decide) ?_
    obtain ⟨r_1, hq_2, hf⟩ := ob1_use hf
    refine r_callV C h (cw_L_rows_X4_count_9 C.hts) (rest := []) (ci := 4) (N := 5) (Cn := RX4) (T := TX4) (c_X4_count l G cI cC cZ X d0 b0 sl a0 a1 a2 a3 a4 a5 a6 a7 a8 p0 p1 h0 h1 nu va qu sc lo wt ch pl pa po pf ps ho hs (0 : Int32) r_1 hq_2) [0, 1, 2, 3, 4, 5, 6, 7, 8, 9, 10, 11, 12] rfl rfl rfl rfl 0 rfl rfl hl.1 rfl (Nat.le_of_ble_eq_true rfl) ⟨Nat.le_of_ble_eq_true rfl, Nat.le_of_ble_eq_true rfl⟩ (wLDc cI cC d0 b0 sl a0 a1 a2 a3 a4 a5 a6 a7 a8 p0 p1 h0 h1 nu va qu sc lo wt ch pl pa po pf ps ho hs) rfl rfl dL_rows_303 (fun H locs h => ?_)
    refine lv_istore (lv' := [(9, .int r_1), (0, .ref d0), (3, .int x3), (5, .int x5), (6, .int x6), (8, .int x8)]) hx hb dL_rows_306 hl (by decide) rfl (fun ls hl => ?_)
    refine lv_iconst (v := 0) hx hb dL_rows_308 (by decide) ?_
    refine lv_istore (lv' := [(10, .int 0), (9, .int r_1), (0, .ref d0), (3, .int x3), (5, .int x5), (6, .int x6), (8, .int x8)]) hx hb dL_rows_309 hl (by decide) rfl (fun ls hl => ?_)
    exact cut_311 KF x3 x5 x6 x8 r_1 0 _ _ _ h (lv_sub hl [2, 3, 4, 5, 6, 1, 0] rfl) hf
  have cut_279 : ∀ (x3 : Int32) (x5 : Int32) (x6 : Int32) (H : Heap) (locs : List Loc) (ls : Array Slot), Hx s G A (wLDc cI cC d0 b0 sl a0 a1 a2 a3 a4 a5 a6 a7 a8 p0 p1 h0 h1 nu va qu sc lo wt ch pl pa po pf ps ho hs) H locs → lv_has ls 11 [(0, .ref d0), (3, .int x3), (5, .int x5), (6, .int x6)] → fL_rows_279 nu qu sc lo pl hs x3 x5 x6 = some (rv) → W p l e rm_L_rows s m args below meth c H locs 0 0 (MQ below (Qx G (some (.int rv)) (wLDc cI cC d0 b0 sl a0 a1 a2 a3 a4 a5 a6 a7 a8 p0 p1 h0 h1 nu va qu sc lo wt ch pl pa po pf ps ho hs) A) args s 0 0 A) (F0 m 279 ls []) := by
    intro x3 x5 x6 H locs ls h hl hf
    unfold fL_rows_279 at hf
    refine lv_aload_n hx hb dL_rows_279 rfl (lv_at hl 0 rfl) ?_
    refine lv_iconst (v := 4) hx hb dL_rows_280 (by decide) ?_
    obtain ⟨r_1, hq_2, hf⟩ := ob1_use hf
    refine r_callV C h (cw_L_rows_X4_count_9 C.hts) (rest := []) (ci := 4) (N := 5) (Cn := RX4) (T := TX4) (c_X4_count l G cI cC cZ X d0 b0 sl a0 a1 a2 a3 a4 a5 a6 a7 a8 p0 p1 h0 h1 nu va qu sc lo wt ch pl pa po pf ps ho hs (4 : Int32) r_1 hq_2) [0, 1, 2, 3, 4, 5, 6, 7, 8, 9, 10, 11, 12] rfl rfl rfl rfl 0 rfl rfl hl.1 rfl (Nat.le_of_ble_eq_true rfl) ⟨Nat.le_of_ble_eq_true rfl, Nat.le_of_ble_eq_true rfl⟩ (wLDc cI cC d0 b0 sl a0 a1 a2 a3 a4 a5 a6 a7 a8 p0 p1 h0 h1 nu va qu sc lo wt ch pl pa po pf ps ho hs) rfl rfl dL_rows_281 (fun H locs h => ?_)
    refine lv_bipush (v := 8) hx hb dL_rows_284 (by decide) ?_
    refine lv_icmp_ge (tgt := 297) hx hb dL_rows_286 (by decide) (fun hc => ?_) (fun hc => ?_)
    · replace hf := it_t hf hc
      refine lv_bipush (v := 8) hx hb dL_rows_297 (by decide) ?_
      refine lv_istore (lv' := [(8, .int 8), (0, .ref d0), (3, .int x3), (5, .int x5), (6, .int x6)]) hx hb dL_rows_299 hl (by decide) rfl (fun ls hl => ?_)
      exact cut_301 x3 x5 x6 8 _ _ _ h (lv_sub hl [1, 2, 3, 4, 0] rfl) hf
    · replace hf := it_f hf hc
      refine lv_aload_n hx hb dL_rows_289 rfl (lv_at hl 0 rfl) ?_
      refine lv_iconst (v := 4) hx hb dL_rows_290 (by decide) ?_
      obtain ⟨r_3, hq_4, hf⟩ := ob1_use hf
      refine r_callV C h (cw_L_rows_X4_count_9 C.hts) (rest := []) (ci := 4) (N := 5) (Cn := RX4) (T := TX4) (c_X4_count l G cI cC cZ X d0 b0 sl a0 a1 a2 a3 a4 a5 a6 a7 a8 p0 p1 h0 h1 nu va qu sc lo wt ch pl pa po pf ps ho hs (4 : Int32) r_3 hq_4) [0, 1, 2, 3, 4, 5, 6, 7, 8, 9, 10, 11, 12] rfl rfl rfl rfl 0 rfl rfl hl.1 rfl (Nat.le_of_ble_eq_true rfl) ⟨Nat.le_of_ble_eq_true rfl, Nat.le_of_ble_eq_true rfl⟩ (wLDc cI cC d0 b0 sl a0 a1 a2 a3 a4 a5 a6 a7 a8 p0 p1 h0 h1 nu va qu sc lo wt ch pl pa po pf ps ho hs) rfl rfl dL_rows_291 (fun H locs h => ?_)
      refine lv_goto (tgt := 299) hx hb dL_rows_294 (by decide) ?_
      refine lv_istore (lv' := [(8, .int r_3), (0, .ref d0), (3, .int x3), (5, .int x5), (6, .int x6)]) hx hb dL_rows_299 hl (by decide) rfl (fun ls hl => ?_)
      exact cut_301 x3 x5 x6 r_3 _ _ _ h (lv_sub hl [1, 2, 3, 4, 0] rfl) hf
  have cut_273 : ∀ (x1 : Int32) (x3 : Int32) (x5 : Int32) (x6 : Int32) (x7 : Int32) (x8 : Int32) (H : Heap) (locs : List Loc) (ls : Array Slot), Hx s G A (wLDc cI cC d0 b0 sl a0 a1 a2 a3 a4 a5 a6 a7 a8 p0 p1 h0 h1 nu va qu sc lo wt ch pl pa po pf ps ho hs) H locs → lv_has ls 11 [(0, .ref d0), (1, .int x1), (3, .int x3), (5, .int x5), (6, .int x6), (7, .int x7), (8, .int x8)] → fL_rows_273 nu qu sc lo pl hs x1 x3 x5 x6 x7 x8 = some (rv) → W p l e rm_L_rows s m args below meth c H locs 0 0 (MQ below (Qx G (some (.int rv)) (wLDc cI cC d0 b0 sl a0 a1 a2 a3 a4 a5 a6 a7 a8 p0 p1 h0 h1 nu va qu sc lo wt ch pl pa po pf ps ho hs) A) args s 0 0 A) (F0 m 273 ls []) := by
    intro x1 x3 x5 x6 x7 x8 H locs ls h hl hf
    unfold fL_rows_273 at hf
    obtain ⟨x8_1, ex8_1⟩ : ∃ y : Int32, y = x8 + 1 := ⟨_, rfl⟩
    replace hf := nm_use hf ex8_1
    refine lv_iinc (v := x8_1) (lv' := [(8, .int x8_1), (0, .ref d0), (1, .int x1), (3, .int x3), (5, .int x5), (6, .int x6), (7, .int x7)]) hx hb dL_rows_273 hl (k := 6) rfl (by rw [ex8_1]; rfl) (by decide) rfl (fun ls hl => ?_)
    refine lv_goto (tgt := 136) hx hb dL_rows_276 (by decide) ?_
    exact cut_136 KF x1 x3 x5 x6 x7 x8_1 _ _ _ h (lv_sub hl [1, 2, 3, 4, 5, 6, 0] rfl) hf
  have cut_258 : ∀ (x1 : Int32) (x3 : Int32) (x5 : Int32) (x6 : Int32) (x7 : Int32) (x8 : Int32) (H : Heap) (locs : List Loc) (ls : Array Slot), Hx s G A (wLDc cI cC d0 b0 sl a0 a1 a2 a3 a4 a5 a6 a7 a8 p0 p1 h0 h1 nu va qu sc lo wt ch pl pa po pf ps ho hs) H locs → lv_has ls 11 [(0, .ref d0), (1, .int x1), (3, .int x3), (5, .int x5), (6, .int x6), (7, .int x7), (8, .int x8)] → fL_rows_258 nu qu sc lo pl hs x1 x3 x5 x6 x7 x8 = some (rv) → W p l e rm_L_rows s m args below meth c H locs 0 0 (MQ below (Qx G (some (.int rv)) (wLDc cI cC d0 b0 sl a0 a1 a2 a3 a4 a5 a6 a7 a8 p0 p1 h0 h1 nu va qu sc lo wt ch pl pa po pf ps ho hs) A) args s 0 0 A) (F0 m 258 ls []) := by
    intro x1 x3 x5 x6 x7 x8 H locs ls h hl hf
    unfold fL_rows_258 at hf
    refine lv_iload hx hb dL_rows_258 (lv_at hl 4 rfl) ?_
    refine lv_iload hx hb dL_rows_260 (lv_at hl 5 rfl) ?_
    refine lv_if_eq (tgt := 269) hx hb dL_rows_262 (by decide) (fun hc => ?_) (fun hc => ?_)
    · replace hf := it_t hf hc
      refine lv_iconst (v := 0) hx hb dL_rows_269 (by decide) ?_
      refine lv_iadd hx hb dL_rows_270 ?_
      refine lv_topi (fun x6_1 ex6_1 => ?_)
      replace hf := nm_use hf ex6_1
      refine lv_istore (lv' := [(6, .int x6_1), (0, .ref d0), (1, .int x1), (3, .int x3), (5, .int x5), (7, .int x7), (8, .int x8)]) hx hb dL_rows_271 hl (by decide) rfl (fun ls hl => ?_)
      exact cut_273 x1 x3 x5 x6_1 x7 x8 _ _ _ h (lv_sub hl [1, 2, 3, 4, 0, 5, 6] rfl) hf
    · replace hf := it_f hf hc
      refine lv_iconst (v := 1) hx hb dL_rows_265 (by decide) ?_
      refine lv_goto (tgt := 270) hx hb dL_rows_266 (by decide) ?_
      refine lv_iadd hx hb dL_rows_270 ?_
      refine lv_topi (fun x6_2 ex6_2 => ?_)
      replace hf := nm_use hf ex6_2
      refine lv_istore (lv' := [(6, .int x6_2), (0, .ref d0), (1, .int x1), (3, .int x3), (5, .int x5), (7, .int x7), (8, .int x8)]) hx hb dL_rows_271 hl (by decide) rfl (fun ls hl => ?_)
      exact cut_273 x1 x3 x5 x6_2 x7 x8 _ _ _ h (lv_sub hl [1, 2, 3, 4, 0, 5, 6] rfl) hf
  have cut_255 : ∀ (x1 : Int32) (x3 : Int32) (x5 : Int32) (x6 : Int32) (x8 : Int32) (H : Heap) (locs : List Loc) (ls : Array Slot), Hx s G A (wLDc cI cC d0 b0 sl a0 a1 a2 a3 a4 a5 a6 a7 a8 p0 p1 h0 h1 nu va qu sc lo wt ch pl pa po pf ps ho hs) H locs → lv_has ls 11 [(0, .ref d0), (1, .int x1), (3, .int x3), (5, .int x5), (6, .int x6), (8, .int x8)] → fL_rows_255 nu qu sc lo pl hs x1 x3 x5 x6 x8 = some (rv) → W p l e rm_L_rows s m args below meth c H locs 0 0 (MQ below (Qx G (some (.int rv)) (wLDc cI cC d0 b0 sl a0 a1 a2 a3 a4 a5 a6 a7 a8 p0 p1 h0 h1 nu va qu sc lo wt ch pl pa po pf ps ho hs) A) args s 0 0 A) (F0 m 255 ls []) := by
    intro x1 x3 x5 x6 x8 H locs ls h hl hf
    unfold fL_rows_255 at hf
    refine lv_iconst (v := 0) hx hb dL_rows_255 (by decide) ?_
    refine lv_istore (lv' := [(7, .int 0), (0, .ref d0), (1, .int x1), (3, .int x3), (5, .int x5), (6, .int x6), (8, .int x8)]) hx hb dL_rows_256 hl (by decide) rfl (fun ls hl => ?_)
    exact cut_258 x1 x3 x5 x6 0 x8 _ _ _ h (lv_sub hl [1, 2, 3, 4, 5, 0, 6] rfl) hf
  have cut_241 : ∀ (x1 : Int32) (x3 : Int32) (x5 : Int32) (x6 : Int32) (x7 : Int32) (x8 : Int32) (x9 : Int32) (H : Heap) (locs : List Loc) (ls : Array Slot), Hx s G A (wLDc cI cC d0 b0 sl a0 a1 a2 a3 a4 a5 a6 a7 a8 p0 p1 h0 h1 nu va qu sc lo wt ch pl pa po pf ps ho hs) H locs → lv_has ls 11 [(0, .ref d0), (1, .int x1), (3, .int x3), (5, .int x5), (6, .int x6), (7, .int x7), (8, .int x8), (9, .int x9)] → fL_rows_241 nu qu sc lo pl hs x1 x3 x5 x6 x7 x8 x9 = some (rv) → W p l e rm_L_rows s m args below meth c H locs 0 0 (MQ below (Qx G (some (.int rv)) (wLDc cI cC d0 b0 sl a0 a1 a2 a3 a4 a5 a6 a7 a8 p0 p1 h0 h1 nu va qu sc lo wt ch pl pa po pf ps ho hs) A) args s 0 0 A) (F0 m 241 ls []) := by
    intro x1 x3 x5 x6 x7 x8 x9 H locs ls h hl hf
    unfold fL_rows_241 at hf
    refine lv_iload hx hb dL_rows_241 (lv_at hl 5 rfl) ?_
    refine lv_if_eq (tgt := 255) hx hb dL_rows_243 (by decide) (fun hc => ?_) (fun hc => ?_)
    · replace hf := it_t hf hc
      exact cut_255 x1 x3 x5 x6 x8 _ _ _ h (lv_sub hl [0, 1, 2, 3, 4, 6] rfl) hf
    · replace hf := it_f hf hc
      refine lv_iload hx hb dL_rows_246 (lv_at hl 7 rfl) ?_
      refine lv_if_eq (tgt := 255) hx hb dL_rows_248 (by decide) (fun hc => ?_) (fun hc => ?_)
      · replace hf := it_t hf hc
        exact cut_255 x1 x3 x5 x6 x8 _ _ _ h (lv_sub hl [0, 1, 2, 3, 4, 6] rfl) hf
      · replace hf := it_f hf hc
        refine lv_iconst (v := 1) hx hb dL_rows_251 (by decide) ?_
        refine lv_goto (tgt := 256) hx hb dL_rows_252 (by decide) ?_
        refine lv_istore (lv' := [(7, .int 1), (0, .ref d0), (1, .int x1), (3, .int x3), (5, .int x5), (6, .int x6), (8, .int x8), (9, .int x9)]) hx hb dL_rows_256 hl (by decide) rfl (fun ls hl => ?_)
        exact cut_258 x1 x3 x5 x6 1 x8 _ _ _ h (lv_sub hl [1, 2, 3, 4, 5, 0, 6] rfl) hf
  have cut_238 : ∀ (x1 : Int32) (x3 : Int32) (x6 : Int32) (x7 : Int32) (x8 : Int32) (x9 : Int32) (H : Heap) (locs : List Loc) (ls : Array Slot), Hx s G A (wLDc cI cC d0 b0 sl a0 a1 a2 a3 a4 a5 a6 a7 a8 p0 p1 h0 h1 nu va qu sc lo wt ch pl pa po pf ps ho hs) H locs → lv_has ls 11 [(0, .ref d0), (1, .int x1), (3, .int x3), (6, .int x6), (7, .int x7), (8, .int x8), (9, .int x9)] → fL_rows_238 nu qu sc lo pl hs x1 x3 x6 x7 x8 x9 = some (rv) → W p l e rm_L_rows s m args below meth c H locs 0 0 (MQ below (Qx G (some (.int rv)) (wLDc cI cC d0 b0 sl a0 a1 a2 a3 a4 a5 a6 a7 a8 p0 p1 h0 h1 nu va qu sc lo wt ch pl pa po pf ps ho hs) A) args s 0 0 A) (F0 m 238 ls []) := by
    intro x1 x3 x6 x7 x8 x9 H locs ls h hl hf
    unfold fL_rows_238 at hf
    refine lv_iconst (v := 0) hx hb dL_rows_238 (by decide) ?_
    refine lv_istore (lv' := [(5, .int 0), (0, .ref d0), (1, .int x1), (3, .int x3), (6, .int x6), (7, .int x7), (8, .int x8), (9, .int x9)]) hx hb dL_rows_239 hl (by decide) rfl (fun ls hl => ?_)
    exact cut_241 x1 x3 0 x6 x7 x8 x9 _ _ _ h (lv_sub hl [1, 2, 3, 0, 4, 5, 6, 7] rfl) hf
  have cut_234 : ∀ (x1 : Int32) (x3 : Int32) (x6 : Int32) (x7 : Int32) (x8 : Int32) (x9 : Int32) (H : Heap) (locs : List Loc) (ls : Array Slot), Hx s G A (wLDc cI cC d0 b0 sl a0 a1 a2 a3 a4 a5 a6 a7 a8 p0 p1 h0 h1 nu va qu sc lo wt ch pl pa po pf ps ho hs) H locs → lv_has ls 11 [(0, .ref d0), (1, .int x1), (3, .int x3), (6, .int x6), (7, .int x7), (8, .int x8), (9, .int x9)] → fL_rows_234 nu qu sc lo pl hs x1 x3 x6 x7 x8 x9 = some (rv) → W p l e rm_L_rows s m args below meth c H locs 0 0 (MQ below (Qx G (some (.int rv)) (wLDc cI cC d0 b0 sl a0 a1 a2 a3 a4 a5 a6 a7 a8 p0 p1 h0 h1 nu va qu sc lo wt ch pl pa po pf ps ho hs) A) args s 0 0 A) (F0 m 234 ls []) := by
    intro x1 x3 x6 x7 x8 x9 H locs ls h hl hf
    unfold fL_rows_234 at hf
    refine lv_iconst (v := 1) hx hb dL_rows_234 (by decide) ?_
    refine lv_goto (tgt := 239) hx hb dL_rows_235 (by decide) ?_
    refine lv_istore (lv' := [(5, .int 1), (0, .ref d0), (1, .int x1), (3, .int x3), (6, .int x6), (7, .int x7), (8, .int x8), (9, .int x9)]) hx hb dL_rows_239 hl (by decide) rfl (fun ls hl => ?_)
    exact cut_241 x1 x3 1 x6 x7 x8 x9 _ _ _ h (lv_sub hl [1, 2, 3, 0, 4, 5, 6, 7] rfl) hf
  have cut_219 : ∀ (x1 : Int32) (x3 : Int32) (x6 : Int32) (x7 : Int32) (x8 : Int32) (x9 : Int32) (H : Heap) (locs : List Loc) (ls : Array Slot), Hx s G A (wLDc cI cC d0 b0 sl a0 a1 a2 a3 a4 a5 a6 a7 a8 p0 p1 h0 h1 nu va qu sc lo wt ch pl pa po pf ps ho hs) H locs → lv_has ls 11 [(0, .ref d0), (1, .int x1), (3, .int x3), (6, .int x6), (7, .int x7), (8, .int x8), (9, .int x9)] → fL_rows_219 nu qu sc lo pl hs x1 x3 x6 x7 x8 x9 = some (rv) → W p l e rm_L_rows s m args below meth c H locs 0 0 (MQ below (Qx G (some (.int rv)) (wLDc cI cC d0 b0 sl a0 a1 a2 a3 a4 a5 a6 a7 a8 p0 p1 h0 h1 nu va qu sc lo wt ch pl pa po pf ps ho hs) A) args s 0 0 A) (F0 m 219 ls []) := by
    intro x1 x3 x6 x7 x8 x9 H locs ls h hl hf
    unfold fL_rows_219 at hf
    refine lv_iload hx hb dL_rows_219 (lv_at hl 5 rfl) ?_
    refine lv_aload_n hx hb dL_rows_221 rfl (lv_at hl 0 rfl) ?_
    refine lv_iconst (v := 5) hx hb dL_rows_222 (by decide) ?_
    obtain ⟨r_1, hq_2, hf⟩ := ob1_use hf
    refine r_callV C h (cw_L_rows_X4_count_9 C.hts) (rest := [.int x8]) (ci := 4) (N := 5) (Cn := RX4) (T := TX4) (c_X4_count l G cI cC cZ X d0 b0 sl a0 a1 a2 a3 a4 a5 a6 a7 a8 p0 p1 h0 h1 nu va qu sc lo wt ch pl pa po pf ps ho hs (5 : Int32) r_1 hq_2) [0, 1, 2, 3, 4, 5, 6, 7, 8, 9, 10, 11, 12] rfl rfl rfl rfl 0 rfl rfl hl.1 rfl (Nat.le_of_ble_eq_true rfl) ⟨Nat.le_of_ble_eq_true rfl, Nat.le_of_ble_eq_true rfl⟩ (wLDc cI cC d0 b0 sl a0 a1 a2 a3 a4 a5 a6 a7 a8 p0 p1 h0 h1 nu va qu sc lo wt ch pl pa po pf ps ho hs) rfl rfl dL_rows_223 (fun H locs h => ?_)
    refine lv_icmp_lt (tgt := 234) hx hb dL_rows_226 (by decide) (fun hc => ?_) (fun hc => ?_)
    · replace hf := it_t hf hc
      exact cut_234 x1 x3 x6 x7 x8 x9 _ _ _ h (lv_sub hl [0, 1, 2, 3, 4, 5, 6] rfl) hf
    · replace hf := it_f hf hc
      refine lv_iload hx hb dL_rows_229 (lv_at hl 6 rfl) ?_
      refine lv_if_ne (tgt := 238) hx hb dL_rows_231 (by decide) (fun hc => ?_) (fun hc => ?_)
      · replace hf := it_f hf hc
        exact cut_238 x1 x3 x6 x7 x8 x9 _ _ _ h (lv_sub hl [0, 1, 2, 3, 4, 5, 6] rfl) hf
      · replace hf := it_t hf hc
        exact cut_234 x1 x3 x6 x7 x8 x9 _ _ _ h (lv_sub hl [0, 1, 2, 3, 4, 5, 6] rfl) hf
  have cut_199 : ∀ (x1 : Int32) (x3 : Int32) (x6 : Int32) (x7 : Int32) (x8 : Int32) (x9 : Int32) (H : Heap) (locs : List Loc) (ls : Array Slot), Hx s G A (wLDc cI cC d0 b0 sl a0 a1 a2 a3 a4 a5 a6 a7 a8 p0 p1 h0 h1 nu va qu sc lo wt ch pl pa po pf ps ho hs) H locs → lv_has ls 11 [(0, .ref d0), (1, .int x1), (3, .int x3), (6, .int x6), (7, .int x7), (8, .int x8), (9, .int x9)] → fL_rows_199 nu qu sc lo pl hs x1 x3 x6 x7 x8 x9 = some (rv) → W p l e rm_L_rows s m args below meth c H locs 0 0 (MQ below (Qx G (some (.int rv)) (wLDc cI cC d0 b0 sl a0 a1 a2 a3 a4 a5 a6 a7 a8 p0 p1 h0 h1 nu va qu sc lo wt ch pl pa po pf ps ho hs) A) args s 0 0 A) (F0 m 199 ls []) := by
    intro x1 x3 x6 x7 x8 x9 H locs ls h hl hf
    unfold fL_rows_199 at hf
    refine lv_iload hx hb dL_rows_199 (lv_at hl 6 rfl) ?_
    refine lv_aload_n hx hb dL_rows_201 rfl (lv_at hl 0 rfl) ?_
    refine lv_iload hx hb dL_rows_202 (lv_at hl 5 rfl) ?_
    refine lv_iconst (v := 2) hx hb dL_rows_204 (by decide) ?_
    obtain ⟨r_1, hq_2, hf⟩ := ob1_use hf
    refine r_callV C h (cw_L_rows_X4_row_19 C.hts) (rest := [.int x9]) (ci := 4) (N := 5) (Cn := RX4) (T := TX4) (c_X4_row l G cI cC cZ X d0 b0 sl h0 p0 a0 a1 a2 a3 a4 a5 a6 a7 a8 nu va qu sc lo wt x8 (2 : Int32) r_1 hq_2) [0, 1, 2, 3, 4, 5, 6, 7, 8, 9] rfl rfl rfl rfl 0 rfl rfl hl.1 rfl (Nat.le_of_ble_eq_true rfl) ⟨Nat.le_of_ble_eq_true rfl, Nat.le_of_ble_eq_true rfl⟩ (wLDc cI cC d0 b0 sl a0 a1 a2 a3 a4 a5 a6 a7 a8 p0 p1 h0 h1 nu va qu sc lo wt ch pl pa po pf ps ho hs) rfl rfl dL_rows_205 (fun H locs h => ?_)
    refine lv_if_lt (tgt := 215) hx hb dL_rows_208 (by decide) (fun hc => ?_) (fun hc => ?_)
    · replace hf := it_t hf hc
      refine lv_iconst (v := 0) hx hb dL_rows_215 (by decide) ?_
      refine lv_icmp_ne (tgt := 238) hx hb dL_rows_216 (by decide) (fun hc => ?_) (fun hc => ?_)
      · replace hf := it_f hf hc
        exact cut_238 x1 x3 x6 x7 x8 x9 _ _ _ h (lv_sub hl [0, 1, 2, 3, 4, 5, 6] rfl) hf
      · replace hf := it_t hf hc
        exact cut_219 x1 x3 x6 x7 x8 x9 _ _ _ h (lv_sub hl [0, 1, 2, 3, 4, 5, 6] rfl) hf
    · replace hf := it_f hf hc
      refine lv_iconst (v := 1) hx hb dL_rows_211 (by decide) ?_
      refine lv_goto (tgt := 216) hx hb dL_rows_212 (by decide) ?_
      refine lv_icmp_ne (tgt := 238) hx hb dL_rows_216 (by decide) (fun hc => ?_) (fun hc => ?_)
      · replace hf := it_f hf hc
        exact cut_238 x1 x3 x6 x7 x8 x9 _ _ _ h (lv_sub hl [0, 1, 2, 3, 4, 5, 6] rfl) hf
      · replace hf := it_t hf hc
        exact cut_219 x1 x3 x6 x7 x8 x9 _ _ _ h (lv_sub hl [0, 1, 2, 3, 4, 5, 6] rfl) hf
  have cut_164 : ∀ (x1 : Int32) (x3 : Int32) (x6 : Int32) (x7 : Int32) (x8 : Int32) (x9 : Int32) (H : Heap) (locs : List Loc) (ls : Array Slot), Hx s G A (wLDc cI cC d0 b0 sl a0 a1 a2 a3 a4 a5 a6 a7 a8 p0 p1 h0 h1 nu va qu sc lo wt ch pl pa po pf ps ho hs) H locs → lv_has ls 11 [(0, .ref d0), (1, .int x1), (3, .int x3), (6, .int x6), (7, .int x7), (8, .int x8), (9, .int x9)] → fL_rows_164 nu qu sc lo pl hs x1 x3 x6 x7 x8 x9 = some (rv) → W p l e rm_L_rows s m args below meth c H locs 0 0 (MQ below (Qx G (some (.int rv)) (wLDc cI cC d0 b0 sl a0 a1 a2 a3 a4 a5 a6 a7 a8 p0 p1 h0 h1 nu va qu sc lo wt ch pl pa po pf ps ho hs) A) args s 0 0 A) (F0 m 164 ls []) := by
    intro x1 x3 x6 x7 x8 x9 H locs ls h hl hf
    unfold fL_rows_164 at hf
    refine lv_aload_n hx hb dL_rows_164 rfl (lv_at hl 0 rfl) ?_
    refine lv_iload hx hb dL_rows_165 (lv_at hl 5 rfl) ?_
    refine lv_iconst (v := 0) hx hb dL_rows_167 (by decide) ?_
    obtain ⟨r_1, hq_2, hf⟩ := ob1_use hf
    refine r_callV C h (cw_L_rows_X4_row_19 C.hts) (rest := []) (ci := 4) (N := 5) (Cn := RX4) (T := TX4) (c_X4_row l G cI cC cZ X d0 b0 sl h0 p0 a0 a1 a2 a3 a4 a5 a6 a7 a8 nu va qu sc lo wt x8 (0 : Int32) r_1 hq_2) [0, 1, 2, 3, 4, 5, 6, 7, 8, 9] rfl rfl rfl rfl 0 rfl rfl hl.1 rfl (Nat.le_of_ble_eq_true rfl) ⟨Nat.le_of_ble_eq_true rfl, Nat.le_of_ble_eq_true rfl⟩ (wLDc cI cC d0 b0 sl a0 a1 a2 a3 a4 a5 a6 a7 a8 p0 p1 h0 h1 nu va qu sc lo wt ch pl pa po pf ps ho hs) rfl rfl dL_rows_168 (fun H locs h => ?_)
    refine lv_bipush (v := (-6)) hx hb dL_rows_171 (by decide) ?_
    refine lv_icmp_ne (tgt := 180) hx hb dL_rows_173 (by decide) (fun hc => ?_) (fun hc => ?_)
    · replace hf := it_f hf hc
      refine lv_iconst (v := 0) hx hb dL_rows_180 (by decide) ?_
      refine lv_iload hx hb dL_rows_181 (lv_at hl 5 rfl) ?_
      refine lv_aload_n hx hb dL_rows_183 rfl (lv_at hl 0 rfl) ?_
      refine lv_iconst (v := 5) hx hb dL_rows_184 (by decide) ?_
      obtain ⟨r_3, hq_4, hf⟩ := ob1_use hf
      refine r_callV C h (cw_L_rows_X4_count_9 C.hts) (rest := [.int x8, .int 0]) (ci := 4) (N := 5) (Cn := RX4) (T := TX4) (c_X4_count l G cI cC cZ X d0 b0 sl a0 a1 a2 a3 a4 a5 a6 a7 a8 p0 p1 h0 h1 nu va qu sc lo wt ch pl pa po pf ps ho hs (5 : Int32) r_3 hq_4) [0, 1, 2, 3, 4, 5, 6, 7, 8, 9, 10, 11, 12] rfl rfl rfl rfl 0 rfl rfl hl.1 rfl (Nat.le_of_ble_eq_true rfl) ⟨Nat.le_of_ble_eq_true rfl, Nat.le_of_ble_eq_true rfl⟩ (wLDc cI cC d0 b0 sl a0 a1 a2 a3 a4 a5 a6 a7 a8 p0 p1 h0 h1 nu va qu sc lo wt ch pl pa po pf ps ho hs) rfl rfl dL_rows_185 (fun H locs h => ?_)
      refine lv_icmp_lt (tgt := 195) hx hb dL_rows_188 (by decide) (fun hc => ?_) (fun hc => ?_)
      · replace hf := it_t hf hc
        refine lv_iconst (v := 0) hx hb dL_rows_195 (by decide) ?_
        refine lv_icmp_ne (tgt := 238) hx hb dL_rows_196 (by decide) (fun hc => absurd hc (by decide)) (fun _ => ?_)
        exact cut_199 x1 x3 x6 x7 x8 x9 _ _ _ h (lv_sub hl [0, 1, 2, 3, 4, 5, 6] rfl) hf
      · replace hf := it_f hf hc
        refine lv_iconst (v := 1) hx hb dL_rows_191 (by decide) ?_
        refine lv_goto (tgt := 196) hx hb dL_rows_192 (by decide) ?_
        refine lv_icmp_ne (tgt := 238) hx hb dL_rows_196 (by decide) (fun _ => ?_) (fun hc => absurd hc (by decide))
        exact cut_238 x1 x3 x6 x7 x8 x9 _ _ _ h (lv_sub hl [0, 1, 2, 3, 4, 5, 6] rfl) hf
    · replace hf := it_t hf hc
      refine lv_iconst (v := 1) hx hb dL_rows_176 (by decide) ?_
      refine lv_goto (tgt := 181) hx hb dL_rows_177 (by decide) ?_
      refine lv_iload hx hb dL_rows_181 (lv_at hl 5 rfl) ?_
      refine lv_aload_n hx hb dL_rows_183 rfl (lv_at hl 0 rfl) ?_
      refine lv_iconst (v := 5) hx hb dL_rows_184 (by decide) ?_
      obtain ⟨r_5, hq_6, hf⟩ := ob1_use hf
      refine r_callV C h (cw_L_rows_X4_count_9 C.hts) (rest := [.int x8, .int 1]) (ci := 4) (N := 5) (Cn := RX4) (T := TX4) (c_X4_count l G cI cC cZ X d0 b0 sl a0 a1 a2 a3 a4 a5 a6 a7 a8 p0 p1 h0 h1 nu va qu sc lo wt ch pl pa po pf ps ho hs (5 : Int32) r_5 hq_6) [0, 1, 2, 3, 4, 5, 6, 7, 8, 9, 10, 11, 12] rfl rfl rfl rfl 0 rfl rfl hl.1 rfl (Nat.le_of_ble_eq_true rfl) ⟨Nat.le_of_ble_eq_true rfl, Nat.le_of_ble_eq_true rfl⟩ (wLDc cI cC d0 b0 sl a0 a1 a2 a3 a4 a5 a6 a7 a8 p0 p1 h0 h1 nu va qu sc lo wt ch pl pa po pf ps ho hs) rfl rfl dL_rows_185 (fun H locs h => ?_)
      refine lv_icmp_lt (tgt := 195) hx hb dL_rows_188 (by decide) (fun hc => ?_) (fun hc => ?_)
      · replace hf := it_t hf hc
        refine lv_iconst (v := 0) hx hb dL_rows_195 (by decide) ?_
        refine lv_icmp_ne (tgt := 238) hx hb dL_rows_196 (by decide) (fun _ => ?_) (fun hc => absurd hc (by decide))
        exact cut_238 x1 x3 x6 x7 x8 x9 _ _ _ h (lv_sub hl [0, 1, 2, 3, 4, 5, 6] rfl) hf
      · replace hf := it_f hf hc
        refine lv_iconst (v := 1) hx hb dL_rows_191 (by decide) ?_
        refine lv_goto (tgt := 196) hx hb dL_rows_192 (by decide) ?_
        refine lv_icmp_ne (tgt := 238) hx hb dL_rows_196 (by decide) (fun hc => absurd hc (by decide)) (fun _ => ?_)
        exact cut_199 x1 x3 x6 x7 x8 x9 _ _ _ h (lv_sub hl [0, 1, 2, 3, 4, 5, 6] rfl) hf
  have cut_136 : ∀ (n : Nat) (x1 : Int32) (x3 : Int32) (x5 : Int32) (x6 : Int32) (x7 : Int32) (x8 : Int32) (H : Heap) (locs : List Loc) (ls : Array Slot), Hx s G A (wLDc cI cC d0 b0 sl a0 a1 a2 a3 a4 a5 a6 a7 a8 p0 p1 h0 h1 nu va qu sc lo wt ch pl pa po pf ps ho hs) H locs → lv_has ls 11 [(0, .ref d0), (1, .int x1), (3, .int x3), (5, .int x5), (6, .int x6), (7, .int x7), (8, .int x8)] → fL_rows_136 n nu qu sc lo pl hs x1 x3 x5 x6 x7 x8 = some (rv) → W p l e rm_L_rows s m args below meth c H locs 0 0 (MQ below (Qx G (some (.int rv)) (wLDc cI cC d0 b0 sl a0 a1 a2 a3 a4 a5 a6 a7 a8 p0 p1 h0 h1 nu va qu sc lo wt ch pl pa po pf ps ho hs) A) args s 0 0 A) (F0 m 136 ls []) := by
    intro n
    induction n with
    | zero =>
      intro x1 x3 x5 x6 x7 x8 H locs ls h hl hf
      exact (nn_some _ hf).elim
    | succ n ih =>
      intro x1 x3 x5 x6 x7 x8 H locs ls h hl hf
      have hf : fL_rows_136_b (fL_rows_136 n) nu qu sc lo pl hs x1 x3 x5 x6 x7 x8 = some (rv) := hf
      unfold fL_rows_136_b at hf
      refine lv_iload hx hb dL_rows_136 (lv_at hl 6 rfl) ?_
      refine lv_iload_n hx hb dL_rows_138 rfl (lv_at hl 1 rfl) ?_
      refine lv_icmp_ge (tgt := 279) hx hb dL_rows_139 (by decide) (fun hc => ?_) (fun hc => ?_)
      · replace hf := it_t hf hc
        exact cut_279 x3 x5 x6 _ _ _ h (lv_sub hl [0, 2, 3, 4] rfl) hf
      · replace hf := it_f hf hc
        refine lv_iload hx hb dL_rows_142 (lv_at hl 3 rfl) ?_
        refine lv_if_eq (tgt := 279) hx hb dL_rows_144 (by decide) (fun hc => ?_) (fun hc => ?_)
        · replace hf := it_t hf hc
          exact cut_279 x3 x5 x6 _ _ _ h (lv_sub hl [0, 2, 3, 4] rfl) hf
        · replace hf := it_f hf hc
          refine lv_aload_n hx hb dL_rows_147 rfl (lv_at hl 0 rfl) ?_
          refine lv_iload hx hb dL_rows_148 (lv_at hl 6 rfl) ?_
          refine lv_iconst (v := 1) hx hb dL_rows_150 (by decide) ?_
          obtain ⟨r_1, hq_2, hf⟩ := ob1_use hf
          refine r_callV C h (cw_L_rows_X4_row_19 C.hts) (rest := []) (ci := 4) (N := 5) (Cn := RX4) (T := TX4) (c_X4_row l G cI cC cZ X d0 b0 sl h0 p0 a0 a1 a2 a3 a4 a5 a6 a7 a8 nu va qu sc lo wt x8 (1 : Int32) r_1 hq_2) [0, 1, 2, 3, 4, 5, 6, 7, 8, 9] rfl rfl rfl rfl 0 rfl rfl hl.1 rfl (Nat.le_of_ble_eq_true rfl) ⟨Nat.le_of_ble_eq_true rfl, Nat.le_of_ble_eq_true rfl⟩ (wLDc cI cC d0 b0 sl a0 a1 a2 a3 a4 a5 a6 a7 a8 p0 p1 h0 h1 nu va qu sc lo wt ch pl pa po pf ps ho hs) rfl rfl dL_rows_151 (fun H locs h => ?_)
          refine lv_if_lt (tgt := 161) hx hb dL_rows_154 (by decide) (fun hc => ?_) (fun hc => ?_)
          · replace hf := it_t hf hc
            refine lv_iconst (v := 0) hx hb dL_rows_161 (by decide) ?_
            refine lv_istore (lv' := [(9, .int 0), (0, .ref d0), (1, .int x1), (3, .int x3), (5, .int x5), (6, .int x6), (7, .int x7), (8, .int x8)]) hx hb dL_rows_162 hl (by decide) rfl (fun ls hl => ?_)
            exact cut_164 x1 x3 x6 x7 x8 0 _ _ _ h (lv_sub hl [1, 2, 3, 5, 6, 7, 0] rfl) hf
          · replace hf := it_f hf hc
            refine lv_iconst (v := 1) hx hb dL_rows_157 (by decide) ?_
            refine lv_goto (tgt := 162) hx hb dL_rows_158 (by decide) ?_
            refine lv_istore (lv' := [(9, .int 1), (0, .ref d0), (1, .int x1), (3, .int x3), (5, .int x5), (6, .int x6), (7, .int x7), (8, .int x8)]) hx hb dL_rows_162 hl (by decide) rfl (fun ls hl => ?_)
            exact cut_164 x1 x3 x6 x7 x8 1 _ _ _ h (lv_sub hl [1, 2, 3, 5, 6, 7, 0] rfl) hf
  have cut_127 : ∀ (x1 : Int32) (x3 : Int32) (x5 : Int32) (H : Heap) (locs : List Loc) (ls : Array Slot), Hx s G A (wLDc cI cC d0 b0 sl a0 a1 a2 a3 a4 a5 a6 a7 a8 p0 p1 h0 h1 nu va qu sc lo wt ch pl pa po pf ps ho hs) H locs → lv_has ls 11 [(0, .ref d0), (1, .int x1), (3, .int x3), (5, .int x5)] → fL_rows_127 nu qu sc lo pl hs x1 x3 x5 = some (rv) → W p l e rm_L_rows s m args below meth c H locs 0 0 (MQ below (Qx G (some (.int rv)) (wLDc cI cC d0 b0 sl a0 a1 a2 a3 a4 a5 a6 a7 a8 p0 p1 h0 h1 nu va qu sc lo wt ch pl pa po pf ps ho hs) A) args s 0 0 A) (F0 m 127 ls []) := by
    intro x1 x3 x5 H locs ls h hl hf
    unfold fL_rows_127 at hf
    refine lv_iconst (v := 0) hx hb dL_rows_127 (by decide) ?_
    refine lv_istore (lv' := [(6, .int 0), (0, .ref d0), (1, .int x1), (3, .int x3), (5, .int x5)]) hx hb dL_rows_128 hl (by decide) rfl (fun ls hl => ?_)
    refine lv_iconst (v := 1) hx hb dL_rows_130 (by decide) ?_
    refine lv_istore (lv' := [(7, .int 1), (6, .int 0), (0, .ref d0), (1, .int x1), (3, .int x3), (5, .int x5)]) hx hb dL_rows_131 hl (by decide) rfl (fun ls hl => ?_)
    refine lv_iconst (v := 0) hx hb dL_rows_133 (by decide) ?_
    refine lv_istore (lv' := [(8, .int 0), (7, .int 1), (6, .int 0), (0, .ref d0), (1, .int x1), (3, .int x3), (5, .int x5)]) hx hb dL_rows_134 hl (by decide) rfl (fun ls hl => ?_)
    exact cut_136 KF x1 x3 x5 0 1 0 _ _ _ h (lv_sub hl [3, 4, 5, 6, 2, 1, 0] rfl) hf
  have cut_124 : ∀ (x1 : Int32) (x3 : Int32) (H : Heap) (locs : List Loc) (ls : Array Slot), Hx s G A (wLDc cI cC d0 b0 sl a0 a1 a2 a3 a4 a5 a6 a7 a8 p0 p1 h0 h1 nu va qu sc lo wt ch pl pa po pf ps ho hs) H locs → lv_has ls 11 [(0, .ref d0), (1, .int x1), (3, .int x3)] → fL_rows_124 nu qu sc lo pl hs x1 x3 = some (rv) → W p l e rm_L_rows s m args below meth c H locs 0 0 (MQ below (Qx G (some (.int rv)) (wLDc cI cC d0 b0 sl a0 a1 a2 a3 a4 a5 a6 a7 a8 p0 p1 h0 h1 nu va qu sc lo wt ch pl pa po pf ps ho hs) A) args s 0 0 A) (F0 m 124 ls []) := by
    intro x1 x3 H locs ls h hl hf
    unfold fL_rows_124 at hf
    refine lv_iconst (v := 0) hx hb dL_rows_124 (by decide) ?_
    refine lv_istore (lv' := [(5, .int 0), (0, .ref d0), (1, .int x1), (3, .int x3)]) hx hb dL_rows_125 hl (by decide) rfl (fun ls hl => ?_)
    exact cut_127 x1 x3 0 _ _ _ h (lv_sub hl [1, 2, 3, 0] rfl) hf
  have cut_28 : ∀ (x1 : Int32) (x2 : Int32) (H : Heap) (locs : List Loc) (ls : Array Slot), Hx s G A (wLDc cI cC d0 b0 sl a0 a1 a2 a3 a4 a5 a6 a7 a8 p0 p1 h0 h1 nu va qu sc lo wt ch pl pa po pf ps ho hs) H locs → lv_has ls 11 [(0, .ref d0), (1, .int x1), (2, .int x2)] → fL_rows_28 nu qu sc lo pl hs x1 x2 = some (rv) → W p l e rm_L_rows s m args below meth c H locs 0 0 (MQ below (Qx G (some (.int rv)) (wLDc cI cC d0 b0 sl a0 a1 a2 a3 a4 a5 a6 a7 a8 p0 p1 h0 h1 nu va qu sc lo wt ch pl pa po pf ps ho hs) A) args s 0 0 A) (F0 m 28 ls []) := by
    intro x1 x2 H locs ls h hl hf
    unfold fL_rows_28 at hf
    refine lv_aload_n hx hb dL_rows_28 rfl (lv_at hl 0 rfl) ?_
    refine lv_bipush (v := 12) hx hb dL_rows_29 (by decide) ?_
    obtain ⟨r_1, hq_2, hf⟩ := ob1_use hf
    refine r_callV C h (cw_L_rows_X4_count_9 C.hts) (rest := []) (ci := 4) (N := 5) (Cn := RX4) (T := TX4) (c_X4_count l G cI cC cZ X d0 b0 sl a0 a1 a2 a3 a4 a5 a6 a7 a8 p0 p1 h0 h1 nu va qu sc lo wt ch pl pa po pf ps ho hs (12 : Int32) r_1 hq_2) [0, 1, 2, 3, 4, 5, 6, 7, 8, 9, 10, 11, 12] rfl rfl rfl rfl 0 rfl rfl hl.1 rfl (Nat.le_of_ble_eq_true rfl) ⟨Nat.le_of_ble_eq_true rfl, Nat.le_of_ble_eq_true rfl⟩ (wLDc cI cC d0 b0 sl a0 a1 a2 a3 a4 a5 a6 a7 a8 p0 p1 h0 h1 nu va qu sc lo wt ch pl pa po pf ps ho hs) rfl rfl dL_rows_31 (fun H locs h => ?_)
    refine lv_aload_n hx hb dL_rows_34 rfl (lv_at hl 0 rfl) ?_
    refine lv_bipush (v := 13) hx hb dL_rows_35 (by decide) ?_
    obtain ⟨r_3, hq_4, hf⟩ := ob1_use hf
    refine r_callV C h (cw_L_rows_X4_count_9 C.hts) (rest := [.int r_1]) (ci := 4) (N := 5) (Cn := RX4) (T := TX4) (c_X4_count l G cI cC cZ X d0 b0 sl a0 a1 a2 a3 a4 a5 a6 a7 a8 p0 p1 h0 h1 nu va qu sc lo wt ch pl pa po pf ps ho hs (13 : Int32) r_3 hq_4) [0, 1, 2, 3, 4, 5, 6, 7, 8, 9, 10, 11, 12] rfl rfl rfl rfl 0 rfl rfl hl.1 rfl (Nat.le_of_ble_eq_true rfl) ⟨Nat.le_of_ble_eq_true rfl, Nat.le_of_ble_eq_true rfl⟩ (wLDc cI cC d0 b0 sl a0 a1 a2 a3 a4 a5 a6 a7 a8 p0 p1 h0 h1 nu va qu sc lo wt ch pl pa po pf ps ho hs) rfl rfl dL_rows_37 (fun H locs h => ?_)
    refine lv_iadd hx hb dL_rows_40 ?_
    refine lv_aload_n hx hb dL_rows_41 rfl (lv_at hl 0 rfl) ?_
    refine lv_bipush (v := 14) hx hb dL_rows_42 (by decide) ?_
    obtain ⟨r_5, hq_6, hf⟩ := ob1_use hf
    refine r_callV C h (cw_L_rows_X4_count_9 C.hts) (rest := [.int (r_1 + r_3)]) (ci := 4) (N := 5) (Cn := RX4) (T := TX4) (c_X4_count l G cI cC cZ X d0 b0 sl a0 a1 a2 a3 a4 a5 a6 a7 a8 p0 p1 h0 h1 nu va qu sc lo wt ch pl pa po pf ps ho hs (14 : Int32) r_5 hq_6) [0, 1, 2, 3, 4, 5, 6, 7, 8, 9, 10, 11, 12] rfl rfl rfl rfl 0 rfl rfl hl.1 rfl (Nat.le_of_ble_eq_true rfl) ⟨Nat.le_of_ble_eq_true rfl, Nat.le_of_ble_eq_true rfl⟩ (wLDc cI cC d0 b0 sl a0 a1 a2 a3 a4 a5 a6 a7 a8 p0 p1 h0 h1 nu va qu sc lo wt ch pl pa po pf ps ho hs) rfl rfl dL_rows_44 (fun H locs h => ?_)
    refine lv_iadd hx hb dL_rows_47 ?_
    refine lv_topi (fun x3_7 ex3_7 => ?_)
    replace hf := nm_use hf ex3_7
    refine lv_istore_n (lv' := [(3, .int x3_7), (0, .ref d0), (1, .int x1), (2, .int x2)]) hx hb dL_rows_48 rfl hl (by decide) rfl (fun ls hl => ?_)
    refine lv_aload_n hx hb dL_rows_49 rfl (lv_at hl 1 rfl) ?_
    refine lv_iconst (v := 5) hx hb dL_rows_50 (by decide) ?_
    obtain ⟨r_8, hq_9, hf⟩ := ob1_use hf
    refine r_callV C h (cw_L_rows_X4_count_9 C.hts) (rest := []) (ci := 4) (N := 5) (Cn := RX4) (T := TX4) (c_X4_count l G cI cC cZ X d0 b0 sl a0 a1 a2 a3 a4 a5 a6 a7 a8 p0 p1 h0 h1 nu va qu sc lo wt ch pl pa po pf ps ho hs (5 : Int32) r_8 hq_9) [0, 1, 2, 3, 4, 5, 6, 7, 8, 9, 10, 11, 12] rfl rfl rfl rfl 0 rfl rfl hl.1 rfl (Nat.le_of_ble_eq_true rfl) ⟨Nat.le_of_ble_eq_true rfl, Nat.le_of_ble_eq_true rfl⟩ (wLDc cI cC d0 b0 sl a0 a1 a2 a3 a4 a5 a6 a7 a8 p0 p1 h0 h1 nu va qu sc lo wt ch pl pa po pf ps ho hs) rfl rfl dL_rows_51 (fun H locs h => ?_)
    refine lv_iconst (v := 2) hx hb dL_rows_54 (by decide) ?_
    refine lv_aload_n hx hb dL_rows_55 rfl (lv_at hl 1 rfl) ?_
    refine lv_iconst (v := 3) hx hb dL_rows_56 (by decide) ?_
    obtain ⟨r_10, hq_11, hf⟩ := ob1_use hf
    refine r_callV C h (cw_L_rows_X4_count_9 C.hts) (rest := [.int 2, .int r_8]) (ci := 4) (N := 5) (Cn := RX4) (T := TX4) (c_X4_count l G cI cC cZ X d0 b0 sl a0 a1 a2 a3 a4 a5 a6 a7 a8 p0 p1 h0 h1 nu va qu sc lo wt ch pl pa po pf ps ho hs (3 : Int32) r_10 hq_11) [0, 1, 2, 3, 4, 5, 6, 7, 8, 9, 10, 11, 12] rfl rfl rfl rfl 0 rfl rfl hl.1 rfl (Nat.le_of_ble_eq_true rfl) ⟨Nat.le_of_ble_eq_true rfl, Nat.le_of_ble_eq_true rfl⟩ (wLDc cI cC d0 b0 sl a0 a1 a2 a3 a4 a5 a6 a7 a8 p0 p1 h0 h1 nu va qu sc lo wt ch pl pa po pf ps ho hs) rfl rfl dL_rows_57 (fun H locs h => ?_)
    refine lv_imul hx hb dL_rows_60 ?_
    refine lv_isub hx hb dL_rows_61 ?_
    refine lv_iload_n hx hb dL_rows_62 rfl (lv_at hl 3 rfl) ?_
    refine lv_isub hx hb dL_rows_63 ?_
    refine lv_aload_n hx hb dL_rows_64 rfl (lv_at hl 1 rfl) ?_
    refine lv_bipush (v := 6) hx hb dL_rows_65 (by decide) ?_
    obtain ⟨r_12, hq_13, hf⟩ := ob1_use hf
    refine r_callV C h (cw_L_rows_X4_count_9 C.hts) (rest := [.int ((r_8 - (2 * r_10)) - x2)]) (ci := 4) (N := 5) (Cn := RX4) (T := TX4) (c_X4_count l G cI cC cZ X d0 b0 sl a0 a1 a2 a3 a4 a5 a6 a7 a8 p0 p1 h0 h1 nu va qu sc lo wt ch pl pa po pf ps ho hs (6 : Int32) r_12 hq_13) [0, 1, 2, 3, 4, 5, 6, 7, 8, 9, 10, 11, 12] rfl rfl rfl rfl 0 rfl rfl hl.1 rfl (Nat.le_of_ble_eq_true rfl) ⟨Nat.le_of_ble_eq_true rfl, Nat.le_of_ble_eq_true rfl⟩ (wLDc cI cC d0 b0 sl a0 a1 a2 a3 a4 a5 a6 a7 a8 p0 p1 h0 h1 nu va qu sc lo wt ch pl pa po pf ps ho hs) rfl rfl dL_rows_67 (fun H locs h => ?_)
    refine lv_isub hx hb dL_rows_70 ?_
    refine lv_topi (fun x4_14 ex4_14 => ?_)
    replace hf := nm_use hf ex4_14
    refine lv_istore (lv' := [(4, .int x4_14), (3, .int x3_7), (0, .ref d0), (1, .int x1), (2, .int x2)]) hx hb dL_rows_71 hl (by decide) rfl (fun ls hl => ?_)
    refine lv_iload hx hb dL_rows_73 (lv_at hl 0 rfl) ?_
    refine lv_if_lt (tgt := 124) hx hb dL_rows_75 (by decide) (fun hc => ?_) (fun hc => ?_)
    · replace hf := it_t hf hc
      exact cut_124 x1 x3_7 _ _ _ h (lv_sub hl [2, 3, 1] rfl) hf
    · replace hf := it_f hf hc
      refine lv_iload hx hb dL_rows_78 (lv_at hl 0 rfl) ?_
      refine lv_aload_n hx hb dL_rows_80 rfl (lv_at hl 2 rfl) ?_
      refine lv_iconst (v := 4) hx hb dL_rows_81 (by decide) ?_
      obtain ⟨r_15, hq_16, hf⟩ := ob1_use hf
      refine r_callV C h (cw_L_rows_X4_count_9 C.hts) (rest := [.int x4_14]) (ci := 4) (N := 5) (Cn := RX4) (T := TX4) (c_X4_count l G cI cC cZ X d0 b0 sl a0 a1 a2 a3 a4 a5 a6 a7 a8 p0 p1 h0 h1 nu va qu sc lo wt ch pl pa po pf ps ho hs (4 : Int32) r_15 hq_16) [0, 1, 2, 3, 4, 5, 6, 7, 8, 9, 10, 11, 12] rfl rfl rfl rfl 0 rfl rfl hl.1 rfl (Nat.le_of_ble_eq_true rfl) ⟨Nat.le_of_ble_eq_true rfl, Nat.le_of_ble_eq_true rfl⟩ (wLDc cI cC d0 b0 sl a0 a1 a2 a3 a4 a5 a6 a7 a8 p0 p1 h0 h1 nu va qu sc lo wt ch pl pa po pf ps ho hs) rfl rfl dL_rows_82 (fun H locs h => ?_)
      refine lv_icmp_gt (tgt := 124) hx hb dL_rows_85 (by decide) (fun hc => ?_) (fun hc => ?_)
      · replace hf := it_t hf hc
        exact cut_124 x1 x3_7 _ _ _ h (lv_sub hl [2, 3, 1] rfl) hf
      · replace hf := it_f hf hc
        refine lv_aload_n hx hb dL_rows_88 rfl (lv_at hl 2 rfl) ?_
        refine lv_iconst (v := 5) hx hb dL_rows_89 (by decide) ?_
        obtain ⟨r_17, hq_18, hf⟩ := ob1_use hf
        refine r_callV C h (cw_L_rows_X4_count_9 C.hts) (rest := []) (ci := 4) (N := 5) (Cn := RX4) (T := TX4) (c_X4_count l G cI cC cZ X d0 b0 sl a0 a1 a2 a3 a4 a5 a6 a7 a8 p0 p1 h0 h1 nu va qu sc lo wt ch pl pa po pf ps ho hs (5 : Int32) r_17 hq_18) [0, 1, 2, 3, 4, 5, 6, 7, 8, 9, 10, 11, 12] rfl rfl rfl rfl 0 rfl rfl hl.1 rfl (Nat.le_of_ble_eq_true rfl) ⟨Nat.le_of_ble_eq_true rfl, Nat.le_of_ble_eq_true rfl⟩ (wLDc cI cC d0 b0 sl a0 a1 a2 a3 a4 a5 a6 a7 a8 p0 p1 h0 h1 nu va qu sc lo wt ch pl pa po pf ps ho hs) rfl rfl dL_rows_90 (fun H locs h => ?_)
        refine lv_iload_n hx hb dL_rows_93 rfl (lv_at hl 1 rfl) ?_
        refine lv_iload_n hx hb dL_rows_94 rfl (lv_at hl 3 rfl) ?_
        refine lv_imul hx hb dL_rows_95 ?_
        refine lv_aload_n hx hb dL_rows_96 rfl (lv_at hl 2 rfl) ?_
        refine lv_bipush (v := 7) hx hb dL_rows_97 (by decide) ?_
        obtain ⟨r_19, hq_20, hf⟩ := ob1_use hf
        refine r_callV C h (cw_L_rows_X4_count_9 C.hts) (rest := [.int (x3_7 * x1), .int r_17]) (ci := 4) (N := 5) (Cn := RX4) (T := TX4) (c_X4_count l G cI cC cZ X d0 b0 sl a0 a1 a2 a3 a4 a5 a6 a7 a8 p0 p1 h0 h1 nu va qu sc lo wt ch pl pa po pf ps ho hs (7 : Int32) r_19 hq_20) [0, 1, 2, 3, 4, 5, 6, 7, 8, 9, 10, 11, 12] rfl rfl rfl rfl 0 rfl rfl hl.1 rfl (Nat.le_of_ble_eq_true rfl) ⟨Nat.le_of_ble_eq_true rfl, Nat.le_of_ble_eq_true rfl⟩ (wLDc cI cC d0 b0 sl a0 a1 a2 a3 a4 a5 a6 a7 a8 p0 p1 h0 h1 nu va qu sc lo wt ch pl pa po pf ps ho hs) rfl rfl dL_rows_99 (fun H locs h => ?_)
        refine lv_iadd hx hb dL_rows_102 ?_
        refine lv_icmp_ne (tgt := 124) hx hb dL_rows_103 (by decide) (fun hc => ?_) (fun hc => ?_)
        · replace hf := it_f hf hc
          exact cut_124 x1 x3_7 _ _ _ h (lv_sub hl [2, 3, 1] rfl) hf
        · replace hf := it_t hf hc
          refine lv_aload_n hx hb dL_rows_106 rfl (lv_at hl 2 rfl) ?_
          refine lv_bipush (v := 6) hx hb dL_rows_107 (by decide) ?_
          obtain ⟨r_21, hq_22, hf⟩ := ob1_use hf
          refine r_callV C h (cw_L_rows_X4_count_9 C.hts) (rest := []) (ci := 4) (N := 5) (Cn := RX4) (T := TX4) (c_X4_count l G cI cC cZ X d0 b0 sl a0 a1 a2 a3 a4 a5 a6 a7 a8 p0 p1 h0 h1 nu va qu sc lo wt ch pl pa po pf ps ho hs (6 : Int32) r_21 hq_22) [0, 1, 2, 3, 4, 5, 6, 7, 8, 9, 10, 11, 12] rfl rfl rfl rfl 0 rfl rfl hl.1 rfl (Nat.le_of_ble_eq_true rfl) ⟨Nat.le_of_ble_eq_true rfl, Nat.le_of_ble_eq_true rfl⟩ (wLDc cI cC d0 b0 sl a0 a1 a2 a3 a4 a5 a6 a7 a8 p0 p1 h0 h1 nu va qu sc lo wt ch pl pa po pf ps ho hs) rfl rfl dL_rows_109 (fun H locs h => ?_)
          refine lv_aload_n hx hb dL_rows_112 rfl (lv_at hl 2 rfl) ?_
          refine lv_iconst (v := 5) hx hb dL_rows_113 (by decide) ?_
          obtain ⟨r_23, hq_24, hf⟩ := ob1_use hf
          refine r_callV C h (cw_L_rows_X4_count_9 C.hts) (rest := [.int r_21]) (ci := 4) (N := 5) (Cn := RX4) (T := TX4) (c_X4_count l G cI cC cZ X d0 b0 sl a0 a1 a2 a3 a4 a5 a6 a7 a8 p0 p1 h0 h1 nu va qu sc lo wt ch pl pa po pf ps ho hs (5 : Int32) r_23 hq_24) [0, 1, 2, 3, 4, 5, 6, 7, 8, 9, 10, 11, 12] rfl rfl rfl rfl 0 rfl rfl hl.1 rfl (Nat.le_of_ble_eq_true rfl) ⟨Nat.le_of_ble_eq_true rfl, Nat.le_of_ble_eq_true rfl⟩ (wLDc cI cC d0 b0 sl a0 a1 a2 a3 a4 a5 a6 a7 a8 p0 p1 h0 h1 nu va qu sc lo wt ch pl pa po pf ps ho hs) rfl rfl dL_rows_114 (fun H locs h => ?_)
          refine lv_icmp_gt (tgt := 124) hx hb dL_rows_117 (by decide) (fun hc => ?_) (fun hc => ?_)
          · replace hf := it_t hf hc
            exact cut_124 x1 x3_7 _ _ _ h (lv_sub hl [2, 3, 1] rfl) hf
          · replace hf := it_f hf hc
            refine lv_iconst (v := 1) hx hb dL_rows_120 (by decide) ?_
            refine lv_goto (tgt := 125) hx hb dL_rows_121 (by decide) ?_
            refine lv_istore (lv' := [(5, .int 1), (4, .int x4_14), (3, .int x3_7), (0, .ref d0), (1, .int x1), (2, .int x2)]) hx hb dL_rows_125 hl (by decide) rfl (fun ls hl => ?_)
            exact cut_127 x1 x3_7 1 _ _ _ h (lv_sub hl [3, 4, 2, 0] rfl) hf
  unfold fL_rows at hf
  refine lv_iconst (v := 2) hx hb dL_rows_0 (by decide) ?_
  refine lv_aload_n hx hb dL_rows_1 rfl (lv_at hl 0 rfl) ?_
  refine lv_bipush (v := 19) hx hb dL_rows_2 (by decide) ?_
  obtain ⟨r_1, hq_2, hf⟩ := ob1_use hf
  refine r_callV C h (cw_L_rows_X4_count_9 C.hts) (rest := [.int 2]) (ci := 4) (N := 5) (Cn := RX4) (T := TX4) (c_X4_count l G cI cC cZ X d0 b0 sl a0 a1 a2 a3 a4 a5 a6 a7 a8 p0 p1 h0 h1 nu va qu sc lo wt ch pl pa po pf ps ho hs (19 : Int32) r_1 hq_2) [0, 1, 2, 3, 4, 5, 6, 7, 8, 9, 10, 11, 12] rfl rfl rfl rfl 0 rfl rfl hl.1 rfl (Nat.le_of_ble_eq_true rfl) ⟨Nat.le_of_ble_eq_true rfl, Nat.le_of_ble_eq_true rfl⟩ (wLDc cI cC d0 b0 sl a0 a1 a2 a3 a4 a5 a6 a7 a8 p0 p1 h0 h1 nu va qu sc lo wt ch pl pa po pf ps ho hs) rfl rfl dL_rows_4 (fun H locs h => ?_)
  refine lv_imul hx hb dL_rows_7 ?_
  refine lv_topi (fun x1_3 ex1_3 => ?_)
  replace hf := nm_use hf ex1_3
  refine lv_istore_n (lv' := [(1, .int x1_3), (0, .ref d0)]) hx hb dL_rows_8 rfl hl (by decide) rfl (fun ls hl => ?_)
  refine lv_aload_n hx hb dL_rows_9 rfl (lv_at hl 1 rfl) ?_
  refine lv_iconst (v := 2) hx hb dL_rows_10 (by decide) ?_
  obtain ⟨r_4, hq_5, hf⟩ := ob1_use hf
  refine r_callV C h (cw_L_rows_X4_count_9 C.hts) (rest := []) (ci := 4) (N := 5) (Cn := RX4) (T := TX4) (c_X4_count l G cI cC cZ X d0 b0 sl a0 a1 a2 a3 a4 a5 a6 a7 a8 p0 p1 h0 h1 nu va qu sc lo wt ch pl pa po pf ps ho hs (2 : Int32) r_4 hq_5) [0, 1, 2, 3, 4, 5, 6, 7, 8, 9, 10, 11, 12] rfl rfl rfl rfl 0 rfl rfl hl.1 rfl (Nat.le_of_ble_eq_true rfl) ⟨Nat.le_of_ble_eq_true rfl, Nat.le_of_ble_eq_true rfl⟩ (wLDc cI cC d0 b0 sl a0 a1 a2 a3 a4 a5 a6 a7 a8 p0 p1 h0 h1 nu va qu sc lo wt ch pl pa po pf ps ho hs) rfl rfl dL_rows_11 (fun H locs h => ?_)
  refine lv_if_le (tgt := 26) hx hb dL_rows_14 (by decide) (fun hc => ?_) (fun hc => ?_)
  · replace hf := it_t hf hc
    refine lv_iconst (v := 0) hx hb dL_rows_26 (by decide) ?_
    refine lv_istore_n (lv' := [(2, .int 0), (1, .int x1_3), (0, .ref d0)]) hx hb dL_rows_27 rfl hl (by decide) rfl (fun ls hl => ?_)
    exact cut_28 x1_3 0 _ _ _ h (lv_sub hl [2, 1, 0] rfl) hf
  · replace hf := it_f hf hc
    refine lv_aload_n hx hb dL_rows_17 rfl (lv_at hl 1 rfl) ?_
    refine lv_iconst (v := 0) hx hb dL_rows_18 (by decide) ?_
    refine lv_iconst (v := 3) hx hb dL_rows_19 (by decide) ?_
    obtain ⟨r_6, hq_7, hf⟩ := ob1_use hf
    refine r_callV C h (cw_L_rows_X4_waiting_15 C.hts) (rest := []) (ci := 4) (N := 5) (Cn := RX4) (T := TX4) (c_X4_waiting l G cI cC cZ X d0 b0 sl h0 p0 a0 a1 a2 a3 a4 a5 a6 a7 a8 nu va qu sc lo wt (0 : Int32) (3 : Int32) r_6 hq_7) [0, 1, 2, 3, 4, 5, 6, 7, 8, 9] rfl rfl rfl rfl 0 rfl rfl hl.1 rfl (Nat.le_of_ble_eq_true rfl) ⟨Nat.le_of_ble_eq_true rfl, Nat.le_of_ble_eq_true rfl⟩ (wLDc cI cC d0 b0 sl a0 a1 a2 a3 a4 a5 a6 a7 a8 p0 p1 h0 h1 nu va qu sc lo wt ch pl pa po pf ps ho hs) rfl rfl dL_rows_20 (fun H locs h => ?_)
    refine lv_goto (tgt := 27) hx hb dL_rows_23 (by decide) ?_
    refine lv_istore_n (lv' := [(2, .int r_6), (1, .int x1_3), (0, .ref d0)]) hx hb dL_rows_27 rfl hl (by decide) rfl (fun ls hl => ?_)
    exact cut_28 x1_3 r_6 _ _ _ h (lv_sub hl [2, 1, 0] rfl) hf
end
