/-! ===== constructors: Pad, History, the reference ===== -/
def po_X1_init (cC : ClassId) (p0 : Nat) : Option Value → va_W → Prop := fun res w' => res = none ∧ ∃ p1 : Nat, w' = wPd cC p0 p1 (fun _ => 0) 0 0 0 0 0
def po_X0_init (cQ : ClassId) (h0 : Nat) : Option Value → va_W → Prop := fun res w' => res = none ∧ ∃ h1 : Nat, w' = [(h0, .inr (0, [.ref h1, .int 0, .int 0])), (h1, qA cQ 7 (fun _ => none))]
def mB : Nat → Int32 := fun j => if j = 23 then -6 else if j = 7 then 255 else if j = 4 then 4 else if j = 3 then 4 else if j = 2 then 5 else if j = 1 then 10 else 0
def NewM (now : Nat → Int32) : Prop := ∀ j, now j = if 106 ≤ j ∧ j < 202 then -6 else if 26 ≤ j ∧ j < 42 then 10 * nI (j - 26) else mB j
def po_X5_init (cI cZ : ClassId) (m0 : Nat) : Option Value → va_W → Prop := fun res w' => res = none ∧ ∃ (μ : Nat → Nat) (now : Nat → Int32), NewM now ∧ w' = wMd cI cZ m0 (μ 1) (μ 2) (μ 3) (μ 4) (μ 5) (μ 6) (μ 7) now (fun _ => 0) (fun _ => 0) 0 (fun _ => 0) (fun _ => 0) (fun _ => 0) 0 0 (fun _ => 0) 0
theorem i26 (i : Nat) : (26 : Int32) + nI i = nI (26 + i) := by rw [li_26, nI_add]
theorem i106 (i : Nat) : (106 : Int32) + nI i = nI (106 + i) := by rw [li_106, nI_add]
def rm_X1_init : Room := { frames := 1, cells := 1, slots := 80, locals := 12 }
set_option maxRecDepth 20000 in
theorem om_X1_init : Cond.methodLink RX1 3 objectInit ∈ wsX1_init := List.mem_of_getElem? (i := 1) (by decide +kernel)
set_option maxRecDepth 20000 in
theorem oi_X1_init : Cond.instanceMethod objectInit ∈ wsX1_init := List.mem_of_getElem? (i := 2) (by decide +kernel)
set_option maxRecDepth 20000 in
theorem oc_X1_init : Cond.code objectInit ⟨#[0xb1]⟩ 1 none ∈ wsX1_init := List.mem_of_getElem? (i := 3) (by decide +kernel)
set_option maxRecDepth 20000 in
theorem ac_X1_init_char : Cond.arrayClass .char ∈ wsX1_init := List.mem_of_getElem? (i := 4) (by decide +kernel)
set_option maxRecDepth 20000 in
theorem lk_X1_init_9 : Cond.fieldLink RX1 9 "LineDoubler$Pad" "characters" "[C" ∈ wsX1_init := List.mem_of_getElem? (i := 5) (by decide +kernel)
set_option maxRecDepth 20000 in
theorem in_X1_init_X1 : ∀ x ∈ wsX10, x ∈ wsX1_init := mem_r _ [6, 7, 8, 9, 10, 11] (by decide +kernel)
set_option maxHeartbeats 4000000 in
set_option maxRecDepth 100000 in
theorem c_X1_init (l : Launch) (G : va_G) (cI cC cZ cQ : ClassId) (X : List (ClassId × FieldType)) (p0 : Nat) : CY l yX1_init wsX1_init rm_X1_init G (TQ cI cC cZ cQ X) [.ref p0] ([(p0, .inr (1, [.null, .int 0, .int 0, .int 0, .int 0, .int 0]))] : va_W) ((po_X1_init cC p0)) 1 80 := by
  refine CY.of (cc := cX1_init) (maxL := 1) (ret := none) RX1 rfl (by decide) rfl (Nat.le_of_ble_eq_true rfl) ?_
  intro p e s m args below meth c A ls C hr hlocks hnm h hl
  have hx := C.hx
  have hb := C.hb
  have hl : lv_has ls 1 [(0, .ref p0)] := hl
  refine lv_aload_n hx hb dX1_init_0 rfl (lv_at hl 0 rfl) ?_
  refine r_obj C hl.1 om_X1_init oi_X1_init oc_X1_init (Nat.le_of_ble_eq_true rfl) (Nat.le_of_ble_eq_true rfl) dX1_init_1 ?_
  refine lv_aload_n hx hb dX1_init_4 rfl (lv_at hl 0 rfl) ?_
  refine lv_bipush (v := 80) hx hb dX1_init_5 (by decide) ?_
  refine r_newa C h 1 (atype := .char) rfl ac_X1_init_char rfl (80, .inl fun _ => 0) (fun _ => rfl) (by decide) (by decide) (by decide) (Nat.le_of_ble_eq_true rfl) (Nat.le_of_ble_eq_true rfl) dX1_init_7 (fun q7 H h => ?_)
  refine r_putF C h hnm 0 0 (ci := 1) (N := 6) (T := TX1) (ty0 := tyX1) rfl rfl (by decide) in_X1_init_X1 tyX1_ok nmX1 lk_X1_init_9 rfl rfl (by first | rfl | decide +kernel) (by first | rfl | decide +kernel) (Nat.le_of_ble_eq_true rfl) ([(p0, .inr (1, [.ref q7, .int 0, .int 0, .int 0, .int 0, .int 0])), (q7, .inl (cC, 80, .inl (fun _ => 0)))] : va_W) rfl dX1_init_9 (fun H locs h => ?_)
  exact y_vret C h ⟨rfl, q7, rfl⟩ hr hlocks dX1_init_12
def rm_X0_init : Room := { frames := 1, cells := 1, slots := 7, locals := 12 }
set_option maxRecDepth 20000 in
theorem om_X0_init : Cond.methodLink RX0 3 objectInit ∈ wsX0_init := List.mem_of_getElem? (i := 1) (by decide +kernel)
set_option maxRecDepth 20000 in
theorem oi_X0_init : Cond.instanceMethod objectInit ∈ wsX0_init := List.mem_of_getElem? (i := 2) (by decide +kernel)
set_option maxRecDepth 20000 in
theorem oc_X0_init : Cond.code objectInit ⟨#[0xb1]⟩ 1 none ∈ wsX0_init := List.mem_of_getElem? (i := 3) (by decide +kernel)
set_option maxRecDepth 20000 in
theorem nc_X0_init_11 : Cond.classLink RX0 11 RX2 ∈ wsX0_init := List.mem_of_getElem? (i := 4) (by decide +kernel)
set_option maxRecDepth 20000 in
theorem lk_X0_init_13 : Cond.fieldLink RX0 13 "LineDoubler$History" "states" "[LLineDoubler$State;" ∈ wsX0_init := List.mem_of_getElem? (i := 5) (by decide +kernel)
set_option maxRecDepth 20000 in
theorem in_X0_init_X0 : ∀ x ∈ wsX00, x ∈ wsX0_init := mem_r _ [6, 7, 8] (by decide +kernel)
set_option maxHeartbeats 4000000 in
set_option maxRecDepth 100000 in
theorem c_X0_init (l : Launch) (G : va_G) (cI cC cZ cQ : ClassId) (X : List (ClassId × FieldType)) (h0 : Nat) : CY l yX0_init wsX0_init rm_X0_init G (TQ cI cC cZ cQ X) [.ref h0] ([(h0, .inr (0, [.null, .int 0, .int 0]))] : va_W) ((po_X0_init cQ h0)) 1 7 := by
  refine CY.of (cc := cX0_init) (maxL := 1) (ret := none) RX0 rfl (by decide) rfl (Nat.le_of_ble_eq_true rfl) ?_
  intro p e s m args below meth c A ls C hr hlocks hnm h hl
  have hx := C.hx
  have hb := C.hb
  have hl : lv_has ls 1 [(0, .ref h0)] := hl
  refine lv_aload_n hx hb dX0_init_0 rfl (lv_at hl 0 rfl) ?_
  refine r_obj C hl.1 om_X0_init oi_X0_init oc_X0_init (Nat.le_of_ble_eq_true rfl) (Nat.le_of_ble_eq_true rfl) dX0_init_1 ?_
  refine lv_aload_n hx hb dX0_init_4 rfl (lv_at hl 0 rfl) ?_
  refine lv_bipush (v := 7) hx hb dX0_init_5 (by decide) ?_
  refine r_newq C h 3 rfl nc_X0_init_11 (N' := 7) (by decide) (by decide) (by decide) (Nat.le_of_ble_eq_true rfl) (Nat.le_of_ble_eq_true rfl) dX0_init_7 (fun q7 H h => ?_)
  refine r_putF C h hnm 0 0 (ci := 0) (N := 3) (T := TX0) (ty0 := tyX0) rfl rfl (by decide) in_X0_init_X0 tyX0_ok nmX0 lk_X0_init_13 rfl rfl (by first | rfl | decide +kernel) (by first | rfl | decide +kernel) (Nat.le_of_ble_eq_true rfl) ([(h0, .inr (0, [.ref q7, .int 0, .int 0])), (q7, qA cQ 7 (fun _ => none))] : va_W) rfl dX0_init_10 (fun H locs h => ?_)
  exact y_vret C h ⟨rfl, q7, rfl⟩ hr hlocks dX0_init_13
def rm_X5_init : Room := { frames := 1, cells := 7, slots := 2545, locals := 12 }
set_option maxRecDepth 20000 in
theorem om_X5_init : Cond.methodLink RX5 1 objectInit ∈ wsX5_init := List.mem_of_getElem? (i := 1) (by decide +kernel)
set_option maxRecDepth 20000 in
theorem oi_X5_init : Cond.instanceMethod objectInit ∈ wsX5_init := List.mem_of_getElem? (i := 2) (by decide +kernel)
set_option maxRecDepth 20000 in
theorem oc_X5_init : Cond.code objectInit ⟨#[0xb1]⟩ 1 none ∈ wsX5_init := List.mem_of_getElem? (i := 3) (by decide +kernel)
set_option maxRecDepth 20000 in
theorem ac_X5_init_int : Cond.arrayClass .int ∈ wsX5_init := List.mem_of_getElem? (i := 4) (by decide +kernel)
set_option maxRecDepth 20000 in
theorem lk_X5_init_7 : Cond.fieldLink RX5 7 "LineDoublerModel" "now" "[I" ∈ wsX5_init := List.mem_of_getElem? (i := 5) (by decide +kernel)
set_option maxRecDepth 20000 in
theorem lk_X5_init_13 : Cond.fieldLink RX5 13 "LineDoublerModel" "then" "[I" ∈ wsX5_init := List.mem_of_getElem? (i := 6) (by decide +kernel)
set_option maxRecDepth 20000 in
theorem lk_X5_init_16 : Cond.fieldLink RX5 16 "LineDoublerModel" "past" "[I" ∈ wsX5_init := List.mem_of_getElem? (i := 7) (by decide +kernel)
set_option maxRecDepth 20000 in
theorem lk_X5_init_19 : Cond.fieldLink RX5 19 "LineDoublerModel" "slots" "[I" ∈ wsX5_init := List.mem_of_getElem? (i := 8) (by decide +kernel)
set_option maxRecDepth 20000 in
theorem ac_X5_init_boolean : Cond.arrayClass .boolean ∈ wsX5_init := List.mem_of_getElem? (i := 9) (by decide +kernel)
set_option maxRecDepth 20000 in
theorem lk_X5_init_22 : Cond.fieldLink RX5 22 "LineDoublerModel" "held" "[Z" ∈ wsX5_init := List.mem_of_getElem? (i := 10) (by decide +kernel)
set_option maxRecDepth 20000 in
theorem lk_X5_init_26 : Cond.fieldLink RX5 26 "LineDoublerModel" "pad" "[I" ∈ wsX5_init := List.mem_of_getElem? (i := 11) (by decide +kernel)
set_option maxRecDepth 20000 in
theorem lk_X5_init_29 : Cond.fieldLink RX5 29 "LineDoublerModel" "orders" "[I" ∈ wsX5_init := List.mem_of_getElem? (i := 12) (by decide +kernel)
set_option maxRecDepth 20000 in
theorem in_X5_init_X5 : ∀ x ∈ wsX50, x ∈ wsX5_init := mem_r _ [13, 14, 15, 16, 17, 18, 19, 20, 21, 22, 23] (by decide +kernel)
set_option maxHeartbeats 4000000 in
set_option maxRecDepth 100000 in
theorem c_X5_init (l : Launch) (G : va_G) (cI cC cZ cQ : ClassId) (X : List (ClassId × FieldType)) (m0 : Nat) : CY l yX5_init wsX5_init rm_X5_init G (TQ cI cC cZ cQ X) [.ref m0] ([(m0, .inr (5, [.null, .null, .null, .int 0, .null, .null, .null, .int 0, .int 0, .null, .int 0]))] : va_W) ((po_X5_init cI cZ m0)) 7 2545 := by
  refine CY.of (cc := cX5_init) (maxL := 2) (ret := none) RX5 rfl (by decide) rfl (Nat.le_of_ble_eq_true rfl) ?_
  intro p e s m args below meth c A ls C hr hlocks hnm h hl
  have hx := C.hx
  have hb := C.hb
  have hl : lv_has ls 2 [(0, .ref m0)] := hl
  refine lv_aload_n hx hb dX5_init_0 rfl (lv_at hl 0 rfl) ?_
  refine r_obj C hl.1 om_X5_init oi_X5_init oc_X5_init (Nat.le_of_ble_eq_true rfl) (Nat.le_of_ble_eq_true rfl) dX5_init_1 ?_
  refine lv_aload_n hx hb dX5_init_4 rfl (lv_at hl 0 rfl) ?_
  refine lv_sipush (v := 234) hx hb dX5_init_5 (by decide) ?_
  refine r_newa C h 0 (atype := .int) rfl ac_X5_init_int rfl (234, .inl fun _ => 0) (fun _ => rfl) (by decide) (by decide) (by decide) (Nat.le_of_ble_eq_true rfl) (Nat.le_of_ble_eq_true rfl) dX5_init_8 (fun q8 H h => ?_)
  refine r_putF C h hnm 0 0 (ci := 5) (N := 11) (T := TX5) (ty0 := tyX5) rfl rfl (by decide) in_X5_init_X5 tyX5_ok nmX5 lk_X5_init_7 rfl rfl (by first | rfl | decide +kernel) (by first | rfl | decide +kernel) (Nat.le_of_ble_eq_true rfl) ([(m0, .inr (5, [.ref q8, .null, .null, .int 0, .null, .null, .null, .int 0, .int 0, .null, .int 0])), (q8, .inl (cI, 234, .inl (fun _ => 0)))] : va_W) rfl dX5_init_10 (fun H locs h => ?_)
  refine lv_aload_n hx hb dX5_init_13 rfl (lv_at hl 0 rfl) ?_
  refine lv_sipush (v := 234) hx hb dX5_init_14 (by decide) ?_
  refine r_newa C h 0 (atype := .int) rfl ac_X5_init_int rfl (234, .inl fun _ => 0) (fun _ => rfl) (by decide) (by decide) (by decide) (Nat.le_of_ble_eq_true rfl) (Nat.le_of_ble_eq_true rfl) dX5_init_17 (fun q17 H h => ?_)
  refine r_putF C h hnm 0 1 (ci := 5) (N := 11) (T := TX5) (ty0 := tyX5) rfl rfl (by decide) in_X5_init_X5 tyX5_ok nmX5 lk_X5_init_13 rfl rfl (by first | rfl | decide +kernel) (by first | rfl | decide +kernel) (Nat.le_of_ble_eq_true rfl) ([(m0, .inr (5, [.ref q8, .ref q17, .null, .int 0, .null, .null, .null, .int 0, .int 0, .null, .int 0])), (q8, .inl (cI, 234, .inl (fun _ => 0))), (q17, .inl (cI, 234, .inl (fun _ => 0)))] : va_W) rfl dX5_init_19 (fun H locs h => ?_)
  refine lv_aload_n hx hb dX5_init_22 rfl (lv_at hl 0 rfl) ?_
  refine lv_sipush (v := 1404) hx hb dX5_init_23 (by decide) ?_
  refine r_newa C h 0 (atype := .int) rfl ac_X5_init_int rfl (1404, .inl fun _ => 0) (fun _ => rfl) (by decide) (by decide) (by decide) (Nat.le_of_ble_eq_true rfl) (Nat.le_of_ble_eq_true rfl) dX5_init_26 (fun q26 H h => ?_)
  refine r_putF C h hnm 0 2 (ci := 5) (N := 11) (T := TX5) (ty0 := tyX5) rfl rfl (by decide) in_X5_init_X5 tyX5_ok nmX5 lk_X5_init_16 rfl rfl (by first | rfl | decide +kernel) (by first | rfl | decide +kernel) (Nat.le_of_ble_eq_true rfl) ([(m0, .inr (5, [.ref q8, .ref q17, .ref q26, .int 0, .null, .null, .null, .int 0, .int 0, .null, .int 0])), (q8, .inl (cI, 234, .inl (fun _ => 0))), (q17, .inl (cI, 234, .inl (fun _ => 0))), (q26, .inl (cI, 1404, .inl (fun _ => 0)))] : va_W) rfl dX5_init_28 (fun H locs h => ?_)
  refine lv_aload_n hx hb dX5_init_31 rfl (lv_at hl 0 rfl) ?_
  refine lv_sipush (v := 468) hx hb dX5_init_32 (by decide) ?_
  refine r_newa C h 0 (atype := .int) rfl ac_X5_init_int rfl (468, .inl fun _ => 0) (fun _ => rfl) (by decide) (by decide) (by decide) (Nat.le_of_ble_eq_true rfl) (Nat.le_of_ble_eq_true rfl) dX5_init_35 (fun q35 H h => ?_)
  refine r_putF C h hnm 0 4 (ci := 5) (N := 11) (T := TX5) (ty0 := tyX5) rfl rfl (by decide) in_X5_init_X5 tyX5_ok nmX5 lk_X5_init_19 rfl rfl (by first | rfl | decide +kernel) (by first | rfl | decide +kernel) (Nat.le_of_ble_eq_true rfl) ([(m0, .inr (5, [.ref q8, .ref q17, .ref q26, .int 0, .ref q35, .null, .null, .int 0, .int 0, .null, .int 0])), (q8, .inl (cI, 234, .inl (fun _ => 0))), (q17, .inl (cI, 234, .inl (fun _ => 0))), (q26, .inl (cI, 1404, .inl (fun _ => 0))), (q35, .inl (cI, 468, .inl (fun _ => 0)))] : va_W) rfl dX5_init_37 (fun H locs h => ?_)
  refine lv_aload_n hx hb dX5_init_40 rfl (lv_at hl 0 rfl) ?_
  refine lv_iconst (v := 2) hx hb dX5_init_41 (by decide) ?_
  refine r_newa C h 2 (atype := .boolean) rfl ac_X5_init_boolean rfl (2, .inl fun _ => 0) (fun _ => rfl) (by decide) (by decide) (by decide) (Nat.le_of_ble_eq_true rfl) (Nat.le_of_ble_eq_true rfl) dX5_init_42 (fun q42 H h => ?_)
  refine r_putF C h hnm 0 5 (ci := 5) (N := 11) (T := TX5) (ty0 := tyX5) rfl rfl (by decide) in_X5_init_X5 tyX5_ok nmX5 lk_X5_init_22 rfl rfl (by first | rfl | decide +kernel) (by first | rfl | decide +kernel) (Nat.le_of_ble_eq_true rfl) ([(m0, .inr (5, [.ref q8, .ref q17, .ref q26, .int 0, .ref q35, .ref q42, .null, .int 0, .int 0, .null, .int 0])), (q8, .inl (cI, 234, .inl (fun _ => 0))), (q17, .inl (cI, 234, .inl (fun _ => 0))), (q26, .inl (cI, 1404, .inl (fun _ => 0))), (q35, .inl (cI, 468, .inl (fun _ => 0))), (q42, .inl (cZ, 2, .inl (fun _ => 0)))] : va_W) rfl dX5_init_44 (fun H locs h => ?_)
  refine lv_aload_n hx hb dX5_init_47 rfl (lv_at hl 0 rfl) ?_
  refine lv_bipush (v := 80) hx hb dX5_init_48 (by decide) ?_
  refine r_newa C h 0 (atype := .int) rfl ac_X5_init_int rfl (80, .inl fun _ => 0) (fun _ => rfl) (by decide) (by decide) (by decide) (Nat.le_of_ble_eq_true rfl) (Nat.le_of_ble_eq_true rfl) dX5_init_50 (fun q50 H h => ?_)
  refine r_putF C h hnm 0 6 (ci := 5) (N := 11) (T := TX5) (ty0 := tyX5) rfl rfl (by decide) in_X5_init_X5 tyX5_ok nmX5 lk_X5_init_26 rfl rfl (by first | rfl | decide +kernel) (by first | rfl | decide +kernel) (Nat.le_of_ble_eq_true rfl) ([(m0, .inr (5, [.ref q8, .ref q17, .ref q26, .int 0, .ref q35, .ref q42, .ref q50, .int 0, .int 0, .null, .int 0])), (q8, .inl (cI, 234, .inl (fun _ => 0))), (q17, .inl (cI, 234, .inl (fun _ => 0))), (q26, .inl (cI, 1404, .inl (fun _ => 0))), (q35, .inl (cI, 468, .inl (fun _ => 0))), (q42, .inl (cZ, 2, .inl (fun _ => 0))), (q50, .inl (cI, 80, .inl (fun _ => 0)))] : va_W) rfl dX5_init_52 (fun H locs h => ?_)
  refine lv_aload_n hx hb dX5_init_55 rfl (lv_at hl 0 rfl) ?_
  refine lv_bipush (v := 123) hx hb dX5_init_56 (by decide) ?_
  refine r_newa C h 0 (atype := .int) rfl ac_X5_init_int rfl (123, .inl fun _ => 0) (fun _ => rfl) (by decide) (by decide) (by decide) (Nat.le_of_ble_eq_true rfl) (Nat.le_of_ble_eq_true rfl) dX5_init_58 (fun q58 H h => ?_)
  refine r_putF C h hnm 0 9 (ci := 5) (N := 11) (T := TX5) (ty0 := tyX5) rfl rfl (by decide) in_X5_init_X5 tyX5_ok nmX5 lk_X5_init_29 rfl rfl (by first | rfl | decide +kernel) (by first | rfl | decide +kernel) (Nat.le_of_ble_eq_true rfl) ([(m0, .inr (5, [.ref q8, .ref q17, .ref q26, .int 0, .ref q35, .ref q42, .ref q50, .int 0, .int 0, .ref q58, .int 0])), (q8, .inl (cI, 234, .inl (fun _ => 0))), (q17, .inl (cI, 234, .inl (fun _ => 0))), (q26, .inl (cI, 1404, .inl (fun _ => 0))), (q35, .inl (cI, 468, .inl (fun _ => 0))), (q42, .inl (cZ, 2, .inl (fun _ => 0))), (q50, .inl (cI, 80, .inl (fun _ => 0))), (q58, .inl (cI, 123, .inl (fun _ => 0)))] : va_W) rfl dX5_init_60 (fun H locs h => ?_)
  refine lv_aload_n hx hb dX5_init_63 rfl (lv_at hl 0 rfl) ?_
  refine r_get C h 0 0 (ci := 5) (N := 11) (Cn := RX5) (T := TX5) rfl rfl (by decide) in_X5_init_X5 lk_X5_init_7 rfl dX5_init_64 ?_
  refine lv_iconst (v := 1) hx hb dX5_init_67 (by decide) ?_
  refine lv_bipush (v := 10) hx hb dX5_init_68 (by decide) ?_
  refine r_ast C h 1 rfl rfl (k_at 1 234 ⟨by omega, by omega⟩) (fun z__ => ([(m0, .inr (5, [.ref q8, .ref q17, .ref q26, .int 0, .ref q35, .ref q42, .ref q50, .int 0, .int 0, .ref q58, .int 0])), (q8, .inl (cI, 234, .inl z__)), (q17, .inl (cI, 234, .inl (fun _ => 0))), (q26, .inl (cI, 1404, .inl (fun _ => 0))), (q35, .inl (cI, 468, .inl (fun _ => 0))), (q42, .inl (cZ, 2, .inl (fun _ => 0))), (q50, .inl (cI, 80, .inl (fun _ => 0))), (q58, .inl (cI, 123, .inl (fun _ => 0)))] : va_W)) (fun _ => rfl) dX5_init_70 (fun f_1 ef_1 H locs h => ?_)
  refine lv_aload_n hx hb dX5_init_71 rfl (lv_at hl 0 rfl) ?_
  refine r_get C h 0 0 (ci := 5) (N := 11) (Cn := RX5) (T := TX5) rfl rfl (by decide) in_X5_init_X5 lk_X5_init_7 rfl dX5_init_72 ?_
  refine lv_iconst (v := 2) hx hb dX5_init_75 (by decide) ?_
  refine lv_iconst (v := 5) hx hb dX5_init_76 (by decide) ?_
  refine r_ast C h 1 rfl rfl (k_at 2 234 ⟨by omega, by omega⟩) (fun z__ => ([(m0, .inr (5, [.ref q8, .ref q17, .ref q26, .int 0, .ref q35, .ref q42, .ref q50, .int 0, .int 0, .ref q58, .int 0])), (q8, .inl (cI, 234, .inl z__)), (q17, .inl (cI, 234, .inl (fun _ => 0))), (q26, .inl (cI, 1404, .inl (fun _ => 0))), (q35, .inl (cI, 468, .inl (fun _ => 0))), (q42, .inl (cZ, 2, .inl (fun _ => 0))), (q50, .inl (cI, 80, .inl (fun _ => 0))), (q58, .inl (cI, 123, .inl (fun _ => 0)))] : va_W)) (fun _ => rfl) dX5_init_77 (fun f_2 ef_2 H locs h => ?_)
  refine lv_aload_n hx hb dX5_init_78 rfl (lv_at hl 0 rfl) ?_
  refine r_get C h 0 0 (ci := 5) (N := 11) (Cn := RX5) (T := TX5) rfl rfl (by decide) in_X5_init_X5 lk_X5_init_7 rfl dX5_init_79 ?_
  refine lv_iconst (v := 3) hx hb dX5_init_82 (by decide) ?_
  refine lv_iconst (v := 4) hx hb dX5_init_83 (by decide) ?_
  refine r_ast C h 1 rfl rfl (k_at 3 234 ⟨by omega, by omega⟩) (fun z__ => ([(m0, .inr (5, [.ref q8, .ref q17, .ref q26, .int 0, .ref q35, .ref q42, .ref q50, .int 0, .int 0, .ref q58, .int 0])), (q8, .inl (cI, 234, .inl z__)), (q17, .inl (cI, 234, .inl (fun _ => 0))), (q26, .inl (cI, 1404, .inl (fun _ => 0))), (q35, .inl (cI, 468, .inl (fun _ => 0))), (q42, .inl (cZ, 2, .inl (fun _ => 0))), (q50, .inl (cI, 80, .inl (fun _ => 0))), (q58, .inl (cI, 123, .inl (fun _ => 0)))] : va_W)) (fun _ => rfl) dX5_init_84 (fun f_3 ef_3 H locs h => ?_)
  refine lv_aload_n hx hb dX5_init_85 rfl (lv_at hl 0 rfl) ?_
  refine r_get C h 0 0 (ci := 5) (N := 11) (Cn := RX5) (T := TX5) rfl rfl (by decide) in_X5_init_X5 lk_X5_init_7 rfl dX5_init_86 ?_
  refine lv_iconst (v := 4) hx hb dX5_init_89 (by decide) ?_
  refine lv_iconst (v := 4) hx hb dX5_init_90 (by decide) ?_
  refine r_ast C h 1 rfl rfl (k_at 4 234 ⟨by omega, by omega⟩) (fun z__ => ([(m0, .inr (5, [.ref q8, .ref q17, .ref q26, .int 0, .ref q35, .ref q42, .ref q50, .int 0, .int 0, .ref q58, .int 0])), (q8, .inl (cI, 234, .inl z__)), (q17, .inl (cI, 234, .inl (fun _ => 0))), (q26, .inl (cI, 1404, .inl (fun _ => 0))), (q35, .inl (cI, 468, .inl (fun _ => 0))), (q42, .inl (cZ, 2, .inl (fun _ => 0))), (q50, .inl (cI, 80, .inl (fun _ => 0))), (q58, .inl (cI, 123, .inl (fun _ => 0)))] : va_W)) (fun _ => rfl) dX5_init_91 (fun f_4 ef_4 H locs h => ?_)
  refine lv_aload_n hx hb dX5_init_92 rfl (lv_at hl 0 rfl) ?_
  refine r_get C h 0 0 (ci := 5) (N := 11) (Cn := RX5) (T := TX5) rfl rfl (by decide) in_X5_init_X5 lk_X5_init_7 rfl dX5_init_93 ?_
  refine lv_bipush (v := 7) hx hb dX5_init_96 (by decide) ?_
  refine lv_sipush (v := 255) hx hb dX5_init_98 (by decide) ?_
  refine r_ast C h 1 rfl rfl (k_at 7 234 ⟨by omega, by omega⟩) (fun z__ => ([(m0, .inr (5, [.ref q8, .ref q17, .ref q26, .int 0, .ref q35, .ref q42, .ref q50, .int 0, .int 0, .ref q58, .int 0])), (q8, .inl (cI, 234, .inl z__)), (q17, .inl (cI, 234, .inl (fun _ => 0))), (q26, .inl (cI, 1404, .inl (fun _ => 0))), (q35, .inl (cI, 468, .inl (fun _ => 0))), (q42, .inl (cZ, 2, .inl (fun _ => 0))), (q50, .inl (cI, 80, .inl (fun _ => 0))), (q58, .inl (cI, 123, .inl (fun _ => 0)))] : va_W)) (fun _ => rfl) dX5_init_101 (fun f_5 ef_5 H locs h => ?_)
  refine lv_aload_n hx hb dX5_init_102 rfl (lv_at hl 0 rfl) ?_
  refine r_get C h 0 0 (ci := 5) (N := 11) (Cn := RX5) (T := TX5) rfl rfl (by decide) in_X5_init_X5 lk_X5_init_7 rfl dX5_init_103 ?_
  refine lv_bipush (v := 23) hx hb dX5_init_106 (by decide) ?_
  refine lv_bipush (v := (-6)) hx hb dX5_init_108 (by decide) ?_
  refine r_ast C h 1 rfl rfl (k_at 23 234 ⟨by omega, by omega⟩) (fun z__ => ([(m0, .inr (5, [.ref q8, .ref q17, .ref q26, .int 0, .ref q35, .ref q42, .ref q50, .int 0, .int 0, .ref q58, .int 0])), (q8, .inl (cI, 234, .inl z__)), (q17, .inl (cI, 234, .inl (fun _ => 0))), (q26, .inl (cI, 1404, .inl (fun _ => 0))), (q35, .inl (cI, 468, .inl (fun _ => 0))), (q42, .inl (cZ, 2, .inl (fun _ => 0))), (q50, .inl (cI, 80, .inl (fun _ => 0))), (q58, .inl (cI, 123, .inl (fun _ => 0)))] : va_W)) (fun _ => rfl) dX5_init_110 (fun f_6 ef_6 H locs h => ?_)
  have hB : ∀ j, f_6 j = mB j := by
    intro j
    rw [ef_6, ef_5, ef_4, ef_3, ef_2, ef_1]
    rfl
  refine lv_iconst (v := 0) hx hb dX5_init_111 (by decide) ?_
  refine lv_istore_n (lv' := [(1, .int 0), (0, .ref m0)]) hx hb dX5_init_112 rfl hl (by decide) rfl (fun ls hl => ?_)
  have loop2 : ∀ (n i : Nat) (f : Nat → Int32) (H : Heap) (locs : List Loc) (ls : Array Slot), Hx s G A ([(m0, .inr (5, [.ref q8, .ref q17, .ref q26, .int 0, .ref q35, .ref q42, .ref q50, .int 0, .int 0, .ref q58, .int 0])), (q8, .inl (cI, 234, .inl f)), (q17, .inl (cI, 234, .inl (fun _ => 0))), (q26, .inl (cI, 1404, .inl (fun _ => 0))), (q35, .inl (cI, 468, .inl (fun _ => 0))), (q42, .inl (cZ, 2, .inl (fun _ => 0))), (q50, .inl (cI, 80, .inl (fun _ => 0))), (q58, .inl (cI, 123, .inl (fun _ => 0)))] : va_W) H locs → lv_has ls 2 [(1, .int (nI i)), (0, .ref m0)] → (∀ j, f j = if 106 ≤ j ∧ j < 106 + i then -6 else (if 26 ≤ j ∧ j < 26 + 16 then 10 * nI (j - 26) else mB j)) → i ≤ 96 → 96 < n + i → W p l e rm_X5_init s m args below meth c H locs 7 2545 (MQ below (Qy G (po_X5_init cI cZ m0) A) args s 7 2545 A) (F0 m 140 ls []) := by
    intro n
    induction n with
    | zero => intro i f H locs ls h hl hf h1 h2; omega
    | succ n ih =>
      intro i f H locs ls h hl hf h1 h2
      refine lv_iload_n hx hb dX5_init_140 rfl (lv_at hl 0 rfl) ?_
      refine lv_bipush (v := 96) hx hb dX5_init_141 (by decide) ?_
      refine lv_icmp_ge (tgt := 163) hx hb dX5_init_143 (by decide) (fun hc => ?_) (fun hc => ?_)
      · have hN : i = 96 := by
          have := (nI_le31 (a := 96) (b := i) (by omega) (by omega)).1 hc
          omega
        subst hN
        exact y_vret C h ⟨rfl, adr [m0, q8, q17, q26, q35, q42, q50, q58], f, hf, rfl⟩ hr hlocks dX5_init_163
      · have hN : i < 96 := by
          have : ¬ 96 ≤ i := fun g => hc ((nI_le31 (a := 96) (b := i) (by omega) (by omega)).2 g)
          omega
        refine lv_aload_n hx hb dX5_init_146 rfl (lv_at hl 1 rfl) ?_
        refine r_get C h 0 0 (ci := 5) (N := 11) (Cn := RX5) (T := TX5) rfl rfl (by decide) in_X5_init_X5 lk_X5_init_7 rfl dX5_init_147 ?_
        refine lv_bipush (v := 106) hx hb dX5_init_150 (by decide) ?_
        refine lv_iload_n hx hb dX5_init_152 rfl (lv_at hl 0 rfl) ?_
        refine lv_iadd hx hb dX5_init_153 ?_
        rw [i106 i]
        refine lv_bipush (v := (-6)) hx hb dX5_init_154 (by decide) ?_
        refine r_ast C h 1 rfl rfl (k_at (106 + i) 234 ⟨by omega, by omega⟩) (fun z__ => ([(m0, .inr (5, [.ref q8, .ref q17, .ref q26, .int 0, .ref q35, .ref q42, .ref q50, .int 0, .int 0, .ref q58, .int 0])), (q8, .inl (cI, 234, .inl z__)), (q17, .inl (cI, 234, .inl (fun _ => 0))), (q26, .inl (cI, 1404, .inl (fun _ => 0))), (q35, .inl (cI, 468, .inl (fun _ => 0))), (q42, .inl (cZ, 2, .inl (fun _ => 0))), (q50, .inl (cI, 80, .inl (fun _ => 0))), (q58, .inl (cI, 123, .inl (fun _ => 0)))] : va_W)) (fun _ => rfl) dX5_init_156 (fun g_7 eg_7 H locs h => ?_)
        obtain ⟨z4, ez4⟩ : ∃ y : Int32, y = nI i + 1 := ⟨_, rfl⟩
        refine lv_iinc (v := z4) (lv' := [(1, .int z4), (0, .ref m0)]) hx hb dX5_init_157 hl (k := 0) rfl (by rw [ez4]; rfl) (by decide) rfl (fun ls hl => ?_)
        rw [ez4, nI_1] at hl
        refine lv_goto (tgt := 140) hx hb dX5_init_160 (by decide) ?_
        refine ih (i + 1) g_7 _ _ _ h hl (fun j => ?_) (by omega) (by omega)
        rw [eg_7]
        unfold upd
        by_cases g : j = 106 + i
        · rw [if_pos g, if_pos (by omega)]
        · rw [if_neg g, hf j]
          by_cases g2 : 106 ≤ j ∧ j < 106 + i
          · rw [if_pos g2, if_pos (by omega)]
          · rw [if_neg g2, if_neg (show ¬ (106 ≤ j ∧ j < 106 + (i + 1)) by omega)]
  have loop1 : ∀ (n i : Nat) (f : Nat → Int32) (H : Heap) (locs : List Loc) (ls : Array Slot), Hx s G A ([(m0, .inr (5, [.ref q8, .ref q17, .ref q26, .int 0, .ref q35, .ref q42, .ref q50, .int 0, .int 0, .ref q58, .int 0])), (q8, .inl (cI, 234, .inl f)), (q17, .inl (cI, 234, .inl (fun _ => 0))), (q26, .inl (cI, 1404, .inl (fun _ => 0))), (q35, .inl (cI, 468, .inl (fun _ => 0))), (q42, .inl (cZ, 2, .inl (fun _ => 0))), (q50, .inl (cI, 80, .inl (fun _ => 0))), (q58, .inl (cI, 123, .inl (fun _ => 0)))] : va_W) H locs → lv_has ls 2 [(1, .int (nI i)), (0, .ref m0)] → (∀ j, f j = if 26 ≤ j ∧ j < 26 + i then 10 * nI (j - 26) else mB j) → i ≤ 16 → 16 < n + i → W p l e rm_X5_init s m args below meth c H locs 7 2545 (MQ below (Qy G (po_X5_init cI cZ m0) A) args s 7 2545 A) (F0 m 113 ls []) := by
    intro n
    induction n with
    | zero => intro i f H locs ls h hl hf h1 h2; omega
    | succ n ih =>
      intro i f H locs ls h hl hf h1 h2
      refine lv_iload_n hx hb dX5_init_113 rfl (lv_at hl 0 rfl) ?_
      refine lv_bipush (v := 16) hx hb dX5_init_114 (by decide) ?_
      refine lv_icmp_ge (tgt := 138) hx hb dX5_init_116 (by decide) (fun hc => ?_) (fun hc => ?_)
      · have hN : i = 16 := by
          have := (nI_le31 (a := 16) (b := i) (by omega) (by omega)).1 hc
          omega
        subst hN
        refine lv_iconst (v := 0) hx hb dX5_init_138 (by decide) ?_
        refine lv_istore_n (lv' := [(1, .int 0), (0, .ref m0)]) hx hb dX5_init_139 rfl hl (by decide) rfl (fun ls hl => ?_)
        refine loop2 97 0 f _ _ _ h hl (fun j => ?_) (by omega) (by omega)
        rw [hf j, if_neg (show ¬ (106 ≤ j ∧ j < 106 + 0) by omega)]
      · have hN : i < 16 := by
          have : ¬ 16 ≤ i := fun g => hc ((nI_le31 (a := 16) (b := i) (by omega) (by omega)).2 g)
          omega
        refine lv_aload_n hx hb dX5_init_119 rfl (lv_at hl 1 rfl) ?_
        refine r_get C h 0 0 (ci := 5) (N := 11) (Cn := RX5) (T := TX5) rfl rfl (by decide) in_X5_init_X5 lk_X5_init_7 rfl dX5_init_120 ?_
        refine lv_bipush (v := 26) hx hb dX5_init_123 (by decide) ?_
        refine lv_iload_n hx hb dX5_init_125 rfl (lv_at hl 0 rfl) ?_
        refine lv_iadd hx hb dX5_init_126 ?_
        rw [i26 i]
        refine lv_bipush (v := 10) hx hb dX5_init_127 (by decide) ?_
        refine lv_iload_n hx hb dX5_init_129 rfl (lv_at hl 0 rfl) ?_
        refine lv_imul hx hb dX5_init_130 ?_
        refine r_ast C h 1 rfl rfl (k_at (26 + i) 234 ⟨by omega, by omega⟩) (fun z__ => ([(m0, .inr (5, [.ref q8, .ref q17, .ref q26, .int 0, .ref q35, .ref q42, .ref q50, .int 0, .int 0, .ref q58, .int 0])), (q8, .inl (cI, 234, .inl z__)), (q17, .inl (cI, 234, .inl (fun _ => 0))), (q26, .inl (cI, 1404, .inl (fun _ => 0))), (q35, .inl (cI, 468, .inl (fun _ => 0))), (q42, .inl (cZ, 2, .inl (fun _ => 0))), (q50, .inl (cI, 80, .inl (fun _ => 0))), (q58, .inl (cI, 123, .inl (fun _ => 0)))] : va_W)) (fun _ => rfl) dX5_init_131 (fun g_8 eg_8 H locs h => ?_)
        obtain ⟨z4, ez4⟩ : ∃ y : Int32, y = nI i + 1 := ⟨_, rfl⟩
        refine lv_iinc (v := z4) (lv' := [(1, .int z4), (0, .ref m0)]) hx hb dX5_init_132 hl (k := 0) rfl (by rw [ez4]; rfl) (by decide) rfl (fun ls hl => ?_)
        rw [ez4, nI_1] at hl
        refine lv_goto (tgt := 113) hx hb dX5_init_135 (by decide) ?_
        refine ih (i + 1) g_8 _ _ _ h hl (fun j => ?_) (by omega) (by omega)
        rw [eg_8]
        unfold upd
        by_cases g : j = 26 + i
        · rw [if_pos g, if_pos (by omega), show j - 26 = i by omega]
        · rw [if_neg g, hf j]
          by_cases g2 : 26 ≤ j ∧ j < 26 + i
          · rw [if_pos g2, if_pos (by omega)]
          · rw [if_neg g2, if_neg (show ¬ (26 ≤ j ∧ j < 26 + (i + 1)) by omega)]
  refine loop1 17 0 _ _ _ _ h hl (fun j => ?_) (by omega) (by omega)
  rw [hB j, if_neg (show ¬ (26 ≤ j ∧ j < 26 + 0) by omega)]
