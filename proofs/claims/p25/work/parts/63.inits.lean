/-! ===== constructors: Pad, History, the reference ===== -/
def po_X1_init (cC : ClassId) (p0 : Nat) : Option Value → va_W → Prop := fun res w' => res = none ∧ ∃ p1 : Nat, w' = wPd cC p0 p1 (fun _ => 0) 0 0 0 0 0
def po_X0_init (cQ : ClassId) (h0 : Nat) : Option Value → va_W → Prop := fun res w' => res = none ∧ ∃ h1 : Nat, w' = [(h0, .inr (0, [.ref h1, .int 0, .int 0])), (h1, qA cQ 7 (fun _ => none))]
def mB : Nat → Int32 := fun j => if j = 23 then -6 else if j = 7 then 255 else if j = 4 then 4 else if j = 3 then 4 else if j = 2 then 5 else if j = 1 then 10 else 0
def NewM (now : Nat → Int32) : Prop := ∀ j, now j = if 106 ≤ j ∧ j < 202 then -6 else if 26 ≤ j ∧ j < 42 then 10 * nI (j - 26) else mB j
theorem i26 (i : Nat) : (26 : Int32) + nI i = nI (26 + i) := by rw [li_26, nI_add]
theorem i106 (i : Nat) : (106 : Int32) + nI i = nI (106 + i) := by rw [li_106, nI_add]
def rm_X1_init : Room := { frames := 1, cells := 1, slots := 80, locals := 12 }
set_option maxRecDepth 20000 in
theorem om_X1_init : Cond.methodLink RX1 3 objectInit ∈ wsX1_init := List.mem_of_getElem? (i := 1) (by decide +kernel)
set_option maxRecDepth 20000 in
theorem oi_X1_init : Cond.instanceMethod objectInit ∈ wsX1_init := List.mem_of_getElem? (i := 2) (by decide +kernel)
set_option maxRecDepth 20000 in
theorem oc_X1_init : Cond.code objectInit ⟨#[0xb1]⟩ 1 none ∈ wsX1_init := List.mem_of_getElem? (i := 3) (by decide +kernel)
set_option maxRecDepth 20000 in
theorem ac_X1_init_char : Cond.arrayClass .char ∈ wsX1_init := List.mem_of_getElem? (i := 4) (by decide +kernel)
set_option maxRecDepth 20000 in
theorem lk_X1_init_9 : Cond.fieldLink RX1 9 "LineDoubler$Pad" "characters" "[C" ∈ wsX1_init := List.mem_of_getElem? (i := 5) (by decide +kernel)
set_option maxRecDepth 20000 in
theorem in_X1_init_X1 : ∀ x ∈ wsX10, x ∈ wsX1_init := mem_r _ [6, 7, 8, 9, 10, 11] (by decide +kernel)
set_option maxHeartbeats 4000000 in
set_option maxRecDepth 100000 in
theorem c_X1_init (l : Launch) (G : va_G) (cI cC cZ cQ : ClassId) (X : List (ClassId × FieldType)) (p0 : Nat) : CY l yX1_init wsX1_init rm_X1_init G (TQ cI cC cZ cQ X) [.ref p0] ([(p0, .inr (1, [.null, .int 0, .int 0, .int 0, .int 0, .int 0]))] : va_W) ((po_X1_init cC p0)) 1 80 := by
  refine CY.of (cc := cX1_init) (maxL := 1) (ret := none) RX1 rfl (by decide) rfl (Nat.le_of_ble_eq_true rfl) ?_
  intro p e s m args below meth c A ls C hr hlocks hnm h hl
  have hx := C.hx
  have hb := C.hb
  have hl : lv_has ls 1 [(0, .ref p0)] := hl
  refine lv_aload_n hx hb dX1_init_0 rfl (lv_at hl 0 rfl) ?_
  refine r_obj C hl.1 om_X1_init oi_X1_init oc_X1_init (Nat.le_of_ble_eq_true rfl) (Nat.le_of_ble_eq_true rfl) dX1_init_1 ?_
  refine lv_aload_n hx hb dX1_init_4 rfl (lv_at hl 0 rfl) ?_
  refine lv_bipush (v := 80) hx hb dX1_init_5 (by decide) ?_
  refine r_newa C h 1 (atype := .char) rfl ac_X1_init_char rfl (80, .inl fun _ => 0) (fun _ => rfl) (by decide) (by decide) (by decide) (Nat.le_of_ble_eq_true rfl) (Nat.le_of_ble_eq_true rfl) dX1_init_7 (fun q7 H h => ?_)
  refine r_putF C h hnm 0 0 (ci := 1) (N := 6) (T := TX1) (ty0 := tyX1) rfl rfl (by decide) in_X1_init_X1 tyX1_ok nmX1 lk_X1_init_9 rfl rfl (by first | rfl | decide +kernel) (by first | rfl | decide +kernel) (Nat.le_of_ble_eq_true rfl) ([(p0, .inr (1, [.ref q7, .int 0, .int 0, .int 0, .int 0, .int 0])), (q7, .inl (cC, 80, .inl (fun _ => 0)))] : va_W) rfl dX1_init_9 (fun H locs h => ?_)
  exact y_vret C h ⟨rfl, q7, rfl⟩ hr hlocks dX1_init_12
def rm_X0_init : Room := { frames := 1, cells := 1, slots := 7, locals := 12 }
set_option maxRecDepth 20000 in
theorem om_X0_init : Cond.methodLink RX0 3 objectInit ∈ wsX0_init := List.mem_of_getElem? (i := 1) (by decide +kernel)
set_option maxRecDepth 20000 in
theorem oi_X0_init : Cond.instanceMethod objectInit ∈ wsX0_init := List.mem_of_getElem? (i := 2) (by decide +kernel)
set_option maxRecDepth 20000 in
theorem oc_X0_init : Cond.code objectInit ⟨#[0xb1]⟩ 1 none ∈ wsX0_init := List.mem_of_getElem? (i := 3) (by decide +kernel)
set_option maxRecDepth 20000 in
theorem nc_X0_init_11 : Cond.classLink RX0 11 RX2 ∈ wsX0_init := List.mem_of_getElem? (i := 4) (by decide +kernel)
set_option maxRecDepth 20000 in
theorem lk_X0_init_13 : Cond.fieldLink RX0 13 "LineDoubler$History" "states" "[LLineDoubler$State;" ∈ wsX0_init := List.mem_of_getElem? (i := 5) (by decide +kernel)
set_option maxRecDepth 20000 in
theorem in_X0_init_X0 : ∀ x ∈ wsX00, x ∈ wsX0_init := mem_r _ [6, 7, 8] (by decide +kernel)
set_option maxHeartbeats 4000000 in
set_option maxRecDepth 100000 in
theorem c_X0_init (l : Launch) (G : va_G) (cI cC cZ cQ : ClassId) (X : List (ClassId × FieldType)) (h0 : Nat) : CY l yX0_init wsX0_init rm_X0_init G (TQ cI cC cZ cQ X) [.ref h0] ([(h0, .inr (0, [.null, .int 0, .int 0]))] : va_W) ((po_X0_init cQ h0)) 1 7 := by
  refine CY.of (cc := cX0_init) (maxL := 1) (ret := none) RX0 rfl (by decide) rfl (Nat.le_of_ble_eq_true rfl) ?_
  intro p e s m args below meth c A ls C hr hlocks hnm h hl
  have hx := C.hx
  have hb := C.hb
  have hl : lv_has ls 1 [(0, .ref h0)] := hl
  refine lv_aload_n hx hb dX0_init_0 rfl (lv_at hl 0 rfl) ?_
  refine r_obj C hl.1 om_X0_init oi_X0_init oc_X0_init (Nat.le_of_ble_eq_true rfl) (Nat.le_of_ble_eq_true rfl) dX0_init_1 ?_
  refine lv_aload_n hx hb dX0_init_4 rfl (lv_at hl 0 rfl) ?_
  refine lv_bipush (v := 7) hx hb dX0_init_5 (by decide) ?_
  refine r_newq C h 3 rfl nc_X0_init_11 (N' := 7) (by decide) (by decide) (by decide) (Nat.le_of_ble_eq_true rfl) (Nat.le_of_ble_eq_true rfl) dX0_init_7 (fun q7 H h => ?_)
  refine r_putF C h hnm 0 0 (ci := 0) (N := 3) (T := TX0) (ty0 := tyX0) rfl rfl (by decide) in_X0_init_X0 tyX0_ok nmX0 lk_X0_init_13 rfl rfl (by first | rfl | decide +kernel) (by first | rfl | decide +kernel) (Nat.le_of_ble_eq_true rfl) ([(h0, .inr (0, [.ref q7, .int 0, .int 0])), (q7, qA cQ 7 (fun _ => none))] : va_W) rfl dX0_init_10 (fun H locs h => ?_)
  exact y_vret C h ⟨rfl, q7, rfl⟩ hr hlocks dX0_init_13
