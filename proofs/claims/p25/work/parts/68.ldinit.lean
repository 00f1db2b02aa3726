/-! ===== LineDoubler.<init> ===== -/
def po_X4_init (cI cC cQ : ClassId) (d0 : Nat) : Option Value → va_W → Prop := fun res w' => res = none ∧ ∃ (α β : Nat → Nat) (S T : T6) (sl h0 h1 p0 p1 : Nat), NewS S ∧ w' = [(d0, .inr (4, [.ref (α 0), .ref (β 0), .ref sl, .ref h0, .ref p0]))] ++ wS cI α S ++ wS cI β T ++ [(sl, qA cQ 2 (fun _ => none)), (h0, .inr (0, [.ref h1, .int 0, .int 0])), (h1, qA cQ 7 (fun _ => none))] ++ wPd cC p0 p1 (fun _ => 0) 0 0 0 0 0
def rm_X4_init : Room := { frames := 3, cells := 23, slots := 778, locals := 59 }
set_option maxRecDepth 20000 in
theorem om_X4_init : Cond.methodLink RX4 1 objectInit ∈ wsX4_init := List.mem_of_getElem? (i := 1) (by decide +kernel)
set_option maxRecDepth 20000 in
theorem oi_X4_init : Cond.instanceMethod objectInit ∈ wsX4_init := List.mem_of_getElem? (i := 2) (by decide +kernel)
set_option maxRecDepth 20000 in
theorem oc_X4_init : Cond.code objectInit ⟨#[0xb1]⟩ 1 none ∈ wsX4_init := List.mem_of_getElem? (i := 3) (by decide +kernel)
set_option maxRecDepth 20000 in
theorem nc_X4_init_7 : Cond.classLink RX4 7 RX2 ∈ wsX4_init := List.mem_of_getElem? (i := 4) (by decide +kernel)
set_option maxRecDepth 20000 in
theorem ni_X4_init_7 : Cond.instantiable RX2 6 ∈ wsX4_init := List.mem_of_getElem? (i := 5) (by decide +kernel)
set_option maxRecDepth 20000 in
theorem nn_X4_init_7 : Cond.initialized RX2 ∈ wsX4_init := List.mem_of_getElem? (i := 6) (by decide +kernel)
set_option maxRecDepth 20000 in
theorem lk_X4_init_10 : Cond.fieldLink RX4 10 "LineDoubler" "state" "LLineDoubler$State;" ∈ wsX4_init := List.mem_of_getElem? (i := 7) (by decide +kernel)
set_option maxRecDepth 20000 in
theorem lk_X4_init_16 : Cond.fieldLink RX4 16 "LineDoubler" "trial" "LLineDoubler$State;" ∈ wsX4_init := List.mem_of_getElem? (i := 8) (by decide +kernel)
set_option maxRecDepth 20000 in
theorem lk_X4_init_19 : Cond.fieldLink RX4 19 "LineDoubler" "slots" "[LLineDoubler$State;" ∈ wsX4_init := List.mem_of_getElem? (i := 9) (by decide +kernel)
set_option maxRecDepth 20000 in
theorem nc_X4_init_23 : Cond.classLink RX4 23 RX0 ∈ wsX4_init := List.mem_of_getElem? (i := 10) (by decide +kernel)
set_option maxRecDepth 20000 in
theorem ni_X4_init_23 : Cond.instantiable RX0 3 ∈ wsX4_init := List.mem_of_getElem? (i := 11) (by decide +kernel)
set_option maxRecDepth 20000 in
theorem nn_X4_init_23 : Cond.initialized RX0 ∈ wsX4_init := List.mem_of_getElem? (i := 12) (by decide +kernel)
set_option maxRecDepth 20000 in
theorem lk_X4_init_26 : Cond.fieldLink RX4 26 "LineDoubler" "history" "LLineDoubler$History;" ∈ wsX4_init := List.mem_of_getElem? (i := 13) (by decide +kernel)
set_option maxRecDepth 20000 in
theorem nc_X4_init_30 : Cond.classLink RX4 30 RX1 ∈ wsX4_init := List.mem_of_getElem? (i := 14) (by decide +kernel)
set_option maxRecDepth 20000 in
theorem ni_X4_init_30 : Cond.instantiable RX1 6 ∈ wsX4_init := List.mem_of_getElem? (i := 15) (by decide +kernel)
set_option maxRecDepth 20000 in
theorem nn_X4_init_30 : Cond.initialized RX1 ∈ wsX4_init := List.mem_of_getElem? (i := 16) (by decide +kernel)
set_option maxRecDepth 20000 in
theorem lk_X4_init_33 : Cond.fieldLink RX4 33 "LineDoubler" "pad" "LLineDoubler$Pad;" ∈ wsX4_init := List.mem_of_getElem? (i := 17) (by decide +kernel)
set_option maxRecDepth 20000 in
theorem in_X4_init_X2 : ∀ x ∈ wsX20, x ∈ wsX4_init := mem_r _ [51, 52, 53, 54, 55, 56] (by decide +kernel)
set_option maxRecDepth 20000 in
theorem in_X4_init_X4 : ∀ x ∈ wsX40, x ∈ wsX4_init := mem_r _ [57, 58, 59, 60, 61] (by decide +kernel)
set_option maxRecDepth 20000 in
theorem in_X4_init_X0 : ∀ x ∈ wsX00, x ∈ wsX4_init := mem_r _ [62, 63, 64] (by decide +kernel)
set_option maxRecDepth 20000 in
theorem in_X4_init_X1 : ∀ x ∈ wsX10, x ∈ wsX4_init := mem_r _ [65, 66, 67, 68, 69, 70] (by decide +kernel)
set_option maxRecDepth 20000 in
theorem cw_X4_init_X2_init_9 {s : State} {args : Array Value} (hts : ∀ w ∈ wsX4_init, w.before args s = true) : CallB rm_X4_init s args RX4 9 yX2_init cX2_init 2 none wsX2_init rm_X2_init 8 334 0 ∧ (yX2_init : MethodName).name = "<init>" ∧ (Cond.instanceMethod yX2_init).before args s = true :=
  cwI 0 hts gX4_init_X2_init rfl rfl rfl (hts _ (List.mem_of_getElem? (i := 6) (by decide +kernel))) (hts _ (List.mem_of_getElem? (i := 18) (by decide +kernel))) (hts _ (List.mem_of_getElem? (i := 19) (by decide +kernel))) rfl (by decide +kernel) ⟨Nat.le_of_ble_eq_true rfl, Nat.le_of_ble_eq_true rfl⟩
set_option maxRecDepth 20000 in
theorem cw_X4_init_X0_init_25 {s : State} {args : Array Value} (hts : ∀ w ∈ wsX4_init, w.before args s = true) (hnw : NW s) : va_CN rm_X4_init s args RX4 25 yX0_init "LineDoubler" cX0_init 1 none wsX0_init rm_X0_init 1 7 0 ∧ (yX0_init : MethodName).name = "<init>" ∧ (Cond.instanceMethod yX0_init).before args s = true :=
  ⟨va_cnB 0 hts gX4_init_X0_init_n25 rfl rfl rfl (hnw.2.1 _ lkM_4_25) (hts _ (List.mem_of_getElem? (i := 12) (by decide +kernel))) (by decide +kernel) ⟨Nat.le_of_ble_eq_true rfl, Nat.le_of_ble_eq_true rfl⟩, rfl, hts _ (List.mem_of_getElem? (i := 41) (by decide +kernel))⟩
set_option maxRecDepth 20000 in
theorem cw_X4_init_X1_init_32 {s : State} {args : Array Value} (hts : ∀ w ∈ wsX4_init, w.before args s = true) (hnw : NW s) : va_CN rm_X4_init s args RX4 32 yX1_init "LineDoubler" cX1_init 1 none wsX1_init rm_X1_init 1 80 0 ∧ (yX1_init : MethodName).name = "<init>" ∧ (Cond.instanceMethod yX1_init).before args s = true :=
  ⟨va_cnB 0 hts gX4_init_X1_init_n32 rfl rfl rfl (hnw.2.1 _ lkM_4_32) (hts _ (List.mem_of_getElem? (i := 16) (by decide +kernel))) (by decide +kernel) ⟨Nat.le_of_ble_eq_true rfl, Nat.le_of_ble_eq_true rfl⟩, rfl, hts _ (List.mem_of_getElem? (i := 46) (by decide +kernel))⟩
set_option maxHeartbeats 4000000 in
set_option maxRecDepth 100000 in
theorem c_X4_init (l : Launch) (G : va_G) (cI cC cZ cQ : ClassId) (X : List (ClassId × FieldType)) (d0 : Nat) : CY l yX4_init wsX4_init rm_X4_init G (TQ cI cC cZ cQ X) [.ref d0] ([(d0, .inr (4, [.null, .null, .null, .null, .null]))] : va_W) ((po_X4_init cI cC cQ d0)) 23 778 := by
  refine CY.of (cc := cX4_init) (maxL := 1) (ret := none) RX4 rfl (by decide) rfl (Nat.le_of_ble_eq_true rfl) ?_
  intro p e s m args below meth c A ls C hr hlocks hnm h hl
  have hx := C.hx
  have hb := C.hb
  have hl : lv_has ls 1 [(0, .ref d0)] := hl
  refine lv_aload_n hx hb dX4_init_0 rfl (lv_at hl 0 rfl) ?_
  refine r_obj C hl.1 om_X4_init oi_X4_init oc_X4_init (Nat.le_of_ble_eq_true rfl) (Nat.le_of_ble_eq_true rfl) dX4_init_1 ?_
  refine lv_aload_n hx hb dX4_init_4 rfl (lv_at hl 0 rfl) ?_
  refine r_new C h (ci := 2) (N := 6) (Cn := RX2) (T := TX2) (fs := [.null, .null, .null, .null, .null, .int 0]) tyX2 in_X4_init_X2 tyX2_ok nc_X4_init_7 ni_X4_init_7 nn_X4_init_7 rfl (fun j hj => by rcases (show j = 0 ∨ j = 1 ∨ j = 2 ∨ j = 3 ∨ j = 4 ∨ j = 5 by omega) with rfl | rfl | rfl | rfl | rfl | rfl <;> rfl) (Nat.le_of_ble_eq_true rfl) (Nat.le_of_ble_eq_true rfl) dX4_init_5 (fun q5 H h => ?_)
  refine lv_dup hx hb dX4_init_8 rfl ?_
  refine r_callIY (rest := [.ref q5, .ref d0]) C h (cw_X4_init_X2_init_9 C.hts) (c_X2_init l G cI cC cZ cQ X q5) rfl hl.1 rfl (Nat.le_of_ble_eq_true rfl) ⟨(Nat.le_of_ble_eq_true rfl), (Nat.le_of_ble_eq_true rfl)⟩ dX4_init_9 (fun res w1 H locs hpo hn => ?_)
  clear h
  obtain ⟨rfl, α, S, hα, hS, rfl⟩ := hpo
  subst hα
  have h := hn
  clear hn
  refine r_putF C h hnm 0 0 (ci := 4) (N := 5) (T := TX4) (ty0 := tyX4) rfl rfl (by decide) in_X4_init_X4 tyX4_ok nmX4 lk_X4_init_10 rfl rfl (by first | rfl | decide +kernel) (by first | rfl | decide +kernel) (Nat.le_of_ble_eq_true rfl) ([(d0, .inr (4, [.ref (α 0), .null, .null, .null, .null]))] ++ wS cI α S : va_W) rfl dX4_init_12 (fun H locs h => ?_)
  refine lv_aload_n hx hb dX4_init_15 rfl (lv_at hl 0 rfl) ?_
  refine r_new C h (ci := 2) (N := 6) (Cn := RX2) (T := TX2) (fs := [.null, .null, .null, .null, .null, .int 0]) tyX2 in_X4_init_X2 tyX2_ok nc_X4_init_7 ni_X4_init_7 nn_X4_init_7 rfl (fun j hj => by rcases (show j = 0 ∨ j = 1 ∨ j = 2 ∨ j = 3 ∨ j = 4 ∨ j = 5 by omega) with rfl | rfl | rfl | rfl | rfl | rfl <;> rfl) (Nat.le_of_ble_eq_true rfl) (Nat.le_of_ble_eq_true rfl) dX4_init_16 (fun q16 H h => ?_)
  refine lv_dup hx hb dX4_init_19 rfl ?_
  refine r_callIY (rest := [.ref q16, .ref d0]) C h (cw_X4_init_X2_init_9 C.hts) (c_X2_init l G cI cC cZ cQ X q16) rfl hl.1 rfl (Nat.le_of_ble_eq_true rfl) ⟨(Nat.le_of_ble_eq_true rfl), (Nat.le_of_ble_eq_true rfl)⟩ dX4_init_20 (fun res w1 H locs hpo hn => ?_)
  clear h
  obtain ⟨rfl, β, T, hβ, -, rfl⟩ := hpo
  subst hβ
  have h := hn
  clear hn
  refine r_putF C h hnm 0 1 (ci := 4) (N := 5) (T := TX4) (ty0 := tyX4) rfl rfl (by decide) in_X4_init_X4 tyX4_ok nmX4 lk_X4_init_16 rfl rfl (by first | rfl | decide +kernel) (by first | rfl | decide +kernel) (Nat.le_of_ble_eq_true rfl) ([(d0, .inr (4, [.ref (α 0), .ref (β 0), .null, .null, .null]))] ++ wS cI α S ++ wS cI β T : va_W) rfl dX4_init_23 (fun H locs h => ?_)
  refine lv_aload_n hx hb dX4_init_26 rfl (lv_at hl 0 rfl) ?_
  refine lv_iconst (v := 2) hx hb dX4_init_27 (by decide) ?_
  refine r_newq C h 3 rfl nc_X4_init_7 (N' := 2) (by decide) (by decide) (by decide) (Nat.le_of_ble_eq_true rfl) (Nat.le_of_ble_eq_true rfl) dX4_init_28 (fun q28 H h => ?_)
  refine r_putF C h hnm 0 2 (ci := 4) (N := 5) (T := TX4) (ty0 := tyX4) rfl rfl (by decide) in_X4_init_X4 tyX4_ok nmX4 lk_X4_init_19 rfl rfl (by first | rfl | decide +kernel) (by first | rfl | decide +kernel) (Nat.le_of_ble_eq_true rfl) ([(d0, .inr (4, [.ref (α 0), .ref (β 0), .ref q28, .null, .null]))] ++ wS cI α S ++ wS cI β T ++ [(q28, qA cQ 2 (fun _ => none))] : va_W) rfl dX4_init_31 (fun H locs h => ?_)
  refine lv_aload_n hx hb dX4_init_34 rfl (lv_at hl 0 rfl) ?_
  refine r_new C h (ci := 0) (N := 3) (Cn := RX0) (T := TX0) (fs := [.null, .int 0, .int 0]) tyX0 in_X4_init_X0 tyX0_ok nc_X4_init_23 ni_X4_init_23 nn_X4_init_23 rfl (fun j hj => by rcases (show j = 0 ∨ j = 1 ∨ j = 2 by omega) with rfl | rfl | rfl <;> rfl) (Nat.le_of_ble_eq_true rfl) (Nat.le_of_ble_eq_true rfl) dX4_init_35 (fun q35 H h => ?_)
  refine lv_dup hx hb dX4_init_38 rfl ?_
  refine r_callINY (rest := [.ref q35, .ref d0]) C h (cw_X4_init_X0_init_25 C.hts C.nw) (c_X0_init l G cI cC cZ cQ X q35) rfl hl.1 rfl (Nat.le_of_ble_eq_true rfl) ⟨(Nat.le_of_ble_eq_true rfl), (Nat.le_of_ble_eq_true rfl)⟩ dX4_init_39 (fun res w1 H locs hpo hn => ?_)
  clear h
  obtain ⟨rfl, h1, rfl⟩ := hpo
  have h := hn
  clear hn
  refine r_putF C h hnm 0 3 (ci := 4) (N := 5) (T := TX4) (ty0 := tyX4) rfl rfl (by decide) in_X4_init_X4 tyX4_ok nmX4 lk_X4_init_26 rfl rfl (by first | rfl | decide +kernel) (by first | rfl | decide +kernel) (Nat.le_of_ble_eq_true rfl) ([(d0, .inr (4, [.ref (α 0), .ref (β 0), .ref q28, .ref q35, .null]))] ++ wS cI α S ++ wS cI β T ++ [(q28, qA cQ 2 (fun _ => none)), (q35, .inr (0, [.ref h1, .int 0, .int 0])), (h1, qA cQ 7 (fun _ => none))] : va_W) rfl dX4_init_42 (fun H locs h => ?_)
  refine lv_aload_n hx hb dX4_init_45 rfl (lv_at hl 0 rfl) ?_
  refine r_new C h (ci := 1) (N := 6) (Cn := RX1) (T := TX1) (fs := [.null, .int 0, .int 0, .int 0, .int 0, .int 0]) tyX1 in_X4_init_X1 tyX1_ok nc_X4_init_30 ni_X4_init_30 nn_X4_init_30 rfl (fun j hj => by rcases (show j = 0 ∨ j = 1 ∨ j = 2 ∨ j = 3 ∨ j = 4 ∨ j = 5 by omega) with rfl | rfl | rfl | rfl | rfl | rfl <;> rfl) (Nat.le_of_ble_eq_true rfl) (Nat.le_of_ble_eq_true rfl) dX4_init_46 (fun q46 H h => ?_)
  refine lv_dup hx hb dX4_init_49 rfl ?_
  refine r_callINY (rest := [.ref q46, .ref d0]) C h (cw_X4_init_X1_init_32 C.hts C.nw) (c_X1_init l G cI cC cZ cQ X q46) rfl hl.1 rfl (Nat.le_of_ble_eq_true rfl) ⟨(Nat.le_of_ble_eq_true rfl), (Nat.le_of_ble_eq_true rfl)⟩ dX4_init_50 (fun res w1 H locs hpo hn => ?_)
  clear h
  obtain ⟨rfl, p1, rfl⟩ := hpo
  have h := hn
  clear hn
  refine r_putF C h hnm 0 4 (ci := 4) (N := 5) (T := TX4) (ty0 := tyX4) rfl rfl (by decide) in_X4_init_X4 tyX4_ok nmX4 lk_X4_init_33 rfl rfl (by first | rfl | decide +kernel) (by first | rfl | decide +kernel) (Nat.le_of_ble_eq_true rfl) ([(d0, .inr (4, [.ref (α 0), .ref (β 0), .ref q28, .ref q35, .ref q46]))] ++ wS cI α S ++ wS cI β T ++ [(q28, qA cQ 2 (fun _ => none)), (q35, .inr (0, [.ref h1, .int 0, .int 0])), (h1, qA cQ 7 (fun _ => none)), (q46, .inr (1, [.ref p1, .int 0, .int 0, .int 0, .int 0, .int 0])), (p1, .inl (cC, 80, .inl (fun _ => 0)))] : va_W) rfl dX4_init_53 (fun H locs h => ?_)
  exact y_vret C h ⟨rfl, α, β, S, T, q28, q35, h1, q46, p1, hS, rfl⟩ hr hlocks dX4_init_56
