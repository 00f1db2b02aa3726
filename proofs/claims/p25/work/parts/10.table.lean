/-- the mirror of X4_isWithin -/
def fX4_isWithin (x0 : Int32) (x1 : Int32) (x2 : Int32) : Option (Int32) :=
  (if x0 < x1 then
  some (0)
  else
  (if x2 < x0 then
  some (0)
  else
  some (1)))

/-- the mirror of X3_read -/
def fX3_read (co : Int32) (tn : Nat) (tf : Nat → Int32) (x1 : Int32) (x2 : Int32) : Option (Int32) :=
  nm (((x1 * co) + x2)) fun x3_1 =>
  (if x3_1 < 0 then
  some ((-6))
  else
  (if (nI tn) ≤ x3_1 then
  some ((-6))
  else
  chk x3_1 tn fun j_2 =>
  some ((tf j_2))))

/-- the mirror of X3_write -/
def fX3_write (co : Int32) (tn : Nat) (tf : Nat → Int32) (x1 : Int32) (x2 : Int32) (x3 : Int32) : Option ((Nat → Int32)) :=
  nm (((x1 * co) + x2)) fun x4_1 =>
  (if x4_1 < 0 then
  some (tf)
  else
  (if (nI tn) ≤ x4_1 then
  some (tf)
  else
  chk x4_1 tn fun j_2 =>
  nm (upd tf j_2 x3) fun tf_3 =>
  some (tf_3)))

/-- the mirror of X3_removeRow -/
def fX3_removeRow (co : Int32) (tn : Nat) (tf : Nat → Int32) (x1 : Int32) : Option ((Nat → Int32)) :=
  nm ((x1 * co)) fun x2_1 =>
  nm ((x2_1 + co)) fun x3_2 =>
  (if x2_1 < 0 then
  some (tf)
  else
  (if (nI tn) < x3_2 then
  some (tf)
  else
  nm (((nI tn) - x3_2)) fun y_3 =>
  nd (acok x3_2 x2_1 y_3 tn tn) <|
  nm (va_cpy tf tf x3_2.toNatClampNeg x2_1.toNatClampNeg y_3.toNatClampNeg) fun tf_4 =>
  some (tf_4)))

/-- the mirror of X3_copyFrom -/
def fX3_copyFrom (tn : Nat) (tf : Nat → Int32) (on : Nat) (of : Nat → Int32) : Option ((Nat → Int32)) :=
  nm ((if (nI tn) < (nI on) then (nI tn) else (nI on))) fun y_1 =>
  nd (acok (0 : Int32) (0 : Int32) y_1 on tn) <|
  nm (va_cpy of tf (0 : Int32).toNatClampNeg (0 : Int32).toNatClampNeg y_1.toNatClampNeg) fun tf_2 =>
  some (tf_2)

def rm_X4_isWithin : Room := { frames := 0, cells := 0, slots := 0, locals := 0 }
set_option maxHeartbeats 4000000 in
set_option maxRecDepth 100000 in
theorem c_X4_isWithin (l : Launch) (G : va_G) (cI cC cZ : ClassId) (X : List (ClassId × FieldType)) (x0 : Int32) (x1 : Int32) (x2 : Int32) (rv : Int32) (hf : fX4_isWithin x0 x1 x2 = some (rv)) : CT l yX4_isWithin wsX4_isWithin rm_X4_isWithin G (TY cI cC cZ X) [.int x0, .int x1, .int x2] ([] : va_W) (some (.int rv)) ([] : va_W) := by
  refine CT.of (cc := cX4_isWithin) (maxL := 3) (ret := (some .boolean)) RX4 rfl (by decide) rfl (Nat.le_of_ble_eq_true rfl) ?_
  intro p e s m args below meth c A ls C hr hlocks hnm h hl
  have hx := C.hx
  have hb := C.hb
  have hl : lv_has ls 3 [(0, .int x0), (1, .int x1), (2, .int x2)] := hl
  unfold fX4_isWithin at hf
  refine lv_iload_n hx hb dX4_isWithin_0 rfl (lv_at hl 0 rfl) ?_
  refine lv_iload_n hx hb dX4_isWithin_1 rfl (lv_at hl 1 rfl) ?_
  refine lv_icmp_lt (tgt := 14) hx hb dX4_isWithin_2 (by decide) (fun hc => ?_) (fun hc => ?_)
  · replace hf := it_t hf hc
    refine lv_iconst (v := 0) hx hb dX4_isWithin_14 (by decide) ?_
    cases hf
    exact r_zret C h hr hlocks rfl dX4_isWithin_15
  · replace hf := it_f hf hc
    refine lv_iload_n hx hb dX4_isWithin_5 rfl (lv_at hl 0 rfl) ?_
    refine lv_iload_n hx hb dX4_isWithin_6 rfl (lv_at hl 2 rfl) ?_
    refine lv_icmp_gt (tgt := 14) hx hb dX4_isWithin_7 (by decide) (fun hc => ?_) (fun hc => ?_)
    · replace hf := it_t hf hc
      refine lv_iconst (v := 0) hx hb dX4_isWithin_14 (by decide) ?_
      cases hf
      exact r_zret C h hr hlocks rfl dX4_isWithin_15
    · replace hf := it_f hf hc
      refine lv_iconst (v := 1) hx hb dX4_isWithin_10 (by decide) ?_
      refine lv_goto (tgt := 15) hx hb dX4_isWithin_11 (by decide) ?_
      cases hf
      exact r_zret C h hr hlocks rfl dX4_isWithin_15
def rm_X3_read : Room := { frames := 0, cells := 0, slots := 0, locals := 0 }
set_option maxRecDepth 20000 in
theorem lk_X3_read_9 : Cond.fieldLink RX3 9 "LineDoubler$Table" "columns" "I" ∈ wsX3_read := List.mem_of_getElem? (i := 1) (by decide +kernel)
set_option maxRecDepth 20000 in
theorem lk_X3_read_21 : Cond.fieldLink RX3 21 "LineDoubler$Table" "cells" "[I" ∈ wsX3_read := List.mem_of_getElem? (i := 2) (by decide +kernel)
set_option maxRecDepth 20000 in
theorem in_X3_read_X3 : ∀ x ∈ wsX30, x ∈ wsX3_read := mem_r _ [3, 4] (by decide +kernel)
set_option maxHeartbeats 4000000 in
set_option maxRecDepth 100000 in
theorem c_X3_read (l : Launch) (G : va_G) (cI cC cZ : ClassId) (X : List (ClassId × FieldType)) (t0 t1 : Nat) (co : Int32) (tn : Nat) (tf : Nat → Int32) (x1 : Int32) (x2 : Int32) (rv : Int32) (hf : fX3_read co tn tf x1 x2 = some (rv)) : CT l yX3_read wsX3_read rm_X3_read G (TY cI cC cZ X) [.ref t0, .int x1, .int x2] (wTb cI t0 t1 co tn tf) (some (.int rv)) (wTb cI t0 t1 co tn tf) := by
  refine CT.of (cc := cX3_read) (maxL := 4) (ret := (some .int)) RX3 rfl (by decide) rfl (Nat.le_of_ble_eq_true rfl) ?_
  intro p e s m args below meth c A ls C hr hlocks hnm h hl
  have hx := C.hx
  have hb := C.hb
  have hl : lv_has ls 4 [(0, .ref t0), (1, .int x1), (2, .int x2)] := hl
  unfold fX3_read at hf
  refine lv_iload_n hx hb dX3_read_0 rfl (lv_at hl 1 rfl) ?_
  refine lv_aload_n hx hb dX3_read_1 rfl (lv_at hl 0 rfl) ?_
  refine r_get C h 0 0 (ci := 3) (N := 2) (Cn := RX3) (T := TX3) rfl rfl (by decide) in_X3_read_X3 lk_X3_read_9 rfl dX3_read_2 ?_
  refine lv_imul hx hb dX3_read_5 ?_
  refine lv_iload_n hx hb dX3_read_6 rfl (lv_at hl 2 rfl) ?_
  refine lv_iadd hx hb dX3_read_7 ?_
  refine lv_topi (fun x3_1 ex3_1 => ?_)
  replace hf := nm_use hf ex3_1
  refine lv_istore_n (lv' := [(3, .int x3_1), (0, .ref t0), (1, .int x1), (2, .int x2)]) hx hb dX3_read_8 rfl hl (by decide) rfl (fun ls hl => ?_)
  refine lv_iload_n hx hb dX3_read_9 rfl (lv_at hl 0 rfl) ?_
  refine lv_if_lt (tgt := 31) hx hb dX3_read_10 (by decide) (fun hc => ?_) (fun hc => ?_)
  · replace hf := it_t hf hc
    refine lv_bipush (v := (-6)) hx hb dX3_read_31 (by decide) ?_
    cases hf
    exact r_iret C h hr hlocks dX3_read_33
  · replace hf := it_f hf hc
    refine lv_iload_n hx hb dX3_read_13 rfl (lv_at hl 0 rfl) ?_
    refine lv_aload_n hx hb dX3_read_14 rfl (lv_at hl 1 rfl) ?_
    refine r_get C h 0 1 (ci := 3) (N := 2) (Cn := RX3) (T := TX3) rfl rfl (by decide) in_X3_read_X3 lk_X3_read_21 rfl dX3_read_15 ?_
    refine r_alen C h 1 rfl rfl dX3_read_18 ?_
    refine lv_icmp_ge (tgt := 31) hx hb dX3_read_19 (by decide) (fun hc => ?_) (fun hc => ?_)
    · replace hf := it_t hf hc
      refine lv_bipush (v := (-6)) hx hb dX3_read_31 (by decide) ?_
      cases hf
      exact r_iret C h hr hlocks dX3_read_33
    · replace hf := it_f hf hc
      refine lv_aload_n hx hb dX3_read_22 rfl (lv_at hl 1 rfl) ?_
      refine r_get C h 0 1 (ci := 3) (N := 2) (Cn := RX3) (T := TX3) rfl rfl (by decide) in_X3_read_X3 lk_X3_read_21 rfl dX3_read_23 ?_
      refine lv_iload_n hx hb dX3_read_26 rfl (lv_at hl 0 rfl) ?_
      obtain ⟨j_2, hj_2, hf⟩ := chk_use hf
      refine r_ald C h 1 rfl rfl hj_2 dX3_read_27 ?_
      refine lv_goto (tgt := 33) hx hb dX3_read_28 (by decide) ?_
      cases hf
      exact r_iret C h hr hlocks dX3_read_33
def rm_X3_write : Room := { frames := 0, cells := 0, slots := 0, locals := 0 }
set_option maxRecDepth 20000 in
theorem lk_X3_write_9 : Cond.fieldLink RX3 9 "LineDoubler$Table" "columns" "I" ∈ wsX3_write := List.mem_of_getElem? (i := 1) (by decide +kernel)
set_option maxRecDepth 20000 in
theorem lk_X3_write_21 : Cond.fieldLink RX3 21 "LineDoubler$Table" "cells" "[I" ∈ wsX3_write := List.mem_of_getElem? (i := 2) (by decide +kernel)
set_option maxRecDepth 20000 in
theorem in_X3_write_X3 : ∀ x ∈ wsX30, x ∈ wsX3_write := mem_r _ [3, 4] (by decide +kernel)
set_option maxHeartbeats 4000000 in
set_option maxRecDepth 100000 in
theorem c_X3_write (l : Launch) (G : va_G) (cI cC cZ : ClassId) (X : List (ClassId × FieldType)) (t0 t1 : Nat) (co : Int32) (tn : Nat) (tf : Nat → Int32) (x1 : Int32) (x2 : Int32) (x3 : Int32) (tf' : Nat → Int32) (hf : fX3_write co tn tf x1 x2 x3 = some (tf')) : CT l yX3_write wsX3_write rm_X3_write G (TY cI cC cZ X) [.ref t0, .int x1, .int x2, .int x3] (wTb cI t0 t1 co tn tf) none (wTb cI t0 t1 co tn tf') := by
  refine CT.of (cc := cX3_write) (maxL := 5) (ret := none) RX3 rfl (by decide) rfl (Nat.le_of_ble_eq_true rfl) ?_
  intro p e s m args below meth c A ls C hr hlocks hnm h hl
  have hx := C.hx
  have hb := C.hb
  have hl : lv_has ls 5 [(0, .ref t0), (1, .int x1), (2, .int x2), (3, .int x3)] := hl
  unfold fX3_write at hf
  refine lv_iload_n hx hb dX3_write_0 rfl (lv_at hl 1 rfl) ?_
  refine lv_aload_n hx hb dX3_write_1 rfl (lv_at hl 0 rfl) ?_
  refine r_get C h 0 0 (ci := 3) (N := 2) (Cn := RX3) (T := TX3) rfl rfl (by decide) in_X3_write_X3 lk_X3_write_9 rfl dX3_write_2 ?_
  refine lv_imul hx hb dX3_write_5 ?_
  refine lv_iload_n hx hb dX3_write_6 rfl (lv_at hl 2 rfl) ?_
  refine lv_iadd hx hb dX3_write_7 ?_
  refine lv_topi (fun x4_1 ex4_1 => ?_)
  replace hf := nm_use hf ex4_1
  refine lv_istore (lv' := [(4, .int x4_1), (0, .ref t0), (1, .int x1), (2, .int x2), (3, .int x3)]) hx hb dX3_write_8 hl (by decide) rfl (fun ls hl => ?_)
  refine lv_iload hx hb dX3_write_10 (lv_at hl 0 rfl) ?_
  refine lv_if_lt (tgt := 33) hx hb dX3_write_12 (by decide) (fun hc => ?_) (fun hc => ?_)
  · replace hf := it_t hf hc
    cases hf
    exact r_vret C h hr hlocks dX3_write_33
  · replace hf := it_f hf hc
    refine lv_iload hx hb dX3_write_15 (lv_at hl 0 rfl) ?_
    refine lv_aload_n hx hb dX3_write_17 rfl (lv_at hl 1 rfl) ?_
    refine r_get C h 0 1 (ci := 3) (N := 2) (Cn := RX3) (T := TX3) rfl rfl (by decide) in_X3_write_X3 lk_X3_write_21 rfl dX3_write_18 ?_
    refine r_alen C h 1 rfl rfl dX3_write_21 ?_
    refine lv_icmp_ge (tgt := 33) hx hb dX3_write_22 (by decide) (fun hc => ?_) (fun hc => ?_)
    · replace hf := it_t hf hc
      cases hf
      exact r_vret C h hr hlocks dX3_write_33
    · replace hf := it_f hf hc
      refine lv_aload_n hx hb dX3_write_25 rfl (lv_at hl 1 rfl) ?_
      refine r_get C h 0 1 (ci := 3) (N := 2) (Cn := RX3) (T := TX3) rfl rfl (by decide) in_X3_write_X3 lk_X3_write_21 rfl dX3_write_26 ?_
      refine lv_iload hx hb dX3_write_29 (lv_at hl 0 rfl) ?_
      refine lv_iload_n hx hb dX3_write_31 rfl (lv_at hl 4 rfl) ?_
      obtain ⟨j_2, hj_2, hf⟩ := chk_use hf
      refine r_ast C h 1 rfl rfl hj_2 (fun z__ => (wTb cI t0 t1 co tn z__)) (fun _ => rfl) dX3_write_32 (fun tf_3 etf_3 H locs h => ?_)
      replace hf := nm_use hf etf_3
      cases hf
      exact r_vret C h hr hlocks dX3_write_33
def rm_X3_removeRow : Room := { frames := 1, cells := 0, slots := 0, locals := 18 }
set_option maxRecDepth 20000 in
theorem lk_X3_removeRow_9 : Cond.fieldLink RX3 9 "LineDoubler$Table" "columns" "I" ∈ wsX3_removeRow := List.mem_of_getElem? (i := 1) (by decide +kernel)
set_option maxRecDepth 20000 in
theorem lk_X3_removeRow_21 : Cond.fieldLink RX3 21 "LineDoubler$Table" "cells" "[I" ∈ wsX3_removeRow := List.mem_of_getElem? (i := 2) (by decide +kernel)
set_option maxRecDepth 20000 in
theorem lm_X3_removeRow_25 : Cond.methodLink RX3 25 arraycopyName ∈ wsX3_removeRow := List.mem_of_getElem? (i := 3) (by decide +kernel)
set_option maxRecDepth 20000 in
theorem ln_X3_removeRow_ac : Cond.native arraycopyName ∈ wsX3_removeRow := List.mem_of_getElem? (i := 4) (by decide +kernel)
set_option maxRecDepth 20000 in
theorem ls_X3_removeRow_ac : Cond.static arraycopyName ∈ wsX3_removeRow := List.mem_of_getElem? (i := 5) (by decide +kernel)
set_option maxRecDepth 20000 in
theorem li_X3_removeRow_System : Cond.initialized "java/lang/System" ∈ wsX3_removeRow := List.mem_of_getElem? (i := 6) (by decide +kernel)
set_option maxRecDepth 20000 in
theorem in_X3_removeRow_X3 : ∀ x ∈ wsX30, x ∈ wsX3_removeRow := mem_r _ [7, 8] (by decide +kernel)
set_option maxHeartbeats 4000000 in
set_option maxRecDepth 100000 in
theorem c_X3_removeRow (l : Launch) (G : va_G) (cI cC cZ : ClassId) (X : List (ClassId × FieldType)) (t0 t1 : Nat) (co : Int32) (tn : Nat) (tf : Nat → Int32) (x1 : Int32) (tf' : Nat → Int32) (hf : fX3_removeRow co tn tf x1 = some (tf')) : CT l yX3_removeRow wsX3_removeRow rm_X3_removeRow G (TY cI cC cZ X) [.ref t0, .int x1] (wTb cI t0 t1 co tn tf) none (wTb cI t0 t1 co tn tf') := by
  refine CT.of (cc := cX3_removeRow) (maxL := 4) (ret := none) RX3 rfl (by decide) rfl (Nat.le_of_ble_eq_true rfl) ?_
  intro p e s m args below meth c A ls C hr hlocks hnm h hl
  have hx := C.hx
  have hb := C.hb
  have hl : lv_has ls 4 [(0, .ref t0), (1, .int x1)] := hl
  unfold fX3_removeRow at hf
  refine lv_iload_n hx hb dX3_removeRow_0 rfl (lv_at hl 1 rfl) ?_
  refine lv_aload_n hx hb dX3_removeRow_1 rfl (lv_at hl 0 rfl) ?_
  refine r_get C h 0 0 (ci := 3) (N := 2) (Cn := RX3) (T := TX3) rfl rfl (by decide) in_X3_removeRow_X3 lk_X3_removeRow_9 rfl dX3_removeRow_2 ?_
  refine lv_imul hx hb dX3_removeRow_5 ?_
  refine lv_topi (fun x2_1 ex2_1 => ?_)
  replace hf := nm_use hf ex2_1
  refine lv_istore_n (lv' := [(2, .int x2_1), (0, .ref t0), (1, .int x1)]) hx hb dX3_removeRow_6 rfl hl (by decide) rfl (fun ls hl => ?_)
  refine lv_iload_n hx hb dX3_removeRow_7 rfl (lv_at hl 0 rfl) ?_
  refine lv_aload_n hx hb dX3_removeRow_8 rfl (lv_at hl 1 rfl) ?_
  refine r_get C h 0 0 (ci := 3) (N := 2) (Cn := RX3) (T := TX3) rfl rfl (by decide) in_X3_removeRow_X3 lk_X3_removeRow_9 rfl dX3_removeRow_9 ?_
  refine lv_iadd hx hb dX3_removeRow_12 ?_
  refine lv_topi (fun x3_2 ex3_2 => ?_)
  replace hf := nm_use hf ex3_2
  refine lv_istore_n (lv' := [(3, .int x3_2), (2, .int x2_1), (0, .ref t0), (1, .int x1)]) hx hb dX3_removeRow_13 rfl hl (by decide) rfl (fun ls hl => ?_)
  refine lv_iload_n hx hb dX3_removeRow_14 rfl (lv_at hl 1 rfl) ?_
  refine lv_if_lt (tgt := 47) hx hb dX3_removeRow_15 (by decide) (fun hc => ?_) (fun hc => ?_)
  · replace hf := it_t hf hc
    cases hf
    exact r_vret C h hr hlocks dX3_removeRow_47
  · replace hf := it_f hf hc
    refine lv_iload_n hx hb dX3_removeRow_18 rfl (lv_at hl 0 rfl) ?_
    refine lv_aload_n hx hb dX3_removeRow_19 rfl (lv_at hl 2 rfl) ?_
    refine r_get C h 0 1 (ci := 3) (N := 2) (Cn := RX3) (T := TX3) rfl rfl (by decide) in_X3_removeRow_X3 lk_X3_removeRow_21 rfl dX3_removeRow_20 ?_
    refine r_alen C h 1 rfl rfl dX3_removeRow_23 ?_
    refine lv_icmp_gt (tgt := 47) hx hb dX3_removeRow_24 (by decide) (fun hc => ?_) (fun hc => ?_)
    · replace hf := it_t hf hc
      cases hf
      exact r_vret C h hr hlocks dX3_removeRow_47
    · replace hf := it_f hf hc
      refine lv_aload_n hx hb dX3_removeRow_27 rfl (lv_at hl 2 rfl) ?_
      refine r_get C h 0 1 (ci := 3) (N := 2) (Cn := RX3) (T := TX3) rfl rfl (by decide) in_X3_removeRow_X3 lk_X3_removeRow_21 rfl dX3_removeRow_28 ?_
      refine lv_iload_n hx hb dX3_removeRow_31 rfl (lv_at hl 0 rfl) ?_
      refine lv_aload_n hx hb dX3_removeRow_32 rfl (lv_at hl 2 rfl) ?_
      refine r_get C h 0 1 (ci := 3) (N := 2) (Cn := RX3) (T := TX3) rfl rfl (by decide) in_X3_removeRow_X3 lk_X3_removeRow_21 rfl dX3_removeRow_33 ?_
      refine lv_iload_n hx hb dX3_removeRow_36 rfl (lv_at hl 1 rfl) ?_
      refine lv_aload_n hx hb dX3_removeRow_37 rfl (lv_at hl 2 rfl) ?_
      refine r_get C h 0 1 (ci := 3) (N := 2) (Cn := RX3) (T := TX3) rfl rfl (by decide) in_X3_removeRow_X3 lk_X3_removeRow_21 rfl dX3_removeRow_38 ?_
      refine r_alen C h 1 rfl rfl dX3_removeRow_41 ?_
      refine lv_iload_n hx hb dX3_removeRow_42 rfl (lv_at hl 0 rfl) ?_
      refine lv_isub hx hb dX3_removeRow_43 ?_
      refine lv_topi (fun y_3 ey_3 => ?_)
      replace hf := nm_use hf ey_3
      obtain ⟨hk_5, hf⟩ := nd_use hf
      refine r_copy C h hl.1 1 1 rfl rfl rfl hk_5 lm_X3_removeRow_25 ln_X3_removeRow_ac ls_X3_removeRow_ac li_X3_removeRow_System (Nat.le_of_ble_eq_true rfl) (by decide) (fun z__ => (wTb cI t0 t1 co tn z__)) (fun _ => rfl) dX3_removeRow_44 (fun tf_4 etf_4 H locs h => ?_)
      replace hf := nm_use hf etf_4
      cases hf
      exact r_vret C h hr hlocks dX3_removeRow_47
def rm_X3_copyFrom : Room := { frames := 1, cells := 0, slots := 0, locals := 18 }
set_option maxRecDepth 20000 in
theorem lk_X3_copyFrom_21 : Cond.fieldLink RX3 21 "LineDoubler$Table" "cells" "[I" ∈ wsX3_copyFrom := List.mem_of_getElem? (i := 1) (by decide +kernel)
set_option maxRecDepth 20000 in
theorem lm_X3_copyFrom_31 : Cond.methodLink RX3 31 Lib.Math.min.name ∈ wsX3_copyFrom := List.mem_of_getElem? (i := 2) (by decide +kernel)
set_option maxRecDepth 20000 in
theorem ls_X3_copyFrom_min : Cond.static Lib.Math.min.name ∈ wsX3_copyFrom := List.mem_of_getElem? (i := 3) (by decide +kernel)
set_option maxRecDepth 20000 in
theorem li_X3_copyFrom_Math : Cond.initialized "java/lang/Math" ∈ wsX3_copyFrom := List.mem_of_getElem? (i := 4) (by decide +kernel)
set_option maxRecDepth 20000 in
theorem lc_X3_copyFrom_min : Cond.code Lib.Math.min.name Lib.Math.min.code 2 (some .int) ∈ wsX3_copyFrom := List.mem_of_getElem? (i := 5) (by decide +kernel)
set_option maxRecDepth 20000 in
theorem lm_X3_copyFrom_25 : Cond.methodLink RX3 25 arraycopyName ∈ wsX3_copyFrom := List.mem_of_getElem? (i := 6) (by decide +kernel)
set_option maxRecDepth 20000 in
theorem ln_X3_copyFrom_ac : Cond.native arraycopyName ∈ wsX3_copyFrom := List.mem_of_getElem? (i := 7) (by decide +kernel)
set_option maxRecDepth 20000 in
theorem ls_X3_copyFrom_ac : Cond.static arraycopyName ∈ wsX3_copyFrom := List.mem_of_getElem? (i := 8) (by decide +kernel)
set_option maxRecDepth 20000 in
theorem li_X3_copyFrom_System : Cond.initialized "java/lang/System" ∈ wsX3_copyFrom := List.mem_of_getElem? (i := 9) (by decide +kernel)
set_option maxRecDepth 20000 in
theorem in_X3_copyFrom_X3 : ∀ x ∈ wsX30, x ∈ wsX3_copyFrom := mem_r _ [10, 11] (by decide +kernel)
set_option maxHeartbeats 4000000 in
set_option maxRecDepth 100000 in
theorem c_X3_copyFrom (l : Launch) (G : va_G) (cI cC cZ : ClassId) (X : List (ClassId × FieldType)) (t0 t1 o0 o1 : Nat) (co : Int32) (tn : Nat) (tf : Nat → Int32) (oc : Int32) (on : Nat) (of : Nat → Int32) (tf' : Nat → Int32) (hf : fX3_copyFrom tn tf on of = some (tf')) : CT l yX3_copyFrom wsX3_copyFrom rm_X3_copyFrom G (TY cI cC cZ X) [.ref t0, .ref o0] (wTb2 cI t0 t1 o0 o1 co tn tf oc on of) none (wTb2 cI t0 t1 o0 o1 co tn tf' oc on of) := by
  refine CT.of (cc := cX3_copyFrom) (maxL := 2) (ret := none) RX3 rfl (by decide) rfl (Nat.le_of_ble_eq_true rfl) ?_
  intro p e s m args below meth c A ls C hr hlocks hnm h hl
  have hx := C.hx
  have hb := C.hb
  have hl : lv_has ls 2 [(0, .ref t0), (1, .ref o0)] := hl
  unfold fX3_copyFrom at hf
  refine lv_aload_n hx hb dX3_copyFrom_0 rfl (lv_at hl 1 rfl) ?_
  refine r_get C h 2 1 (ci := 3) (N := 2) (Cn := RX3) (T := TX3) rfl rfl (by decide) in_X3_copyFrom_X3 lk_X3_copyFrom_21 rfl dX3_copyFrom_1 ?_
  refine lv_iconst (v := 0) hx hb dX3_copyFrom_4 (by decide) ?_
  refine lv_aload_n hx hb dX3_copyFrom_5 rfl (lv_at hl 0 rfl) ?_
  refine r_get C h 0 1 (ci := 3) (N := 2) (Cn := RX3) (T := TX3) rfl rfl (by decide) in_X3_copyFrom_X3 lk_X3_copyFrom_21 rfl dX3_copyFrom_6 ?_
  refine lv_iconst (v := 0) hx hb dX3_copyFrom_9 (by decide) ?_
  refine lv_aload_n hx hb dX3_copyFrom_10 rfl (lv_at hl 1 rfl) ?_
  refine r_get C h 2 1 (ci := 3) (N := 2) (Cn := RX3) (T := TX3) rfl rfl (by decide) in_X3_copyFrom_X3 lk_X3_copyFrom_21 rfl dX3_copyFrom_11 ?_
  refine r_alen C h 3 rfl rfl dX3_copyFrom_14 ?_
  refine lv_aload_n hx hb dX3_copyFrom_15 rfl (lv_at hl 0 rfl) ?_
  refine r_get C h 0 1 (ci := 3) (N := 2) (Cn := RX3) (T := TX3) rfl rfl (by decide) in_X3_copyFrom_X3 lk_X3_copyFrom_21 rfl dX3_copyFrom_16 ?_
  refine r_alen C h 1 rfl rfl dX3_copyFrom_19 ?_
  refine r_min C hl.1 lm_X3_copyFrom_31 ls_X3_copyFrom_min li_X3_copyFrom_Math lc_X3_copyFrom_min (Nat.le_of_ble_eq_true rfl) (Nat.le_of_ble_eq_true rfl) (Nat.le_of_ble_eq_true rfl) (Nat.le_of_ble_eq_true rfl) dX3_copyFrom_20 ?_
  refine lv_topi (fun y_1 ey_1 => ?_)
  replace hf := nm_use hf ey_1
  obtain ⟨hk_3, hf⟩ := nd_use hf
  refine r_copy C h hl.1 3 1 rfl rfl rfl hk_3 lm_X3_copyFrom_25 ln_X3_copyFrom_ac ls_X3_copyFrom_ac li_X3_copyFrom_System (Nat.le_of_ble_eq_true rfl) (by decide) (fun z__ => (wTb2 cI t0 t1 o0 o1 co tn z__ oc on of)) (fun _ => rfl) dX3_copyFrom_23 (fun tf_2 etf_2 H locs h => ?_)
  replace hf := nm_use hf etf_2
  cases hf
  exact r_vret C h hr hlocks dX3_copyFrom_26
