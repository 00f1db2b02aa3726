/-- the mirror of Jxf58ca_isNaN_12338 -/
def fJxf58ca_isNaN_12338 (x0 : UInt32) : Option (Int32) :=
  (if (Op.cmpValue (FP.fcmp x0 x0) CmpOp.l) = 0 then
  some (0)
  else
  some (1))

/-- the mirror of Jxf58ca_floatToIntBits_5c35a -/
def fJxf58ca_floatToIntBits_5c35a (x0 : UInt32) : Option (Int32) :=
  ob1 (fJxf58ca_isNaN_12338 x0) fun r_1 =>
  (if r_1 = 0 then
  some ((UInt32.toInt32 x0))
  else
  some (2143289344))

/-- the mirror of Jxe99ae_isNaN_b9ae7 -/
def fJxe99ae_isNaN_b9ae7 (x0 : UInt64) : Option (Int32) :=
  (if (Op.cmpValue (FP.dcmp x0 x0) CmpOp.l) = 0 then
  some (0)
  else
  some (1))

/-- the mirror of Jxe99ae_doubleToLongBits_ccdee -/
def fJxe99ae_doubleToLongBits_ccdee (x0 : UInt64) : Option (Int64) :=
  ob1 (fJxe99ae_isNaN_b9ae7 x0) fun r_1 =>
  (if r_1 = 0 then
  some ((UInt64.toInt64 x0))
  else
  some (9221120237041090560))

def fX4_bitsOf_72 (x2 : Int32) (x3 : Int32) (x4 : UInt64) (x6 : Int32) : Option (Int64) :=
  nd ((FP.dsub x4 4607182418800017408) &&& 0x7fffffffffffffff ≤ 0x7ff0000000000000) <|
  nd ((FP.dmul (FP.dsub x4 4607182418800017408) (FP.l2d ((1 : Int64) <<< (x2.toInt64 &&& 63)))) &&& 0x7fffffffffffffff ≤ 0x7ff0000000000000) <|
  nm ((FP.d2l (FP.dmul (FP.dsub x4 4607182418800017408) (FP.l2d ((1 : Int64) <<< (x2.toInt64 &&& 63)))))) fun x7_3 =>
  some (((((x6 + x3).toInt64) <<< (x2.toInt64 &&& 63)) + x7_3))

def fX4_bitsOf_43_b (rec : Int32 → Int32 → UInt64 → Int32 → Option (Int64)) (x2 : Int32) (x3 : Int32) (x4 : UInt64) (x6 : Int32) : Option (Int64) :=
  (if 0 ≤ (Op.cmpValue (FP.dcmp x4 4607182418800017408) CmpOp.g) then
  fX4_bitsOf_72 x2 x3 x4 x6
  else
  (if x6 ≤ (1 - x3) then
  fX4_bitsOf_72 x2 x3 x4 x6
  else
  nd ((FP.dmul x4 4611686018427387904) &&& 0x7fffffffffffffff ≤ 0x7ff0000000000000) <|
  nm ((FP.dmul x4 4611686018427387904)) fun x4_2 =>
  nm (x6 + (-1)) fun x6_3 =>
  rec x2 x3 x4_2 x6_3))
def fX4_bitsOf_43 : Nat → Int32 → Int32 → UInt64 → Int32 → Option (Int64)
  | 0 => fun _ _ _ _ => none
  | n + 1 => fX4_bitsOf_43_b (fX4_bitsOf_43 n)

def fX4_bitsOf_14_b (rec : Int32 → Int32 → UInt64 → Int32 → Option (Int64)) (x2 : Int32) (x3 : Int32) (x4 : UInt64) (x6 : Int32) : Option (Int64) :=
  (if (Op.cmpValue (FP.dcmp x4 4611686018427387904) CmpOp.l) < 0 then
  fX4_bitsOf_43 KF x2 x3 x4 x6
  else
  (if x3 ≤ x6 then
  fX4_bitsOf_43 KF x2 x3 x4 x6
  else
  nd ((FP.ddiv x4 4611686018427387904) &&& 0x7fffffffffffffff ≤ 0x7ff0000000000000) <|
  nm ((FP.ddiv x4 4611686018427387904)) fun x4_2 =>
  nm (x6 + 1) fun x6_3 =>
  rec x2 x3 x4_2 x6_3))
def fX4_bitsOf_14 : Nat → Int32 → Int32 → UInt64 → Int32 → Option (Int64)
  | 0 => fun _ _ _ _ => none
  | n + 1 => fX4_bitsOf_14_b (fX4_bitsOf_14 n)

/-- the mirror of X4_bitsOf -/
def fX4_bitsOf (x0 : UInt64) (x2 : Int32) (x3 : Int32) : Option (Int64) :=
  (if 0 < (Op.cmpValue (FP.dcmp x0 0) CmpOp.l) then
  fX4_bitsOf_14 KF x2 x3 x0 0
  else
  some (0))

/-- the mirror of X4_ratio -/
def fX4_ratio (nu : Nat → Int32) : Option (Int32) :=
  ob1 (fX2_setting nu (1 : Int32)) fun r_1 =>
  nm ((2 * r_1)) fun x1_3 =>
  (if 0 < x1_3 then
  ob1 (fX2_setting nu (0 : Int32)) fun r_4 =>
  nd ((FP.ddiv (FP.i2d r_4) (FP.i2d x1_3)) &&& 0x7fffffffffffffff ≤ 0x7ff0000000000000) <|
  nd ((FP.d2f (FP.ddiv (FP.i2d r_4) (FP.i2d x1_3))) &&& 0x7fffffff ≤ 0x7f800000) <|
  nm ((FP.d2f (FP.ddiv (FP.i2d r_4) (FP.i2d x1_3)))) fun x2_8 =>
  nd ((FP.f2d x2_8) &&& 0x7fffffffffffffff ≤ 0x7ff0000000000000) <|
  ob1 (fX4_bitsOf (FP.f2d x2_8) (23 : Int32) (127 : Int32)) fun r_10 =>
  some ((r_10.toInt32))
  else
  some (0))

/-- the mirror of X4_fill -/
def fX4_fill (nu : Nat → Int32) (wt : Int32) : Option (Int64) :=
  nm ((nu 0)) fun x1_1 =>
  (if 0 < x1_1 then
  nd ((FP.ddiv (FP.i2d wt) (FP.i2d x1_1)) &&& 0x7fffffffffffffff ≤ 0x7ff0000000000000) <|
  ob1 (fX4_bitsOf (FP.ddiv (FP.i2d wt) (FP.i2d x1_1)) (52 : Int32) (1023 : Int32)) fun r_3 =>
  some (r_3)
  else
  some (0))

/-- the mirror of X5_ratio -/
def fX5_ratio (now : Nat → Int32) : Option (Int32) :=
  nd ((FP.ddiv (FP.i2d (now 1)) (FP.i2d (2 * (now 2)))) &&& 0x7fffffffffffffff ≤ 0x7ff0000000000000) <|
  nd ((FP.d2f (FP.ddiv (FP.i2d (now 1)) (FP.i2d (2 * (now 2))))) &&& 0x7fffffff ≤ 0x7f800000) <|
  ob1 (fJxf58ca_floatToIntBits_5c35a (FP.d2f (FP.ddiv (FP.i2d (now 1)) (FP.i2d (2 * (now 2)))))) fun r_3 =>
  some (r_3)

/-- the mirror of X5_fill -/
def fX5_fill (now : Nat → Int32) : Option (Int64) :=
  (if (now 0) = 0 then
  some (0)
  else
  nd ((FP.ddiv (FP.i2d (now 25)) (FP.i2d (now 0))) &&& 0x7fffffffffffffff ≤ 0x7ff0000000000000) <|
  ob1 (fJxe99ae_doubleToLongBits_ccdee (FP.ddiv (FP.i2d (now 25)) (FP.i2d (now 0)))) fun r_2 =>
  some (r_2))

def rm_Jxf58ca_isNaN_12338 : Room := { frames := 0, cells := 0, slots := 0, locals := 0 }
set_option maxHeartbeats 4000000 in
set_option maxRecDepth 100000 in
theorem c_Jxf58ca_isNaN_12338 (l : Launch) (G : va_G) (cI cC cZ : ClassId) (X : List (ClassId × FieldType)) (x0 : UInt32) (rv : Int32) (hf : fJxf58ca_isNaN_12338 x0 = some (rv)) : CT l yJxf58ca_isNaN_12338 wsJxf58ca_isNaN_12338 rm_Jxf58ca_isNaN_12338 G (TY cI cC cZ X) [.float x0] ([] : va_W) (some (.int rv)) ([] : va_W) := by
  refine CT.ofF (cc := cJxf58ca_isNaN_12338) (maxL := 1) (ret := (some .boolean)) RJxf58ca rfl (by decide +kernel) rfl (Nat.le_of_ble_eq_true rfl) ?_
  intro p e s m args below meth c A ls C hr hlocks hnm h hl
  have hx := C.hx
  have hb := C.hb
  have hl : lv_has ls 1 [(0, .float x0)] := hl
  unfold fJxf58ca_isNaN_12338 at hf
  refine lv_fload_n hx hb dJxf58ca_isNaN_12338_0 rfl (lv_at hl 0 rfl) ?_
  refine lv_fload_n hx hb dJxf58ca_isNaN_12338_1 rfl (lv_at hl 0 rfl) ?_
  refine lv_fcmp hx hb dJxf58ca_isNaN_12338_2 ?_
  refine lv_if_eq (tgt := 10) hx hb dJxf58ca_isNaN_12338_3 (by decide) (fun hc => ?_) (fun hc => ?_)
  · replace hf := it_t hf hc
    refine lv_iconst (v := 0) hx hb dJxf58ca_isNaN_12338_10 (by decide) ?_
    cases hf
    exact r_zret C h hr hlocks rfl dJxf58ca_isNaN_12338_11
  · replace hf := it_f hf hc
    refine lv_iconst (v := 1) hx hb dJxf58ca_isNaN_12338_6 (by decide) ?_
    refine lv_goto (tgt := 11) hx hb dJxf58ca_isNaN_12338_7 (by decide) ?_
    cases hf
    exact r_zret C h hr hlocks rfl dJxf58ca_isNaN_12338_11
def rm_Jxf58ca_floatToIntBits_5c35a : Room := { frames := 1, cells := 0, slots := 0, locals := 20 }
set_option maxRecDepth 20000 in
theorem kc_Jxf58ca_floatToIntBits_5c35a_77 : Cond.constant RJxf58ca 77 (2143289344) ∈ wsJxf58ca_floatToIntBits_5c35a := List.mem_of_getElem? (i := 5) (by decide +kernel)
set_option maxRecDepth 20000 in
theorem lm_Jxf58ca_floatToIntBits_5c35a_74 : Cond.methodLink RJxf58ca 74 ⟨"java/lang/Float", "floatToRawIntBits", "(F)I"⟩ ∈ wsJxf58ca_floatToIntBits_5c35a := List.mem_of_getElem? (i := 1) (by decide +kernel)
set_option maxRecDepth 20000 in
theorem ln_Jxf58ca_floatToIntBits_5c35a_raw : Cond.native ⟨"java/lang/Float", "floatToRawIntBits", "(F)I"⟩ ∈ wsJxf58ca_floatToIntBits_5c35a := List.mem_of_getElem? (i := 2) (by decide +kernel)
set_option maxRecDepth 20000 in
theorem ls_Jxf58ca_floatToIntBits_5c35a_raw : Cond.static ⟨"java/lang/Float", "floatToRawIntBits", "(F)I"⟩ ∈ wsJxf58ca_floatToIntBits_5c35a := List.mem_of_getElem? (i := 3) (by decide +kernel)
set_option maxRecDepth 20000 in
theorem li_Jxf58ca_floatToIntBits_5c35a_raw : Cond.initialized "java/lang/Float" ∈ wsJxf58ca_floatToIntBits_5c35a := List.mem_of_getElem? (i := 4) (by decide +kernel)
set_option maxRecDepth 20000 in
theorem cw_Jxf58ca_floatToIntBits_5c35a_Jxf58ca_isNaN_12338_59 {s : State} {args : Array Value} (hts : ∀ w ∈ wsJxf58ca_floatToIntBits_5c35a, w.before args s = true) : CallB rm_Jxf58ca_floatToIntBits_5c35a s args RJxf58ca 59 yJxf58ca_isNaN_12338 cJxf58ca_isNaN_12338 1 (some .boolean) wsJxf58ca_isNaN_12338 rm_Jxf58ca_isNaN_12338 0 0 1 ∧ (Cond.static yJxf58ca_isNaN_12338).before args s = true :=
  va_cwS 1 hts gJxf58ca_floatToIntBits_5c35a_Jxf58ca_isNaN_12338 rfl rfl rfl (by decide +kernel) ⟨Nat.le_of_ble_eq_true rfl, Nat.le_of_ble_eq_true rfl⟩
set_option maxHeartbeats 4000000 in
set_option maxRecDepth 100000 in
theorem c_Jxf58ca_floatToIntBits_5c35a (l : Launch) (G : va_G) (cI cC cZ : ClassId) (X : List (ClassId × FieldType)) (x0 : UInt32) (rv : Int32) (hf : fJxf58ca_floatToIntBits_5c35a x0 = some (rv)) : CT l yJxf58ca_floatToIntBits_5c35a wsJxf58ca_floatToIntBits_5c35a rm_Jxf58ca_floatToIntBits_5c35a G (TY cI cC cZ X) [.float x0] ([] : va_W) (some (.int rv)) ([] : va_W) := by
  refine CT.ofF (cc := cJxf58ca_floatToIntBits_5c35a) (maxL := 1) (ret := (some .int)) RJxf58ca rfl (by decide +kernel) rfl (Nat.le_of_ble_eq_true rfl) ?_
  intro p e s m args below meth c A ls C hr hlocks hnm h hl
  have hx := C.hx
  have hb := C.hb
  have hl : lv_has ls 1 [(0, .float x0)] := hl
  unfold fJxf58ca_floatToIntBits_5c35a at hf
  refine lv_fload_n hx hb dJxf58ca_floatToIntBits_5c35a_0 rfl (lv_at hl 0 rfl) ?_
  obtain ⟨r_1, hq_2, hf⟩ := ob1_use hf
  refine r_callS C h (cw_Jxf58ca_floatToIntBits_5c35a_Jxf58ca_isNaN_12338_59 C.hts) (rest := []) (c_Jxf58ca_isNaN_12338 l G cI cC cZ X x0 r_1 hq_2) [] rfl rfl rfl rfl hl.1 rfl (Nat.le_of_ble_eq_true rfl) ⟨Nat.le_of_ble_eq_true rfl, Nat.le_of_ble_eq_true rfl⟩ ([] : va_W) rfl rfl dJxf58ca_floatToIntBits_5c35a_1 (fun H locs h => ?_)
  refine lv_if_ne (tgt := 12) hx hb dJxf58ca_floatToIntBits_5c35a_4 (by decide) (fun hc => ?_) (fun hc => ?_)
  · replace hf := it_f hf hc
    refine lv_ldc hx hb C.hown (C.hts _ kc_Jxf58ca_floatToIntBits_5c35a_77) dJxf58ca_floatToIntBits_5c35a_12 ?_
    cases hf
    exact r_iret C h hr hlocks dJxf58ca_floatToIntBits_5c35a_14
  · replace hf := it_t hf hc
    refine lv_fload_n hx hb dJxf58ca_floatToIntBits_5c35a_7 rfl (lv_at hl 0 rfl) ?_
    refine vn_f2i C.hx C.hb (C.hml.trans hl.1.symm) C.hown (C.hts _ lm_Jxf58ca_floatToIntBits_5c35a_74) (C.hts _ ln_Jxf58ca_floatToIntBits_5c35a_raw) (C.hts _ ls_Jxf58ca_floatToIntBits_5c35a_raw) (C.hts _ li_Jxf58ca_floatToIntBits_5c35a_raw) (Nat.le_of_ble_eq_true rfl) (Nat.le_of_ble_eq_true rfl) dJxf58ca_floatToIntBits_5c35a_8 ?_
    cases hf
    exact r_iret C h hr hlocks dJxf58ca_floatToIntBits_5c35a_11
def rm_Jxe99ae_isNaN_b9ae7 : Room := { frames := 0, cells := 0, slots := 0, locals := 0 }
set_option maxHeartbeats 4000000 in
set_option maxRecDepth 100000 in
theorem c_Jxe99ae_isNaN_b9ae7 (l : Launch) (G : va_G) (cI cC cZ : ClassId) (X : List (ClassId × FieldType)) (x0 : UInt64) (rv : Int32) (hf : fJxe99ae_isNaN_b9ae7 x0 = some (rv)) : CT l yJxe99ae_isNaN_b9ae7 wsJxe99ae_isNaN_b9ae7 rm_Jxe99ae_isNaN_b9ae7 G (TY cI cC cZ X) [.double x0] ([] : va_W) (some (.int rv)) ([] : va_W) := by
  refine CT.of (cc := cJxe99ae_isNaN_b9ae7) (maxL := 2) (ret := (some .boolean)) RJxe99ae rfl (by decide) rfl (Nat.le_of_ble_eq_true rfl) ?_
  intro p e s m args below meth c A ls C hr hlocks hnm h hl
  have hx := C.hx
  have hb := C.hb
  have hl : lv_has ls 2 [(0, .double x0)] := hl
  unfold fJxe99ae_isNaN_b9ae7 at hf
  refine lv_dload_n hx hb dJxe99ae_isNaN_b9ae7_0 rfl (lv_at hl 0 rfl) ?_
  refine lv_dload_n hx hb dJxe99ae_isNaN_b9ae7_1 rfl (lv_at hl 0 rfl) ?_
  refine lv_dcmp hx hb dJxe99ae_isNaN_b9ae7_2 ?_
  refine lv_if_eq (tgt := 10) hx hb dJxe99ae_isNaN_b9ae7_3 (by decide) (fun hc => ?_) (fun hc => ?_)
  · replace hf := it_t hf hc
    refine lv_iconst (v := 0) hx hb dJxe99ae_isNaN_b9ae7_10 (by decide) ?_
    cases hf
    exact r_zret C h hr hlocks rfl dJxe99ae_isNaN_b9ae7_11
  · replace hf := it_f hf hc
    refine lv_iconst (v := 1) hx hb dJxe99ae_isNaN_b9ae7_6 (by decide) ?_
    refine lv_goto (tgt := 11) hx hb dJxe99ae_isNaN_b9ae7_7 (by decide) ?_
    cases hf
    exact r_zret C h hr hlocks rfl dJxe99ae_isNaN_b9ae7_11
def rm_Jxe99ae_doubleToLongBits_ccdee : Room := { frames := 1, cells := 0, slots := 0, locals := 21 }
set_option maxRecDepth 20000 in
theorem kc_Jxe99ae_doubleToLongBits_ccdee_137 : Cond.constantLong RJxe99ae 137 (9221120237041090560) ∈ wsJxe99ae_doubleToLongBits_ccdee := List.mem_of_getElem? (i := 5) (by decide +kernel)
set_option maxRecDepth 20000 in
theorem lm_Jxe99ae_doubleToLongBits_ccdee_134 : Cond.methodLink RJxe99ae 134 ⟨"java/lang/Double", "doubleToRawLongBits", "(D)J"⟩ ∈ wsJxe99ae_doubleToLongBits_ccdee := List.mem_of_getElem? (i := 1) (by decide +kernel)
set_option maxRecDepth 20000 in
theorem ln_Jxe99ae_doubleToLongBits_ccdee_raw : Cond.native ⟨"java/lang/Double", "doubleToRawLongBits", "(D)J"⟩ ∈ wsJxe99ae_doubleToLongBits_ccdee := List.mem_of_getElem? (i := 2) (by decide +kernel)
set_option maxRecDepth 20000 in
theorem ls_Jxe99ae_doubleToLongBits_ccdee_raw : Cond.static ⟨"java/lang/Double", "doubleToRawLongBits", "(D)J"⟩ ∈ wsJxe99ae_doubleToLongBits_ccdee := List.mem_of_getElem? (i := 3) (by decide +kernel)
set_option maxRecDepth 20000 in
theorem li_Jxe99ae_doubleToLongBits_ccdee_raw : Cond.initialized "java/lang/Double" ∈ wsJxe99ae_doubleToLongBits_ccdee := List.mem_of_getElem? (i := 4) (by decide +kernel)
set_option maxRecDepth 20000 in
theorem cw_Jxe99ae_doubleToLongBits_ccdee_Jxe99ae_isNaN_b9ae7_122 {s : State} {args : Array Value} (hts : ∀ w ∈ wsJxe99ae_doubleToLongBits_ccdee, w.before args s = true) : CallB rm_Jxe99ae_doubleToLongBits_ccdee s args RJxe99ae 122 yJxe99ae_isNaN_b9ae7 cJxe99ae_isNaN_b9ae7 2 (some .boolean) wsJxe99ae_isNaN_b9ae7 rm_Jxe99ae_isNaN_b9ae7 0 0 1 ∧ (Cond.static yJxe99ae_isNaN_b9ae7).before args s = true :=
  va_cwS 1 hts gJxe99ae_doubleToLongBits_ccdee_Jxe99ae_isNaN_b9ae7 rfl rfl rfl (by decide +kernel) ⟨Nat.le_of_ble_eq_true rfl, Nat.le_of_ble_eq_true rfl⟩
set_option maxHeartbeats 4000000 in
set_option maxRecDepth 100000 in
theorem c_Jxe99ae_doubleToLongBits_ccdee (l : Launch) (G : va_G) (cI cC cZ : ClassId) (X : List (ClassId × FieldType)) (x0 : UInt64) (rv : Int64) (hf : fJxe99ae_doubleToLongBits_ccdee x0 = some (rv)) : CT l yJxe99ae_doubleToLongBits_ccdee wsJxe99ae_doubleToLongBits_ccdee rm_Jxe99ae_doubleToLongBits_ccdee G (TY cI cC cZ X) [.double x0] ([] : va_W) (some (.long rv)) ([] : va_W) := by
  refine CT.of (cc := cJxe99ae_doubleToLongBits_ccdee) (maxL := 2) (ret := (some .long)) RJxe99ae rfl (by decide) rfl (Nat.le_of_ble_eq_true rfl) ?_
  intro p e s m args below meth c A ls C hr hlocks hnm h hl
  have hx := C.hx
  have hb := C.hb
  have hl : lv_has ls 2 [(0, .double x0)] := hl
  unfold fJxe99ae_doubleToLongBits_ccdee at hf
  refine lv_dload_n hx hb dJxe99ae_doubleToLongBits_ccdee_0 rfl (lv_at hl 0 rfl) ?_
  obtain ⟨r_1, hq_2, hf⟩ := ob1_use hf
  refine r_callS C h (cw_Jxe99ae_doubleToLongBits_ccdee_Jxe99ae_isNaN_b9ae7_122 C.hts) (rest := []) (c_Jxe99ae_isNaN_b9ae7 l G cI cC cZ X x0 r_1 hq_2) [] rfl rfl rfl rfl hl.1 rfl (Nat.le_of_ble_eq_true rfl) ⟨Nat.le_of_ble_eq_true rfl, Nat.le_of_ble_eq_true rfl⟩ ([] : va_W) rfl rfl dJxe99ae_doubleToLongBits_ccdee_1 (fun H locs h => ?_)
  refine lv_if_ne (tgt := 12) hx hb dJxe99ae_doubleToLongBits_ccdee_4 (by decide) (fun hc => ?_) (fun hc => ?_)
  · replace hf := it_f hf hc
    refine lv_ldc2 hx hb C.hown (C.hts _ kc_Jxe99ae_doubleToLongBits_ccdee_137) dJxe99ae_doubleToLongBits_ccdee_12 ?_
    cases hf
    exact r_lret C h hr hlocks dJxe99ae_doubleToLongBits_ccdee_15
  · replace hf := it_t hf hc
    refine lv_dload_n hx hb dJxe99ae_doubleToLongBits_ccdee_7 rfl (lv_at hl 0 rfl) ?_
    refine vn_d2l C.hx C.hb (C.hml.trans hl.1.symm) C.hown (C.hts _ lm_Jxe99ae_doubleToLongBits_ccdee_134) (C.hts _ ln_Jxe99ae_doubleToLongBits_ccdee_raw) (C.hts _ ls_Jxe99ae_doubleToLongBits_ccdee_raw) (C.hts _ li_Jxe99ae_doubleToLongBits_ccdee_raw) (Nat.le_of_ble_eq_true rfl) (Nat.le_of_ble_eq_true rfl) dJxe99ae_doubleToLongBits_ccdee_8 ?_
    cases hf
    exact r_lret C h hr hlocks dJxe99ae_doubleToLongBits_ccdee_11
def rm_X4_bitsOf : Room := { frames := 0, cells := 0, slots := 0, locals := 0 }
set_option maxRecDepth 20000 in
theorem kc_X4_bitsOf_170 : Cond.constantDouble RX4 170 (4611686018427387904) ∈ wsX4_bitsOf := List.mem_of_getElem? (i := 1) (by decide +kernel)
set_option maxHeartbeats 4000000 in
set_option maxRecDepth 100000 in
theorem c_X4_bitsOf (l : Launch) (G : va_G) (cI cC cZ : ClassId) (X : List (ClassId × FieldType)) (x0 : UInt64) (x2 : Int32) (x3 : Int32) (rv : Int64) (hf : fX4_bitsOf x0 x2 x3 = some (rv)) : CT l yX4_bitsOf wsX4_bitsOf rm_X4_bitsOf G (TY cI cC cZ X) [.double x0, .int x2, .int x3] ([] : va_W) (some (.long rv)) ([] : va_W) := by
  refine CT.of (cc := cX4_bitsOf) (maxL := 9) (ret := (some .long)) RX4 rfl (by decide) rfl (Nat.le_of_ble_eq_true rfl) ?_
  intro p e s m args below meth c A ls C hr hlocks hnm h hl
  have hx := C.hx
  have hb := C.hb
  have hl : lv_has ls 9 [(0, .double x0), (2, .int x2), (3, .int x3)] := hl
  have cut_72 : ∀ (x2 : Int32) (x3 : Int32) (x4 : UInt64) (x6 : Int32) (H : Heap) (locs : List Loc) (ls : Array Slot), Hx s G A ([] : va_W) H locs → lv_has ls 9 [(2, .int x2), (3, .int x3), (4, .double x4), (6, .int x6)] → fX4_bitsOf_72 x2 x3 x4 x6 = some (rv) → W p l e rm_X4_bitsOf s m args below meth c H locs 0 0 (MQ below (Qx G (some (.long rv)) ([] : va_W) A) args s 0 0 A) (F0 m 72 ls []) := by
    intro x2 x3 x4 x6 H locs ls h hl hf
    unfold fX4_bitsOf_72 at hf
    refine lv_dload hx hb dX4_bitsOf_72 (lv_at hl 2 rfl) ?_
    refine lv_dconst1 hx hb dX4_bitsOf_74 ?_
    obtain ⟨hn_1, hf⟩ := nd_use hf
    refine lv_dsub hx hb dX4_bitsOf_75 hn_1 ?_
    refine lv_lconst (v := 1) hx hb dX4_bitsOf_76 (by decide) ?_
    refine lv_iload_n hx hb dX4_bitsOf_77 rfl (lv_at hl 0 rfl) ?_
    refine lv_lshl hx hb dX4_bitsOf_78 rfl ?_
    refine lv_l2d hx hb dX4_bitsOf_79 ?_
    obtain ⟨hn_2, hf⟩ := nd_use hf
    refine lv_dmul hx hb dX4_bitsOf_80 hn_2 ?_
    refine lv_d2l hx hb dX4_bitsOf_81 ?_
    refine lv_topl (fun x7_3 ex7_3 => ?_)
    replace hf := nm_use hf ex7_3
    refine lv_lstore (lv' := [(7, .long x7_3), (2, .int x2), (3, .int x3), (4, .double x4), (6, .int x6)]) hx hb dX4_bitsOf_82 hl (by decide) rfl (fun ls hl => ?_)
    refine lv_iload hx hb dX4_bitsOf_84 (lv_at hl 4 rfl) ?_
    refine lv_iload_n hx hb dX4_bitsOf_86 rfl (lv_at hl 2 rfl) ?_
    refine lv_iadd hx hb dX4_bitsOf_87 ?_
    refine lv_i2l hx hb dX4_bitsOf_88 rfl ?_
    refine lv_iload_n hx hb dX4_bitsOf_89 rfl (lv_at hl 1 rfl) ?_
    refine lv_lshl hx hb dX4_bitsOf_90 rfl ?_
    refine lv_lload hx hb dX4_bitsOf_91 (lv_at hl 0 rfl) ?_
    refine lv_ladd hx hb dX4_bitsOf_93 ?_
    cases hf
    exact r_lret C h hr hlocks dX4_bitsOf_94
  have cut_43 : ∀ (n : Nat) (x2 : Int32) (x3 : Int32) (x4 : UInt64) (x6 : Int32) (H : Heap) (locs : List Loc) (ls : Array Slot), Hx s G A ([] : va_W) H locs → lv_has ls 9 [(2, .int x2), (3, .int x3), (4, .double x4), (6, .int x6)] → fX4_bitsOf_43 n x2 x3 x4 x6 = some (rv) → W p l e rm_X4_bitsOf s m args below meth c H locs 0 0 (MQ below (Qx G (some (.long rv)) ([] : va_W) A) args s 0 0 A) (F0 m 43 ls []) := by
    intro n
    induction n with
    | zero =>
      intro x2 x3 x4 x6 H locs ls h hl hf
      exact (nn_some _ hf).elim
    | succ n ih =>
      intro x2 x3 x4 x6 H locs ls h hl hf
      have hf : fX4_bitsOf_43_b (fX4_bitsOf_43 n) x2 x3 x4 x6 = some (rv) := hf
      unfold fX4_bitsOf_43_b at hf
      refine lv_dload hx hb dX4_bitsOf_43 (lv_at hl 2 rfl) ?_
      refine lv_dconst1 hx hb dX4_bitsOf_45 ?_
      refine lv_dcmp hx hb dX4_bitsOf_46 ?_
      refine lv_if_ge (tgt := 72) hx hb dX4_bitsOf_47 (by decide) (fun hc => ?_) (fun hc => ?_)
      · replace hf := it_t hf hc
        exact cut_72 x2 x3 x4 x6 _ _ _ h (lv_sub hl [0, 1, 2, 3] rfl) hf
      · replace hf := it_f hf hc
        refine lv_iload hx hb dX4_bitsOf_50 (lv_at hl 3 rfl) ?_
        refine lv_iconst (v := 1) hx hb dX4_bitsOf_52 (by decide) ?_
        refine lv_iload_n hx hb dX4_bitsOf_53 rfl (lv_at hl 1 rfl) ?_
        refine lv_isub hx hb dX4_bitsOf_54 ?_
        refine lv_icmp_le (tgt := 72) hx hb dX4_bitsOf_55 (by decide) (fun hc => ?_) (fun hc => ?_)
        · replace hf := it_t hf hc
          exact cut_72 x2 x3 x4 x6 _ _ _ h (lv_sub hl [0, 1, 2, 3] rfl) hf
        · replace hf := it_f hf hc
          refine lv_dload hx hb dX4_bitsOf_58 (lv_at hl 2 rfl) ?_
          refine lv_ldc2d hx hb C.hown (C.hts _ kc_X4_bitsOf_170) dX4_bitsOf_60 ?_
          obtain ⟨hn_1, hf⟩ := nd_use hf
          refine lv_dmul hx hb dX4_bitsOf_63 hn_1 ?_
          refine lv_topd (fun x4_2 ex4_2 => ?_)
          replace hf := nm_use hf ex4_2
          refine lv_dstore (lv' := [(4, .double x4_2), (2, .int x2), (3, .int x3), (6, .int x6)]) hx hb dX4_bitsOf_64 hl (by decide) rfl (fun ls hl => ?_)
          obtain ⟨x6_3, ex6_3⟩ : ∃ y : Int32, y = x6 + (-1) := ⟨_, rfl⟩
          replace hf := nm_use hf ex6_3
          refine lv_iinc (v := x6_3) (lv' := [(6, .int x6_3), (4, .double x4_2), (2, .int x2), (3, .int x3)]) hx hb dX4_bitsOf_66 hl (k := 3) rfl (by rw [ex6_3]; rfl) (by decide) rfl (fun ls hl => ?_)
          refine lv_goto (tgt := 43) hx hb dX4_bitsOf_69 (by decide) ?_
          exact ih x2 x3 x4_2 x6_3 _ _ _ h (lv_sub hl [2, 3, 1, 0] rfl) hf
  have cut_14 : ∀ (n : Nat) (x2 : Int32) (x3 : Int32) (x4 : UInt64) (x6 : Int32) (H : Heap) (locs : List Loc) (ls : Array Slot), Hx s G A ([] : va_W) H locs → lv_has ls 9 [(2, .int x2), (3, .int x3), (4, .double x4), (6, .int x6)] → fX4_bitsOf_14 n x2 x3 x4 x6 = some (rv) → W p l e rm_X4_bitsOf s m args below meth c H locs 0 0 (MQ below (Qx G (some (.long rv)) ([] : va_W) A) args s 0 0 A) (F0 m 14 ls []) := by
    intro n
    induction n with
    | zero =>
      intro x2 x3 x4 x6 H locs ls h hl hf
      exact (nn_some _ hf).elim
    | succ n ih =>
      intro x2 x3 x4 x6 H locs ls h hl hf
      have hf : fX4_bitsOf_14_b (fX4_bitsOf_14 n) x2 x3 x4 x6 = some (rv) := hf
      unfold fX4_bitsOf_14_b at hf
      refine lv_dload hx hb dX4_bitsOf_14 (lv_at hl 2 rfl) ?_
      refine lv_ldc2d hx hb C.hown (C.hts _ kc_X4_bitsOf_170) dX4_bitsOf_16 ?_
      refine lv_dcmp hx hb dX4_bitsOf_19 ?_
      refine lv_if_lt (tgt := 43) hx hb dX4_bitsOf_20 (by decide) (fun hc => ?_) (fun hc => ?_)
      · replace hf := it_t hf hc
        exact cut_43 KF x2 x3 x4 x6 _ _ _ h (lv_sub hl [0, 1, 2, 3] rfl) hf
      · replace hf := it_f hf hc
        refine lv_iload hx hb dX4_bitsOf_23 (lv_at hl 3 rfl) ?_
        refine lv_iload_n hx hb dX4_bitsOf_25 rfl (lv_at hl 1 rfl) ?_
        refine lv_icmp_ge (tgt := 43) hx hb dX4_bitsOf_26 (by decide) (fun hc => ?_) (fun hc => ?_)
        · replace hf := it_t hf hc
          exact cut_43 KF x2 x3 x4 x6 _ _ _ h (lv_sub hl [0, 1, 2, 3] rfl) hf
        · replace hf := it_f hf hc
          refine lv_dload hx hb dX4_bitsOf_29 (lv_at hl 2 rfl) ?_
          refine lv_ldc2d hx hb C.hown (C.hts _ kc_X4_bitsOf_170) dX4_bitsOf_31 ?_
          obtain ⟨hn_1, hf⟩ := nd_use hf
          refine lv_ddiv hx hb dX4_bitsOf_34 hn_1 ?_
          refine lv_topd (fun x4_2 ex4_2 => ?_)
          replace hf := nm_use hf ex4_2
          refine lv_dstore (lv' := [(4, .double x4_2), (2, .int x2), (3, .int x3), (6, .int x6)]) hx hb dX4_bitsOf_35 hl (by decide) rfl (fun ls hl => ?_)
          obtain ⟨x6_3, ex6_3⟩ : ∃ y : Int32, y = x6 + 1 := ⟨_, rfl⟩
          replace hf := nm_use hf ex6_3
          refine lv_iinc (v := x6_3) (lv' := [(6, .int x6_3), (4, .double x4_2), (2, .int x2), (3, .int x3)]) hx hb dX4_bitsOf_37 hl (k := 3) rfl (by rw [ex6_3]; rfl) (by decide) rfl (fun ls hl => ?_)
          refine lv_goto (tgt := 14) hx hb dX4_bitsOf_40 (by decide) ?_
          exact ih x2 x3 x4_2 x6_3 _ _ _ h (lv_sub hl [2, 3, 1, 0] rfl) hf
  unfold fX4_bitsOf at hf
  refine lv_dload_n hx hb dX4_bitsOf_0 rfl (lv_at hl 0 rfl) ?_
  refine lv_dconst0 hx hb dX4_bitsOf_1 ?_
  refine lv_dcmp hx hb dX4_bitsOf_2 ?_
  refine lv_if_gt (tgt := 8) hx hb dX4_bitsOf_3 (by decide) (fun hc => ?_) (fun hc => ?_)
  · replace hf := it_t hf hc
    refine lv_dload_n hx hb dX4_bitsOf_8 rfl (lv_at hl 0 rfl) ?_
    refine lv_dstore (lv' := [(4, .double x0), (0, .double x0), (2, .int x2), (3, .int x3)]) hx hb dX4_bitsOf_9 hl (by decide) rfl (fun ls hl => ?_)
    refine lv_iconst (v := 0) hx hb dX4_bitsOf_11 (by decide) ?_
    refine lv_istore (lv' := [(6, .int 0), (4, .double x0), (0, .double x0), (2, .int x2), (3, .int x3)]) hx hb dX4_bitsOf_12 hl (by decide) rfl (fun ls hl => ?_)
    exact cut_14 KF x2 x3 x0 0 _ _ _ h (lv_sub hl [3, 4, 1, 0] rfl) hf
  · replace hf := it_f hf hc
    refine lv_lconst (v := 0) hx hb dX4_bitsOf_6 (by decide) ?_
    cases hf
    exact r_lret C h hr hlocks dX4_bitsOf_7
def rm_X4_ratio : Room := { frames := 2, cells := 0, slots := 0, locals := 43 }
set_option maxRecDepth 20000 in
theorem lk_X4_ratio_10 : Cond.fieldLink RX4 10 "LineDoubler" "state" "LLineDoubler$State;" ∈ wsX4_ratio := List.mem_of_getElem? (i := 1) (by decide +kernel)
set_option maxRecDepth 20000 in
theorem in_X4_ratio_X4 : ∀ x ∈ wsX40, x ∈ wsX4_ratio := mem_r _ [15, 16, 17, 18, 19] (by decide +kernel)
set_option maxRecDepth 20000 in
theorem cw_X4_ratio_X2_setting_101 {s : State} {args : Array Value} (hts : ∀ w ∈ wsX4_ratio, w.before args s = true) : CallW rm_X4_ratio s args RX4 RX2 101 yX2_setting cX2_setting 2 (some .int) wsX2_setting rm_X2_setting 0 0 1 :=
  cwV 1 hts gX4_ratio_X2_setting rfl rfl rfl (by decide +kernel) ⟨Nat.le_of_ble_eq_true rfl, Nat.le_of_ble_eq_true rfl⟩
set_option maxRecDepth 20000 in
theorem cw_X4_ratio_X4_bitsOf_104 {s : State} {args : Array Value} (hts : ∀ w ∈ wsX4_ratio, w.before args s = true) : CallB rm_X4_ratio s args RX4 104 yX4_bitsOf cX4_bitsOf 9 (some .long) wsX4_bitsOf rm_X4_bitsOf 0 0 3 ∧ (Cond.static yX4_bitsOf).before args s = true :=
  va_cwS 3 hts gX4_ratio_X4_bitsOf rfl rfl rfl (by decide +kernel) ⟨Nat.le_of_ble_eq_true rfl, Nat.le_of_ble_eq_true rfl⟩
set_option maxHeartbeats 4000000 in
set_option maxRecDepth 100000 in
theorem c_X4_ratio (l : Launch) (G : va_G) (cI cC cZ : ClassId) (X : List (ClassId × FieldType)) (d0 b0 sl h0 p0 a0 a1 a2 a3 a4 a5 a6 a7 a8 : Nat) (nu : Nat → Int32) (va : Nat → Int32) (qu : Nat → Int32) (sc : Nat → Int32) (lo : Nat → Int32) (wt : Int32) (rv : Int32) (hf : fX4_ratio nu = some (rv)) : CT l yX4_ratio wsX4_ratio rm_X4_ratio G (TY cI cC cZ X) [.ref d0] (wLDs cI d0 b0 sl h0 p0 a0 a1 a2 a3 a4 a5 a6 a7 a8 nu va qu sc lo wt) (some (.int rv)) (wLDs cI d0 b0 sl h0 p0 a0 a1 a2 a3 a4 a5 a6 a7 a8 nu va qu sc lo wt) := by
  refine CT.of (cc := cX4_ratio) (maxL := 3) (ret := (some .int)) RX4 rfl (by decide) rfl (Nat.le_of_ble_eq_true rfl) ?_
  intro p e s m args below meth c A ls C hr hlocks hnm h hl
  have hx := C.hx
  have hb := C.hb
  have hl : lv_has ls 3 [(0, .ref d0)] := hl
  unfold fX4_ratio at hf
  refine lv_iconst (v := 2) hx hb dX4_ratio_0 (by decide) ?_
  refine lv_aload_n hx hb dX4_ratio_1 rfl (lv_at hl 0 rfl) ?_
  refine r_get C h 0 0 (ci := 4) (N := 5) (Cn := RX4) (T := TX4) rfl rfl (by decide) in_X4_ratio_X4 lk_X4_ratio_10 rfl dX4_ratio_2 ?_
  refine lv_iconst (v := 1) hx hb dX4_ratio_5 (by decide) ?_
  obtain ⟨r_1, hq_2, hf⟩ := ob1_use hf
  refine r_callV C h (cw_X4_ratio_X2_setting_101 C.hts) (rest := [.int 2]) (ci := 2) (N := 6) (Cn := RX2) (T := TX2) (c_X2_setting l G cI cC cZ X a0 a1 a2 a3 a4 a5 a6 a7 a8 nu va qu sc lo wt (1 : Int32) r_1 hq_2) [1, 2, 3, 4, 5, 6, 7, 8, 9] rfl rfl rfl rfl 1 rfl rfl hl.1 rfl (Nat.le_of_ble_eq_true rfl) ⟨Nat.le_of_ble_eq_true rfl, Nat.le_of_ble_eq_true rfl⟩ (wLDs cI d0 b0 sl h0 p0 a0 a1 a2 a3 a4 a5 a6 a7 a8 nu va qu sc lo wt) rfl rfl dX4_ratio_6 (fun H locs h => ?_)
  refine lv_imul hx hb dX4_ratio_9 ?_
  refine lv_topi (fun x1_3 ex1_3 => ?_)
  replace hf := nm_use hf ex1_3
  refine lv_istore_n (lv' := [(1, .int x1_3), (0, .ref d0)]) hx hb dX4_ratio_10 rfl hl (by decide) rfl (fun ls hl => ?_)
  refine lv_iload_n hx hb dX4_ratio_11 rfl (lv_at hl 0 rfl) ?_
  refine lv_if_gt (tgt := 17) hx hb dX4_ratio_12 (by decide) (fun hc => ?_) (fun hc => ?_)
  · replace hf := it_t hf hc
    refine lv_aload_n hx hb dX4_ratio_17 rfl (lv_at hl 1 rfl) ?_
    refine r_get C h 0 0 (ci := 4) (N := 5) (Cn := RX4) (T := TX4) rfl rfl (by decide) in_X4_ratio_X4 lk_X4_ratio_10 rfl dX4_ratio_18 ?_
    refine lv_iconst (v := 0) hx hb dX4_ratio_21 (by decide) ?_
    obtain ⟨r_4, hq_5, hf⟩ := ob1_use hf
    refine r_callV C h (cw_X4_ratio_X2_setting_101 C.hts) (rest := []) (ci := 2) (N := 6) (Cn := RX2) (T := TX2) (c_X2_setting l G cI cC cZ X a0 a1 a2 a3 a4 a5 a6 a7 a8 nu va qu sc lo wt (0 : Int32) r_4 hq_5) [1, 2, 3, 4, 5, 6, 7, 8, 9] rfl rfl rfl rfl 1 rfl rfl hl.1 rfl (Nat.le_of_ble_eq_true rfl) ⟨Nat.le_of_ble_eq_true rfl, Nat.le_of_ble_eq_true rfl⟩ (wLDs cI d0 b0 sl h0 p0 a0 a1 a2 a3 a4 a5 a6 a7 a8 nu va qu sc lo wt) rfl rfl dX4_ratio_22 (fun H locs h => ?_)
    refine lv_i2d hx hb dX4_ratio_25 ?_
    refine lv_iload_n hx hb dX4_ratio_26 rfl (lv_at hl 0 rfl) ?_
    refine lv_i2d hx hb dX4_ratio_27 ?_
    obtain ⟨hn_6, hf⟩ := nd_use hf
    refine lv_ddiv hx hb dX4_ratio_28 hn_6 ?_
    obtain ⟨hn_7, hf⟩ := nd_use hf
    refine lv_d2f hx hb dX4_ratio_29 hn_7 ?_
    refine lv_topf (fun x2_8 ex2_8 => ?_)
    replace hf := nm_use hf ex2_8
    refine lv_fstore_n (lv' := [(2, .float x2_8), (1, .int x1_3), (0, .ref d0)]) hx hb dX4_ratio_30 rfl hl (by decide) rfl (fun ls hl => ?_)
    refine lv_fload_n hx hb dX4_ratio_31 rfl (lv_at hl 0 rfl) ?_
    obtain ⟨hn_9, hf⟩ := nd_use hf
    refine lv_f2d hx hb dX4_ratio_32 hn_9 ?_
    refine lv_bipush (v := 23) hx hb dX4_ratio_33 (by decide) ?_
    refine lv_bipush (v := 127) hx hb dX4_ratio_35 (by decide) ?_
    obtain ⟨r_10, hq_11, hf⟩ := ob1_use hf
    refine r_callS C h (cw_X4_ratio_X4_bitsOf_104 C.hts) (rest := []) (c_X4_bitsOf l G cI cC cZ X (FP.f2d x2_8) (23 : Int32) (127 : Int32) r_10 hq_11) [] rfl rfl rfl rfl hl.1 rfl (Nat.le_of_ble_eq_true rfl) ⟨Nat.le_of_ble_eq_true rfl, Nat.le_of_ble_eq_true rfl⟩ (wLDs cI d0 b0 sl h0 p0 a0 a1 a2 a3 a4 a5 a6 a7 a8 nu va qu sc lo wt) rfl rfl dX4_ratio_37 (fun H locs h => ?_)
    refine lv_l2i hx hb dX4_ratio_40 rfl ?_
    cases hf
    exact r_iret C h hr hlocks dX4_ratio_41
  · replace hf := it_f hf hc
    refine lv_iconst (v := 0) hx hb dX4_ratio_15 (by decide) ?_
    cases hf
    exact r_iret C h hr hlocks dX4_ratio_16
def rm_X4_fill : Room := { frames := 1, cells := 0, slots := 0, locals := 28 }
set_option maxRecDepth 20000 in
theorem lk_X4_fill_10 : Cond.fieldLink RX4 10 "LineDoubler" "state" "LLineDoubler$State;" ∈ wsX4_fill := List.mem_of_getElem? (i := 1) (by decide +kernel)
set_option maxRecDepth 20000 in
theorem in_X4_fill_X4 : ∀ x ∈ wsX40, x ∈ wsX4_fill := mem_r _ [7, 8, 9, 10, 11] (by decide +kernel)
set_option maxRecDepth 20000 in
theorem in_X4_fill_X2 : ∀ x ∈ wsX20, x ∈ wsX4_fill := mem_r _ [12, 13, 14, 15, 16, 17] (by decide +kernel)
set_option maxRecDepth 20000 in
theorem cw_X4_fill_X4_bitsOf_104 {s : State} {args : Array Value} (hts : ∀ w ∈ wsX4_fill, w.before args s = true) : CallB rm_X4_fill s args RX4 104 yX4_bitsOf cX4_bitsOf 9 (some .long) wsX4_bitsOf rm_X4_bitsOf 0 0 3 ∧ (Cond.static yX4_bitsOf).before args s = true :=
  va_cwS 3 hts gX4_fill_X4_bitsOf rfl rfl rfl (by decide +kernel) ⟨Nat.le_of_ble_eq_true rfl, Nat.le_of_ble_eq_true rfl⟩
set_option maxHeartbeats 4000000 in
set_option maxRecDepth 100000 in
theorem c_X4_fill (l : Launch) (G : va_G) (cI cC cZ : ClassId) (X : List (ClassId × FieldType)) (d0 b0 sl h0 p0 a0 a1 a2 a3 a4 a5 a6 a7 a8 : Nat) (nu : Nat → Int32) (va : Nat → Int32) (qu : Nat → Int32) (sc : Nat → Int32) (lo : Nat → Int32) (wt : Int32) (rv : Int64) (hf : fX4_fill nu wt = some (rv)) : CT l yX4_fill wsX4_fill rm_X4_fill G (TY cI cC cZ X) [.ref d0] (wLDs cI d0 b0 sl h0 p0 a0 a1 a2 a3 a4 a5 a6 a7 a8 nu va qu sc lo wt) (some (.long rv)) (wLDs cI d0 b0 sl h0 p0 a0 a1 a2 a3 a4 a5 a6 a7 a8 nu va qu sc lo wt) := by
  refine CT.of (cc := cX4_fill) (maxL := 2) (ret := (some .long)) RX4 rfl (by decide) rfl (Nat.le_of_ble_eq_true rfl) ?_
  intro p e s m args below meth c A ls C hr hlocks hnm h hl
  have hx := C.hx
  have hb := C.hb
  have hl : lv_has ls 2 [(0, .ref d0)] := hl
  unfold fX4_fill at hf
  refine lv_aload_n hx hb dX4_fill_0 rfl (lv_at hl 0 rfl) ?_
  refine r_get C h 0 0 (ci := 4) (N := 5) (Cn := RX4) (T := TX4) rfl rfl (by decide) in_X4_fill_X4 lk_X4_fill_10 rfl dX4_fill_1 ?_
  refine r_getN C h 1 0 (ci := 2) (N := 6) (Cn := RX2) (T := TX2) rfl rfl (by decide) in_X4_fill_X2 lkN_4_63 rfl dX4_fill_4 ?_
  refine lv_iconst (v := 0) hx hb dX4_fill_7 (by decide) ?_
  refine r_ald C h 2 rfl rfl k_0_24 dX4_fill_8 ?_
  refine lv_topi (fun x1_1 ex1_1 => ?_)
  replace hf := nm_use hf ex1_1
  refine lv_istore_n (lv' := [(1, .int x1_1), (0, .ref d0)]) hx hb dX4_fill_9 rfl hl (by decide) rfl (fun ls hl => ?_)
  refine lv_iload_n hx hb dX4_fill_10 rfl (lv_at hl 0 rfl) ?_
  refine lv_if_gt (tgt := 16) hx hb dX4_fill_11 (by decide) (fun hc => ?_) (fun hc => ?_)
  · replace hf := it_t hf hc
    refine lv_aload_n hx hb dX4_fill_16 rfl (lv_at hl 1 rfl) ?_
    refine r_get C h 0 0 (ci := 4) (N := 5) (Cn := RX4) (T := TX4) rfl rfl (by decide) in_X4_fill_X4 lk_X4_fill_10 rfl dX4_fill_17 ?_
    refine r_getN C h 1 5 (ci := 2) (N := 6) (Cn := RX2) (T := TX2) rfl rfl (by decide) in_X4_fill_X2 lkN_4_108 rfl dX4_fill_20 ?_
    refine lv_i2d hx hb dX4_fill_23 ?_
    refine lv_iload_n hx hb dX4_fill_24 rfl (lv_at hl 0 rfl) ?_
    refine lv_i2d hx hb dX4_fill_25 ?_
    obtain ⟨hn_2, hf⟩ := nd_use hf
    refine lv_ddiv hx hb dX4_fill_26 hn_2 ?_
    refine lv_bipush (v := 52) hx hb dX4_fill_27 (by decide) ?_
    refine lv_sipush (v := 1023) hx hb dX4_fill_29 (by decide) ?_
    obtain ⟨r_3, hq_4, hf⟩ := ob1_use hf
    refine r_callS C h (cw_X4_fill_X4_bitsOf_104 C.hts) (rest := []) (c_X4_bitsOf l G cI cC cZ X (FP.ddiv (FP.i2d wt) (FP.i2d x1_1)) (52 : Int32) (1023 : Int32) r_3 hq_4) [] rfl rfl rfl rfl hl.1 rfl (Nat.le_of_ble_eq_true rfl) ⟨Nat.le_of_ble_eq_true rfl, Nat.le_of_ble_eq_true rfl⟩ (wLDs cI d0 b0 sl h0 p0 a0 a1 a2 a3 a4 a5 a6 a7 a8 nu va qu sc lo wt) rfl rfl dX4_fill_32 (fun H locs h => ?_)
    cases hf
    exact r_lret C h hr hlocks dX4_fill_35
  · replace hf := it_f hf hc
    refine lv_lconst (v := 0) hx hb dX4_fill_14 (by decide) ?_
    cases hf
    exact r_lret C h hr hlocks dX4_fill_15
def rm_X5_ratio : Room := { frames := 2, cells := 0, slots := 0, locals := 40 }
set_option maxRecDepth 20000 in
theorem lk_X5_ratio_7 : Cond.fieldLink RX5 7 "LineDoublerModel" "now" "[I" ∈ wsX5_ratio := List.mem_of_getElem? (i := 1) (by decide +kernel)
set_option maxRecDepth 20000 in
theorem in_X5_ratio_X5 : ∀ x ∈ wsX50, x ∈ wsX5_ratio := mem_r _ [14, 15, 16, 17, 18, 19, 20, 21, 22, 23, 24] (by decide +kernel)
set_option maxRecDepth 20000 in
theorem cw_X5_ratio_Jxf58ca_floatToIntBits_5c35a_115 {s : State} {args : Array Value} (hts : ∀ w ∈ wsX5_ratio, w.before args s = true) : CallB rm_X5_ratio s args RX5 115 yJxf58ca_floatToIntBits_5c35a cJxf58ca_floatToIntBits_5c35a 1 (some .int) wsJxf58ca_floatToIntBits_5c35a rm_Jxf58ca_floatToIntBits_5c35a 0 0 1 ∧ (Cond.static yJxf58ca_floatToIntBits_5c35a).before args s = true :=
  va_cwS 1 hts gX5_ratio_Jxf58ca_floatToIntBits_5c35a rfl rfl rfl (by decide +kernel) ⟨Nat.le_of_ble_eq_true rfl, Nat.le_of_ble_eq_true rfl⟩
set_option maxHeartbeats 4000000 in
set_option maxRecDepth 100000 in
theorem c_X5_ratio (l : Launch) (G : va_G) (cI cC cZ : ClassId) (X : List (ClassId × FieldType)) (m0 m1 m2 m3 m4 m5 m6 m7 : Nat) (now : Nat → Int32) (thn : Nat → Int32) (past : Nat → Int32) (kept : Int32) (slt : Nat → Int32) (held : Nat → Int32) (mpad : Nat → Int32) (mpl : Int32) (mat : Int32) (ords : Nat → Int32) (ordn : Int32) (rv : Int32) (hf : fX5_ratio now = some (rv)) : CT l yX5_ratio wsX5_ratio rm_X5_ratio G (TY cI cC cZ X) [.ref m0] (wMd cI cZ m0 m1 m2 m3 m4 m5 m6 m7 now thn past kept slt held mpad mpl mat ords ordn) (some (.int rv)) (wMd cI cZ m0 m1 m2 m3 m4 m5 m6 m7 now thn past kept slt held mpad mpl mat ords ordn) := by
  refine CT.of (cc := cX5_ratio) (maxL := 1) (ret := (some .int)) RX5 rfl (by decide) rfl (Nat.le_of_ble_eq_true rfl) ?_
  intro p e s m args below meth c A ls C hr hlocks hnm h hl
  have hx := C.hx
  have hb := C.hb
  have hl : lv_has ls 1 [(0, .ref m0)] := hl
  unfold fX5_ratio at hf
  refine lv_aload_n hx hb dX5_ratio_0 rfl (lv_at hl 0 rfl) ?_
  refine r_get C h 0 0 (ci := 5) (N := 11) (Cn := RX5) (T := TX5) rfl rfl (by decide) in_X5_ratio_X5 lk_X5_ratio_7 rfl dX5_ratio_1 ?_
  refine lv_iconst (v := 1) hx hb dX5_ratio_4 (by decide) ?_
  refine r_ald C h 1 rfl rfl k_1_234 dX5_ratio_5 ?_
  refine lv_i2d hx hb dX5_ratio_6 ?_
  refine lv_iconst (v := 2) hx hb dX5_ratio_7 (by decide) ?_
  refine lv_aload_n hx hb dX5_ratio_8 rfl (lv_at hl 0 rfl) ?_
  refine r_get C h 0 0 (ci := 5) (N := 11) (Cn := RX5) (T := TX5) rfl rfl (by decide) in_X5_ratio_X5 lk_X5_ratio_7 rfl dX5_ratio_9 ?_
  refine lv_iconst (v := 2) hx hb dX5_ratio_12 (by decide) ?_
  refine r_ald C h 1 rfl rfl k_2_234 dX5_ratio_13 ?_
  refine lv_imul hx hb dX5_ratio_14 ?_
  refine lv_i2d hx hb dX5_ratio_15 ?_
  obtain ⟨hn_1, hf⟩ := nd_use hf
  refine lv_ddiv hx hb dX5_ratio_16 hn_1 ?_
  obtain ⟨hn_2, hf⟩ := nd_use hf
  refine lv_d2f hx hb dX5_ratio_17 hn_2 ?_
  obtain ⟨r_3, hq_4, hf⟩ := ob1_use hf
  refine r_callS C h (cw_X5_ratio_Jxf58ca_floatToIntBits_5c35a_115 C.hts) (rest := []) (c_Jxf58ca_floatToIntBits_5c35a l G cI cC cZ X (FP.d2f (FP.ddiv (FP.i2d (now 1)) (FP.i2d (2 * (now 2))))) r_3 hq_4) [] rfl rfl rfl rfl hl.1 rfl (Nat.le_of_ble_eq_true rfl) ⟨Nat.le_of_ble_eq_true rfl, Nat.le_of_ble_eq_true rfl⟩ (wMd cI cZ m0 m1 m2 m3 m4 m5 m6 m7 now thn past kept slt held mpad mpl mat ords ordn) rfl rfl dX5_ratio_18 (fun H locs h => ?_)
  cases hf
  exact r_iret C h hr hlocks dX5_ratio_21
def rm_X5_fill : Room := { frames := 2, cells := 0, slots := 0, locals := 42 }
set_option maxRecDepth 20000 in
theorem lk_X5_fill_7 : Cond.fieldLink RX5 7 "LineDoublerModel" "now" "[I" ∈ wsX5_fill := List.mem_of_getElem? (i := 1) (by decide +kernel)
set_option maxRecDepth 20000 in
theorem in_X5_fill_X5 : ∀ x ∈ wsX50, x ∈ wsX5_fill := mem_r _ [14, 15, 16, 17, 18, 19, 20, 21, 22, 23, 24] (by decide +kernel)
set_option maxRecDepth 20000 in
theorem cw_X5_fill_Jxe99ae_doubleToLongBits_ccdee_121 {s : State} {args : Array Value} (hts : ∀ w ∈ wsX5_fill, w.before args s = true) : CallB rm_X5_fill s args RX5 121 yJxe99ae_doubleToLongBits_ccdee cJxe99ae_doubleToLongBits_ccdee 2 (some .long) wsJxe99ae_doubleToLongBits_ccdee rm_Jxe99ae_doubleToLongBits_ccdee 0 0 1 ∧ (Cond.static yJxe99ae_doubleToLongBits_ccdee).before args s = true :=
  va_cwS 1 hts gX5_fill_Jxe99ae_doubleToLongBits_ccdee rfl rfl rfl (by decide +kernel) ⟨Nat.le_of_ble_eq_true rfl, Nat.le_of_ble_eq_true rfl⟩
set_option maxHeartbeats 4000000 in
set_option maxRecDepth 100000 in
theorem c_X5_fill (l : Launch) (G : va_G) (cI cC cZ : ClassId) (X : List (ClassId × FieldType)) (m0 m1 m2 m3 m4 m5 m6 m7 : Nat) (now : Nat → Int32) (thn : Nat → Int32) (past : Nat → Int32) (kept : Int32) (slt : Nat → Int32) (held : Nat → Int32) (mpad : Nat → Int32) (mpl : Int32) (mat : Int32) (ords : Nat → Int32) (ordn : Int32) (rv : Int64) (hf : fX5_fill now = some (rv)) : CT l yX5_fill wsX5_fill rm_X5_fill G (TY cI cC cZ X) [.ref m0] (wMd cI cZ m0 m1 m2 m3 m4 m5 m6 m7 now thn past kept slt held mpad mpl mat ords ordn) (some (.long rv)) (wMd cI cZ m0 m1 m2 m3 m4 m5 m6 m7 now thn past kept slt held mpad mpl mat ords ordn) := by
  refine CT.of (cc := cX5_fill) (maxL := 1) (ret := (some .long)) RX5 rfl (by decide) rfl (Nat.le_of_ble_eq_true rfl) ?_
  intro p e s m args below meth c A ls C hr hlocks hnm h hl
  have hx := C.hx
  have hb := C.hb
  have hl : lv_has ls 1 [(0, .ref m0)] := hl
  unfold fX5_fill at hf
  refine lv_aload_n hx hb dX5_fill_0 rfl (lv_at hl 0 rfl) ?_
  refine r_get C h 0 0 (ci := 5) (N := 11) (Cn := RX5) (T := TX5) rfl rfl (by decide) in_X5_fill_X5 lk_X5_fill_7 rfl dX5_fill_1 ?_
  refine lv_iconst (v := 0) hx hb dX5_fill_4 (by decide) ?_
  refine r_ald C h 1 rfl rfl k_0_234 dX5_fill_5 ?_
  refine lv_if_ne (tgt := 13) hx hb dX5_fill_6 (by decide) (fun hc => ?_) (fun hc => ?_)
  · replace hf := it_f hf hc
    refine lv_aload_n hx hb dX5_fill_13 rfl (lv_at hl 0 rfl) ?_
    refine r_get C h 0 0 (ci := 5) (N := 11) (Cn := RX5) (T := TX5) rfl rfl (by decide) in_X5_fill_X5 lk_X5_fill_7 rfl dX5_fill_14 ?_
    refine lv_bipush (v := 25) hx hb dX5_fill_17 (by decide) ?_
    refine r_ald C h 1 rfl rfl k_25_234 dX5_fill_19 ?_
    refine lv_i2d hx hb dX5_fill_20 ?_
    refine lv_aload_n hx hb dX5_fill_21 rfl (lv_at hl 0 rfl) ?_
    refine r_get C h 0 0 (ci := 5) (N := 11) (Cn := RX5) (T := TX5) rfl rfl (by decide) in_X5_fill_X5 lk_X5_fill_7 rfl dX5_fill_22 ?_
    refine lv_iconst (v := 0) hx hb dX5_fill_25 (by decide) ?_
    refine r_ald C h 1 rfl rfl k_0_234 dX5_fill_26 ?_
    refine lv_i2d hx hb dX5_fill_27 ?_
    obtain ⟨hn_1, hf⟩ := nd_use hf
    refine lv_ddiv hx hb dX5_fill_28 hn_1 ?_
    obtain ⟨r_2, hq_3, hf⟩ := ob1_use hf
    refine r_callS C h (cw_X5_fill_Jxe99ae_doubleToLongBits_ccdee_121 C.hts) (rest := []) (c_Jxe99ae_doubleToLongBits_ccdee l G cI cC cZ X (FP.ddiv (FP.i2d (now 25)) (FP.i2d (now 0))) r_2 hq_3) [] rfl rfl rfl rfl hl.1 rfl (Nat.le_of_ble_eq_true rfl) ⟨Nat.le_of_ble_eq_true rfl, Nat.le_of_ble_eq_true rfl⟩ (wMd cI cZ m0 m1 m2 m3 m4 m5 m6 m7 now thn past kept slt held mpad mpl mat ords ordn) rfl rfl dX5_fill_29 (fun H locs h => ?_)
    cases hf
    exact r_lret C h hr hlocks dX5_fill_32
  · replace hf := it_t hf hc
    refine lv_lconst (v := 0) hx hb dX5_fill_9 (by decide) ?_
    refine lv_goto (tgt := 32) hx hb dX5_fill_10 (by decide) ?_
    cases hf
    exact r_lret C h hr hlocks dX5_fill_32
