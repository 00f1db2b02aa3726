/-- the mirror of X1_isOrder -/
def fX1_isOrder (x0 : Int32) : Option (Int32) :=
  (if x0 = 105 then
  some (1)
  else
  (if x0 = 111 then
  some (1)
  else
  (if x0 = 118 then
  some (1)
  else
  (if x0 = 116 then
  some (1)
  else
  (if x0 = 60 then
  some (1)
  else
  (if x0 = 62 then
  some (1)
  else
  some (0)))))))

/-- the mirror of X1_isDigit -/
def fX1_isDigit (x0 : Int32) : Option (Int32) :=
  (if x0 < 48 then
  some (0)
  else
  (if 57 < x0 then
  some (0)
  else
  some (1)))

/-- the mirror of X1_look -/
def fX1_look (ch : Nat → Int32) (pl : Int32) (pa : Int32) : Option (Int32) :=
  (if pa < 0 then
  some (0)
  else
  (if pl ≤ pa then
  some (0)
  else
  (if 80 ≤ pa then
  some (0)
  else
  chk pa 80 fun j_1 =>
  nm ((ch j_1)) fun y_2 =>
  nd (vp_nar .char y_2 = y_2) <|
  some (y_2))))

def fX1_append_3_b (rec : (Nat → Int32) → Int32 → Int64 → Int32 → Int32 → Option ((Nat → Int32) × Int32)) (ch : Nat → Int32) (pl : Int32) (x1 : Int64) (x3 : Int32) (x4 : Int32) : Option ((Nat → Int32) × Int32) :=
  (if x3 ≤ x4 then
  some (ch, pl)
  else
  (if 80 ≤ pl then
  some (ch, pl)
  else
  chk pl 80 fun j_1 =>
  nm (upd ch j_1 (vp_nar .char ((((((x1.toUInt64 >>> ((8 * ((x3 - 1) - x4)).toInt64.toUInt64 &&& Int64.toUInt64 63)).toInt64) &&& 255).toInt32).toUInt32 % 65536).toInt32))) fun ch_2 =>
  nm ((pl + 1)) fun pl_3 =>
  nm (x4 + 1) fun x4_4 =>
  rec ch_2 pl_3 x1 x3 x4_4))
def fX1_append_3 : Nat → (Nat → Int32) → Int32 → Int64 → Int32 → Int32 → Option ((Nat → Int32) × Int32)
  | 0 => fun _ _ _ _ _ => none
  | n + 1 => fX1_append_3_b (fX1_append_3 n)

/-- the mirror of X1_append -/
def fX1_append (ch : Nat → Int32) (pl : Int32) (x1 : Int64) (x3 : Int32) : Option ((Nat → Int32) × Int32) :=
  fX1_append_3 KF ch pl x1 x3 0

/-- the mirror of X1_readSign -/
def fX1_readSign (ch : Nat → Int32) (pl : Int32) (pa : Int32) (x1 : Int32) : Option (Int32 × Int32) :=
  ob1 (fX1_look ch pl pa) fun r_1 =>
  (if r_1 = x1 then
  nm ((pa + 1)) fun pa_3 =>
  some (1, pa_3)
  else
  some (0, pa))

def fX1_readNumber_33_b (rec : (Nat → Int32) → Int32 → Int32 → Int32 → Int32 → Option (Int32 × Int32)) (ch : Nat → Int32) (pl : Int32) (pa : Int32) (x1 : Int32) (x2 : Int32) : Option (Int32 × Int32) :=
  (if 3 ≤ x2 then
  some (x1, pa)
  else
  (if x1 ≤ 0 then
  some (x1, pa)
  else
  ob1 (fX1_look ch pl pa) fun r_1 =>
  ob1 (fX1_isDigit r_1) fun r_3 =>
  (if r_3 = 0 then
  some (x1, pa)
  else
  ob1 (fX1_look ch pl pa) fun r_5 =>
  nm ((((10 * x1) + r_5) - 48)) fun x1_7 =>
  nm ((pa + 1)) fun pa_8 =>
  nm (x2 + 1) fun x2_9 =>
  rec ch pl pa_8 x1_7 x2_9)))
def fX1_readNumber_33 : Nat → (Nat → Int32) → Int32 → Int32 → Int32 → Int32 → Option (Int32 × Int32)
  | 0 => fun _ _ _ _ _ => none
  | n + 1 => fX1_readNumber_33_b (fX1_readNumber_33 n)

/-- the mirror of X1_readNumber -/
def fX1_readNumber (ch : Nat → Int32) (pl : Int32) (pa : Int32) : Option (Int32 × Int32) :=
  ob1 (fX1_look ch pl pa) fun r_1 =>
  ob1 (fX1_isDigit r_1) fun r_3 =>
  (if r_3 = 0 then
  some ((-6), pa)
  else
  ob1 (fX1_look ch pl pa) fun r_5 =>
  nm ((r_5 - 48)) fun x1_7 =>
  nm ((pa + 1)) fun pa_8 =>
  fX1_readNumber_33 KF ch pl pa_8 x1_7 1)

/-- the mirror of X1_readOrder -/
def fX1_readOrder (ch : Nat → Int32) (pl : Int32) (pa : Int32) (po : Int32) (pf : Int32) (ps : Int32) : Option (Int32 × Int32 × Int32 × Int32 × Int32) :=
  ob1 (fX1_look ch pl pa) fun r_1 =>
  nd (vp_nar .char r_1 = r_1) <|
  ob1 (fX1_isOrder r_1) fun r_4 =>
  (if r_4 = 0 then
  some (0, pa, r_1, pf, ps)
  else
  nm ((pa + 1)) fun pa_6 =>
  ob2 (fX1_readNumber ch pl pa_6) fun r_7 pa_8 =>
  (if r_1 = 118 then
  (if 0 ≤ r_7 then
  ob2 (fX1_readSign ch pl pa_8 (61 : Int32)) fun r_10 pa_11 =>
  (if r_10 = 0 then
  some (0, pa_11, r_1, r_7, 0)
  else
  ob2 (fX1_readNumber ch pl pa_11) fun r_13 pa_14 =>
  (if r_13 < 0 then
  some (0, pa_14, r_1, r_7, r_13)
  else
  some (1, pa_14, r_1, r_7, r_13)))
  else
  (if r_7 < 0 then
  some (0, pa_8, r_1, r_7, 0)
  else
  some (1, pa_8, r_1, r_7, 0)))
  else
  (if r_7 < 0 then
  some (0, pa_8, r_1, r_7, 0)
  else
  some (1, pa_8, r_1, r_7, 0))))

def fX1_findFault_7_b (rec : (Nat → Int32) → Int32 → Int32 → Int32 → Int32 → Int32 → Int32 → Option (Int32 × Int32 × Int32 × Int32 × Int32)) (ch : Nat → Int32) (pl : Int32) (pa : Int32) (po : Int32) (pf : Int32) (ps : Int32) (x1 : Int32) : Option (Int32 × Int32 × Int32 × Int32 × Int32) :=
  (if 80 ≤ x1 then
  (if pa = pl then
  some ((-6), pa, po, pf, ps)
  else
  some (pa, pa, po, pf, ps))
  else
  ob5 (fX1_readOrder ch pl pa po pf ps) fun r_1 pa_2 po_3 pf_4 ps_5 =>
  (if r_1 = 0 then
  some (pa_2, pa_2, po_3, pf_4, ps_5)
  else
  ob2 (fX1_readSign ch pl pa_2 (59 : Int32)) fun r_7 pa_8 =>
  (if r_7 = 0 then
  (if pa_8 = pl then
  some ((-6), pa_8, po_3, pf_4, ps_5)
  else
  some (pa_8, pa_8, po_3, pf_4, ps_5))
  else
  nm (x1 + 1) fun x1_10 =>
  rec ch pl pa_8 po_3 pf_4 ps_5 x1_10)))
def fX1_findFault_7 : Nat → (Nat → Int32) → Int32 → Int32 → Int32 → Int32 → Int32 → Int32 → Option (Int32 × Int32 × Int32 × Int32 × Int32)
  | 0 => fun _ _ _ _ _ _ _ => none
  | n + 1 => fX1_findFault_7_b (fX1_findFault_7 n)

/-- the mirror of X1_findFault -/
def fX1_findFault (ch : Nat → Int32) (pl : Int32) (pa : Int32) (po : Int32) (pf : Int32) (ps : Int32) : Option (Int32 × Int32 × Int32 × Int32 × Int32) :=
  fX1_findFault_7 KF ch pl 0 po pf ps 0

def rm_X1_isOrder : Room := { frames := 0, cells := 0, slots := 0, locals := 0 }
set_option maxHeartbeats 4000000 in
set_option maxRecDepth 100000 in
theorem c_X1_isOrder (l : Launch) (G : va_G) (cI cC cZ : ClassId) (X : List (ClassId × FieldType)) (x0 : Int32) (rv : Int32) (hf : fX1_isOrder x0 = some (rv)) : CT l yX1_isOrder wsX1_isOrder rm_X1_isOrder G (TY cI cC cZ X) [.int x0] ([] : va_W) (some (.int rv)) ([] : va_W) := by
  refine CT.of (cc := cX1_isOrder) (maxL := 1) (ret := (some .boolean)) RX1 rfl (by decide) rfl (Nat.le_of_ble_eq_true rfl) ?_
  intro p e s m args below meth c A ls C hr hlocks hnm h hl
  have hx := C.hx
  have hb := C.hb
  have hl : lv_has ls 1 [(0, .int x0)] := hl
  unfold fX1_isOrder at hf
  refine lv_iload_n hx hb dX1_isOrder_0 rfl (lv_at hl 0 rfl) ?_
  refine lv_bipush (v := 105) hx hb dX1_isOrder_1 (by decide) ?_
  refine lv_icmp_eq (tgt := 36) hx hb dX1_isOrder_3 (by decide) (fun hc => ?_) (fun hc => ?_)
  · replace hf := it_t hf hc
    refine lv_iconst (v := 1) hx hb dX1_isOrder_36 (by decide) ?_
    refine lv_goto (tgt := 41) hx hb dX1_isOrder_37 (by decide) ?_
    cases hf
    exact r_zret C h hr hlocks rfl dX1_isOrder_41
  · replace hf := it_f hf hc
    refine lv_iload_n hx hb dX1_isOrder_6 rfl (lv_at hl 0 rfl) ?_
    refine lv_bipush (v := 111) hx hb dX1_isOrder_7 (by decide) ?_
    refine lv_icmp_eq (tgt := 36) hx hb dX1_isOrder_9 (by decide) (fun hc => ?_) (fun hc => ?_)
    · replace hf := it_t hf hc
      refine lv_iconst (v := 1) hx hb dX1_isOrder_36 (by decide) ?_
      refine lv_goto (tgt := 41) hx hb dX1_isOrder_37 (by decide) ?_
      cases hf
      exact r_zret C h hr hlocks rfl dX1_isOrder_41
    · replace hf := it_f hf hc
      refine lv_iload_n hx hb dX1_isOrder_12 rfl (lv_at hl 0 rfl) ?_
      refine lv_bipush (v := 118) hx hb dX1_isOrder_13 (by decide) ?_
      refine lv_icmp_eq (tgt := 36) hx hb dX1_isOrder_15 (by decide) (fun hc => ?_) (fun hc => ?_)
      · replace hf := it_t hf hc
        refine lv_iconst (v := 1) hx hb dX1_isOrder_36 (by decide) ?_
        refine lv_goto (tgt := 41) hx hb dX1_isOrder_37 (by decide) ?_
        cases hf
        exact r_zret C h hr hlocks rfl dX1_isOrder_41
      · replace hf := it_f hf hc
        refine lv_iload_n hx hb dX1_isOrder_18 rfl (lv_at hl 0 rfl) ?_
        refine lv_bipush (v := 116) hx hb dX1_isOrder_19 (by decide) ?_
        refine lv_icmp_eq (tgt := 36) hx hb dX1_isOrder_21 (by decide) (fun hc => ?_) (fun hc => ?_)
        · replace hf := it_t hf hc
          refine lv_iconst (v := 1) hx hb dX1_isOrder_36 (by decide) ?_
          refine lv_goto (tgt := 41) hx hb dX1_isOrder_37 (by decide) ?_
          cases hf
          exact r_zret C h hr hlocks rfl dX1_isOrder_41
        · replace hf := it_f hf hc
          refine lv_iload_n hx hb dX1_isOrder_24 rfl (lv_at hl 0 rfl) ?_
          refine lv_bipush (v := 60) hx hb dX1_isOrder_25 (by decide) ?_
          refine lv_icmp_eq (tgt := 36) hx hb dX1_isOrder_27 (by decide) (fun hc => ?_) (fun hc => ?_)
          · replace hf := it_t hf hc
            refine lv_iconst (v := 1) hx hb dX1_isOrder_36 (by decide) ?_
            refine lv_goto (tgt := 41) hx hb dX1_isOrder_37 (by decide) ?_
            cases hf
            exact r_zret C h hr hlocks rfl dX1_isOrder_41
          · replace hf := it_f hf hc
            refine lv_iload_n hx hb dX1_isOrder_30 rfl (lv_at hl 0 rfl) ?_
            refine lv_bipush (v := 62) hx hb dX1_isOrder_31 (by decide) ?_
            refine lv_icmp_ne (tgt := 40) hx hb dX1_isOrder_33 (by decide) (fun hc => ?_) (fun hc => ?_)
            · replace hf := it_f hf hc
              refine lv_iconst (v := 0) hx hb dX1_isOrder_40 (by decide) ?_
              cases hf
              exact r_zret C h hr hlocks rfl dX1_isOrder_41
            · replace hf := it_t hf hc
              refine lv_iconst (v := 1) hx hb dX1_isOrder_36 (by decide) ?_
              refine lv_goto (tgt := 41) hx hb dX1_isOrder_37 (by decide) ?_
              cases hf
              exact r_zret C h hr hlocks rfl dX1_isOrder_41
def rm_X1_isDigit : Room := { frames := 0, cells := 0, slots := 0, locals := 0 }
set_option maxHeartbeats 4000000 in
set_option maxRecDepth 100000 in
theorem c_X1_isDigit (l : Launch) (G : va_G) (cI cC cZ : ClassId) (X : List (ClassId × FieldType)) (x0 : Int32) (rv : Int32) (hf : fX1_isDigit x0 = some (rv)) : CT l yX1_isDigit wsX1_isDigit rm_X1_isDigit G (TY cI cC cZ X) [.int x0] ([] : va_W) (some (.int rv)) ([] : va_W) := by
  refine CT.of (cc := cX1_isDigit) (maxL := 1) (ret := (some .boolean)) RX1 rfl (by decide) rfl (Nat.le_of_ble_eq_true rfl) ?_
  intro p e s m args below meth c A ls C hr hlocks hnm h hl
  have hx := C.hx
  have hb := C.hb
  have hl : lv_has ls 1 [(0, .int x0)] := hl
  unfold fX1_isDigit at hf
  refine lv_iload_n hx hb dX1_isDigit_0 rfl (lv_at hl 0 rfl) ?_
  refine lv_bipush (v := 48) hx hb dX1_isDigit_1 (by decide) ?_
  refine lv_icmp_lt (tgt := 16) hx hb dX1_isDigit_3 (by decide) (fun hc => ?_) (fun hc => ?_)
  · replace hf := it_t hf hc
    refine lv_iconst (v := 0) hx hb dX1_isDigit_16 (by decide) ?_
    cases hf
    exact r_zret C h hr hlocks rfl dX1_isDigit_17
  · replace hf := it_f hf hc
    refine lv_iload_n hx hb dX1_isDigit_6 rfl (lv_at hl 0 rfl) ?_
    refine lv_bipush (v := 57) hx hb dX1_isDigit_7 (by decide) ?_
    refine lv_icmp_gt (tgt := 16) hx hb dX1_isDigit_9 (by decide) (fun hc => ?_) (fun hc => ?_)
    · replace hf := it_t hf hc
      refine lv_iconst (v := 0) hx hb dX1_isDigit_16 (by decide) ?_
      cases hf
      exact r_zret C h hr hlocks rfl dX1_isDigit_17
    · replace hf := it_f hf hc
      refine lv_iconst (v := 1) hx hb dX1_isDigit_12 (by decide) ?_
      refine lv_goto (tgt := 17) hx hb dX1_isDigit_13 (by decide) ?_
      cases hf
      exact r_zret C h hr hlocks rfl dX1_isDigit_17
def rm_X1_look : Room := { frames := 0, cells := 0, slots := 0, locals := 0 }
set_option maxRecDepth 20000 in
theorem lk_X1_look_21 : Cond.fieldLink RX1 21 "LineDoubler$Pad" "at" "I" ∈ wsX1_look := List.mem_of_getElem? (i := 1) (by decide +kernel)
set_option maxRecDepth 20000 in
theorem lk_X1_look_15 : Cond.fieldLink RX1 15 "LineDoubler$Pad" "length" "I" ∈ wsX1_look := List.mem_of_getElem? (i := 2) (by decide +kernel)
set_option maxRecDepth 20000 in
theorem lk_X1_look_9 : Cond.fieldLink RX1 9 "LineDoubler$Pad" "characters" "[C" ∈ wsX1_look := List.mem_of_getElem? (i := 3) (by decide +kernel)
set_option maxRecDepth 20000 in
theorem in_X1_look_X1 : ∀ x ∈ wsX10, x ∈ wsX1_look := mem_r _ [4, 5, 6, 7, 8, 9] (by decide +kernel)
set_option maxHeartbeats 4000000 in
set_option maxRecDepth 100000 in
theorem c_X1_look (l : Launch) (G : va_G) (cI cC cZ : ClassId) (X : List (ClassId × FieldType)) (p0 p1 : Nat) (ch : Nat → Int32) (pl : Int32) (pa : Int32) (po : Int32) (pf : Int32) (ps : Int32) (rv : Int32) (hf : fX1_look ch pl pa = some (rv)) : CT l yX1_look wsX1_look rm_X1_look G (TY cI cC cZ X) [.ref p0] (wPd cC p0 p1 ch pl pa po pf ps) (some (.int rv)) (wPd cC p0 p1 ch pl pa po pf ps) := by
  refine CT.of (cc := cX1_look) (maxL := 1) (ret := (some .char)) RX1 rfl (by decide) rfl (Nat.le_of_ble_eq_true rfl) ?_
  intro p e s m args below meth c A ls C hr hlocks hnm h hl
  have hx := C.hx
  have hb := C.hb
  have hl : lv_has ls 1 [(0, .ref p0)] := hl
  unfold fX1_look at hf
  refine lv_aload_n hx hb dX1_look_0 rfl (lv_at hl 0 rfl) ?_
  refine r_get C h 0 2 (ci := 1) (N := 6) (Cn := RX1) (T := TX1) rfl rfl (by decide) in_X1_look_X1 lk_X1_look_21 rfl dX1_look_1 ?_
  refine lv_if_lt (tgt := 39) hx hb dX1_look_4 (by decide) (fun hc => ?_) (fun hc => ?_)
  · replace hf := it_t hf hc
    refine lv_iconst (v := 0) hx hb dX1_look_39 (by decide) ?_
    cases hf
    exact r_zret C h hr hlocks rfl dX1_look_40
  · replace hf := it_f hf hc
    refine lv_aload_n hx hb dX1_look_7 rfl (lv_at hl 0 rfl) ?_
    refine r_get C h 0 2 (ci := 1) (N := 6) (Cn := RX1) (T := TX1) rfl rfl (by decide) in_X1_look_X1 lk_X1_look_21 rfl dX1_look_8 ?_
    refine lv_aload_n hx hb dX1_look_11 rfl (lv_at hl 0 rfl) ?_
    refine r_get C h 0 1 (ci := 1) (N := 6) (Cn := RX1) (T := TX1) rfl rfl (by decide) in_X1_look_X1 lk_X1_look_15 rfl dX1_look_12 ?_
    refine lv_icmp_ge (tgt := 39) hx hb dX1_look_15 (by decide) (fun hc => ?_) (fun hc => ?_)
    · replace hf := it_t hf hc
      refine lv_iconst (v := 0) hx hb dX1_look_39 (by decide) ?_
      cases hf
      exact r_zret C h hr hlocks rfl dX1_look_40
    · replace hf := it_f hf hc
      refine lv_aload_n hx hb dX1_look_18 rfl (lv_at hl 0 rfl) ?_
      refine r_get C h 0 2 (ci := 1) (N := 6) (Cn := RX1) (T := TX1) rfl rfl (by decide) in_X1_look_X1 lk_X1_look_21 rfl dX1_look_19 ?_
      refine lv_bipush (v := 80) hx hb dX1_look_22 (by decide) ?_
      refine lv_icmp_ge (tgt := 39) hx hb dX1_look_24 (by decide) (fun hc => ?_) (fun hc => ?_)
      · replace hf := it_t hf hc
        refine lv_iconst (v := 0) hx hb dX1_look_39 (by decide) ?_
        cases hf
        exact r_zret C h hr hlocks rfl dX1_look_40
      · replace hf := it_f hf hc
        refine lv_aload_n hx hb dX1_look_27 rfl (lv_at hl 0 rfl) ?_
        refine r_get C h 0 0 (ci := 1) (N := 6) (Cn := RX1) (T := TX1) rfl rfl (by decide) in_X1_look_X1 lk_X1_look_9 rfl dX1_look_28 ?_
        refine lv_aload_n hx hb dX1_look_31 rfl (lv_at hl 0 rfl) ?_
        refine r_get C h 0 2 (ci := 1) (N := 6) (Cn := RX1) (T := TX1) rfl rfl (by decide) in_X1_look_X1 lk_X1_look_21 rfl dX1_look_32 ?_
        obtain ⟨j_1, hj_1, hf⟩ := chk_use hf
        refine r_cald C h 1 rfl rfl hj_1 dX1_look_35 ?_
        refine lv_goto (tgt := 40) hx hb dX1_look_36 (by decide) ?_
        refine lv_topi (fun y_2 ey_2 => ?_)
        replace hf := nm_use hf ey_2
        obtain ⟨hz, hf⟩ := nd_use hf
        cases hf
        exact r_zret C h hr hlocks (r_nch hz) dX1_look_40
def rm_X1_append : Room := { frames := 0, cells := 0, slots := 0, locals := 0 }
set_option maxRecDepth 20000 in
theorem lk_X1_append_15 : Cond.fieldLink RX1 15 "LineDoubler$Pad" "length" "I" ∈ wsX1_append := List.mem_of_getElem? (i := 1) (by decide +kernel)
set_option maxRecDepth 20000 in
theorem lk_X1_append_9 : Cond.fieldLink RX1 9 "LineDoubler$Pad" "characters" "[C" ∈ wsX1_append := List.mem_of_getElem? (i := 2) (by decide +kernel)
set_option maxRecDepth 20000 in
theorem kc_X1_append_19 : Cond.constantLong RX1 19 (255) ∈ wsX1_append := List.mem_of_getElem? (i := 3) (by decide +kernel)
set_option maxRecDepth 20000 in
theorem in_X1_append_X1 : ∀ x ∈ wsX10, x ∈ wsX1_append := mem_r _ [4, 5, 6, 7, 8, 9] (by decide +kernel)
set_option maxHeartbeats 4000000 in
set_option maxRecDepth 100000 in
theorem c_X1_append (l : Launch) (G : va_G) (cI cC cZ : ClassId) (X : List (ClassId × FieldType)) (p0 p1 : Nat) (ch : Nat → Int32) (pl : Int32) (pa : Int32) (po : Int32) (pf : Int32) (ps : Int32) (x1 : Int64) (x3 : Int32) (ch' : Nat → Int32) (pl' : Int32) (hf : fX1_append ch pl x1 x3 = some (ch', pl')) : CT l yX1_append wsX1_append rm_X1_append G (TY cI cC cZ X) [.ref p0, .long x1, .int x3] (wPd cC p0 p1 ch pl pa po pf ps) none (wPd cC p0 p1 ch' pl' pa po pf ps) := by
  refine CT.of (cc := cX1_append) (maxL := 5) (ret := none) RX1 rfl (by decide) rfl (Nat.le_of_ble_eq_true rfl) ?_
  intro p e s m args below meth c A ls C hr hlocks hnm h hl
  have hx := C.hx
  have hb := C.hb
  have hl : lv_has ls 5 [(0, .ref p0), (1, .long x1), (3, .int x3)] := hl
  have cut_3 : ∀ (n : Nat) (ch : Nat → Int32) (pl : Int32) (x1 : Int64) (x3 : Int32) (x4 : Int32) (H : Heap) (locs : List Loc) (ls : Array Slot), Hx s G A (wPd cC p0 p1 ch pl pa po pf ps) H locs → lv_has ls 5 [(0, .ref p0), (1, .long x1), (3, .int x3), (4, .int x4)] → fX1_append_3 n ch pl x1 x3 x4 = some (ch', pl') → W p l e rm_X1_append s m args below meth c H locs 0 0 (MQ below (Qx G none (wPd cC p0 p1 ch' pl' pa po pf ps) A) args s 0 0 A) (F0 m 3 ls []) := by
    intro n
    induction n with
    | zero =>
      intro ch pl x1 x3 x4 H locs ls h hl hf
      exact (nn_some _ hf).elim
    | succ n ih =>
      intro ch pl x1 x3 x4 H locs ls h hl hf
      have hf : fX1_append_3_b (fX1_append_3 n) ch pl x1 x3 x4 = some (ch', pl') := hf
      unfold fX1_append_3_b at hf
      refine lv_iload hx hb dX1_append_3 (lv_at hl 3 rfl) ?_
      refine lv_iload_n hx hb dX1_append_5 rfl (lv_at hl 2 rfl) ?_
      refine lv_icmp_ge (tgt := 60) hx hb dX1_append_6 (by decide) (fun hc => ?_) (fun hc => ?_)
      · replace hf := it_t hf hc
        cases hf
        exact r_vret C h hr hlocks dX1_append_60
      · replace hf := it_f hf hc
        refine lv_aload_n hx hb dX1_append_9 rfl (lv_at hl 0 rfl) ?_
        refine r_get C h 0 1 (ci := 1) (N := 6) (Cn := RX1) (T := TX1) rfl rfl (by decide) in_X1_append_X1 lk_X1_append_15 rfl dX1_append_10 ?_
        refine lv_bipush (v := 80) hx hb dX1_append_13 (by decide) ?_
        refine lv_icmp_ge (tgt := 60) hx hb dX1_append_15 (by decide) (fun hc => ?_) (fun hc => ?_)
        · replace hf := it_t hf hc
          cases hf
          exact r_vret C h hr hlocks dX1_append_60
        · replace hf := it_f hf hc
          refine lv_aload_n hx hb dX1_append_18 rfl (lv_at hl 0 rfl) ?_
          refine r_get C h 0 0 (ci := 1) (N := 6) (Cn := RX1) (T := TX1) rfl rfl (by decide) in_X1_append_X1 lk_X1_append_9 rfl dX1_append_19 ?_
          refine lv_aload_n hx hb dX1_append_22 rfl (lv_at hl 0 rfl) ?_
          refine r_get C h 0 1 (ci := 1) (N := 6) (Cn := RX1) (T := TX1) rfl rfl (by decide) in_X1_append_X1 lk_X1_append_15 rfl dX1_append_23 ?_
          refine lv_lload_n hx hb dX1_append_26 rfl (lv_at hl 1 rfl) ?_
          refine lv_bipush (v := 8) hx hb dX1_append_27 (by decide) ?_
          refine lv_iload_n hx hb dX1_append_29 rfl (lv_at hl 2 rfl) ?_
          refine lv_iconst (v := 1) hx hb dX1_append_30 (by decide) ?_
          refine lv_isub hx hb dX1_append_31 ?_
          refine lv_iload hx hb dX1_append_32 (lv_at hl 3 rfl) ?_
          refine lv_isub hx hb dX1_append_34 ?_
          refine lv_imul hx hb dX1_append_35 ?_
          refine lv_lushr hx hb dX1_append_36 rfl ?_
          refine lv_ldc2 hx hb C.hown (C.hts _ kc_X1_append_19) dX1_append_37 ?_
          refine lv_land hx hb dX1_append_40 ?_
          refine lv_l2i hx hb dX1_append_41 rfl ?_
          refine lv_i2c hx hb dX1_append_42 rfl ?_
          obtain ⟨j_1, hj_1, hf⟩ := chk_use hf
          refine r_cast C h 1 rfl rfl hj_1 (fun z__ => (wPd cC p0 p1 z__ pl pa po pf ps)) (fun _ => rfl) dX1_append_43 (fun ch_2 ech_2 H locs h => ?_)
          replace hf := nm_use hf ech_2
          refine lv_aload_n hx hb dX1_append_44 rfl (lv_at hl 0 rfl) ?_
          refine lv_dup hx hb dX1_append_45 rfl ?_
          refine r_get C h 0 1 (ci := 1) (N := 6) (Cn := RX1) (T := TX1) rfl rfl (by decide) in_X1_append_X1 lk_X1_append_15 rfl dX1_append_46 ?_
          refine lv_iconst (v := 1) hx hb dX1_append_49 (by decide) ?_
          refine lv_iadd hx hb dX1_append_50 ?_
          refine lv_topi (fun pl_3 epl_3 => ?_)
          replace hf := nm_use hf epl_3
          refine r_put C h 0 1 (ci := 1) (N := 6) (Cn := RX1) (T := TX1) (ty0 := tyX1) rfl rfl (by decide) in_X1_append_X1 tyX1_ok nmX1 lk_X1_append_15 rfl rfl rfl (Nat.le_of_ble_eq_true rfl) (wPd cC p0 p1 ch_2 pl_3 pa po pf ps) rfl dX1_append_51 (fun H locs h => ?_)
          obtain ⟨x4_4, ex4_4⟩ : ∃ y : Int32, y = x4 + 1 := ⟨_, rfl⟩
          replace hf := nm_use hf ex4_4
          refine lv_iinc (v := x4_4) (lv' := [(4, .int x4_4), (0, .ref p0), (1, .long x1), (3, .int x3)]) hx hb dX1_append_54 hl (k := 3) rfl (by rw [ex4_4]; rfl) (by decide) rfl (fun ls hl => ?_)
          refine lv_goto (tgt := 3) hx hb dX1_append_57 (by decide) ?_
          exact ih ch_2 pl_3 x1 x3 x4_4 _ _ _ h (lv_sub hl [1, 2, 3, 0] rfl) hf
  unfold fX1_append at hf
  refine lv_iconst (v := 0) hx hb dX1_append_0 (by decide) ?_
  refine lv_istore (lv' := [(4, .int 0), (0, .ref p0), (1, .long x1), (3, .int x3)]) hx hb dX1_append_1 hl (by decide) rfl (fun ls hl => ?_)
  exact cut_3 KF ch pl x1 x3 0 _ _ _ h (lv_sub hl [1, 2, 3, 0] rfl) hf
def rm_X1_readSign : Room := { frames := 1, cells := 0, slots := 0, locals := 20 }
set_option maxRecDepth 20000 in
theorem lk_X1_readSign_21 : Cond.fieldLink RX1 21 "LineDoubler$Pad" "at" "I" ∈ wsX1_readSign := List.mem_of_getElem? (i := 1) (by decide +kernel)
set_option maxRecDepth 20000 in
theorem in_X1_readSign_X1 : ∀ x ∈ wsX10, x ∈ wsX1_readSign := mem_r _ [9, 10, 11, 12, 13, 14] (by decide +kernel)
set_option maxRecDepth 20000 in
theorem cw_X1_readSign_X1_look_32 {s : State} {args : Array Value} (hts : ∀ w ∈ wsX1_readSign, w.before args s = true) : CallW rm_X1_readSign s args RX1 RX1 32 yX1_look cX1_look 1 (some .char) wsX1_look rm_X1_look 0 0 0 :=
  cwV 0 hts gX1_readSign_X1_look rfl rfl rfl (by decide +kernel) ⟨Nat.le_of_ble_eq_true rfl, Nat.le_of_ble_eq_true rfl⟩
set_option maxHeartbeats 4000000 in
set_option maxRecDepth 100000 in
theorem c_X1_readSign (l : Launch) (G : va_G) (cI cC cZ : ClassId) (X : List (ClassId × FieldType)) (p0 p1 : Nat) (ch : Nat → Int32) (pl : Int32) (pa : Int32) (po : Int32) (pf : Int32) (ps : Int32) (x1 : Int32) (rv : Int32) (pa' : Int32) (hf : fX1_readSign ch pl pa x1 = some (rv, pa')) : CT l yX1_readSign wsX1_readSign rm_X1_readSign G (TY cI cC cZ X) [.ref p0, .int x1] (wPd cC p0 p1 ch pl pa po pf ps) (some (.int rv)) (wPd cC p0 p1 ch pl pa' po pf ps) := by
  refine CT.of (cc := cX1_readSign) (maxL := 2) (ret := (some .boolean)) RX1 rfl (by decide) rfl (Nat.le_of_ble_eq_true rfl) ?_
  intro p e s m args below meth c A ls C hr hlocks hnm h hl
  have hx := C.hx
  have hb := C.hb
  have hl : lv_has ls 2 [(0, .ref p0), (1, .int x1)] := hl
  unfold fX1_readSign at hf
  refine lv_aload_n hx hb dX1_readSign_0 rfl (lv_at hl 0 rfl) ?_
  obtain ⟨r_1, hq_2, hf⟩ := ob1_use hf
  refine r_callV C h (cw_X1_readSign_X1_look_32 C.hts) (rest := []) (ci := 1) (N := 6) (Cn := RX1) (T := TX1) (c_X1_look l G cI cC cZ X p0 p1 ch pl pa po pf ps r_1 hq_2) [0, 1] rfl rfl rfl rfl 0 rfl rfl hl.1 rfl (Nat.le_of_ble_eq_true rfl) ⟨Nat.le_of_ble_eq_true rfl, Nat.le_of_ble_eq_true rfl⟩ (wPd cC p0 p1 ch pl pa po pf ps) rfl rfl dX1_readSign_1 (fun H locs h => ?_)
  refine lv_iload_n hx hb dX1_readSign_4 rfl (lv_at hl 1 rfl) ?_
  refine lv_icmp_eq (tgt := 10) hx hb dX1_readSign_5 (by decide) (fun hc => ?_) (fun hc => ?_)
  · replace hf := it_t hf hc
    refine lv_aload_n hx hb dX1_readSign_10 rfl (lv_at hl 0 rfl) ?_
    refine lv_dup hx hb dX1_readSign_11 rfl ?_
    refine r_get C h 0 2 (ci := 1) (N := 6) (Cn := RX1) (T := TX1) rfl rfl (by decide) in_X1_readSign_X1 lk_X1_readSign_21 rfl dX1_readSign_12 ?_
    refine lv_iconst (v := 1) hx hb dX1_readSign_15 (by decide) ?_
    refine lv_iadd hx hb dX1_readSign_16 ?_
    refine lv_topi (fun pa_3 epa_3 => ?_)
    replace hf := nm_use hf epa_3
    refine r_put C h 0 2 (ci := 1) (N := 6) (Cn := RX1) (T := TX1) (ty0 := tyX1) rfl rfl (by decide) in_X1_readSign_X1 tyX1_ok nmX1 lk_X1_readSign_21 rfl rfl rfl (Nat.le_of_ble_eq_true rfl) (wPd cC p0 p1 ch pl pa_3 po pf ps) rfl dX1_readSign_17 (fun H locs h => ?_)
    refine lv_iconst (v := 1) hx hb dX1_readSign_20 (by decide) ?_
    cases hf
    exact r_zret C h hr hlocks rfl dX1_readSign_21
  · replace hf := it_f hf hc
    refine lv_iconst (v := 0) hx hb dX1_readSign_8 (by decide) ?_
    cases hf
    exact r_zret C h hr hlocks rfl dX1_readSign_9
def rm_X1_readNumber : Room := { frames := 1, cells := 0, slots := 0, locals := 20 }
set_option maxRecDepth 20000 in
theorem lk_X1_readNumber_21 : Cond.fieldLink RX1 21 "LineDoubler$Pad" "at" "I" ∈ wsX1_readNumber := List.mem_of_getElem? (i := 1) (by decide +kernel)
set_option maxRecDepth 20000 in
theorem in_X1_readNumber_X1 : ∀ x ∈ wsX10, x ∈ wsX1_readNumber := mem_r _ [12, 13, 14, 15, 16, 17] (by decide +kernel)
set_option maxRecDepth 20000 in
theorem cw_X1_readNumber_X1_look_32 {s : State} {args : Array Value} (hts : ∀ w ∈ wsX1_readNumber, w.before args s = true) : CallW rm_X1_readNumber s args RX1 RX1 32 yX1_look cX1_look 1 (some .char) wsX1_look rm_X1_look 0 0 0 :=
  cwV 0 hts gX1_readNumber_X1_look rfl rfl rfl (by decide +kernel) ⟨Nat.le_of_ble_eq_true rfl, Nat.le_of_ble_eq_true rfl⟩
set_option maxRecDepth 20000 in
theorem cw_X1_readNumber_X1_isDigit_53 {s : State} {args : Array Value} (hts : ∀ w ∈ wsX1_readNumber, w.before args s = true) : CallB rm_X1_readNumber s args RX1 53 yX1_isDigit cX1_isDigit 1 (some .boolean) wsX1_isDigit rm_X1_isDigit 0 0 1 ∧ (Cond.static yX1_isDigit).before args s = true :=
  va_cwS 1 hts gX1_readNumber_X1_isDigit rfl rfl rfl (by decide +kernel) ⟨Nat.le_of_ble_eq_true rfl, Nat.le_of_ble_eq_true rfl⟩
set_option maxHeartbeats 4000000 in
set_option maxRecDepth 100000 in
theorem c_X1_readNumber (l : Launch) (G : va_G) (cI cC cZ : ClassId) (X : List (ClassId × FieldType)) (p0 p1 : Nat) (ch : Nat → Int32) (pl : Int32) (pa : Int32) (po : Int32) (pf : Int32) (ps : Int32) (rv : Int32) (pa' : Int32) (hf : fX1_readNumber ch pl pa = some (rv, pa')) : CT l yX1_readNumber wsX1_readNumber rm_X1_readNumber G (TY cI cC cZ X) [.ref p0] (wPd cC p0 p1 ch pl pa po pf ps) (some (.int rv)) (wPd cC p0 p1 ch pl pa' po pf ps) := by
  refine CT.of (cc := cX1_readNumber) (maxL := 3) (ret := (some .int)) RX1 rfl (by decide) rfl (Nat.le_of_ble_eq_true rfl) ?_
  intro p e s m args below meth c A ls C hr hlocks hnm h hl
  have hx := C.hx
  have hb := C.hb
  have hl : lv_has ls 3 [(0, .ref p0)] := hl
  have cut_33 : ∀ (n : Nat) (pa : Int32) (x1 : Int32) (x2 : Int32) (H : Heap) (locs : List Loc) (ls : Array Slot), Hx s G A (wPd cC p0 p1 ch pl pa po pf ps) H locs → lv_has ls 3 [(0, .ref p0), (1, .int x1), (2, .int x2)] → fX1_readNumber_33 n ch pl pa x1 x2 = some (rv, pa') → W p l e rm_X1_readNumber s m args below meth c H locs 0 0 (MQ below (Qx G (some (.int rv)) (wPd cC p0 p1 ch pl pa' po pf ps) A) args s 0 0 A) (F0 m 33 ls []) := by
    intro n
    induction n with
    | zero =>
      intro pa x1 x2 H locs ls h hl hf
      exact (nn_some _ hf).elim
    | succ n ih =>
      intro pa x1 x2 H locs ls h hl hf
      have hf : fX1_readNumber_33_b (fX1_readNumber_33 n) ch pl pa x1 x2 = some (rv, pa') := hf
      unfold fX1_readNumber_33_b at hf
      refine lv_iload_n hx hb dX1_readNumber_33 rfl (lv_at hl 2 rfl) ?_
      refine lv_iconst (v := 3) hx hb dX1_readNumber_34 (by decide) ?_
      refine lv_icmp_ge (tgt := 81) hx hb dX1_readNumber_35 (by decide) (fun hc => ?_) (fun hc => ?_)
      · replace hf := it_t hf hc
        refine lv_iload_n hx hb dX1_readNumber_81 rfl (lv_at hl 1 rfl) ?_
        cases hf
        exact r_iret C h hr hlocks dX1_readNumber_82
      · replace hf := it_f hf hc
        refine lv_iload_n hx hb dX1_readNumber_38 rfl (lv_at hl 1 rfl) ?_
        refine lv_if_le (tgt := 81) hx hb dX1_readNumber_39 (by decide) (fun hc => ?_) (fun hc => ?_)
        · replace hf := it_t hf hc
          refine lv_iload_n hx hb dX1_readNumber_81 rfl (lv_at hl 1 rfl) ?_
          cases hf
          exact r_iret C h hr hlocks dX1_readNumber_82
        · replace hf := it_f hf hc
          refine lv_aload_n hx hb dX1_readNumber_42 rfl (lv_at hl 0 rfl) ?_
          obtain ⟨r_1, hq_2, hf⟩ := ob1_use hf
          refine r_callV C h (cw_X1_readNumber_X1_look_32 C.hts) (rest := []) (ci := 1) (N := 6) (Cn := RX1) (T := TX1) (c_X1_look l G cI cC cZ X p0 p1 ch pl pa po pf ps r_1 hq_2) [0, 1] rfl rfl rfl rfl 0 rfl rfl hl.1 rfl (Nat.le_of_ble_eq_true rfl) ⟨Nat.le_of_ble_eq_true rfl, Nat.le_of_ble_eq_true rfl⟩ (wPd cC p0 p1 ch pl pa po pf ps) rfl rfl dX1_readNumber_43 (fun H locs h => ?_)
          obtain ⟨r_3, hq_4, hf⟩ := ob1_use hf
          refine r_callS C h (cw_X1_readNumber_X1_isDigit_53 C.hts) (rest := []) (c_X1_isDigit l G cI cC cZ X r_1 r_3 hq_4) [] rfl rfl rfl rfl hl.1 rfl (Nat.le_of_ble_eq_true rfl) ⟨Nat.le_of_ble_eq_true rfl, Nat.le_of_ble_eq_true rfl⟩ (wPd cC p0 p1 ch pl pa po pf ps) rfl rfl dX1_readNumber_46 (fun H locs h => ?_)
          refine lv_if_eq (tgt := 81) hx hb dX1_readNumber_49 (by decide) (fun hc => ?_) (fun hc => ?_)
          · replace hf := it_t hf hc
            refine lv_iload_n hx hb dX1_readNumber_81 rfl (lv_at hl 1 rfl) ?_
            cases hf
            exact r_iret C h hr hlocks dX1_readNumber_82
          · replace hf := it_f hf hc
            refine lv_bipush (v := 10) hx hb dX1_readNumber_52 (by decide) ?_
            refine lv_iload_n hx hb dX1_readNumber_54 rfl (lv_at hl 1 rfl) ?_
            refine lv_imul hx hb dX1_readNumber_55 ?_
            refine lv_aload_n hx hb dX1_readNumber_56 rfl (lv_at hl 0 rfl) ?_
            obtain ⟨r_5, hq_6, hf⟩ := ob1_use hf
            refine r_callV C h (cw_X1_readNumber_X1_look_32 C.hts) (rest := [.int (10 * x1)]) (ci := 1) (N := 6) (Cn := RX1) (T := TX1) (c_X1_look l G cI cC cZ X p0 p1 ch pl pa po pf ps r_5 hq_6) [0, 1] rfl rfl rfl rfl 0 rfl rfl hl.1 rfl (Nat.le_of_ble_eq_true rfl) ⟨Nat.le_of_ble_eq_true rfl, Nat.le_of_ble_eq_true rfl⟩ (wPd cC p0 p1 ch pl pa po pf ps) rfl rfl dX1_readNumber_57 (fun H locs h => ?_)
            refine lv_iadd hx hb dX1_readNumber_60 ?_
            refine lv_bipush (v := 48) hx hb dX1_readNumber_61 (by decide) ?_
            refine lv_isub hx hb dX1_readNumber_63 ?_
            refine lv_topi (fun x1_7 ex1_7 => ?_)
            replace hf := nm_use hf ex1_7
            refine lv_istore_n (lv' := [(1, .int x1_7), (0, .ref p0), (2, .int x2)]) hx hb dX1_readNumber_64 rfl hl (by decide) rfl (fun ls hl => ?_)
            refine lv_aload_n hx hb dX1_readNumber_65 rfl (lv_at hl 1 rfl) ?_
            refine lv_dup hx hb dX1_readNumber_66 rfl ?_
            refine r_get C h 0 2 (ci := 1) (N := 6) (Cn := RX1) (T := TX1) rfl rfl (by decide) in_X1_readNumber_X1 lk_X1_readNumber_21 rfl dX1_readNumber_67 ?_
            refine lv_iconst (v := 1) hx hb dX1_readNumber_70 (by decide) ?_
            refine lv_iadd hx hb dX1_readNumber_71 ?_
            refine lv_topi (fun pa_8 epa_8 => ?_)
            replace hf := nm_use hf epa_8
            refine r_put C h 0 2 (ci := 1) (N := 6) (Cn := RX1) (T := TX1) (ty0 := tyX1) rfl rfl (by decide) in_X1_readNumber_X1 tyX1_ok nmX1 lk_X1_readNumber_21 rfl rfl rfl (Nat.le_of_ble_eq_true rfl) (wPd cC p0 p1 ch pl pa_8 po pf ps) rfl dX1_readNumber_72 (fun H locs h => ?_)
            obtain ⟨x2_9, ex2_9⟩ : ∃ y : Int32, y = x2 + 1 := ⟨_, rfl⟩
            replace hf := nm_use hf ex2_9
            refine lv_iinc (v := x2_9) (lv' := [(2, .int x2_9), (1, .int x1_7), (0, .ref p0)]) hx hb dX1_readNumber_75 hl (k := 2) rfl (by rw [ex2_9]; rfl) (by decide) rfl (fun ls hl => ?_)
            refine lv_goto (tgt := 33) hx hb dX1_readNumber_78 (by decide) ?_
            exact ih pa_8 x1_7 x2_9 _ _ _ h (lv_sub hl [2, 1, 0] rfl) hf
  unfold fX1_readNumber at hf
  refine lv_aload_n hx hb dX1_readNumber_0 rfl (lv_at hl 0 rfl) ?_
  obtain ⟨r_1, hq_2, hf⟩ := ob1_use hf
  refine r_callV C h (cw_X1_readNumber_X1_look_32 C.hts) (rest := []) (ci := 1) (N := 6) (Cn := RX1) (T := TX1) (c_X1_look l G cI cC cZ X p0 p1 ch pl pa po pf ps r_1 hq_2) [0, 1] rfl rfl rfl rfl 0 rfl rfl hl.1 rfl (Nat.le_of_ble_eq_true rfl) ⟨Nat.le_of_ble_eq_true rfl, Nat.le_of_ble_eq_true rfl⟩ (wPd cC p0 p1 ch pl pa po pf ps) rfl rfl dX1_readNumber_1 (fun H locs h => ?_)
  obtain ⟨r_3, hq_4, hf⟩ := ob1_use hf
  refine r_callS C h (cw_X1_readNumber_X1_isDigit_53 C.hts) (rest := []) (c_X1_isDigit l G cI cC cZ X r_1 r_3 hq_4) [] rfl rfl rfl rfl hl.1 rfl (Nat.le_of_ble_eq_true rfl) ⟨Nat.le_of_ble_eq_true rfl, Nat.le_of_ble_eq_true rfl⟩ (wPd cC p0 p1 ch pl pa po pf ps) rfl rfl dX1_readNumber_4 (fun H locs h => ?_)
  refine lv_if_ne (tgt := 13) hx hb dX1_readNumber_7 (by decide) (fun hc => ?_) (fun hc => ?_)
  · replace hf := it_f hf hc
    refine lv_aload_n hx hb dX1_readNumber_13 rfl (lv_at hl 0 rfl) ?_
    obtain ⟨r_5, hq_6, hf⟩ := ob1_use hf
    refine r_callV C h (cw_X1_readNumber_X1_look_32 C.hts) (rest := []) (ci := 1) (N := 6) (Cn := RX1) (T := TX1) (c_X1_look l G cI cC cZ X p0 p1 ch pl pa po pf ps r_5 hq_6) [0, 1] rfl rfl rfl rfl 0 rfl rfl hl.1 rfl (Nat.le_of_ble_eq_true rfl) ⟨Nat.le_of_ble_eq_true rfl, Nat.le_of_ble_eq_true rfl⟩ (wPd cC p0 p1 ch pl pa po pf ps) rfl rfl dX1_readNumber_14 (fun H locs h => ?_)
    refine lv_bipush (v := 48) hx hb dX1_readNumber_17 (by decide) ?_
    refine lv_isub hx hb dX1_readNumber_19 ?_
    refine lv_topi (fun x1_7 ex1_7 => ?_)
    replace hf := nm_use hf ex1_7
    refine lv_istore_n (lv' := [(1, .int x1_7), (0, .ref p0)]) hx hb dX1_readNumber_20 rfl hl (by decide) rfl (fun ls hl => ?_)
    refine lv_aload_n hx hb dX1_readNumber_21 rfl (lv_at hl 1 rfl) ?_
    refine lv_dup hx hb dX1_readNumber_22 rfl ?_
    refine r_get C h 0 2 (ci := 1) (N := 6) (Cn := RX1) (T := TX1) rfl rfl (by decide) in_X1_readNumber_X1 lk_X1_readNumber_21 rfl dX1_readNumber_23 ?_
    refine lv_iconst (v := 1) hx hb dX1_readNumber_26 (by decide) ?_
    refine lv_iadd hx hb dX1_readNumber_27 ?_
    refine lv_topi (fun pa_8 epa_8 => ?_)
    replace hf := nm_use hf epa_8
    refine r_put C h 0 2 (ci := 1) (N := 6) (Cn := RX1) (T := TX1) (ty0 := tyX1) rfl rfl (by decide) in_X1_readNumber_X1 tyX1_ok nmX1 lk_X1_readNumber_21 rfl rfl rfl (Nat.le_of_ble_eq_true rfl) (wPd cC p0 p1 ch pl pa_8 po pf ps) rfl dX1_readNumber_28 (fun H locs h => ?_)
    refine lv_iconst (v := 1) hx hb dX1_readNumber_31 (by decide) ?_
    refine lv_istore_n (lv' := [(2, .int 1), (1, .int x1_7), (0, .ref p0)]) hx hb dX1_readNumber_32 rfl hl (by decide) rfl (fun ls hl => ?_)
    exact cut_33 KF pa_8 x1_7 1 _ _ _ h (lv_sub hl [2, 1, 0] rfl) hf
  · replace hf := it_t hf hc
    refine lv_bipush (v := (-6)) hx hb dX1_readNumber_10 (by decide) ?_
    cases hf
    exact r_iret C h hr hlocks dX1_readNumber_12
def rm_X1_readOrder : Room := { frames := 2, cells := 0, slots := 0, locals := 42 }
set_option maxRecDepth 20000 in
theorem lk_X1_readOrder_36 : Cond.fieldLink RX1 36 "LineDoubler$Pad" "order" "C" ∈ wsX1_readOrder := List.mem_of_getElem? (i := 1) (by decide +kernel)
set_option maxRecDepth 20000 in
theorem lk_X1_readOrder_21 : Cond.fieldLink RX1 21 "LineDoubler$Pad" "at" "I" ∈ wsX1_readOrder := List.mem_of_getElem? (i := 2) (by decide +kernel)
set_option maxRecDepth 20000 in
theorem lk_X1_readOrder_47 : Cond.fieldLink RX1 47 "LineDoubler$Pad" "first" "I" ∈ wsX1_readOrder := List.mem_of_getElem? (i := 3) (by decide +kernel)
set_option maxRecDepth 20000 in
theorem lk_X1_readOrder_50 : Cond.fieldLink RX1 50 "LineDoubler$Pad" "second" "I" ∈ wsX1_readOrder := List.mem_of_getElem? (i := 4) (by decide +kernel)
set_option maxRecDepth 20000 in
theorem in_X1_readOrder_X1 : ∀ x ∈ wsX10, x ∈ wsX1_readOrder := mem_r _ [26, 27, 28, 29, 30, 31] (by decide +kernel)
set_option maxRecDepth 20000 in
theorem cw_X1_readOrder_X1_look_32 {s : State} {args : Array Value} (hts : ∀ w ∈ wsX1_readOrder, w.before args s = true) : CallW rm_X1_readOrder s args RX1 RX1 32 yX1_look cX1_look 1 (some .char) wsX1_look rm_X1_look 0 0 0 :=
  cwV 0 hts gX1_readOrder_X1_look rfl rfl rfl (by decide +kernel) ⟨Nat.le_of_ble_eq_true rfl, Nat.le_of_ble_eq_true rfl⟩
set_option maxRecDepth 20000 in
theorem cw_X1_readOrder_X1_isOrder_40 {s : State} {args : Array Value} (hts : ∀ w ∈ wsX1_readOrder, w.before args s = true) : CallB rm_X1_readOrder s args RX1 40 yX1_isOrder cX1_isOrder 1 (some .boolean) wsX1_isOrder rm_X1_isOrder 0 0 1 ∧ (Cond.static yX1_isOrder).before args s = true :=
  va_cwS 1 hts gX1_readOrder_X1_isOrder rfl rfl rfl (by decide +kernel) ⟨Nat.le_of_ble_eq_true rfl, Nat.le_of_ble_eq_true rfl⟩
set_option maxRecDepth 20000 in
theorem cw_X1_readOrder_X1_readNumber_43 {s : State} {args : Array Value} (hts : ∀ w ∈ wsX1_readOrder, w.before args s = true) : CallW rm_X1_readOrder s args RX1 RX1 43 yX1_readNumber cX1_readNumber 3 (some .int) wsX1_readNumber rm_X1_readNumber 0 0 0 :=
  cwV 0 hts gX1_readOrder_X1_readNumber rfl rfl rfl (by decide +kernel) ⟨Nat.le_of_ble_eq_true rfl, Nat.le_of_ble_eq_true rfl⟩
set_option maxRecDepth 20000 in
theorem cw_X1_readOrder_X1_readSign_28 {s : State} {args : Array Value} (hts : ∀ w ∈ wsX1_readOrder, w.before args s = true) : CallW rm_X1_readOrder s args RX1 RX1 28 yX1_readSign cX1_readSign 2 (some .boolean) wsX1_readSign rm_X1_readSign 0 0 1 :=
  cwV 1 hts gX1_readOrder_X1_readSign rfl rfl rfl (by decide +kernel) ⟨Nat.le_of_ble_eq_true rfl, Nat.le_of_ble_eq_true rfl⟩
set_option maxHeartbeats 4000000 in
set_option maxRecDepth 100000 in
theorem c_X1_readOrder (l : Launch) (G : va_G) (cI cC cZ : ClassId) (X : List (ClassId × FieldType)) (p0 p1 : Nat) (ch : Nat → Int32) (pl : Int32) (pa : Int32) (po : Int32) (pf : Int32) (ps : Int32) (rv : Int32) (pa' : Int32) (po' : Int32) (pf' : Int32) (ps' : Int32) (hf : fX1_readOrder ch pl pa po pf ps = some (rv, pa', po', pf', ps')) : CT l yX1_readOrder wsX1_readOrder rm_X1_readOrder G (TY cI cC cZ X) [.ref p0] (wPd cC p0 p1 ch pl pa po pf ps) (some (.int rv)) (wPd cC p0 p1 ch pl pa' po' pf' ps') := by
  refine CT.of (cc := cX1_readOrder) (maxL := 1) (ret := (some .boolean)) RX1 rfl (by decide) rfl (Nat.le_of_ble_eq_true rfl) ?_
  intro p e s m args below meth c A ls C hr hlocks hnm h hl
  have hx := C.hx
  have hb := C.hb
  have hl : lv_has ls 1 [(0, .ref p0)] := hl
  unfold fX1_readOrder at hf
  refine lv_aload_n hx hb dX1_readOrder_0 rfl (lv_at hl 0 rfl) ?_
  refine lv_aload_n hx hb dX1_readOrder_1 rfl (lv_at hl 0 rfl) ?_
  obtain ⟨r_1, hq_2, hf⟩ := ob1_use hf
  refine r_callV C h (cw_X1_readOrder_X1_look_32 C.hts) (rest := [.ref p0]) (ci := 1) (N := 6) (Cn := RX1) (T := TX1) (c_X1_look l G cI cC cZ X p0 p1 ch pl pa po pf ps r_1 hq_2) [0, 1] rfl rfl rfl rfl 0 rfl rfl hl.1 rfl (Nat.le_of_ble_eq_true rfl) ⟨Nat.le_of_ble_eq_true rfl, Nat.le_of_ble_eq_true rfl⟩ (wPd cC p0 p1 ch pl pa po pf ps) rfl rfl dX1_readOrder_2 (fun H locs h => ?_)
  obtain ⟨hz_3, hf⟩ := nd_use hf
  refine r_put C h 0 3 (ci := 1) (N := 6) (Cn := RX1) (T := TX1) (ty0 := tyX1) rfl rfl (by decide) in_X1_readOrder_X1 tyX1_ok nmX1 lk_X1_readOrder_36 rfl (r_nch hz_3) (r_fch hz_3) (Nat.le_of_ble_eq_true rfl) (wPd cC p0 p1 ch pl pa r_1 pf ps) rfl dX1_readOrder_5 (fun H locs h => ?_)
  refine lv_aload_n hx hb dX1_readOrder_8 rfl (lv_at hl 0 rfl) ?_
  refine r_get C h 0 3 (ci := 1) (N := 6) (Cn := RX1) (T := TX1) rfl rfl (by decide) in_X1_readOrder_X1 lk_X1_readOrder_36 rfl dX1_readOrder_9 ?_
  obtain ⟨r_4, hq_5, hf⟩ := ob1_use hf
  refine r_callS C h (cw_X1_readOrder_X1_isOrder_40 C.hts) (rest := []) (c_X1_isOrder l G cI cC cZ X r_1 r_4 hq_5) [] rfl rfl rfl rfl hl.1 rfl (Nat.le_of_ble_eq_true rfl) ⟨Nat.le_of_ble_eq_true rfl, Nat.le_of_ble_eq_true rfl⟩ (wPd cC p0 p1 ch pl pa r_1 pf ps) rfl rfl dX1_readOrder_12 (fun H locs h => ?_)
  refine lv_if_ne (tgt := 20) hx hb dX1_readOrder_15 (by decide) (fun hc => ?_) (fun hc => ?_)
  · replace hf := it_f hf hc
    refine lv_aload_n hx hb dX1_readOrder_20 rfl (lv_at hl 0 rfl) ?_
    refine lv_dup hx hb dX1_readOrder_21 rfl ?_
    refine r_get C h 0 2 (ci := 1) (N := 6) (Cn := RX1) (T := TX1) rfl rfl (by decide) in_X1_readOrder_X1 lk_X1_readOrder_21 rfl dX1_readOrder_22 ?_
    refine lv_iconst (v := 1) hx hb dX1_readOrder_25 (by decide) ?_
    refine lv_iadd hx hb dX1_readOrder_26 ?_
    refine lv_topi (fun pa_6 epa_6 => ?_)
    replace hf := nm_use hf epa_6
    refine r_put C h 0 2 (ci := 1) (N := 6) (Cn := RX1) (T := TX1) (ty0 := tyX1) rfl rfl (by decide) in_X1_readOrder_X1 tyX1_ok nmX1 lk_X1_readOrder_21 rfl rfl rfl (Nat.le_of_ble_eq_true rfl) (wPd cC p0 p1 ch pl pa_6 r_1 pf ps) rfl dX1_readOrder_27 (fun H locs h => ?_)
    refine lv_aload_n hx hb dX1_readOrder_30 rfl (lv_at hl 0 rfl) ?_
    refine lv_aload_n hx hb dX1_readOrder_31 rfl (lv_at hl 0 rfl) ?_
    obtain ⟨r_7, pa_8, hq_9, hf⟩ := ob2_use hf
    refine r_callV C h (cw_X1_readOrder_X1_readNumber_43 C.hts) (rest := [.ref p0]) (ci := 1) (N := 6) (Cn := RX1) (T := TX1) (c_X1_readNumber l G cI cC cZ X p0 p1 ch pl pa_6 r_1 pf ps r_7 pa_8 hq_9) [0, 1] rfl rfl rfl rfl 0 rfl rfl hl.1 rfl (Nat.le_of_ble_eq_true rfl) ⟨Nat.le_of_ble_eq_true rfl, Nat.le_of_ble_eq_true rfl⟩ (wPd cC p0 p1 ch pl pa_8 r_1 pf ps) rfl rfl dX1_readOrder_32 (fun H locs h => ?_)
    refine r_put C h 0 4 (ci := 1) (N := 6) (Cn := RX1) (T := TX1) (ty0 := tyX1) rfl rfl (by decide) in_X1_readOrder_X1 tyX1_ok nmX1 lk_X1_readOrder_47 rfl rfl rfl (Nat.le_of_ble_eq_true rfl) (wPd cC p0 p1 ch pl pa_8 r_1 r_7 ps) rfl dX1_readOrder_35 (fun H locs h => ?_)
    refine lv_aload_n hx hb dX1_readOrder_38 rfl (lv_at hl 0 rfl) ?_
    refine lv_iconst (v := 0) hx hb dX1_readOrder_39 (by decide) ?_
    refine r_put C h 0 5 (ci := 1) (N := 6) (Cn := RX1) (T := TX1) (ty0 := tyX1) rfl rfl (by decide) in_X1_readOrder_X1 tyX1_ok nmX1 lk_X1_readOrder_50 rfl rfl rfl (Nat.le_of_ble_eq_true rfl) (wPd cC p0 p1 ch pl pa_8 r_1 r_7 0) rfl dX1_readOrder_40 (fun H locs h => ?_)
    refine lv_aload_n hx hb dX1_readOrder_43 rfl (lv_at hl 0 rfl) ?_
    refine r_get C h 0 3 (ci := 1) (N := 6) (Cn := RX1) (T := TX1) rfl rfl (by decide) in_X1_readOrder_X1 lk_X1_readOrder_36 rfl dX1_readOrder_44 ?_
    refine lv_bipush (v := 118) hx hb dX1_readOrder_47 (by decide) ?_
    refine lv_icmp_ne (tgt := 59) hx hb dX1_readOrder_49 (by decide) (fun hc => ?_) (fun hc => ?_)
    · replace hf := it_f hf hc
      refine lv_aload_n hx hb dX1_readOrder_59 rfl (lv_at hl 0 rfl) ?_
      refine r_get C h 0 4 (ci := 1) (N := 6) (Cn := RX1) (T := TX1) rfl rfl (by decide) in_X1_readOrder_X1 lk_X1_readOrder_47 rfl dX1_readOrder_60 ?_
      refine lv_if_lt (tgt := 70) hx hb dX1_readOrder_63 (by decide) (fun hc => ?_) (fun hc => ?_)
      · replace hf := it_t hf hc
        refine lv_iconst (v := 0) hx hb dX1_readOrder_70 (by decide) ?_
        cases hf
        exact r_zret C h hr hlocks rfl dX1_readOrder_71
      · replace hf := it_f hf hc
        refine lv_iconst (v := 1) hx hb dX1_readOrder_66 (by decide) ?_
        refine lv_goto (tgt := 71) hx hb dX1_readOrder_67 (by decide) ?_
        cases hf
        exact r_zret C h hr hlocks rfl dX1_readOrder_71
    · replace hf := it_t hf hc
      refine lv_aload_n hx hb dX1_readOrder_52 rfl (lv_at hl 0 rfl) ?_
      refine r_get C h 0 4 (ci := 1) (N := 6) (Cn := RX1) (T := TX1) rfl rfl (by decide) in_X1_readOrder_X1 lk_X1_readOrder_47 rfl dX1_readOrder_53 ?_
      refine lv_if_ge (tgt := 72) hx hb dX1_readOrder_56 (by decide) (fun hc => ?_) (fun hc => ?_)
      · replace hf := it_t hf hc
        refine lv_aload_n hx hb dX1_readOrder_72 rfl (lv_at hl 0 rfl) ?_
        refine lv_bipush (v := 61) hx hb dX1_readOrder_73 (by decide) ?_
        obtain ⟨r_10, pa_11, hq_12, hf⟩ := ob2_use hf
        refine r_callV C h (cw_X1_readOrder_X1_readSign_28 C.hts) (rest := []) (ci := 1) (N := 6) (Cn := RX1) (T := TX1) (c_X1_readSign l G cI cC cZ X p0 p1 ch pl pa_8 r_1 r_7 0 (61 : Int32) r_10 pa_11 hq_12) [0, 1] rfl rfl rfl rfl 0 rfl rfl hl.1 rfl (Nat.le_of_ble_eq_true rfl) ⟨Nat.le_of_ble_eq_true rfl, Nat.le_of_ble_eq_true rfl⟩ (wPd cC p0 p1 ch pl pa_11 r_1 r_7 0) rfl rfl dX1_readOrder_75 (fun H locs h => ?_)
        refine lv_if_ne (tgt := 83) hx hb dX1_readOrder_78 (by decide) (fun hc => ?_) (fun hc => ?_)
        · replace hf := it_f hf hc
          refine lv_aload_n hx hb dX1_readOrder_83 rfl (lv_at hl 0 rfl) ?_
          refine lv_aload_n hx hb dX1_readOrder_84 rfl (lv_at hl 0 rfl) ?_
          obtain ⟨r_13, pa_14, hq_15, hf⟩ := ob2_use hf
          refine r_callV C h (cw_X1_readOrder_X1_readNumber_43 C.hts) (rest := [.ref p0]) (ci := 1) (N := 6) (Cn := RX1) (T := TX1) (c_X1_readNumber l G cI cC cZ X p0 p1 ch pl pa_11 r_1 r_7 0 r_13 pa_14 hq_15) [0, 1] rfl rfl rfl rfl 0 rfl rfl hl.1 rfl (Nat.le_of_ble_eq_true rfl) ⟨Nat.le_of_ble_eq_true rfl, Nat.le_of_ble_eq_true rfl⟩ (wPd cC p0 p1 ch pl pa_14 r_1 r_7 0) rfl rfl dX1_readOrder_85 (fun H locs h => ?_)
          refine r_put C h 0 5 (ci := 1) (N := 6) (Cn := RX1) (T := TX1) (ty0 := tyX1) rfl rfl (by decide) in_X1_readOrder_X1 tyX1_ok nmX1 lk_X1_readOrder_50 rfl rfl rfl (Nat.le_of_ble_eq_true rfl) (wPd cC p0 p1 ch pl pa_14 r_1 r_7 r_13) rfl dX1_readOrder_88 (fun H locs h => ?_)
          refine lv_aload_n hx hb dX1_readOrder_91 rfl (lv_at hl 0 rfl) ?_
          refine r_get C h 0 5 (ci := 1) (N := 6) (Cn := RX1) (T := TX1) rfl rfl (by decide) in_X1_readOrder_X1 lk_X1_readOrder_50 rfl dX1_readOrder_92 ?_
          refine lv_if_lt (tgt := 102) hx hb dX1_readOrder_95 (by decide) (fun hc => ?_) (fun hc => ?_)
          · replace hf := it_t hf hc
            refine lv_iconst (v := 0) hx hb dX1_readOrder_102 (by decide) ?_
            cases hf
            exact r_zret C h hr hlocks rfl dX1_readOrder_103
          · replace hf := it_f hf hc
            refine lv_iconst (v := 1) hx hb dX1_readOrder_98 (by decide) ?_
            refine lv_goto (tgt := 103) hx hb dX1_readOrder_99 (by decide) ?_
            cases hf
            exact r_zret C h hr hlocks rfl dX1_readOrder_103
        · replace hf := it_t hf hc
          refine lv_iconst (v := 0) hx hb dX1_readOrder_81 (by decide) ?_
          cases hf
          exact r_zret C h hr hlocks rfl dX1_readOrder_82
      · replace hf := it_f hf hc
        refine lv_aload_n hx hb dX1_readOrder_59 rfl (lv_at hl 0 rfl) ?_
        refine r_get C h 0 4 (ci := 1) (N := 6) (Cn := RX1) (T := TX1) rfl rfl (by decide) in_X1_readOrder_X1 lk_X1_readOrder_47 rfl dX1_readOrder_60 ?_
        refine lv_if_lt (tgt := 70) hx hb dX1_readOrder_63 (by decide) (fun hc => ?_) (fun hc => ?_)
        · replace hf := it_t hf hc
          refine lv_iconst (v := 0) hx hb dX1_readOrder_70 (by decide) ?_
          cases hf
          exact r_zret C h hr hlocks rfl dX1_readOrder_71
        · replace hf := it_f hf hc
          refine lv_iconst (v := 1) hx hb dX1_readOrder_66 (by decide) ?_
          refine lv_goto (tgt := 71) hx hb dX1_readOrder_67 (by decide) ?_
          cases hf
          exact r_zret C h hr hlocks rfl dX1_readOrder_71
  · replace hf := it_t hf hc
    refine lv_iconst (v := 0) hx hb dX1_readOrder_18 (by decide) ?_
    cases hf
    exact r_zret C h hr hlocks rfl dX1_readOrder_19
def rm_X1_findFault : Room := { frames := 3, cells := 0, slots := 0, locals := 62 }
set_option maxRecDepth 20000 in
theorem lk_X1_findFault_21 : Cond.fieldLink RX1 21 "LineDoubler$Pad" "at" "I" ∈ wsX1_findFault := List.mem_of_getElem? (i := 1) (by decide +kernel)
set_option maxRecDepth 20000 in
theorem lk_X1_findFault_15 : Cond.fieldLink RX1 15 "LineDoubler$Pad" "length" "I" ∈ wsX1_findFault := List.mem_of_getElem? (i := 2) (by decide +kernel)
set_option maxRecDepth 20000 in
theorem in_X1_findFault_X1 : ∀ x ∈ wsX10, x ∈ wsX1_findFault := mem_r _ [30, 31, 32, 33, 34, 35] (by decide +kernel)
set_option maxRecDepth 20000 in
theorem cw_X1_findFault_X1_readOrder_24 {s : State} {args : Array Value} (hts : ∀ w ∈ wsX1_findFault, w.before args s = true) : CallW rm_X1_findFault s args RX1 RX1 24 yX1_readOrder cX1_readOrder 1 (some .boolean) wsX1_readOrder rm_X1_readOrder 0 0 0 :=
  cwV 0 hts gX1_findFault_X1_readOrder rfl rfl rfl (by decide +kernel) ⟨Nat.le_of_ble_eq_true rfl, Nat.le_of_ble_eq_true rfl⟩
set_option maxRecDepth 20000 in
theorem cw_X1_findFault_X1_readSign_28 {s : State} {args : Array Value} (hts : ∀ w ∈ wsX1_findFault, w.before args s = true) : CallW rm_X1_findFault s args RX1 RX1 28 yX1_readSign cX1_readSign 2 (some .boolean) wsX1_readSign rm_X1_readSign 0 0 1 :=
  cwV 1 hts gX1_findFault_X1_readSign rfl rfl rfl (by decide +kernel) ⟨Nat.le_of_ble_eq_true rfl, Nat.le_of_ble_eq_true rfl⟩
set_option maxHeartbeats 4000000 in
set_option maxRecDepth 100000 in
theorem c_X1_findFault (l : Launch) (G : va_G) (cI cC cZ : ClassId) (X : List (ClassId × FieldType)) (p0 p1 : Nat) (ch : Nat → Int32) (pl : Int32) (pa : Int32) (po : Int32) (pf : Int32) (ps : Int32) (rv : Int32) (pa' : Int32) (po' : Int32) (pf' : Int32) (ps' : Int32) (hf : fX1_findFault ch pl pa po pf ps = some (rv, pa', po', pf', ps')) : CT l yX1_findFault wsX1_findFault rm_X1_findFault G (TY cI cC cZ X) [.ref p0] (wPd cC p0 p1 ch pl pa po pf ps) (some (.int rv)) (wPd cC p0 p1 ch pl pa' po' pf' ps') := by
  refine CT.of (cc := cX1_findFault) (maxL := 2) (ret := (some .int)) RX1 rfl (by decide) rfl (Nat.le_of_ble_eq_true rfl) ?_
  intro p e s m args below meth c A ls C hr hlocks hnm h hl
  have hx := C.hx
  have hb := C.hb
  have hl : lv_has ls 2 [(0, .ref p0)] := hl
  have cut_7 : ∀ (n : Nat) (pa : Int32) (po : Int32) (pf : Int32) (ps : Int32) (x1 : Int32) (H : Heap) (locs : List Loc) (ls : Array Slot), Hx s G A (wPd cC p0 p1 ch pl pa po pf ps) H locs → lv_has ls 2 [(0, .ref p0), (1, .int x1)] → fX1_findFault_7 n ch pl pa po pf ps x1 = some (rv, pa', po', pf', ps') → W p l e rm_X1_findFault s m args below meth c H locs 0 0 (MQ below (Qx G (some (.int rv)) (wPd cC p0 p1 ch pl pa' po' pf' ps') A) args s 0 0 A) (F0 m 7 ls []) := by
    intro n
    induction n with
    | zero =>
      intro pa po pf ps x1 H locs ls h hl hf
      exact (nn_some _ hf).elim
    | succ n ih =>
      intro pa po pf ps x1 H locs ls h hl hf
      have hf : fX1_findFault_7_b (fX1_findFault_7 n) ch pl pa po pf ps x1 = some (rv, pa', po', pf', ps') := hf
      unfold fX1_findFault_7_b at hf
      refine lv_iload_n hx hb dX1_findFault_7 rfl (lv_at hl 1 rfl) ?_
      refine lv_bipush (v := 80) hx hb dX1_findFault_8 (by decide) ?_
      refine lv_icmp_ge (tgt := 43) hx hb dX1_findFault_10 (by decide) (fun hc => ?_) (fun hc => ?_)
      · replace hf := it_t hf hc
        refine lv_aload_n hx hb dX1_findFault_43 rfl (lv_at hl 0 rfl) ?_
        refine r_get C h 0 2 (ci := 1) (N := 6) (Cn := RX1) (T := TX1) rfl rfl (by decide) in_X1_findFault_X1 lk_X1_findFault_21 rfl dX1_findFault_44 ?_
        refine lv_aload_n hx hb dX1_findFault_47 rfl (lv_at hl 0 rfl) ?_
        refine r_get C h 0 1 (ci := 1) (N := 6) (Cn := RX1) (T := TX1) rfl rfl (by decide) in_X1_findFault_X1 lk_X1_findFault_15 rfl dX1_findFault_48 ?_
        refine lv_icmp_ne (tgt := 59) hx hb dX1_findFault_51 (by decide) (fun hc => ?_) (fun hc => ?_)
        · replace hf := it_f hf hc
          refine lv_aload_n hx hb dX1_findFault_59 rfl (lv_at hl 0 rfl) ?_
          refine r_get C h 0 2 (ci := 1) (N := 6) (Cn := RX1) (T := TX1) rfl rfl (by decide) in_X1_findFault_X1 lk_X1_findFault_21 rfl dX1_findFault_60 ?_
          cases hf
          exact r_iret C h hr hlocks dX1_findFault_63
        · replace hf := it_t hf hc
          refine lv_bipush (v := (-6)) hx hb dX1_findFault_54 (by decide) ?_
          refine lv_goto (tgt := 63) hx hb dX1_findFault_56 (by decide) ?_
          cases hf
          exact r_iret C h hr hlocks dX1_findFault_63
      · replace hf := it_f hf hc
        refine lv_aload_n hx hb dX1_findFault_13 rfl (lv_at hl 0 rfl) ?_
        obtain ⟨r_1, pa_2, po_3, pf_4, ps_5, hq_6, hf⟩ := ob5_use hf
        refine r_callV C h (cw_X1_findFault_X1_readOrder_24 C.hts) (rest := []) (ci := 1) (N := 6) (Cn := RX1) (T := TX1) (c_X1_readOrder l G cI cC cZ X p0 p1 ch pl pa po pf ps r_1 pa_2 po_3 pf_4 ps_5 hq_6) [0, 1] rfl rfl rfl rfl 0 rfl rfl hl.1 rfl (Nat.le_of_ble_eq_true rfl) ⟨Nat.le_of_ble_eq_true rfl, Nat.le_of_ble_eq_true rfl⟩ (wPd cC p0 p1 ch pl pa_2 po_3 pf_4 ps_5) rfl rfl dX1_findFault_14 (fun H locs h => ?_)
        refine lv_if_ne (tgt := 25) hx hb dX1_findFault_17 (by decide) (fun hc => ?_) (fun hc => ?_)
        · replace hf := it_f hf hc
          refine lv_aload_n hx hb dX1_findFault_25 rfl (lv_at hl 0 rfl) ?_
          refine lv_bipush (v := 59) hx hb dX1_findFault_26 (by decide) ?_
          obtain ⟨r_7, pa_8, hq_9, hf⟩ := ob2_use hf
          refine r_callV C h (cw_X1_findFault_X1_readSign_28 C.hts) (rest := []) (ci := 1) (N := 6) (Cn := RX1) (T := TX1) (c_X1_readSign l G cI cC cZ X p0 p1 ch pl pa_2 po_3 pf_4 ps_5 (59 : Int32) r_7 pa_8 hq_9) [0, 1] rfl rfl rfl rfl 0 rfl rfl hl.1 rfl (Nat.le_of_ble_eq_true rfl) ⟨Nat.le_of_ble_eq_true rfl, Nat.le_of_ble_eq_true rfl⟩ (wPd cC p0 p1 ch pl pa_8 po_3 pf_4 ps_5) rfl rfl dX1_findFault_28 (fun H locs h => ?_)
          refine lv_if_ne (tgt := 37) hx hb dX1_findFault_31 (by decide) (fun hc => ?_) (fun hc => ?_)
          · replace hf := it_f hf hc
            obtain ⟨x1_10, ex1_10⟩ : ∃ y : Int32, y = x1 + 1 := ⟨_, rfl⟩
            replace hf := nm_use hf ex1_10
            refine lv_iinc (v := x1_10) (lv' := [(1, .int x1_10), (0, .ref p0)]) hx hb dX1_findFault_37 hl (k := 1) rfl (by rw [ex1_10]; rfl) (by decide) rfl (fun ls hl => ?_)
            refine lv_goto (tgt := 7) hx hb dX1_findFault_40 (by decide) ?_
            exact ih pa_8 po_3 pf_4 ps_5 x1_10 _ _ _ h (lv_sub hl [1, 0] rfl) hf
          · replace hf := it_t hf hc
            refine lv_goto (tgt := 43) hx hb dX1_findFault_34 (by decide) ?_
            refine lv_aload_n hx hb dX1_findFault_43 rfl (lv_at hl 0 rfl) ?_
            refine r_get C h 0 2 (ci := 1) (N := 6) (Cn := RX1) (T := TX1) rfl rfl (by decide) in_X1_findFault_X1 lk_X1_findFault_21 rfl dX1_findFault_44 ?_
            refine lv_aload_n hx hb dX1_findFault_47 rfl (lv_at hl 0 rfl) ?_
            refine r_get C h 0 1 (ci := 1) (N := 6) (Cn := RX1) (T := TX1) rfl rfl (by decide) in_X1_findFault_X1 lk_X1_findFault_15 rfl dX1_findFault_48 ?_
            refine lv_icmp_ne (tgt := 59) hx hb dX1_findFault_51 (by decide) (fun hc => ?_) (fun hc => ?_)
            · replace hf := it_f hf hc
              refine lv_aload_n hx hb dX1_findFault_59 rfl (lv_at hl 0 rfl) ?_
              refine r_get C h 0 2 (ci := 1) (N := 6) (Cn := RX1) (T := TX1) rfl rfl (by decide) in_X1_findFault_X1 lk_X1_findFault_21 rfl dX1_findFault_60 ?_
              cases hf
              exact r_iret C h hr hlocks dX1_findFault_63
            · replace hf := it_t hf hc
              refine lv_bipush (v := (-6)) hx hb dX1_findFault_54 (by decide) ?_
              refine lv_goto (tgt := 63) hx hb dX1_findFault_56 (by decide) ?_
              cases hf
              exact r_iret C h hr hlocks dX1_findFault_63
        · replace hf := it_t hf hc
          refine lv_aload_n hx hb dX1_findFault_20 rfl (lv_at hl 0 rfl) ?_
          refine r_get C h 0 2 (ci := 1) (N := 6) (Cn := RX1) (T := TX1) rfl rfl (by decide) in_X1_findFault_X1 lk_X1_findFault_21 rfl dX1_findFault_21 ?_
          cases hf
          exact r_iret C h hr hlocks dX1_findFault_24
  unfold fX1_findFault at hf
  refine lv_aload_n hx hb dX1_findFault_0 rfl (lv_at hl 0 rfl) ?_
  refine lv_iconst (v := 0) hx hb dX1_findFault_1 (by decide) ?_
  refine r_put C h 0 2 (ci := 1) (N := 6) (Cn := RX1) (T := TX1) (ty0 := tyX1) rfl rfl (by decide) in_X1_findFault_X1 tyX1_ok nmX1 lk_X1_findFault_21 rfl rfl rfl (Nat.le_of_ble_eq_true rfl) (wPd cC p0 p1 ch pl 0 po pf ps) rfl dX1_findFault_2 (fun H locs h => ?_)
  refine lv_iconst (v := 0) hx hb dX1_findFault_5 (by decide) ?_
  refine lv_istore_n (lv' := [(1, .int 0), (0, .ref p0)]) hx hb dX1_findFault_6 rfl hl (by decide) rfl (fun ls hl => ?_)
  exact cut_7 KF 0 po pf ps 0 _ _ _ h (lv_sub hl [1, 0] rfl) hf
