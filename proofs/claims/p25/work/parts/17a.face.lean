/-- the mirror of X0_keepIfDone -/
def fX0_keepIfDone (ho : Int32) (hs : Int32) (x1 : Int32) : Option (Int32 × Int32 × Int32) :=
  (if x1 < 0 then
  some (x1, ho, hs)
  else
  (if 6 ≤ hs then
  nm (((ho + 1) - (ho + 1) / 7 * 7)) fun ho_1 =>
  some (x1, ho_1, hs)
  else
  nm ((hs + 1)) fun hs_2 =>
  some (x1, ho, hs_2)))

/-- the mirror of X4_waiting -/
def fX4_waiting (nu : Nat → Int32) (qu : Nat → Int32) (x1 : Int32) (x2 : Int32) : Option (Int32) :=
  (if x1 < 0 then
  some ((-1))
  else
  (if x1 < (nu 2) then
  ob1 (fX4_isWithin x2 (0 : Int32) (3 : Int32)) fun r_1 =>
  (if r_1 = 0 then
  some ((-2))
  else
  ob1 (fX3_read 4 68 qu x1 x2) fun r_3 =>
  some (r_3))
  else
  some ((-1))))

/-- the mirror of X4_row -/
def fX4_row (nu : Nat → Int32) (sc : Nat → Int32) (x1 : Int32) (x2 : Int32) : Option (Int32) :=
  (if x1 < 0 then
  some ((-1))
  else
  ob1 (fX2_rowsOfScreen nu) fun r_1 =>
  (if x1 < r_1 then
  ob1 (fX4_isWithin x2 (0 : Int32) (2 : Int32)) fun r_3 =>
  (if r_3 = 0 then
  some ((-2))
  else
  ob1 (fX3_read 3 96 sc x1 x2) fun r_5 =>
  some (r_5))
  else
  some ((-1))))

/-- the mirror of X4_ofMissing -/
def fX4_ofMissing (nu : Nat → Int32) (lo : Nat → Int32) (x1 : Int32) (x2 : Int32) : Option (Int32) :=
  (if x1 < 0 then
  some ((-1))
  else
  (if x1 < (if (nu 4) < 8 then (nu 4) else 8) then
  ob1 (fX4_isWithin x2 (0 : Int32) (3 : Int32)) fun r_1 =>
  (if r_1 = 0 then
  some ((-2))
  else
  ob1 (fX3_read 4 32 lo ((((nu 4) - 1) - x1) - (((nu 4) - 1) - x1) / 8 * 8) x2) fun r_3 =>
  some (r_3))
  else
  some ((-1))))

def fX4_shown_10_b (rec : (Nat → Int32) → (Nat → Int32) → Int32 → Int32 → Option (Int32)) (nu : Nat → Int32) (sc : Nat → Int32) (x1 : Int32) (x2 : Int32) : Option (Int32) :=
  (if x1 ≤ x2 then
  some (x2)
  else
  ob1 (fX3_read 3 96 sc x2 (1 : Int32)) fun r_1 =>
  (if r_1 = (-6) then
  some (x2)
  else
  nm (x2 + 1) fun x2_3 =>
  rec nu sc x1 x2_3))
def fX4_shown_10 : Nat → (Nat → Int32) → (Nat → Int32) → Int32 → Int32 → Option (Int32)
  | 0 => fun _ _ _ _ => none
  | n + 1 => fX4_shown_10_b (fX4_shown_10 n)

/-- the mirror of X4_shown -/
def fX4_shown (nu : Nat → Int32) (sc : Nat → Int32) : Option (Int32) :=
  ob1 (fX2_rowsOfScreen nu) fun r_1 =>
  fX4_shown_10 KF nu sc r_1 0

/-- the mirror of X4_count -/
def fX4_count (nu : Nat → Int32) (pl : Int32) (hs : Int32) (x1 : Int32) : Option (Int32) :=
  (if x1 = 24 then
  some (pl)
  else
  (if x1 = 25 then
  some (hs)
  else
  ob1 (fX4_isWithin x1 (0 : Int32) (23 : Int32)) fun r_1 =>
  (if r_1 = 0 then
  some ((-2))
  else
  chk x1 24 fun j_3 =>
  some ((nu j_3)))))

def rm_X0_keepIfDone : Room := { frames := 0, cells := 0, slots := 0, locals := 0 }
set_option maxRecDepth 20000 in
theorem lk_X0_keepIfDone_21 : Cond.fieldLink RX0 21 "LineDoubler$History" "size" "I" ∈ wsX0_keepIfDone := List.mem_of_getElem? (i := 1) (by decide +kernel)
set_option maxRecDepth 20000 in
theorem lk_X0_keepIfDone_17 : Cond.fieldLink RX0 17 "LineDoubler$History" "oldest" "I" ∈ wsX0_keepIfDone := List.mem_of_getElem? (i := 2) (by decide +kernel)
set_option maxRecDepth 20000 in
theorem in_X0_keepIfDone_X0 : ∀ x ∈ wsX00, x ∈ wsX0_keepIfDone := mem_r _ [3, 4, 5] (by decide +kernel)
set_option maxHeartbeats 4000000 in
set_option maxRecDepth 100000 in
theorem c_X0_keepIfDone (l : Launch) (G : va_G) (cI cC cZ : ClassId) (X : List (ClassId × FieldType)) (h0 h1 : Nat) (ho : Int32) (hs : Int32) (x1 : Int32) (rv : Int32) (ho' : Int32) (hs' : Int32) (hf : fX0_keepIfDone ho hs x1 = some (rv, ho', hs')) : CT l yX0_keepIfDone wsX0_keepIfDone rm_X0_keepIfDone G (TY cI cC cZ X) [.ref h0, .int x1] (wHi h0 h1 ho hs) (some (.int rv)) (wHi h0 h1 ho' hs') := by
  refine CT.of (cc := cX0_keepIfDone) (maxL := 2) (ret := (some .int)) RX0 rfl (by decide) rfl (Nat.le_of_ble_eq_true rfl) ?_
  intro p e s m args below meth c A ls C hr hlocks hnm h hl
  have hx := C.hx
  have hb := C.hb
  have hl : lv_has ls 2 [(0, .ref h0), (1, .int x1)] := hl
  unfold fX0_keepIfDone at hf
  refine lv_iload_n hx hb dX0_keepIfDone_0 rfl (lv_at hl 1 rfl) ?_
  refine lv_if_lt (tgt := 39) hx hb dX0_keepIfDone_1 (by decide) (fun hc => ?_) (fun hc => ?_)
  · replace hf := it_t hf hc
    refine lv_iload_n hx hb dX0_keepIfDone_39 rfl (lv_at hl 1 rfl) ?_
    cases hf
    exact r_iret C h hr hlocks dX0_keepIfDone_40
  · replace hf := it_f hf hc
    refine lv_aload_n hx hb dX0_keepIfDone_4 rfl (lv_at hl 0 rfl) ?_
    refine r_get C h 0 2 (ci := 0) (N := 3) (Cn := RX0) (T := TX0) rfl rfl (by decide) in_X0_keepIfDone_X0 lk_X0_keepIfDone_21 rfl dX0_keepIfDone_5 ?_
    refine lv_bipush (v := 6) hx hb dX0_keepIfDone_8 (by decide) ?_
    refine lv_icmp_ge (tgt := 26) hx hb dX0_keepIfDone_10 (by decide) (fun hc => ?_) (fun hc => ?_)
    · replace hf := it_t hf hc
      refine lv_aload_n hx hb dX0_keepIfDone_26 rfl (lv_at hl 0 rfl) ?_
      refine lv_aload_n hx hb dX0_keepIfDone_27 rfl (lv_at hl 0 rfl) ?_
      refine r_get C h 0 1 (ci := 0) (N := 3) (Cn := RX0) (T := TX0) rfl rfl (by decide) in_X0_keepIfDone_X0 lk_X0_keepIfDone_17 rfl dX0_keepIfDone_28 ?_
      refine lv_iconst (v := 1) hx hb dX0_keepIfDone_31 (by decide) ?_
      refine lv_iadd hx hb dX0_keepIfDone_32 ?_
      refine lv_bipush (v := 7) hx hb dX0_keepIfDone_33 (by decide) ?_
      refine lv_irem hx hb dX0_keepIfDone_35 (by decide) ?_
      refine lv_topi (fun ho_1 eho_1 => ?_)
      replace hf := nm_use hf eho_1
      refine r_put C h 0 1 (ci := 0) (N := 3) (Cn := RX0) (T := TX0) (ty0 := tyX0) rfl rfl (by decide) in_X0_keepIfDone_X0 tyX0_ok nmX0 lk_X0_keepIfDone_17 rfl rfl rfl (Nat.le_of_ble_eq_true rfl) (wHi h0 h1 ho_1 hs) rfl dX0_keepIfDone_36 (fun H locs h => ?_)
      refine lv_iload_n hx hb dX0_keepIfDone_39 rfl (lv_at hl 1 rfl) ?_
      cases hf
      exact r_iret C h hr hlocks dX0_keepIfDone_40
    · replace hf := it_f hf hc
      refine lv_aload_n hx hb dX0_keepIfDone_13 rfl (lv_at hl 0 rfl) ?_
      refine lv_dup hx hb dX0_keepIfDone_14 rfl ?_
      refine r_get C h 0 2 (ci := 0) (N := 3) (Cn := RX0) (T := TX0) rfl rfl (by decide) in_X0_keepIfDone_X0 lk_X0_keepIfDone_21 rfl dX0_keepIfDone_15 ?_
      refine lv_iconst (v := 1) hx hb dX0_keepIfDone_18 (by decide) ?_
      refine lv_iadd hx hb dX0_keepIfDone_19 ?_
      refine lv_topi (fun hs_2 ehs_2 => ?_)
      replace hf := nm_use hf ehs_2
      refine r_put C h 0 2 (ci := 0) (N := 3) (Cn := RX0) (T := TX0) (ty0 := tyX0) rfl rfl (by decide) in_X0_keepIfDone_X0 tyX0_ok nmX0 lk_X0_keepIfDone_21 rfl rfl rfl (Nat.le_of_ble_eq_true rfl) (wHi h0 h1 ho hs_2) rfl dX0_keepIfDone_20 (fun H locs h => ?_)
      refine lv_goto (tgt := 39) hx hb dX0_keepIfDone_23 (by decide) ?_
      refine lv_iload_n hx hb dX0_keepIfDone_39 rfl (lv_at hl 1 rfl) ?_
      cases hf
      exact r_iret C h hr hlocks dX0_keepIfDone_40
def rm_X4_waiting : Room := { frames := 1, cells := 0, slots := 0, locals := 23 }
set_option maxRecDepth 20000 in
theorem lk_X4_waiting_10 : Cond.fieldLink RX4 10 "LineDoubler" "state" "LLineDoubler$State;" ∈ wsX4_waiting := List.mem_of_getElem? (i := 1) (by decide +kernel)
set_option maxRecDepth 20000 in
theorem in_X4_waiting_X4 : ∀ x ∈ wsX40, x ∈ wsX4_waiting := mem_r _ [13, 14, 15, 16, 17] (by decide +kernel)
set_option maxRecDepth 20000 in
theorem in_X4_waiting_X2 : ∀ x ∈ wsX20, x ∈ wsX4_waiting := mem_r _ [18, 19, 20, 21, 22, 23] (by decide +kernel)
set_option maxRecDepth 20000 in
theorem cw_X4_waiting_X4_isWithin_67 {s : State} {args : Array Value} (hts : ∀ w ∈ wsX4_waiting, w.before args s = true) : CallB rm_X4_waiting s args RX4 67 yX4_isWithin cX4_isWithin 3 (some .boolean) wsX4_isWithin rm_X4_isWithin 0 0 3 ∧ (Cond.static yX4_isWithin).before args s = true :=
  va_cwS 3 hts gX4_waiting_X4_isWithin rfl rfl rfl (by decide +kernel) ⟨Nat.le_of_ble_eq_true rfl, Nat.le_of_ble_eq_true rfl⟩
set_option maxRecDepth 20000 in
theorem cw_X4_waiting_X3_read_75 {s : State} {args : Array Value} (hts : ∀ w ∈ wsX4_waiting, w.before args s = true) : CallW rm_X4_waiting s args RX4 RX3 75 yX3_read cX3_read 4 (some .int) wsX3_read rm_X3_read 0 0 2 :=
  cwV 2 hts gX4_waiting_X3_read rfl rfl rfl (by decide +kernel) ⟨Nat.le_of_ble_eq_true rfl, Nat.le_of_ble_eq_true rfl⟩
set_option maxHeartbeats 4000000 in
set_option maxRecDepth 100000 in
theorem c_X4_waiting (l : Launch) (G : va_G) (cI cC cZ : ClassId) (X : List (ClassId × FieldType)) (d0 b0 sl h0 p0 a0 a1 a2 a3 a4 a5 a6 a7 a8 : Nat) (nu : Nat → Int32) (va : Nat → Int32) (qu : Nat → Int32) (sc : Nat → Int32) (lo : Nat → Int32) (wt : Int32) (x1 : Int32) (x2 : Int32) (rv : Int32) (hf : fX4_waiting nu qu x1 x2 = some (rv)) : CT l yX4_waiting wsX4_waiting rm_X4_waiting G (TY cI cC cZ X) [.ref d0, .int x1, .int x2] (wLDs cI d0 b0 sl h0 p0 a0 a1 a2 a3 a4 a5 a6 a7 a8 nu va qu sc lo wt) (some (.int rv)) (wLDs cI d0 b0 sl h0 p0 a0 a1 a2 a3 a4 a5 a6 a7 a8 nu va qu sc lo wt) := by
  refine CT.of (cc := cX4_waiting) (maxL := 3) (ret := (some .int)) RX4 rfl (by decide) rfl (Nat.le_of_ble_eq_true rfl) ?_
  intro p e s m args below meth c A ls C hr hlocks hnm h hl
  have hx := C.hx
  have hb := C.hb
  have hl : lv_has ls 3 [(0, .ref d0), (1, .int x1), (2, .int x2)] := hl
  unfold fX4_waiting at hf
  refine lv_iload_n hx hb dX4_waiting_0 rfl (lv_at hl 1 rfl) ?_
  refine lv_if_lt (tgt := 17) hx hb dX4_waiting_1 (by decide) (fun hc => ?_) (fun hc => ?_)
  · replace hf := it_t hf hc
    refine lv_iconst (v := (-1)) hx hb dX4_waiting_17 (by decide) ?_
    cases hf
    exact r_iret C h hr hlocks dX4_waiting_18
  · replace hf := it_f hf hc
    refine lv_iload_n hx hb dX4_waiting_4 rfl (lv_at hl 1 rfl) ?_
    refine lv_aload_n hx hb dX4_waiting_5 rfl (lv_at hl 0 rfl) ?_
    refine r_get C h 0 0 (ci := 4) (N := 5) (Cn := RX4) (T := TX4) rfl rfl (by decide) in_X4_waiting_X4 lk_X4_waiting_10 rfl dX4_waiting_6 ?_
    refine r_getN C h 1 0 (ci := 2) (N := 6) (Cn := RX2) (T := TX2) rfl rfl (by decide) in_X4_waiting_X2 lkN_4_63 rfl dX4_waiting_9 ?_
    refine lv_iconst (v := 2) hx hb dX4_waiting_12 (by decide) ?_
    refine r_ald C h 2 rfl rfl k_2_24 dX4_waiting_13 ?_
    refine lv_icmp_lt (tgt := 19) hx hb dX4_waiting_14 (by decide) (fun hc => ?_) (fun hc => ?_)
    · replace hf := it_t hf hc
      refine lv_iload_n hx hb dX4_waiting_19 rfl (lv_at hl 2 rfl) ?_
      refine lv_iconst (v := 0) hx hb dX4_waiting_20 (by decide) ?_
      refine lv_iconst (v := 3) hx hb dX4_waiting_21 (by decide) ?_
      obtain ⟨r_1, hq_2, hf⟩ := ob1_use hf
      refine r_callS C h (cw_X4_waiting_X4_isWithin_67 C.hts) (rest := []) (c_X4_isWithin l G cI cC cZ X x2 (0 : Int32) (3 : Int32) r_1 hq_2) [] rfl rfl rfl rfl hl.1 rfl (Nat.le_of_ble_eq_true rfl) ⟨Nat.le_of_ble_eq_true rfl, Nat.le_of_ble_eq_true rfl⟩ (wLDs cI d0 b0 sl h0 p0 a0 a1 a2 a3 a4 a5 a6 a7 a8 nu va qu sc lo wt) rfl rfl dX4_waiting_22 (fun H locs h => ?_)
      refine lv_if_eq (tgt := 43) hx hb dX4_waiting_25 (by decide) (fun hc => ?_) (fun hc => ?_)
      · replace hf := it_t hf hc
        refine lv_bipush (v := (-2)) hx hb dX4_waiting_43 (by decide) ?_
        cases hf
        exact r_iret C h hr hlocks dX4_waiting_45
      · replace hf := it_f hf hc
        refine lv_aload_n hx hb dX4_waiting_28 rfl (lv_at hl 0 rfl) ?_
        refine r_get C h 0 0 (ci := 4) (N := 5) (Cn := RX4) (T := TX4) rfl rfl (by decide) in_X4_waiting_X4 lk_X4_waiting_10 rfl dX4_waiting_29 ?_
        refine r_getN C h 1 2 (ci := 2) (N := 6) (Cn := RX2) (T := TX2) rfl rfl (by decide) in_X4_waiting_X2 lkN_4_71 rfl dX4_waiting_32 ?_
        refine lv_iload_n hx hb dX4_waiting_35 rfl (lv_at hl 1 rfl) ?_
        refine lv_iload_n hx hb dX4_waiting_36 rfl (lv_at hl 2 rfl) ?_
        obtain ⟨r_3, hq_4, hf⟩ := ob1_use hf
        refine r_callV C h (cw_X4_waiting_X3_read_75 C.hts) (rest := []) (ci := 3) (N := 2) (Cn := RX3) (T := TX3) (c_X3_read l G cI cC cZ X a3 a4 4 68 qu x1 x2 r_3 hq_4) [4, 5] rfl rfl rfl rfl 4 rfl rfl hl.1 rfl (Nat.le_of_ble_eq_true rfl) ⟨Nat.le_of_ble_eq_true rfl, Nat.le_of_ble_eq_true rfl⟩ (wLDs cI d0 b0 sl h0 p0 a0 a1 a2 a3 a4 a5 a6 a7 a8 nu va qu sc lo wt) rfl rfl dX4_waiting_37 (fun H locs h => ?_)
        refine lv_goto (tgt := 45) hx hb dX4_waiting_40 (by decide) ?_
        cases hf
        exact r_iret C h hr hlocks dX4_waiting_45
    · replace hf := it_f hf hc
      refine lv_iconst (v := (-1)) hx hb dX4_waiting_17 (by decide) ?_
      cases hf
      exact r_iret C h hr hlocks dX4_waiting_18
def rm_X4_row : Room := { frames := 3, cells := 0, slots := 0, locals := 63 }
set_option maxRecDepth 20000 in
theorem lk_X4_row_10 : Cond.fieldLink RX4 10 "LineDoubler" "state" "LLineDoubler$State;" ∈ wsX4_row := List.mem_of_getElem? (i := 1) (by decide +kernel)
set_option maxRecDepth 20000 in
theorem in_X4_row_X4 : ∀ x ∈ wsX40, x ∈ wsX4_row := mem_r _ [23, 24, 25, 26, 27] (by decide +kernel)
set_option maxRecDepth 20000 in
theorem in_X4_row_X2 : ∀ x ∈ wsX20, x ∈ wsX4_row := mem_r _ [28, 29, 30, 31, 32, 33] (by decide +kernel)
set_option maxRecDepth 20000 in
theorem cw_X4_row_X2_rowsOfScreen_80 {s : State} {args : Array Value} (hts : ∀ w ∈ wsX4_row, w.before args s = true) : CallW rm_X4_row s args RX4 RX2 80 yX2_rowsOfScreen cX2_rowsOfScreen 1 (some .int) wsX2_rowsOfScreen rm_X2_rowsOfScreen 0 0 0 :=
  cwV 0 hts gX4_row_X2_rowsOfScreen rfl rfl rfl (by decide +kernel) ⟨Nat.le_of_ble_eq_true rfl, Nat.le_of_ble_eq_true rfl⟩
set_option maxRecDepth 20000 in
theorem cw_X4_row_X4_isWithin_67 {s : State} {args : Array Value} (hts : ∀ w ∈ wsX4_row, w.before args s = true) : CallB rm_X4_row s args RX4 67 yX4_isWithin cX4_isWithin 3 (some .boolean) wsX4_isWithin rm_X4_isWithin 0 0 3 ∧ (Cond.static yX4_isWithin).before args s = true :=
  va_cwS 3 hts gX4_row_X4_isWithin rfl rfl rfl (by decide +kernel) ⟨Nat.le_of_ble_eq_true rfl, Nat.le_of_ble_eq_true rfl⟩
set_option maxRecDepth 20000 in
theorem cw_X4_row_X3_read_75 {s : State} {args : Array Value} (hts : ∀ w ∈ wsX4_row, w.before args s = true) : CallW rm_X4_row s args RX4 RX3 75 yX3_read cX3_read 4 (some .int) wsX3_read rm_X3_read 0 0 2 :=
  cwV 2 hts gX4_row_X3_read rfl rfl rfl (by decide +kernel) ⟨Nat.le_of_ble_eq_true rfl, Nat.le_of_ble_eq_true rfl⟩
set_option maxHeartbeats 4000000 in
set_option maxRecDepth 100000 in
theorem c_X4_row (l : Launch) (G : va_G) (cI cC cZ : ClassId) (X : List (ClassId × FieldType)) (d0 b0 sl h0 p0 a0 a1 a2 a3 a4 a5 a6 a7 a8 : Nat) (nu : Nat → Int32) (va : Nat → Int32) (qu : Nat → Int32) (sc : Nat → Int32) (lo : Nat → Int32) (wt : Int32) (x1 : Int32) (x2 : Int32) (rv : Int32) (hf : fX4_row nu sc x1 x2 = some (rv)) : CT l yX4_row wsX4_row rm_X4_row G (TY cI cC cZ X) [.ref d0, .int x1, .int x2] (wLDs cI d0 b0 sl h0 p0 a0 a1 a2 a3 a4 a5 a6 a7 a8 nu va qu sc lo wt) (some (.int rv)) (wLDs cI d0 b0 sl h0 p0 a0 a1 a2 a3 a4 a5 a6 a7 a8 nu va qu sc lo wt) := by
  refine CT.of (cc := cX4_row) (maxL := 3) (ret := (some .int)) RX4 rfl (by decide) rfl (Nat.le_of_ble_eq_true rfl) ?_
  intro p e s m args below meth c A ls C hr hlocks hnm h hl
  have hx := C.hx
  have hb := C.hb
  have hl : lv_has ls 3 [(0, .ref d0), (1, .int x1), (2, .int x2)] := hl
  unfold fX4_row at hf
  refine lv_iload_n hx hb dX4_row_0 rfl (lv_at hl 1 rfl) ?_
  refine lv_if_lt (tgt := 15) hx hb dX4_row_1 (by decide) (fun hc => ?_) (fun hc => ?_)
  · replace hf := it_t hf hc
    refine lv_iconst (v := (-1)) hx hb dX4_row_15 (by decide) ?_
    cases hf
    exact r_iret C h hr hlocks dX4_row_16
  · replace hf := it_f hf hc
    refine lv_iload_n hx hb dX4_row_4 rfl (lv_at hl 1 rfl) ?_
    refine lv_aload_n hx hb dX4_row_5 rfl (lv_at hl 0 rfl) ?_
    refine r_get C h 0 0 (ci := 4) (N := 5) (Cn := RX4) (T := TX4) rfl rfl (by decide) in_X4_row_X4 lk_X4_row_10 rfl dX4_row_6 ?_
    obtain ⟨r_1, hq_2, hf⟩ := ob1_use hf
    refine r_callV C h (cw_X4_row_X2_rowsOfScreen_80 C.hts) (rest := [.int x1]) (ci := 2) (N := 6) (Cn := RX2) (T := TX2) (c_X2_rowsOfScreen l G cI cC cZ X a0 a1 a2 a3 a4 a5 a6 a7 a8 nu va qu sc lo wt r_1 hq_2) [1, 2, 3, 4, 5, 6, 7, 8, 9] rfl rfl rfl rfl 1 rfl rfl hl.1 rfl (Nat.le_of_ble_eq_true rfl) ⟨Nat.le_of_ble_eq_true rfl, Nat.le_of_ble_eq_true rfl⟩ (wLDs cI d0 b0 sl h0 p0 a0 a1 a2 a3 a4 a5 a6 a7 a8 nu va qu sc lo wt) rfl rfl dX4_row_9 (fun H locs h => ?_)
    refine lv_icmp_lt (tgt := 17) hx hb dX4_row_12 (by decide) (fun hc => ?_) (fun hc => ?_)
    · replace hf := it_t hf hc
      refine lv_iload_n hx hb dX4_row_17 rfl (lv_at hl 2 rfl) ?_
      refine lv_iconst (v := 0) hx hb dX4_row_18 (by decide) ?_
      refine lv_iconst (v := 2) hx hb dX4_row_19 (by decide) ?_
      obtain ⟨r_3, hq_4, hf⟩ := ob1_use hf
      refine r_callS C h (cw_X4_row_X4_isWithin_67 C.hts) (rest := []) (c_X4_isWithin l G cI cC cZ X x2 (0 : Int32) (2 : Int32) r_3 hq_4) [] rfl rfl rfl rfl hl.1 rfl (Nat.le_of_ble_eq_true rfl) ⟨Nat.le_of_ble_eq_true rfl, Nat.le_of_ble_eq_true rfl⟩ (wLDs cI d0 b0 sl h0 p0 a0 a1 a2 a3 a4 a5 a6 a7 a8 nu va qu sc lo wt) rfl rfl dX4_row_20 (fun H locs h => ?_)
      refine lv_if_eq (tgt := 41) hx hb dX4_row_23 (by decide) (fun hc => ?_) (fun hc => ?_)
      · replace hf := it_t hf hc
        refine lv_bipush (v := (-2)) hx hb dX4_row_41 (by decide) ?_
        cases hf
        exact r_iret C h hr hlocks dX4_row_43
      · replace hf := it_f hf hc
        refine lv_aload_n hx hb dX4_row_26 rfl (lv_at hl 0 rfl) ?_
        refine r_get C h 0 0 (ci := 4) (N := 5) (Cn := RX4) (T := TX4) rfl rfl (by decide) in_X4_row_X4 lk_X4_row_10 rfl dX4_row_27 ?_
        refine r_getN C h 1 3 (ci := 2) (N := 6) (Cn := RX2) (T := TX2) rfl rfl (by decide) in_X4_row_X2 lkN_4_83 rfl dX4_row_30 ?_
        refine lv_iload_n hx hb dX4_row_33 rfl (lv_at hl 1 rfl) ?_
        refine lv_iload_n hx hb dX4_row_34 rfl (lv_at hl 2 rfl) ?_
        obtain ⟨r_5, hq_6, hf⟩ := ob1_use hf
        refine r_callV C h (cw_X4_row_X3_read_75 C.hts) (rest := []) (ci := 3) (N := 2) (Cn := RX3) (T := TX3) (c_X3_read l G cI cC cZ X a5 a6 3 96 sc x1 x2 r_5 hq_6) [6, 7] rfl rfl rfl rfl 6 rfl rfl hl.1 rfl (Nat.le_of_ble_eq_true rfl) ⟨Nat.le_of_ble_eq_true rfl, Nat.le_of_ble_eq_true rfl⟩ (wLDs cI d0 b0 sl h0 p0 a0 a1 a2 a3 a4 a5 a6 a7 a8 nu va qu sc lo wt) rfl rfl dX4_row_35 (fun H locs h => ?_)
        refine lv_goto (tgt := 43) hx hb dX4_row_38 (by decide) ?_
        cases hf
        exact r_iret C h hr hlocks dX4_row_43
    · replace hf := it_f hf hc
      refine lv_iconst (v := (-1)) hx hb dX4_row_15 (by decide) ?_
      cases hf
      exact r_iret C h hr hlocks dX4_row_16
def rm_X4_ofMissing : Room := { frames := 1, cells := 0, slots := 0, locals := 23 }
set_option maxRecDepth 20000 in
theorem lk_X4_ofMissing_10 : Cond.fieldLink RX4 10 "LineDoubler" "state" "LLineDoubler$State;" ∈ wsX4_ofMissing := List.mem_of_getElem? (i := 1) (by decide +kernel)
set_option maxRecDepth 20000 in
theorem lm_X4_ofMissing_86 : Cond.methodLink RX4 86 Lib.Math.min.name ∈ wsX4_ofMissing := List.mem_of_getElem? (i := 2) (by decide +kernel)
set_option maxRecDepth 20000 in
theorem ls_X4_ofMissing_min : Cond.static Lib.Math.min.name ∈ wsX4_ofMissing := List.mem_of_getElem? (i := 3) (by decide +kernel)
set_option maxRecDepth 20000 in
theorem li_X4_ofMissing_Math : Cond.initialized "java/lang/Math" ∈ wsX4_ofMissing := List.mem_of_getElem? (i := 4) (by decide +kernel)
set_option maxRecDepth 20000 in
theorem lc_X4_ofMissing_min : Cond.code Lib.Math.min.name Lib.Math.min.code 2 (some .int) ∈ wsX4_ofMissing := List.mem_of_getElem? (i := 5) (by decide +kernel)
set_option maxRecDepth 20000 in
theorem in_X4_ofMissing_X4 : ∀ x ∈ wsX40, x ∈ wsX4_ofMissing := mem_r _ [17, 18, 19, 20, 21] (by decide +kernel)
set_option maxRecDepth 20000 in
theorem in_X4_ofMissing_X2 : ∀ x ∈ wsX20, x ∈ wsX4_ofMissing := mem_r _ [22, 23, 24, 25, 26, 27] (by decide +kernel)
set_option maxRecDepth 20000 in
theorem cw_X4_ofMissing_X4_isWithin_67 {s : State} {args : Array Value} (hts : ∀ w ∈ wsX4_ofMissing, w.before args s = true) : CallB rm_X4_ofMissing s args RX4 67 yX4_isWithin cX4_isWithin 3 (some .boolean) wsX4_isWithin rm_X4_isWithin 0 0 3 ∧ (Cond.static yX4_isWithin).before args s = true :=
  va_cwS 3 hts gX4_ofMissing_X4_isWithin rfl rfl rfl (by decide +kernel) ⟨Nat.le_of_ble_eq_true rfl, Nat.le_of_ble_eq_true rfl⟩
set_option maxRecDepth 20000 in
theorem cw_X4_ofMissing_X3_read_75 {s : State} {args : Array Value} (hts : ∀ w ∈ wsX4_ofMissing, w.before args s = true) : CallW rm_X4_ofMissing s args RX4 RX3 75 yX3_read cX3_read 4 (some .int) wsX3_read rm_X3_read 0 0 2 :=
  cwV 2 hts gX4_ofMissing_X3_read rfl rfl rfl (by decide +kernel) ⟨Nat.le_of_ble_eq_true rfl, Nat.le_of_ble_eq_true rfl⟩
set_option maxHeartbeats 4000000 in
set_option maxRecDepth 100000 in
theorem c_X4_ofMissing (l : Launch) (G : va_G) (cI cC cZ : ClassId) (X : List (ClassId × FieldType)) (d0 b0 sl h0 p0 a0 a1 a2 a3 a4 a5 a6 a7 a8 : Nat) (nu : Nat → Int32) (va : Nat → Int32) (qu : Nat → Int32) (sc : Nat → Int32) (lo : Nat → Int32) (wt : Int32) (x1 : Int32) (x2 : Int32) (rv : Int32) (hf : fX4_ofMissing nu lo x1 x2 = some (rv)) : CT l yX4_ofMissing wsX4_ofMissing rm_X4_ofMissing G (TY cI cC cZ X) [.ref d0, .int x1, .int x2] (wLDs cI d0 b0 sl h0 p0 a0 a1 a2 a3 a4 a5 a6 a7 a8 nu va qu sc lo wt) (some (.int rv)) (wLDs cI d0 b0 sl h0 p0 a0 a1 a2 a3 a4 a5 a6 a7 a8 nu va qu sc lo wt) := by
  refine CT.of (cc := cX4_ofMissing) (maxL := 3) (ret := (some .int)) RX4 rfl (by decide) rfl (Nat.le_of_ble_eq_true rfl) ?_
  intro p e s m args below meth c A ls C hr hlocks hnm h hl
  have hx := C.hx
  have hb := C.hb
  have hl : lv_has ls 3 [(0, .ref d0), (1, .int x1), (2, .int x2)] := hl
  unfold fX4_ofMissing at hf
  refine lv_iload_n hx hb dX4_ofMissing_0 rfl (lv_at hl 1 rfl) ?_
  refine lv_if_lt (tgt := 22) hx hb dX4_ofMissing_1 (by decide) (fun hc => ?_) (fun hc => ?_)
  · replace hf := it_t hf hc
    refine lv_iconst (v := (-1)) hx hb dX4_ofMissing_22 (by decide) ?_
    cases hf
    exact r_iret C h hr hlocks dX4_ofMissing_23
  · replace hf := it_f hf hc
    refine lv_iload_n hx hb dX4_ofMissing_4 rfl (lv_at hl 1 rfl) ?_
    refine lv_bipush (v := 8) hx hb dX4_ofMissing_5 (by decide) ?_
    refine lv_aload_n hx hb dX4_ofMissing_7 rfl (lv_at hl 0 rfl) ?_
    refine r_get C h 0 0 (ci := 4) (N := 5) (Cn := RX4) (T := TX4) rfl rfl (by decide) in_X4_ofMissing_X4 lk_X4_ofMissing_10 rfl dX4_ofMissing_8 ?_
    refine r_getN C h 1 0 (ci := 2) (N := 6) (Cn := RX2) (T := TX2) rfl rfl (by decide) in_X4_ofMissing_X2 lkN_4_63 rfl dX4_ofMissing_11 ?_
    refine lv_iconst (v := 4) hx hb dX4_ofMissing_14 (by decide) ?_
    refine r_ald C h 2 rfl rfl k_4_24 dX4_ofMissing_15 ?_
    refine r_min C hl.1 lm_X4_ofMissing_86 ls_X4_ofMissing_min li_X4_ofMissing_Math lc_X4_ofMissing_min (Nat.le_of_ble_eq_true rfl) (Nat.le_of_ble_eq_true rfl) (Nat.le_of_ble_eq_true rfl) (Nat.le_of_ble_eq_true rfl) dX4_ofMissing_16 ?_
    refine lv_icmp_lt (tgt := 24) hx hb dX4_ofMissing_19 (by decide) (fun hc => ?_) (fun hc => ?_)
    · replace hf := it_t hf hc
      refine lv_iload_n hx hb dX4_ofMissing_24 rfl (lv_at hl 2 rfl) ?_
      refine lv_iconst (v := 0) hx hb dX4_ofMissing_25 (by decide) ?_
      refine lv_iconst (v := 3) hx hb dX4_ofMissing_26 (by decide) ?_
      obtain ⟨r_1, hq_2, hf⟩ := ob1_use hf
      refine r_callS C h (cw_X4_ofMissing_X4_isWithin_67 C.hts) (rest := []) (c_X4_isWithin l G cI cC cZ X x2 (0 : Int32) (3 : Int32) r_1 hq_2) [] rfl rfl rfl rfl hl.1 rfl (Nat.le_of_ble_eq_true rfl) ⟨Nat.le_of_ble_eq_true rfl, Nat.le_of_ble_eq_true rfl⟩ (wLDs cI d0 b0 sl h0 p0 a0 a1 a2 a3 a4 a5 a6 a7 a8 nu va qu sc lo wt) rfl rfl dX4_ofMissing_27 (fun H locs h => ?_)
      refine lv_if_ne (tgt := 36) hx hb dX4_ofMissing_30 (by decide) (fun hc => ?_) (fun hc => ?_)
      · replace hf := it_f hf hc
        refine lv_aload_n hx hb dX4_ofMissing_36 rfl (lv_at hl 0 rfl) ?_
        refine r_get C h 0 0 (ci := 4) (N := 5) (Cn := RX4) (T := TX4) rfl rfl (by decide) in_X4_ofMissing_X4 lk_X4_ofMissing_10 rfl dX4_ofMissing_37 ?_
        refine r_getN C h 1 4 (ci := 2) (N := 6) (Cn := RX2) (T := TX2) rfl rfl (by decide) in_X4_ofMissing_X2 lkN_4_91 rfl dX4_ofMissing_40 ?_
        refine lv_aload_n hx hb dX4_ofMissing_43 rfl (lv_at hl 0 rfl) ?_
        refine r_get C h 0 0 (ci := 4) (N := 5) (Cn := RX4) (T := TX4) rfl rfl (by decide) in_X4_ofMissing_X4 lk_X4_ofMissing_10 rfl dX4_ofMissing_44 ?_
        refine r_getN C h 1 0 (ci := 2) (N := 6) (Cn := RX2) (T := TX2) rfl rfl (by decide) in_X4_ofMissing_X2 lkN_4_63 rfl dX4_ofMissing_47 ?_
        refine lv_iconst (v := 4) hx hb dX4_ofMissing_50 (by decide) ?_
        refine r_ald C h 2 rfl rfl k_4_24 dX4_ofMissing_51 ?_
        refine lv_iconst (v := 1) hx hb dX4_ofMissing_52 (by decide) ?_
        refine lv_isub hx hb dX4_ofMissing_53 ?_
        refine lv_iload_n hx hb dX4_ofMissing_54 rfl (lv_at hl 1 rfl) ?_
        refine lv_isub hx hb dX4_ofMissing_55 ?_
        refine lv_bipush (v := 8) hx hb dX4_ofMissing_56 (by decide) ?_
        refine lv_irem hx hb dX4_ofMissing_58 (by decide) ?_
        refine lv_iload_n hx hb dX4_ofMissing_59 rfl (lv_at hl 2 rfl) ?_
        obtain ⟨r_3, hq_4, hf⟩ := ob1_use hf
        refine r_callV C h (cw_X4_ofMissing_X3_read_75 C.hts) (rest := []) (ci := 3) (N := 2) (Cn := RX3) (T := TX3) (c_X3_read l G cI cC cZ X a7 a8 4 32 lo ((((nu 4) - 1) - x1) - (((nu 4) - 1) - x1) / 8 * 8) x2 r_3 hq_4) [8, 9] rfl rfl rfl rfl 8 rfl rfl hl.1 rfl (Nat.le_of_ble_eq_true rfl) ⟨Nat.le_of_ble_eq_true rfl, Nat.le_of_ble_eq_true rfl⟩ (wLDs cI d0 b0 sl h0 p0 a0 a1 a2 a3 a4 a5 a6 a7 a8 nu va qu sc lo wt) rfl rfl dX4_ofMissing_60 (fun H locs h => ?_)
        cases hf
        exact r_iret C h hr hlocks dX4_ofMissing_63
      · replace hf := it_t hf hc
        refine lv_bipush (v := (-2)) hx hb dX4_ofMissing_33 (by decide) ?_
        cases hf
        exact r_iret C h hr hlocks dX4_ofMissing_35
    · replace hf := it_f hf hc
      refine lv_iconst (v := (-1)) hx hb dX4_ofMissing_22 (by decide) ?_
      cases hf
      exact r_iret C h hr hlocks dX4_ofMissing_23
def rm_X4_shown : Room := { frames := 3, cells := 0, slots := 0, locals := 63 }
set_option maxRecDepth 20000 in
theorem lk_X4_shown_10 : Cond.fieldLink RX4 10 "LineDoubler" "state" "LLineDoubler$State;" ∈ wsX4_shown := List.mem_of_getElem? (i := 1) (by decide +kernel)
set_option maxRecDepth 20000 in
theorem in_X4_shown_X4 : ∀ x ∈ wsX40, x ∈ wsX4_shown := mem_r _ [22, 23, 24, 25, 26] (by decide +kernel)
set_option maxRecDepth 20000 in
theorem in_X4_shown_X2 : ∀ x ∈ wsX20, x ∈ wsX4_shown := mem_r _ [27, 28, 29, 30, 31, 32] (by decide +kernel)
set_option maxRecDepth 20000 in
theorem cw_X4_shown_X2_rowsOfScreen_80 {s : State} {args : Array Value} (hts : ∀ w ∈ wsX4_shown, w.before args s = true) : CallW rm_X4_shown s args RX4 RX2 80 yX2_rowsOfScreen cX2_rowsOfScreen 1 (some .int) wsX2_rowsOfScreen rm_X2_rowsOfScreen 0 0 0 :=
  cwV 0 hts gX4_shown_X2_rowsOfScreen rfl rfl rfl (by decide +kernel) ⟨Nat.le_of_ble_eq_true rfl, Nat.le_of_ble_eq_true rfl⟩
set_option maxRecDepth 20000 in
theorem cw_X4_shown_X3_read_75 {s : State} {args : Array Value} (hts : ∀ w ∈ wsX4_shown, w.before args s = true) : CallW rm_X4_shown s args RX4 RX3 75 yX3_read cX3_read 4 (some .int) wsX3_read rm_X3_read 0 0 2 :=
  cwV 2 hts gX4_shown_X3_read rfl rfl rfl (by decide +kernel) ⟨Nat.le_of_ble_eq_true rfl, Nat.le_of_ble_eq_true rfl⟩
set_option maxHeartbeats 4000000 in
set_option maxRecDepth 100000 in
theorem c_X4_shown (l : Launch) (G : va_G) (cI cC cZ : ClassId) (X : List (ClassId × FieldType)) (d0 b0 sl h0 p0 a0 a1 a2 a3 a4 a5 a6 a7 a8 : Nat) (nu : Nat → Int32) (va : Nat → Int32) (qu : Nat → Int32) (sc : Nat → Int32) (lo : Nat → Int32) (wt : Int32) (rv : Int32) (hf : fX4_shown nu sc = some (rv)) : CT l yX4_shown wsX4_shown rm_X4_shown G (TY cI cC cZ X) [.ref d0] (wLDs cI d0 b0 sl h0 p0 a0 a1 a2 a3 a4 a5 a6 a7 a8 nu va qu sc lo wt) (some (.int rv)) (wLDs cI d0 b0 sl h0 p0 a0 a1 a2 a3 a4 a5 a6 a7 a8 nu va qu sc lo wt) := by
  refine CT.of (cc := cX4_shown) (maxL := 3) (ret := (some .int)) RX4 rfl (by decide) rfl (Nat.le_of_ble_eq_true rfl) ?_
  intro p e s m args below meth c A ls C hr hlocks hnm h hl
  have hx := C.hx
  have hb := C.hb
  have hl : lv_has ls 3 [(0, .ref d0)] := hl
  have cut_10 : ∀ (n : Nat) (x1 : Int32) (x2 : Int32) (H : Heap) (locs : List Loc) (ls : Array Slot), Hx s G A (wLDs cI d0 b0 sl h0 p0 a0 a1 a2 a3 a4 a5 a6 a7 a8 nu va qu sc lo wt) H locs → lv_has ls 3 [(0, .ref d0), (1, .int x1), (2, .int x2)] → fX4_shown_10 n nu sc x1 x2 = some (rv) → W p l e rm_X4_shown s m args below meth c H locs 0 0 (MQ below (Qx G (some (.int rv)) (wLDs cI d0 b0 sl h0 p0 a0 a1 a2 a3 a4 a5 a6 a7 a8 nu va qu sc lo wt) A) args s 0 0 A) (F0 m 10 ls []) := by
    intro n
    induction n with
    | zero =>
      intro x1 x2 H locs ls h hl hf
      exact (nn_some _ hf).elim
    | succ n ih =>
      intro x1 x2 H locs ls h hl hf
      have hf : fX4_shown_10_b (fX4_shown_10 n) nu sc x1 x2 = some (rv) := hf
      unfold fX4_shown_10_b at hf
      refine lv_iload_n hx hb dX4_shown_10 rfl (lv_at hl 2 rfl) ?_
      refine lv_iload_n hx hb dX4_shown_11 rfl (lv_at hl 1 rfl) ?_
      refine lv_icmp_ge (tgt := 38) hx hb dX4_shown_12 (by decide) (fun hc => ?_) (fun hc => ?_)
      · replace hf := it_t hf hc
        refine lv_iload_n hx hb dX4_shown_38 rfl (lv_at hl 2 rfl) ?_
        cases hf
        exact r_iret C h hr hlocks dX4_shown_39
      · replace hf := it_f hf hc
        refine lv_aload_n hx hb dX4_shown_15 rfl (lv_at hl 0 rfl) ?_
        refine r_get C h 0 0 (ci := 4) (N := 5) (Cn := RX4) (T := TX4) rfl rfl (by decide) in_X4_shown_X4 lk_X4_shown_10 rfl dX4_shown_16 ?_
        refine r_getN C h 1 3 (ci := 2) (N := 6) (Cn := RX2) (T := TX2) rfl rfl (by decide) in_X4_shown_X2 lkN_4_83 rfl dX4_shown_19 ?_
        refine lv_iload_n hx hb dX4_shown_22 rfl (lv_at hl 2 rfl) ?_
        refine lv_iconst (v := 1) hx hb dX4_shown_23 (by decide) ?_
        obtain ⟨r_1, hq_2, hf⟩ := ob1_use hf
        refine r_callV C h (cw_X4_shown_X3_read_75 C.hts) (rest := []) (ci := 3) (N := 2) (Cn := RX3) (T := TX3) (c_X3_read l G cI cC cZ X a5 a6 3 96 sc x2 (1 : Int32) r_1 hq_2) [6, 7] rfl rfl rfl rfl 6 rfl rfl hl.1 rfl (Nat.le_of_ble_eq_true rfl) ⟨Nat.le_of_ble_eq_true rfl, Nat.le_of_ble_eq_true rfl⟩ (wLDs cI d0 b0 sl h0 p0 a0 a1 a2 a3 a4 a5 a6 a7 a8 nu va qu sc lo wt) rfl rfl dX4_shown_24 (fun H locs h => ?_)
        refine lv_bipush (v := (-6)) hx hb dX4_shown_27 (by decide) ?_
        refine lv_icmp_eq (tgt := 38) hx hb dX4_shown_29 (by decide) (fun hc => ?_) (fun hc => ?_)
        · replace hf := it_t hf hc
          refine lv_iload_n hx hb dX4_shown_38 rfl (lv_at hl 2 rfl) ?_
          cases hf
          exact r_iret C h hr hlocks dX4_shown_39
        · replace hf := it_f hf hc
          obtain ⟨x2_3, ex2_3⟩ : ∃ y : Int32, y = x2 + 1 := ⟨_, rfl⟩
          replace hf := nm_use hf ex2_3
          refine lv_iinc (v := x2_3) (lv' := [(2, .int x2_3), (0, .ref d0), (1, .int x1)]) hx hb dX4_shown_32 hl (k := 2) rfl (by rw [ex2_3]; rfl) (by decide) rfl (fun ls hl => ?_)
          refine lv_goto (tgt := 10) hx hb dX4_shown_35 (by decide) ?_
          exact ih x1 x2_3 _ _ _ h (lv_sub hl [1, 2, 0] rfl) hf
  unfold fX4_shown at hf
  refine lv_aload_n hx hb dX4_shown_0 rfl (lv_at hl 0 rfl) ?_
  refine r_get C h 0 0 (ci := 4) (N := 5) (Cn := RX4) (T := TX4) rfl rfl (by decide) in_X4_shown_X4 lk_X4_shown_10 rfl dX4_shown_1 ?_
  obtain ⟨r_1, hq_2, hf⟩ := ob1_use hf
  refine r_callV C h (cw_X4_shown_X2_rowsOfScreen_80 C.hts) (rest := []) (ci := 2) (N := 6) (Cn := RX2) (T := TX2) (c_X2_rowsOfScreen l G cI cC cZ X a0 a1 a2 a3 a4 a5 a6 a7 a8 nu va qu sc lo wt r_1 hq_2) [1, 2, 3, 4, 5, 6, 7, 8, 9] rfl rfl rfl rfl 1 rfl rfl hl.1 rfl (Nat.le_of_ble_eq_true rfl) ⟨Nat.le_of_ble_eq_true rfl, Nat.le_of_ble_eq_true rfl⟩ (wLDs cI d0 b0 sl h0 p0 a0 a1 a2 a3 a4 a5 a6 a7 a8 nu va qu sc lo wt) rfl rfl dX4_shown_4 (fun H locs h => ?_)
  refine lv_istore_n (lv' := [(1, .int r_1), (0, .ref d0)]) hx hb dX4_shown_7 rfl hl (by decide) rfl (fun ls hl => ?_)
  refine lv_iconst (v := 0) hx hb dX4_shown_8 (by decide) ?_
  refine lv_istore_n (lv' := [(2, .int 0), (1, .int r_1), (0, .ref d0)]) hx hb dX4_shown_9 rfl hl (by decide) rfl (fun ls hl => ?_)
  exact cut_10 KF r_1 0 _ _ _ h (lv_sub hl [2, 1, 0] rfl) hf
def rm_X4_count : Room := { frames := 1, cells := 0, slots := 0, locals := 22 }
set_option maxRecDepth 20000 in
theorem lk_X4_count_10 : Cond.fieldLink RX4 10 "LineDoubler" "state" "LLineDoubler$State;" ∈ wsX4_count := List.mem_of_getElem? (i := 3) (by decide +kernel)
set_option maxRecDepth 20000 in
theorem lk_X4_count_26 : Cond.fieldLink RX4 26 "LineDoubler" "history" "LLineDoubler$History;" ∈ wsX4_count := List.mem_of_getElem? (i := 2) (by decide +kernel)
set_option maxRecDepth 20000 in
theorem lk_X4_count_33 : Cond.fieldLink RX4 33 "LineDoubler" "pad" "LLineDoubler$Pad;" ∈ wsX4_count := List.mem_of_getElem? (i := 1) (by decide +kernel)
set_option maxRecDepth 20000 in
theorem in_X4_count_X4 : ∀ x ∈ wsX40, x ∈ wsX4_count := mem_r _ [8, 9, 10, 11, 12] (by decide +kernel)
set_option maxRecDepth 20000 in
theorem in_X4_count_X2 : ∀ x ∈ wsX20, x ∈ wsX4_count := mem_r _ [22, 23, 24, 25, 26, 27] (by decide +kernel)
set_option maxRecDepth 20000 in
theorem in_X4_count_X0 : ∀ x ∈ wsX00, x ∈ wsX4_count := mem_r _ [19, 20, 21] (by decide +kernel)
set_option maxRecDepth 20000 in
theorem in_X4_count_X1 : ∀ x ∈ wsX10, x ∈ wsX4_count := mem_r _ [13, 14, 15, 16, 17, 18] (by decide +kernel)
set_option maxRecDepth 20000 in
theorem cw_X4_count_X4_isWithin_67 {s : State} {args : Array Value} (hts : ∀ w ∈ wsX4_count, w.before args s = true) : CallB rm_X4_count s args RX4 67 yX4_isWithin cX4_isWithin 3 (some .boolean) wsX4_isWithin rm_X4_isWithin 0 0 3 ∧ (Cond.static yX4_isWithin).before args s = true :=
  va_cwS 3 hts gX4_count_X4_isWithin rfl rfl rfl (by decide +kernel) ⟨Nat.le_of_ble_eq_true rfl, Nat.le_of_ble_eq_true rfl⟩
set_option maxHeartbeats 4000000 in
set_option maxRecDepth 100000 in
theorem c_X4_count (l : Launch) (G : va_G) (cI cC cZ : ClassId) (X : List (ClassId × FieldType)) (d0 b0 sl a0 a1 a2 a3 a4 a5 a6 a7 a8 p0 p1 h0 h1 : Nat) (nu : Nat → Int32) (va : Nat → Int32) (qu : Nat → Int32) (sc : Nat → Int32) (lo : Nat → Int32) (wt : Int32) (ch : Nat → Int32) (pl : Int32) (pa : Int32) (po : Int32) (pf : Int32) (ps : Int32) (ho : Int32) (hs : Int32) (x1 : Int32) (rv : Int32) (hf : fX4_count nu pl hs x1 = some (rv)) : CT l yX4_count wsX4_count rm_X4_count G (TY cI cC cZ X) [.ref d0, .int x1] (wLDc cI cC d0 b0 sl a0 a1 a2 a3 a4 a5 a6 a7 a8 p0 p1 h0 h1 nu va qu sc lo wt ch pl pa po pf ps ho hs) (some (.int rv)) (wLDc cI cC d0 b0 sl a0 a1 a2 a3 a4 a5 a6 a7 a8 p0 p1 h0 h1 nu va qu sc lo wt ch pl pa po pf ps ho hs) := by
  refine CT.of (cc := cX4_count) (maxL := 2) (ret := (some .int)) RX4 rfl (by decide) rfl (Nat.le_of_ble_eq_true rfl) ?_
  intro p e s m args below meth c A ls C hr hlocks hnm h hl
  have hx := C.hx
  have hb := C.hb
  have hl : lv_has ls 2 [(0, .ref d0), (1, .int x1)] := hl
  unfold fX4_count at hf
  refine lv_iload_n hx hb dX4_count_0 rfl (lv_at hl 1 rfl) ?_
  refine lv_bipush (v := 24) hx hb dX4_count_1 (by decide) ?_
  refine lv_icmp_ne (tgt := 14) hx hb dX4_count_3 (by decide) (fun hc => ?_) (fun hc => ?_)
  · replace hf := it_f hf hc
    refine lv_iload_n hx hb dX4_count_14 rfl (lv_at hl 1 rfl) ?_
    refine lv_bipush (v := 25) hx hb dX4_count_15 (by decide) ?_
    refine lv_icmp_ne (tgt := 28) hx hb dX4_count_17 (by decide) (fun hc => ?_) (fun hc => ?_)
    · replace hf := it_f hf hc
      refine lv_iload_n hx hb dX4_count_28 rfl (lv_at hl 1 rfl) ?_
      refine lv_iconst (v := 0) hx hb dX4_count_29 (by decide) ?_
      refine lv_bipush (v := 23) hx hb dX4_count_30 (by decide) ?_
      obtain ⟨r_1, hq_2, hf⟩ := ob1_use hf
      refine r_callS C h (cw_X4_count_X4_isWithin_67 C.hts) (rest := []) (c_X4_isWithin l G cI cC cZ X x1 (0 : Int32) (23 : Int32) r_1 hq_2) [] rfl rfl rfl rfl hl.1 rfl (Nat.le_of_ble_eq_true rfl) ⟨Nat.le_of_ble_eq_true rfl, Nat.le_of_ble_eq_true rfl⟩ (wLDc cI cC d0 b0 sl a0 a1 a2 a3 a4 a5 a6 a7 a8 p0 p1 h0 h1 nu va qu sc lo wt ch pl pa po pf ps ho hs) rfl rfl dX4_count_32 (fun H locs h => ?_)
      refine lv_if_eq (tgt := 50) hx hb dX4_count_35 (by decide) (fun hc => ?_) (fun hc => ?_)
      · replace hf := it_t hf hc
        refine lv_bipush (v := (-2)) hx hb dX4_count_50 (by decide) ?_
        cases hf
        exact r_iret C h hr hlocks dX4_count_52
      · replace hf := it_f hf hc
        refine lv_aload_n hx hb dX4_count_38 rfl (lv_at hl 0 rfl) ?_
        refine r_get C h 0 0 (ci := 4) (N := 5) (Cn := RX4) (T := TX4) rfl rfl (by decide) in_X4_count_X4 lk_X4_count_10 rfl dX4_count_39 ?_
        refine r_getN C h 1 0 (ci := 2) (N := 6) (Cn := RX2) (T := TX2) rfl rfl (by decide) in_X4_count_X2 lkN_4_63 rfl dX4_count_42 ?_
        refine lv_iload_n hx hb dX4_count_45 rfl (lv_at hl 1 rfl) ?_
        obtain ⟨j_3, hj_3, hf⟩ := chk_use hf
        refine r_ald C h 2 rfl rfl hj_3 dX4_count_46 ?_
        refine lv_goto (tgt := 52) hx hb dX4_count_47 (by decide) ?_
        cases hf
        exact r_iret C h hr hlocks dX4_count_52
    · replace hf := it_t hf hc
      refine lv_aload_n hx hb dX4_count_20 rfl (lv_at hl 0 rfl) ?_
      refine r_get C h 0 3 (ci := 4) (N := 5) (Cn := RX4) (T := TX4) rfl rfl (by decide) in_X4_count_X4 lk_X4_count_26 rfl dX4_count_21 ?_
      refine r_getN C h 12 2 (ci := 0) (N := 3) (Cn := RX0) (T := TX0) rfl rfl (by decide) in_X4_count_X0 lkN_4_98 rfl dX4_count_24 ?_
      cases hf
      exact r_iret C h hr hlocks dX4_count_27
  · replace hf := it_t hf hc
    refine lv_aload_n hx hb dX4_count_6 rfl (lv_at hl 0 rfl) ?_
    refine r_get C h 0 4 (ci := 4) (N := 5) (Cn := RX4) (T := TX4) rfl rfl (by decide) in_X4_count_X4 lk_X4_count_33 rfl dX4_count_7 ?_
    refine r_getN C h 10 1 (ci := 1) (N := 6) (Cn := RX1) (T := TX1) rfl rfl (by decide) in_X4_count_X1 lkN_4_94 rfl dX4_count_10 ?_
    cases hf
    exact r_iret C h hr hlocks dX4_count_13
