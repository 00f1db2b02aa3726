/-- the mirror of X0_keepIfDone -/
def fX0_keepIfDone (ho : Int32) (hs : Int32) (x1 : Int32) : Option (Int32 × Int32 × Int32) :=
  (if x1 < 0 then
  some (x1, ho, hs)
  else
  (if 6 ≤ hs then
  nm (((ho + 1) - (ho + 1) / 7 * 7)) fun ho_1 =>
  some (x1, ho_1, hs)
  else
  nm ((hs + 1)) fun hs_2 =>
  some (x1, ho, hs_2)))

def fX4_charactersIn_5_b (rec : Int64 → Int32 → Option (Int32)) (x2 : Int64) (x4 : Int32) : Option (Int32) :=
  (if 8 ≤ x4 then
  (if (lg_cmp x2 0) = 0 then
  some (x4)
  else
  some (0))
  else
  (if (lg_cmp (x2 &&& 255) 0) = 0 then
  (if (lg_cmp x2 0) = 0 then
  some (x4)
  else
  some (0))
  else
  ob1 (fX4_isWithin ((x2 &&& 255).toInt32) (33 : Int32) (126 : Int32)) fun r_1 =>
  (if r_1 = 0 then
  some (0)
  else
  nm ((x2.toUInt64 >>> ((8 : Int32).toInt64.toUInt64 &&& Int64.toUInt64 63)).toInt64) fun x2_3 =>
  nm (x4 + 1) fun x4_4 =>
  rec x2_3 x4_4)))
def fX4_charactersIn_5 : Nat → Int64 → Int32 → Option (Int32)
  | 0 => fun _ _ => none
  | n + 1 => fX4_charactersIn_5_b (fX4_charactersIn_5 n)

/-- the mirror of X4_charactersIn -/
def fX4_charactersIn (x0 : Int64) : Option (Int32) :=
  fX4_charactersIn_5 KF x0 0

/-- the mirror of X4_waiting -/
def fX4_waiting (nu : Nat → Int32) (qu : Nat → Int32) (x1 : Int32) (x2 : Int32) : Option (Int32) :=
  (if x1 < 0 then
  some ((-1))
  else
  (if x1 < (nu 2) then
  ob1 (fX4_isWithin x2 (0 : Int32) (3 : Int32)) fun r_1 =>
  (if r_1 = 0 then
  some ((-2))
  else
  ob1 (fX3_read 4 68 qu x1 x2) fun r_3 =>
  some (r_3))
  else
  some ((-1))))

/-- the mirror of X4_row -/
def fX4_row (nu : Nat → Int32) (sc : Nat → Int32) (x1 : Int32) (x2 : Int32) : Option (Int32) :=
  (if x1 < 0 then
  some ((-1))
  else
  ob1 (fX2_rowsOfScreen nu) fun r_1 =>
  (if x1 < r_1 then
  ob1 (fX4_isWithin x2 (0 : Int32) (2 : Int32)) fun r_3 =>
  (if r_3 = 0 then
  some ((-2))
  else
  ob1 (fX3_read 3 96 sc x1 x2) fun r_5 =>
  some (r_5))
  else
  some ((-1))))

/-- the mirror of X4_ofMissing -/
def fX4_ofMissing (nu : Nat → Int32) (lo : Nat → Int32) (x1 : Int32) (x2 : Int32) : Option (Int32) :=
  (if x1 < 0 then
  some ((-1))
  else
  (if x1 < (if (nu 4) < 8 then (nu 4) else 8) then
  ob1 (fX4_isWithin x2 (0 : Int32) (3 : Int32)) fun r_1 =>
  (if r_1 = 0 then
  some ((-2))
  else
  ob1 (fX3_read 4 32 lo ((((nu 4) - 1) - x1) - (((nu 4) - 1) - x1) / 8 * 8) x2) fun r_3 =>
  some (r_3))
  else
  some ((-1))))

def fX4_shown_10_b (rec : (Nat → Int32) → (Nat → Int32) → Int32 → Int32 → Option (Int32)) (nu : Nat → Int32) (sc : Nat → Int32) (x1 : Int32) (x2 : Int32) : Option (Int32) :=
  (if x1 ≤ x2 then
  some (x2)
  else
  ob1 (fX3_read 3 96 sc x2 (1 : Int32)) fun r_1 =>
  (if r_1 = (-6) then
  some (x2)
  else
  nm (x2 + 1) fun x2_3 =>
  rec nu sc x1 x2_3))
def fX4_shown_10 : Nat → (Nat → Int32) → (Nat → Int32) → Int32 → Int32 → Option (Int32)
  | 0 => fun _ _ _ _ => none
  | n + 1 => fX4_shown_10_b (fX4_shown_10 n)

/-- the mirror of X4_shown -/
def fX4_shown (nu : Nat → Int32) (sc : Nat → Int32) : Option (Int32) :=
  ob1 (fX2_rowsOfScreen nu) fun r_1 =>
  fX4_shown_10 KF nu sc r_1 0

/-- the mirror of X4_count -/
def fX4_count (nu : Nat → Int32) (pl : Int32) (hs : Int32) (x1 : Int32) : Option (Int32) :=
  (if x1 = 24 then
  some (pl)
  else
  (if x1 = 25 then
  some (hs)
  else
  ob1 (fX4_isWithin x1 (0 : Int32) (23 : Int32)) fun r_1 =>
  (if r_1 = 0 then
  some ((-2))
  else
  chk x1 24 fun j_3 =>
  some ((nu j_3)))))

/-- the mirror of X4_gainOf -/
def fX4_gainOf (nu : Nat → Int32) (tnu : Nat → Int32) (x1 : Int32) : Option (Int32) :=
  ob1 (fX4_isWithin x1 (0 : Int32) (23 : Int32)) fun r_1 =>
  (if r_1 = 0 then
  some (0)
  else
  chk x1 24 fun j_3 =>
  chk x1 24 fun j_4 =>
  some (((tnu j_3) - (nu j_4))))

def fX4_tryWith_34 (nu : Nat → Int32) (va : Nat → Int32) (qu : Nat → Int32) (sc : Nat → Int32) (lo : Nat → Int32) (wt : Int32) (tnu : Nat → Int32) (tva : Nat → Int32) (tqu : Nat → Int32) (tsc : Nat → Int32) (tlo : Nat → Int32) (twt : Int32) (x3 : Int32) : Option ((Nat → Int32) × (Nat → Int32) × (Nat → Int32) × (Nat → Int32) × (Nat → Int32) × Int32) :=
  ob6 (fX2_passTicks tnu tva tqu tsc tlo twt x3 (1073741824 : Int32)) fun r_1 tnu_2 tqu_3 tsc_4 tlo_5 twt_6 =>
  some (tnu_2, tva, tqu_3, tsc_4, tlo_5, twt_6)

/-- the mirror of X4_tryWith -/
def fX4_tryWith (nu : Nat → Int32) (va : Nat → Int32) (qu : Nat → Int32) (sc : Nat → Int32) (lo : Nat → Int32) (wt : Int32) (tnu : Nat → Int32) (tva : Nat → Int32) (tqu : Nat → Int32) (tsc : Nat → Int32) (tlo : Nat → Int32) (twt : Int32) (x1 : Int32) (x2 : Int32) (x3 : Int32) : Option ((Nat → Int32) × (Nat → Int32) × (Nat → Int32) × (Nat → Int32) × (Nat → Int32) × Int32) :=
  ob6 (fX2_copyFrom tnu tva tqu tsc tlo twt nu va qu sc lo wt) fun tnu_1 tva_2 tqu_3 tsc_4 tlo_5 twt_6 =>
  ob1 (fX4_isWithin x1 (0 : Int32) (7 : Int32)) fun r_8 =>
  (if r_8 = 0 then
  fX4_tryWith_34 nu va qu sc lo wt tnu_1 tva_2 tqu_3 tsc_4 tlo_5 twt_6 x3
  else
  chk (16 + x1) 24 fun j_10 =>
  nm (upd tnu_1 j_10 x2) fun tnu_11 =>
  fX4_tryWith_34 nu va qu sc lo wt tnu_11 tva_2 tqu_3 tsc_4 tlo_5 twt_6 x3)

/-- the mirror of X4_would -/
def fX4_would (nu : Nat → Int32) (va : Nat → Int32) (qu : Nat → Int32) (sc : Nat → Int32) (lo : Nat → Int32) (wt : Int32) (tnu : Nat → Int32) (tva : Nat → Int32) (tqu : Nat → Int32) (tsc : Nat → Int32) (tlo : Nat → Int32) (twt : Int32) (x1 : Int32) (x2 : Int32) : Option (Int32 × (Nat → Int32) × (Nat → Int32) × (Nat → Int32) × (Nat → Int32) × (Nat → Int32) × Int32) :=
  ob1 (fX4_isWithin x1 (1 : Int32) (999 : Int32)) fun r_1 =>
  (if r_1 = 0 then
  some ((-2), tnu, tva, tqu, tsc, tlo, twt)
  else
  ob1 (fX4_isWithin x2 (0 : Int32) (2 : Int32)) fun r_3 =>
  (if r_3 = 0 then
  some ((-2), tnu, tva, tqu, tsc, tlo, twt)
  else
  ob6 (fX2_copyFrom tnu tva tqu tsc tlo twt nu va qu sc lo wt) fun tnu_5 tva_6 tqu_7 tsc_8 tlo_9 twt_10 =>
  ob6 (fX2_passTicks tnu_5 tva_6 tqu_7 tsc_8 tlo_9 twt_10 x1 (1073741824 : Int32)) fun r_12 tnu_13 tqu_14 tsc_15 tlo_16 twt_17 =>
  (if x2 = 0 then
  ob1 (fX4_gainOf nu tnu_13 (4 : Int32)) fun r_23 =>
  some (r_23, tnu_13, tva_6, tqu_14, tsc_15, tlo_16, twt_17)
  else
  (if x2 = 1 then
  ob1 (fX4_gainOf nu tnu_13 (6 : Int32)) fun r_21 =>
  some (r_21, tnu_13, tva_6, tqu_14, tsc_15, tlo_16, twt_17)
  else
  ob1 (fX4_gainOf nu tnu_13 (12 : Int32)) fun r_19 =>
  some (r_19, tnu_13, tva_6, tqu_14, tsc_15, tlo_16, twt_17)))))

def fX4_leastRoom_28_b (rec : (Nat → Int32) → (Nat → Int32) → (Nat → Int32) → (Nat → Int32) → (Nat → Int32) → Int32 → (Nat → Int32) → (Nat → Int32) → (Nat → Int32) → (Nat → Int32) → (Nat → Int32) → Int32 → Int32 → Int32 → Option (Int32 × (Nat → Int32) × (Nat → Int32) × (Nat → Int32) × (Nat → Int32) × (Nat → Int32) × Int32)) (nu : Nat → Int32) (va : Nat → Int32) (qu : Nat → Int32) (sc : Nat → Int32) (lo : Nat → Int32) (wt : Int32) (tnu : Nat → Int32) (tva : Nat → Int32) (tqu : Nat → Int32) (tsc : Nat → Int32) (tlo : Nat → Int32) (twt : Int32) (x1 : Int32) (x2 : Int32) : Option (Int32 × (Nat → Int32) × (Nat → Int32) × (Nat → Int32) × (Nat → Int32) × (Nat → Int32) × Int32) :=
  (if 16 < x2 then
  some ((-6), tnu, tva, tqu, tsc, tlo, twt)
  else
  ob6 (fX4_tryWith nu va qu sc lo wt tnu tva tqu tsc tlo twt (2 : Int32) x2 x1) fun tnu_1 tva_2 tqu_3 tsc_4 tlo_5 twt_6 =>
  ob1 (fX4_gainOf nu tnu_1 (4 : Int32)) fun r_8 =>
  (if r_8 = 0 then
  some (x2, tnu_1, tva_2, tqu_3, tsc_4, tlo_5, twt_6)
  else
  nm (x2 + 1) fun x2_10 =>
  rec nu va qu sc lo wt tnu_1 tva_2 tqu_3 tsc_4 tlo_5 twt_6 x1 x2_10))
def fX4_leastRoom_28 : Nat → (Nat → Int32) → (Nat → Int32) → (Nat → Int32) → (Nat → Int32) → (Nat → Int32) → Int32 → (Nat → Int32) → (Nat → Int32) → (Nat → Int32) → (Nat → Int32) → (Nat → Int32) → Int32 → Int32 → Int32 → Option (Int32 × (Nat → Int32) × (Nat → Int32) × (Nat → Int32) × (Nat → Int32) × (Nat → Int32) × Int32)
  | 0 => fun _ _ _ _ _ _ _ _ _ _ _ _ _ _ => none
  | n + 1 => fX4_leastRoom_28_b (fX4_leastRoom_28 n)

/-- the mirror of X4_leastRoom -/
def fX4_leastRoom (nu : Nat → Int32) (va : Nat → Int32) (qu : Nat → Int32) (sc : Nat → Int32) (lo : Nat → Int32) (wt : Int32) (tnu : Nat → Int32) (tva : Nat → Int32) (tqu : Nat → Int32) (tsc : Nat → Int32) (tlo : Nat → Int32) (twt : Int32) (x1 : Int32) : Option (Int32 × (Nat → Int32) × (Nat → Int32) × (Nat → Int32) × (Nat → Int32) × (Nat → Int32) × Int32) :=
  ob1 (fX4_isWithin x1 (1 : Int32) (999 : Int32)) fun r_1 =>
  (if r_1 = 0 then
  some ((-2), tnu, tva, tqu, tsc, tlo, twt)
  else
  nm ((if 1 < (nu 2) then (nu 2) else 1)) fun x2_3 =>
  fX4_leastRoom_28 KF nu va qu sc lo wt tnu tva tqu tsc tlo twt x1 x2_3)

def fX4_bestOut_32_b (rec : (Nat → Int32) → (Nat → Int32) → (Nat → Int32) → (Nat → Int32) → (Nat → Int32) → Int32 → (Nat → Int32) → (Nat → Int32) → (Nat → Int32) → (Nat → Int32) → (Nat → Int32) → Int32 → Int32 → Int32 → Int32 → Int32 → Int32 → Option (Int32 × (Nat → Int32) × (Nat → Int32) × (Nat → Int32) × (Nat → Int32) × (Nat → Int32) × Int32)) (nu : Nat → Int32) (va : Nat → Int32) (qu : Nat → Int32) (sc : Nat → Int32) (lo : Nat → Int32) (wt : Int32) (tnu : Nat → Int32) (tva : Nat → Int32) (tqu : Nat → Int32) (tsc : Nat → Int32) (tlo : Nat → Int32) (twt : Int32) (x1 : Int32) (x2 : Int32) (x3 : Int32) (x4 : Int32) (x5 : Int32) : Option (Int32 × (Nat → Int32) × (Nat → Int32) × (Nat → Int32) × (Nat → Int32) × (Nat → Int32) × Int32) :=
  (if 99 < x5 then
  (if x2 = 0 then
  some (x3, tnu, tva, tqu, tsc, tlo, twt)
  else
  some (x4, tnu, tva, tqu, tsc, tlo, twt))
  else
  ob6 (fX4_tryWith nu va qu sc lo wt tnu tva tqu tsc tlo twt (1 : Int32) x5 x1) fun tnu_1 tva_2 tqu_3 tsc_4 tlo_5 twt_6 =>
  ob1 (fX4_gainOf nu tnu_1 (4 : Int32)) fun r_8 =>
  ob1 (fX4_gainOf nu tnu_1 (6 : Int32)) fun r_10 =>
  nm ((r_8 + r_10)) fun x6_12 =>
  (if x4 ≤ x6_12 then
  nm (x5 + 1) fun x5_13 =>
  rec nu va qu sc lo wt tnu_1 tva_2 tqu_3 tsc_4 tlo_5 twt_6 x1 x2 x3 x4 x5_13
  else
  nm (x5 + 1) fun x5_14 =>
  rec nu va qu sc lo wt tnu_1 tva_2 tqu_3 tsc_4 tlo_5 twt_6 x1 x2 x5 x6_12 x5_14))
def fX4_bestOut_32 : Nat → (Nat → Int32) → (Nat → Int32) → (Nat → Int32) → (Nat → Int32) → (Nat → Int32) → Int32 → (Nat → Int32) → (Nat → Int32) → (Nat → Int32) → (Nat → Int32) → (Nat → Int32) → Int32 → Int32 → Int32 → Int32 → Int32 → Int32 → Option (Int32 × (Nat → Int32) × (Nat → Int32) × (Nat → Int32) × (Nat → Int32) × (Nat → Int32) × Int32)
  | 0 => fun _ _ _ _ _ _ _ _ _ _ _ _ _ _ _ _ _ => none
  | n + 1 => fX4_bestOut_32_b (fX4_bestOut_32 n)

/-- the mirror of X4_bestOut -/
def fX4_bestOut (nu : Nat → Int32) (va : Nat → Int32) (qu : Nat → Int32) (sc : Nat → Int32) (lo : Nat → Int32) (wt : Int32) (tnu : Nat → Int32) (tva : Nat → Int32) (tqu : Nat → Int32) (tsc : Nat → Int32) (tlo : Nat → Int32) (twt : Int32) (x1 : Int32) (x2 : Int32) : Option (Int32 × (Nat → Int32) × (Nat → Int32) × (Nat → Int32) × (Nat → Int32) × (Nat → Int32) × Int32) :=
  ob1 (fX4_isWithin x1 (1 : Int32) (999 : Int32)) fun r_1 =>
  (if r_1 = 0 then
  some ((-2), tnu, tva, tqu, tsc, tlo, twt)
  else
  ob1 (fX4_isWithin x2 (0 : Int32) (1 : Int32)) fun r_3 =>
  (if r_3 = 0 then
  some ((-2), tnu, tva, tqu, tsc, tlo, twt)
  else
  fX4_bestOut_32 KF nu va qu sc lo wt tnu tva tqu tsc tlo twt x1 x2 0 1073741824 1))

/-- the mirror of X4_put -/
def fX4_put (ch : Nat → Int32) (pl : Int32) (x1 : Int64) : Option (Int32 × (Nat → Int32) × Int32) :=
  ob1 (fX4_charactersIn x1) fun r_1 =>
  (if r_1 = 0 then
  some ((-2), ch, pl)
  else
  (if (pl + r_1) ≤ 80 then
  ob2 (fX1_append ch pl x1 r_1) fun ch_3 pl_4 =>
  some (pl_4, ch_3, pl_4)
  else
  some ((-4), ch, pl)))

/-- the mirror of X4_wipe -/
def fX4_wipe (pl : Int32) : Option (Int32 × Int32) :=
  some (pl, 0)

/-- the mirror of X4_fault -/
def fX4_fault (ch : Nat → Int32) (pl : Int32) (pa : Int32) (po : Int32) (pf : Int32) (ps : Int32) : Option (Int32 × Int32 × Int32 × Int32 × Int32) :=
  ob5 (fX1_findFault ch pl pa po pf ps) fun r_1 pa_2 po_3 pf_4 ps_5 =>
  some (r_1, pa_2, po_3, pf_4, ps_5)

/-- the mirror of X4_carryOutOrder -/
def fX4_carryOutOrder (nu : Nat → Int32) (va : Nat → Int32) (qu : Nat → Int32) (sc : Nat → Int32) (lo : Nat → Int32) (wt : Int32) (po : Int32) (pf : Int32) (ps : Int32) : Option (Int32 × (Nat → Int32) × (Nat → Int32) × (Nat → Int32) × (Nat → Int32) × (Nat → Int32) × Int32) :=
  (if po = 60 then
  ob2 (fX2_delayClock nu (0 : Int32) pf) fun r_1 nu_2 =>
  some (r_1, nu_2, va, qu, sc, lo, wt)
  else
  (if po = 62 then
  ob2 (fX2_delayClock nu (1 : Int32) pf) fun r_4 nu_5 =>
  some (r_4, nu_5, va, qu, sc, lo, wt)
  else
  (if po = 105 then
  ob2 (fX2_changeSetting nu (0 : Int32) pf) fun r_7 nu_8 =>
  some (r_7, nu_8, va, qu, sc, lo, wt)
  else
  (if po = 111 then
  ob2 (fX2_changeSetting nu (1 : Int32) pf) fun r_10 nu_11 =>
  some (r_10, nu_11, va, qu, sc, lo, wt)
  else
  (if po = 116 then
  ob6 (fX2_passTicks nu va qu sc lo wt pf (99999 : Int32)) fun r_13 nu_14 qu_15 sc_16 lo_17 wt_18 =>
  some (r_13, nu_14, va, qu_15, sc_16, lo_17, wt_18)
  else
  (if po = 118 then
  ob2 (fX2_changeValue va pf ps) fun r_20 va_21 =>
  some (r_20, nu, va_21, qu, sc, lo, wt)
  else
  some ((-3), nu, va, qu, sc, lo, wt)))))))

def rm_X0_keepIfDone : Room := { frames := 0, cells := 0, slots := 0, locals := 0 }
set_option maxRecDepth 20000 in
theorem lk_X0_keepIfDone_21 : Cond.fieldLink RX0 21 "LineDoubler$History" "size" "I" ∈ wsX0_keepIfDone := List.mem_of_getElem? (i := 1) (by decide +kernel)
set_option maxRecDepth 20000 in
theorem lk_X0_keepIfDone_17 : Cond.fieldLink RX0 17 "LineDoubler$History" "oldest" "I" ∈ wsX0_keepIfDone := List.mem_of_getElem? (i := 2) (by decide +kernel)
set_option maxRecDepth 20000 in
theorem in_X0_keepIfDone_X0 : ∀ x ∈ wsX00, x ∈ wsX0_keepIfDone := mem_r _ [3, 4, 5] (by decide +kernel)
set_option maxHeartbeats 4000000 in
set_option maxRecDepth 100000 in
theorem c_X0_keepIfDone (l : Launch) (G : va_G) (cI cC cZ : ClassId) (X : List (ClassId × FieldType)) (h0 h1 : Nat) (ho : Int32) (hs : Int32) (x1 : Int32) (rv : Int32) (ho' : Int32) (hs' : Int32) (hf : fX0_keepIfDone ho hs x1 = some (rv, ho', hs')) : CT l yX0_keepIfDone wsX0_keepIfDone rm_X0_keepIfDone G (TY cI cC cZ X) [.ref h0, .int x1] (wHi h0 h1 ho hs) (some (.int rv)) (wHi h0 h1 ho' hs') := by
  refine CT.of (cc := cX0_keepIfDone) (maxL := 2) (ret := (some .int)) RX0 rfl (by decide) rfl (Nat.le_of_ble_eq_true rfl) ?_
  intro p e s m args below meth c A ls C hr hlocks hnm h hl
  have hx := C.hx
  have hb := C.hb
  have hl : lv_has ls 2 [(0, .ref h0), (1, .int x1)] := hl
  unfold fX0_keepIfDone at hf
  refine lv_iload_n hx hb dX0_keepIfDone_0 rfl (lv_at hl 1 rfl) ?_
  refine lv_if_lt (tgt := 39) hx hb dX0_keepIfDone_1 (by decide) (fun hc => ?_) (fun hc => ?_)
  · replace hf := it_t hf hc
    refine lv_iload_n hx hb dX0_keepIfDone_39 rfl (lv_at hl 1 rfl) ?_
    cases hf
    exact r_iret C h hr hlocks dX0_keepIfDone_40
  · replace hf := it_f hf hc
    refine lv_aload_n hx hb dX0_keepIfDone_4 rfl (lv_at hl 0 rfl) ?_
    refine r_get C h 0 2 (ci := 0) (N := 3) (Cn := RX0) (T := TX0) rfl rfl (by decide) in_X0_keepIfDone_X0 lk_X0_keepIfDone_21 rfl dX0_keepIfDone_5 ?_
    refine lv_bipush (v := 6) hx hb dX0_keepIfDone_8 (by decide) ?_
    refine lv_icmp_ge (tgt := 26) hx hb dX0_keepIfDone_10 (by decide) (fun hc => ?_) (fun hc => ?_)
    · replace hf := it_t hf hc
      refine lv_aload_n hx hb dX0_keepIfDone_26 rfl (lv_at hl 0 rfl) ?_
      refine lv_aload_n hx hb dX0_keepIfDone_27 rfl (lv_at hl 0 rfl) ?_
      refine r_get C h 0 1 (ci := 0) (N := 3) (Cn := RX0) (T := TX0) rfl rfl (by decide) in_X0_keepIfDone_X0 lk_X0_keepIfDone_17 rfl dX0_keepIfDone_28 ?_
      refine lv_iconst (v := 1) hx hb dX0_keepIfDone_31 (by decide) ?_
      refine lv_iadd hx hb dX0_keepIfDone_32 ?_
      refine lv_bipush (v := 7) hx hb dX0_keepIfDone_33 (by decide) ?_
      refine lv_irem hx hb dX0_keepIfDone_35 (by decide) ?_
      refine lv_topi (fun ho_1 eho_1 => ?_)
      replace hf := nm_use hf eho_1
      refine r_put C h 0 1 (ci := 0) (N := 3) (Cn := RX0) (T := TX0) (ty0 := tyX0) rfl rfl (by decide) in_X0_keepIfDone_X0 tyX0_ok nmX0 lk_X0_keepIfDone_17 rfl rfl rfl (Nat.le_of_ble_eq_true rfl) (wHi h0 h1 ho_1 hs) rfl dX0_keepIfDone_36 (fun H locs h => ?_)
      refine lv_iload_n hx hb dX0_keepIfDone_39 rfl (lv_at hl 1 rfl) ?_
      cases hf
      exact r_iret C h hr hlocks dX0_keepIfDone_40
    · replace hf := it_f hf hc
      refine lv_aload_n hx hb dX0_keepIfDone_13 rfl (lv_at hl 0 rfl) ?_
      refine lv_dup hx hb dX0_keepIfDone_14 rfl ?_
      refine r_get C h 0 2 (ci := 0) (N := 3) (Cn := RX0) (T := TX0) rfl rfl (by decide) in_X0_keepIfDone_X0 lk_X0_keepIfDone_21 rfl dX0_keepIfDone_15 ?_
      refine lv_iconst (v := 1) hx hb dX0_keepIfDone_18 (by decide) ?_
      refine lv_iadd hx hb dX0_keepIfDone_19 ?_
      refine lv_topi (fun hs_2 ehs_2 => ?_)
      replace hf := nm_use hf ehs_2
      refine r_put C h 0 2 (ci := 0) (N := 3) (Cn := RX0) (T := TX0) (ty0 := tyX0) rfl rfl (by decide) in_X0_keepIfDone_X0 tyX0_ok nmX0 lk_X0_keepIfDone_21 rfl rfl rfl (Nat.le_of_ble_eq_true rfl) (wHi h0 h1 ho hs_2) rfl dX0_keepIfDone_20 (fun H locs h => ?_)
      refine lv_goto (tgt := 39) hx hb dX0_keepIfDone_23 (by decide) ?_
      refine lv_iload_n hx hb dX0_keepIfDone_39 rfl (lv_at hl 1 rfl) ?_
      cases hf
      exact r_iret C h hr hlocks dX0_keepIfDone_40
def rm_X4_charactersIn : Room := { frames := 1, cells := 0, slots := 0, locals := 22 }
set_option maxRecDepth 20000 in
theorem kc_X4_charactersIn_168 : Cond.constantLong RX4 168 (255) ∈ wsX4_charactersIn := List.mem_of_getElem? (i := 1) (by decide +kernel)
set_option maxRecDepth 20000 in
theorem cw_X4_charactersIn_X4_isWithin_67 {s : State} {args : Array Value} (hts : ∀ w ∈ wsX4_charactersIn, w.before args s = true) : CallB rm_X4_charactersIn s args RX4 67 yX4_isWithin cX4_isWithin 3 (some .boolean) wsX4_isWithin rm_X4_isWithin 0 0 3 ∧ (Cond.static yX4_isWithin).before args s = true :=
  va_cwS 3 hts gX4_charactersIn_X4_isWithin rfl rfl rfl (by decide +kernel) ⟨Nat.le_of_ble_eq_true rfl, Nat.le_of_ble_eq_true rfl⟩
set_option maxHeartbeats 4000000 in
set_option maxRecDepth 100000 in
theorem c_X4_charactersIn (l : Launch) (G : va_G) (cI cC cZ : ClassId) (X : List (ClassId × FieldType)) (x0 : Int64) (rv : Int32) (hf : fX4_charactersIn x0 = some (rv)) : CT l yX4_charactersIn wsX4_charactersIn rm_X4_charactersIn G (TY cI cC cZ X) [.long x0] ([] : va_W) (some (.int rv)) ([] : va_W) := by
  refine CT.of (cc := cX4_charactersIn) (maxL := 5) (ret := (some .int)) RX4 rfl (by decide) rfl (Nat.le_of_ble_eq_true rfl) ?_
  intro p e s m args below meth c A ls C hr hlocks hnm h hl
  have hx := C.hx
  have hb := C.hb
  have hl : lv_has ls 5 [(0, .long x0)] := hl
  have cut_5 : ∀ (n : Nat) (x2 : Int64) (x4 : Int32) (H : Heap) (locs : List Loc) (ls : Array Slot), Hx s G A ([] : va_W) H locs → lv_has ls 5 [(2, .long x2), (4, .int x4)] → fX4_charactersIn_5 n x2 x4 = some (rv) → W p l e rm_X4_charactersIn s m args below meth c H locs 0 0 (MQ below (Qx G (some (.int rv)) ([] : va_W) A) args s 0 0 A) (F0 m 5 ls []) := by
    intro n
    induction n with
    | zero =>
      intro x2 x4 H locs ls h hl hf
      exact (nn_some _ hf).elim
    | succ n ih =>
      intro x2 x4 H locs ls h hl hf
      have hf : fX4_charactersIn_5_b (fX4_charactersIn_5 n) x2 x4 = some (rv) := hf
      unfold fX4_charactersIn_5_b at hf
      refine lv_iload hx hb dX4_charactersIn_5 (lv_at hl 1 rfl) ?_
      refine lv_bipush (v := 8) hx hb dX4_charactersIn_7 (by decide) ?_
      refine lv_icmp_ge (tgt := 51) hx hb dX4_charactersIn_9 (by decide) (fun hc => ?_) (fun hc => ?_)
      · replace hf := it_t hf hc
        refine lv_lload_n hx hb dX4_charactersIn_51 rfl (lv_at hl 0 rfl) ?_
        refine lv_lconst (v := 0) hx hb dX4_charactersIn_52 (by decide) ?_
        refine W.lcmp hx hb dX4_charactersIn_53 ?_
        refine lv_if_ne (tgt := 62) hx hb dX4_charactersIn_54 (by decide) (fun hc => ?_) (fun hc => ?_)
        · replace hf := it_f hf hc
          refine lv_iconst (v := 0) hx hb dX4_charactersIn_62 (by decide) ?_
          cases hf
          exact r_iret C h hr hlocks dX4_charactersIn_63
        · replace hf := it_t hf hc
          refine lv_iload hx hb dX4_charactersIn_57 (lv_at hl 1 rfl) ?_
          refine lv_goto (tgt := 63) hx hb dX4_charactersIn_59 (by decide) ?_
          cases hf
          exact r_iret C h hr hlocks dX4_charactersIn_63
      · replace hf := it_f hf hc
        refine lv_lload_n hx hb dX4_charactersIn_12 rfl (lv_at hl 0 rfl) ?_
        refine lv_ldc2 hx hb C.hown (C.hts _ kc_X4_charactersIn_168) dX4_charactersIn_13 ?_
        refine lv_land hx hb dX4_charactersIn_16 ?_
        refine lv_lconst (v := 0) hx hb dX4_charactersIn_17 (by decide) ?_
        refine W.lcmp hx hb dX4_charactersIn_18 ?_
        refine lv_if_eq (tgt := 51) hx hb dX4_charactersIn_19 (by decide) (fun hc => ?_) (fun hc => ?_)
        · replace hf := it_t hf hc
          refine lv_lload_n hx hb dX4_charactersIn_51 rfl (lv_at hl 0 rfl) ?_
          refine lv_lconst (v := 0) hx hb dX4_charactersIn_52 (by decide) ?_
          refine W.lcmp hx hb dX4_charactersIn_53 ?_
          refine lv_if_ne (tgt := 62) hx hb dX4_charactersIn_54 (by decide) (fun hc => ?_) (fun hc => ?_)
          · replace hf := it_f hf hc
            refine lv_iconst (v := 0) hx hb dX4_charactersIn_62 (by decide) ?_
            cases hf
            exact r_iret C h hr hlocks dX4_charactersIn_63
          · replace hf := it_t hf hc
            refine lv_iload hx hb dX4_charactersIn_57 (lv_at hl 1 rfl) ?_
            refine lv_goto (tgt := 63) hx hb dX4_charactersIn_59 (by decide) ?_
            cases hf
            exact r_iret C h hr hlocks dX4_charactersIn_63
        · replace hf := it_f hf hc
          refine lv_lload_n hx hb dX4_charactersIn_22 rfl (lv_at hl 0 rfl) ?_
          refine lv_ldc2 hx hb C.hown (C.hts _ kc_X4_charactersIn_168) dX4_charactersIn_23 ?_
          refine lv_land hx hb dX4_charactersIn_26 ?_
          refine lv_l2i hx hb dX4_charactersIn_27 rfl ?_
          refine lv_bipush (v := 33) hx hb dX4_charactersIn_28 (by decide) ?_
          refine lv_bipush (v := 126) hx hb dX4_charactersIn_30 (by decide) ?_
          obtain ⟨r_1, hq_2, hf⟩ := ob1_use hf
          refine r_callS C h (cw_X4_charactersIn_X4_isWithin_67 C.hts) (rest := []) (c_X4_isWithin l G cI cC cZ X ((x2 &&& 255).toInt32) (33 : Int32) (126 : Int32) r_1 hq_2) [] rfl rfl rfl rfl hl.1 rfl (Nat.le_of_ble_eq_true rfl) ⟨Nat.le_of_ble_eq_true rfl, Nat.le_of_ble_eq_true rfl⟩ ([] : va_W) rfl rfl dX4_charactersIn_32 (fun H locs h => ?_)
          refine lv_if_ne (tgt := 40) hx hb dX4_charactersIn_35 (by decide) (fun hc => ?_) (fun hc => ?_)
          · replace hf := it_f hf hc
            refine lv_lload_n hx hb dX4_charactersIn_40 rfl (lv_at hl 0 rfl) ?_
            refine lv_bipush (v := 8) hx hb dX4_charactersIn_41 (by decide) ?_
            refine lv_lushr hx hb dX4_charactersIn_43 rfl ?_
            refine lv_topl (fun x2_3 ex2_3 => ?_)
            replace hf := nm_use hf ex2_3
            refine lv_lstore_n (lv' := [(2, .long x2_3), (4, .int x4)]) hx hb dX4_charactersIn_44 rfl hl (by decide) rfl (fun ls hl => ?_)
            obtain ⟨x4_4, ex4_4⟩ : ∃ y : Int32, y = x4 + 1 := ⟨_, rfl⟩
            replace hf := nm_use hf ex4_4
            refine lv_iinc (v := x4_4) (lv' := [(4, .int x4_4), (2, .long x2_3)]) hx hb dX4_charactersIn_45 hl (k := 1) rfl (by rw [ex4_4]; rfl) (by decide) rfl (fun ls hl => ?_)
            refine lv_goto (tgt := 5) hx hb dX4_charactersIn_48 (by decide) ?_
            exact ih x2_3 x4_4 _ _ _ h (lv_sub hl [1, 0] rfl) hf
          · replace hf := it_t hf hc
            refine lv_iconst (v := 0) hx hb dX4_charactersIn_38 (by decide) ?_
            cases hf
            exact r_iret C h hr hlocks dX4_charactersIn_39
  unfold fX4_charactersIn at hf
  refine lv_lload_n hx hb dX4_charactersIn_0 rfl (lv_at hl 0 rfl) ?_
  refine lv_lstore_n (lv' := [(2, .long x0), (0, .long x0)]) hx hb dX4_charactersIn_1 rfl hl (by decide) rfl (fun ls hl => ?_)
  refine lv_iconst (v := 0) hx hb dX4_charactersIn_2 (by decide) ?_
  refine lv_istore (lv' := [(4, .int 0), (2, .long x0), (0, .long x0)]) hx hb dX4_charactersIn_3 hl (by decide) rfl (fun ls hl => ?_)
  exact cut_5 KF x0 0 _ _ _ h (lv_sub hl [1, 0] rfl) hf
def rm_X4_waiting : Room := { frames := 1, cells := 0, slots := 0, locals := 23 }
set_option maxRecDepth 20000 in
theorem lk_X4_waiting_10 : Cond.fieldLink RX4 10 "LineDoubler" "state" "LLineDoubler$State;" ∈ wsX4_waiting := List.mem_of_getElem? (i := 1) (by decide +kernel)
set_option maxRecDepth 20000 in
theorem in_X4_waiting_X4 : ∀ x ∈ wsX40, x ∈ wsX4_waiting := mem_r _ [13, 14, 15, 16, 17] (by decide +kernel)
set_option maxRecDepth 20000 in
theorem in_X4_waiting_X2 : ∀ x ∈ wsX20, x ∈ wsX4_waiting := mem_r _ [18, 19, 20, 21, 22, 23] (by decide +kernel)
set_option maxRecDepth 20000 in
theorem cw_X4_waiting_X4_isWithin_67 {s : State} {args : Array Value} (hts : ∀ w ∈ wsX4_waiting, w.before args s = true) : CallB rm_X4_waiting s args RX4 67 yX4_isWithin cX4_isWithin 3 (some .boolean) wsX4_isWithin rm_X4_isWithin 0 0 3 ∧ (Cond.static yX4_isWithin).before args s = true :=
  va_cwS 3 hts gX4_waiting_X4_isWithin rfl rfl rfl (by decide +kernel) ⟨Nat.le_of_ble_eq_true rfl, Nat.le_of_ble_eq_true rfl⟩
set_option maxRecDepth 20000 in
theorem cw_X4_waiting_X3_read_75 {s : State} {args : Array Value} (hts : ∀ w ∈ wsX4_waiting, w.before args s = true) : CallW rm_X4_waiting s args RX4 RX3 75 yX3_read cX3_read 4 (some .int) wsX3_read rm_X3_read 0 0 2 :=
  cwV 2 hts gX4_waiting_X3_read rfl rfl rfl (by decide +kernel) ⟨Nat.le_of_ble_eq_true rfl, Nat.le_of_ble_eq_true rfl⟩
set_option maxHeartbeats 4000000 in
set_option maxRecDepth 100000 in
theorem c_X4_waiting (l : Launch) (G : va_G) (cI cC cZ : ClassId) (X : List (ClassId × FieldType)) (d0 b0 sl h0 p0 a0 a1 a2 a3 a4 a5 a6 a7 a8 : Nat) (nu : Nat → Int32) (va : Nat → Int32) (qu : Nat → Int32) (sc : Nat → Int32) (lo : Nat → Int32) (wt : Int32) (x1 : Int32) (x2 : Int32) (rv : Int32) (hf : fX4_waiting nu qu x1 x2 = some (rv)) : CT l yX4_waiting wsX4_waiting rm_X4_waiting G (TY cI cC cZ X) [.ref d0, .int x1, .int x2] (wLDs cI d0 b0 sl h0 p0 a0 a1 a2 a3 a4 a5 a6 a7 a8 nu va qu sc lo wt) (some (.int rv)) (wLDs cI d0 b0 sl h0 p0 a0 a1 a2 a3 a4 a5 a6 a7 a8 nu va qu sc lo wt) := by
  refine CT.of (cc := cX4_waiting) (maxL := 3) (ret := (some .int)) RX4 rfl (by decide) rfl (Nat.le_of_ble_eq_true rfl) ?_
  intro p e s m args below meth c A ls C hr hlocks hnm h hl
  have hx := C.hx
  have hb := C.hb
  have hl : lv_has ls 3 [(0, .ref d0), (1, .int x1), (2, .int x2)] := hl
  unfold fX4_waiting at hf
  refine lv_iload_n hx hb dX4_waiting_0 rfl (lv_at hl 1 rfl) ?_
  refine lv_if_lt (tgt := 17) hx hb dX4_waiting_1 (by decide) (fun hc => ?_) (fun hc => ?_)
  · replace hf := it_t hf hc
    refine lv_iconst (v := (-1)) hx hb dX4_waiting_17 (by decide) ?_
    cases hf
    exact r_iret C h hr hlocks dX4_waiting_18
  · replace hf := it_f hf hc
    refine lv_iload_n hx hb dX4_waiting_4 rfl (lv_at hl 1 rfl) ?_
    refine lv_aload_n hx hb dX4_waiting_5 rfl (lv_at hl 0 rfl) ?_
    refine r_get C h 0 0 (ci := 4) (N := 5) (Cn := RX4) (T := TX4) rfl rfl (by decide) in_X4_waiting_X4 lk_X4_waiting_10 rfl dX4_waiting_6 ?_
    refine r_getN C h 1 0 (ci := 2) (N := 6) (Cn := RX2) (T := TX2) rfl rfl (by decide) in_X4_waiting_X2 lkN_4_63 rfl dX4_waiting_9 ?_
    refine lv_iconst (v := 2) hx hb dX4_waiting_12 (by decide) ?_
    refine r_ald C h 2 rfl rfl k_2_24 dX4_waiting_13 ?_
    refine lv_icmp_lt (tgt := 19) hx hb dX4_waiting_14 (by decide) (fun hc => ?_) (fun hc => ?_)
    · replace hf := it_t hf hc
      refine lv_iload_n hx hb dX4_waiting_19 rfl (lv_at hl 2 rfl) ?_
      refine lv_iconst (v := 0) hx hb dX4_waiting_20 (by decide) ?_
      refine lv_iconst (v := 3) hx hb dX4_waiting_21 (by decide) ?_
      obtain ⟨r_1, hq_2, hf⟩ := ob1_use hf
      refine r_callS C h (cw_X4_waiting_X4_isWithin_67 C.hts) (rest := []) (c_X4_isWithin l G cI cC cZ X x2 (0 : Int32) (3 : Int32) r_1 hq_2) [] rfl rfl rfl rfl hl.1 rfl (Nat.le_of_ble_eq_true rfl) ⟨Nat.le_of_ble_eq_true rfl, Nat.le_of_ble_eq_true rfl⟩ (wLDs cI d0 b0 sl h0 p0 a0 a1 a2 a3 a4 a5 a6 a7 a8 nu va qu sc lo wt) rfl rfl dX4_waiting_22 (fun H locs h => ?_)
      refine lv_if_eq (tgt := 43) hx hb dX4_waiting_25 (by decide) (fun hc => ?_) (fun hc => ?_)
      · replace hf := it_t hf hc
        refine lv_bipush (v := (-2)) hx hb dX4_waiting_43 (by decide) ?_
        cases hf
        exact r_iret C h hr hlocks dX4_waiting_45
      · replace hf := it_f hf hc
        refine lv_aload_n hx hb dX4_waiting_28 rfl (lv_at hl 0 rfl) ?_
        refine r_get C h 0 0 (ci := 4) (N := 5) (Cn := RX4) (T := TX4) rfl rfl (by decide) in_X4_waiting_X4 lk_X4_waiting_10 rfl dX4_waiting_29 ?_
        refine r_getN C h 1 2 (ci := 2) (N := 6) (Cn := RX2) (T := TX2) rfl rfl (by decide) in_X4_waiting_X2 lkN_4_71 rfl dX4_waiting_32 ?_
        refine lv_iload_n hx hb dX4_waiting_35 rfl (lv_at hl 1 rfl) ?_
        refine lv_iload_n hx hb dX4_waiting_36 rfl (lv_at hl 2 rfl) ?_
        obtain ⟨r_3, hq_4, hf⟩ := ob1_use hf
        refine r_callV C h (cw_X4_waiting_X3_read_75 C.hts) (rest := []) (ci := 3) (N := 2) (Cn := RX3) (T := TX3) (c_X3_read l G cI cC cZ X a3 a4 4 68 qu x1 x2 r_3 hq_4) [4, 5] rfl rfl rfl rfl 4 rfl rfl hl.1 rfl (Nat.le_of_ble_eq_true rfl) ⟨Nat.le_of_ble_eq_true rfl, Nat.le_of_ble_eq_true rfl⟩ (wLDs cI d0 b0 sl h0 p0 a0 a1 a2 a3 a4 a5 a6 a7 a8 nu va qu sc lo wt) rfl rfl dX4_waiting_37 (fun H locs h => ?_)
        refine lv_goto (tgt := 45) hx hb dX4_waiting_40 (by decide) ?_
        cases hf
        exact r_iret C h hr hlocks dX4_waiting_45
    · replace hf := it_f hf hc
      refine lv_iconst (v := (-1)) hx hb dX4_waiting_17 (by decide) ?_
      cases hf
      exact r_iret C h hr hlocks dX4_waiting_18
def rm_X4_row : Room := { frames := 3, cells := 0, slots := 0, locals := 63 }
set_option maxRecDepth 20000 in
theorem lk_X4_row_10 : Cond.fieldLink RX4 10 "LineDoubler" "state" "LLineDoubler$State;" ∈ wsX4_row := List.mem_of_getElem? (i := 1) (by decide +kernel)
set_option maxRecDepth 20000 in
theorem in_X4_row_X4 : ∀ x ∈ wsX40, x ∈ wsX4_row := mem_r _ [23, 24, 25, 26, 27] (by decide +kernel)
set_option maxRecDepth 20000 in
theorem in_X4_row_X2 : ∀ x ∈ wsX20, x ∈ wsX4_row := mem_r _ [28, 29, 30, 31, 32, 33] (by decide +kernel)
set_option maxRecDepth 20000 in
theorem cw_X4_row_X2_rowsOfScreen_80 {s : State} {args : Array Value} (hts : ∀ w ∈ wsX4_row, w.before args s = true) : CallW rm_X4_row s args RX4 RX2 80 yX2_rowsOfScreen cX2_rowsOfScreen 1 (some .int) wsX2_rowsOfScreen rm_X2_rowsOfScreen 0 0 0 :=
  cwV 0 hts gX4_row_X2_rowsOfScreen rfl rfl rfl (by decide +kernel) ⟨Nat.le_of_ble_eq_true rfl, Nat.le_of_ble_eq_true rfl⟩
set_option maxRecDepth 20000 in
theorem cw_X4_row_X4_isWithin_67 {s : State} {args : Array Value} (hts : ∀ w ∈ wsX4_row, w.before args s = true) : CallB rm_X4_row s args RX4 67 yX4_isWithin cX4_isWithin 3 (some .boolean) wsX4_isWithin rm_X4_isWithin 0 0 3 ∧ (Cond.static yX4_isWithin).before args s = true :=
  va_cwS 3 hts gX4_row_X4_isWithin rfl rfl rfl (by decide +kernel) ⟨Nat.le_of_ble_eq_true rfl, Nat.le_of_ble_eq_true rfl⟩
set_option maxRecDepth 20000 in
theorem cw_X4_row_X3_read_75 {s : State} {args : Array Value} (hts : ∀ w ∈ wsX4_row, w.before args s = true) : CallW rm_X4_row s args RX4 RX3 75 yX3_read cX3_read 4 (some .int) wsX3_read rm_X3_read 0 0 2 :=
  cwV 2 hts gX4_row_X3_read rfl rfl rfl (by decide +kernel) ⟨Nat.le_of_ble_eq_true rfl, Nat.le_of_ble_eq_true rfl⟩
set_option maxHeartbeats 4000000 in
set_option maxRecDepth 100000 in
theorem c_X4_row (l : Launch) (G : va_G) (cI cC cZ : ClassId) (X : List (ClassId × FieldType)) (d0 b0 sl h0 p0 a0 a1 a2 a3 a4 a5 a6 a7 a8 : Nat) (nu : Nat → Int32) (va : Nat → Int32) (qu : Nat → Int32) (sc : Nat → Int32) (lo : Nat → Int32) (wt : Int32) (x1 : Int32) (x2 : Int32) (rv : Int32) (hf : fX4_row nu sc x1 x2 = some (rv)) : CT l yX4_row wsX4_row rm_X4_row G (TY cI cC cZ X) [.ref d0, .int x1, .int x2] (wLDs cI d0 b0 sl h0 p0 a0 a1 a2 a3 a4 a5 a6 a7 a8 nu va qu sc lo wt) (some (.int rv)) (wLDs cI d0 b0 sl h0 p0 a0 a1 a2 a3 a4 a5 a6 a7 a8 nu va qu sc lo wt) := by
  refine CT.of (cc := cX4_row) (maxL := 3) (ret := (some .int)) RX4 rfl (by decide) rfl (Nat.le_of_ble_eq_true rfl) ?_
  intro p e s m args below meth c A ls C hr hlocks hnm h hl
  have hx := C.hx
  have hb := C.hb
  have hl : lv_has ls 3 [(0, .ref d0), (1, .int x1), (2, .int x2)] := hl
  unfold fX4_row at hf
  refine lv_iload_n hx hb dX4_row_0 rfl (lv_at hl 1 rfl) ?_
  refine lv_if_lt (tgt := 15) hx hb dX4_row_1 (by decide) (fun hc => ?_) (fun hc => ?_)
  · replace hf := it_t hf hc
    refine lv_iconst (v := (-1)) hx hb dX4_row_15 (by decide) ?_
    cases hf
    exact r_iret C h hr hlocks dX4_row_16
  · replace hf := it_f hf hc
    refine lv_iload_n hx hb dX4_row_4 rfl (lv_at hl 1 rfl) ?_
    refine lv_aload_n hx hb dX4_row_5 rfl (lv_at hl 0 rfl) ?_
    refine r_get C h 0 0 (ci := 4) (N := 5) (Cn := RX4) (T := TX4) rfl rfl (by decide) in_X4_row_X4 lk_X4_row_10 rfl dX4_row_6 ?_
    obtain ⟨r_1, hq_2, hf⟩ := ob1_use hf
    refine r_callV C h (cw_X4_row_X2_rowsOfScreen_80 C.hts) (rest := [.int x1]) (ci := 2) (N := 6) (Cn := RX2) (T := TX2) (c_X2_rowsOfScreen l G cI cC cZ X a0 a1 a2 a3 a4 a5 a6 a7 a8 nu va qu sc lo wt r_1 hq_2) [1, 2, 3, 4, 5, 6, 7, 8, 9] rfl rfl rfl rfl 1 rfl rfl hl.1 rfl (Nat.le_of_ble_eq_true rfl) ⟨Nat.le_of_ble_eq_true rfl, Nat.le_of_ble_eq_true rfl⟩ (wLDs cI d0 b0 sl h0 p0 a0 a1 a2 a3 a4 a5 a6 a7 a8 nu va qu sc lo wt) rfl rfl dX4_row_9 (fun H locs h => ?_)
    refine lv_icmp_lt (tgt := 17) hx hb dX4_row_12 (by decide) (fun hc => ?_) (fun hc => ?_)
    · replace hf := it_t hf hc
      refine lv_iload_n hx hb dX4_row_17 rfl (lv_at hl 2 rfl) ?_
      refine lv_iconst (v := 0) hx hb dX4_row_18 (by decide) ?_
      refine lv_iconst (v := 2) hx hb dX4_row_19 (by decide) ?_
      obtain ⟨r_3, hq_4, hf⟩ := ob1_use hf
      refine r_callS C h (cw_X4_row_X4_isWithin_67 C.hts) (rest := []) (c_X4_isWithin l G cI cC cZ X x2 (0 : Int32) (2 : Int32) r_3 hq_4) [] rfl rfl rfl rfl hl.1 rfl (Nat.le_of_ble_eq_true rfl) ⟨Nat.le_of_ble_eq_true rfl, Nat.le_of_ble_eq_true rfl⟩ (wLDs cI d0 b0 sl h0 p0 a0 a1 a2 a3 a4 a5 a6 a7 a8 nu va qu sc lo wt) rfl rfl dX4_row_20 (fun H locs h => ?_)
      refine lv_if_eq (tgt := 41) hx hb dX4_row_23 (by decide) (fun hc => ?_) (fun hc => ?_)
      · replace hf := it_t hf hc
        refine lv_bipush (v := (-2)) hx hb dX4_row_41 (by decide) ?_
        cases hf
        exact r_iret C h hr hlocks dX4_row_43
      · replace hf := it_f hf hc
        refine lv_aload_n hx hb dX4_row_26 rfl (lv_at hl 0 rfl) ?_
        refine r_get C h 0 0 (ci := 4) (N := 5) (Cn := RX4) (T := TX4) rfl rfl (by decide) in_X4_row_X4 lk_X4_row_10 rfl dX4_row_27 ?_
        refine r_getN C h 1 3 (ci := 2) (N := 6) (Cn := RX2) (T := TX2) rfl rfl (by decide) in_X4_row_X2 lkN_4_83 rfl dX4_row_30 ?_
        refine lv_iload_n hx hb dX4_row_33 rfl (lv_at hl 1 rfl) ?_
        refine lv_iload_n hx hb dX4_row_34 rfl (lv_at hl 2 rfl) ?_
        obtain ⟨r_5, hq_6, hf⟩ := ob1_use hf
        refine r_callV C h (cw_X4_row_X3_read_75 C.hts) (rest := []) (ci := 3) (N := 2) (Cn := RX3) (T := TX3) (c_X3_read l G cI cC cZ X a5 a6 3 96 sc x1 x2 r_5 hq_6) [6, 7] rfl rfl rfl rfl 6 rfl rfl hl.1 rfl (Nat.le_of_ble_eq_true rfl) ⟨Nat.le_of_ble_eq_true rfl, Nat.le_of_ble_eq_true rfl⟩ (wLDs cI d0 b0 sl h0 p0 a0 a1 a2 a3 a4 a5 a6 a7 a8 nu va qu sc lo wt) rfl rfl dX4_row_35 (fun H locs h => ?_)
        refine lv_goto (tgt := 43) hx hb dX4_row_38 (by decide) ?_
        cases hf
        exact r_iret C h hr hlocks dX4_row_43
    · replace hf := it_f hf hc
      refine lv_iconst (v := (-1)) hx hb dX4_row_15 (by decide) ?_
      cases hf
      exact r_iret C h hr hlocks dX4_row_16
def rm_X4_ofMissing : Room := { frames := 1, cells := 0, slots := 0, locals := 23 }
set_option maxRecDepth 20000 in
theorem lk_X4_ofMissing_10 : Cond.fieldLink RX4 10 "LineDoubler" "state" "LLineDoubler$State;" ∈ wsX4_ofMissing := List.mem_of_getElem? (i := 1) (by decide +kernel)
set_option maxRecDepth 20000 in
theorem lm_X4_ofMissing_86 : Cond.methodLink RX4 86 Lib.Math.min.name ∈ wsX4_ofMissing := List.mem_of_getElem? (i := 2) (by decide +kernel)
set_option maxRecDepth 20000 in
theorem ls_X4_ofMissing_min : Cond.static Lib.Math.min.name ∈ wsX4_ofMissing := List.mem_of_getElem? (i := 3) (by decide +kernel)
set_option maxRecDepth 20000 in
theorem li_X4_ofMissing_Math : Cond.initialized "java/lang/Math" ∈ wsX4_ofMissing := List.mem_of_getElem? (i := 4) (by decide +kernel)
set_option maxRecDepth 20000 in
theorem lc_X4_ofMissing_min : Cond.code Lib.Math.min.name Lib.Math.min.code 2 (some .int) ∈ wsX4_ofMissing := List.mem_of_getElem? (i := 5) (by decide +kernel)
set_option maxRecDepth 20000 in
theorem in_X4_ofMissing_X4 : ∀ x ∈ wsX40, x ∈ wsX4_ofMissing := mem_r _ [17, 18, 19, 20, 21] (by decide +kernel)
set_option maxRecDepth 20000 in
theorem in_X4_ofMissing_X2 : ∀ x ∈ wsX20, x ∈ wsX4_ofMissing := mem_r _ [22, 23, 24, 25, 26, 27] (by decide +kernel)
set_option maxRecDepth 20000 in
theorem cw_X4_ofMissing_X4_isWithin_67 {s : State} {args : Array Value} (hts : ∀ w ∈ wsX4_ofMissing, w.before args s = true) : CallB rm_X4_ofMissing s args RX4 67 yX4_isWithin cX4_isWithin 3 (some .boolean) wsX4_isWithin rm_X4_isWithin 0 0 3 ∧ (Cond.static yX4_isWithin).before args s = true :=
  va_cwS 3 hts gX4_ofMissing_X4_isWithin rfl rfl rfl (by decide +kernel) ⟨Nat.le_of_ble_eq_true rfl, Nat.le_of_ble_eq_true rfl⟩
set_option maxRecDepth 20000 in
theorem cw_X4_ofMissing_X3_read_75 {s : State} {args : Array Value} (hts : ∀ w ∈ wsX4_ofMissing, w.before args s = true) : CallW rm_X4_ofMissing s args RX4 RX3 75 yX3_read cX3_read 4 (some .int) wsX3_read rm_X3_read 0 0 2 :=
  cwV 2 hts gX4_ofMissing_X3_read rfl rfl rfl (by decide +kernel) ⟨Nat.le_of_ble_eq_true rfl, Nat.le_of_ble_eq_true rfl⟩
set_option maxHeartbeats 4000000 in
set_option maxRecDepth 100000 in
theorem c_X4_ofMissing (l : Launch) (G : va_G) (cI cC cZ : ClassId) (X : List (ClassId × FieldType)) (d0 b0 sl h0 p0 a0 a1 a2 a3 a4 a5 a6 a7 a8 : Nat) (nu : Nat → Int32) (va : Nat → Int32) (qu : Nat → Int32) (sc : Nat → Int32) (lo : Nat → Int32) (wt : Int32) (x1 : Int32) (x2 : Int32) (rv : Int32) (hf : fX4_ofMissing nu lo x1 x2 = some (rv)) : CT l yX4_ofMissing wsX4_ofMissing rm_X4_ofMissing G (TY cI cC cZ X) [.ref d0, .int x1, .int x2] (wLDs cI d0 b0 sl h0 p0 a0 a1 a2 a3 a4 a5 a6 a7 a8 nu va qu sc lo wt) (some (.int rv)) (wLDs cI d0 b0 sl h0 p0 a0 a1 a2 a3 a4 a5 a6 a7 a8 nu va qu sc lo wt) := by
  refine CT.of (cc := cX4_ofMissing) (maxL := 3) (ret := (some .int)) RX4 rfl (by decide) rfl (Nat.le_of_ble_eq_true rfl) ?_
  intro p e s m args below meth c A ls C hr hlocks hnm h hl
  have hx := C.hx
  have hb := C.hb
  have hl : lv_has ls 3 [(0, .ref d0), (1, .int x1), (2, .int x2)] := hl
  unfold fX4_ofMissing at hf
  refine lv_iload_n hx hb dX4_ofMissing_0 rfl (lv_at hl 1 rfl) ?_
  refine lv_if_lt (tgt := 22) hx hb dX4_ofMissing_1 (by decide) (fun hc => ?_) (fun hc => ?_)
  · replace hf := it_t hf hc
    refine lv_iconst (v := (-1)) hx hb dX4_ofMissing_22 (by decide) ?_
    cases hf
    exact r_iret C h hr hlocks dX4_ofMissing_23
  · replace hf := it_f hf hc
    refine lv_iload_n hx hb dX4_ofMissing_4 rfl (lv_at hl 1 rfl) ?_
    refine lv_bipush (v := 8) hx hb dX4_ofMissing_5 (by decide) ?_
    refine lv_aload_n hx hb dX4_ofMissing_7 rfl (lv_at hl 0 rfl) ?_
    refine r_get C h 0 0 (ci := 4) (N := 5) (Cn := RX4) (T := TX4) rfl rfl (by decide) in_X4_ofMissing_X4 lk_X4_ofMissing_10 rfl dX4_ofMissing_8 ?_
    refine r_getN C h 1 0 (ci := 2) (N := 6) (Cn := RX2) (T := TX2) rfl rfl (by decide) in_X4_ofMissing_X2 lkN_4_63 rfl dX4_ofMissing_11 ?_
    refine lv_iconst (v := 4) hx hb dX4_ofMissing_14 (by decide) ?_
    refine r_ald C h 2 rfl rfl k_4_24 dX4_ofMissing_15 ?_
    refine r_min C hl.1 lm_X4_ofMissing_86 ls_X4_ofMissing_min li_X4_ofMissing_Math lc_X4_ofMissing_min (Nat.le_of_ble_eq_true rfl) (Nat.le_of_ble_eq_true rfl) (Nat.le_of_ble_eq_true rfl) (Nat.le_of_ble_eq_true rfl) dX4_ofMissing_16 ?_
    refine lv_icmp_lt (tgt := 24) hx hb dX4_ofMissing_19 (by decide) (fun hc => ?_) (fun hc => ?_)
    · replace hf := it_t hf hc
      refine lv_iload_n hx hb dX4_ofMissing_24 rfl (lv_at hl 2 rfl) ?_
      refine lv_iconst (v := 0) hx hb dX4_ofMissing_25 (by decide) ?_
      refine lv_iconst (v := 3) hx hb dX4_ofMissing_26 (by decide) ?_
      obtain ⟨r_1, hq_2, hf⟩ := ob1_use hf
      refine r_callS C h (cw_X4_ofMissing_X4_isWithin_67 C.hts) (rest := []) (c_X4_isWithin l G cI cC cZ X x2 (0 : Int32) (3 : Int32) r_1 hq_2) [] rfl rfl rfl rfl hl.1 rfl (Nat.le_of_ble_eq_true rfl) ⟨Nat.le_of_ble_eq_true rfl, Nat.le_of_ble_eq_true rfl⟩ (wLDs cI d0 b0 sl h0 p0 a0 a1 a2 a3 a4 a5 a6 a7 a8 nu va qu sc lo wt) rfl rfl dX4_ofMissing_27 (fun H locs h => ?_)
      refine lv_if_ne (tgt := 36) hx hb dX4_ofMissing_30 (by decide) (fun hc => ?_) (fun hc => ?_)
      · replace hf := it_f hf hc
        refine lv_aload_n hx hb dX4_ofMissing_36 rfl (lv_at hl 0 rfl) ?_
        refine r_get C h 0 0 (ci := 4) (N := 5) (Cn := RX4) (T := TX4) rfl rfl (by decide) in_X4_ofMissing_X4 lk_X4_ofMissing_10 rfl dX4_ofMissing_37 ?_
        refine r_getN C h 1 4 (ci := 2) (N := 6) (Cn := RX2) (T := TX2) rfl rfl (by decide) in_X4_ofMissing_X2 lkN_4_91 rfl dX4_ofMissing_40 ?_
        refine lv_aload_n hx hb dX4_ofMissing_43 rfl (lv_at hl 0 rfl) ?_
        refine r_get C h 0 0 (ci := 4) (N := 5) (Cn := RX4) (T := TX4) rfl rfl (by decide) in_X4_ofMissing_X4 lk_X4_ofMissing_10 rfl dX4_ofMissing_44 ?_
        refine r_getN C h 1 0 (ci := 2) (N := 6) (Cn := RX2) (T := TX2) rfl rfl (by decide) in_X4_ofMissing_X2 lkN_4_63 rfl dX4_ofMissing_47 ?_
        refine lv_iconst (v := 4) hx hb dX4_ofMissing_50 (by decide) ?_
        refine r_ald C h 2 rfl rfl k_4_24 dX4_ofMissing_51 ?_
        refine lv_iconst (v := 1) hx hb dX4_ofMissing_52 (by decide) ?_
        refine lv_isub hx hb dX4_ofMissing_53 ?_
        refine lv_iload_n hx hb dX4_ofMissing_54 rfl (lv_at hl 1 rfl) ?_
        refine lv_isub hx hb dX4_ofMissing_55 ?_
        refine lv_bipush (v := 8) hx hb dX4_ofMissing_56 (by decide) ?_
        refine lv_irem hx hb dX4_ofMissing_58 (by decide) ?_
        refine lv_iload_n hx hb dX4_ofMissing_59 rfl (lv_at hl 2 rfl) ?_
        obtain ⟨r_3, hq_4, hf⟩ := ob1_use hf
        refine r_callV C h (cw_X4_ofMissing_X3_read_75 C.hts) (rest := []) (ci := 3) (N := 2) (Cn := RX3) (T := TX3) (c_X3_read l G cI cC cZ X a7 a8 4 32 lo ((((nu 4) - 1) - x1) - (((nu 4) - 1) - x1) / 8 * 8) x2 r_3 hq_4) [8, 9] rfl rfl rfl rfl 8 rfl rfl hl.1 rfl (Nat.le_of_ble_eq_true rfl) ⟨Nat.le_of_ble_eq_true rfl, Nat.le_of_ble_eq_true rfl⟩ (wLDs cI d0 b0 sl h0 p0 a0 a1 a2 a3 a4 a5 a6 a7 a8 nu va qu sc lo wt) rfl rfl dX4_ofMissing_60 (fun H locs h => ?_)
        cases hf
        exact r_iret C h hr hlocks dX4_ofMissing_63
      · replace hf := it_t hf hc
        refine lv_bipush (v := (-2)) hx hb dX4_ofMissing_33 (by decide) ?_
        cases hf
        exact r_iret C h hr hlocks dX4_ofMissing_35
    · replace hf := it_f hf hc
      refine lv_iconst (v := (-1)) hx hb dX4_ofMissing_22 (by decide) ?_
      cases hf
      exact r_iret C h hr hlocks dX4_ofMissing_23
def rm_X4_shown : Room := { frames := 3, cells := 0, slots := 0, locals := 63 }
set_option maxRecDepth 20000 in
theorem lk_X4_shown_10 : Cond.fieldLink RX4 10 "LineDoubler" "state" "LLineDoubler$State;" ∈ wsX4_shown := List.mem_of_getElem? (i := 1) (by decide +kernel)
set_option maxRecDepth 20000 in
theorem in_X4_shown_X4 : ∀ x ∈ wsX40, x ∈ wsX4_shown := mem_r _ [22, 23, 24, 25, 26] (by decide +kernel)
set_option maxRecDepth 20000 in
theorem in_X4_shown_X2 : ∀ x ∈ wsX20, x ∈ wsX4_shown := mem_r _ [27, 28, 29, 30, 31, 32] (by decide +kernel)
set_option maxRecDepth 20000 in
theorem cw_X4_shown_X2_rowsOfScreen_80 {s : State} {args : Array Value} (hts : ∀ w ∈ wsX4_shown, w.before args s = true) : CallW rm_X4_shown s args RX4 RX2 80 yX2_rowsOfScreen cX2_rowsOfScreen 1 (some .int) wsX2_rowsOfScreen rm_X2_rowsOfScreen 0 0 0 :=
  cwV 0 hts gX4_shown_X2_rowsOfScreen rfl rfl rfl (by decide +kernel) ⟨Nat.le_of_ble_eq_true rfl, Nat.le_of_ble_eq_true rfl⟩
set_option maxRecDepth 20000 in
theorem cw_X4_shown_X3_read_75 {s : State} {args : Array Value} (hts : ∀ w ∈ wsX4_shown, w.before args s = true) : CallW rm_X4_shown s args RX4 RX3 75 yX3_read cX3_read 4 (some .int) wsX3_read rm_X3_read 0 0 2 :=
  cwV 2 hts gX4_shown_X3_read rfl rfl rfl (by decide +kernel) ⟨Nat.le_of_ble_eq_true rfl, Nat.le_of_ble_eq_true rfl⟩
set_option maxHeartbeats 4000000 in
set_option maxRecDepth 100000 in
theorem c_X4_shown (l : Launch) (G : va_G) (cI cC cZ : ClassId) (X : List (ClassId × FieldType)) (d0 b0 sl h0 p0 a0 a1 a2 a3 a4 a5 a6 a7 a8 : Nat) (nu : Nat → Int32) (va : Nat → Int32) (qu : Nat → Int32) (sc : Nat → Int32) (lo : Nat → Int32) (wt : Int32) (rv : Int32) (hf : fX4_shown nu sc = some (rv)) : CT l yX4_shown wsX4_shown rm_X4_shown G (TY cI cC cZ X) [.ref d0] (wLDs cI d0 b0 sl h0 p0 a0 a1 a2 a3 a4 a5 a6 a7 a8 nu va qu sc lo wt) (some (.int rv)) (wLDs cI d0 b0 sl h0 p0 a0 a1 a2 a3 a4 a5 a6 a7 a8 nu va qu sc lo wt) := by
  refine CT.of (cc := cX4_shown) (maxL := 3) (ret := (some .int)) RX4 rfl (by decide) rfl (Nat.le_of_ble_eq_true rfl) ?_
  intro p e s m args below meth c A ls C hr hlocks hnm h hl
  have hx := C.hx
  have hb := C.hb
  have hl : lv_has ls 3 [(0, .ref d0)] := hl
  have cut_10 : ∀ (n : Nat) (x1 : Int32) (x2 : Int32) (H : Heap) (locs : List Loc) (ls : Array Slot), Hx s G A (wLDs cI d0 b0 sl h0 p0 a0 a1 a2 a3 a4 a5 a6 a7 a8 nu va qu sc lo wt) H locs → lv_has ls 3 [(0, .ref d0), (1, .int x1), (2, .int x2)] → fX4_shown_10 n nu sc x1 x2 = some (rv) → W p l e rm_X4_shown s m args below meth c H locs 0 0 (MQ below (Qx G (some (.int rv)) (wLDs cI d0 b0 sl h0 p0 a0 a1 a2 a3 a4 a5 a6 a7 a8 nu va qu sc lo wt) A) args s 0 0 A) (F0 m 10 ls []) := by
    intro n
    induction n with
    | zero =>
      intro x1 x2 H locs ls h hl hf
      exact (nn_some _ hf).elim
    | succ n ih =>
      intro x1 x2 H locs ls h hl hf
      have hf : fX4_shown_10_b (fX4_shown_10 n) nu sc x1 x2 = some (rv) := hf
      unfold fX4_shown_10_b at hf
      refine lv_iload_n hx hb dX4_shown_10 rfl (lv_at hl 2 rfl) ?_
      refine lv_iload_n hx hb dX4_shown_11 rfl (lv_at hl 1 rfl) ?_
      refine lv_icmp_ge (tgt := 38) hx hb dX4_shown_12 (by decide) (fun hc => ?_) (fun hc => ?_)
      · replace hf := it_t hf hc
        refine lv_iload_n hx hb dX4_shown_38 rfl (lv_at hl 2 rfl) ?_
        cases hf
        exact r_iret C h hr hlocks dX4_shown_39
      · replace hf := it_f hf hc
        refine lv_aload_n hx hb dX4_shown_15 rfl (lv_at hl 0 rfl) ?_
        refine r_get C h 0 0 (ci := 4) (N := 5) (Cn := RX4) (T := TX4) rfl rfl (by decide) in_X4_shown_X4 lk_X4_shown_10 rfl dX4_shown_16 ?_
        refine r_getN C h 1 3 (ci := 2) (N := 6) (Cn := RX2) (T := TX2) rfl rfl (by decide) in_X4_shown_X2 lkN_4_83 rfl dX4_shown_19 ?_
        refine lv_iload_n hx hb dX4_shown_22 rfl (lv_at hl 2 rfl) ?_
        refine lv_iconst (v := 1) hx hb dX4_shown_23 (by decide) ?_
        obtain ⟨r_1, hq_2, hf⟩ := ob1_use hf
        refine r_callV C h (cw_X4_shown_X3_read_75 C.hts) (rest := []) (ci := 3) (N := 2) (Cn := RX3) (T := TX3) (c_X3_read l G cI cC cZ X a5 a6 3 96 sc x2 (1 : Int32) r_1 hq_2) [6, 7] rfl rfl rfl rfl 6 rfl rfl hl.1 rfl (Nat.le_of_ble_eq_true rfl) ⟨Nat.le_of_ble_eq_true rfl, Nat.le_of_ble_eq_true rfl⟩ (wLDs cI d0 b0 sl h0 p0 a0 a1 a2 a3 a4 a5 a6 a7 a8 nu va qu sc lo wt) rfl rfl dX4_shown_24 (fun H locs h => ?_)
        refine lv_bipush (v := (-6)) hx hb dX4_shown_27 (by decide) ?_
        refine lv_icmp_eq (tgt := 38) hx hb dX4_shown_29 (by decide) (fun hc => ?_) (fun hc => ?_)
        · replace hf := it_t hf hc
          refine lv_iload_n hx hb dX4_shown_38 rfl (lv_at hl 2 rfl) ?_
          cases hf
          exact r_iret C h hr hlocks dX4_shown_39
        · replace hf := it_f hf hc
          obtain ⟨x2_3, ex2_3⟩ : ∃ y : Int32, y = x2 + 1 := ⟨_, rfl⟩
          replace hf := nm_use hf ex2_3
          refine lv_iinc (v := x2_3) (lv' := [(2, .int x2_3), (0, .ref d0), (1, .int x1)]) hx hb dX4_shown_32 hl (k := 2) rfl (by rw [ex2_3]; rfl) (by decide) rfl (fun ls hl => ?_)
          refine lv_goto (tgt := 10) hx hb dX4_shown_35 (by decide) ?_
          exact ih x1 x2_3 _ _ _ h (lv_sub hl [1, 2, 0] rfl) hf
  unfold fX4_shown at hf
  refine lv_aload_n hx hb dX4_shown_0 rfl (lv_at hl 0 rfl) ?_
  refine r_get C h 0 0 (ci := 4) (N := 5) (Cn := RX4) (T := TX4) rfl rfl (by decide) in_X4_shown_X4 lk_X4_shown_10 rfl dX4_shown_1 ?_
  obtain ⟨r_1, hq_2, hf⟩ := ob1_use hf
  refine r_callV C h (cw_X4_shown_X2_rowsOfScreen_80 C.hts) (rest := []) (ci := 2) (N := 6) (Cn := RX2) (T := TX2) (c_X2_rowsOfScreen l G cI cC cZ X a0 a1 a2 a3 a4 a5 a6 a7 a8 nu va qu sc lo wt r_1 hq_2) [1, 2, 3, 4, 5, 6, 7, 8, 9] rfl rfl rfl rfl 1 rfl rfl hl.1 rfl (Nat.le_of_ble_eq_true rfl) ⟨Nat.le_of_ble_eq_true rfl, Nat.le_of_ble_eq_true rfl⟩ (wLDs cI d0 b0 sl h0 p0 a0 a1 a2 a3 a4 a5 a6 a7 a8 nu va qu sc lo wt) rfl rfl dX4_shown_4 (fun H locs h => ?_)
  refine lv_istore_n (lv' := [(1, .int r_1), (0, .ref d0)]) hx hb dX4_shown_7 rfl hl (by decide) rfl (fun ls hl => ?_)
  refine lv_iconst (v := 0) hx hb dX4_shown_8 (by decide) ?_
  refine lv_istore_n (lv' := [(2, .int 0), (1, .int r_1), (0, .ref d0)]) hx hb dX4_shown_9 rfl hl (by decide) rfl (fun ls hl => ?_)
  exact cut_10 KF r_1 0 _ _ _ h (lv_sub hl [2, 1, 0] rfl) hf
def rm_X4_count : Room := { frames := 1, cells := 0, slots := 0, locals := 22 }
set_option maxRecDepth 20000 in
theorem lk_X4_count_10 : Cond.fieldLink RX4 10 "LineDoubler" "state" "LLineDoubler$State;" ∈ wsX4_count := List.mem_of_getElem? (i := 3) (by decide +kernel)
set_option maxRecDepth 20000 in
theorem lk_X4_count_26 : Cond.fieldLink RX4 26 "LineDoubler" "history" "LLineDoubler$History;" ∈ wsX4_count := List.mem_of_getElem? (i := 2) (by decide +kernel)
set_option maxRecDepth 20000 in
theorem lk_X4_count_33 : Cond.fieldLink RX4 33 "LineDoubler" "pad" "LLineDoubler$Pad;" ∈ wsX4_count := List.mem_of_getElem? (i := 1) (by decide +kernel)
set_option maxRecDepth 20000 in
theorem in_X4_count_X4 : ∀ x ∈ wsX40, x ∈ wsX4_count := mem_r _ [8, 9, 10, 11, 12] (by decide +kernel)
set_option maxRecDepth 20000 in
theorem in_X4_count_X2 : ∀ x ∈ wsX20, x ∈ wsX4_count := mem_r _ [22, 23, 24, 25, 26, 27] (by decide +kernel)
set_option maxRecDepth 20000 in
theorem in_X4_count_X0 : ∀ x ∈ wsX00, x ∈ wsX4_count := mem_r _ [19, 20, 21] (by decide +kernel)
set_option maxRecDepth 20000 in
theorem in_X4_count_X1 : ∀ x ∈ wsX10, x ∈ wsX4_count := mem_r _ [13, 14, 15, 16, 17, 18] (by decide +kernel)
set_option maxRecDepth 20000 in
theorem cw_X4_count_X4_isWithin_67 {s : State} {args : Array Value} (hts : ∀ w ∈ wsX4_count, w.before args s = true) : CallB rm_X4_count s args RX4 67 yX4_isWithin cX4_isWithin 3 (some .boolean) wsX4_isWithin rm_X4_isWithin 0 0 3 ∧ (Cond.static yX4_isWithin).before args s = true :=
  va_cwS 3 hts gX4_count_X4_isWithin rfl rfl rfl (by decide +kernel) ⟨Nat.le_of_ble_eq_true rfl, Nat.le_of_ble_eq_true rfl⟩
set_option maxHeartbeats 4000000 in
set_option maxRecDepth 100000 in
theorem c_X4_count (l : Launch) (G : va_G) (cI cC cZ : ClassId) (X : List (ClassId × FieldType)) (d0 b0 sl a0 a1 a2 a3 a4 a5 a6 a7 a8 p0 p1 h0 h1 : Nat) (nu : Nat → Int32) (va : Nat → Int32) (qu : Nat → Int32) (sc : Nat → Int32) (lo : Nat → Int32) (wt : Int32) (ch : Nat → Int32) (pl : Int32) (pa : Int32) (po : Int32) (pf : Int32) (ps : Int32) (ho : Int32) (hs : Int32) (x1 : Int32) (rv : Int32) (hf : fX4_count nu pl hs x1 = some (rv)) : CT l yX4_count wsX4_count rm_X4_count G (TY cI cC cZ X) [.ref d0, .int x1] (wLDc cI cC d0 b0 sl a0 a1 a2 a3 a4 a5 a6 a7 a8 p0 p1 h0 h1 nu va qu sc lo wt ch pl pa po pf ps ho hs) (some (.int rv)) (wLDc cI cC d0 b0 sl a0 a1 a2 a3 a4 a5 a6 a7 a8 p0 p1 h0 h1 nu va qu sc lo wt ch pl pa po pf ps ho hs) := by
  refine CT.of (cc := cX4_count) (maxL := 2) (ret := (some .int)) RX4 rfl (by decide) rfl (Nat.le_of_ble_eq_true rfl) ?_
  intro p e s m args below meth c A ls C hr hlocks hnm h hl
  have hx := C.hx
  have hb := C.hb
  have hl : lv_has ls 2 [(0, .ref d0), (1, .int x1)] := hl
  unfold fX4_count at hf
  refine lv_iload_n hx hb dX4_count_0 rfl (lv_at hl 1 rfl) ?_
  refine lv_bipush (v := 24) hx hb dX4_count_1 (by decide) ?_
  refine lv_icmp_ne (tgt := 14) hx hb dX4_count_3 (by decide) (fun hc => ?_) (fun hc => ?_)
  · replace hf := it_f hf hc
    refine lv_iload_n hx hb dX4_count_14 rfl (lv_at hl 1 rfl) ?_
    refine lv_bipush (v := 25) hx hb dX4_count_15 (by decide) ?_
    refine lv_icmp_ne (tgt := 28) hx hb dX4_count_17 (by decide) (fun hc => ?_) (fun hc => ?_)
    · replace hf := it_f hf hc
      refine lv_iload_n hx hb dX4_count_28 rfl (lv_at hl 1 rfl) ?_
      refine lv_iconst (v := 0) hx hb dX4_count_29 (by decide) ?_
      refine lv_bipush (v := 23) hx hb dX4_count_30 (by decide) ?_
      obtain ⟨r_1, hq_2, hf⟩ := ob1_use hf
      refine r_callS C h (cw_X4_count_X4_isWithin_67 C.hts) (rest := []) (c_X4_isWithin l G cI cC cZ X x1 (0 : Int32) (23 : Int32) r_1 hq_2) [] rfl rfl rfl rfl hl.1 rfl (Nat.le_of_ble_eq_true rfl) ⟨Nat.le_of_ble_eq_true rfl, Nat.le_of_ble_eq_true rfl⟩ (wLDc cI cC d0 b0 sl a0 a1 a2 a3 a4 a5 a6 a7 a8 p0 p1 h0 h1 nu va qu sc lo wt ch pl pa po pf ps ho hs) rfl rfl dX4_count_32 (fun H locs h => ?_)
      refine lv_if_eq (tgt := 50) hx hb dX4_count_35 (by decide) (fun hc => ?_) (fun hc => ?_)
      · replace hf := it_t hf hc
        refine lv_bipush (v := (-2)) hx hb dX4_count_50 (by decide) ?_
        cases hf
        exact r_iret C h hr hlocks dX4_count_52
      · replace hf := it_f hf hc
        refine lv_aload_n hx hb dX4_count_38 rfl (lv_at hl 0 rfl) ?_
        refine r_get C h 0 0 (ci := 4) (N := 5) (Cn := RX4) (T := TX4) rfl rfl (by decide) in_X4_count_X4 lk_X4_count_10 rfl dX4_count_39 ?_
        refine r_getN C h 1 0 (ci := 2) (N := 6) (Cn := RX2) (T := TX2) rfl rfl (by decide) in_X4_count_X2 lkN_4_63 rfl dX4_count_42 ?_
        refine lv_iload_n hx hb dX4_count_45 rfl (lv_at hl 1 rfl) ?_
        obtain ⟨j_3, hj_3, hf⟩ := chk_use hf
        refine r_ald C h 2 rfl rfl hj_3 dX4_count_46 ?_
        refine lv_goto (tgt := 52) hx hb dX4_count_47 (by decide) ?_
        cases hf
        exact r_iret C h hr hlocks dX4_count_52
    · replace hf := it_t hf hc
      refine lv_aload_n hx hb dX4_count_20 rfl (lv_at hl 0 rfl) ?_
      refine r_get C h 0 3 (ci := 4) (N := 5) (Cn := RX4) (T := TX4) rfl rfl (by decide) in_X4_count_X4 lk_X4_count_26 rfl dX4_count_21 ?_
      refine r_getN C h 12 2 (ci := 0) (N := 3) (Cn := RX0) (T := TX0) rfl rfl (by decide) in_X4_count_X0 lkN_4_98 rfl dX4_count_24 ?_
      cases hf
      exact r_iret C h hr hlocks dX4_count_27
  · replace hf := it_t hf hc
    refine lv_aload_n hx hb dX4_count_6 rfl (lv_at hl 0 rfl) ?_
    refine r_get C h 0 4 (ci := 4) (N := 5) (Cn := RX4) (T := TX4) rfl rfl (by decide) in_X4_count_X4 lk_X4_count_33 rfl dX4_count_7 ?_
    refine r_getN C h 10 1 (ci := 1) (N := 6) (Cn := RX1) (T := TX1) rfl rfl (by decide) in_X4_count_X1 lkN_4_94 rfl dX4_count_10 ?_
    cases hf
    exact r_iret C h hr hlocks dX4_count_13
def rm_X4_gainOf : Room := { frames := 1, cells := 0, slots := 0, locals := 22 }
set_option maxRecDepth 20000 in
theorem lk_X4_gainOf_16 : Cond.fieldLink RX4 16 "LineDoubler" "trial" "LLineDoubler$State;" ∈ wsX4_gainOf := List.mem_of_getElem? (i := 1) (by decide +kernel)
set_option maxRecDepth 20000 in
theorem lk_X4_gainOf_10 : Cond.fieldLink RX4 10 "LineDoubler" "state" "LLineDoubler$State;" ∈ wsX4_gainOf := List.mem_of_getElem? (i := 2) (by decide +kernel)
set_option maxRecDepth 20000 in
theorem in_X4_gainOf_X4 : ∀ x ∈ wsX40, x ∈ wsX4_gainOf := mem_r _ [7, 8, 9, 10, 11] (by decide +kernel)
set_option maxRecDepth 20000 in
theorem in_X4_gainOf_X2 : ∀ x ∈ wsX20, x ∈ wsX4_gainOf := mem_r _ [12, 13, 14, 15, 16, 17] (by decide +kernel)
set_option maxRecDepth 20000 in
theorem cw_X4_gainOf_X4_isWithin_67 {s : State} {args : Array Value} (hts : ∀ w ∈ wsX4_gainOf, w.before args s = true) : CallB rm_X4_gainOf s args RX4 67 yX4_isWithin cX4_isWithin 3 (some .boolean) wsX4_isWithin rm_X4_isWithin 0 0 3 ∧ (Cond.static yX4_isWithin).before args s = true :=
  va_cwS 3 hts gX4_gainOf_X4_isWithin rfl rfl rfl (by decide +kernel) ⟨Nat.le_of_ble_eq_true rfl, Nat.le_of_ble_eq_true rfl⟩
set_option maxHeartbeats 4000000 in
set_option maxRecDepth 100000 in
theorem c_X4_gainOf (l : Launch) (G : va_G) (cI cC cZ : ClassId) (X : List (ClassId × FieldType)) (d0 sl h0 p0 a0 a1 a2 a3 a4 a5 a6 a7 a8 b0 b1 b2 b3 b4 b5 b6 b7 b8 : Nat) (nu : Nat → Int32) (va : Nat → Int32) (qu : Nat → Int32) (sc : Nat → Int32) (lo : Nat → Int32) (wt : Int32) (tnu : Nat → Int32) (tva : Nat → Int32) (tqu : Nat → Int32) (tsc : Nat → Int32) (tlo : Nat → Int32) (twt : Int32) (x1 : Int32) (rv : Int32) (hf : fX4_gainOf nu tnu x1 = some (rv)) : CT l yX4_gainOf wsX4_gainOf rm_X4_gainOf G (TY cI cC cZ X) [.ref d0, .int x1] (wLDt cI d0 sl h0 p0 a0 a1 a2 a3 a4 a5 a6 a7 a8 b0 b1 b2 b3 b4 b5 b6 b7 b8 nu va qu sc lo wt tnu tva tqu tsc tlo twt) (some (.int rv)) (wLDt cI d0 sl h0 p0 a0 a1 a2 a3 a4 a5 a6 a7 a8 b0 b1 b2 b3 b4 b5 b6 b7 b8 nu va qu sc lo wt tnu tva tqu tsc tlo twt) := by
  refine CT.of (cc := cX4_gainOf) (maxL := 2) (ret := (some .int)) RX4 rfl (by decide) rfl (Nat.le_of_ble_eq_true rfl) ?_
  intro p e s m args below meth c A ls C hr hlocks hnm h hl
  have hx := C.hx
  have hb := C.hb
  have hl : lv_has ls 2 [(0, .ref d0), (1, .int x1)] := hl
  unfold fX4_gainOf at hf
  refine lv_iload_n hx hb dX4_gainOf_0 rfl (lv_at hl 1 rfl) ?_
  refine lv_iconst (v := 0) hx hb dX4_gainOf_1 (by decide) ?_
  refine lv_bipush (v := 23) hx hb dX4_gainOf_2 (by decide) ?_
  obtain ⟨r_1, hq_2, hf⟩ := ob1_use hf
  refine r_callS C h (cw_X4_gainOf_X4_isWithin_67 C.hts) (rest := []) (c_X4_isWithin l G cI cC cZ X x1 (0 : Int32) (23 : Int32) r_1 hq_2) [] rfl rfl rfl rfl hl.1 rfl (Nat.le_of_ble_eq_true rfl) ⟨Nat.le_of_ble_eq_true rfl, Nat.le_of_ble_eq_true rfl⟩ (wLDt cI d0 sl h0 p0 a0 a1 a2 a3 a4 a5 a6 a7 a8 b0 b1 b2 b3 b4 b5 b6 b7 b8 nu va qu sc lo wt tnu tva tqu tsc tlo twt) rfl rfl dX4_gainOf_4 (fun H locs h => ?_)
  refine lv_if_eq (tgt := 32) hx hb dX4_gainOf_7 (by decide) (fun hc => ?_) (fun hc => ?_)
  · replace hf := it_t hf hc
    refine lv_iconst (v := 0) hx hb dX4_gainOf_32 (by decide) ?_
    cases hf
    exact r_iret C h hr hlocks dX4_gainOf_33
  · replace hf := it_f hf hc
    refine lv_aload_n hx hb dX4_gainOf_10 rfl (lv_at hl 0 rfl) ?_
    refine r_get C h 0 1 (ci := 4) (N := 5) (Cn := RX4) (T := TX4) rfl rfl (by decide) in_X4_gainOf_X4 lk_X4_gainOf_16 rfl dX4_gainOf_11 ?_
    refine r_getN C h 10 0 (ci := 2) (N := 6) (Cn := RX2) (T := TX2) rfl rfl (by decide) in_X4_gainOf_X2 lkN_4_63 rfl dX4_gainOf_14 ?_
    refine lv_iload_n hx hb dX4_gainOf_17 rfl (lv_at hl 1 rfl) ?_
    obtain ⟨j_3, hj_3, hf⟩ := chk_use hf
    refine r_ald C h 11 rfl rfl hj_3 dX4_gainOf_18 ?_
    refine lv_aload_n hx hb dX4_gainOf_19 rfl (lv_at hl 0 rfl) ?_
    refine r_get C h 0 0 (ci := 4) (N := 5) (Cn := RX4) (T := TX4) rfl rfl (by decide) in_X4_gainOf_X4 lk_X4_gainOf_10 rfl dX4_gainOf_20 ?_
    refine r_getN C h 1 0 (ci := 2) (N := 6) (Cn := RX2) (T := TX2) rfl rfl (by decide) in_X4_gainOf_X2 lkN_4_63 rfl dX4_gainOf_23 ?_
    refine lv_iload_n hx hb dX4_gainOf_26 rfl (lv_at hl 1 rfl) ?_
    obtain ⟨j_4, hj_4, hf⟩ := chk_use hf
    refine r_ald C h 2 rfl rfl hj_4 dX4_gainOf_27 ?_
    refine lv_isub hx hb dX4_gainOf_28 ?_
    refine lv_goto (tgt := 33) hx hb dX4_gainOf_29 (by decide) ?_
    cases hf
    exact r_iret C h hr hlocks dX4_gainOf_33
def rm_X4_tryWith : Room := { frames := 6, cells := 0, slots := 0, locals := 134 }
set_option maxRecDepth 20000 in
theorem lk_X4_tryWith_16 : Cond.fieldLink RX4 16 "LineDoubler" "trial" "LLineDoubler$State;" ∈ wsX4_tryWith := List.mem_of_getElem? (i := 1) (by decide +kernel)
set_option maxRecDepth 20000 in
theorem lk_X4_tryWith_10 : Cond.fieldLink RX4 10 "LineDoubler" "state" "LLineDoubler$State;" ∈ wsX4_tryWith := List.mem_of_getElem? (i := 2) (by decide +kernel)
set_option maxRecDepth 20000 in
theorem kc_X4_tryWith_114 : Cond.constant RX4 114 (1073741824) ∈ wsX4_tryWith := List.mem_of_getElem? (i := 3) (by decide +kernel)
set_option maxRecDepth 20000 in
theorem in_X4_tryWith_X4 : ∀ x ∈ wsX40, x ∈ wsX4_tryWith := mem_r _ [99, 100, 101, 102, 103] (by decide +kernel)
set_option maxRecDepth 20000 in
theorem in_X4_tryWith_X2 : ∀ x ∈ wsX20, x ∈ wsX4_tryWith := mem_r _ [104, 105, 106, 107, 108, 109] (by decide +kernel)
set_option maxRecDepth 20000 in
theorem cw_X4_tryWith_X2_copyFrom_111 {s : State} {args : Array Value} (hts : ∀ w ∈ wsX4_tryWith, w.before args s = true) : CallW rm_X4_tryWith s args RX4 RX2 111 yX2_copyFrom cX2_copyFrom 2 none wsX2_copyFrom rm_X2_copyFrom 0 0 1 :=
  cwV 1 hts gX4_tryWith_X2_copyFrom rfl rfl rfl (by decide +kernel) ⟨Nat.le_of_ble_eq_true rfl, Nat.le_of_ble_eq_true rfl⟩
set_option maxRecDepth 20000 in
theorem cw_X4_tryWith_X4_isWithin_67 {s : State} {args : Array Value} (hts : ∀ w ∈ wsX4_tryWith, w.before args s = true) : CallB rm_X4_tryWith s args RX4 67 yX4_isWithin cX4_isWithin 3 (some .boolean) wsX4_isWithin rm_X4_isWithin 0 0 3 ∧ (Cond.static yX4_isWithin).before args s = true :=
  va_cwS 3 hts gX4_tryWith_X4_isWithin rfl rfl rfl (by decide +kernel) ⟨Nat.le_of_ble_eq_true rfl, Nat.le_of_ble_eq_true rfl⟩
set_option maxRecDepth 20000 in
theorem cw_X4_tryWith_X2_passTicks_56 {s : State} {args : Array Value} (hts : ∀ w ∈ wsX4_tryWith, w.before args s = true) : CallW rm_X4_tryWith s args RX4 RX2 56 yX2_passTicks cX2_passTicks 6 (some .int) wsX2_passTicks rm_X2_passTicks 0 0 2 :=
  cwV 2 hts gX4_tryWith_X2_passTicks rfl rfl rfl (by decide +kernel) ⟨Nat.le_of_ble_eq_true rfl, Nat.le_of_ble_eq_true rfl⟩
set_option maxHeartbeats 4000000 in
set_option maxRecDepth 100000 in
theorem c_X4_tryWith (l : Launch) (G : va_G) (cI cC cZ : ClassId) (X : List (ClassId × FieldType)) (d0 sl h0 p0 a0 a1 a2 a3 a4 a5 a6 a7 a8 b0 b1 b2 b3 b4 b5 b6 b7 b8 : Nat) (nu : Nat → Int32) (va : Nat → Int32) (qu : Nat → Int32) (sc : Nat → Int32) (lo : Nat → Int32) (wt : Int32) (tnu : Nat → Int32) (tva : Nat → Int32) (tqu : Nat → Int32) (tsc : Nat → Int32) (tlo : Nat → Int32) (twt : Int32) (x1 : Int32) (x2 : Int32) (x3 : Int32) (tnu' : Nat → Int32) (tva' : Nat → Int32) (tqu' : Nat → Int32) (tsc' : Nat → Int32) (tlo' : Nat → Int32) (twt' : Int32) (hf : fX4_tryWith nu va qu sc lo wt tnu tva tqu tsc tlo twt x1 x2 x3 = some (tnu', tva', tqu', tsc', tlo', twt')) : CT l yX4_tryWith wsX4_tryWith rm_X4_tryWith G (TY cI cC cZ X) [.ref d0, .int x1, .int x2, .int x3] (wLDt cI d0 sl h0 p0 a0 a1 a2 a3 a4 a5 a6 a7 a8 b0 b1 b2 b3 b4 b5 b6 b7 b8 nu va qu sc lo wt tnu tva tqu tsc tlo twt) none (wLDt cI d0 sl h0 p0 a0 a1 a2 a3 a4 a5 a6 a7 a8 b0 b1 b2 b3 b4 b5 b6 b7 b8 nu va qu sc lo wt tnu' tva' tqu' tsc' tlo' twt') := by
  refine CT.of (cc := cX4_tryWith) (maxL := 4) (ret := none) RX4 rfl (by decide) rfl (Nat.le_of_ble_eq_true rfl) ?_
  intro p e s m args below meth c A ls C hr hlocks hnm h hl
  have hx := C.hx
  have hb := C.hb
  have hl : lv_has ls 4 [(0, .ref d0), (1, .int x1), (2, .int x2), (3, .int x3)] := hl
  have cut_34 : ∀ (tnu : Nat → Int32) (tva : Nat → Int32) (tqu : Nat → Int32) (tsc : Nat → Int32) (tlo : Nat → Int32) (twt : Int32) (x3 : Int32) (H : Heap) (locs : List Loc) (ls : Array Slot), Hx s G A (wLDt cI d0 sl h0 p0 a0 a1 a2 a3 a4 a5 a6 a7 a8 b0 b1 b2 b3 b4 b5 b6 b7 b8 nu va qu sc lo wt tnu tva tqu tsc tlo twt) H locs → lv_has ls 4 [(0, .ref d0), (3, .int x3)] → fX4_tryWith_34 nu va qu sc lo wt tnu tva tqu tsc tlo twt x3 = some (tnu', tva', tqu', tsc', tlo', twt') → W p l e rm_X4_tryWith s m args below meth c H locs 0 0 (MQ below (Qx G none (wLDt cI d0 sl h0 p0 a0 a1 a2 a3 a4 a5 a6 a7 a8 b0 b1 b2 b3 b4 b5 b6 b7 b8 nu va qu sc lo wt tnu' tva' tqu' tsc' tlo' twt') A) args s 0 0 A) (F0 m 34 ls []) := by
    intro tnu tva tqu tsc tlo twt x3 H locs ls h hl hf
    unfold fX4_tryWith_34 at hf
    refine lv_aload_n hx hb dX4_tryWith_34 rfl (lv_at hl 0 rfl) ?_
    refine r_get C h 0 1 (ci := 4) (N := 5) (Cn := RX4) (T := TX4) rfl rfl (by decide) in_X4_tryWith_X4 lk_X4_tryWith_16 rfl dX4_tryWith_35 ?_
    refine lv_iload_n hx hb dX4_tryWith_38 rfl (lv_at hl 1 rfl) ?_
    refine lv_ldc hx hb C.hown (C.hts _ kc_X4_tryWith_114) dX4_tryWith_39 ?_
    obtain ⟨r_1, tnu_2, tqu_3, tsc_4, tlo_5, twt_6, hq_7, hf⟩ := ob6_use hf
    refine r_callV C h (cw_X4_tryWith_X2_passTicks_56 C.hts) (rest := []) (ci := 2) (N := 6) (Cn := RX2) (T := TX2) (c_X2_passTicks l G cI cC cZ X b0 b1 b2 b3 b4 b5 b6 b7 b8 tnu tva tqu tsc tlo twt x3 (1073741824 : Int32) r_1 tnu_2 tqu_3 tsc_4 tlo_5 twt_6 hq_7) [10, 11, 12, 13, 14, 15, 16, 17, 18] rfl rfl rfl rfl 10 rfl rfl hl.1 rfl (Nat.le_of_ble_eq_true rfl) ⟨Nat.le_of_ble_eq_true rfl, Nat.le_of_ble_eq_true rfl⟩ (wLDt cI d0 sl h0 p0 a0 a1 a2 a3 a4 a5 a6 a7 a8 b0 b1 b2 b3 b4 b5 b6 b7 b8 nu va qu sc lo wt tnu_2 tva tqu_3 tsc_4 tlo_5 twt_6) rfl rfl dX4_tryWith_41 (fun H locs h => ?_)
    refine lv_pop hx hb dX4_tryWith_44 rfl ?_
    cases hf
    exact r_vret C h hr hlocks dX4_tryWith_45
  unfold fX4_tryWith at hf
  refine lv_aload_n hx hb dX4_tryWith_0 rfl (lv_at hl 0 rfl) ?_
  refine r_get C h 0 1 (ci := 4) (N := 5) (Cn := RX4) (T := TX4) rfl rfl (by decide) in_X4_tryWith_X4 lk_X4_tryWith_16 rfl dX4_tryWith_1 ?_
  refine lv_aload_n hx hb dX4_tryWith_4 rfl (lv_at hl 0 rfl) ?_
  refine r_get C h 0 0 (ci := 4) (N := 5) (Cn := RX4) (T := TX4) rfl rfl (by decide) in_X4_tryWith_X4 lk_X4_tryWith_10 rfl dX4_tryWith_5 ?_
  obtain ⟨tnu_1, tva_2, tqu_3, tsc_4, tlo_5, twt_6, hq_7, hf⟩ := ob6_use hf
  refine r_callV C h (cw_X4_tryWith_X2_copyFrom_111 C.hts) (rest := []) (ci := 2) (N := 6) (Cn := RX2) (T := TX2) (c_X2_copyFrom l G cI cC cZ X b0 b1 b2 b3 b4 b5 b6 b7 b8 a0 a1 a2 a3 a4 a5 a6 a7 a8 tnu tva tqu tsc tlo twt nu va qu sc lo wt tnu_1 tva_2 tqu_3 tsc_4 tlo_5 twt_6 hq_7) [10, 11, 12, 13, 14, 15, 16, 17, 18, 1, 2, 3, 4, 5, 6, 7, 8, 9] rfl rfl rfl rfl 10 rfl rfl hl.1 rfl (Nat.le_of_ble_eq_true rfl) ⟨Nat.le_of_ble_eq_true rfl, Nat.le_of_ble_eq_true rfl⟩ (wLDt cI d0 sl h0 p0 a0 a1 a2 a3 a4 a5 a6 a7 a8 b0 b1 b2 b3 b4 b5 b6 b7 b8 nu va qu sc lo wt tnu_1 tva_2 tqu_3 tsc_4 tlo_5 twt_6) rfl rfl dX4_tryWith_8 (fun H locs h => ?_)
  refine lv_iload_n hx hb dX4_tryWith_11 rfl (lv_at hl 1 rfl) ?_
  refine lv_iconst (v := 0) hx hb dX4_tryWith_12 (by decide) ?_
  refine lv_bipush (v := 7) hx hb dX4_tryWith_13 (by decide) ?_
  obtain ⟨r_8, hq_9, hf⟩ := ob1_use hf
  refine r_callS C h (cw_X4_tryWith_X4_isWithin_67 C.hts) (rest := []) (c_X4_isWithin l G cI cC cZ X x1 (0 : Int32) (7 : Int32) r_8 hq_9) [] rfl rfl rfl rfl hl.1 rfl (Nat.le_of_ble_eq_true rfl) ⟨Nat.le_of_ble_eq_true rfl, Nat.le_of_ble_eq_true rfl⟩ (wLDt cI d0 sl h0 p0 a0 a1 a2 a3 a4 a5 a6 a7 a8 b0 b1 b2 b3 b4 b5 b6 b7 b8 nu va qu sc lo wt tnu_1 tva_2 tqu_3 tsc_4 tlo_5 twt_6) rfl rfl dX4_tryWith_15 (fun H locs h => ?_)
  refine lv_if_eq (tgt := 34) hx hb dX4_tryWith_18 (by decide) (fun hc => ?_) (fun hc => ?_)
  · replace hf := it_t hf hc
    exact cut_34 tnu_1 tva_2 tqu_3 tsc_4 tlo_5 twt_6 x3 _ _ _ h (lv_sub hl [0, 3] rfl) hf
  · replace hf := it_f hf hc
    refine lv_aload_n hx hb dX4_tryWith_21 rfl (lv_at hl 0 rfl) ?_
    refine r_get C h 0 1 (ci := 4) (N := 5) (Cn := RX4) (T := TX4) rfl rfl (by decide) in_X4_tryWith_X4 lk_X4_tryWith_16 rfl dX4_tryWith_22 ?_
    refine r_getN C h 10 0 (ci := 2) (N := 6) (Cn := RX2) (T := TX2) rfl rfl (by decide) in_X4_tryWith_X2 lkN_4_63 rfl dX4_tryWith_25 ?_
    refine lv_bipush (v := 16) hx hb dX4_tryWith_28 (by decide) ?_
    refine lv_iload_n hx hb dX4_tryWith_30 rfl (lv_at hl 1 rfl) ?_
    refine lv_iadd hx hb dX4_tryWith_31 ?_
    refine lv_iload_n hx hb dX4_tryWith_32 rfl (lv_at hl 2 rfl) ?_
    obtain ⟨j_10, hj_10, hf⟩ := chk_use hf
    refine r_ast C h 11 rfl rfl hj_10 (fun z__ => (wLDt cI d0 sl h0 p0 a0 a1 a2 a3 a4 a5 a6 a7 a8 b0 b1 b2 b3 b4 b5 b6 b7 b8 nu va qu sc lo wt z__ tva_2 tqu_3 tsc_4 tlo_5 twt_6)) (fun _ => rfl) dX4_tryWith_33 (fun tnu_11 etnu_11 H locs h => ?_)
    replace hf := nm_use hf etnu_11
    exact cut_34 tnu_11 tva_2 tqu_3 tsc_4 tlo_5 twt_6 x3 _ _ _ h (lv_sub hl [0, 3] rfl) hf
def rm_X4_would : Room := { frames := 6, cells := 0, slots := 0, locals := 134 }
set_option maxRecDepth 20000 in
theorem lk_X4_would_16 : Cond.fieldLink RX4 16 "LineDoubler" "trial" "LLineDoubler$State;" ∈ wsX4_would := List.mem_of_getElem? (i := 1) (by decide +kernel)
set_option maxRecDepth 20000 in
theorem lk_X4_would_10 : Cond.fieldLink RX4 10 "LineDoubler" "state" "LLineDoubler$State;" ∈ wsX4_would := List.mem_of_getElem? (i := 2) (by decide +kernel)
set_option maxRecDepth 20000 in
theorem kc_X4_would_114 : Cond.constant RX4 114 (1073741824) ∈ wsX4_would := List.mem_of_getElem? (i := 3) (by decide +kernel)
set_option maxRecDepth 20000 in
theorem in_X4_would_X4 : ∀ x ∈ wsX40, x ∈ wsX4_would := mem_r _ [103, 104, 105, 106, 107] (by decide +kernel)
set_option maxRecDepth 20000 in
theorem cw_X4_would_X4_isWithin_67 {s : State} {args : Array Value} (hts : ∀ w ∈ wsX4_would, w.before args s = true) : CallB rm_X4_would s args RX4 67 yX4_isWithin cX4_isWithin 3 (some .boolean) wsX4_isWithin rm_X4_isWithin 0 0 3 ∧ (Cond.static yX4_isWithin).before args s = true :=
  va_cwS 3 hts gX4_would_X4_isWithin rfl rfl rfl (by decide +kernel) ⟨Nat.le_of_ble_eq_true rfl, Nat.le_of_ble_eq_true rfl⟩
set_option maxRecDepth 20000 in
theorem cw_X4_would_X2_copyFrom_111 {s : State} {args : Array Value} (hts : ∀ w ∈ wsX4_would, w.before args s = true) : CallW rm_X4_would s args RX4 RX2 111 yX2_copyFrom cX2_copyFrom 2 none wsX2_copyFrom rm_X2_copyFrom 0 0 1 :=
  cwV 1 hts gX4_would_X2_copyFrom rfl rfl rfl (by decide +kernel) ⟨Nat.le_of_ble_eq_true rfl, Nat.le_of_ble_eq_true rfl⟩
set_option maxRecDepth 20000 in
theorem cw_X4_would_X2_passTicks_56 {s : State} {args : Array Value} (hts : ∀ w ∈ wsX4_would, w.before args s = true) : CallW rm_X4_would s args RX4 RX2 56 yX2_passTicks cX2_passTicks 6 (some .int) wsX2_passTicks rm_X2_passTicks 0 0 2 :=
  cwV 2 hts gX4_would_X2_passTicks rfl rfl rfl (by decide +kernel) ⟨Nat.le_of_ble_eq_true rfl, Nat.le_of_ble_eq_true rfl⟩
set_option maxRecDepth 20000 in
theorem cw_X4_would_X4_gainOf_115 {s : State} {args : Array Value} (hts : ∀ w ∈ wsX4_would, w.before args s = true) : CallW rm_X4_would s args RX4 RX4 115 yX4_gainOf cX4_gainOf 2 (some .int) wsX4_gainOf rm_X4_gainOf 0 0 1 :=
  cwV 1 hts gX4_would_X4_gainOf rfl rfl rfl (by decide +kernel) ⟨Nat.le_of_ble_eq_true rfl, Nat.le_of_ble_eq_true rfl⟩
set_option maxHeartbeats 4000000 in
set_option maxRecDepth 100000 in
theorem c_X4_would (l : Launch) (G : va_G) (cI cC cZ : ClassId) (X : List (ClassId × FieldType)) (d0 sl h0 p0 a0 a1 a2 a3 a4 a5 a6 a7 a8 b0 b1 b2 b3 b4 b5 b6 b7 b8 : Nat) (nu : Nat → Int32) (va : Nat → Int32) (qu : Nat → Int32) (sc : Nat → Int32) (lo : Nat → Int32) (wt : Int32) (tnu : Nat → Int32) (tva : Nat → Int32) (tqu : Nat → Int32) (tsc : Nat → Int32) (tlo : Nat → Int32) (twt : Int32) (x1 : Int32) (x2 : Int32) (rv : Int32) (tnu' : Nat → Int32) (tva' : Nat → Int32) (tqu' : Nat → Int32) (tsc' : Nat → Int32) (tlo' : Nat → Int32) (twt' : Int32) (hf : fX4_would nu va qu sc lo wt tnu tva tqu tsc tlo twt x1 x2 = some (rv, tnu', tva', tqu', tsc', tlo', twt')) : CT l yX4_would wsX4_would rm_X4_would G (TY cI cC cZ X) [.ref d0, .int x1, .int x2] (wLDt cI d0 sl h0 p0 a0 a1 a2 a3 a4 a5 a6 a7 a8 b0 b1 b2 b3 b4 b5 b6 b7 b8 nu va qu sc lo wt tnu tva tqu tsc tlo twt) (some (.int rv)) (wLDt cI d0 sl h0 p0 a0 a1 a2 a3 a4 a5 a6 a7 a8 b0 b1 b2 b3 b4 b5 b6 b7 b8 nu va qu sc lo wt tnu' tva' tqu' tsc' tlo' twt') := by
  refine CT.of (cc := cX4_would) (maxL := 3) (ret := (some .int)) RX4 rfl (by decide) rfl (Nat.le_of_ble_eq_true rfl) ?_
  intro p e s m args below meth c A ls C hr hlocks hnm h hl
  have hx := C.hx
  have hb := C.hb
  have hl : lv_has ls 3 [(0, .ref d0), (1, .int x1), (2, .int x2)] := hl
  unfold fX4_would at hf
  refine lv_iload_n hx hb dX4_would_0 rfl (lv_at hl 1 rfl) ?_
  refine lv_iconst (v := 1) hx hb dX4_would_1 (by decide) ?_
  refine lv_sipush (v := 999) hx hb dX4_would_2 (by decide) ?_
  obtain ⟨r_1, hq_2, hf⟩ := ob1_use hf
  refine r_callS C h (cw_X4_would_X4_isWithin_67 C.hts) (rest := []) (c_X4_isWithin l G cI cC cZ X x1 (1 : Int32) (999 : Int32) r_1 hq_2) [] rfl rfl rfl rfl hl.1 rfl (Nat.le_of_ble_eq_true rfl) ⟨Nat.le_of_ble_eq_true rfl, Nat.le_of_ble_eq_true rfl⟩ (wLDt cI d0 sl h0 p0 a0 a1 a2 a3 a4 a5 a6 a7 a8 b0 b1 b2 b3 b4 b5 b6 b7 b8 nu va qu sc lo wt tnu tva tqu tsc tlo twt) rfl rfl dX4_would_5 (fun H locs h => ?_)
  refine lv_if_eq (tgt := 20) hx hb dX4_would_8 (by decide) (fun hc => ?_) (fun hc => ?_)
  · replace hf := it_t hf hc
    refine lv_bipush (v := (-2)) hx hb dX4_would_20 (by decide) ?_
    cases hf
    exact r_iret C h hr hlocks dX4_would_22
  · replace hf := it_f hf hc
    refine lv_iload_n hx hb dX4_would_11 rfl (lv_at hl 2 rfl) ?_
    refine lv_iconst (v := 0) hx hb dX4_would_12 (by decide) ?_
    refine lv_iconst (v := 2) hx hb dX4_would_13 (by decide) ?_
    obtain ⟨r_3, hq_4, hf⟩ := ob1_use hf
    refine r_callS C h (cw_X4_would_X4_isWithin_67 C.hts) (rest := []) (c_X4_isWithin l G cI cC cZ X x2 (0 : Int32) (2 : Int32) r_3 hq_4) [] rfl rfl rfl rfl hl.1 rfl (Nat.le_of_ble_eq_true rfl) ⟨Nat.le_of_ble_eq_true rfl, Nat.le_of_ble_eq_true rfl⟩ (wLDt cI d0 sl h0 p0 a0 a1 a2 a3 a4 a5 a6 a7 a8 b0 b1 b2 b3 b4 b5 b6 b7 b8 nu va qu sc lo wt tnu tva tqu tsc tlo twt) rfl rfl dX4_would_14 (fun H locs h => ?_)
    refine lv_if_ne (tgt := 23) hx hb dX4_would_17 (by decide) (fun hc => ?_) (fun hc => ?_)
    · replace hf := it_f hf hc
      refine lv_aload_n hx hb dX4_would_23 rfl (lv_at hl 0 rfl) ?_
      refine r_get C h 0 1 (ci := 4) (N := 5) (Cn := RX4) (T := TX4) rfl rfl (by decide) in_X4_would_X4 lk_X4_would_16 rfl dX4_would_24 ?_
      refine lv_aload_n hx hb dX4_would_27 rfl (lv_at hl 0 rfl) ?_
      refine r_get C h 0 0 (ci := 4) (N := 5) (Cn := RX4) (T := TX4) rfl rfl (by decide) in_X4_would_X4 lk_X4_would_10 rfl dX4_would_28 ?_
      obtain ⟨tnu_5, tva_6, tqu_7, tsc_8, tlo_9, twt_10, hq_11, hf⟩ := ob6_use hf
      refine r_callV C h (cw_X4_would_X2_copyFrom_111 C.hts) (rest := []) (ci := 2) (N := 6) (Cn := RX2) (T := TX2) (c_X2_copyFrom l G cI cC cZ X b0 b1 b2 b3 b4 b5 b6 b7 b8 a0 a1 a2 a3 a4 a5 a6 a7 a8 tnu tva tqu tsc tlo twt nu va qu sc lo wt tnu_5 tva_6 tqu_7 tsc_8 tlo_9 twt_10 hq_11) [10, 11, 12, 13, 14, 15, 16, 17, 18, 1, 2, 3, 4, 5, 6, 7, 8, 9] rfl rfl rfl rfl 10 rfl rfl hl.1 rfl (Nat.le_of_ble_eq_true rfl) ⟨Nat.le_of_ble_eq_true rfl, Nat.le_of_ble_eq_true rfl⟩ (wLDt cI d0 sl h0 p0 a0 a1 a2 a3 a4 a5 a6 a7 a8 b0 b1 b2 b3 b4 b5 b6 b7 b8 nu va qu sc lo wt tnu_5 tva_6 tqu_7 tsc_8 tlo_9 twt_10) rfl rfl dX4_would_31 (fun H locs h => ?_)
      refine lv_aload_n hx hb dX4_would_34 rfl (lv_at hl 0 rfl) ?_
      refine r_get C h 0 1 (ci := 4) (N := 5) (Cn := RX4) (T := TX4) rfl rfl (by decide) in_X4_would_X4 lk_X4_would_16 rfl dX4_would_35 ?_
      refine lv_iload_n hx hb dX4_would_38 rfl (lv_at hl 1 rfl) ?_
      refine lv_ldc hx hb C.hown (C.hts _ kc_X4_would_114) dX4_would_39 ?_
      obtain ⟨r_12, tnu_13, tqu_14, tsc_15, tlo_16, twt_17, hq_18, hf⟩ := ob6_use hf
      refine r_callV C h (cw_X4_would_X2_passTicks_56 C.hts) (rest := []) (ci := 2) (N := 6) (Cn := RX2) (T := TX2) (c_X2_passTicks l G cI cC cZ X b0 b1 b2 b3 b4 b5 b6 b7 b8 tnu_5 tva_6 tqu_7 tsc_8 tlo_9 twt_10 x1 (1073741824 : Int32) r_12 tnu_13 tqu_14 tsc_15 tlo_16 twt_17 hq_18) [10, 11, 12, 13, 14, 15, 16, 17, 18] rfl rfl rfl rfl 10 rfl rfl hl.1 rfl (Nat.le_of_ble_eq_true rfl) ⟨Nat.le_of_ble_eq_true rfl, Nat.le_of_ble_eq_true rfl⟩ (wLDt cI d0 sl h0 p0 a0 a1 a2 a3 a4 a5 a6 a7 a8 b0 b1 b2 b3 b4 b5 b6 b7 b8 nu va qu sc lo wt tnu_13 tva_6 tqu_14 tsc_15 tlo_16 twt_17) rfl rfl dX4_would_41 (fun H locs h => ?_)
      refine lv_pop hx hb dX4_would_44 rfl ?_
      refine lv_iload_n hx hb dX4_would_45 rfl (lv_at hl 2 rfl) ?_
      refine lv_if_ne (tgt := 55) hx hb dX4_would_46 (by decide) (fun hc => ?_) (fun hc => ?_)
      · replace hf := it_f hf hc
        refine lv_iload_n hx hb dX4_would_55 rfl (lv_at hl 2 rfl) ?_
        refine lv_iconst (v := 1) hx hb dX4_would_56 (by decide) ?_
        refine lv_icmp_ne (tgt := 69) hx hb dX4_would_57 (by decide) (fun hc => ?_) (fun hc => ?_)
        · replace hf := it_f hf hc
          refine lv_aload_n hx hb dX4_would_69 rfl (lv_at hl 0 rfl) ?_
          refine lv_bipush (v := 12) hx hb dX4_would_70 (by decide) ?_
          obtain ⟨r_19, hq_20, hf⟩ := ob1_use hf
          refine r_callV C h (cw_X4_would_X4_gainOf_115 C.hts) (rest := []) (ci := 4) (N := 5) (Cn := RX4) (T := TX4) (c_X4_gainOf l G cI cC cZ X d0 sl h0 p0 a0 a1 a2 a3 a4 a5 a6 a7 a8 b0 b1 b2 b3 b4 b5 b6 b7 b8 nu va qu sc lo wt tnu_13 tva_6 tqu_14 tsc_15 tlo_16 twt_17 (12 : Int32) r_19 hq_20) [0, 1, 2, 3, 4, 5, 6, 7, 8, 9, 10, 11, 12, 13, 14, 15, 16, 17, 18] rfl rfl rfl rfl 0 rfl rfl hl.1 rfl (Nat.le_of_ble_eq_true rfl) ⟨Nat.le_of_ble_eq_true rfl, Nat.le_of_ble_eq_true rfl⟩ (wLDt cI d0 sl h0 p0 a0 a1 a2 a3 a4 a5 a6 a7 a8 b0 b1 b2 b3 b4 b5 b6 b7 b8 nu va qu sc lo wt tnu_13 tva_6 tqu_14 tsc_15 tlo_16 twt_17) rfl rfl dX4_would_72 (fun H locs h => ?_)
          cases hf
          exact r_iret C h hr hlocks dX4_would_75
        · replace hf := it_t hf hc
          refine lv_aload_n hx hb dX4_would_60 rfl (lv_at hl 0 rfl) ?_
          refine lv_bipush (v := 6) hx hb dX4_would_61 (by decide) ?_
          obtain ⟨r_21, hq_22, hf⟩ := ob1_use hf
          refine r_callV C h (cw_X4_would_X4_gainOf_115 C.hts) (rest := []) (ci := 4) (N := 5) (Cn := RX4) (T := TX4) (c_X4_gainOf l G cI cC cZ X d0 sl h0 p0 a0 a1 a2 a3 a4 a5 a6 a7 a8 b0 b1 b2 b3 b4 b5 b6 b7 b8 nu va qu sc lo wt tnu_13 tva_6 tqu_14 tsc_15 tlo_16 twt_17 (6 : Int32) r_21 hq_22) [0, 1, 2, 3, 4, 5, 6, 7, 8, 9, 10, 11, 12, 13, 14, 15, 16, 17, 18] rfl rfl rfl rfl 0 rfl rfl hl.1 rfl (Nat.le_of_ble_eq_true rfl) ⟨Nat.le_of_ble_eq_true rfl, Nat.le_of_ble_eq_true rfl⟩ (wLDt cI d0 sl h0 p0 a0 a1 a2 a3 a4 a5 a6 a7 a8 b0 b1 b2 b3 b4 b5 b6 b7 b8 nu va qu sc lo wt tnu_13 tva_6 tqu_14 tsc_15 tlo_16 twt_17) rfl rfl dX4_would_63 (fun H locs h => ?_)
          refine lv_goto (tgt := 75) hx hb dX4_would_66 (by decide) ?_
          cases hf
          exact r_iret C h hr hlocks dX4_would_75
      · replace hf := it_t hf hc
        refine lv_aload_n hx hb dX4_would_49 rfl (lv_at hl 0 rfl) ?_
        refine lv_iconst (v := 4) hx hb dX4_would_50 (by decide) ?_
        obtain ⟨r_23, hq_24, hf⟩ := ob1_use hf
        refine r_callV C h (cw_X4_would_X4_gainOf_115 C.hts) (rest := []) (ci := 4) (N := 5) (Cn := RX4) (T := TX4) (c_X4_gainOf l G cI cC cZ X d0 sl h0 p0 a0 a1 a2 a3 a4 a5 a6 a7 a8 b0 b1 b2 b3 b4 b5 b6 b7 b8 nu va qu sc lo wt tnu_13 tva_6 tqu_14 tsc_15 tlo_16 twt_17 (4 : Int32) r_23 hq_24) [0, 1, 2, 3, 4, 5, 6, 7, 8, 9, 10, 11, 12, 13, 14, 15, 16, 17, 18] rfl rfl rfl rfl 0 rfl rfl hl.1 rfl (Nat.le_of_ble_eq_true rfl) ⟨Nat.le_of_ble_eq_true rfl, Nat.le_of_ble_eq_true rfl⟩ (wLDt cI d0 sl h0 p0 a0 a1 a2 a3 a4 a5 a6 a7 a8 b0 b1 b2 b3 b4 b5 b6 b7 b8 nu va qu sc lo wt tnu_13 tva_6 tqu_14 tsc_15 tlo_16 twt_17) rfl rfl dX4_would_51 (fun H locs h => ?_)
        cases hf
        exact r_iret C h hr hlocks dX4_would_54
    · replace hf := it_t hf hc
      refine lv_bipush (v := (-2)) hx hb dX4_would_20 (by decide) ?_
      cases hf
      exact r_iret C h hr hlocks dX4_would_22
def rm_X4_leastRoom : Room := { frames := 7, cells := 0, slots := 0, locals := 157 }
set_option maxRecDepth 20000 in
theorem lk_X4_leastRoom_10 : Cond.fieldLink RX4 10 "LineDoubler" "state" "LLineDoubler$State;" ∈ wsX4_leastRoom := List.mem_of_getElem? (i := 1) (by decide +kernel)
set_option maxRecDepth 20000 in
theorem lm_X4_leastRoom_118 : Cond.methodLink RX4 118 Lib.Math.max.name ∈ wsX4_leastRoom := List.mem_of_getElem? (i := 2) (by decide +kernel)
set_option maxRecDepth 20000 in
theorem ls_X4_leastRoom_max : Cond.static Lib.Math.max.name ∈ wsX4_leastRoom := List.mem_of_getElem? (i := 3) (by decide +kernel)
set_option maxRecDepth 20000 in
theorem li_X4_leastRoom_Math : Cond.initialized "java/lang/Math" ∈ wsX4_leastRoom := List.mem_of_getElem? (i := 4) (by decide +kernel)
set_option maxRecDepth 20000 in
theorem lc_X4_leastRoom_max : Cond.code Lib.Math.max.name Lib.Math.max.code 2 (some .int) ∈ wsX4_leastRoom := List.mem_of_getElem? (i := 5) (by decide +kernel)
set_option maxRecDepth 20000 in
theorem in_X4_leastRoom_X4 : ∀ x ∈ wsX40, x ∈ wsX4_leastRoom := mem_r _ [108, 109, 110, 111, 112] (by decide +kernel)
set_option maxRecDepth 20000 in
theorem in_X4_leastRoom_X2 : ∀ x ∈ wsX20, x ∈ wsX4_leastRoom := mem_r _ [113, 114, 115, 116, 117, 118] (by decide +kernel)
set_option maxRecDepth 20000 in
theorem cw_X4_leastRoom_X4_isWithin_67 {s : State} {args : Array Value} (hts : ∀ w ∈ wsX4_leastRoom, w.before args s = true) : CallB rm_X4_leastRoom s args RX4 67 yX4_isWithin cX4_isWithin 3 (some .boolean) wsX4_isWithin rm_X4_isWithin 0 0 3 ∧ (Cond.static yX4_isWithin).before args s = true :=
  va_cwS 3 hts gX4_leastRoom_X4_isWithin rfl rfl rfl (by decide +kernel) ⟨Nat.le_of_ble_eq_true rfl, Nat.le_of_ble_eq_true rfl⟩
set_option maxRecDepth 20000 in
theorem cw_X4_leastRoom_X4_tryWith_121 {s : State} {args : Array Value} (hts : ∀ w ∈ wsX4_leastRoom, w.before args s = true) : CallW rm_X4_leastRoom s args RX4 RX4 121 yX4_tryWith cX4_tryWith 4 none wsX4_tryWith rm_X4_tryWith 0 0 3 :=
  cwV 3 hts gX4_leastRoom_X4_tryWith rfl rfl rfl (by decide +kernel) ⟨Nat.le_of_ble_eq_true rfl, Nat.le_of_ble_eq_true rfl⟩
set_option maxRecDepth 20000 in
theorem cw_X4_leastRoom_X4_gainOf_115 {s : State} {args : Array Value} (hts : ∀ w ∈ wsX4_leastRoom, w.before args s = true) : CallW rm_X4_leastRoom s args RX4 RX4 115 yX4_gainOf cX4_gainOf 2 (some .int) wsX4_gainOf rm_X4_gainOf 0 0 1 :=
  cwV 1 hts gX4_leastRoom_X4_gainOf rfl rfl rfl (by decide +kernel) ⟨Nat.le_of_ble_eq_true rfl, Nat.le_of_ble_eq_true rfl⟩
set_option maxHeartbeats 4000000 in
set_option maxRecDepth 100000 in
theorem c_X4_leastRoom (l : Launch) (G : va_G) (cI cC cZ : ClassId) (X : List (ClassId × FieldType)) (d0 sl h0 p0 a0 a1 a2 a3 a4 a5 a6 a7 a8 b0 b1 b2 b3 b4 b5 b6 b7 b8 : Nat) (nu : Nat → Int32) (va : Nat → Int32) (qu : Nat → Int32) (sc : Nat → Int32) (lo : Nat → Int32) (wt : Int32) (tnu : Nat → Int32) (tva : Nat → Int32) (tqu : Nat → Int32) (tsc : Nat → Int32) (tlo : Nat → Int32) (twt : Int32) (x1 : Int32) (rv : Int32) (tnu' : Nat → Int32) (tva' : Nat → Int32) (tqu' : Nat → Int32) (tsc' : Nat → Int32) (tlo' : Nat → Int32) (twt' : Int32) (hf : fX4_leastRoom nu va qu sc lo wt tnu tva tqu tsc tlo twt x1 = some (rv, tnu', tva', tqu', tsc', tlo', twt')) : CT l yX4_leastRoom wsX4_leastRoom rm_X4_leastRoom G (TY cI cC cZ X) [.ref d0, .int x1] (wLDt cI d0 sl h0 p0 a0 a1 a2 a3 a4 a5 a6 a7 a8 b0 b1 b2 b3 b4 b5 b6 b7 b8 nu va qu sc lo wt tnu tva tqu tsc tlo twt) (some (.int rv)) (wLDt cI d0 sl h0 p0 a0 a1 a2 a3 a4 a5 a6 a7 a8 b0 b1 b2 b3 b4 b5 b6 b7 b8 nu va qu sc lo wt tnu' tva' tqu' tsc' tlo' twt') := by
  refine CT.of (cc := cX4_leastRoom) (maxL := 3) (ret := (some .int)) RX4 rfl (by decide) rfl (Nat.le_of_ble_eq_true rfl) ?_
  intro p e s m args below meth c A ls C hr hlocks hnm h hl
  have hx := C.hx
  have hb := C.hb
  have hl : lv_has ls 3 [(0, .ref d0), (1, .int x1)] := hl
  have cut_28 : ∀ (n : Nat) (tnu : Nat → Int32) (tva : Nat → Int32) (tqu : Nat → Int32) (tsc : Nat → Int32) (tlo : Nat → Int32) (twt : Int32) (x1 : Int32) (x2 : Int32) (H : Heap) (locs : List Loc) (ls : Array Slot), Hx s G A (wLDt cI d0 sl h0 p0 a0 a1 a2 a3 a4 a5 a6 a7 a8 b0 b1 b2 b3 b4 b5 b6 b7 b8 nu va qu sc lo wt tnu tva tqu tsc tlo twt) H locs → lv_has ls 3 [(0, .ref d0), (1, .int x1), (2, .int x2)] → fX4_leastRoom_28 n nu va qu sc lo wt tnu tva tqu tsc tlo twt x1 x2 = some (rv, tnu', tva', tqu', tsc', tlo', twt') → W p l e rm_X4_leastRoom s m args below meth c H locs 0 0 (MQ below (Qx G (some (.int rv)) (wLDt cI d0 sl h0 p0 a0 a1 a2 a3 a4 a5 a6 a7 a8 b0 b1 b2 b3 b4 b5 b6 b7 b8 nu va qu sc lo wt tnu' tva' tqu' tsc' tlo' twt') A) args s 0 0 A) (F0 m 28 ls []) := by
    intro n
    induction n with
    | zero =>
      intro tnu tva tqu tsc tlo twt x1 x2 H locs ls h hl hf
      exact (nn_some _ hf).elim
    | succ n ih =>
      intro tnu tva tqu tsc tlo twt x1 x2 H locs ls h hl hf
      have hf : fX4_leastRoom_28_b (fX4_leastRoom_28 n) nu va qu sc lo wt tnu tva tqu tsc tlo twt x1 x2 = some (rv, tnu', tva', tqu', tsc', tlo', twt') := hf
      unfold fX4_leastRoom_28_b at hf
      refine lv_iload_n hx hb dX4_leastRoom_28 rfl (lv_at hl 2 rfl) ?_
      refine lv_bipush (v := 16) hx hb dX4_leastRoom_29 (by decide) ?_
      refine lv_icmp_gt (tgt := 57) hx hb dX4_leastRoom_31 (by decide) (fun hc => ?_) (fun hc => ?_)
      · replace hf := it_t hf hc
        refine lv_bipush (v := (-6)) hx hb dX4_leastRoom_57 (by decide) ?_
        cases hf
        exact r_iret C h hr hlocks dX4_leastRoom_59
      · replace hf := it_f hf hc
        refine lv_aload_n hx hb dX4_leastRoom_34 rfl (lv_at hl 0 rfl) ?_
        refine lv_iconst (v := 2) hx hb dX4_leastRoom_35 (by decide) ?_
        refine lv_iload_n hx hb dX4_leastRoom_36 rfl (lv_at hl 2 rfl) ?_
        refine lv_iload_n hx hb dX4_leastRoom_37 rfl (lv_at hl 1 rfl) ?_
        obtain ⟨tnu_1, tva_2, tqu_3, tsc_4, tlo_5, twt_6, hq_7, hf⟩ := ob6_use hf
        refine r_callV C h (cw_X4_leastRoom_X4_tryWith_121 C.hts) (rest := []) (ci := 4) (N := 5) (Cn := RX4) (T := TX4) (c_X4_tryWith l G cI cC cZ X d0 sl h0 p0 a0 a1 a2 a3 a4 a5 a6 a7 a8 b0 b1 b2 b3 b4 b5 b6 b7 b8 nu va qu sc lo wt tnu tva tqu tsc tlo twt (2 : Int32) x2 x1 tnu_1 tva_2 tqu_3 tsc_4 tlo_5 twt_6 hq_7) [0, 1, 2, 3, 4, 5, 6, 7, 8, 9, 10, 11, 12, 13, 14, 15, 16, 17, 18] rfl rfl rfl rfl 0 rfl rfl hl.1 rfl (Nat.le_of_ble_eq_true rfl) ⟨Nat.le_of_ble_eq_true rfl, Nat.le_of_ble_eq_true rfl⟩ (wLDt cI d0 sl h0 p0 a0 a1 a2 a3 a4 a5 a6 a7 a8 b0 b1 b2 b3 b4 b5 b6 b7 b8 nu va qu sc lo wt tnu_1 tva_2 tqu_3 tsc_4 tlo_5 twt_6) rfl rfl dX4_leastRoom_38 (fun H locs h => ?_)
        refine lv_aload_n hx hb dX4_leastRoom_41 rfl (lv_at hl 0 rfl) ?_
        refine lv_iconst (v := 4) hx hb dX4_leastRoom_42 (by decide) ?_
        obtain ⟨r_8, hq_9, hf⟩ := ob1_use hf
        refine r_callV C h (cw_X4_leastRoom_X4_gainOf_115 C.hts) (rest := []) (ci := 4) (N := 5) (Cn := RX4) (T := TX4) (c_X4_gainOf l G cI cC cZ X d0 sl h0 p0 a0 a1 a2 a3 a4 a5 a6 a7 a8 b0 b1 b2 b3 b4 b5 b6 b7 b8 nu va qu sc lo wt tnu_1 tva_2 tqu_3 tsc_4 tlo_5 twt_6 (4 : Int32) r_8 hq_9) [0, 1, 2, 3, 4, 5, 6, 7, 8, 9, 10, 11, 12, 13, 14, 15, 16, 17, 18] rfl rfl rfl rfl 0 rfl rfl hl.1 rfl (Nat.le_of_ble_eq_true rfl) ⟨Nat.le_of_ble_eq_true rfl, Nat.le_of_ble_eq_true rfl⟩ (wLDt cI d0 sl h0 p0 a0 a1 a2 a3 a4 a5 a6 a7 a8 b0 b1 b2 b3 b4 b5 b6 b7 b8 nu va qu sc lo wt tnu_1 tva_2 tqu_3 tsc_4 tlo_5 twt_6) rfl rfl dX4_leastRoom_43 (fun H locs h => ?_)
        refine lv_if_ne (tgt := 51) hx hb dX4_leastRoom_46 (by decide) (fun hc => ?_) (fun hc => ?_)
        · replace hf := it_f hf hc
          obtain ⟨x2_10, ex2_10⟩ : ∃ y : Int32, y = x2 + 1 := ⟨_, rfl⟩
          replace hf := nm_use hf ex2_10
          refine lv_iinc (v := x2_10) (lv' := [(2, .int x2_10), (0, .ref d0), (1, .int x1)]) hx hb dX4_leastRoom_51 hl (k := 2) rfl (by rw [ex2_10]; rfl) (by decide) rfl (fun ls hl => ?_)
          refine lv_goto (tgt := 28) hx hb dX4_leastRoom_54 (by decide) ?_
          exact ih tnu_1 tva_2 tqu_3 tsc_4 tlo_5 twt_6 x1 x2_10 _ _ _ h (lv_sub hl [1, 2, 0] rfl) hf
        · replace hf := it_t hf hc
          refine lv_iload_n hx hb dX4_leastRoom_49 rfl (lv_at hl 2 rfl) ?_
          cases hf
          exact r_iret C h hr hlocks dX4_leastRoom_50
  unfold fX4_leastRoom at hf
  refine lv_iload_n hx hb dX4_leastRoom_0 rfl (lv_at hl 1 rfl) ?_
  refine lv_iconst (v := 1) hx hb dX4_leastRoom_1 (by decide) ?_
  refine lv_sipush (v := 999) hx hb dX4_leastRoom_2 (by decide) ?_
  obtain ⟨r_1, hq_2, hf⟩ := ob1_use hf
  refine r_callS C h (cw_X4_leastRoom_X4_isWithin_67 C.hts) (rest := []) (c_X4_isWithin l G cI cC cZ X x1 (1 : Int32) (999 : Int32) r_1 hq_2) [] rfl rfl rfl rfl hl.1 rfl (Nat.le_of_ble_eq_true rfl) ⟨Nat.le_of_ble_eq_true rfl, Nat.le_of_ble_eq_true rfl⟩ (wLDt cI d0 sl h0 p0 a0 a1 a2 a3 a4 a5 a6 a7 a8 b0 b1 b2 b3 b4 b5 b6 b7 b8 nu va qu sc lo wt tnu tva tqu tsc tlo twt) rfl rfl dX4_leastRoom_5 (fun H locs h => ?_)
  refine lv_if_ne (tgt := 14) hx hb dX4_leastRoom_8 (by decide) (fun hc => ?_) (fun hc => ?_)
  · replace hf := it_f hf hc
    refine lv_iconst (v := 1) hx hb dX4_leastRoom_14 (by decide) ?_
    refine lv_aload_n hx hb dX4_leastRoom_15 rfl (lv_at hl 0 rfl) ?_
    refine r_get C h 0 0 (ci := 4) (N := 5) (Cn := RX4) (T := TX4) rfl rfl (by decide) in_X4_leastRoom_X4 lk_X4_leastRoom_10 rfl dX4_leastRoom_16 ?_
    refine r_getN C h 1 0 (ci := 2) (N := 6) (Cn := RX2) (T := TX2) rfl rfl (by decide) in_X4_leastRoom_X2 lkN_4_63 rfl dX4_leastRoom_19 ?_
    refine lv_iconst (v := 2) hx hb dX4_leastRoom_22 (by decide) ?_
    refine r_ald C h 2 rfl rfl k_2_24 dX4_leastRoom_23 ?_
    refine r_max C hl.1 lm_X4_leastRoom_118 ls_X4_leastRoom_max li_X4_leastRoom_Math lc_X4_leastRoom_max (Nat.le_of_ble_eq_true rfl) (Nat.le_of_ble_eq_true rfl) (Nat.le_of_ble_eq_true rfl) (Nat.le_of_ble_eq_true rfl) dX4_leastRoom_24 ?_
    refine lv_topi (fun x2_3 ex2_3 => ?_)
    replace hf := nm_use hf ex2_3
    refine lv_istore_n (lv' := [(2, .int x2_3), (0, .ref d0), (1, .int x1)]) hx hb dX4_leastRoom_27 rfl hl (by decide) rfl (fun ls hl => ?_)
    exact cut_28 KF tnu tva tqu tsc tlo twt x1 x2_3 _ _ _ h (lv_sub hl [1, 2, 0] rfl) hf
  · replace hf := it_t hf hc
    refine lv_bipush (v := (-2)) hx hb dX4_leastRoom_11 (by decide) ?_
    cases hf
    exact r_iret C h hr hlocks dX4_leastRoom_13
def rm_X4_bestOut : Room := { frames := 7, cells := 0, slots := 0, locals := 157 }
set_option maxRecDepth 20000 in
theorem kc_X4_bestOut_114 : Cond.constant RX4 114 (1073741824) ∈ wsX4_bestOut := List.mem_of_getElem? (i := 1) (by decide +kernel)
set_option maxRecDepth 20000 in
theorem cw_X4_bestOut_X4_isWithin_67 {s : State} {args : Array Value} (hts : ∀ w ∈ wsX4_bestOut, w.before args s = true) : CallB rm_X4_bestOut s args RX4 67 yX4_isWithin cX4_isWithin 3 (some .boolean) wsX4_isWithin rm_X4_isWithin 0 0 3 ∧ (Cond.static yX4_isWithin).before args s = true :=
  va_cwS 3 hts gX4_bestOut_X4_isWithin rfl rfl rfl (by decide +kernel) ⟨Nat.le_of_ble_eq_true rfl, Nat.le_of_ble_eq_true rfl⟩
set_option maxRecDepth 20000 in
theorem cw_X4_bestOut_X4_tryWith_121 {s : State} {args : Array Value} (hts : ∀ w ∈ wsX4_bestOut, w.before args s = true) : CallW rm_X4_bestOut s args RX4 RX4 121 yX4_tryWith cX4_tryWith 4 none wsX4_tryWith rm_X4_tryWith 0 0 3 :=
  cwV 3 hts gX4_bestOut_X4_tryWith rfl rfl rfl (by decide +kernel) ⟨Nat.le_of_ble_eq_true rfl, Nat.le_of_ble_eq_true rfl⟩
set_option maxRecDepth 20000 in
theorem cw_X4_bestOut_X4_gainOf_115 {s : State} {args : Array Value} (hts : ∀ w ∈ wsX4_bestOut, w.before args s = true) : CallW rm_X4_bestOut s args RX4 RX4 115 yX4_gainOf cX4_gainOf 2 (some .int) wsX4_gainOf rm_X4_gainOf 0 0 1 :=
  cwV 1 hts gX4_bestOut_X4_gainOf rfl rfl rfl (by decide +kernel) ⟨Nat.le_of_ble_eq_true rfl, Nat.le_of_ble_eq_true rfl⟩
set_option maxHeartbeats 4000000 in
set_option maxRecDepth 100000 in
theorem c_X4_bestOut (l : Launch) (G : va_G) (cI cC cZ : ClassId) (X : List (ClassId × FieldType)) (d0 sl h0 p0 a0 a1 a2 a3 a4 a5 a6 a7 a8 b0 b1 b2 b3 b4 b5 b6 b7 b8 : Nat) (nu : Nat → Int32) (va : Nat → Int32) (qu : Nat → Int32) (sc : Nat → Int32) (lo : Nat → Int32) (wt : Int32) (tnu : Nat → Int32) (tva : Nat → Int32) (tqu : Nat → Int32) (tsc : Nat → Int32) (tlo : Nat → Int32) (twt : Int32) (x1 : Int32) (x2 : Int32) (rv : Int32) (tnu' : Nat → Int32) (tva' : Nat → Int32) (tqu' : Nat → Int32) (tsc' : Nat → Int32) (tlo' : Nat → Int32) (twt' : Int32) (hf : fX4_bestOut nu va qu sc lo wt tnu tva tqu tsc tlo twt x1 x2 = some (rv, tnu', tva', tqu', tsc', tlo', twt')) : CT l yX4_bestOut wsX4_bestOut rm_X4_bestOut G (TY cI cC cZ X) [.ref d0, .int x1, .int x2] (wLDt cI d0 sl h0 p0 a0 a1 a2 a3 a4 a5 a6 a7 a8 b0 b1 b2 b3 b4 b5 b6 b7 b8 nu va qu sc lo wt tnu tva tqu tsc tlo twt) (some (.int rv)) (wLDt cI d0 sl h0 p0 a0 a1 a2 a3 a4 a5 a6 a7 a8 b0 b1 b2 b3 b4 b5 b6 b7 b8 nu va qu sc lo wt tnu' tva' tqu' tsc' tlo' twt') := by
  refine CT.of (cc := cX4_bestOut) (maxL := 7) (ret := (some .int)) RX4 rfl (by decide) rfl (Nat.le_of_ble_eq_true rfl) ?_
  intro p e s m args below meth c A ls C hr hlocks hnm h hl
  have hx := C.hx
  have hb := C.hb
  have hl : lv_has ls 7 [(0, .ref d0), (1, .int x1), (2, .int x2)] := hl
  have cut_32 : ∀ (n : Nat) (tnu : Nat → Int32) (tva : Nat → Int32) (tqu : Nat → Int32) (tsc : Nat → Int32) (tlo : Nat → Int32) (twt : Int32) (x1 : Int32) (x2 : Int32) (x3 : Int32) (x4 : Int32) (x5 : Int32) (H : Heap) (locs : List Loc) (ls : Array Slot), Hx s G A (wLDt cI d0 sl h0 p0 a0 a1 a2 a3 a4 a5 a6 a7 a8 b0 b1 b2 b3 b4 b5 b6 b7 b8 nu va qu sc lo wt tnu tva tqu tsc tlo twt) H locs → lv_has ls 7 [(0, .ref d0), (1, .int x1), (2, .int x2), (3, .int x3), (4, .int x4), (5, .int x5)] → fX4_bestOut_32 n nu va qu sc lo wt tnu tva tqu tsc tlo twt x1 x2 x3 x4 x5 = some (rv, tnu', tva', tqu', tsc', tlo', twt') → W p l e rm_X4_bestOut s m args below meth c H locs 0 0 (MQ below (Qx G (some (.int rv)) (wLDt cI d0 sl h0 p0 a0 a1 a2 a3 a4 a5 a6 a7 a8 b0 b1 b2 b3 b4 b5 b6 b7 b8 nu va qu sc lo wt tnu' tva' tqu' tsc' tlo' twt') A) args s 0 0 A) (F0 m 32 ls []) := by
    intro n
    induction n with
    | zero =>
      intro tnu tva tqu tsc tlo twt x1 x2 x3 x4 x5 H locs ls h hl hf
      exact (nn_some _ hf).elim
    | succ n ih =>
      intro tnu tva tqu tsc tlo twt x1 x2 x3 x4 x5 H locs ls h hl hf
      have hf : fX4_bestOut_32_b (fX4_bestOut_32 n) nu va qu sc lo wt tnu tva tqu tsc tlo twt x1 x2 x3 x4 x5 = some (rv, tnu', tva', tqu', tsc', tlo', twt') := hf
      unfold fX4_bestOut_32_b at hf
      refine lv_iload hx hb dX4_bestOut_32 (lv_at hl 5 rfl) ?_
      refine lv_bipush (v := 99) hx hb dX4_bestOut_34 (by decide) ?_
      refine lv_icmp_gt (tgt := 81) hx hb dX4_bestOut_36 (by decide) (fun hc => ?_) (fun hc => ?_)
      · replace hf := it_t hf hc
        refine lv_iload_n hx hb dX4_bestOut_81 rfl (lv_at hl 2 rfl) ?_
        refine lv_if_ne (tgt := 89) hx hb dX4_bestOut_82 (by decide) (fun hc => ?_) (fun hc => ?_)
        · replace hf := it_f hf hc
          refine lv_iload hx hb dX4_bestOut_89 (lv_at hl 4 rfl) ?_
          cases hf
          exact r_iret C h hr hlocks dX4_bestOut_91
        · replace hf := it_t hf hc
          refine lv_iload_n hx hb dX4_bestOut_85 rfl (lv_at hl 3 rfl) ?_
          refine lv_goto (tgt := 91) hx hb dX4_bestOut_86 (by decide) ?_
          cases hf
          exact r_iret C h hr hlocks dX4_bestOut_91
      · replace hf := it_f hf hc
        refine lv_aload_n hx hb dX4_bestOut_39 rfl (lv_at hl 0 rfl) ?_
        refine lv_iconst (v := 1) hx hb dX4_bestOut_40 (by decide) ?_
        refine lv_iload hx hb dX4_bestOut_41 (lv_at hl 5 rfl) ?_
        refine lv_iload_n hx hb dX4_bestOut_43 rfl (lv_at hl 1 rfl) ?_
        obtain ⟨tnu_1, tva_2, tqu_3, tsc_4, tlo_5, twt_6, hq_7, hf⟩ := ob6_use hf
        refine r_callV C h (cw_X4_bestOut_X4_tryWith_121 C.hts) (rest := []) (ci := 4) (N := 5) (Cn := RX4) (T := TX4) (c_X4_tryWith l G cI cC cZ X d0 sl h0 p0 a0 a1 a2 a3 a4 a5 a6 a7 a8 b0 b1 b2 b3 b4 b5 b6 b7 b8 nu va qu sc lo wt tnu tva tqu tsc tlo twt (1 : Int32) x5 x1 tnu_1 tva_2 tqu_3 tsc_4 tlo_5 twt_6 hq_7) [0, 1, 2, 3, 4, 5, 6, 7, 8, 9, 10, 11, 12, 13, 14, 15, 16, 17, 18] rfl rfl rfl rfl 0 rfl rfl hl.1 rfl (Nat.le_of_ble_eq_true rfl) ⟨Nat.le_of_ble_eq_true rfl, Nat.le_of_ble_eq_true rfl⟩ (wLDt cI d0 sl h0 p0 a0 a1 a2 a3 a4 a5 a6 a7 a8 b0 b1 b2 b3 b4 b5 b6 b7 b8 nu va qu sc lo wt tnu_1 tva_2 tqu_3 tsc_4 tlo_5 twt_6) rfl rfl dX4_bestOut_44 (fun H locs h => ?_)
        refine lv_aload_n hx hb dX4_bestOut_47 rfl (lv_at hl 0 rfl) ?_
        refine lv_iconst (v := 4) hx hb dX4_bestOut_48 (by decide) ?_
        obtain ⟨r_8, hq_9, hf⟩ := ob1_use hf
        refine r_callV C h (cw_X4_bestOut_X4_gainOf_115 C.hts) (rest := []) (ci := 4) (N := 5) (Cn := RX4) (T := TX4) (c_X4_gainOf l G cI cC cZ X d0 sl h0 p0 a0 a1 a2 a3 a4 a5 a6 a7 a8 b0 b1 b2 b3 b4 b5 b6 b7 b8 nu va qu sc lo wt tnu_1 tva_2 tqu_3 tsc_4 tlo_5 twt_6 (4 : Int32) r_8 hq_9) [0, 1, 2, 3, 4, 5, 6, 7, 8, 9, 10, 11, 12, 13, 14, 15, 16, 17, 18] rfl rfl rfl rfl 0 rfl rfl hl.1 rfl (Nat.le_of_ble_eq_true rfl) ⟨Nat.le_of_ble_eq_true rfl, Nat.le_of_ble_eq_true rfl⟩ (wLDt cI d0 sl h0 p0 a0 a1 a2 a3 a4 a5 a6 a7 a8 b0 b1 b2 b3 b4 b5 b6 b7 b8 nu va qu sc lo wt tnu_1 tva_2 tqu_3 tsc_4 tlo_5 twt_6) rfl rfl dX4_bestOut_49 (fun H locs h => ?_)
        refine lv_aload_n hx hb dX4_bestOut_52 rfl (lv_at hl 0 rfl) ?_
        refine lv_bipush (v := 6) hx hb dX4_bestOut_53 (by decide) ?_
        obtain ⟨r_10, hq_11, hf⟩ := ob1_use hf
        refine r_callV C h (cw_X4_bestOut_X4_gainOf_115 C.hts) (rest := [.int r_8]) (ci := 4) (N := 5) (Cn := RX4) (T := TX4) (c_X4_gainOf l G cI cC cZ X d0 sl h0 p0 a0 a1 a2 a3 a4 a5 a6 a7 a8 b0 b1 b2 b3 b4 b5 b6 b7 b8 nu va qu sc lo wt tnu_1 tva_2 tqu_3 tsc_4 tlo_5 twt_6 (6 : Int32) r_10 hq_11) [0, 1, 2, 3, 4, 5, 6, 7, 8, 9, 10, 11, 12, 13, 14, 15, 16, 17, 18] rfl rfl rfl rfl 0 rfl rfl hl.1 rfl (Nat.le_of_ble_eq_true rfl) ⟨Nat.le_of_ble_eq_true rfl, Nat.le_of_ble_eq_true rfl⟩ (wLDt cI d0 sl h0 p0 a0 a1 a2 a3 a4 a5 a6 a7 a8 b0 b1 b2 b3 b4 b5 b6 b7 b8 nu va qu sc lo wt tnu_1 tva_2 tqu_3 tsc_4 tlo_5 twt_6) rfl rfl dX4_bestOut_55 (fun H locs h => ?_)
        refine lv_iadd hx hb dX4_bestOut_58 ?_
        refine lv_topi (fun x6_12 ex6_12 => ?_)
        replace hf := nm_use hf ex6_12
        refine lv_istore (lv' := [(6, .int x6_12), (0, .ref d0), (1, .int x1), (2, .int x2), (3, .int x3), (4, .int x4), (5, .int x5)]) hx hb dX4_bestOut_59 hl (by decide) rfl (fun ls hl => ?_)
        refine lv_iload hx hb dX4_bestOut_61 (lv_at hl 0 rfl) ?_
        refine lv_iload hx hb dX4_bestOut_63 (lv_at hl 5 rfl) ?_
        refine lv_icmp_ge (tgt := 75) hx hb dX4_bestOut_65 (by decide) (fun hc => ?_) (fun hc => ?_)
        · replace hf := it_t hf hc
          obtain ⟨x5_13, ex5_13⟩ : ∃ y : Int32, y = x5 + 1 := ⟨_, rfl⟩
          replace hf := nm_use hf ex5_13
          refine lv_iinc (v := x5_13) (lv' := [(5, .int x5_13), (6, .int x6_12), (0, .ref d0), (1, .int x1), (2, .int x2), (3, .int x3), (4, .int x4)]) hx hb dX4_bestOut_75 hl (k := 6) rfl (by rw [ex5_13]; rfl) (by decide) rfl (fun ls hl => ?_)
          refine lv_goto (tgt := 32) hx hb dX4_bestOut_78 (by decide) ?_
          exact ih tnu_1 tva_2 tqu_3 tsc_4 tlo_5 twt_6 x1 x2 x3 x4 x5_13 _ _ _ h (lv_sub hl [2, 3, 4, 5, 6, 0] rfl) hf
        · replace hf := it_f hf hc
          refine lv_iload hx hb dX4_bestOut_68 (lv_at hl 6 rfl) ?_
          refine lv_istore_n (lv' := [(3, .int x5), (6, .int x6_12), (0, .ref d0), (1, .int x1), (2, .int x2), (4, .int x4), (5, .int x5)]) hx hb dX4_bestOut_70 rfl hl (by decide) rfl (fun ls hl => ?_)
          refine lv_iload hx hb dX4_bestOut_71 (lv_at hl 1 rfl) ?_
          refine lv_istore (lv' := [(4, .int x6_12), (3, .int x5), (6, .int x6_12), (0, .ref d0), (1, .int x1), (2, .int x2), (5, .int x5)]) hx hb dX4_bestOut_73 hl (by decide) rfl (fun ls hl => ?_)
          obtain ⟨x5_14, ex5_14⟩ : ∃ y : Int32, y = x5 + 1 := ⟨_, rfl⟩
          replace hf := nm_use hf ex5_14
          refine lv_iinc (v := x5_14) (lv' := [(5, .int x5_14), (4, .int x6_12), (3, .int x5), (6, .int x6_12), (0, .ref d0), (1, .int x1), (2, .int x2)]) hx hb dX4_bestOut_75 hl (k := 6) rfl (by rw [ex5_14]; rfl) (by decide) rfl (fun ls hl => ?_)
          refine lv_goto (tgt := 32) hx hb dX4_bestOut_78 (by decide) ?_
          exact ih tnu_1 tva_2 tqu_3 tsc_4 tlo_5 twt_6 x1 x2 x5 x6_12 x5_14 _ _ _ h (lv_sub hl [4, 5, 6, 2, 1, 0] rfl) hf
  unfold fX4_bestOut at hf
  refine lv_iload_n hx hb dX4_bestOut_0 rfl (lv_at hl 1 rfl) ?_
  refine lv_iconst (v := 1) hx hb dX4_bestOut_1 (by decide) ?_
  refine lv_sipush (v := 999) hx hb dX4_bestOut_2 (by decide) ?_
  obtain ⟨r_1, hq_2, hf⟩ := ob1_use hf
  refine r_callS C h (cw_X4_bestOut_X4_isWithin_67 C.hts) (rest := []) (c_X4_isWithin l G cI cC cZ X x1 (1 : Int32) (999 : Int32) r_1 hq_2) [] rfl rfl rfl rfl hl.1 rfl (Nat.le_of_ble_eq_true rfl) ⟨Nat.le_of_ble_eq_true rfl, Nat.le_of_ble_eq_true rfl⟩ (wLDt cI d0 sl h0 p0 a0 a1 a2 a3 a4 a5 a6 a7 a8 b0 b1 b2 b3 b4 b5 b6 b7 b8 nu va qu sc lo wt tnu tva tqu tsc tlo twt) rfl rfl dX4_bestOut_5 (fun H locs h => ?_)
  refine lv_if_eq (tgt := 20) hx hb dX4_bestOut_8 (by decide) (fun hc => ?_) (fun hc => ?_)
  · replace hf := it_t hf hc
    refine lv_bipush (v := (-2)) hx hb dX4_bestOut_20 (by decide) ?_
    cases hf
    exact r_iret C h hr hlocks dX4_bestOut_22
  · replace hf := it_f hf hc
    refine lv_iload_n hx hb dX4_bestOut_11 rfl (lv_at hl 2 rfl) ?_
    refine lv_iconst (v := 0) hx hb dX4_bestOut_12 (by decide) ?_
    refine lv_iconst (v := 1) hx hb dX4_bestOut_13 (by decide) ?_
    obtain ⟨r_3, hq_4, hf⟩ := ob1_use hf
    refine r_callS C h (cw_X4_bestOut_X4_isWithin_67 C.hts) (rest := []) (c_X4_isWithin l G cI cC cZ X x2 (0 : Int32) (1 : Int32) r_3 hq_4) [] rfl rfl rfl rfl hl.1 rfl (Nat.le_of_ble_eq_true rfl) ⟨Nat.le_of_ble_eq_true rfl, Nat.le_of_ble_eq_true rfl⟩ (wLDt cI d0 sl h0 p0 a0 a1 a2 a3 a4 a5 a6 a7 a8 b0 b1 b2 b3 b4 b5 b6 b7 b8 nu va qu sc lo wt tnu tva tqu tsc tlo twt) rfl rfl dX4_bestOut_14 (fun H locs h => ?_)
    refine lv_if_ne (tgt := 23) hx hb dX4_bestOut_17 (by decide) (fun hc => ?_) (fun hc => ?_)
    · replace hf := it_f hf hc
      refine lv_iconst (v := 0) hx hb dX4_bestOut_23 (by decide) ?_
      refine lv_istore_n (lv' := [(3, .int 0), (0, .ref d0), (1, .int x1), (2, .int x2)]) hx hb dX4_bestOut_24 rfl hl (by decide) rfl (fun ls hl => ?_)
      refine lv_ldc hx hb C.hown (C.hts _ kc_X4_bestOut_114) dX4_bestOut_25 ?_
      refine lv_istore (lv' := [(4, .int 1073741824), (3, .int 0), (0, .ref d0), (1, .int x1), (2, .int x2)]) hx hb dX4_bestOut_27 hl (by decide) rfl (fun ls hl => ?_)
      refine lv_iconst (v := 1) hx hb dX4_bestOut_29 (by decide) ?_
      refine lv_istore (lv' := [(5, .int 1), (4, .int 1073741824), (3, .int 0), (0, .ref d0), (1, .int x1), (2, .int x2)]) hx hb dX4_bestOut_30 hl (by decide) rfl (fun ls hl => ?_)
      exact cut_32 KF tnu tva tqu tsc tlo twt x1 x2 0 1073741824 1 _ _ _ h (lv_sub hl [3, 4, 5, 2, 1, 0] rfl) hf
    · replace hf := it_t hf hc
      refine lv_bipush (v := (-2)) hx hb dX4_bestOut_20 (by decide) ?_
      cases hf
      exact r_iret C h hr hlocks dX4_bestOut_22
def rm_X4_put : Room := { frames := 2, cells := 0, slots := 0, locals := 46 }
set_option maxRecDepth 20000 in
theorem lk_X4_put_33 : Cond.fieldLink RX4 33 "LineDoubler" "pad" "LLineDoubler$Pad;" ∈ wsX4_put := List.mem_of_getElem? (i := 1) (by decide +kernel)
set_option maxRecDepth 20000 in
theorem in_X4_put_X4 : ∀ x ∈ wsX40, x ∈ wsX4_put := mem_r _ [18, 19, 20, 21, 22] (by decide +kernel)
set_option maxRecDepth 20000 in
theorem in_X4_put_X1 : ∀ x ∈ wsX10, x ∈ wsX4_put := mem_r _ [23, 24, 25, 26, 27, 28] (by decide +kernel)
set_option maxRecDepth 20000 in
theorem cw_X4_put_X4_charactersIn_125 {s : State} {args : Array Value} (hts : ∀ w ∈ wsX4_put, w.before args s = true) : CallB rm_X4_put s args RX4 125 yX4_charactersIn cX4_charactersIn 5 (some .int) wsX4_charactersIn rm_X4_charactersIn 0 0 1 ∧ (Cond.static yX4_charactersIn).before args s = true :=
  va_cwS 1 hts gX4_put_X4_charactersIn rfl rfl rfl (by decide +kernel) ⟨Nat.le_of_ble_eq_true rfl, Nat.le_of_ble_eq_true rfl⟩
set_option maxRecDepth 20000 in
theorem cw_X4_put_X1_append_129 {s : State} {args : Array Value} (hts : ∀ w ∈ wsX4_put, w.before args s = true) : CallW rm_X4_put s args RX4 RX1 129 yX1_append cX1_append 5 none wsX1_append rm_X1_append 0 0 2 :=
  cwV 2 hts gX4_put_X1_append rfl rfl rfl (by decide +kernel) ⟨Nat.le_of_ble_eq_true rfl, Nat.le_of_ble_eq_true rfl⟩
set_option maxHeartbeats 4000000 in
set_option maxRecDepth 100000 in
theorem c_X4_put (l : Launch) (G : va_G) (cI cC cZ : ClassId) (X : List (ClassId × FieldType)) (d0 a0 b0 sl h0 p0 p1 : Nat) (ch : Nat → Int32) (pl : Int32) (pa : Int32) (po : Int32) (pf : Int32) (ps : Int32) (x1 : Int64) (rv : Int32) (ch' : Nat → Int32) (pl' : Int32) (hf : fX4_put ch pl x1 = some (rv, ch', pl')) : CT l yX4_put wsX4_put rm_X4_put G (TY cI cC cZ X) [.ref d0, .long x1] (wLDp cC d0 a0 b0 sl h0 p0 p1 ch pl pa po pf ps) (some (.int rv)) (wLDp cC d0 a0 b0 sl h0 p0 p1 ch' pl' pa po pf ps) := by
  refine CT.of (cc := cX4_put) (maxL := 4) (ret := (some .int)) RX4 rfl (by decide) rfl (Nat.le_of_ble_eq_true rfl) ?_
  intro p e s m args below meth c A ls C hr hlocks hnm h hl
  have hx := C.hx
  have hb := C.hb
  have hl : lv_has ls 4 [(0, .ref d0), (1, .long x1)] := hl
  unfold fX4_put at hf
  refine lv_lload_n hx hb dX4_put_0 rfl (lv_at hl 1 rfl) ?_
  obtain ⟨r_1, hq_2, hf⟩ := ob1_use hf
  refine r_callS C h (cw_X4_put_X4_charactersIn_125 C.hts) (rest := []) (c_X4_charactersIn l G cI cC cZ X x1 r_1 hq_2) [] rfl rfl rfl rfl hl.1 rfl (Nat.le_of_ble_eq_true rfl) ⟨Nat.le_of_ble_eq_true rfl, Nat.le_of_ble_eq_true rfl⟩ (wLDp cC d0 a0 b0 sl h0 p0 p1 ch pl pa po pf ps) rfl rfl dX4_put_1 (fun H locs h => ?_)
  refine lv_istore_n (lv' := [(3, .int r_1), (0, .ref d0), (1, .long x1)]) hx hb dX4_put_4 rfl hl (by decide) rfl (fun ls hl => ?_)
  refine lv_iload_n hx hb dX4_put_5 rfl (lv_at hl 0 rfl) ?_
  refine lv_if_ne (tgt := 12) hx hb dX4_put_6 (by decide) (fun hc => ?_) (fun hc => ?_)
  · replace hf := it_f hf hc
    refine lv_aload_n hx hb dX4_put_12 rfl (lv_at hl 1 rfl) ?_
    refine r_get C h 0 4 (ci := 4) (N := 5) (Cn := RX4) (T := TX4) rfl rfl (by decide) in_X4_put_X4 lk_X4_put_33 rfl dX4_put_13 ?_
    refine r_getN C h 1 1 (ci := 1) (N := 6) (Cn := RX1) (T := TX1) rfl rfl (by decide) in_X4_put_X1 lkN_4_94 rfl dX4_put_16 ?_
    refine lv_iload_n hx hb dX4_put_19 rfl (lv_at hl 0 rfl) ?_
    refine lv_iadd hx hb dX4_put_20 ?_
    refine lv_bipush (v := 80) hx hb dX4_put_21 (by decide) ?_
    refine lv_icmp_le (tgt := 29) hx hb dX4_put_23 (by decide) (fun hc => ?_) (fun hc => ?_)
    · replace hf := it_t hf hc
      refine lv_aload_n hx hb dX4_put_29 rfl (lv_at hl 1 rfl) ?_
      refine r_get C h 0 4 (ci := 4) (N := 5) (Cn := RX4) (T := TX4) rfl rfl (by decide) in_X4_put_X4 lk_X4_put_33 rfl dX4_put_30 ?_
      refine lv_lload_n hx hb dX4_put_33 rfl (lv_at hl 2 rfl) ?_
      refine lv_iload_n hx hb dX4_put_34 rfl (lv_at hl 0 rfl) ?_
      obtain ⟨ch_3, pl_4, hq_5, hf⟩ := ob2_use hf
      refine r_callV C h (cw_X4_put_X1_append_129 C.hts) (rest := []) (ci := 1) (N := 6) (Cn := RX1) (T := TX1) (c_X1_append l G cI cC cZ X p0 p1 ch pl pa po pf ps x1 r_1 ch_3 pl_4 hq_5) [1, 2] rfl rfl rfl rfl 1 rfl rfl hl.1 rfl (Nat.le_of_ble_eq_true rfl) ⟨Nat.le_of_ble_eq_true rfl, Nat.le_of_ble_eq_true rfl⟩ (wLDp cC d0 a0 b0 sl h0 p0 p1 ch_3 pl_4 pa po pf ps) rfl rfl dX4_put_35 (fun H locs h => ?_)
      refine lv_aload_n hx hb dX4_put_38 rfl (lv_at hl 1 rfl) ?_
      refine r_get C h 0 4 (ci := 4) (N := 5) (Cn := RX4) (T := TX4) rfl rfl (by decide) in_X4_put_X4 lk_X4_put_33 rfl dX4_put_39 ?_
      refine r_getN C h 1 1 (ci := 1) (N := 6) (Cn := RX1) (T := TX1) rfl rfl (by decide) in_X4_put_X1 lkN_4_94 rfl dX4_put_42 ?_
      cases hf
      exact r_iret C h hr hlocks dX4_put_45
    · replace hf := it_f hf hc
      refine lv_bipush (v := (-4)) hx hb dX4_put_26 (by decide) ?_
      cases hf
      exact r_iret C h hr hlocks dX4_put_28
  · replace hf := it_t hf hc
    refine lv_bipush (v := (-2)) hx hb dX4_put_9 (by decide) ?_
    cases hf
    exact r_iret C h hr hlocks dX4_put_11
def rm_X4_wipe : Room := { frames := 0, cells := 0, slots := 0, locals := 0 }
set_option maxRecDepth 20000 in
theorem lk_X4_wipe_33 : Cond.fieldLink RX4 33 "LineDoubler" "pad" "LLineDoubler$Pad;" ∈ wsX4_wipe := List.mem_of_getElem? (i := 1) (by decide +kernel)
set_option maxRecDepth 20000 in
theorem in_X4_wipe_X4 : ∀ x ∈ wsX40, x ∈ wsX4_wipe := mem_r _ [2, 3, 4, 5, 6] (by decide +kernel)
set_option maxRecDepth 20000 in
theorem in_X4_wipe_X1 : ∀ x ∈ wsX10, x ∈ wsX4_wipe := mem_r _ [7, 8, 9, 10, 11, 12] (by decide +kernel)
set_option maxHeartbeats 4000000 in
set_option maxRecDepth 100000 in
theorem c_X4_wipe (l : Launch) (G : va_G) (cI cC cZ : ClassId) (X : List (ClassId × FieldType)) (d0 a0 b0 sl h0 p0 p1 : Nat) (ch : Nat → Int32) (pl : Int32) (pa : Int32) (po : Int32) (pf : Int32) (ps : Int32) (rv : Int32) (pl' : Int32) (hf : fX4_wipe pl = some (rv, pl')) : CT l yX4_wipe wsX4_wipe rm_X4_wipe G (TY cI cC cZ X) [.ref d0] (wLDp cC d0 a0 b0 sl h0 p0 p1 ch pl pa po pf ps) (some (.int rv)) (wLDp cC d0 a0 b0 sl h0 p0 p1 ch pl' pa po pf ps) := by
  refine CT.of (cc := cX4_wipe) (maxL := 2) (ret := (some .int)) RX4 rfl (by decide) rfl (Nat.le_of_ble_eq_true rfl) ?_
  intro p e s m args below meth c A ls C hr hlocks hnm h hl
  have hx := C.hx
  have hb := C.hb
  have hl : lv_has ls 2 [(0, .ref d0)] := hl
  unfold fX4_wipe at hf
  refine lv_aload_n hx hb dX4_wipe_0 rfl (lv_at hl 0 rfl) ?_
  refine r_get C h 0 4 (ci := 4) (N := 5) (Cn := RX4) (T := TX4) rfl rfl (by decide) in_X4_wipe_X4 lk_X4_wipe_33 rfl dX4_wipe_1 ?_
  refine r_getN C h 1 1 (ci := 1) (N := 6) (Cn := RX1) (T := TX1) rfl rfl (by decide) in_X4_wipe_X1 lkN_4_94 rfl dX4_wipe_4 ?_
  refine lv_istore_n (lv' := [(1, .int pl), (0, .ref d0)]) hx hb dX4_wipe_7 rfl hl (by decide) rfl (fun ls hl => ?_)
  refine lv_aload_n hx hb dX4_wipe_8 rfl (lv_at hl 1 rfl) ?_
  refine r_get C h 0 4 (ci := 4) (N := 5) (Cn := RX4) (T := TX4) rfl rfl (by decide) in_X4_wipe_X4 lk_X4_wipe_33 rfl dX4_wipe_9 ?_
  refine lv_iconst (v := 0) hx hb dX4_wipe_12 (by decide) ?_
  refine r_putN C h 1 1 (ci := 1) (N := 6) (Cn := RX1) (T := TX1) (ty0 := tyX1) rfl rfl (by decide) in_X4_wipe_X1 tyX1_ok nmX1 lkN_4_94 rfl rfl rfl (Nat.le_of_ble_eq_true rfl) (wLDp cC d0 a0 b0 sl h0 p0 p1 ch 0 pa po pf ps) rfl dX4_wipe_13 (fun H locs h => ?_)
  refine lv_iload_n hx hb dX4_wipe_16 rfl (lv_at hl 0 rfl) ?_
  cases hf
  exact r_iret C h hr hlocks dX4_wipe_17
def rm_X4_fault : Room := { frames := 4, cells := 0, slots := 0, locals := 83 }
set_option maxRecDepth 20000 in
theorem lk_X4_fault_33 : Cond.fieldLink RX4 33 "LineDoubler" "pad" "LLineDoubler$Pad;" ∈ wsX4_fault := List.mem_of_getElem? (i := 1) (by decide +kernel)
set_option maxRecDepth 20000 in
theorem in_X4_fault_X4 : ∀ x ∈ wsX40, x ∈ wsX4_fault := mem_r _ [35, 36, 37, 38, 39] (by decide +kernel)
set_option maxRecDepth 20000 in
theorem cw_X4_fault_X1_findFault_133 {s : State} {args : Array Value} (hts : ∀ w ∈ wsX4_fault, w.before args s = true) : CallW rm_X4_fault s args RX4 RX1 133 yX1_findFault cX1_findFault 2 (some .int) wsX1_findFault rm_X1_findFault 0 0 0 :=
  cwV 0 hts gX4_fault_X1_findFault rfl rfl rfl (by decide +kernel) ⟨Nat.le_of_ble_eq_true rfl, Nat.le_of_ble_eq_true rfl⟩
set_option maxHeartbeats 4000000 in
set_option maxRecDepth 100000 in
theorem c_X4_fault (l : Launch) (G : va_G) (cI cC cZ : ClassId) (X : List (ClassId × FieldType)) (d0 a0 b0 sl h0 p0 p1 : Nat) (ch : Nat → Int32) (pl : Int32) (pa : Int32) (po : Int32) (pf : Int32) (ps : Int32) (rv : Int32) (pa' : Int32) (po' : Int32) (pf' : Int32) (ps' : Int32) (hf : fX4_fault ch pl pa po pf ps = some (rv, pa', po', pf', ps')) : CT l yX4_fault wsX4_fault rm_X4_fault G (TY cI cC cZ X) [.ref d0] (wLDp cC d0 a0 b0 sl h0 p0 p1 ch pl pa po pf ps) (some (.int rv)) (wLDp cC d0 a0 b0 sl h0 p0 p1 ch pl pa' po' pf' ps') := by
  refine CT.of (cc := cX4_fault) (maxL := 1) (ret := (some .int)) RX4 rfl (by decide) rfl (Nat.le_of_ble_eq_true rfl) ?_
  intro p e s m args below meth c A ls C hr hlocks hnm h hl
  have hx := C.hx
  have hb := C.hb
  have hl : lv_has ls 1 [(0, .ref d0)] := hl
  unfold fX4_fault at hf
  refine lv_aload_n hx hb dX4_fault_0 rfl (lv_at hl 0 rfl) ?_
  refine r_get C h 0 4 (ci := 4) (N := 5) (Cn := RX4) (T := TX4) rfl rfl (by decide) in_X4_fault_X4 lk_X4_fault_33 rfl dX4_fault_1 ?_
  obtain ⟨r_1, pa_2, po_3, pf_4, ps_5, hq_6, hf⟩ := ob5_use hf
  refine r_callV C h (cw_X4_fault_X1_findFault_133 C.hts) (rest := []) (ci := 1) (N := 6) (Cn := RX1) (T := TX1) (c_X1_findFault l G cI cC cZ X p0 p1 ch pl pa po pf ps r_1 pa_2 po_3 pf_4 ps_5 hq_6) [1, 2] rfl rfl rfl rfl 1 rfl rfl hl.1 rfl (Nat.le_of_ble_eq_true rfl) ⟨Nat.le_of_ble_eq_true rfl, Nat.le_of_ble_eq_true rfl⟩ (wLDp cC d0 a0 b0 sl h0 p0 p1 ch pl pa_2 po_3 pf_4 ps_5) rfl rfl dX4_fault_4 (fun H locs h => ?_)
  cases hf
  exact r_iret C h hr hlocks dX4_fault_7
def rm_X4_carryOutOrder : Room := { frames := 6, cells := 0, slots := 0, locals := 134 }
set_option maxRecDepth 20000 in
theorem lk_X4_carryOutOrder_33 : Cond.fieldLink RX4 33 "LineDoubler" "pad" "LLineDoubler$Pad;" ∈ wsX4_carryOutOrder := List.mem_of_getElem? (i := 1) (by decide +kernel)
set_option maxRecDepth 20000 in
theorem lk_X4_carryOutOrder_10 : Cond.fieldLink RX4 10 "LineDoubler" "state" "LLineDoubler$State;" ∈ wsX4_carryOutOrder := List.mem_of_getElem? (i := 2) (by decide +kernel)
set_option maxRecDepth 20000 in
theorem kc_X4_carryOutOrder_55 : Cond.constant RX4 55 (99999) ∈ wsX4_carryOutOrder := List.mem_of_getElem? (i := 3) (by decide +kernel)
set_option maxRecDepth 20000 in
theorem in_X4_carryOutOrder_X4 : ∀ x ∈ wsX40, x ∈ wsX4_carryOutOrder := mem_r _ [100, 101, 102, 103, 104] (by decide +kernel)
set_option maxRecDepth 20000 in
theorem in_X4_carryOutOrder_X1 : ∀ x ∈ wsX10, x ∈ wsX4_carryOutOrder := mem_r _ [105, 106, 107, 108, 109, 110] (by decide +kernel)
set_option maxRecDepth 20000 in
theorem cw_X4_carryOutOrder_X2_delayClock_52 {s : State} {args : Array Value} (hts : ∀ w ∈ wsX4_carryOutOrder, w.before args s = true) : CallW rm_X4_carryOutOrder s args RX4 RX2 52 yX2_delayClock cX2_delayClock 4 (some .int) wsX2_delayClock rm_X2_delayClock 0 0 2 :=
  cwV 2 hts gX4_carryOutOrder_X2_delayClock rfl rfl rfl (by decide +kernel) ⟨Nat.le_of_ble_eq_true rfl, Nat.le_of_ble_eq_true rfl⟩
set_option maxRecDepth 20000 in
theorem cw_X4_carryOutOrder_X2_changeSetting_41 {s : State} {args : Array Value} (hts : ∀ w ∈ wsX4_carryOutOrder, w.before args s = true) : CallW rm_X4_carryOutOrder s args RX4 RX2 41 yX2_changeSetting cX2_changeSetting 4 (some .int) wsX2_changeSetting rm_X2_changeSetting 0 0 2 :=
  cwV 2 hts gX4_carryOutOrder_X2_changeSetting rfl rfl rfl (by decide +kernel) ⟨Nat.le_of_ble_eq_true rfl, Nat.le_of_ble_eq_true rfl⟩
set_option maxRecDepth 20000 in
theorem cw_X4_carryOutOrder_X2_passTicks_56 {s : State} {args : Array Value} (hts : ∀ w ∈ wsX4_carryOutOrder, w.before args s = true) : CallW rm_X4_carryOutOrder s args RX4 RX2 56 yX2_passTicks cX2_passTicks 6 (some .int) wsX2_passTicks rm_X2_passTicks 0 0 2 :=
  cwV 2 hts gX4_carryOutOrder_X2_passTicks rfl rfl rfl (by decide +kernel) ⟨Nat.le_of_ble_eq_true rfl, Nat.le_of_ble_eq_true rfl⟩
set_option maxRecDepth 20000 in
theorem cw_X4_carryOutOrder_X2_changeValue_49 {s : State} {args : Array Value} (hts : ∀ w ∈ wsX4_carryOutOrder, w.before args s = true) : CallW rm_X4_carryOutOrder s args RX4 RX2 49 yX2_changeValue cX2_changeValue 4 (some .int) wsX2_changeValue rm_X2_changeValue 0 0 2 :=
  cwV 2 hts gX4_carryOutOrder_X2_changeValue rfl rfl rfl (by decide +kernel) ⟨Nat.le_of_ble_eq_true rfl, Nat.le_of_ble_eq_true rfl⟩
theorem sw_df_X4_carryOutOrder_7 (x : Int32) (h0 : ¬ x = 60) (h1 : ¬ x = 62) (h2 : ¬ x = 105) (h3 : ¬ x = 111) (h4 : ¬ x = 116) (h5 : ¬ x = 118) : Op.lookupswitch.offset (#[(60, 128), (62, 144), (105, 57), (111, 73), (116, 111), (118, 89)] : Array (Int × Int)).toList (160) x.toInt = 160 := (lv_osw h0 rfl).trans ((lv_osw h1 rfl).trans ((lv_osw h2 rfl).trans ((lv_osw h3 rfl).trans ((lv_osw h4 rfl).trans ((lv_osw h5 rfl).trans (rfl))))))
set_option maxHeartbeats 4000000 in
set_option maxRecDepth 100000 in
theorem c_X4_carryOutOrder (l : Launch) (G : va_G) (cI cC cZ : ClassId) (X : List (ClassId × FieldType)) (d0 b0 sl h0 a0 a1 a2 a3 a4 a5 a6 a7 a8 p0 p1 : Nat) (nu : Nat → Int32) (va : Nat → Int32) (qu : Nat → Int32) (sc : Nat → Int32) (lo : Nat → Int32) (wt : Int32) (ch : Nat → Int32) (pl : Int32) (pa : Int32) (po : Int32) (pf : Int32) (ps : Int32) (rv : Int32) (nu' : Nat → Int32) (va' : Nat → Int32) (qu' : Nat → Int32) (sc' : Nat → Int32) (lo' : Nat → Int32) (wt' : Int32) (hf : fX4_carryOutOrder nu va qu sc lo wt po pf ps = some (rv, nu', va', qu', sc', lo', wt')) : CT l yX4_carryOutOrder wsX4_carryOutOrder rm_X4_carryOutOrder G (TY cI cC cZ X) [.ref d0] (wLDsp cI cC d0 b0 sl h0 a0 a1 a2 a3 a4 a5 a6 a7 a8 p0 p1 nu va qu sc lo wt ch pl pa po pf ps) (some (.int rv)) (wLDsp cI cC d0 b0 sl h0 a0 a1 a2 a3 a4 a5 a6 a7 a8 p0 p1 nu' va' qu' sc' lo' wt' ch pl pa po pf ps) := by
  refine CT.of (cc := cX4_carryOutOrder) (maxL := 1) (ret := (some .int)) RX4 rfl (by decide) rfl (Nat.le_of_ble_eq_true rfl) ?_
  intro p e s m args below meth c A ls C hr hlocks hnm h hl
  have hx := C.hx
  have hb := C.hb
  have hl : lv_has ls 1 [(0, .ref d0)] := hl
  unfold fX4_carryOutOrder at hf
  refine lv_aload_n hx hb dX4_carryOutOrder_0 rfl (lv_at hl 0 rfl) ?_
  refine r_get C h 0 4 (ci := 4) (N := 5) (Cn := RX4) (T := TX4) rfl rfl (by decide) in_X4_carryOutOrder_X4 lk_X4_carryOutOrder_33 rfl dX4_carryOutOrder_1 ?_
  refine r_getN C h 10 3 (ci := 1) (N := 6) (Cn := RX1) (T := TX1) rfl rfl (by decide) in_X4_carryOutOrder_X1 lkN_4_158 rfl dX4_carryOutOrder_4 ?_
  by_cases hk0 : po = 60
  · replace hf := it_t hf hk0
    refine lv_lookup (tgt := 135) hx hb dX4_carryOutOrder_7 (by decide) (by rw [hk0]; (first | done | rfl)) (by decide) ?_
    refine lv_aload_n hx hb dX4_carryOutOrder_135 rfl (lv_at hl 0 rfl) ?_
    refine r_get C h 0 0 (ci := 4) (N := 5) (Cn := RX4) (T := TX4) rfl rfl (by decide) in_X4_carryOutOrder_X4 lk_X4_carryOutOrder_10 rfl dX4_carryOutOrder_136 ?_
    refine lv_iconst (v := 0) hx hb dX4_carryOutOrder_139 (by decide) ?_
    refine lv_aload_n hx hb dX4_carryOutOrder_140 rfl (lv_at hl 0 rfl) ?_
    refine r_get C h 0 4 (ci := 4) (N := 5) (Cn := RX4) (T := TX4) rfl rfl (by decide) in_X4_carryOutOrder_X4 lk_X4_carryOutOrder_33 rfl dX4_carryOutOrder_141 ?_
    refine r_getN C h 10 4 (ci := 1) (N := 6) (Cn := RX1) (T := TX1) rfl rfl (by decide) in_X4_carryOutOrder_X1 lkN_4_162 rfl dX4_carryOutOrder_144 ?_
    obtain ⟨r_1, nu_2, hq_3, hf⟩ := ob2_use hf
    refine r_callV C h (cw_X4_carryOutOrder_X2_delayClock_52 C.hts) (rest := []) (ci := 2) (N := 6) (Cn := RX2) (T := TX2) (c_X2_delayClock l G cI cC cZ X a0 a1 a2 a3 a4 a5 a6 a7 a8 nu va qu sc lo wt (0 : Int32) pf r_1 nu_2 hq_3) [1, 2, 3, 4, 5, 6, 7, 8, 9] rfl rfl rfl rfl 1 rfl rfl hl.1 rfl (Nat.le_of_ble_eq_true rfl) ⟨Nat.le_of_ble_eq_true rfl, Nat.le_of_ble_eq_true rfl⟩ (wLDsp cI cC d0 b0 sl h0 a0 a1 a2 a3 a4 a5 a6 a7 a8 p0 p1 nu_2 va qu sc lo wt ch pl pa po pf ps) rfl rfl dX4_carryOutOrder_147 (fun H locs h => ?_)
    cases hf
    exact r_iret C h hr hlocks dX4_carryOutOrder_150
  · replace hf := it_f hf hk0
    by_cases hk1 : po = 62
    · replace hf := it_t hf hk1
      refine lv_lookup (tgt := 151) hx hb dX4_carryOutOrder_7 (by decide) (by rw [hk1]; (first | done | rfl)) (by decide) ?_
      refine lv_aload_n hx hb dX4_carryOutOrder_151 rfl (lv_at hl 0 rfl) ?_
      refine r_get C h 0 0 (ci := 4) (N := 5) (Cn := RX4) (T := TX4) rfl rfl (by decide) in_X4_carryOutOrder_X4 lk_X4_carryOutOrder_10 rfl dX4_carryOutOrder_152 ?_
      refine lv_iconst (v := 1) hx hb dX4_carryOutOrder_155 (by decide) ?_
      refine lv_aload_n hx hb dX4_carryOutOrder_156 rfl (lv_at hl 0 rfl) ?_
      refine r_get C h 0 4 (ci := 4) (N := 5) (Cn := RX4) (T := TX4) rfl rfl (by decide) in_X4_carryOutOrder_X4 lk_X4_carryOutOrder_33 rfl dX4_carryOutOrder_157 ?_
      refine r_getN C h 10 4 (ci := 1) (N := 6) (Cn := RX1) (T := TX1) rfl rfl (by decide) in_X4_carryOutOrder_X1 lkN_4_162 rfl dX4_carryOutOrder_160 ?_
      obtain ⟨r_4, nu_5, hq_6, hf⟩ := ob2_use hf
      refine r_callV C h (cw_X4_carryOutOrder_X2_delayClock_52 C.hts) (rest := []) (ci := 2) (N := 6) (Cn := RX2) (T := TX2) (c_X2_delayClock l G cI cC cZ X a0 a1 a2 a3 a4 a5 a6 a7 a8 nu va qu sc lo wt (1 : Int32) pf r_4 nu_5 hq_6) [1, 2, 3, 4, 5, 6, 7, 8, 9] rfl rfl rfl rfl 1 rfl rfl hl.1 rfl (Nat.le_of_ble_eq_true rfl) ⟨Nat.le_of_ble_eq_true rfl, Nat.le_of_ble_eq_true rfl⟩ (wLDsp cI cC d0 b0 sl h0 a0 a1 a2 a3 a4 a5 a6 a7 a8 p0 p1 nu_5 va qu sc lo wt ch pl pa po pf ps) rfl rfl dX4_carryOutOrder_163 (fun H locs h => ?_)
      cases hf
      exact r_iret C h hr hlocks dX4_carryOutOrder_166
    · replace hf := it_f hf hk1
      by_cases hk2 : po = 105
      · replace hf := it_t hf hk2
        refine lv_lookup (tgt := 64) hx hb dX4_carryOutOrder_7 (by decide) (by rw [hk2]; (first | done | rfl)) (by decide) ?_
        refine lv_aload_n hx hb dX4_carryOutOrder_64 rfl (lv_at hl 0 rfl) ?_
        refine r_get C h 0 0 (ci := 4) (N := 5) (Cn := RX4) (T := TX4) rfl rfl (by decide) in_X4_carryOutOrder_X4 lk_X4_carryOutOrder_10 rfl dX4_carryOutOrder_65 ?_
        refine lv_iconst (v := 0) hx hb dX4_carryOutOrder_68 (by decide) ?_
        refine lv_aload_n hx hb dX4_carryOutOrder_69 rfl (lv_at hl 0 rfl) ?_
        refine r_get C h 0 4 (ci := 4) (N := 5) (Cn := RX4) (T := TX4) rfl rfl (by decide) in_X4_carryOutOrder_X4 lk_X4_carryOutOrder_33 rfl dX4_carryOutOrder_70 ?_
        refine r_getN C h 10 4 (ci := 1) (N := 6) (Cn := RX1) (T := TX1) rfl rfl (by decide) in_X4_carryOutOrder_X1 lkN_4_162 rfl dX4_carryOutOrder_73 ?_
        obtain ⟨r_7, nu_8, hq_9, hf⟩ := ob2_use hf
        refine r_callV C h (cw_X4_carryOutOrder_X2_changeSetting_41 C.hts) (rest := []) (ci := 2) (N := 6) (Cn := RX2) (T := TX2) (c_X2_changeSetting l G cI cC cZ X a0 a1 a2 a3 a4 a5 a6 a7 a8 nu va qu sc lo wt (0 : Int32) pf r_7 nu_8 hq_9) [1, 2, 3, 4, 5, 6, 7, 8, 9] rfl rfl rfl rfl 1 rfl rfl hl.1 rfl (Nat.le_of_ble_eq_true rfl) ⟨Nat.le_of_ble_eq_true rfl, Nat.le_of_ble_eq_true rfl⟩ (wLDsp cI cC d0 b0 sl h0 a0 a1 a2 a3 a4 a5 a6 a7 a8 p0 p1 nu_8 va qu sc lo wt ch pl pa po pf ps) rfl rfl dX4_carryOutOrder_76 (fun H locs h => ?_)
        cases hf
        exact r_iret C h hr hlocks dX4_carryOutOrder_79
      · replace hf := it_f hf hk2
        by_cases hk3 : po = 111
        · replace hf := it_t hf hk3
          refine lv_lookup (tgt := 80) hx hb dX4_carryOutOrder_7 (by decide) (by rw [hk3]; (first | done | rfl)) (by decide) ?_
          refine lv_aload_n hx hb dX4_carryOutOrder_80 rfl (lv_at hl 0 rfl) ?_
          refine r_get C h 0 0 (ci := 4) (N := 5) (Cn := RX4) (T := TX4) rfl rfl (by decide) in_X4_carryOutOrder_X4 lk_X4_carryOutOrder_10 rfl dX4_carryOutOrder_81 ?_
          refine lv_iconst (v := 1) hx hb dX4_carryOutOrder_84 (by decide) ?_
          refine lv_aload_n hx hb dX4_carryOutOrder_85 rfl (lv_at hl 0 rfl) ?_
          refine r_get C h 0 4 (ci := 4) (N := 5) (Cn := RX4) (T := TX4) rfl rfl (by decide) in_X4_carryOutOrder_X4 lk_X4_carryOutOrder_33 rfl dX4_carryOutOrder_86 ?_
          refine r_getN C h 10 4 (ci := 1) (N := 6) (Cn := RX1) (T := TX1) rfl rfl (by decide) in_X4_carryOutOrder_X1 lkN_4_162 rfl dX4_carryOutOrder_89 ?_
          obtain ⟨r_10, nu_11, hq_12, hf⟩ := ob2_use hf
          refine r_callV C h (cw_X4_carryOutOrder_X2_changeSetting_41 C.hts) (rest := []) (ci := 2) (N := 6) (Cn := RX2) (T := TX2) (c_X2_changeSetting l G cI cC cZ X a0 a1 a2 a3 a4 a5 a6 a7 a8 nu va qu sc lo wt (1 : Int32) pf r_10 nu_11 hq_12) [1, 2, 3, 4, 5, 6, 7, 8, 9] rfl rfl rfl rfl 1 rfl rfl hl.1 rfl (Nat.le_of_ble_eq_true rfl) ⟨Nat.le_of_ble_eq_true rfl, Nat.le_of_ble_eq_true rfl⟩ (wLDsp cI cC d0 b0 sl h0 a0 a1 a2 a3 a4 a5 a6 a7 a8 p0 p1 nu_11 va qu sc lo wt ch pl pa po pf ps) rfl rfl dX4_carryOutOrder_92 (fun H locs h => ?_)
          cases hf
          exact r_iret C h hr hlocks dX4_carryOutOrder_95
        · replace hf := it_f hf hk3
          by_cases hk4 : po = 116
          · replace hf := it_t hf hk4
            refine lv_lookup (tgt := 118) hx hb dX4_carryOutOrder_7 (by decide) (by rw [hk4]; (first | done | rfl)) (by decide) ?_
            refine lv_aload_n hx hb dX4_carryOutOrder_118 rfl (lv_at hl 0 rfl) ?_
            refine r_get C h 0 0 (ci := 4) (N := 5) (Cn := RX4) (T := TX4) rfl rfl (by decide) in_X4_carryOutOrder_X4 lk_X4_carryOutOrder_10 rfl dX4_carryOutOrder_119 ?_
            refine lv_aload_n hx hb dX4_carryOutOrder_122 rfl (lv_at hl 0 rfl) ?_
            refine r_get C h 0 4 (ci := 4) (N := 5) (Cn := RX4) (T := TX4) rfl rfl (by decide) in_X4_carryOutOrder_X4 lk_X4_carryOutOrder_33 rfl dX4_carryOutOrder_123 ?_
            refine r_getN C h 10 4 (ci := 1) (N := 6) (Cn := RX1) (T := TX1) rfl rfl (by decide) in_X4_carryOutOrder_X1 lkN_4_162 rfl dX4_carryOutOrder_126 ?_
            refine lv_ldc hx hb C.hown (C.hts _ kc_X4_carryOutOrder_55) dX4_carryOutOrder_129 ?_
            obtain ⟨r_13, nu_14, qu_15, sc_16, lo_17, wt_18, hq_19, hf⟩ := ob6_use hf
            refine r_callV C h (cw_X4_carryOutOrder_X2_passTicks_56 C.hts) (rest := []) (ci := 2) (N := 6) (Cn := RX2) (T := TX2) (c_X2_passTicks l G cI cC cZ X a0 a1 a2 a3 a4 a5 a6 a7 a8 nu va qu sc lo wt pf (99999 : Int32) r_13 nu_14 qu_15 sc_16 lo_17 wt_18 hq_19) [1, 2, 3, 4, 5, 6, 7, 8, 9] rfl rfl rfl rfl 1 rfl rfl hl.1 rfl (Nat.le_of_ble_eq_true rfl) ⟨Nat.le_of_ble_eq_true rfl, Nat.le_of_ble_eq_true rfl⟩ (wLDsp cI cC d0 b0 sl h0 a0 a1 a2 a3 a4 a5 a6 a7 a8 p0 p1 nu_14 va qu_15 sc_16 lo_17 wt_18 ch pl pa po pf ps) rfl rfl dX4_carryOutOrder_131 (fun H locs h => ?_)
            cases hf
            exact r_iret C h hr hlocks dX4_carryOutOrder_134
          · replace hf := it_f hf hk4
            by_cases hk5 : po = 118
            · replace hf := it_t hf hk5
              refine lv_lookup (tgt := 96) hx hb dX4_carryOutOrder_7 (by decide) (by rw [hk5]; (first | done | rfl)) (by decide) ?_
              refine lv_aload_n hx hb dX4_carryOutOrder_96 rfl (lv_at hl 0 rfl) ?_
              refine r_get C h 0 0 (ci := 4) (N := 5) (Cn := RX4) (T := TX4) rfl rfl (by decide) in_X4_carryOutOrder_X4 lk_X4_carryOutOrder_10 rfl dX4_carryOutOrder_97 ?_
              refine lv_aload_n hx hb dX4_carryOutOrder_100 rfl (lv_at hl 0 rfl) ?_
              refine r_get C h 0 4 (ci := 4) (N := 5) (Cn := RX4) (T := TX4) rfl rfl (by decide) in_X4_carryOutOrder_X4 lk_X4_carryOutOrder_33 rfl dX4_carryOutOrder_101 ?_
              refine r_getN C h 10 4 (ci := 1) (N := 6) (Cn := RX1) (T := TX1) rfl rfl (by decide) in_X4_carryOutOrder_X1 lkN_4_162 rfl dX4_carryOutOrder_104 ?_
              refine lv_aload_n hx hb dX4_carryOutOrder_107 rfl (lv_at hl 0 rfl) ?_
              refine r_get C h 0 4 (ci := 4) (N := 5) (Cn := RX4) (T := TX4) rfl rfl (by decide) in_X4_carryOutOrder_X4 lk_X4_carryOutOrder_33 rfl dX4_carryOutOrder_108 ?_
              refine r_getN C h 10 5 (ci := 1) (N := 6) (Cn := RX1) (T := TX1) rfl rfl (by decide) in_X4_carryOutOrder_X1 lkN_4_165 rfl dX4_carryOutOrder_111 ?_
              obtain ⟨r_20, va_21, hq_22, hf⟩ := ob2_use hf
              refine r_callV C h (cw_X4_carryOutOrder_X2_changeValue_49 C.hts) (rest := []) (ci := 2) (N := 6) (Cn := RX2) (T := TX2) (c_X2_changeValue l G cI cC cZ X a0 a1 a2 a3 a4 a5 a6 a7 a8 nu va qu sc lo wt pf ps r_20 va_21 hq_22) [1, 2, 3, 4, 5, 6, 7, 8, 9] rfl rfl rfl rfl 1 rfl rfl hl.1 rfl (Nat.le_of_ble_eq_true rfl) ⟨Nat.le_of_ble_eq_true rfl, Nat.le_of_ble_eq_true rfl⟩ (wLDsp cI cC d0 b0 sl h0 a0 a1 a2 a3 a4 a5 a6 a7 a8 p0 p1 nu va_21 qu sc lo wt ch pl pa po pf ps) rfl rfl dX4_carryOutOrder_114 (fun H locs h => ?_)
              cases hf
              exact r_iret C h hr hlocks dX4_carryOutOrder_117
            · replace hf := it_f hf hk5
              refine lv_lookup (off := 160) (tgt := 167) hx hb dX4_carryOutOrder_7 (by decide) (sw_df_X4_carryOutOrder_7 po hk0 hk1 hk2 hk3 hk4 hk5) (by decide) ?_
              refine lv_bipush (v := (-3)) hx hb dX4_carryOutOrder_167 (by decide) ?_
              cases hf
              exact r_iret C h hr hlocks dX4_carryOutOrder_169
