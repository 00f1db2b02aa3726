def fX4_tryWith_34 (nu : Nat → Int32) (va : Nat → Int32) (qu : Nat → Int32) (sc : Nat → Int32) (lo : Nat → Int32) (wt : Int32) (tnu : Nat → Int32) (tva : Nat → Int32) (tqu : Nat → Int32) (tsc : Nat → Int32) (tlo : Nat → Int32) (twt : Int32) (x3 : Int32) : Option ((Nat → Int32) × (Nat → Int32) × (Nat → Int32) × (Nat → Int32) × (Nat → Int32) × Int32) :=
  ob6 (fX2_passTicks tnu tva tqu tsc tlo twt x3 (1073741824 : Int32)) fun r_1 tnu_2 tqu_3 tsc_4 tlo_5 twt_6 =>
  some (tnu_2, tva, tqu_3, tsc_4, tlo_5, twt_6)

/-- the mirror of X4_tryWith -/
def fX4_tryWith (nu : Nat → Int32) (va : Nat → Int32) (qu : Nat → Int32) (sc : Nat → Int32) (lo : Nat → Int32) (wt : Int32) (tnu : Nat → Int32) (tva : Nat → Int32) (tqu : Nat → Int32) (tsc : Nat → Int32) (tlo : Nat → Int32) (twt : Int32) (x1 : Int32) (x2 : Int32) (x3 : Int32) : Option ((Nat → Int32) × (Nat → Int32) × (Nat → Int32) × (Nat → Int32) × (Nat → Int32) × Int32) :=
  ob6 (fX2_copyFrom tnu tva tqu tsc tlo twt nu va qu sc lo wt) fun tnu_1 tva_2 tqu_3 tsc_4 tlo_5 twt_6 =>
  ob1 (fX4_isWithin x1 (0 : Int32) (7 : Int32)) fun r_8 =>
  (if r_8 = 0 then
  fX4_tryWith_34 nu va qu sc lo wt tnu_1 tva_2 tqu_3 tsc_4 tlo_5 twt_6 x3
  else
  chk (16 + x1) 24 fun j_10 =>
  nm (upd tnu_1 j_10 x2) fun tnu_11 =>
  fX4_tryWith_34 nu va qu sc lo wt tnu_11 tva_2 tqu_3 tsc_4 tlo_5 twt_6 x3)

def rm_X4_tryWith : Room := { frames := 6, cells := 0, slots := 0, locals := 134 }
set_option maxRecDepth 20000 in
theorem lk_X4_tryWith_16 : Cond.fieldLink RX4 16 "LineDoubler" "trial" "LLineDoubler$State;" ∈ wsX4_tryWith := List.mem_of_getElem? (i := 1) (by decide +kernel)
set_option maxRecDepth 20000 in
theorem lk_X4_tryWith_10 : Cond.fieldLink RX4 10 "LineDoubler" "state" "LLineDoubler$State;" ∈ wsX4_tryWith := List.mem_of_getElem? (i := 2) (by decide +kernel)
set_option maxRecDepth 20000 in
theorem kc_X4_tryWith_114 : Cond.constant RX4 114 (1073741824) ∈ wsX4_tryWith := List.mem_of_getElem? (i := 3) (by decide +kernel)
set_option maxRecDepth 20000 in
theorem in_X4_tryWith_X4 : ∀ x ∈ wsX40, x ∈ wsX4_tryWith := mem_r _ [99, 100, 101, 102, 103] (by decide +kernel)
set_option maxRecDepth 20000 in
theorem in_X4_tryWith_X2 : ∀ x ∈ wsX20, x ∈ wsX4_tryWith := mem_r _ [104, 105, 106, 107, 108, 109] (by decide +kernel)
set_option maxRecDepth 20000 in
theorem cw_X4_tryWith_X2_copyFrom_111 {s : State} {args : Array Value} (hts : ∀ w ∈ wsX4_tryWith, w.before args s = true) : CallW rm_X4_tryWith s args RX4 RX2 111 yX2_copyFrom cX2_copyFrom 2 none wsX2_copyFrom rm_X2_copyFrom 0 0 1 :=
  cwV 1 hts gX4_tryWith_X2_copyFrom rfl rfl rfl (by decide +kernel) ⟨Nat.le_of_ble_eq_true rfl, Nat.le_of_ble_eq_true rfl⟩
set_option maxRecDepth 20000 in
theorem cw_X4_tryWith_X4_isWithin_67 {s : State} {args : Array Value} (hts : ∀ w ∈ wsX4_tryWith, w.before args s = true) : CallB rm_X4_tryWith s args RX4 67 yX4_isWithin cX4_isWithin 3 (some .boolean) wsX4_isWithin rm_X4_isWithin 0 0 3 ∧ (Cond.static yX4_isWithin).before args s = true :=
  va_cwS 3 hts gX4_tryWith_X4_isWithin rfl rfl rfl (by decide +kernel) ⟨Nat.le_of_ble_eq_true rfl, Nat.le_of_ble_eq_true rfl⟩
set_option maxRecDepth 20000 in
theorem cw_X4_tryWith_X2_passTicks_56 {s : State} {args : Array Value} (hts : ∀ w ∈ wsX4_tryWith, w.before args s = true) : CallW rm_X4_tryWith s args RX4 RX2 56 yX2_passTicks cX2_passTicks 6 (some .int) wsX2_passTicks rm_X2_passTicks 0 0 2 :=
  cwV 2 hts gX4_tryWith_X2_passTicks rfl rfl rfl (by decide +kernel) ⟨Nat.le_of_ble_eq_true rfl, Nat.le_of_ble_eq_true rfl⟩
set_option maxHeartbeats 4000000 in
set_option maxRecDepth 100000 in
theorem c_X4_tryWith (l : Launch) (G : va_G) (cI cC cZ : ClassId) (X : List (ClassId × FieldType)) (d0 sl h0 p0 a0 a1 a2 a3 a4 a5 a6 a7 a8 b0 b1 b2 b3 b4 b5 b6 b7 b8 : Nat) (nu : Nat → Int32) (va : Nat → Int32) (qu : Nat → Int32) (sc : Nat → Int32) (lo : Nat → Int32) (wt : Int32) (tnu : Nat → Int32) (tva : Nat → Int32) (tqu : Nat → Int32) (tsc : Nat → Int32) (tlo : Nat → Int32) (twt : Int32) (x1 : Int32) (x2 : Int32) (x3 : Int32) (tnu' : Nat → Int32) (tva' : Nat → Int32) (tqu' : Nat → Int32) (tsc' : Nat → Int32) (tlo' : Nat → Int32) (twt' : Int32) (hf : fX4_tryWith nu va qu sc lo wt tnu tva tqu tsc tlo twt x1 x2 x3 = some (tnu', tva', tqu', tsc', tlo', twt')) : CT l yX4_tryWith wsX4_tryWith rm_X4_tryWith G (TY cI cC cZ X) [.ref d0, .int x1, .int x2, .int x3] (wLDt cI d0 sl h0 p0 a0 a1 a2 a3 a4 a5 a6 a7 a8 b0 b1 b2 b3 b4 b5 b6 b7 b8 nu va qu sc lo wt tnu tva tqu tsc tlo twt) none (wLDt cI d0 sl h0 p0 a0 a1 a2 a3 a4 a5 a6 a7 a8 b0 b1 b2 b3 b4 b5 b6 b7 b8 nu va qu sc lo wt tnu' tva' tqu' tsc' tlo' twt') := by
  refine CT.of (cc := cX4_tryWith) (maxL := 4) (ret := none) RX4 rfl (by decide) rfl (Nat.le_of_ble_eq_true rfl) ?_
  intro p e s m args below meth c A ls C hr hlocks hnm h hl
  have hx := C.hx
  have hb := C.hb
  have hl : lv_has ls 4 [(0, .ref d0), (1, .int x1), (2, .int x2), (3, .int x3)] := hl
  have cut_34 : ∀ (tnu : Nat → Int32) (tva : Nat → Int32) (tqu : Nat → Int32) (tsc : Nat → Int32) (tlo : Nat → Int32) (twt : Int32) (x3 : Int32) (H : Heap) (locs : List Loc) (ls : Array Slot), Hx s G A (wLDt cI d0 sl h0 p0 a0 a1 a2 a3 a4 a5 a6 a7 a8 b0 b1 b2 b3 b4 b5 b6 b7 b8 nu va qu sc lo wt tnu tva tqu tsc tlo twt) H locs → lv_has ls 4 [(0, .ref d0), (3, .int x3)] → fX4_tryWith_34 nu va qu sc lo wt tnu tva tqu tsc tlo twt x3 = some (tnu', tva', tqu', tsc', tlo', twt') → W p l e rm_X4_tryWith s m args below meth c H locs 0 0 (MQ below (Qx G none (wLDt cI d0 sl h0 p0 a0 a1 a2 a3 a4 a5 a6 a7 a8 b0 b1 b2 b3 b4 b5 b6 b7 b8 nu va qu sc lo wt tnu' tva' tqu' tsc' tlo' twt') A) args s 0 0 A) (F0 m 34 ls []) := by
    intro tnu tva tqu tsc tlo twt x3 H locs ls h hl hf
    unfold fX4_tryWith_34 at hf
    refine lv_aload_n hx hb dX4_tryWith_34 rfl (lv_at hl 0 rfl) ?_
    refine r_get C h 0 1 (ci := 4) (N := 5) (Cn := RX4) (T := TX4) rfl rfl (by decide) in_X4_tryWith_X4 lk_X4_tryWith_16 rfl dX4_tryWith_35 ?_
    refine lv_iload_n hx hb dX4_tryWith_38 rfl (lv_at hl 1 rfl) ?_
    refine lv_ldc hx hb C.hown (C.hts _ kc_X4_tryWith_114) dX4_tryWith_39 ?_
    obtain ⟨r_1, tnu_2, tqu_3, tsc_4, tlo_5, twt_6, hq_7, hf⟩ := ob6_use hf
    refine r_callV C h (cw_X4_tryWith_X2_passTicks_56 C.hts) (rest := []) (ci := 2) (N := 6) (Cn := RX2) (T := TX2) (c_X2_passTicks l G cI cC cZ X b0 b1 b2 b3 b4 b5 b6 b7 b8 tnu tva tqu tsc tlo twt x3 (1073741824 : Int32) r_1 tnu_2 tqu_3 tsc_4 tlo_5 twt_6 hq_7) [10, 11, 12, 13, 14, 15, 16, 17, 18] rfl rfl rfl rfl 10 rfl rfl hl.1 rfl (Nat.le_of_ble_eq_true rfl) ⟨Nat.le_of_ble_eq_true rfl, Nat.le_of_ble_eq_true rfl⟩ (wLDt cI d0 sl h0 p0 a0 a1 a2 a3 a4 a5 a6 a7 a8 b0 b1 b2 b3 b4 b5 b6 b7 b8 nu va qu sc lo wt tnu_2 tva tqu_3 tsc_4 tlo_5 twt_6) rfl rfl dX4_tryWith_41 (fun H locs h => ?_)
    refine lv_pop hx hb dX4_tryWith_44 rfl ?_
    cases hf
    exact r_vret C h hr hlocks dX4_tryWith_45
  unfold fX4_tryWith at hf
  refine lv_aload_n hx hb dX4_tryWith_0 rfl (lv_at hl 0 rfl) ?_
  refine r_get C h 0 1 (ci := 4) (N := 5) (Cn := RX4) (T := TX4) rfl rfl (by decide) in_X4_tryWith_X4 lk_X4_tryWith_16 rfl dX4_tryWith_1 ?_
  refine lv_aload_n hx hb dX4_tryWith_4 rfl (lv_at hl 0 rfl) ?_
  refine r_get C h 0 0 (ci := 4) (N := 5) (Cn := RX4) (T := TX4) rfl rfl (by decide) in_X4_tryWith_X4 lk_X4_tryWith_10 rfl dX4_tryWith_5 ?_
  obtain ⟨tnu_1, tva_2, tqu_3, tsc_4, tlo_5, twt_6, hq_7, hf⟩ := ob6_use hf
  refine r_callV C h (cw_X4_tryWith_X2_copyFrom_111 C.hts) (rest := []) (ci := 2) (N := 6) (Cn := RX2) (T := TX2) (c_X2_copyFrom l G cI cC cZ X b0 b1 b2 b3 b4 b5 b6 b7 b8 a0 a1 a2 a3 a4 a5 a6 a7 a8 tnu tva tqu tsc tlo twt nu va qu sc lo wt tnu_1 tva_2 tqu_3 tsc_4 tlo_5 twt_6 hq_7) [10, 11, 12, 13, 14, 15, 16, 17, 18, 1, 2, 3, 4, 5, 6, 7, 8, 9] rfl rfl rfl rfl 10 rfl rfl hl.1 rfl (Nat.le_of_ble_eq_true rfl) ⟨Nat.le_of_ble_eq_true rfl, Nat.le_of_ble_eq_true rfl⟩ (wLDt cI d0 sl h0 p0 a0 a1 a2 a3 a4 a5 a6 a7 a8 b0 b1 b2 b3 b4 b5 b6 b7 b8 nu va qu sc lo wt tnu_1 tva_2 tqu_3 tsc_4 tlo_5 twt_6) rfl rfl dX4_tryWith_8 (fun H locs h => ?_)
  refine lv_iload_n hx hb dX4_tryWith_11 rfl (lv_at hl 1 rfl) ?_
  refine lv_iconst (v := 0) hx hb dX4_tryWith_12 (by decide) ?_
  refine lv_bipush (v := 7) hx hb dX4_tryWith_13 (by decide) ?_
  obtain ⟨r_8, hq_9, hf⟩ := ob1_use hf
  refine r_callS0 C h (cw_X4_tryWith_X4_isWithin_67 C.hts) (rest := []) (c_X4_isWithin l G cI cC cZ X x1 (0 : Int32) (7 : Int32) r_8 hq_9) [] rfl rfl rfl hl.1 rfl (Nat.le_of_ble_eq_true rfl) ⟨Nat.le_of_ble_eq_true rfl, Nat.le_of_ble_eq_true rfl⟩ rfl dX4_tryWith_15 (fun H locs h => ?_)
  refine lv_if_eq (tgt := 34) hx hb dX4_tryWith_18 (by decide) (fun hc => ?_) (fun hc => ?_)
  · replace hf := it_t hf hc
    exact cut_34 tnu_1 tva_2 tqu_3 tsc_4 tlo_5 twt_6 x3 _ _ _ h (lv_sub hl [0, 3] rfl) hf
  · replace hf := it_f hf hc
    refine lv_aload_n hx hb dX4_tryWith_21 rfl (lv_at hl 0 rfl) ?_
    refine r_get C h 0 1 (ci := 4) (N := 5) (Cn := RX4) (T := TX4) rfl rfl (by decide) in_X4_tryWith_X4 lk_X4_tryWith_16 rfl dX4_tryWith_22 ?_
    refine r_getN C h 10 0 (ci := 2) (N := 6) (Cn := RX2) (T := TX2) rfl rfl (by decide) in_X4_tryWith_X2 lkN_4_63 rfl dX4_tryWith_25 ?_
    refine lv_bipush (v := 16) hx hb dX4_tryWith_28 (by decide) ?_
    refine lv_iload_n hx hb dX4_tryWith_30 rfl (lv_at hl 1 rfl) ?_
    refine lv_iadd hx hb dX4_tryWith_31 ?_
    refine lv_iload_n hx hb dX4_tryWith_32 rfl (lv_at hl 2 rfl) ?_
    obtain ⟨j_10, hj_10, hf⟩ := chk_use hf
    refine r_ast C h 11 rfl rfl hj_10 (fun z__ => (wLDt cI d0 sl h0 p0 a0 a1 a2 a3 a4 a5 a6 a7 a8 b0 b1 b2 b3 b4 b5 b6 b7 b8 nu va qu sc lo wt z__ tva_2 tqu_3 tsc_4 tlo_5 twt_6)) (fun _ => rfl) dX4_tryWith_33 (fun tnu_11 etnu_11 H locs h => ?_)
    replace hf := nm_use hf etnu_11
    exact cut_34 tnu_11 tva_2 tqu_3 tsc_4 tlo_5 twt_6 x3 _ _ _ h (lv_sub hl [0, 3] rfl) hf
