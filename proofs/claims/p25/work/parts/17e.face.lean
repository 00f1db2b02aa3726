/-- the mirror of X4_would -/
def fX4_would (nu : Nat → Int32) (va : Nat → Int32) (qu : Nat → Int32) (sc : Nat → Int32) (lo : Nat → Int32) (wt : Int32) (tnu : Nat → Int32) (tva : Nat → Int32) (tqu : Nat → Int32) (tsc : Nat → Int32) (tlo : Nat → Int32) (twt : Int32) (x1 : Int32) (x2 : Int32) : Option (Int32 × (Nat → Int32) × (Nat → Int32) × (Nat → Int32) × (Nat → Int32) × (Nat → Int32) × Int32) :=
  ob1 (fX4_isWithin x1 (1 : Int32) (999 : Int32)) fun r_1 =>
  (if r_1 = 0 then
  some ((-2), tnu, tva, tqu, tsc, tlo, twt)
  else
  ob1 (fX4_isWithin x2 (0 : Int32) (2 : Int32)) fun r_3 =>
  (if r_3 = 0 then
  some ((-2), tnu, tva, tqu, tsc, tlo, twt)
  else
  ob6 (fX2_copyFrom tnu tva tqu tsc tlo twt nu va qu sc lo wt) fun tnu_5 tva_6 tqu_7 tsc_8 tlo_9 twt_10 =>
  ob6 (fX2_passTicks tnu_5 tva_6 tqu_7 tsc_8 tlo_9 twt_10 x1 (1073741824 : Int32)) fun r_12 tnu_13 tqu_14 tsc_15 tlo_16 twt_17 =>
  (if x2 = 0 then
  ob1 (fX4_gainOf nu tnu_13 (4 : Int32)) fun r_23 =>
  some (r_23, tnu_13, tva_6, tqu_14, tsc_15, tlo_16, twt_17)
  else
  (if x2 = 1 then
  ob1 (fX4_gainOf nu tnu_13 (6 : Int32)) fun r_21 =>
  some (r_21, tnu_13, tva_6, tqu_14, tsc_15, tlo_16, twt_17)
  else
  ob1 (fX4_gainOf nu tnu_13 (12 : Int32)) fun r_19 =>
  some (r_19, tnu_13, tva_6, tqu_14, tsc_15, tlo_16, twt_17)))))

def rm_X4_would : Room := { frames := 6, cells := 0, slots := 0, locals := 134 }
set_option maxRecDepth 20000 in
theorem lk_X4_would_16 : Cond.fieldLink RX4 16 "LineDoubler" "trial" "LLineDoubler$State;" ∈ wsX4_would := List.mem_of_getElem? (i := 1) (by decide +kernel)
set_option maxRecDepth 20000 in
theorem lk_X4_would_10 : Cond.fieldLink RX4 10 "LineDoubler" "state" "LLineDoubler$State;" ∈ wsX4_would := List.mem_of_getElem? (i := 2) (by decide +kernel)
set_option maxRecDepth 20000 in
theorem kc_X4_would_114 : Cond.constant RX4 114 (1073741824) ∈ wsX4_would := List.mem_of_getElem? (i := 3) (by decide +kernel)
set_option maxRecDepth 20000 in
theorem in_X4_would_X4 : ∀ x ∈ wsX40, x ∈ wsX4_would := mem_r _ [103, 104, 105, 106, 107] (by decide +kernel)
set_option maxRecDepth 20000 in
theorem cw_X4_would_X4_isWithin_67 {s : State} {args : Array Value} (hts : ∀ w ∈ wsX4_would, w.before args s = true) : CallB rm_X4_would s args RX4 67 yX4_isWithin cX4_isWithin 3 (some .boolean) wsX4_isWithin rm_X4_isWithin 0 0 3 ∧ (Cond.static yX4_isWithin).before args s = true :=
  va_cwS 3 hts gX4_would_X4_isWithin rfl rfl rfl (by decide +kernel) ⟨Nat.le_of_ble_eq_true rfl, Nat.le_of_ble_eq_true rfl⟩
set_option maxRecDepth 20000 in
theorem cw_X4_would_X2_copyFrom_111 {s : State} {args : Array Value} (hts : ∀ w ∈ wsX4_would, w.before args s = true) : CallW rm_X4_would s args RX4 RX2 111 yX2_copyFrom cX2_copyFrom 2 none wsX2_copyFrom rm_X2_copyFrom 0 0 1 :=
  cwV 1 hts gX4_would_X2_copyFrom rfl rfl rfl (by decide +kernel) ⟨Nat.le_of_ble_eq_true rfl, Nat.le_of_ble_eq_true rfl⟩
set_option maxRecDepth 20000 in
theorem cw_X4_would_X2_passTicks_56 {s : State} {args : Array Value} (hts : ∀ w ∈ wsX4_would, w.before args s = true) : CallW rm_X4_would s args RX4 RX2 56 yX2_passTicks cX2_passTicks 6 (some .int) wsX2_passTicks rm_X2_passTicks 0 0 2 :=
  cwV 2 hts gX4_would_X2_passTicks rfl rfl rfl (by decide +kernel) ⟨Nat.le_of_ble_eq_true rfl, Nat.le_of_ble_eq_true rfl⟩
set_option maxRecDepth 20000 in
theorem cw_X4_would_X4_gainOf_115 {s : State} {args : Array Value} (hts : ∀ w ∈ wsX4_would, w.before args s = true) : CallW rm_X4_would s args RX4 RX4 115 yX4_gainOf cX4_gainOf 2 (some .int) wsX4_gainOf rm_X4_gainOf 0 0 1 :=
  cwV 1 hts gX4_would_X4_gainOf rfl rfl rfl (by decide +kernel) ⟨Nat.le_of_ble_eq_true rfl, Nat.le_of_ble_eq_true rfl⟩
set_option maxHeartbeats 4000000 in
set_option maxRecDepth 100000 in
theorem c_X4_would (l : Launch) (G : va_G) (cI cC cZ : ClassId) (X : List (ClassId × FieldType)) (d0 sl h0 p0 a0 a1 a2 a3 a4 a5 a6 a7 a8 b0 b1 b2 b3 b4 b5 b6 b7 b8 : Nat) (nu : Nat → Int32) (va : Nat → Int32) (qu : Nat → Int32) (sc : Nat → Int32) (lo : Nat → Int32) (wt : Int32) (tnu : Nat → Int32) (tva : Nat → Int32) (tqu : Nat → Int32) (tsc : Nat → Int32) (tlo : Nat → Int32) (twt : Int32) (x1 : Int32) (x2 : Int32) (rv : Int32) (tnu' : Nat → Int32) (tva' : Nat → Int32) (tqu' : Nat → Int32) (tsc' : Nat → Int32) (tlo' : Nat → Int32) (twt' : Int32) (hf : fX4_would nu va qu sc lo wt tnu tva tqu tsc tlo twt x1 x2 = some (rv, tnu', tva', tqu', tsc', tlo', twt')) : CT l yX4_would wsX4_would rm_X4_would G (TY cI cC cZ X) [.ref d0, .int x1, .int x2] (wLDt cI d0 sl h0 p0 a0 a1 a2 a3 a4 a5 a6 a7 a8 b0 b1 b2 b3 b4 b5 b6 b7 b8 nu va qu sc lo wt tnu tva tqu tsc tlo twt) (some (.int rv)) (wLDt cI d0 sl h0 p0 a0 a1 a2 a3 a4 a5 a6 a7 a8 b0 b1 b2 b3 b4 b5 b6 b7 b8 nu va qu sc lo wt tnu' tva' tqu' tsc' tlo' twt') := by
  refine CT.of (cc := cX4_would) (maxL := 3) (ret := (some .int)) RX4 rfl (by decide) rfl (Nat.le_of_ble_eq_true rfl) ?_
  intro p e s m args below meth c A ls C hr hlocks hnm h hl
  have hx := C.hx
  have hb := C.hb
  have hl : lv_has ls 3 [(0, .ref d0), (1, .int x1), (2, .int x2)] := hl
  unfold fX4_would at hf
  refine lv_iload_n hx hb dX4_would_0 rfl (lv_at hl 1 rfl) ?_
  refine lv_iconst (v := 1) hx hb dX4_would_1 (by decide) ?_
  refine lv_sipush (v := 999) hx hb dX4_would_2 (by decide) ?_
  obtain ⟨r_1, hq_2, hf⟩ := ob1_use hf
  refine r_callS0 C h (cw_X4_would_X4_isWithin_67 C.hts) (rest := []) (c_X4_isWithin l G cI cC cZ X x1 (1 : Int32) (999 : Int32) r_1 hq_2) [] rfl rfl rfl hl.1 rfl (Nat.le_of_ble_eq_true rfl) ⟨Nat.le_of_ble_eq_true rfl, Nat.le_of_ble_eq_true rfl⟩ rfl dX4_would_5 (fun H locs h => ?_)
  refine lv_if_eq (tgt := 20) hx hb dX4_would_8 (by decide) (fun hc => ?_) (fun hc => ?_)
  · replace hf := it_t hf hc
    refine lv_bipush (v := (-2)) hx hb dX4_would_20 (by decide) ?_
    cases hf
    exact r_iret C h hr hlocks dX4_would_22
  · replace hf := it_f hf hc
    refine lv_iload_n hx hb dX4_would_11 rfl (lv_at hl 2 rfl) ?_
    refine lv_iconst (v := 0) hx hb dX4_would_12 (by decide) ?_
    refine lv_iconst (v := 2) hx hb dX4_would_13 (by decide) ?_
    obtain ⟨r_3, hq_4, hf⟩ := ob1_use hf
    refine r_callS0 C h (cw_X4_would_X4_isWithin_67 C.hts) (rest := []) (c_X4_isWithin l G cI cC cZ X x2 (0 : Int32) (2 : Int32) r_3 hq_4) [] rfl rfl rfl hl.1 rfl (Nat.le_of_ble_eq_true rfl) ⟨Nat.le_of_ble_eq_true rfl, Nat.le_of_ble_eq_true rfl⟩ rfl dX4_would_14 (fun H locs h => ?_)
    refine lv_if_ne (tgt := 23) hx hb dX4_would_17 (by decide) (fun hc => ?_) (fun hc => ?_)
    · replace hf := it_f hf hc
      refine lv_aload_n hx hb dX4_would_23 rfl (lv_at hl 0 rfl) ?_
      refine r_get C h 0 1 (ci := 4) (N := 5) (Cn := RX4) (T := TX4) rfl rfl (by decide) in_X4_would_X4 lk_X4_would_16 rfl dX4_would_24 ?_
      refine lv_aload_n hx hb dX4_would_27 rfl (lv_at hl 0 rfl) ?_
      refine r_get C h 0 0 (ci := 4) (N := 5) (Cn := RX4) (T := TX4) rfl rfl (by decide) in_X4_would_X4 lk_X4_would_10 rfl dX4_would_28 ?_
      obtain ⟨tnu_5, tva_6, tqu_7, tsc_8, tlo_9, twt_10, hq_11, hf⟩ := ob6_use hf
      refine r_callV C h (cw_X4_would_X2_copyFrom_111 C.hts) (rest := []) (ci := 2) (N := 6) (Cn := RX2) (T := TX2) (c_X2_copyFrom l G cI cC cZ X b0 b1 b2 b3 b4 b5 b6 b7 b8 a0 a1 a2 a3 a4 a5 a6 a7 a8 tnu tva tqu tsc tlo twt nu va qu sc lo wt tnu_5 tva_6 tqu_7 tsc_8 tlo_9 twt_10 hq_11) [10, 11, 12, 13, 14, 15, 16, 17, 18, 1, 2, 3, 4, 5, 6, 7, 8, 9] rfl rfl rfl rfl 10 rfl rfl hl.1 rfl (Nat.le_of_ble_eq_true rfl) ⟨Nat.le_of_ble_eq_true rfl, Nat.le_of_ble_eq_true rfl⟩ (wLDt cI d0 sl h0 p0 a0 a1 a2 a3 a4 a5 a6 a7 a8 b0 b1 b2 b3 b4 b5 b6 b7 b8 nu va qu sc lo wt tnu_5 tva_6 tqu_7 tsc_8 tlo_9 twt_10) rfl rfl dX4_would_31 (fun H locs h => ?_)
      refine lv_aload_n hx hb dX4_would_34 rfl (lv_at hl 0 rfl) ?_
      refine r_get C h 0 1 (ci := 4) (N := 5) (Cn := RX4) (T := TX4) rfl rfl (by decide) in_X4_would_X4 lk_X4_would_16 rfl dX4_would_35 ?_
      refine lv_iload_n hx hb dX4_would_38 rfl (lv_at hl 1 rfl) ?_
      refine lv_ldc hx hb C.hown (C.hts _ kc_X4_would_114) dX4_would_39 ?_
      obtain ⟨r_12, tnu_13, tqu_14, tsc_15, tlo_16, twt_17, hq_18, hf⟩ := ob6_use hf
      refine r_callV C h (cw_X4_would_X2_passTicks_56 C.hts) (rest := []) (ci := 2) (N := 6) (Cn := RX2) (T := TX2) (c_X2_passTicks l G cI cC cZ X b0 b1 b2 b3 b4 b5 b6 b7 b8 tnu_5 tva_6 tqu_7 tsc_8 tlo_9 twt_10 x1 (1073741824 : Int32) r_12 tnu_13 tqu_14 tsc_15 tlo_16 twt_17 hq_18) [10, 11, 12, 13, 14, 15, 16, 17, 18] rfl rfl rfl rfl 10 rfl rfl hl.1 rfl (Nat.le_of_ble_eq_true rfl) ⟨Nat.le_of_ble_eq_true rfl, Nat.le_of_ble_eq_true rfl⟩ (wLDt cI d0 sl h0 p0 a0 a1 a2 a3 a4 a5 a6 a7 a8 b0 b1 b2 b3 b4 b5 b6 b7 b8 nu va qu sc lo wt tnu_13 tva_6 tqu_14 tsc_15 tlo_16 twt_17) rfl rfl dX4_would_41 (fun H locs h => ?_)
      refine lv_pop hx hb dX4_would_44 rfl ?_
      refine lv_iload_n hx hb dX4_would_45 rfl (lv_at hl 2 rfl) ?_
      refine lv_if_ne (tgt := 55) hx hb dX4_would_46 (by decide) (fun hc => ?_) (fun hc => ?_)
      · replace hf := it_f hf hc
        refine lv_iload_n hx hb dX4_would_55 rfl (lv_at hl 2 rfl) ?_
        refine lv_iconst (v := 1) hx hb dX4_would_56 (by decide) ?_
        refine lv_icmp_ne (tgt := 69) hx hb dX4_would_57 (by decide) (fun hc => ?_) (fun hc => ?_)
        · replace hf := it_f hf hc
          refine lv_aload_n hx hb dX4_would_69 rfl (lv_at hl 0 rfl) ?_
          refine lv_bipush (v := 12) hx hb dX4_would_70 (by decide) ?_
          obtain ⟨r_19, hq_20, hf⟩ := ob1_use hf
          refine r_callV0 C h (cw_X4_would_X4_gainOf_115 C.hts) (rest := []) (ci := 4) (N := 5) (Cn := RX4) (T := TX4) (c_X4_gainOf l G cI cC cZ X d0 sl h0 p0 a0 a1 a2 a3 a5 a7 b0 b1 b2 b3 b5 b7 nu wt tnu_13 twt_17 (12 : Int32) r_19 hq_20) [0, 1, 2, 10, 11] rfl rfl rfl 0 rfl rfl hl.1 rfl (Nat.le_of_ble_eq_true rfl) ⟨Nat.le_of_ble_eq_true rfl, Nat.le_of_ble_eq_true rfl⟩ rfl dX4_would_72 (fun H locs h => ?_)
          cases hf
          exact r_iret C h hr hlocks dX4_would_75
        · replace hf := it_t hf hc
          refine lv_aload_n hx hb dX4_would_60 rfl (lv_at hl 0 rfl) ?_
          refine lv_bipush (v := 6) hx hb dX4_would_61 (by decide) ?_
          obtain ⟨r_21, hq_22, hf⟩ := ob1_use hf
          refine r_callV0 C h (cw_X4_would_X4_gainOf_115 C.hts) (rest := []) (ci := 4) (N := 5) (Cn := RX4) (T := TX4) (c_X4_gainOf l G cI cC cZ X d0 sl h0 p0 a0 a1 a2 a3 a5 a7 b0 b1 b2 b3 b5 b7 nu wt tnu_13 twt_17 (6 : Int32) r_21 hq_22) [0, 1, 2, 10, 11] rfl rfl rfl 0 rfl rfl hl.1 rfl (Nat.le_of_ble_eq_true rfl) ⟨Nat.le_of_ble_eq_true rfl, Nat.le_of_ble_eq_true rfl⟩ rfl dX4_would_63 (fun H locs h => ?_)
          refine lv_goto (tgt := 75) hx hb dX4_would_66 (by decide) ?_
          cases hf
          exact r_iret C h hr hlocks dX4_would_75
      · replace hf := it_t hf hc
        refine lv_aload_n hx hb dX4_would_49 rfl (lv_at hl 0 rfl) ?_
        refine lv_iconst (v := 4) hx hb dX4_would_50 (by decide) ?_
        obtain ⟨r_23, hq_24, hf⟩ := ob1_use hf
        refine r_callV0 C h (cw_X4_would_X4_gainOf_115 C.hts) (rest := []) (ci := 4) (N := 5) (Cn := RX4) (T := TX4) (c_X4_gainOf l G cI cC cZ X d0 sl h0 p0 a0 a1 a2 a3 a5 a7 b0 b1 b2 b3 b5 b7 nu wt tnu_13 twt_17 (4 : Int32) r_23 hq_24) [0, 1, 2, 10, 11] rfl rfl rfl 0 rfl rfl hl.1 rfl (Nat.le_of_ble_eq_true rfl) ⟨Nat.le_of_ble_eq_true rfl, Nat.le_of_ble_eq_true rfl⟩ rfl dX4_would_51 (fun H locs h => ?_)
        cases hf
        exact r_iret C h hr hlocks dX4_would_54
    · replace hf := it_t hf hc
      refine lv_bipush (v := (-2)) hx hb dX4_would_20 (by decide) ?_
      cases hf
      exact r_iret C h hr hlocks dX4_would_22
