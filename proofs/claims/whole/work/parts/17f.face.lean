def fX4_leastRoom_28_b (rec : (Nat → Int32) → (Nat → Int32) → (Nat → Int32) → (Nat → Int32) → (Nat → Int32) → Int32 → (Nat → Int32) → (Nat → Int32) → (Nat → Int32) → (Nat → Int32) → (Nat → Int32) → Int32 → Int32 → Int32 → Option (Int32 × (Nat → Int32) × (Nat → Int32) × (Nat → Int32) × (Nat → Int32) × (Nat → Int32) × Int32)) (nu : Nat → Int32) (va : Nat → Int32) (qu : Nat → Int32) (sc : Nat → Int32) (lo : Nat → Int32) (wt : Int32) (tnu : Nat → Int32) (tva : Nat → Int32) (tqu : Nat → Int32) (tsc : Nat → Int32) (tlo : Nat → Int32) (twt : Int32) (x1 : Int32) (x2 : Int32) : Option (Int32 × (Nat → Int32) × (Nat → Int32) × (Nat → Int32) × (Nat → Int32) × (Nat → Int32) × Int32) :=
  (if 16 < x2 then
  some ((-6), tnu, tva, tqu, tsc, tlo, twt)
  else
  ob6 (fX4_tryWith nu va qu sc lo wt tnu tva tqu tsc tlo twt (2 : Int32) x2 x1) fun tnu_1 tva_2 tqu_3 tsc_4 tlo_5 twt_6 =>
  ob1 (fX4_gainOf nu tnu_1 (4 : Int32)) fun r_8 =>
  (if r_8 = 0 then
  some (x2, tnu_1, tva_2, tqu_3, tsc_4, tlo_5, twt_6)
  else
  nm (x2 + 1) fun x2_10 =>
  rec nu va qu sc lo wt tnu_1 tva_2 tqu_3 tsc_4 tlo_5 twt_6 x1 x2_10))
def fX4_leastRoom_28 : Nat → (Nat → Int32) → (Nat → Int32) → (Nat → Int32) → (Nat → Int32) → (Nat → Int32) → Int32 → (Nat → Int32) → (Nat → Int32) → (Nat → Int32) → (Nat → Int32) → (Nat → Int32) → Int32 → Int32 → Int32 → Option (Int32 × (Nat → Int32) × (Nat → Int32) × (Nat → Int32) × (Nat → Int32) × (Nat → Int32) × Int32)
  | 0 => fun _ _ _ _ _ _ _ _ _ _ _ _ _ _ => none
  | n + 1 => fX4_leastRoom_28_b (fX4_leastRoom_28 n)

/-- the mirror of X4_leastRoom -/
def fX4_leastRoom (nu : Nat → Int32) (va : Nat → Int32) (qu : Nat → Int32) (sc : Nat → Int32) (lo : Nat → Int32) (wt : Int32) (tnu : Nat → Int32) (tva : Nat → Int32) (tqu : Nat → Int32) (tsc : Nat → Int32) (tlo : Nat → Int32) (twt : Int32) (x1 : Int32) : Option (Int32 × (Nat → Int32) × (Nat → Int32) × (Nat → Int32) × (Nat → Int32) × (Nat → Int32) × Int32) :=
  ob1 (fX4_isWithin x1 (1 : Int32) (999 : Int32)) fun r_1 =>
  (if r_1 = 0 then
  some ((-2), tnu, tva, tqu, tsc, tlo, twt)
  else
  nm ((if 1 < (nu 2) then (nu 2) else 1)) fun x2_3 =>
  fX4_leastRoom_28 KF nu va qu sc lo wt tnu tva tqu tsc tlo twt x1 x2_3)

def rm_X4_leastRoom : Room := { frames := 7, cells := 0, slots := 0, locals := 157 }
set_option maxRecDepth 20000 in
theorem lk_X4_leastRoom_10 : Cond.fieldLink RX4 10 "LineDoubler" "state" "LLineDoubler$State;" ∈ wsX4_leastRoom := List.mem_of_getElem? (i := 1) (by decide +kernel)
set_option maxRecDepth 20000 in
theorem lm_X4_leastRoom_118 : Cond.methodLink RX4 118 Lib.Math.max.name ∈ wsX4_leastRoom := List.mem_of_getElem? (i := 2) (by decide +kernel)
set_option maxRecDepth 20000 in
theorem ls_X4_leastRoom_max : Cond.static Lib.Math.max.name ∈ wsX4_leastRoom := List.mem_of_getElem? (i := 3) (by decide +kernel)
set_option maxRecDepth 20000 in
theorem li_X4_leastRoom_Math : Cond.initialized "java/lang/Math" ∈ wsX4_leastRoom := List.mem_of_getElem? (i := 4) (by decide +kernel)
set_option maxRecDepth 20000 in
theorem lc_X4_leastRoom_max : Cond.code Lib.Math.max.name Lib.Math.max.code 2 (some .int) ∈ wsX4_leastRoom := List.mem_of_getElem? (i := 5) (by decide +kernel)
set_option maxRecDepth 20000 in
theorem in_X4_leastRoom_X4 : ∀ x ∈ wsX40, x ∈ wsX4_leastRoom := mem_r _ [108, 109, 110, 111, 112] (by decide +kernel)
set_option maxRecDepth 20000 in
theorem in_X4_leastRoom_X2 : ∀ x ∈ wsX20, x ∈ wsX4_leastRoom := mem_r _ [113, 114, 115, 116, 117, 118] (by decide +kernel)
set_option maxRecDepth 20000 in
theorem cw_X4_leastRoom_X4_isWithin_67 {s : State} {args : Array Value} (hts : ∀ w ∈ wsX4_leastRoom, w.before args s = true) : CallB rm_X4_leastRoom s args RX4 67 yX4_isWithin cX4_isWithin 3 (some .boolean) wsX4_isWithin rm_X4_isWithin 0 0 3 ∧ (Cond.static yX4_isWithin).before args s = true :=
  va_cwS 3 hts gX4_leastRoom_X4_isWithin rfl rfl rfl (by decide +kernel) ⟨Nat.le_of_ble_eq_true rfl, Nat.le_of_ble_eq_true rfl⟩
set_option maxRecDepth 20000 in
theorem cw_X4_leastRoom_X4_tryWith_121 {s : State} {args : Array Value} (hts : ∀ w ∈ wsX4_leastRoom, w.before args s = true) : CallW rm_X4_leastRoom s args RX4 RX4 121 yX4_tryWith cX4_tryWith 4 none wsX4_tryWith rm_X4_tryWith 0 0 3 :=
  cwV 3 hts gX4_leastRoom_X4_tryWith rfl rfl rfl (by decide +kernel) ⟨Nat.le_of_ble_eq_true rfl, Nat.le_of_ble_eq_true rfl⟩
set_option maxRecDepth 20000 in
theorem cw_X4_leastRoom_X4_gainOf_115 {s : State} {args : Array Value} (hts : ∀ w ∈ wsX4_leastRoom, w.before args s = true) : CallW rm_X4_leastRoom s args RX4 RX4 115 yX4_gainOf cX4_gainOf 2 (some .int) wsX4_gainOf rm_X4_gainOf 0 0 1 :=
  cwV 1 hts gX4_leastRoom_X4_gainOf rfl rfl rfl (by decide +kernel) ⟨Nat.le_of_ble_eq_true rfl, Nat.le_of_ble_eq_true rfl⟩
set_option maxHeartbeats 4000000 in
set_option maxRecDepth 100000 in
theorem c_X4_leastRoom (l : Launch) (G : va_G) (cI cC cZ : ClassId) (X : List (ClassId × FieldType)) (d0 sl h0 p0 a0 a1 a2 a3 a4 a5 a6 a7 a8 b0 b1 b2 b3 b4 b5 b6 b7 b8 : Nat) (nu : Nat → Int32) (va : Nat → Int32) (qu : Nat → Int32) (sc : Nat → Int32) (lo : Nat → Int32) (wt : Int32) (tnu : Nat → Int32) (tva : Nat → Int32) (tqu : Nat → Int32) (tsc : Nat → Int32) (tlo : Nat → Int32) (twt : Int32) (x1 : Int32) (rv : Int32) (tnu' : Nat → Int32) (tva' : Nat → Int32) (tqu' : Nat → Int32) (tsc' : Nat → Int32) (tlo' : Nat → Int32) (twt' : Int32) (hf : fX4_leastRoom nu va qu sc lo wt tnu tva tqu tsc tlo twt x1 = some (rv, tnu', tva', tqu', tsc', tlo', twt')) : CT l yX4_leastRoom wsX4_leastRoom rm_X4_leastRoom G (TY cI cC cZ X) [.ref d0, .int x1] (wLDt cI d0 sl h0 p0 a0 a1 a2 a3 a4 a5 a6 a7 a8 b0 b1 b2 b3 b4 b5 b6 b7 b8 nu va qu sc lo wt tnu tva tqu tsc tlo twt) (some (.int rv)) (wLDt cI d0 sl h0 p0 a0 a1 a2 a3 a4 a5 a6 a7 a8 b0 b1 b2 b3 b4 b5 b6 b7 b8 nu va qu sc lo wt tnu' tva' tqu' tsc' tlo' twt') := by
  refine CT.of (cc := cX4_leastRoom) (maxL := 3) (ret := (some .int)) RX4 rfl (by decide) rfl (Nat.le_of_ble_eq_true rfl) ?_
  intro p e s m args below meth c A ls C hr hlocks hnm h hl
  have hx := C.hx
  have hb := C.hb
  have hl : lv_has ls 3 [(0, .ref d0), (1, .int x1)] := hl
  have cut_28 : ∀ (n : Nat) (tnu : Nat → Int32) (tva : Nat → Int32) (tqu : Nat → Int32) (tsc : Nat → Int32) (tlo : Nat → Int32) (twt : Int32) (x1 : Int32) (x2 : Int32) (H : Heap) (locs : List Loc) (ls : Array Slot), Hx s G A (wLDt cI d0 sl h0 p0 a0 a1 a2 a3 a4 a5 a6 a7 a8 b0 b1 b2 b3 b4 b5 b6 b7 b8 nu va qu sc lo wt tnu tva tqu tsc tlo twt) H locs → lv_has ls 3 [(0, .ref d0), (1, .int x1), (2, .int x2)] → fX4_leastRoom_28 n nu va qu sc lo wt tnu tva tqu tsc tlo twt x1 x2 = some (rv, tnu', tva', tqu', tsc', tlo', twt') → W p l e rm_X4_leastRoom s m args below meth c H locs 0 0 (MQ below (Qx G (some (.int rv)) (wLDt cI d0 sl h0 p0 a0 a1 a2 a3 a4 a5 a6 a7 a8 b0 b1 b2 b3 b4 b5 b6 b7 b8 nu va qu sc lo wt tnu' tva' tqu' tsc' tlo' twt') A) args s 0 0 A) (F0 m 28 ls []) := by
    intro n
    induction n with
    | zero =>
      intro tnu tva tqu tsc tlo twt x1 x2 H locs ls h hl hf
      exact (nn_some _ hf).elim
    | succ n ih =>
      intro tnu tva tqu tsc tlo twt x1 x2 H locs ls h hl hf
      have hf : fX4_leastRoom_28_b (fX4_leastRoom_28 n) nu va qu sc lo wt tnu tva tqu tsc tlo twt x1 x2 = some (rv, tnu', tva', tqu', tsc', tlo', twt') := hf
      unfold fX4_leastRoom_28_b at hf
      refine lv_iload_n hx hb dX4_leastRoom_28 rfl (lv_at hl 2 rfl) ?_
      refine lv_bipush (v := 16) hx hb dX4_leastRoom_29 (by decide) ?_
      refine lv_icmp_gt (tgt := 57) hx hb dX4_leastRoom_31 (by decide) (fun hc => ?_) (fun hc => ?_)
      · replace hf := it_t hf hc
        refine lv_bipush (v := (-6)) hx hb dX4_leastRoom_57 (by decide) ?_
        cases hf
        exact r_iret C h hr hlocks dX4_leastRoom_59
      · replace hf := it_f hf hc
        refine lv_aload_n hx hb dX4_leastRoom_34 rfl (lv_at hl 0 rfl) ?_
        refine lv_iconst (v := 2) hx hb dX4_leastRoom_35 (by decide) ?_
        refine lv_iload_n hx hb dX4_leastRoom_36 rfl (lv_at hl 2 rfl) ?_
        refine lv_iload_n hx hb dX4_leastRoom_37 rfl (lv_at hl 1 rfl) ?_
        obtain ⟨tnu_1, tva_2, tqu_3, tsc_4, tlo_5, twt_6, hq_7, hf⟩ := ob6_use hf
        refine r_callV C h (cw_X4_leastRoom_X4_tryWith_121 C.hts) (rest := []) (ci := 4) (N := 5) (Cn := RX4) (T := TX4) (c_X4_tryWith l G cI cC cZ X d0 sl h0 p0 a0 a1 a2 a3 a4 a5 a6 a7 a8 b0 b1 b2 b3 b4 b5 b6 b7 b8 nu va qu sc lo wt tnu tva tqu tsc tlo twt (2 : Int32) x2 x1 tnu_1 tva_2 tqu_3 tsc_4 tlo_5 twt_6 hq_7) [0, 1, 2, 3, 4, 5, 6, 7, 8, 9, 10, 11, 12, 13, 14, 15, 16, 17, 18] rfl rfl rfl rfl 0 rfl rfl hl.1 rfl (Nat.le_of_ble_eq_true rfl) ⟨Nat.le_of_ble_eq_true rfl, Nat.le_of_ble_eq_true rfl⟩ (wLDt cI d0 sl h0 p0 a0 a1 a2 a3 a4 a5 a6 a7 a8 b0 b1 b2 b3 b4 b5 b6 b7 b8 nu va qu sc lo wt tnu_1 tva_2 tqu_3 tsc_4 tlo_5 twt_6) rfl rfl dX4_leastRoom_38 (fun H locs h => ?_)
        refine lv_aload_n hx hb dX4_leastRoom_41 rfl (lv_at hl 0 rfl) ?_
        refine lv_iconst (v := 4) hx hb dX4_leastRoom_42 (by decide) ?_
        obtain ⟨r_8, hq_9, hf⟩ := ob1_use hf
        refine r_callV0 C h (cw_X4_leastRoom_X4_gainOf_115 C.hts) (rest := []) (ci := 4) (N := 5) (Cn := RX4) (T := TX4) (c_X4_gainOf l G cI cC cZ X d0 sl h0 p0 a0 a1 a2 a3 a5 a7 b0 b1 b2 b3 b5 b7 nu wt tnu_1 twt_6 (4 : Int32) r_8 hq_9) [0, 1, 2, 10, 11] rfl rfl rfl 0 rfl rfl hl.1 rfl (Nat.le_of_ble_eq_true rfl) ⟨Nat.le_of_ble_eq_true rfl, Nat.le_of_ble_eq_true rfl⟩ rfl dX4_leastRoom_43 (fun H locs h => ?_)
        refine lv_if_ne (tgt := 51) hx hb dX4_leastRoom_46 (by decide) (fun hc => ?_) (fun hc => ?_)
        · replace hf := it_f hf hc
          obtain ⟨x2_10, ex2_10⟩ : ∃ y : Int32, y = x2 + 1 := ⟨_, rfl⟩
          replace hf := nm_use hf ex2_10
          refine lv_iinc (v := x2_10) (lv' := [(2, .int x2_10), (0, .ref d0), (1, .int x1)]) hx hb dX4_leastRoom_51 hl (k := 2) rfl (by rw [ex2_10]; rfl) (by decide) rfl (fun ls hl => ?_)
          refine lv_goto (tgt := 28) hx hb dX4_leastRoom_54 (by decide) ?_
          exact ih tnu_1 tva_2 tqu_3 tsc_4 tlo_5 twt_6 x1 x2_10 _ _ _ h (lv_sub hl [1, 2, 0] rfl) hf
        · replace hf := it_t hf hc
          refine lv_iload_n hx hb dX4_leastRoom_49 rfl (lv_at hl 2 rfl) ?_
          cases hf
          exact r_iret C h hr hlocks dX4_leastRoom_50
  unfold fX4_leastRoom at hf
  refine lv_iload_n hx hb dX4_leastRoom_0 rfl (lv_at hl 1 rfl) ?_
  refine lv_iconst (v := 1) hx hb dX4_leastRoom_1 (by decide) ?_
  refine lv_sipush (v := 999) hx hb dX4_leastRoom_2 (by decide) ?_
  obtain ⟨r_1, hq_2, hf⟩ := ob1_use hf
  refine r_callS0 C h (cw_X4_leastRoom_X4_isWithin_67 C.hts) (rest := []) (c_X4_isWithin l G cI cC cZ X x1 (1 : Int32) (999 : Int32) r_1 hq_2) [] rfl rfl rfl hl.1 rfl (Nat.le_of_ble_eq_true rfl) ⟨Nat.le_of_ble_eq_true rfl, Nat.le_of_ble_eq_true rfl⟩ rfl dX4_leastRoom_5 (fun H locs h => ?_)
  refine lv_if_ne (tgt := 14) hx hb dX4_leastRoom_8 (by decide) (fun hc => ?_) (fun hc => ?_)
  · replace hf := it_f hf hc
    refine lv_iconst (v := 1) hx hb dX4_leastRoom_14 (by decide) ?_
    refine lv_aload_n hx hb dX4_leastRoom_15 rfl (lv_at hl 0 rfl) ?_
    refine r_get C h 0 0 (ci := 4) (N := 5) (Cn := RX4) (T := TX4) rfl rfl (by decide) in_X4_leastRoom_X4 lk_X4_leastRoom_10 rfl dX4_leastRoom_16 ?_
    refine r_getN C h 1 0 (ci := 2) (N := 6) (Cn := RX2) (T := TX2) rfl rfl (by decide) in_X4_leastRoom_X2 lkN_4_63 rfl dX4_leastRoom_19 ?_
    refine lv_iconst (v := 2) hx hb dX4_leastRoom_22 (by decide) ?_
    refine r_ald C h 2 rfl rfl k_2_24 dX4_leastRoom_23 ?_
    refine r_max C hl.1 lm_X4_leastRoom_118 ls_X4_leastRoom_max li_X4_leastRoom_Math lc_X4_leastRoom_max (Nat.le_of_ble_eq_true rfl) (Nat.le_of_ble_eq_true rfl) (Nat.le_of_ble_eq_true rfl) (Nat.le_of_ble_eq_true rfl) dX4_leastRoom_24 ?_
    refine lv_topi (fun x2_3 ex2_3 => ?_)
    replace hf := nm_use hf ex2_3
    refine lv_istore_n (lv' := [(2, .int x2_3), (0, .ref d0), (1, .int x1)]) hx hb dX4_leastRoom_27 rfl hl (by decide) rfl (fun ls hl => ?_)
    exact cut_28 KF tnu tva tqu tsc tlo twt x1 x2_3 _ _ _ h (lv_sub hl [1, 2, 0] rfl) hf
  · replace hf := it_t hf hc
    refine lv_bipush (v := (-2)) hx hb dX4_leastRoom_11 (by decide) ?_
    cases hf
    exact r_iret C h hr hlocks dX4_leastRoom_13
