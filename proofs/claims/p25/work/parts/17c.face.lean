/-- the mirror of X4_gainOf -/
def fX4_gainOf (nu : Nat → Int32) (tnu : Nat → Int32) (x1 : Int32) : Option (Int32) :=
  ob1 (fX4_isWithin x1 (0 : Int32) (23 : Int32)) fun r_1 =>
  (if r_1 = 0 then
  some (0)
  else
  chk x1 24 fun j_3 =>
  chk x1 24 fun j_4 =>
  some (((tnu j_3) - (nu j_4))))

def rm_X4_gainOf : Room := { frames := 1, cells := 0, slots := 0, locals := 22 }
set_option maxRecDepth 20000 in
theorem lk_X4_gainOf_16 : Cond.fieldLink RX4 16 "LineDoubler" "trial" "LLineDoubler$State;" ∈ wsX4_gainOf := List.mem_of_getElem? (i := 1) (by decide +kernel)
set_option maxRecDepth 20000 in
theorem lk_X4_gainOf_10 : Cond.fieldLink RX4 10 "LineDoubler" "state" "LLineDoubler$State;" ∈ wsX4_gainOf := List.mem_of_getElem? (i := 2) (by decide +kernel)
set_option maxRecDepth 20000 in
theorem in_X4_gainOf_X4 : ∀ x ∈ wsX40, x ∈ wsX4_gainOf := mem_r _ [7, 8, 9, 10, 11] (by decide +kernel)
set_option maxRecDepth 20000 in
theorem in_X4_gainOf_X2 : ∀ x ∈ wsX20, x ∈ wsX4_gainOf := mem_r _ [12, 13, 14, 15, 16, 17] (by decide +kernel)
set_option maxRecDepth 20000 in
theorem cw_X4_gainOf_X4_isWithin_67 {s : State} {args : Array Value} (hts : ∀ w ∈ wsX4_gainOf, w.before args s = true) : CallB rm_X4_gainOf s args RX4 67 yX4_isWithin cX4_isWithin 3 (some .boolean) wsX4_isWithin rm_X4_isWithin 0 0 3 ∧ (Cond.static yX4_isWithin).before args s = true :=
  va_cwS 3 hts gX4_gainOf_X4_isWithin rfl rfl rfl (by decide +kernel) ⟨Nat.le_of_ble_eq_true rfl, Nat.le_of_ble_eq_true rfl⟩
set_option maxHeartbeats 4000000 in
set_option maxRecDepth 100000 in
theorem c_X4_gainOf (l : Launch) (G : va_G) (cI cC cZ : ClassId) (X : List (ClassId × FieldType)) (d0 sl h0 p0 a0 a1 a2 a3 a5 a7 b0 b1 b2 b3 b5 b7 : Nat) (nu : Nat → Int32) (wt : Int32) (tnu : Nat → Int32) (twt : Int32) (x1 : Int32) (rv : Int32) (hf : fX4_gainOf nu tnu x1 = some (rv)) : CT l yX4_gainOf wsX4_gainOf rm_X4_gainOf G (TY cI cC cZ X) [.ref d0, .int x1] (wLDg cI d0 sl h0 p0 a0 a1 a2 a3 a5 a7 b0 b1 b2 b3 b5 b7 nu wt tnu twt) (some (.int rv)) (wLDg cI d0 sl h0 p0 a0 a1 a2 a3 a5 a7 b0 b1 b2 b3 b5 b7 nu wt tnu twt) := by
  refine CT.of (cc := cX4_gainOf) (maxL := 2) (ret := (some .int)) RX4 rfl (by decide) rfl (Nat.le_of_ble_eq_true rfl) ?_
  intro p e s m args below meth c A ls C hr hlocks hnm h hl
  have hx := C.hx
  have hb := C.hb
  have hl : lv_has ls 2 [(0, .ref d0), (1, .int x1)] := hl
  unfold fX4_gainOf at hf
  refine lv_iload_n hx hb dX4_gainOf_0 rfl (lv_at hl 1 rfl) ?_
  refine lv_iconst (v := 0) hx hb dX4_gainOf_1 (by decide) ?_
  refine lv_bipush (v := 23) hx hb dX4_gainOf_2 (by decide) ?_
  obtain ⟨r_1, hq_2, hf⟩ := ob1_use hf
  refine r_callS C h (cw_X4_gainOf_X4_isWithin_67 C.hts) (rest := []) (c_X4_isWithin l G cI cC cZ X x1 (0 : Int32) (23 : Int32) r_1 hq_2) [] rfl rfl rfl rfl hl.1 rfl (Nat.le_of_ble_eq_true rfl) ⟨Nat.le_of_ble_eq_true rfl, Nat.le_of_ble_eq_true rfl⟩ (wLDg cI d0 sl h0 p0 a0 a1 a2 a3 a5 a7 b0 b1 b2 b3 b5 b7 nu wt tnu twt) rfl rfl dX4_gainOf_4 (fun H locs h => ?_)
  refine lv_if_eq (tgt := 32) hx hb dX4_gainOf_7 (by decide) (fun hc => ?_) (fun hc => ?_)
  · replace hf := it_t hf hc
    refine lv_iconst (v := 0) hx hb dX4_gainOf_32 (by decide) ?_
    cases hf
    exact r_iret C h hr hlocks dX4_gainOf_33
  · replace hf := it_f hf hc
    refine lv_aload_n hx hb dX4_gainOf_10 rfl (lv_at hl 0 rfl) ?_
    refine r_get C h 0 1 (ci := 4) (N := 5) (Cn := RX4) (T := TX4) rfl rfl (by decide) in_X4_gainOf_X4 lk_X4_gainOf_16 rfl dX4_gainOf_11 ?_
    refine r_getN C h 3 0 (ci := 2) (N := 6) (Cn := RX2) (T := TX2) rfl rfl (by decide) in_X4_gainOf_X2 lkN_4_63 rfl dX4_gainOf_14 ?_
    refine lv_iload_n hx hb dX4_gainOf_17 rfl (lv_at hl 1 rfl) ?_
    obtain ⟨j_3, hj_3, hf⟩ := chk_use hf
    refine r_ald C h 4 rfl rfl hj_3 dX4_gainOf_18 ?_
    refine lv_aload_n hx hb dX4_gainOf_19 rfl (lv_at hl 0 rfl) ?_
    refine r_get C h 0 0 (ci := 4) (N := 5) (Cn := RX4) (T := TX4) rfl rfl (by decide) in_X4_gainOf_X4 lk_X4_gainOf_10 rfl dX4_gainOf_20 ?_
    refine r_getN C h 1 0 (ci := 2) (N := 6) (Cn := RX2) (T := TX2) rfl rfl (by decide) in_X4_gainOf_X2 lkN_4_63 rfl dX4_gainOf_23 ?_
    refine lv_iload_n hx hb dX4_gainOf_26 rfl (lv_at hl 1 rfl) ?_
    obtain ⟨j_4, hj_4, hf⟩ := chk_use hf
    refine r_ald C h 2 rfl rfl hj_4 dX4_gainOf_27 ?_
    refine lv_isub hx hb dX4_gainOf_28 ?_
    refine lv_goto (tgt := 33) hx hb dX4_gainOf_29 (by decide) ?_
    cases hf
    exact r_iret C h hr hlocks dX4_gainOf_33
