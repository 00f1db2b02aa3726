/-- the mirror of X4_put -/
def fX4_put (ch : Nat → Int32) (pl : Int32) (x1 : Int64) : Option (Int32 × (Nat → Int32) × Int32) :=
  ob1 (fX4_charactersIn x1) fun r_1 =>
  (if r_1 = 0 then
  some ((-2), ch, pl)
  else
  (if (pl + r_1) ≤ 80 then
  ob2 (fX1_append ch pl x1 r_1) fun ch_3 pl_4 =>
  some (pl_4, ch_3, pl_4)
  else
  some ((-4), ch, pl)))

/-- the mirror of X4_wipe -/
def fX4_wipe (pl : Int32) : Option (Int32 × Int32) :=
  some (pl, 0)

/-- the mirror of X4_fault -/
def fX4_fault (ch : Nat → Int32) (pl : Int32) (pa : Int32) (po : Int32) (pf : Int32) (ps : Int32) : Option (Int32 × Int32 × Int32 × Int32 × Int32) :=
  ob5 (fX1_findFault ch pl pa po pf ps) fun r_1 pa_2 po_3 pf_4 ps_5 =>
  some (r_1, pa_2, po_3, pf_4, ps_5)

/-- the mirror of X4_carryOutOrder -/
def fX4_carryOutOrder (nu : Nat → Int32) (va : Nat → Int32) (qu : Nat → Int32) (sc : Nat → Int32) (lo : Nat → Int32) (wt : Int32) (po : Int32) (pf : Int32) (ps : Int32) : Option (Int32 × (Nat → Int32) × (Nat → Int32) × (Nat → Int32) × (Nat → Int32) × (Nat → Int32) × Int32) :=
  (if po = 60 then
  ob2 (fX2_delayClock nu (0 : Int32) pf) fun r_1 nu_2 =>
  some (r_1, nu_2, va, qu, sc, lo, wt)
  else
  (if po = 62 then
  ob2 (fX2_delayClock nu (1 : Int32) pf) fun r_4 nu_5 =>
  some (r_4, nu_5, va, qu, sc, lo, wt)
  else
  (if po = 105 then
  ob2 (fX2_changeSetting nu (0 : Int32) pf) fun r_7 nu_8 =>
  some (r_7, nu_8, va, qu, sc, lo, wt)
  else
  (if po = 111 then
  ob2 (fX2_changeSetting nu (1 : Int32) pf) fun r_10 nu_11 =>
  some (r_10, nu_11, va, qu, sc, lo, wt)
  else
  (if po = 116 then
  ob6 (fX2_passTicks nu va qu sc lo wt pf (99999 : Int32)) fun r_13 nu_14 qu_15 sc_16 lo_17 wt_18 =>
  some (r_13, nu_14, va, qu_15, sc_16, lo_17, wt_18)
  else
  (if po = 118 then
  ob2 (fX2_changeValue va pf ps) fun r_20 va_21 =>
  some (r_20, nu, va_21, qu, sc, lo, wt)
  else
  some ((-3), nu, va, qu, sc, lo, wt)))))))

def rm_X4_put : Room := { frames := 2, cells := 0, slots := 0, locals := 46 }
set_option maxRecDepth 20000 in
theorem lk_X4_put_33 : Cond.fieldLink RX4 33 "LineDoubler" "pad" "LLineDoubler$Pad;" ∈ wsX4_put := List.mem_of_getElem? (i := 1) (by decide +kernel)
set_option maxRecDepth 20000 in
theorem in_X4_put_X4 : ∀ x ∈ wsX40, x ∈ wsX4_put := mem_r _ [18, 19, 20, 21, 22] (by decide +kernel)
set_option maxRecDepth 20000 in
theorem in_X4_put_X1 : ∀ x ∈ wsX10, x ∈ wsX4_put := mem_r _ [23, 24, 25, 26, 27, 28] (by decide +kernel)
set_option maxRecDepth 20000 in
theorem cw_X4_put_X4_charactersIn_125 {s : State} {args : Array Value} (hts : ∀ w ∈ wsX4_put, w.before args s = true) : CallB rm_X4_put s args RX4 125 yX4_charactersIn cX4_charactersIn 5 (some .int) wsX4_charactersIn rm_X4_charactersIn 0 0 1 ∧ (Cond.static yX4_charactersIn).before args s = true :=
  va_cwS 1 hts gX4_put_X4_charactersIn rfl rfl rfl (by decide +kernel) ⟨Nat.le_of_ble_eq_true rfl, Nat.le_of_ble_eq_true rfl⟩
set_option maxRecDepth 20000 in
theorem cw_X4_put_X1_append_129 {s : State} {args : Array Value} (hts : ∀ w ∈ wsX4_put, w.before args s = true) : CallW rm_X4_put s args RX4 RX1 129 yX1_append cX1_append 5 none wsX1_append rm_X1_append 0 0 2 :=
  cwV 2 hts gX4_put_X1_append rfl rfl rfl (by decide +kernel) ⟨Nat.le_of_ble_eq_true rfl, Nat.le_of_ble_eq_true rfl⟩
set_option maxHeartbeats 4000000 in
set_option maxRecDepth 100000 in
theorem c_X4_put (l : Launch) (G : va_G) (cI cC cZ : ClassId) (X : List (ClassId × FieldType)) (d0 a0 b0 sl h0 p0 p1 : Nat) (ch : Nat → Int32) (pl : Int32) (pa : Int32) (po : Int32) (pf : Int32) (ps : Int32) (x1 : Int64) (rv : Int32) (ch' : Nat → Int32) (pl' : Int32) (hf : fX4_put ch pl x1 = some (rv, ch', pl')) : CT l yX4_put wsX4_put rm_X4_put G (TY cI cC cZ X) [.ref d0, .long x1] (wLDp cC d0 a0 b0 sl h0 p0 p1 ch pl pa po pf ps) (some (.int rv)) (wLDp cC d0 a0 b0 sl h0 p0 p1 ch' pl' pa po pf ps) := by
  refine CT.of (cc := cX4_put) (maxL := 4) (ret := (some .int)) RX4 rfl (by decide) rfl (Nat.le_of_ble_eq_true rfl) ?_
  intro p e s m args below meth c A ls C hr hlocks hnm h hl
  have hx := C.hx
  have hb := C.hb
  have hl : lv_has ls 4 [(0, .ref d0), (1, .long x1)] := hl
  unfold fX4_put at hf
  refine lv_lload_n hx hb dX4_put_0 rfl (lv_at hl 1 rfl) ?_
  obtain ⟨r_1, hq_2, hf⟩ := ob1_use hf
  refine r_callS C h (cw_X4_put_X4_charactersIn_125 C.hts) (rest := []) (c_X4_charactersIn l G cI cC cZ X x1 r_1 hq_2) [] rfl rfl rfl rfl hl.1 rfl (Nat.le_of_ble_eq_true rfl) ⟨Nat.le_of_ble_eq_true rfl, Nat.le_of_ble_eq_true rfl⟩ (wLDp cC d0 a0 b0 sl h0 p0 p1 ch pl pa po pf ps) rfl rfl dX4_put_1 (fun H locs h => ?_)
  refine lv_istore_n (lv' := [(3, .int r_1), (0, .ref d0), (1, .long x1)]) hx hb dX4_put_4 rfl hl (by decide) rfl (fun ls hl => ?_)
  refine lv_iload_n hx hb dX4_put_5 rfl (lv_at hl 0 rfl) ?_
  refine lv_if_ne (tgt := 12) hx hb dX4_put_6 (by decide) (fun hc => ?_) (fun hc => ?_)
  · replace hf := it_f hf hc
    refine lv_aload_n hx hb dX4_put_12 rfl (lv_at hl 1 rfl) ?_
    refine r_get C h 0 4 (ci := 4) (N := 5) (Cn := RX4) (T := TX4) rfl rfl (by decide) in_X4_put_X4 lk_X4_put_33 rfl dX4_put_13 ?_
    refine r_getN C h 1 1 (ci := 1) (N := 6) (Cn := RX1) (T := TX1) rfl rfl (by decide) in_X4_put_X1 lkN_4_94 rfl dX4_put_16 ?_
    refine lv_iload_n hx hb dX4_put_19 rfl (lv_at hl 0 rfl) ?_
    refine lv_iadd hx hb dX4_put_20 ?_
    refine lv_bipush (v := 80) hx hb dX4_put_21 (by decide) ?_
    refine lv_icmp_le (tgt := 29) hx hb dX4_put_23 (by decide) (fun hc => ?_) (fun hc => ?_)
    · replace hf := it_t hf hc
      refine lv_aload_n hx hb dX4_put_29 rfl (lv_at hl 1 rfl) ?_
      refine r_get C h 0 4 (ci := 4) (N := 5) (Cn := RX4) (T := TX4) rfl rfl (by decide) in_X4_put_X4 lk_X4_put_33 rfl dX4_put_30 ?_
      refine lv_lload_n hx hb dX4_put_33 rfl (lv_at hl 2 rfl) ?_
      refine lv_iload_n hx hb dX4_put_34 rfl (lv_at hl 0 rfl) ?_
      obtain ⟨ch_3, pl_4, hq_5, hf⟩ := ob2_use hf
      refine r_callV C h (cw_X4_put_X1_append_129 C.hts) (rest := []) (ci := 1) (N := 6) (Cn := RX1) (T := TX1) (c_X1_append l G cI cC cZ X p0 p1 ch pl pa po pf ps x1 r_1 ch_3 pl_4 hq_5) [1, 2] rfl rfl rfl rfl 1 rfl rfl hl.1 rfl (Nat.le_of_ble_eq_true rfl) ⟨Nat.le_of_ble_eq_true rfl, Nat.le_of_ble_eq_true rfl⟩ (wLDp cC d0 a0 b0 sl h0 p0 p1 ch_3 pl_4 pa po pf ps) rfl rfl dX4_put_35 (fun H locs h => ?_)
      refine lv_aload_n hx hb dX4_put_38 rfl (lv_at hl 1 rfl) ?_
      refine r_get C h 0 4 (ci := 4) (N := 5) (Cn := RX4) (T := TX4) rfl rfl (by decide) in_X4_put_X4 lk_X4_put_33 rfl dX4_put_39 ?_
      refine r_getN C h 1 1 (ci := 1) (N := 6) (Cn := RX1) (T := TX1) rfl rfl (by decide) in_X4_put_X1 lkN_4_94 rfl dX4_put_42 ?_
      cases hf
      exact r_iret C h hr hlocks dX4_put_45
    · replace hf := it_f hf hc
      refine lv_bipush (v := (-4)) hx hb dX4_put_26 (by decide) ?_
      cases hf
      exact r_iret C h hr hlocks dX4_put_28
  · replace hf := it_t hf hc
    refine lv_bipush (v := (-2)) hx hb dX4_put_9 (by decide) ?_
    cases hf
    exact r_iret C h hr hlocks dX4_put_11
def rm_X4_wipe : Room := { frames := 0, cells := 0, slots := 0, locals := 0 }
set_option maxRecDepth 20000 in
theorem lk_X4_wipe_33 : Cond.fieldLink RX4 33 "LineDoubler" "pad" "LLineDoubler$Pad;" ∈ wsX4_wipe := List.mem_of_getElem? (i := 1) (by decide +kernel)
set_option maxRecDepth 20000 in
theorem in_X4_wipe_X4 : ∀ x ∈ wsX40, x ∈ wsX4_wipe := mem_r _ [2, 3, 4, 5, 6] (by decide +kernel)
set_option maxRecDepth 20000 in
theorem in_X4_wipe_X1 : ∀ x ∈ wsX10, x ∈ wsX4_wipe := mem_r _ [7, 8, 9, 10, 11, 12] (by decide +kernel)
set_option maxHeartbeats 4000000 in
set_option maxRecDepth 100000 in
theorem c_X4_wipe (l : Launch) (G : va_G) (cI cC cZ : ClassId) (X : List (ClassId × FieldType)) (d0 a0 b0 sl h0 p0 p1 : Nat) (ch : Nat → Int32) (pl : Int32) (pa : Int32) (po : Int32) (pf : Int32) (ps : Int32) (rv : Int32) (pl' : Int32) (hf : fX4_wipe pl = some (rv, pl')) : CT l yX4_wipe wsX4_wipe rm_X4_wipe G (TY cI cC cZ X) [.ref d0] (wLDp cC d0 a0 b0 sl h0 p0 p1 ch pl pa po pf ps) (some (.int rv)) (wLDp cC d0 a0 b0 sl h0 p0 p1 ch pl' pa po pf ps) := by
  refine CT.of (cc := cX4_wipe) (maxL := 2) (ret := (some .int)) RX4 rfl (by decide) rfl (Nat.le_of_ble_eq_true rfl) ?_
  intro p e s m args below meth c A ls C hr hlocks hnm h hl
  have hx := C.hx
  have hb := C.hb
  have hl : lv_has ls 2 [(0, .ref d0)] := hl
  unfold fX4_wipe at hf
  refine lv_aload_n hx hb dX4_wipe_0 rfl (lv_at hl 0 rfl) ?_
  refine r_get C h 0 4 (ci := 4) (N := 5) (Cn := RX4) (T := TX4) rfl rfl (by decide) in_X4_wipe_X4 lk_X4_wipe_33 rfl dX4_wipe_1 ?_
  refine r_getN C h 1 1 (ci := 1) (N := 6) (Cn := RX1) (T := TX1) rfl rfl (by decide) in_X4_wipe_X1 lkN_4_94 rfl dX4_wipe_4 ?_
  refine lv_istore_n (lv' := [(1, .int pl), (0, .ref d0)]) hx hb dX4_wipe_7 rfl hl (by decide) rfl (fun ls hl => ?_)
  refine lv_aload_n hx hb dX4_wipe_8 rfl (lv_at hl 1 rfl) ?_
  refine r_get C h 0 4 (ci := 4) (N := 5) (Cn := RX4) (T := TX4) rfl rfl (by decide) in_X4_wipe_X4 lk_X4_wipe_33 rfl dX4_wipe_9 ?_
  refine lv_iconst (v := 0) hx hb dX4_wipe_12 (by decide) ?_
  refine r_putN C h 1 1 (ci := 1) (N := 6) (Cn := RX1) (T := TX1) (ty0 := tyX1) rfl rfl (by decide) in_X4_wipe_X1 tyX1_ok nmX1 lkN_4_94 rfl rfl rfl (Nat.le_of_ble_eq_true rfl) (wLDp cC d0 a0 b0 sl h0 p0 p1 ch 0 pa po pf ps) rfl dX4_wipe_13 (fun H locs h => ?_)
  refine lv_iload_n hx hb dX4_wipe_16 rfl (lv_at hl 0 rfl) ?_
  cases hf
  exact r_iret C h hr hlocks dX4_wipe_17
def rm_X4_fault : Room := { frames := 4, cells := 0, slots := 0, locals := 83 }
set_option maxRecDepth 20000 in
theorem lk_X4_fault_33 : Cond.fieldLink RX4 33 "LineDoubler" "pad" "LLineDoubler$Pad;" ∈ wsX4_fault := List.mem_of_getElem? (i := 1) (by decide +kernel)
set_option maxRecDepth 20000 in
theorem in_X4_fault_X4 : ∀ x ∈ wsX40, x ∈ wsX4_fault := mem_r _ [35, 36, 37, 38, 39] (by decide +kernel)
set_option maxRecDepth 20000 in
theorem cw_X4_fault_X1_findFault_133 {s : State} {args : Array Value} (hts : ∀ w ∈ wsX4_fault, w.before args s = true) : CallW rm_X4_fault s args RX4 RX1 133 yX1_findFault cX1_findFault 2 (some .int) wsX1_findFault rm_X1_findFault 0 0 0 :=
  cwV 0 hts gX4_fault_X1_findFault rfl rfl rfl (by decide +kernel) ⟨Nat.le_of_ble_eq_true rfl, Nat.le_of_ble_eq_true rfl⟩
set_option maxHeartbeats 4000000 in
set_option maxRecDepth 100000 in
theorem c_X4_fault (l : Launch) (G : va_G) (cI cC cZ : ClassId) (X : List (ClassId × FieldType)) (d0 a0 b0 sl h0 p0 p1 : Nat) (ch : Nat → Int32) (pl : Int32) (pa : Int32) (po : Int32) (pf : Int32) (ps : Int32) (rv : Int32) (pa' : Int32) (po' : Int32) (pf' : Int32) (ps' : Int32) (hf : fX4_fault ch pl pa po pf ps = some (rv, pa', po', pf', ps')) : CT l yX4_fault wsX4_fault rm_X4_fault G (TY cI cC cZ X) [.ref d0] (wLDp cC d0 a0 b0 sl h0 p0 p1 ch pl pa po pf ps) (some (.int rv)) (wLDp cC d0 a0 b0 sl h0 p0 p1 ch pl pa' po' pf' ps') := by
  refine CT.of (cc := cX4_fault) (maxL := 1) (ret := (some .int)) RX4 rfl (by decide) rfl (Nat.le_of_ble_eq_true rfl) ?_
  intro p e s m args below meth c A ls C hr hlocks hnm h hl
  have hx := C.hx
  have hb := C.hb
  have hl : lv_has ls 1 [(0, .ref d0)] := hl
  unfold fX4_fault at hf
  refine lv_aload_n hx hb dX4_fault_0 rfl (lv_at hl 0 rfl) ?_
  refine r_get C h 0 4 (ci := 4) (N := 5) (Cn := RX4) (T := TX4) rfl rfl (by decide) in_X4_fault_X4 lk_X4_fault_33 rfl dX4_fault_1 ?_
  obtain ⟨r_1, pa_2, po_3, pf_4, ps_5, hq_6, hf⟩ := ob5_use hf
  refine r_callV C h (cw_X4_fault_X1_findFault_133 C.hts) (rest := []) (ci := 1) (N := 6) (Cn := RX1) (T := TX1) (c_X1_findFault l G cI cC cZ X p0 p1 ch pl pa po pf ps r_1 pa_2 po_3 pf_4 ps_5 hq_6) [1, 2] rfl rfl rfl rfl 1 rfl rfl hl.1 rfl (Nat.le_of_ble_eq_true rfl) ⟨Nat.le_of_ble_eq_true rfl, Nat.le_of_ble_eq_true rfl⟩ (wLDp cC d0 a0 b0 sl h0 p0 p1 ch pl pa_2 po_3 pf_4 ps_5) rfl rfl dX4_fault_4 (fun H locs h => ?_)
  cases hf
  exact r_iret C h hr hlocks dX4_fault_7
def rm_X4_carryOutOrder : Room := { frames := 6, cells := 0, slots := 0, locals := 134 }
set_option maxRecDepth 20000 in
theorem lk_X4_carryOutOrder_33 : Cond.fieldLink RX4 33 "LineDoubler" "pad" "LLineDoubler$Pad;" ∈ wsX4_carryOutOrder := List.mem_of_getElem? (i := 1) (by decide +kernel)
set_option maxRecDepth 20000 in
theorem lk_X4_carryOutOrder_10 : Cond.fieldLink RX4 10 "LineDoubler" "state" "LLineDoubler$State;" ∈ wsX4_carryOutOrder := List.mem_of_getElem? (i := 2) (by decide +kernel)
set_option maxRecDepth 20000 in
theorem kc_X4_carryOutOrder_55 : Cond.constant RX4 55 (99999) ∈ wsX4_carryOutOrder := List.mem_of_getElem? (i := 3) (by decide +kernel)
set_option maxRecDepth 20000 in
theorem in_X4_carryOutOrder_X4 : ∀ x ∈ wsX40, x ∈ wsX4_carryOutOrder := mem_r _ [100, 101, 102, 103, 104] (by decide +kernel)
set_option maxRecDepth 20000 in
theorem in_X4_carryOutOrder_X1 : ∀ x ∈ wsX10, x ∈ wsX4_carryOutOrder := mem_r _ [105, 106, 107, 108, 109, 110] (by decide +kernel)
set_option maxRecDepth 20000 in
theorem cw_X4_carryOutOrder_X2_delayClock_52 {s : State} {args : Array Value} (hts : ∀ w ∈ wsX4_carryOutOrder, w.before args s = true) : CallW rm_X4_carryOutOrder s args RX4 RX2 52 yX2_delayClock cX2_delayClock 4 (some .int) wsX2_delayClock rm_X2_delayClock 0 0 2 :=
  cwV 2 hts gX4_carryOutOrder_X2_delayClock rfl rfl rfl (by decide +kernel) ⟨Nat.le_of_ble_eq_true rfl, Nat.le_of_ble_eq_true rfl⟩
set_option maxRecDepth 20000 in
theorem cw_X4_carryOutOrder_X2_changeSetting_41 {s : State} {args : Array Value} (hts : ∀ w ∈ wsX4_carryOutOrder, w.before args s = true) : CallW rm_X4_carryOutOrder s args RX4 RX2 41 yX2_changeSetting cX2_changeSetting 4 (some .int) wsX2_changeSetting rm_X2_changeSetting 0 0 2 :=
  cwV 2 hts gX4_carryOutOrder_X2_changeSetting rfl rfl rfl (by decide +kernel) ⟨Nat.le_of_ble_eq_true rfl, Nat.le_of_ble_eq_true rfl⟩
set_option maxRecDepth 20000 in
theorem cw_X4_carryOutOrder_X2_passTicks_56 {s : State} {args : Array Value} (hts : ∀ w ∈ wsX4_carryOutOrder, w.before args s = true) : CallW rm_X4_carryOutOrder s args RX4 RX2 56 yX2_passTicks cX2_passTicks 6 (some .int) wsX2_passTicks rm_X2_passTicks 0 0 2 :=
  cwV 2 hts gX4_carryOutOrder_X2_passTicks rfl rfl rfl (by decide +kernel) ⟨Nat.le_of_ble_eq_true rfl, Nat.le_of_ble_eq_true rfl⟩
set_option maxRecDepth 20000 in
theorem cw_X4_carryOutOrder_X2_changeValue_49 {s : State} {args : Array Value} (hts : ∀ w ∈ wsX4_carryOutOrder, w.before args s = true) : CallW rm_X4_carryOutOrder s args RX4 RX2 49 yX2_changeValue cX2_changeValue 4 (some .int) wsX2_changeValue rm_X2_changeValue 0 0 2 :=
  cwV 2 hts gX4_carryOutOrder_X2_changeValue rfl rfl rfl (by decide +kernel) ⟨Nat.le_of_ble_eq_true rfl, Nat.le_of_ble_eq_true rfl⟩
theorem sw_df_X4_carryOutOrder_7 (x : Int32) (h0 : ¬ x = 60) (h1 : ¬ x = 62) (h2 : ¬ x = 105) (h3 : ¬ x = 111) (h4 : ¬ x = 116) (h5 : ¬ x = 118) : Op.lookupswitch.offset (#[(60, 128), (62, 144), (105, 57), (111, 73), (116, 111), (118, 89)] : Array (Int × Int)).toList (160) x.toInt = 160 := (lv_osw h0 rfl).trans ((lv_osw h1 rfl).trans ((lv_osw h2 rfl).trans ((lv_osw h3 rfl).trans ((lv_osw h4 rfl).trans ((lv_osw h5 rfl).trans (rfl))))))
set_option maxHeartbeats 4000000 in
set_option maxRecDepth 100000 in
theorem c_X4_carryOutOrder (l : Launch) (G : va_G) (cI cC cZ : ClassId) (X : List (ClassId × FieldType)) (d0 b0 sl h0 a0 a1 a2 a3 a4 a5 a6 a7 a8 p0 p1 : Nat) (nu : Nat → Int32) (va : Nat → Int32) (qu : Nat → Int32) (sc : Nat → Int32) (lo : Nat → Int32) (wt : Int32) (ch : Nat → Int32) (pl : Int32) (pa : Int32) (po : Int32) (pf : Int32) (ps : Int32) (rv : Int32) (nu' : Nat → Int32) (va' : Nat → Int32) (qu' : Nat → Int32) (sc' : Nat → Int32) (lo' : Nat → Int32) (wt' : Int32) (hf : fX4_carryOutOrder nu va qu sc lo wt po pf ps = some (rv, nu', va', qu', sc', lo', wt')) : CT l yX4_carryOutOrder wsX4_carryOutOrder rm_X4_carryOutOrder G (TY cI cC cZ X) [.ref d0] (wLDsp cI cC d0 b0 sl h0 a0 a1 a2 a3 a4 a5 a6 a7 a8 p0 p1 nu va qu sc lo wt ch pl pa po pf ps) (some (.int rv)) (wLDsp cI cC d0 b0 sl h0 a0 a1 a2 a3 a4 a5 a6 a7 a8 p0 p1 nu' va' qu' sc' lo' wt' ch pl pa po pf ps) := by
  refine CT.of (cc := cX4_carryOutOrder) (maxL := 1) (ret := (some .int)) RX4 rfl (by decide) rfl (Nat.le_of_ble_eq_true rfl) ?_
  intro p e s m args below meth c A ls C hr hlocks hnm h hl
  have hx := C.hx
  have hb := C.hb
  have hl : lv_has ls 1 [(0, .ref d0)] := hl
  unfold fX4_carryOutOrder at hf
  refine lv_aload_n hx hb dX4_carryOutOrder_0 rfl (lv_at hl 0 rfl) ?_
  refine r_get C h 0 4 (ci := 4) (N := 5) (Cn := RX4) (T := TX4) rfl rfl (by decide) in_X4_carryOutOrder_X4 lk_X4_carryOutOrder_33 rfl dX4_carryOutOrder_1 ?_
  refine r_getN C h 10 3 (ci := 1) (N := 6) (Cn := RX1) (T := TX1) rfl rfl (by decide) in_X4_carryOutOrder_X1 lkN_4_158 rfl dX4_carryOutOrder_4 ?_
  by_cases hk0 : po = 60
  · replace hf := it_t hf hk0
    refine lv_lookup (tgt := 135) hx hb dX4_carryOutOrder_7 (by decide) (by rw [hk0]; (first | done | rfl)) (by decide) ?_
    refine lv_aload_n hx hb dX4_carryOutOrder_135 rfl (lv_at hl 0 rfl) ?_
    refine r_get C h 0 0 (ci := 4) (N := 5) (Cn := RX4) (T := TX4) rfl rfl (by decide) in_X4_carryOutOrder_X4 lk_X4_carryOutOrder_10 rfl dX4_carryOutOrder_136 ?_
    refine lv_iconst (v := 0) hx hb dX4_carryOutOrder_139 (by decide) ?_
    refine lv_aload_n hx hb dX4_carryOutOrder_140 rfl (lv_at hl 0 rfl) ?_
    refine r_get C h 0 4 (ci := 4) (N := 5) (Cn := RX4) (T := TX4) rfl rfl (by decide) in_X4_carryOutOrder_X4 lk_X4_carryOutOrder_33 rfl dX4_carryOutOrder_141 ?_
    refine r_getN C h 10 4 (ci := 1) (N := 6) (Cn := RX1) (T := TX1) rfl rfl (by decide) in_X4_carryOutOrder_X1 lkN_4_162 rfl dX4_carryOutOrder_144 ?_
    obtain ⟨r_1, nu_2, hq_3, hf⟩ := ob2_use hf
    refine r_callV C h (cw_X4_carryOutOrder_X2_delayClock_52 C.hts) (rest := []) (ci := 2) (N := 6) (Cn := RX2) (T := TX2) (c_X2_delayClock l G cI cC cZ X a0 a1 a2 a3 a4 a5 a6 a7 a8 nu va qu sc lo wt (0 : Int32) pf r_1 nu_2 hq_3) [1, 2, 3, 4, 5, 6, 7, 8, 9] rfl rfl rfl rfl 1 rfl rfl hl.1 rfl (Nat.le_of_ble_eq_true rfl) ⟨Nat.le_of_ble_eq_true rfl, Nat.le_of_ble_eq_true rfl⟩ (wLDsp cI cC d0 b0 sl h0 a0 a1 a2 a3 a4 a5 a6 a7 a8 p0 p1 nu_2 va qu sc lo wt ch pl pa po pf ps) rfl rfl dX4_carryOutOrder_147 (fun H locs h => ?_)
    cases hf
    exact r_iret C h hr hlocks dX4_carryOutOrder_150
  · replace hf := it_f hf hk0
    by_cases hk1 : po = 62
    · replace hf := it_t hf hk1
      refine lv_lookup (tgt := 151) hx hb dX4_carryOutOrder_7 (by decide) (by rw [hk1]; (first | done | rfl)) (by decide) ?_
      refine lv_aload_n hx hb dX4_carryOutOrder_151 rfl (lv_at hl 0 rfl) ?_
      refine r_get C h 0 0 (ci := 4) (N := 5) (Cn := RX4) (T := TX4) rfl rfl (by decide) in_X4_carryOutOrder_X4 lk_X4_carryOutOrder_10 rfl dX4_carryOutOrder_152 ?_
      refine lv_iconst (v := 1) hx hb dX4_carryOutOrder_155 (by decide) ?_
      refine lv_aload_n hx hb dX4_carryOutOrder_156 rfl (lv_at hl 0 rfl) ?_
      refine r_get C h 0 4 (ci := 4) (N := 5) (Cn := RX4) (T := TX4) rfl rfl (by decide) in_X4_carryOutOrder_X4 lk_X4_carryOutOrder_33 rfl dX4_carryOutOrder_157 ?_
      refine r_getN C h 10 4 (ci := 1) (N := 6) (Cn := RX1) (T := TX1) rfl rfl (by decide) in_X4_carryOutOrder_X1 lkN_4_162 rfl dX4_carryOutOrder_160 ?_
      obtain ⟨r_4, nu_5, hq_6, hf⟩ := ob2_use hf
      refine r_callV C h (cw_X4_carryOutOrder_X2_delayClock_52 C.hts) (rest := []) (ci := 2) (N := 6) (Cn := RX2) (T := TX2) (c_X2_delayClock l G cI cC cZ X a0 a1 a2 a3 a4 a5 a6 a7 a8 nu va qu sc lo wt (1 : Int32) pf r_4 nu_5 hq_6) [1, 2, 3, 4, 5, 6, 7, 8, 9] rfl rfl rfl rfl 1 rfl rfl hl.1 rfl (Nat.le_of_ble_eq_true rfl) ⟨Nat.le_of_ble_eq_true rfl, Nat.le_of_ble_eq_true rfl⟩ (wLDsp cI cC d0 b0 sl h0 a0 a1 a2 a3 a4 a5 a6 a7 a8 p0 p1 nu_5 va qu sc lo wt ch pl pa po pf ps) rfl rfl dX4_carryOutOrder_163 (fun H locs h => ?_)
      cases hf
      exact r_iret C h hr hlocks dX4_carryOutOrder_166
    · replace hf := it_f hf hk1
      by_cases hk2 : po = 105
      · replace hf := it_t hf hk2
        refine lv_lookup (tgt := 64) hx hb dX4_carryOutOrder_7 (by decide) (by rw [hk2]; (first | done | rfl)) (by decide) ?_
        refine lv_aload_n hx hb dX4_carryOutOrder_64 rfl (lv_at hl 0 rfl) ?_
        refine r_get C h 0 0 (ci := 4) (N := 5) (Cn := RX4) (T := TX4) rfl rfl (by decide) in_X4_carryOutOrder_X4 lk_X4_carryOutOrder_10 rfl dX4_carryOutOrder_65 ?_
        refine lv_iconst (v := 0) hx hb dX4_carryOutOrder_68 (by decide) ?_
        refine lv_aload_n hx hb dX4_carryOutOrder_69 rfl (lv_at hl 0 rfl) ?_
        refine r_get C h 0 4 (ci := 4) (N := 5) (Cn := RX4) (T := TX4) rfl rfl (by decide) in_X4_carryOutOrder_X4 lk_X4_carryOutOrder_33 rfl dX4_carryOutOrder_70 ?_
        refine r_getN C h 10 4 (ci := 1) (N := 6) (Cn := RX1) (T := TX1) rfl rfl (by decide) in_X4_carryOutOrder_X1 lkN_4_162 rfl dX4_carryOutOrder_73 ?_
        obtain ⟨r_7, nu_8, hq_9, hf⟩ := ob2_use hf
        refine r_callV C h (cw_X4_carryOutOrder_X2_changeSetting_41 C.hts) (rest := []) (ci := 2) (N := 6) (Cn := RX2) (T := TX2) (c_X2_changeSetting l G cI cC cZ X a0 a1 a2 a3 a4 a5 a6 a7 a8 nu va qu sc lo wt (0 : Int32) pf r_7 nu_8 hq_9) [1, 2, 3, 4, 5, 6, 7, 8, 9] rfl rfl rfl rfl 1 rfl rfl hl.1 rfl (Nat.le_of_ble_eq_true rfl) ⟨Nat.le_of_ble_eq_true rfl, Nat.le_of_ble_eq_true rfl⟩ (wLDsp cI cC d0 b0 sl h0 a0 a1 a2 a3 a4 a5 a6 a7 a8 p0 p1 nu_8 va qu sc lo wt ch pl pa po pf ps) rfl rfl dX4_carryOutOrder_76 (fun H locs h => ?_)
        cases hf
        exact r_iret C h hr hlocks dX4_carryOutOrder_79
      · replace hf := it_f hf hk2
        by_cases hk3 : po = 111
        · replace hf := it_t hf hk3
          refine lv_lookup (tgt := 80) hx hb dX4_carryOutOrder_7 (by decide) (by rw [hk3]; (first | done | rfl)) (by decide) ?_
          refine lv_aload_n hx hb dX4_carryOutOrder_80 rfl (lv_at hl 0 rfl) ?_
          refine r_get C h 0 0 (ci := 4) (N := 5) (Cn := RX4) (T := TX4) rfl rfl (by decide) in_X4_carryOutOrder_X4 lk_X4_carryOutOrder_10 rfl dX4_carryOutOrder_81 ?_
          refine lv_iconst (v := 1) hx hb dX4_carryOutOrder_84 (by decide) ?_
          refine lv_aload_n hx hb dX4_carryOutOrder_85 rfl (lv_at hl 0 rfl) ?_
          refine r_get C h 0 4 (ci := 4) (N := 5) (Cn := RX4) (T := TX4) rfl rfl (by decide) in_X4_carryOutOrder_X4 lk_X4_carryOutOrder_33 rfl dX4_carryOutOrder_86 ?_
          refine r_getN C h 10 4 (ci := 1) (N := 6) (Cn := RX1) (T := TX1) rfl rfl (by decide) in_X4_carryOutOrder_X1 lkN_4_162 rfl dX4_carryOutOrder_89 ?_
          obtain ⟨r_10, nu_11, hq_12, hf⟩ := ob2_use hf
          refine r_callV C h (cw_X4_carryOutOrder_X2_changeSetting_41 C.hts) (rest := []) (ci := 2) (N := 6) (Cn := RX2) (T := TX2) (c_X2_changeSetting l G cI cC cZ X a0 a1 a2 a3 a4 a5 a6 a7 a8 nu va qu sc lo wt (1 : Int32) pf r_10 nu_11 hq_12) [1, 2, 3, 4, 5, 6, 7, 8, 9] rfl rfl rfl rfl 1 rfl rfl hl.1 rfl (Nat.le_of_ble_eq_true rfl) ⟨Nat.le_of_ble_eq_true rfl, Nat.le_of_ble_eq_true rfl⟩ (wLDsp cI cC d0 b0 sl h0 a0 a1 a2 a3 a4 a5 a6 a7 a8 p0 p1 nu_11 va qu sc lo wt ch pl pa po pf ps) rfl rfl dX4_carryOutOrder_92 (fun H locs h => ?_)
          cases hf
          exact r_iret C h hr hlocks dX4_carryOutOrder_95
        · replace hf := it_f hf hk3
          by_cases hk4 : po = 116
          · replace hf := it_t hf hk4
            refine lv_lookup (tgt := 118) hx hb dX4_carryOutOrder_7 (by decide) (by rw [hk4]; (first | done | rfl)) (by decide) ?_
            refine lv_aload_n hx hb dX4_carryOutOrder_118 rfl (lv_at hl 0 rfl) ?_
            refine r_get C h 0 0 (ci := 4) (N := 5) (Cn := RX4) (T := TX4) rfl rfl (by decide) in_X4_carryOutOrder_X4 lk_X4_carryOutOrder_10 rfl dX4_carryOutOrder_119 ?_
            refine lv_aload_n hx hb dX4_carryOutOrder_122 rfl (lv_at hl 0 rfl) ?_
            refine r_get C h 0 4 (ci := 4) (N := 5) (Cn := RX4) (T := TX4) rfl rfl (by decide) in_X4_carryOutOrder_X4 lk_X4_carryOutOrder_33 rfl dX4_carryOutOrder_123 ?_
            refine r_getN C h 10 4 (ci := 1) (N := 6) (Cn := RX1) (T := TX1) rfl rfl (by decide) in_X4_carryOutOrder_X1 lkN_4_162 rfl dX4_carryOutOrder_126 ?_
            refine lv_ldc hx hb C.hown (C.hts _ kc_X4_carryOutOrder_55) dX4_carryOutOrder_129 ?_
            obtain ⟨r_13, nu_14, qu_15, sc_16, lo_17, wt_18, hq_19, hf⟩ := ob6_use hf
            refine r_callV C h (cw_X4_carryOutOrder_X2_passTicks_56 C.hts) (rest := []) (ci := 2) (N := 6) (Cn := RX2) (T := TX2) (c_X2_passTicks l G cI cC cZ X a0 a1 a2 a3 a4 a5 a6 a7 a8 nu va qu sc lo wt pf (99999 : Int32) r_13 nu_14 qu_15 sc_16 lo_17 wt_18 hq_19) [1, 2, 3, 4, 5, 6, 7, 8, 9] rfl rfl rfl rfl 1 rfl rfl hl.1 rfl (Nat.le_of_ble_eq_true rfl) ⟨Nat.le_of_ble_eq_true rfl, Nat.le_of_ble_eq_true rfl⟩ (wLDsp cI cC d0 b0 sl h0 a0 a1 a2 a3 a4 a5 a6 a7 a8 p0 p1 nu_14 va qu_15 sc_16 lo_17 wt_18 ch pl pa po pf ps) rfl rfl dX4_carryOutOrder_131 (fun H locs h => ?_)
            cases hf
            exact r_iret C h hr hlocks dX4_carryOutOrder_134
          · replace hf := it_f hf hk4
            by_cases hk5 : po = 118
            · replace hf := it_t hf hk5
              refine lv_lookup (tgt := 96) hx hb dX4_carryOutOrder_7 (by decide) (by rw [hk5]; (first | done | rfl)) (by decide) ?_
              refine lv_aload_n hx hb dX4_carryOutOrder_96 rfl (lv_at hl 0 rfl) ?_
              refine r_get C h 0 0 (ci := 4) (N := 5) (Cn := RX4) (T := TX4) rfl rfl (by decide) in_X4_carryOutOrder_X4 lk_X4_carryOutOrder_10 rfl dX4_carryOutOrder_97 ?_
              refine lv_aload_n hx hb dX4_carryOutOrder_100 rfl (lv_at hl 0 rfl) ?_
              refine r_get C h 0 4 (ci := 4) (N := 5) (Cn := RX4) (T := TX4) rfl rfl (by decide) in_X4_carryOutOrder_X4 lk_X4_carryOutOrder_33 rfl dX4_carryOutOrder_101 ?_
              refine r_getN C h 10 4 (ci := 1) (N := 6) (Cn := RX1) (T := TX1) rfl rfl (by decide) in_X4_carryOutOrder_X1 lkN_4_162 rfl dX4_carryOutOrder_104 ?_
              refine lv_aload_n hx hb dX4_carryOutOrder_107 rfl (lv_at hl 0 rfl) ?_
              refine r_get C h 0 4 (ci := 4) (N := 5) (Cn := RX4) (T := TX4) rfl rfl (by decide) in_X4_carryOutOrder_X4 lk_X4_carryOutOrder_33 rfl dX4_carryOutOrder_108 ?_
              refine r_getN C h 10 5 (ci := 1) (N := 6) (Cn := RX1) (T := TX1) rfl rfl (by decide) in_X4_carryOutOrder_X1 lkN_4_165 rfl dX4_carryOutOrder_111 ?_
              obtain ⟨r_20, va_21, hq_22, hf⟩ := ob2_use hf
              refine r_callV C h (cw_X4_carryOutOrder_X2_changeValue_49 C.hts) (rest := []) (ci := 2) (N := 6) (Cn := RX2) (T := TX2) (c_X2_changeValue l G cI cC cZ X a0 a1 a2 a3 a4 a5 a6 a7 a8 nu va qu sc lo wt pf ps r_20 va_21 hq_22) [1, 2, 3, 4, 5, 6, 7, 8, 9] rfl rfl rfl rfl 1 rfl rfl hl.1 rfl (Nat.le_of_ble_eq_true rfl) ⟨Nat.le_of_ble_eq_true rfl, Nat.le_of_ble_eq_true rfl⟩ (wLDsp cI cC d0 b0 sl h0 a0 a1 a2 a3 a4 a5 a6 a7 a8 p0 p1 nu va_21 qu sc lo wt ch pl pa po pf ps) rfl rfl dX4_carryOutOrder_114 (fun H locs h => ?_)
              cases hf
              exact r_iret C h hr hlocks dX4_carryOutOrder_117
            · replace hf := it_f hf hk5
              refine lv_lookup (off := 160) (tgt := 167) hx hb dX4_carryOutOrder_7 (by decide) (sw_df_X4_carryOutOrder_7 po hk0 hk1 hk2 hk3 hk4 hk5) (by decide) ?_
              refine lv_bipush (v := (-3)) hx hb dX4_carryOutOrder_167 (by decide) ?_
              cases hf
              exact r_iret C h hr hlocks dX4_carryOutOrder_169
