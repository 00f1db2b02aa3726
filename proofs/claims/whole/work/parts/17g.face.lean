def fX4_bestOut_32_b (rec : (Nat → Int32) → (Nat → Int32) → (Nat → Int32) → (Nat → Int32) → (Nat → Int32) → Int32 → (Nat → Int32) → (Nat → Int32) → (Nat → Int32) → (Nat → Int32) → (Nat → Int32) → Int32 → Int32 → Int32 → Int32 → Int32 → Int32 → Option (Int32 × (Nat → Int32) × (Nat → Int32) × (Nat → Int32) × (Nat → Int32) × (Nat → Int32) × Int32)) (nu : Nat → Int32) (va : Nat → Int32) (qu : Nat → Int32) (sc : Nat → Int32) (lo : Nat → Int32) (wt : Int32) (tnu : Nat → Int32) (tva : Nat → Int32) (tqu : Nat → Int32) (tsc : Nat → Int32) (tlo : Nat → Int32) (twt : Int32) (x1 : Int32) (x2 : Int32) (x3 : Int32) (x4 : Int32) (x5 : Int32) : Option (Int32 × (Nat → Int32) × (Nat → Int32) × (Nat → Int32) × (Nat → Int32) × (Nat → Int32) × Int32) :=
  (if 99 < x5 then
  (if x2 = 0 then
  some (x3, tnu, tva, tqu, tsc, tlo, twt)
  else
  some (x4, tnu, tva, tqu, tsc, tlo, twt))
  else
  ob6 (fX4_tryWith nu va qu sc lo wt tnu tva tqu tsc tlo twt (1 : Int32) x5 x1) fun tnu_1 tva_2 tqu_3 tsc_4 tlo_5 twt_6 =>
  ob1 (fX4_gainOf nu tnu_1 (4 : Int32)) fun r_8 =>
  ob1 (fX4_gainOf nu tnu_1 (6 : Int32)) fun r_10 =>
  nm ((r_8 + r_10)) fun x6_12 =>
  (if x4 ≤ x6_12 then
  nm (x5 + 1) fun x5_13 =>
  rec nu va qu sc lo wt tnu_1 tva_2 tqu_3 tsc_4 tlo_5 twt_6 x1 x2 x3 x4 x5_13
  else
  nm (x5 + 1) fun x5_14 =>
  rec nu va qu sc lo wt tnu_1 tva_2 tqu_3 tsc_4 tlo_5 twt_6 x1 x2 x5 x6_12 x5_14))
def fX4_bestOut_32 : Nat → (Nat → Int32) → (Nat → Int32) → (Nat → Int32) → (Nat → Int32) → (Nat → Int32) → Int32 → (Nat → Int32) → (Nat → Int32) → (Nat → Int32) → (Nat → Int32) → (Nat → Int32) → Int32 → Int32 → Int32 → Int32 → Int32 → Int32 → Option (Int32 × (Nat → Int32) × (Nat → Int32) × (Nat → Int32) × (Nat → Int32) × (Nat → Int32) × Int32)
  | 0 => fun _ _ _ _ _ _ _ _ _ _ _ _ _ _ _ _ _ => none
  | n + 1 => fX4_bestOut_32_b (fX4_bestOut_32 n)

/-- the mirror of X4_bestOut -/
def fX4_bestOut (nu : Nat → Int32) (va : Nat → Int32) (qu : Nat → Int32) (sc : Nat → Int32) (lo : Nat → Int32) (wt : Int32) (tnu : Nat → Int32) (tva : Nat → Int32) (tqu : Nat → Int32) (tsc : Nat → Int32) (tlo : Nat → Int32) (twt : Int32) (x1 : Int32) (x2 : Int32) : Option (Int32 × (Nat → Int32) × (Nat → Int32) × (Nat → Int32) × (Nat → Int32) × (Nat → Int32) × Int32) :=
  ob1 (fX4_isWithin x1 (1 : Int32) (999 : Int32)) fun r_1 =>
  (if r_1 = 0 then
  some ((-2), tnu, tva, tqu, tsc, tlo, twt)
  else
  ob1 (fX4_isWithin x2 (0 : Int32) (1 : Int32)) fun r_3 =>
  (if r_3 = 0 then
  some ((-2), tnu, tva, tqu, tsc, tlo, twt)
  else
  fX4_bestOut_32 KF nu va qu sc lo wt tnu tva tqu tsc tlo twt x1 x2 0 1073741824 1))

def rm_X4_bestOut : Room := { frames := 7, cells := 0, slots := 0, locals := 157 }
set_option maxRecDepth 20000 in
theorem kc_X4_bestOut_114 : Cond.constant RX4 114 (1073741824) ∈ wsX4_bestOut := List.mem_of_getElem? (i := 1) (by decide +kernel)
set_option maxRecDepth 20000 in
theorem cw_X4_bestOut_X4_isWithin_67 {s : State} {args : Array Value} (hts : ∀ w ∈ wsX4_bestOut, w.before args s = true) : CallB rm_X4_bestOut s args RX4 67 yX4_isWithin cX4_isWithin 3 (some .boolean) wsX4_isWithin rm_X4_isWithin 0 0 3 ∧ (Cond.static yX4_isWithin).before args s = true :=
  va_cwS 3 hts gX4_bestOut_X4_isWithin rfl rfl rfl (by decide +kernel) ⟨Nat.le_of_ble_eq_true rfl, Nat.le_of_ble_eq_true rfl⟩
set_option maxRecDepth 20000 in
theorem cw_X4_bestOut_X4_tryWith_121 {s : State} {args : Array Value} (hts : ∀ w ∈ wsX4_bestOut, w.before args s = true) : CallW rm_X4_bestOut s args RX4 RX4 121 yX4_tryWith cX4_tryWith 4 none wsX4_tryWith rm_X4_tryWith 0 0 3 :=
  cwV 3 hts gX4_bestOut_X4_tryWith rfl rfl rfl (by decide +kernel) ⟨Nat.le_of_ble_eq_true rfl, Nat.le_of_ble_eq_true rfl⟩
set_option maxRecDepth 20000 in
theorem cw_X4_bestOut_X4_gainOf_115 {s : State} {args : Array Value} (hts : ∀ w ∈ wsX4_bestOut, w.before args s = true) : CallW rm_X4_bestOut s args RX4 RX4 115 yX4_gainOf cX4_gainOf 2 (some .int) wsX4_gainOf rm_X4_gainOf 0 0 1 :=
  cwV 1 hts gX4_bestOut_X4_gainOf rfl rfl rfl (by decide +kernel) ⟨Nat.le_of_ble_eq_true rfl, Nat.le_of_ble_eq_true rfl⟩
set_option maxHeartbeats 4000000 in
set_option maxRecDepth 100000 in
theorem c_X4_bestOut (l : Launch) (G : va_G) (cI cC cZ : ClassId) (X : List (ClassId × FieldType)) (d0 sl h0 p0 a0 a1 a2 a3 a4 a5 a6 a7 a8 b0 b1 b2 b3 b4 b5 b6 b7 b8 : Nat) (nu : Nat → Int32) (va : Nat → Int32) (qu : Nat → Int32) (sc : Nat → Int32) (lo : Nat → Int32) (wt : Int32) (tnu : Nat → Int32) (tva : Nat → Int32) (tqu : Nat → Int32) (tsc : Nat → Int32) (tlo : Nat → Int32) (twt : Int32) (x1 : Int32) (x2 : Int32) (rv : Int32) (tnu' : Nat → Int32) (tva' : Nat → Int32) (tqu' : Nat → Int32) (tsc' : Nat → Int32) (tlo' : Nat → Int32) (twt' : Int32) (hf : fX4_bestOut nu va qu sc lo wt tnu tva tqu tsc tlo twt x1 x2 = some (rv, tnu', tva', tqu', tsc', tlo', twt')) : CT l yX4_bestOut wsX4_bestOut rm_X4_bestOut G (TY cI cC cZ X) [.ref d0, .int x1, .int x2] (wLDt cI d0 sl h0 p0 a0 a1 a2 a3 a4 a5 a6 a7 a8 b0 b1 b2 b3 b4 b5 b6 b7 b8 nu va qu sc lo wt tnu tva tqu tsc tlo twt) (some (.int rv)) (wLDt cI d0 sl h0 p0 a0 a1 a2 a3 a4 a5 a6 a7 a8 b0 b1 b2 b3 b4 b5 b6 b7 b8 nu va qu sc lo wt tnu' tva' tqu' tsc' tlo' twt') := by
  refine CT.of (cc := cX4_bestOut) (maxL := 7) (ret := (some .int)) RX4 rfl (by decide) rfl (Nat.le_of_ble_eq_true rfl) ?_
  intro p e s m args below meth c A ls C hr hlocks hnm h hl
  have hx := C.hx
  have hb := C.hb
  have hl : lv_has ls 7 [(0, .ref d0), (1, .int x1), (2, .int x2)] := hl
  have cut_32 : ∀ (n : Nat) (tnu : Nat → Int32) (tva : Nat → Int32) (tqu : Nat → Int32) (tsc : Nat → Int32) (tlo : Nat → Int32) (twt : Int32) (x1 : Int32) (x2 : Int32) (x3 : Int32) (x4 : Int32) (x5 : Int32) (H : Heap) (locs : List Loc) (ls : Array Slot), Hx s G A (wLDt cI d0 sl h0 p0 a0 a1 a2 a3 a4 a5 a6 a7 a8 b0 b1 b2 b3 b4 b5 b6 b7 b8 nu va qu sc lo wt tnu tva tqu tsc tlo twt) H locs → lv_has ls 7 [(0, .ref d0), (1, .int x1), (2, .int x2), (3, .int x3), (4, .int x4), (5, .int x5)] → fX4_bestOut_32 n nu va qu sc lo wt tnu tva tqu tsc tlo twt x1 x2 x3 x4 x5 = some (rv, tnu', tva', tqu', tsc', tlo', twt') → W p l e rm_X4_bestOut s m args below meth c H locs 0 0 (MQ below (Qx G (some (.int rv)) (wLDt cI d0 sl h0 p0 a0 a1 a2 a3 a4 a5 a6 a7 a8 b0 b1 b2 b3 b4 b5 b6 b7 b8 nu va qu sc lo wt tnu' tva' tqu' tsc' tlo' twt') A) args s 0 0 A) (F0 m 32 ls []) := by
    intro n
    induction n with
    | zero =>
      intro tnu tva tqu tsc tlo twt x1 x2 x3 x4 x5 H locs ls h hl hf
      exact (nn_some _ hf).elim
    | succ n ih =>
      intro tnu tva tqu tsc tlo twt x1 x2 x3 x4 x5 H locs ls h hl hf
      have hf : fX4_bestOut_32_b (fX4_bestOut_32 n) nu va qu sc lo wt tnu tva tqu tsc tlo twt x1 x2 x3 x4 x5 = some (rv, tnu', tva', tqu', tsc', tlo', twt') := hf
      unfold fX4_bestOut_32_b at hf
      refine lv_iload hx hb dX4_bestOut_32 (lv_at hl 5 rfl) ?_
      refine lv_bipush (v := 99) hx hb dX4_bestOut_34 (by decide) ?_
      refine lv_icmp_gt (tgt := 81) hx hb dX4_bestOut_36 (by decide) (fun hc => ?_) (fun hc => ?_)
      · replace hf := it_t hf hc
        refine lv_iload_n hx hb dX4_bestOut_81 rfl (lv_at hl 2 rfl) ?_
        refine lv_if_ne (tgt := 89) hx hb dX4_bestOut_82 (by decide) (fun hc => ?_) (fun hc => ?_)
        · replace hf := it_f hf hc
          refine lv_iload hx hb dX4_bestOut_89 (lv_at hl 4 rfl) ?_
          cases hf
          exact r_iret C h hr hlocks dX4_bestOut_91
        · replace hf := it_t hf hc
          refine lv_iload_n hx hb dX4_bestOut_85 rfl (lv_at hl 3 rfl) ?_
          refine lv_goto (tgt := 91) hx hb dX4_bestOut_86 (by decide) ?_
          cases hf
          exact r_iret C h hr hlocks dX4_bestOut_91
      · replace hf := it_f hf hc
        refine lv_aload_n hx hb dX4_bestOut_39 rfl (lv_at hl 0 rfl) ?_
        refine lv_iconst (v := 1) hx hb dX4_bestOut_40 (by decide) ?_
        refine lv_iload hx hb dX4_bestOut_41 (lv_at hl 5 rfl) ?_
        refine lv_iload_n hx hb dX4_bestOut_43 rfl (lv_at hl 1 rfl) ?_
        obtain ⟨tnu_1, tva_2, tqu_3, tsc_4, tlo_5, twt_6, hq_7, hf⟩ := ob6_use hf
        refine r_callV C h (cw_X4_bestOut_X4_tryWith_121 C.hts) (rest := []) (ci := 4) (N := 5) (Cn := RX4) (T := TX4) (c_X4_tryWith l G cI cC cZ X d0 sl h0 p0 a0 a1 a2 a3 a4 a5 a6 a7 a8 b0 b1 b2 b3 b4 b5 b6 b7 b8 nu va qu sc lo wt tnu tva tqu tsc tlo twt (1 : Int32) x5 x1 tnu_1 tva_2 tqu_3 tsc_4 tlo_5 twt_6 hq_7) [0, 1, 2, 3, 4, 5, 6, 7, 8, 9, 10, 11, 12, 13, 14, 15, 16, 17, 18] rfl rfl rfl rfl 0 rfl rfl hl.1 rfl (Nat.le_of_ble_eq_true rfl) ⟨Nat.le_of_ble_eq_true rfl, Nat.le_of_ble_eq_true rfl⟩ (wLDt cI d0 sl h0 p0 a0 a1 a2 a3 a4 a5 a6 a7 a8 b0 b1 b2 b3 b4 b5 b6 b7 b8 nu va qu sc lo wt tnu_1 tva_2 tqu_3 tsc_4 tlo_5 twt_6) rfl rfl dX4_bestOut_44 (fun H locs h => ?_)
        refine lv_aload_n hx hb dX4_bestOut_47 rfl (lv_at hl 0 rfl) ?_
        refine lv_iconst (v := 4) hx hb dX4_bestOut_48 (by decide) ?_
        obtain ⟨r_8, hq_9, hf⟩ := ob1_use hf
        refine r_callV0 C h (cw_X4_bestOut_X4_gainOf_115 C.hts) (rest := []) (ci := 4) (N := 5) (Cn := RX4) (T := TX4) (c_X4_gainOf l G cI cC cZ X d0 sl h0 p0 a0 a1 a2 a3 a5 a7 b0 b1 b2 b3 b5 b7 nu wt tnu_1 twt_6 (4 : Int32) r_8 hq_9) [0, 1, 2, 10, 11] rfl rfl rfl 0 rfl rfl hl.1 rfl (Nat.le_of_ble_eq_true rfl) ⟨Nat.le_of_ble_eq_true rfl, Nat.le_of_ble_eq_true rfl⟩ rfl dX4_bestOut_49 (fun H locs h => ?_)
        refine lv_aload_n hx hb dX4_bestOut_52 rfl (lv_at hl 0 rfl) ?_
        refine lv_bipush (v := 6) hx hb dX4_bestOut_53 (by decide) ?_
        obtain ⟨r_10, hq_11, hf⟩ := ob1_use hf
        refine r_callV0 C h (cw_X4_bestOut_X4_gainOf_115 C.hts) (rest := [.int r_8]) (ci := 4) (N := 5) (Cn := RX4) (T := TX4) (c_X4_gainOf l G cI cC cZ X d0 sl h0 p0 a0 a1 a2 a3 a5 a7 b0 b1 b2 b3 b5 b7 nu wt tnu_1 twt_6 (6 : Int32) r_10 hq_11) [0, 1, 2, 10, 11] rfl rfl rfl 0 rfl rfl hl.1 rfl (Nat.le_of_ble_eq_true rfl) ⟨Nat.le_of_ble_eq_true rfl, Nat.le_of_ble_eq_true rfl⟩ rfl dX4_bestOut_55 (fun H locs h => ?_)
        refine lv_iadd hx hb dX4_bestOut_58 ?_
        refine lv_topi (fun x6_12 ex6_12 => ?_)
        replace hf := nm_use hf ex6_12
        refine lv_istore (lv' := [(6, .int x6_12), (0, .ref d0), (1, .int x1), (2, .int x2), (3, .int x3), (4, .int x4), (5, .int x5)]) hx hb dX4_bestOut_59 hl (by decide) rfl (fun ls hl => ?_)
        refine lv_iload hx hb dX4_bestOut_61 (lv_at hl 0 rfl) ?_
        refine lv_iload hx hb dX4_bestOut_63 (lv_at hl 5 rfl) ?_
        refine lv_icmp_ge (tgt := 75) hx hb dX4_bestOut_65 (by decide) (fun hc => ?_) (fun hc => ?_)
        · replace hf := it_t hf hc
          obtain ⟨x5_13, ex5_13⟩ : ∃ y : Int32, y = x5 + 1 := ⟨_, rfl⟩
          replace hf := nm_use hf ex5_13
          refine lv_iinc (v := x5_13) (lv' := [(5, .int x5_13), (6, .int x6_12), (0, .ref d0), (1, .int x1), (2, .int x2), (3, .int x3), (4, .int x4)]) hx hb dX4_bestOut_75 hl (k := 6) rfl (by rw [ex5_13]; rfl) (by decide) rfl (fun ls hl => ?_)
          refine lv_goto (tgt := 32) hx hb dX4_bestOut_78 (by decide) ?_
          exact ih tnu_1 tva_2 tqu_3 tsc_4 tlo_5 twt_6 x1 x2 x3 x4 x5_13 _ _ _ h (lv_sub hl [2, 3, 4, 5, 6, 0] rfl) hf
        · replace hf := it_f hf hc
          refine lv_iload hx hb dX4_bestOut_68 (lv_at hl 6 rfl) ?_
          refine lv_istore_n (lv' := [(3, .int x5), (6, .int x6_12), (0, .ref d0), (1, .int x1), (2, .int x2), (4, .int x4), (5, .int x5)]) hx hb dX4_bestOut_70 rfl hl (by decide) rfl (fun ls hl => ?_)
          refine lv_iload hx hb dX4_bestOut_71 (lv_at hl 1 rfl) ?_
          refine lv_istore (lv' := [(4, .int x6_12), (3, .int x5), (6, .int x6_12), (0, .ref d0), (1, .int x1), (2, .int x2), (5, .int x5)]) hx hb dX4_bestOut_73 hl (by decide) rfl (fun ls hl => ?_)
          obtain ⟨x5_14, ex5_14⟩ : ∃ y : Int32, y = x5 + 1 := ⟨_, rfl⟩
          replace hf := nm_use hf ex5_14
          refine lv_iinc (v := x5_14) (lv' := [(5, .int x5_14), (4, .int x6_12), (3, .int x5), (6, .int x6_12), (0, .ref d0), (1, .int x1), (2, .int x2)]) hx hb dX4_bestOut_75 hl (k := 6) rfl (by rw [ex5_14]; rfl) (by decide) rfl (fun ls hl => ?_)
          refine lv_goto (tgt := 32) hx hb dX4_bestOut_78 (by decide) ?_
          exact ih tnu_1 tva_2 tqu_3 tsc_4 tlo_5 twt_6 x1 x2 x5 x6_12 x5_14 _ _ _ h (lv_sub hl [4, 5, 6, 2, 1, 0] rfl) hf
  unfold fX4_bestOut at hf
  refine lv_iload_n hx hb dX4_bestOut_0 rfl (lv_at hl 1 rfl) ?_
  refine lv_iconst (v := 1) hx hb dX4_bestOut_1 (by decide) ?_
  refine lv_sipush (v := 999) hx hb dX4_bestOut_2 (by decide) ?_
  obtain ⟨r_1, hq_2, hf⟩ := ob1_use hf
  refine r_callS0 C h (cw_X4_bestOut_X4_isWithin_67 C.hts) (rest := []) (c_X4_isWithin l G cI cC cZ X x1 (1 : Int32) (999 : Int32) r_1 hq_2) [] rfl rfl rfl hl.1 rfl (Nat.le_of_ble_eq_true rfl) ⟨Nat.le_of_ble_eq_true rfl, Nat.le_of_ble_eq_true rfl⟩ rfl dX4_bestOut_5 (fun H locs h => ?_)
  refine lv_if_eq (tgt := 20) hx hb dX4_bestOut_8 (by decide) (fun hc => ?_) (fun hc => ?_)
  · replace hf := it_t hf hc
    refine lv_bipush (v := (-2)) hx hb dX4_bestOut_20 (by decide) ?_
    cases hf
    exact r_iret C h hr hlocks dX4_bestOut_22
  · replace hf := it_f hf hc
    refine lv_iload_n hx hb dX4_bestOut_11 rfl (lv_at hl 2 rfl) ?_
    refine lv_iconst (v := 0) hx hb dX4_bestOut_12 (by decide) ?_
    refine lv_iconst (v := 1) hx hb dX4_bestOut_13 (by decide) ?_
    obtain ⟨r_3, hq_4, hf⟩ := ob1_use hf
    refine r_callS0 C h (cw_X4_bestOut_X4_isWithin_67 C.hts) (rest := []) (c_X4_isWithin l G cI cC cZ X x2 (0 : Int32) (1 : Int32) r_3 hq_4) [] rfl rfl rfl hl.1 rfl (Nat.le_of_ble_eq_true rfl) ⟨Nat.le_of_ble_eq_true rfl, Nat.le_of_ble_eq_true rfl⟩ rfl dX4_bestOut_14 (fun H locs h => ?_)
    refine lv_if_ne (tgt := 23) hx hb dX4_bestOut_17 (by decide) (fun hc => ?_) (fun hc => ?_)
    · replace hf := it_f hf hc
      refine lv_iconst (v := 0) hx hb dX4_bestOut_23 (by decide) ?_
      refine lv_istore_n (lv' := [(3, .int 0), (0, .ref d0), (1, .int x1), (2, .int x2)]) hx hb dX4_bestOut_24 rfl hl (by decide) rfl (fun ls hl => ?_)
      refine lv_ldc hx hb C.hown (C.hts _ kc_X4_bestOut_114) dX4_bestOut_25 ?_
      refine lv_istore (lv' := [(4, .int 1073741824), (3, .int 0), (0, .ref d0), (1, .int x1), (2, .int x2)]) hx hb dX4_bestOut_27 hl (by decide) rfl (fun ls hl => ?_)
      refine lv_iconst (v := 1) hx hb dX4_bestOut_29 (by decide) ?_
      refine lv_istore (lv' := [(5, .int 1), (4, .int 1073741824), (3, .int 0), (0, .ref d0), (1, .int x1), (2, .int x2)]) hx hb dX4_bestOut_30 hl (by decide) rfl (fun ls hl => ?_)
      exact cut_32 KF tnu tva tqu tsc tlo twt x1 x2 0 1073741824 1 _ _ _ h (lv_sub hl [3, 4, 5, 2, 1, 0] rfl) hf
    · replace hf := it_t hf hc
      refine lv_bipush (v := (-2)) hx hb dX4_bestOut_20 (by decide) ?_
      cases hf
      exact r_iret C h hr hlocks dX4_bestOut_22
